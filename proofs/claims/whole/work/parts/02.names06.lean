theorem dX7_becomes_0 : decode cX7_becomes 0 = .ok (.aload_n 0, 1) := by decide +kernel
theorem dX7_becomes_1 : decode cX7_becomes 1 = .ok (.iload_n 1, 1) := by decide +kernel
theorem dX7_becomes_2 : decode cX7_becomes 2 = .ok (.invokevirtual 153, 3) := by decide +kernel
theorem dX7_becomes_5 : decode cX7_becomes 5 = .ok (.ifCond .eq 15, 3) := by decide +kernel
theorem dX7_becomes_8 : decode cX7_becomes 8 = .ok (.iload_n 2, 1) := by decide +kernel
theorem dX7_becomes_9 : decode cX7_becomes 9 = .ok (.i2l, 1) := by decide +kernel
theorem dX7_becomes_10 : decode cX7_becomes 10 = .ok (.lconst 0, 1) := by decide +kernel
theorem dX7_becomes_11 : decode cX7_becomes 11 = .ok (.ldc2_w 159, 3) := by decide +kernel
theorem dX7_becomes_14 : decode cX7_becomes 14 = .ok (.invokestatic 62, 3) := by decide +kernel
theorem dX7_becomes_17 : decode cX7_becomes 17 = .ok (.ifCond .ne 5, 3) := by decide +kernel
theorem dX7_becomes_20 : decode cX7_becomes 20 = .ok (.iconst (-1), 1) := by decide +kernel
theorem dX7_becomes_21 : decode cX7_becomes 21 = .ok (.ireturn, 1) := by decide +kernel
theorem dX7_becomes_22 : decode cX7_becomes 22 = .ok (.iload_n 3, 1) := by decide +kernel
theorem dX7_becomes_23 : decode cX7_becomes 23 = .ok (.i2l, 1) := by decide +kernel
theorem dX7_becomes_24 : decode cX7_becomes 24 = .ok (.lconst 0, 1) := by decide +kernel
theorem dX7_becomes_25 : decode cX7_becomes 25 = .ok (.ldc2_w 161, 3) := by decide +kernel
theorem dX7_becomes_28 : decode cX7_becomes 28 = .ok (.invokestatic 62, 3) := by decide +kernel
theorem dX7_becomes_31 : decode cX7_becomes 31 = .ok (.ifCond .ne 6, 3) := by decide +kernel
theorem dX7_becomes_34 : decode cX7_becomes 34 = .ok (.bipush (-2), 2) := by decide +kernel
theorem dX7_becomes_36 : decode cX7_becomes 36 = .ok (.ireturn, 1) := by decide +kernel
theorem dX7_becomes_37 : decode cX7_becomes 37 = .ok (.bipush 10, 2) := by decide +kernel
theorem dX7_becomes_39 : decode cX7_becomes 39 = .ok (.aload_n 0, 1) := by decide +kernel
theorem dX7_becomes_40 : decode cX7_becomes 40 = .ok (.iload_n 1, 1) := by decide +kernel
theorem dX7_becomes_41 : decode cX7_becomes 41 = .ok (.invokevirtual 74, 3) := by decide +kernel
theorem dX7_becomes_44 : decode cX7_becomes 44 = .ok (.imul, 1) := by decide +kernel
theorem dX7_becomes_45 : decode cX7_becomes 45 = .ok (.aload_n 0, 1) := by decide +kernel
theorem dX7_becomes_46 : decode cX7_becomes 46 = .ok (.iload_n 1, 1) := by decide +kernel
theorem dX7_becomes_47 : decode cX7_becomes 47 = .ok (.invokevirtual 78, 3) := by decide +kernel
theorem dX7_becomes_50 : decode cX7_becomes 50 = .ok (.iadd, 1) := by decide +kernel
theorem dX7_becomes_51 : decode cX7_becomes 51 = .ok (.istore 4, 2) := by decide +kernel
theorem dX7_becomes_53 : decode cX7_becomes 53 = .ok (.aload_n 0, 1) := by decide +kernel
theorem dX7_becomes_54 : decode cX7_becomes 54 = .ok (.getfield 9, 3) := by decide +kernel
theorem dX7_becomes_57 : decode cX7_becomes 57 = .ok (.iconst 2, 1) := by decide +kernel
theorem dX7_becomes_58 : decode cX7_becomes 58 = .ok (.bipush 7, 2) := by decide +kernel
theorem dX7_becomes_60 : decode cX7_becomes 60 = .ok (.iload_n 1, 1) := by decide +kernel
theorem dX7_becomes_61 : decode cX7_becomes 61 = .ok (.imul, 1) := by decide +kernel
theorem dX7_becomes_62 : decode cX7_becomes 62 = .ok (.iadd, 1) := by decide +kernel
theorem dX7_becomes_63 : decode cX7_becomes 63 = .ok (.iload_n 2, 1) := by decide +kernel
theorem dX7_becomes_64 : decode cX7_becomes 64 = .ok (.iastore, 1) := by decide +kernel
theorem dX7_becomes_65 : decode cX7_becomes 65 = .ok (.aload_n 0, 1) := by decide +kernel
theorem dX7_becomes_66 : decode cX7_becomes 66 = .ok (.getfield 9, 3) := by decide +kernel
theorem dX7_becomes_69 : decode cX7_becomes 69 = .ok (.iconst 2, 1) := by decide +kernel
theorem dX7_becomes_70 : decode cX7_becomes 70 = .ok (.bipush 7, 2) := by decide +kernel
theorem dX7_becomes_72 : decode cX7_becomes 72 = .ok (.iload_n 1, 1) := by decide +kernel
theorem dX7_becomes_73 : decode cX7_becomes 73 = .ok (.imul, 1) := by decide +kernel
theorem dX7_becomes_74 : decode cX7_becomes 74 = .ok (.iadd, 1) := by decide +kernel
theorem dX7_becomes_75 : decode cX7_becomes 75 = .ok (.iconst 1, 1) := by decide +kernel
theorem dX7_becomes_76 : decode cX7_becomes 76 = .ok (.iadd, 1) := by decide +kernel
theorem dX7_becomes_77 : decode cX7_becomes 77 = .ok (.iload_n 3, 1) := by decide +kernel
theorem dX7_becomes_78 : decode cX7_becomes 78 = .ok (.iastore, 1) := by decide +kernel
theorem dX7_becomes_79 : decode cX7_becomes 79 = .ok (.iload 4, 2) := by decide +kernel
theorem dX7_becomes_81 : decode cX7_becomes 81 = .ok (.ireturn, 1) := by decide +kernel
set_option maxRecDepth 20000 in
theorem ggX7_sheet_X7_isSheet : GoodIn wsX7_sheet wsX7_isSheet := goodIn_r _ [10, 1, 11, 12, 9, 13, 34, 35, 36, 37, 38, 39, 40, 41, 42, 43, 44, 45, 46, 47, 48, 49, 50, 51, 52, 53, 54, 55, 56, 57, 58, 59] (by decide +kernel) (by decide +kernel)
set_option maxRecDepth 20000 in
theorem gX7_sheet_X7_isSheet : GoodIn wsX7_sheet (wsV RX7 153 RX7 yX7_isSheet wsX7_isSheet) := goodIn_app (goodIn_of _ (by decide +kernel)) ggX7_sheet_X7_isSheet
set_option maxRecDepth 20000 in
theorem ggX7_sheet_X7_isIn : GoodIn wsX7_sheet wsX7_isIn := goodIn_r _ [13] (by decide +kernel) (by decide +kernel)
set_option maxRecDepth 20000 in
theorem gX7_sheet_X7_isIn : GoodIn wsX7_sheet (va_wsS RX7 62 yX7_isIn wsX7_isIn) := goodIn_app (goodIn_of _ (by decide +kernel)) ggX7_sheet_X7_isIn
set_option maxRecDepth 20000 in
theorem ggX7_sheet_X7_numberOf : GoodIn wsX7_sheet wsX7_numberOf := goodIn_r _ [17, 1, 34, 35, 36, 37, 38, 39, 40, 41, 42, 43, 44, 45, 46, 47, 48, 49, 50, 51, 52, 53, 54, 55, 56, 57, 58, 59] (by decide +kernel) (by decide +kernel)
set_option maxRecDepth 20000 in
theorem gX7_sheet_X7_numberOf : GoodIn wsX7_sheet (wsV RX7 70 RX7 yX7_numberOf wsX7_numberOf) := goodIn_app (goodIn_of _ (by decide +kernel)) ggX7_sheet_X7_numberOf
set_option maxRecDepth 20000 in
theorem ggX7_sheet_X7_lets : GoodIn wsX7_sheet wsX7_lets := goodIn_r _ [21, 14, 15, 16, 9, 17, 1, 22, 23, 24, 25, 26, 27, 28, 29, 30, 31, 32, 33, 34, 35, 36, 37, 38, 39, 40, 41, 42, 43, 44, 45, 46, 47, 48, 49, 50, 51, 52, 53, 54, 55, 56, 57, 58, 59] (by decide +kernel) (by decide +kernel)
set_option maxRecDepth 20000 in
theorem gX7_sheet_X7_lets : GoodIn wsX7_sheet (wsV RX7 90 RX7 yX7_lets wsX7_lets) := goodIn_app (goodIn_of _ (by decide +kernel)) ggX7_sheet_X7_lets
theorem dX7_sheet_0 : decode cX7_sheet 0 = .ok (.aload_n 0, 1) := by decide +kernel
theorem dX7_sheet_1 : decode cX7_sheet 1 = .ok (.iload_n 1, 1) := by decide +kernel
theorem dX7_sheet_2 : decode cX7_sheet 2 = .ok (.invokevirtual 153, 3) := by decide +kernel
theorem dX7_sheet_5 : decode cX7_sheet 5 = .ok (.ifCond .ne 5, 3) := by decide +kernel
theorem dX7_sheet_8 : decode cX7_sheet 8 = .ok (.iconst (-1), 1) := by decide +kernel
theorem dX7_sheet_9 : decode cX7_sheet 9 = .ok (.ireturn, 1) := by decide +kernel
theorem dX7_sheet_10 : decode cX7_sheet 10 = .ok (.iload_n 2, 1) := by decide +kernel
theorem dX7_sheet_11 : decode cX7_sheet 11 = .ok (.i2l, 1) := by decide +kernel
theorem dX7_sheet_12 : decode cX7_sheet 12 = .ok (.lconst 0, 1) := by decide +kernel
theorem dX7_sheet_13 : decode cX7_sheet 13 = .ok (.lconst 1, 1) := by decide +kernel
theorem dX7_sheet_14 : decode cX7_sheet 14 = .ok (.invokestatic 62, 3) := by decide +kernel
theorem dX7_sheet_17 : decode cX7_sheet 17 = .ok (.ifCond .eq 17, 3) := by decide +kernel
theorem dX7_sheet_20 : decode cX7_sheet 20 = .ok (.aload_n 0, 1) := by decide +kernel
theorem dX7_sheet_21 : decode cX7_sheet 21 = .ok (.getfield 9, 3) := by decide +kernel
theorem dX7_sheet_24 : decode cX7_sheet 24 = .ok (.iconst 2, 1) := by decide +kernel
theorem dX7_sheet_25 : decode cX7_sheet 25 = .ok (.bipush 7, 2) := by decide +kernel
theorem dX7_sheet_27 : decode cX7_sheet 27 = .ok (.iload_n 1, 1) := by decide +kernel
theorem dX7_sheet_28 : decode cX7_sheet 28 = .ok (.imul, 1) := by decide +kernel
theorem dX7_sheet_29 : decode cX7_sheet 29 = .ok (.iadd, 1) := by decide +kernel
theorem dX7_sheet_30 : decode cX7_sheet 30 = .ok (.iload_n 2, 1) := by decide +kernel
theorem dX7_sheet_31 : decode cX7_sheet 31 = .ok (.iadd, 1) := by decide +kernel
theorem dX7_sheet_32 : decode cX7_sheet 32 = .ok (.iaload, 1) := by decide +kernel
theorem dX7_sheet_33 : decode cX7_sheet 33 = .ok (.ireturn, 1) := by decide +kernel
theorem dX7_sheet_34 : decode cX7_sheet 34 = .ok (.iload_n 2, 1) := by decide +kernel
theorem dX7_sheet_35 : decode cX7_sheet 35 = .ok (.i2l, 1) := by decide +kernel
theorem dX7_sheet_36 : decode cX7_sheet 36 = .ok (.ldc2_w 106, 3) := by decide +kernel
theorem dX7_sheet_39 : decode cX7_sheet 39 = .ok (.ldc2_w 163, 3) := by decide +kernel
theorem dX7_sheet_42 : decode cX7_sheet 42 = .ok (.invokestatic 62, 3) := by decide +kernel
theorem dX7_sheet_45 : decode cX7_sheet 45 = .ok (.ifCond .eq 13, 3) := by decide +kernel
theorem dX7_sheet_48 : decode cX7_sheet 48 = .ok (.aload_n 0, 1) := by decide +kernel
theorem dX7_sheet_49 : decode cX7_sheet 49 = .ok (.iload_n 1, 1) := by decide +kernel
theorem dX7_sheet_50 : decode cX7_sheet 50 = .ok (.iload_n 2, 1) := by decide +kernel
theorem dX7_sheet_51 : decode cX7_sheet 51 = .ok (.bipush 10, 2) := by decide +kernel
theorem dX7_sheet_53 : decode cX7_sheet 53 = .ok (.isub, 1) := by decide +kernel
theorem dX7_sheet_54 : decode cX7_sheet 54 = .ok (.invokevirtual 70, 3) := by decide +kernel
theorem dX7_sheet_57 : decode cX7_sheet 57 = .ok (.ireturn, 1) := by decide +kernel
theorem dX7_sheet_58 : decode cX7_sheet 58 = .ok (.iload_n 2, 1) := by decide +kernel
theorem dX7_sheet_59 : decode cX7_sheet 59 = .ok (.i2l, 1) := by decide +kernel
theorem dX7_sheet_60 : decode cX7_sheet 60 = .ok (.ldc2_w 165, 3) := by decide +kernel
theorem dX7_sheet_63 : decode cX7_sheet 63 = .ok (.ldc2_w 167, 3) := by decide +kernel
theorem dX7_sheet_66 : decode cX7_sheet 66 = .ok (.invokestatic 62, 3) := by decide +kernel
theorem dX7_sheet_69 : decode cX7_sheet 69 = .ok (.ifCond .eq 15, 3) := by decide +kernel
theorem dX7_sheet_72 : decode cX7_sheet 72 = .ok (.aload_n 0, 1) := by decide +kernel
theorem dX7_sheet_73 : decode cX7_sheet 73 = .ok (.iload_n 1, 1) := by decide +kernel
theorem dX7_sheet_74 : decode cX7_sheet 74 = .ok (.iload_n 2, 1) := by decide +kernel
theorem dX7_sheet_75 : decode cX7_sheet 75 = .ok (.bipush 20, 2) := by decide +kernel
theorem dX7_sheet_77 : decode cX7_sheet 77 = .ok (.isub, 1) := by decide +kernel
theorem dX7_sheet_78 : decode cX7_sheet 78 = .ok (.invokevirtual 90, 3) := by decide +kernel
theorem dX7_sheet_81 : decode cX7_sheet 81 = .ok (.goto 4, 3) := by decide +kernel
theorem dX7_sheet_84 : decode cX7_sheet 84 = .ok (.iconst (-1), 1) := by decide +kernel
theorem dX7_sheet_85 : decode cX7_sheet 85 = .ok (.ireturn, 1) := by decide +kernel
set_option maxRecDepth 20000 in
theorem ggX7_stack_X7_isSheet : GoodIn wsX7_stack wsX7_isSheet := goodIn_r _ [8, 3, 9, 10, 7, 11, 12, 13, 14, 15, 16, 17, 18, 19, 20, 21, 22, 23, 24, 25, 26, 27, 28, 29, 30, 31, 32, 33, 34, 35, 36, 37] (by decide +kernel) (by decide +kernel)
set_option maxRecDepth 20000 in
theorem gX7_stack_X7_isSheet : GoodIn wsX7_stack (wsV RX7 153 RX7 yX7_isSheet wsX7_isSheet) := goodIn_app (goodIn_of _ (by decide +kernel)) ggX7_stack_X7_isSheet
theorem dX7_stack_0 : decode cX7_stack 0 = .ok (.aload_n 0, 1) := by decide +kernel
theorem dX7_stack_1 : decode cX7_stack 1 = .ok (.getfield 118, 3) := by decide +kernel
theorem dX7_stack_4 : decode cX7_stack 4 = .ok (.istore_n 1, 1) := by decide +kernel
theorem dX7_stack_5 : decode cX7_stack 5 = .ok (.aload_n 0, 1) := by decide +kernel
theorem dX7_stack_6 : decode cX7_stack 6 = .ok (.iconst 0, 1) := by decide +kernel
theorem dX7_stack_7 : decode cX7_stack 7 = .ok (.putfield 118, 3) := by decide +kernel
theorem dX7_stack_10 : decode cX7_stack 10 = .ok (.iconst 0, 1) := by decide +kernel
theorem dX7_stack_11 : decode cX7_stack 11 = .ok (.istore_n 2, 1) := by decide +kernel
theorem dX7_stack_12 : decode cX7_stack 12 = .ok (.iload_n 1, 1) := by decide +kernel
theorem dX7_stack_13 : decode cX7_stack 13 = .ok (.ifCond .le 18, 3) := by decide +kernel
theorem dX7_stack_16 : decode cX7_stack 16 = .ok (.aload_n 0, 1) := by decide +kernel
theorem dX7_stack_17 : decode cX7_stack 17 = .ok (.getfield 28, 3) := by decide +kernel
theorem dX7_stack_20 : decode cX7_stack 20 = .ok (.iconst 0, 1) := by decide +kernel
theorem dX7_stack_21 : decode cX7_stack 21 = .ok (.iaload, 1) := by decide +kernel
theorem dX7_stack_22 : decode cX7_stack 22 = .ok (.bipush 45, 2) := by decide +kernel
theorem dX7_stack_24 : decode cX7_stack 24 = .ok (.if_icmp .ne 7, 3) := by decide +kernel
theorem dX7_stack_27 : decode cX7_stack 27 = .ok (.iconst 1, 1) := by decide +kernel
theorem dX7_stack_28 : decode cX7_stack 28 = .ok (.goto 4, 3) := by decide +kernel
theorem dX7_stack_31 : decode cX7_stack 31 = .ok (.iconst 0, 1) := by decide +kernel
theorem dX7_stack_32 : decode cX7_stack 32 = .ok (.istore_n 3, 1) := by decide +kernel
theorem dX7_stack_33 : decode cX7_stack 33 = .ok (.iload_n 3, 1) := by decide +kernel
theorem dX7_stack_34 : decode cX7_stack 34 = .ok (.ifCond .eq 5, 3) := by decide +kernel
theorem dX7_stack_37 : decode cX7_stack 37 = .ok (.iconst 1, 1) := by decide +kernel
theorem dX7_stack_38 : decode cX7_stack 38 = .ok (.istore_n 2, 1) := by decide +kernel
theorem dX7_stack_39 : decode cX7_stack 39 = .ok (.iload_n 3, 1) := by decide +kernel
theorem dX7_stack_40 : decode cX7_stack 40 = .ok (.ifCond .ne 36, 3) := by decide +kernel
theorem dX7_stack_43 : decode cX7_stack 43 = .ok (.iload_n 2, 1) := by decide +kernel
theorem dX7_stack_44 : decode cX7_stack 44 = .ok (.iload_n 1, 1) := by decide +kernel
theorem dX7_stack_45 : decode cX7_stack 45 = .ok (.if_icmp .ge 31, 3) := by decide +kernel
theorem dX7_stack_48 : decode cX7_stack 48 = .ok (.iload_n 2, 1) := by decide +kernel
theorem dX7_stack_49 : decode cX7_stack 49 = .ok (.bipush 6, 2) := by decide +kernel
theorem dX7_stack_51 : decode cX7_stack 51 = .ok (.if_icmp .ge 25, 3) := by decide +kernel
theorem dX7_stack_54 : decode cX7_stack 54 = .ok (.aload_n 0, 1) := by decide +kernel
theorem dX7_stack_55 : decode cX7_stack 55 = .ok (.aload_n 0, 1) := by decide +kernel
theorem dX7_stack_56 : decode cX7_stack 56 = .ok (.getfield 28, 3) := by decide +kernel
theorem dX7_stack_59 : decode cX7_stack 59 = .ok (.iload_n 2, 1) := by decide +kernel
theorem dX7_stack_60 : decode cX7_stack 60 = .ok (.iaload, 1) := by decide +kernel
theorem dX7_stack_61 : decode cX7_stack 61 = .ok (.bipush 97, 2) := by decide +kernel
theorem dX7_stack_63 : decode cX7_stack 63 = .ok (.isub, 1) := by decide +kernel
theorem dX7_stack_64 : decode cX7_stack 64 = .ok (.invokevirtual 153, 3) := by decide +kernel
theorem dX7_stack_67 : decode cX7_stack 67 = .ok (.ifCond .eq 9, 3) := by decide +kernel
theorem dX7_stack_70 : decode cX7_stack 70 = .ok (.iinc 2 1, 3) := by decide +kernel
theorem dX7_stack_73 : decode cX7_stack 73 = .ok (.goto (-34), 3) := by decide +kernel
theorem dX7_stack_76 : decode cX7_stack 76 = .ok (.iload_n 2, 1) := by decide +kernel
theorem dX7_stack_77 : decode cX7_stack 77 = .ok (.iload_n 1, 1) := by decide +kernel
theorem dX7_stack_78 : decode cX7_stack 78 = .ok (.if_icmp .lt 7, 3) := by decide +kernel
theorem dX7_stack_81 : decode cX7_stack 81 = .ok (.iload_n 1, 1) := by decide +kernel
theorem dX7_stack_82 : decode cX7_stack 82 = .ok (.ifCond .ne 8, 3) := by decide +kernel
theorem dX7_stack_85 : decode cX7_stack 85 = .ok (.bipush (-100), 2) := by decide +kernel
theorem dX7_stack_87 : decode cX7_stack 87 = .ok (.iload_n 2, 1) := by decide +kernel
theorem dX7_stack_88 : decode cX7_stack 88 = .ok (.isub, 1) := by decide +kernel
theorem dX7_stack_89 : decode cX7_stack 89 = .ok (.ireturn, 1) := by decide +kernel
theorem dX7_stack_90 : decode cX7_stack 90 = .ok (.aload_n 0, 1) := by decide +kernel
theorem dX7_stack_91 : decode cX7_stack 91 = .ok (.getfield 9, 3) := by decide +kernel
theorem dX7_stack_94 : decode cX7_stack 94 = .ok (.iconst 1, 1) := by decide +kernel
theorem dX7_stack_95 : decode cX7_stack 95 = .ok (.iaload, 1) := by decide +kernel
theorem dX7_stack_96 : decode cX7_stack 96 = .ok (.bipush 6, 2) := by decide +kernel
theorem dX7_stack_98 : decode cX7_stack 98 = .ok (.if_icmp .ne 6, 3) := by decide +kernel
theorem dX7_stack_101 : decode cX7_stack 101 = .ok (.bipush (-4), 2) := by decide +kernel
theorem dX7_stack_103 : decode cX7_stack 103 = .ok (.ireturn, 1) := by decide +kernel
theorem dX7_stack_104 : decode cX7_stack 104 = .ok (.bipush 58, 2) := by decide +kernel
theorem dX7_stack_106 : decode cX7_stack 106 = .ok (.bipush 7, 2) := by decide +kernel
theorem dX7_stack_108 : decode cX7_stack 108 = .ok (.aload_n 0, 1) := by decide +kernel
theorem dX7_stack_109 : decode cX7_stack 109 = .ok (.getfield 9, 3) := by decide +kernel
theorem dX7_stack_112 : decode cX7_stack 112 = .ok (.iconst 1, 1) := by decide +kernel
theorem dX7_stack_113 : decode cX7_stack 113 = .ok (.iaload, 1) := by decide +kernel
theorem dX7_stack_114 : decode cX7_stack 114 = .ok (.imul, 1) := by decide +kernel
theorem dX7_stack_115 : decode cX7_stack 115 = .ok (.iadd, 1) := by decide +kernel
theorem dX7_stack_116 : decode cX7_stack 116 = .ok (.istore 4, 2) := by decide +kernel
theorem dX7_stack_118 : decode cX7_stack 118 = .ok (.aload_n 0, 1) := by decide +kernel
theorem dX7_stack_119 : decode cX7_stack 119 = .ok (.getfield 9, 3) := by decide +kernel
theorem dX7_stack_122 : decode cX7_stack 122 = .ok (.iload 4, 2) := by decide +kernel
theorem dX7_stack_124 : decode cX7_stack 124 = .ok (.iload_n 3, 1) := by decide +kernel
theorem dX7_stack_125 : decode cX7_stack 125 = .ok (.ifCond .eq 7, 3) := by decide +kernel
theorem dX7_stack_128 : decode cX7_stack 128 = .ok (.iconst 0, 1) := by decide +kernel
theorem dX7_stack_129 : decode cX7_stack 129 = .ok (.goto 4, 3) := by decide +kernel
theorem dX7_stack_132 : decode cX7_stack 132 = .ok (.iload_n 1, 1) := by decide +kernel
theorem dX7_stack_133 : decode cX7_stack 133 = .ok (.iastore, 1) := by decide +kernel
theorem dX7_stack_134 : decode cX7_stack 134 = .ok (.iconst 0, 1) := by decide +kernel
theorem dX7_stack_135 : decode cX7_stack 135 = .ok (.istore 5, 2) := by decide +kernel
theorem dX7_stack_137 : decode cX7_stack 137 = .ok (.iload 5, 2) := by decide +kernel
theorem dX7_stack_139 : decode cX7_stack 139 = .ok (.aload_n 0, 1) := by decide +kernel
theorem dX7_stack_140 : decode cX7_stack 140 = .ok (.getfield 9, 3) := by decide +kernel
theorem dX7_stack_143 : decode cX7_stack 143 = .ok (.iload 4, 2) := by decide +kernel
theorem dX7_stack_145 : decode cX7_stack 145 = .ok (.iaload, 1) := by decide +kernel
theorem dX7_stack_146 : decode cX7_stack 146 = .ok (.if_icmp .ge 31, 3) := by decide +kernel
theorem dX7_stack_149 : decode cX7_stack 149 = .ok (.aload_n 0, 1) := by decide +kernel
theorem dX7_stack_150 : decode cX7_stack 150 = .ok (.getfield 9, 3) := by decide +kernel
theorem dX7_stack_153 : decode cX7_stack 153 = .ok (.iload 4, 2) := by decide +kernel
theorem dX7_stack_155 : decode cX7_stack 155 = .ok (.iconst 1, 1) := by decide +kernel
theorem dX7_stack_156 : decode cX7_stack 156 = .ok (.iadd, 1) := by decide +kernel
theorem dX7_stack_157 : decode cX7_stack 157 = .ok (.iload 5, 2) := by decide +kernel
theorem dX7_stack_159 : decode cX7_stack 159 = .ok (.iadd, 1) := by decide +kernel
theorem dX7_stack_160 : decode cX7_stack 160 = .ok (.aload_n 0, 1) := by decide +kernel
theorem dX7_stack_161 : decode cX7_stack 161 = .ok (.getfield 28, 3) := by decide +kernel
theorem dX7_stack_164 : decode cX7_stack 164 = .ok (.iload 5, 2) := by decide +kernel
theorem dX7_stack_166 : decode cX7_stack 166 = .ok (.iaload, 1) := by decide +kernel
theorem dX7_stack_167 : decode cX7_stack 167 = .ok (.bipush 97, 2) := by decide +kernel
theorem dX7_stack_169 : decode cX7_stack 169 = .ok (.isub, 1) := by decide +kernel
theorem dX7_stack_170 : decode cX7_stack 170 = .ok (.iastore, 1) := by decide +kernel
theorem dX7_stack_171 : decode cX7_stack 171 = .ok (.iinc 5 1, 3) := by decide +kernel
theorem dX7_stack_174 : decode cX7_stack 174 = .ok (.goto (-37), 3) := by decide +kernel
theorem dX7_stack_177 : decode cX7_stack 177 = .ok (.aload_n 0, 1) := by decide +kernel
theorem dX7_stack_178 : decode cX7_stack 178 = .ok (.getfield 9, 3) := by decide +kernel
theorem dX7_stack_181 : decode cX7_stack 181 = .ok (.iconst 1, 1) := by decide +kernel
theorem dX7_stack_182 : decode cX7_stack 182 = .ok (.dup2, 1) := by decide +kernel
theorem dX7_stack_183 : decode cX7_stack 183 = .ok (.iaload, 1) := by decide +kernel
theorem dX7_stack_184 : decode cX7_stack 184 = .ok (.iconst 1, 1) := by decide +kernel
theorem dX7_stack_185 : decode cX7_stack 185 = .ok (.iadd, 1) := by decide +kernel
theorem dX7_stack_186 : decode cX7_stack 186 = .ok (.iastore, 1) := by decide +kernel
theorem dX7_stack_187 : decode cX7_stack 187 = .ok (.aload_n 0, 1) := by decide +kernel
theorem dX7_stack_188 : decode cX7_stack 188 = .ok (.getfield 9, 3) := by decide +kernel
theorem dX7_stack_191 : decode cX7_stack 191 = .ok (.iconst 1, 1) := by decide +kernel
theorem dX7_stack_192 : decode cX7_stack 192 = .ok (.iaload, 1) := by decide +kernel
theorem dX7_stack_193 : decode cX7_stack 193 = .ok (.iconst 1, 1) := by decide +kernel
theorem dX7_stack_194 : decode cX7_stack 194 = .ok (.isub, 1) := by decide +kernel
theorem dX7_stack_195 : decode cX7_stack 195 = .ok (.ireturn, 1) := by decide +kernel
set_option maxRecDepth 20000 in
theorem ggX7_lay_X7_isStack : GoodIn wsX7_lay wsX7_isStack := goodIn_r _ [6, 1, 7, 8, 5, 9, 18, 19, 20, 21, 22, 23, 24, 25, 26, 27, 28, 29, 30, 31, 32, 33, 34, 35, 36, 37, 38, 39, 40, 41, 42, 43] (by decide +kernel) (by decide +kernel)
set_option maxRecDepth 20000 in
theorem gX7_lay_X7_isStack : GoodIn wsX7_lay (wsV RX7 169 RX7 yX7_isStack wsX7_isStack) := goodIn_app (goodIn_of _ (by decide +kernel)) ggX7_lay_X7_isStack
set_option maxRecDepth 20000 in
theorem ggX7_lay_X7_isSheet : GoodIn wsX7_lay wsX7_isSheet := goodIn_r _ [13, 1, 7, 8, 5, 9, 18, 19, 20, 21, 22, 23, 24, 25, 26, 27, 28, 29, 30, 31, 32, 33, 34, 35, 36, 37, 38, 39, 40, 41, 42, 43] (by decide +kernel) (by decide +kernel)
set_option maxRecDepth 20000 in
theorem gX7_lay_X7_isSheet : GoodIn wsX7_lay (wsV RX7 153 RX7 yX7_isSheet wsX7_isSheet) := goodIn_app (goodIn_of _ (by decide +kernel)) ggX7_lay_X7_isSheet
set_option maxRecDepth 20000 in
theorem ggX7_lay_X7_size : GoodIn wsX7_lay wsX7_size := goodIn_r _ [17, 1, 18, 19, 20, 21, 22, 23, 24, 25, 26, 27, 28, 29, 30, 31, 32, 33, 34, 35, 36, 37, 38, 39, 40, 41, 42, 43] (by decide +kernel) (by decide +kernel)
set_option maxRecDepth 20000 in
theorem gX7_lay_X7_size : GoodIn wsX7_lay (wsV RX7 96 RX7 yX7_size wsX7_size) := goodIn_app (goodIn_of _ (by decide +kernel)) ggX7_lay_X7_size
theorem dX7_lay_0 : decode cX7_lay 0 = .ok (.aload_n 0, 1) := by decide +kernel
theorem dX7_lay_1 : decode cX7_lay 1 = .ok (.iload_n 1, 1) := by decide +kernel
theorem dX7_lay_2 : decode cX7_lay 2 = .ok (.invokevirtual 169, 3) := by decide +kernel
theorem dX7_lay_5 : decode cX7_lay 5 = .ok (.ifCond .eq 11, 3) := by decide +kernel
theorem dX7_lay_8 : decode cX7_lay 8 = .ok (.aload_n 0, 1) := by decide +kernel
theorem dX7_lay_9 : decode cX7_lay 9 = .ok (.iload_n 2, 1) := by decide +kernel
theorem dX7_lay_10 : decode cX7_lay 10 = .ok (.invokevirtual 153, 3) := by decide +kernel
theorem dX7_lay_13 : decode cX7_lay 13 = .ok (.ifCond .ne 5, 3) := by decide +kernel
theorem dX7_lay_16 : decode cX7_lay 16 = .ok (.iconst (-1), 1) := by decide +kernel
theorem dX7_lay_17 : decode cX7_lay 17 = .ok (.ireturn, 1) := by decide +kernel
theorem dX7_lay_18 : decode cX7_lay 18 = .ok (.aload_n 0, 1) := by decide +kernel
theorem dX7_lay_19 : decode cX7_lay 19 = .ok (.iload_n 1, 1) := by decide +kernel
theorem dX7_lay_20 : decode cX7_lay 20 = .ok (.invokevirtual 96, 3) := by decide +kernel
theorem dX7_lay_23 : decode cX7_lay 23 = .ok (.bipush 6, 2) := by decide +kernel
theorem dX7_lay_25 : decode cX7_lay 25 = .ok (.if_icmp .ne 6, 3) := by decide +kernel
theorem dX7_lay_28 : decode cX7_lay 28 = .ok (.bipush (-4), 2) := by decide +kernel
theorem dX7_lay_30 : decode cX7_lay 30 = .ok (.ireturn, 1) := by decide +kernel
theorem dX7_lay_31 : decode cX7_lay 31 = .ok (.aload_n 0, 1) := by decide +kernel
theorem dX7_lay_32 : decode cX7_lay 32 = .ok (.getfield 9, 3) := by decide +kernel
theorem dX7_lay_35 : decode cX7_lay 35 = .ok (.bipush 58, 2) := by decide +kernel
theorem dX7_lay_37 : decode cX7_lay 37 = .ok (.bipush 7, 2) := by decide +kernel
theorem dX7_lay_39 : decode cX7_lay 39 = .ok (.iload_n 1, 1) := by decide +kernel
theorem dX7_lay_40 : decode cX7_lay 40 = .ok (.imul, 1) := by decide +kernel
theorem dX7_lay_41 : decode cX7_lay 41 = .ok (.iadd, 1) := by decide +kernel
theorem dX7_lay_42 : decode cX7_lay 42 = .ok (.iconst 1, 1) := by decide +kernel
theorem dX7_lay_43 : decode cX7_lay 43 = .ok (.iadd, 1) := by decide +kernel
theorem dX7_lay_44 : decode cX7_lay 44 = .ok (.aload_n 0, 1) := by decide +kernel
theorem dX7_lay_45 : decode cX7_lay 45 = .ok (.iload_n 1, 1) := by decide +kernel
theorem dX7_lay_46 : decode cX7_lay 46 = .ok (.invokevirtual 96, 3) := by decide +kernel
theorem dX7_lay_49 : decode cX7_lay 49 = .ok (.iadd, 1) := by decide +kernel
theorem dX7_lay_50 : decode cX7_lay 50 = .ok (.iload_n 2, 1) := by decide +kernel
theorem dX7_lay_51 : decode cX7_lay 51 = .ok (.iastore, 1) := by decide +kernel
theorem dX7_lay_52 : decode cX7_lay 52 = .ok (.aload_n 0, 1) := by decide +kernel
theorem dX7_lay_53 : decode cX7_lay 53 = .ok (.getfield 9, 3) := by decide +kernel
theorem dX7_lay_56 : decode cX7_lay 56 = .ok (.bipush 58, 2) := by decide +kernel
theorem dX7_lay_58 : decode cX7_lay 58 = .ok (.bipush 7, 2) := by decide +kernel
theorem dX7_lay_60 : decode cX7_lay 60 = .ok (.iload_n 1, 1) := by decide +kernel
theorem dX7_lay_61 : decode cX7_lay 61 = .ok (.imul, 1) := by decide +kernel
theorem dX7_lay_62 : decode cX7_lay 62 = .ok (.iadd, 1) := by decide +kernel
theorem dX7_lay_63 : decode cX7_lay 63 = .ok (.dup2, 1) := by decide +kernel
theorem dX7_lay_64 : decode cX7_lay 64 = .ok (.iaload, 1) := by decide +kernel
theorem dX7_lay_65 : decode cX7_lay 65 = .ok (.iconst 1, 1) := by decide +kernel
theorem dX7_lay_66 : decode cX7_lay 66 = .ok (.iadd, 1) := by decide +kernel
theorem dX7_lay_67 : decode cX7_lay 67 = .ok (.iastore, 1) := by decide +kernel
theorem dX7_lay_68 : decode cX7_lay 68 = .ok (.aload_n 0, 1) := by decide +kernel
theorem dX7_lay_69 : decode cX7_lay 69 = .ok (.iload_n 1, 1) := by decide +kernel
theorem dX7_lay_70 : decode cX7_lay 70 = .ok (.invokevirtual 96, 3) := by decide +kernel
theorem dX7_lay_73 : decode cX7_lay 73 = .ok (.ireturn, 1) := by decide +kernel
set_option maxRecDepth 20000 in
theorem ggX7_take_X7_isStack : GoodIn wsX7_take wsX7_isStack := goodIn_r _ [6, 1, 7, 8, 5, 9, 18, 19, 20, 21, 22, 23, 24, 25, 26, 27, 28, 29, 30, 31, 32, 33, 34, 35, 36, 37, 38, 39, 40, 41, 42, 43] (by decide +kernel) (by decide +kernel)
set_option maxRecDepth 20000 in
theorem gX7_take_X7_isStack : GoodIn wsX7_take (wsV RX7 169 RX7 yX7_isStack wsX7_isStack) := goodIn_app (goodIn_of _ (by decide +kernel)) ggX7_take_X7_isStack
set_option maxRecDepth 20000 in
theorem ggX7_take_X7_size : GoodIn wsX7_take wsX7_size := goodIn_r _ [13, 1, 18, 19, 20, 21, 22, 23, 24, 25, 26, 27, 28, 29, 30, 31, 32, 33, 34, 35, 36, 37, 38, 39, 40, 41, 42, 43] (by decide +kernel) (by decide +kernel)
set_option maxRecDepth 20000 in
theorem gX7_take_X7_size : GoodIn wsX7_take (wsV RX7 96 RX7 yX7_size wsX7_size) := goodIn_app (goodIn_of _ (by decide +kernel)) ggX7_take_X7_size
set_option maxRecDepth 20000 in
theorem ggX7_take_X7_laid : GoodIn wsX7_take wsX7_laid := goodIn_r _ [17, 1, 18, 19, 20, 21, 22, 23, 24, 25, 26, 27, 28, 29, 30, 31, 32, 33, 34, 35, 36, 37, 38, 39, 40, 41, 42, 43] (by decide +kernel) (by decide +kernel)
set_option maxRecDepth 20000 in
theorem gX7_take_X7_laid : GoodIn wsX7_take (wsV RX7 99 RX7 yX7_laid wsX7_laid) := goodIn_app (goodIn_of _ (by decide +kernel)) ggX7_take_X7_laid
theorem dX7_take_0 : decode cX7_take 0 = .ok (.aload_n 0, 1) := by decide +kernel
theorem dX7_take_1 : decode cX7_take 1 = .ok (.iload_n 1, 1) := by decide +kernel
theorem dX7_take_2 : decode cX7_take 2 = .ok (.invokevirtual 169, 3) := by decide +kernel
theorem dX7_take_5 : decode cX7_take 5 = .ok (.ifCond .ne 5, 3) := by decide +kernel
theorem dX7_take_8 : decode cX7_take 8 = .ok (.iconst (-1), 1) := by decide +kernel
theorem dX7_take_9 : decode cX7_take 9 = .ok (.ireturn, 1) := by decide +kernel
theorem dX7_take_10 : decode cX7_take 10 = .ok (.aload_n 0, 1) := by decide +kernel
theorem dX7_take_11 : decode cX7_take 11 = .ok (.iload_n 1, 1) := by decide +kernel
theorem dX7_take_12 : decode cX7_take 12 = .ok (.invokevirtual 96, 3) := by decide +kernel
theorem dX7_take_15 : decode cX7_take 15 = .ok (.ifCond .ne 6, 3) := by decide +kernel
theorem dX7_take_18 : decode cX7_take 18 = .ok (.bipush (-3), 2) := by decide +kernel
theorem dX7_take_20 : decode cX7_take 20 = .ok (.ireturn, 1) := by decide +kernel
theorem dX7_take_21 : decode cX7_take 21 = .ok (.aload_n 0, 1) := by decide +kernel
theorem dX7_take_22 : decode cX7_take 22 = .ok (.getfield 9, 3) := by decide +kernel
theorem dX7_take_25 : decode cX7_take 25 = .ok (.bipush 58, 2) := by decide +kernel
theorem dX7_take_27 : decode cX7_take 27 = .ok (.bipush 7, 2) := by decide +kernel
theorem dX7_take_29 : decode cX7_take 29 = .ok (.iload_n 1, 1) := by decide +kernel
theorem dX7_take_30 : decode cX7_take 30 = .ok (.imul, 1) := by decide +kernel
theorem dX7_take_31 : decode cX7_take 31 = .ok (.iadd, 1) := by decide +kernel
theorem dX7_take_32 : decode cX7_take 32 = .ok (.dup2, 1) := by decide +kernel
theorem dX7_take_33 : decode cX7_take 33 = .ok (.iaload, 1) := by decide +kernel
theorem dX7_take_34 : decode cX7_take 34 = .ok (.iconst 1, 1) := by decide +kernel
theorem dX7_take_35 : decode cX7_take 35 = .ok (.isub, 1) := by decide +kernel
theorem dX7_take_36 : decode cX7_take 36 = .ok (.iastore, 1) := by decide +kernel
theorem dX7_take_37 : decode cX7_take 37 = .ok (.aload_n 0, 1) := by decide +kernel
theorem dX7_take_38 : decode cX7_take 38 = .ok (.iload_n 1, 1) := by decide +kernel
theorem dX7_take_39 : decode cX7_take 39 = .ok (.aload_n 0, 1) := by decide +kernel
theorem dX7_take_40 : decode cX7_take 40 = .ok (.iload_n 1, 1) := by decide +kernel
theorem dX7_take_41 : decode cX7_take 41 = .ok (.invokevirtual 96, 3) := by decide +kernel
theorem dX7_take_44 : decode cX7_take 44 = .ok (.invokevirtual 99, 3) := by decide +kernel
theorem dX7_take_47 : decode cX7_take 47 = .ok (.ireturn, 1) := by decide +kernel
set_option maxRecDepth 20000 in
theorem ggX7_at_X7_isStack : GoodIn wsX7_at wsX7_isStack := goodIn_r _ [6, 7, 8, 9, 5, 10, 19, 20, 21, 22, 23, 24, 25, 26, 27, 28, 29, 30, 31, 32, 33, 34, 35, 36, 37, 38, 39, 40, 41, 42, 43, 44] (by decide +kernel) (by decide +kernel)
set_option maxRecDepth 20000 in
theorem gX7_at_X7_isStack : GoodIn wsX7_at (wsV RX7 169 RX7 yX7_isStack wsX7_isStack) := goodIn_app (goodIn_of _ (by decide +kernel)) ggX7_at_X7_isStack
set_option maxRecDepth 20000 in
theorem ggX7_at_X7_size : GoodIn wsX7_at wsX7_size := goodIn_r _ [14, 7, 19, 20, 21, 22, 23, 24, 25, 26, 27, 28, 29, 30, 31, 32, 33, 34, 35, 36, 37, 38, 39, 40, 41, 42, 43, 44] (by decide +kernel) (by decide +kernel)
set_option maxRecDepth 20000 in
theorem gX7_at_X7_size : GoodIn wsX7_at (wsV RX7 96 RX7 yX7_size wsX7_size) := goodIn_app (goodIn_of _ (by decide +kernel)) ggX7_at_X7_size
set_option maxRecDepth 20000 in
theorem ggX7_at_X7_isIn : GoodIn wsX7_at wsX7_isIn := goodIn_r _ [10] (by decide +kernel) (by decide +kernel)
set_option maxRecDepth 20000 in
theorem gX7_at_X7_isIn : GoodIn wsX7_at (va_wsS RX7 62 yX7_isIn wsX7_isIn) := goodIn_app (goodIn_of _ (by decide +kernel)) ggX7_at_X7_isIn
set_option maxRecDepth 20000 in
theorem ggX7_at_X7_laid : GoodIn wsX7_at wsX7_laid := goodIn_r _ [18, 7, 19, 20, 21, 22, 23, 24, 25, 26, 27, 28, 29, 30, 31, 32, 33, 34, 35, 36, 37, 38, 39, 40, 41, 42, 43, 44] (by decide +kernel) (by decide +kernel)
set_option maxRecDepth 20000 in
theorem gX7_at_X7_laid : GoodIn wsX7_at (wsV RX7 99 RX7 yX7_laid wsX7_laid) := goodIn_app (goodIn_of _ (by decide +kernel)) ggX7_at_X7_laid
theorem dX7_at_0 : decode cX7_at 0 = .ok (.aload_n 0, 1) := by decide +kernel
theorem dX7_at_1 : decode cX7_at 1 = .ok (.iload_n 1, 1) := by decide +kernel
theorem dX7_at_2 : decode cX7_at 2 = .ok (.invokevirtual 169, 3) := by decide +kernel
theorem dX7_at_5 : decode cX7_at 5 = .ok (.ifCond .eq 22, 3) := by decide +kernel
theorem dX7_at_8 : decode cX7_at 8 = .ok (.iload_n 2, 1) := by decide +kernel
theorem dX7_at_9 : decode cX7_at 9 = .ok (.i2l, 1) := by decide +kernel
theorem dX7_at_10 : decode cX7_at 10 = .ok (.ldc2_w 172, 3) := by decide +kernel
theorem dX7_at_13 : decode cX7_at 13 = .ok (.aload_n 0, 1) := by decide +kernel
theorem dX7_at_14 : decode cX7_at 14 = .ok (.iload_n 1, 1) := by decide +kernel
theorem dX7_at_15 : decode cX7_at 15 = .ok (.invokevirtual 96, 3) := by decide +kernel
theorem dX7_at_18 : decode cX7_at 18 = .ok (.iconst 1, 1) := by decide +kernel
theorem dX7_at_19 : decode cX7_at 19 = .ok (.isub, 1) := by decide +kernel
theorem dX7_at_20 : decode cX7_at 20 = .ok (.i2l, 1) := by decide +kernel
theorem dX7_at_21 : decode cX7_at 21 = .ok (.invokestatic 62, 3) := by decide +kernel
theorem dX7_at_24 : decode cX7_at 24 = .ok (.ifCond .ne 5, 3) := by decide +kernel
theorem dX7_at_27 : decode cX7_at 27 = .ok (.iconst (-1), 1) := by decide +kernel
theorem dX7_at_28 : decode cX7_at 28 = .ok (.ireturn, 1) := by decide +kernel
theorem dX7_at_29 : decode cX7_at 29 = .ok (.iload_n 2, 1) := by decide +kernel
theorem dX7_at_30 : decode cX7_at 30 = .ok (.ifCond .ge 11, 3) := by decide +kernel
theorem dX7_at_33 : decode cX7_at 33 = .ok (.aload_n 0, 1) := by decide +kernel
theorem dX7_at_34 : decode cX7_at 34 = .ok (.iload_n 1, 1) := by decide +kernel
theorem dX7_at_35 : decode cX7_at 35 = .ok (.invokevirtual 96, 3) := by decide +kernel
theorem dX7_at_38 : decode cX7_at 38 = .ok (.goto 9, 3) := by decide +kernel
theorem dX7_at_41 : decode cX7_at 41 = .ok (.aload_n 0, 1) := by decide +kernel
theorem dX7_at_42 : decode cX7_at 42 = .ok (.iload_n 1, 1) := by decide +kernel
theorem dX7_at_43 : decode cX7_at 43 = .ok (.iload_n 2, 1) := by decide +kernel
theorem dX7_at_44 : decode cX7_at 44 = .ok (.invokevirtual 99, 3) := by decide +kernel
theorem dX7_at_47 : decode cX7_at 47 = .ok (.ireturn, 1) := by decide +kernel
set_option maxRecDepth 20000 in
theorem ggX7_power_X7_isLamp : GoodIn wsX7_power wsX7_isLamp := goodIn_r _ [6, 7, 8, 9, 5, 10] (by decide +kernel) (by decide +kernel)
set_option maxRecDepth 20000 in
theorem gX7_power_X7_isLamp : GoodIn wsX7_power (va_wsS RX7 174 yX7_isLamp wsX7_isLamp) := goodIn_app (goodIn_of _ (by decide +kernel)) ggX7_power_X7_isLamp
set_option maxRecDepth 20000 in
theorem ggX7_power_X7_isBand : GoodIn wsX7_power wsX7_isBand := goodIn_r _ [13, 14, 8, 9, 5, 10] (by decide +kernel) (by decide +kernel)
set_option maxRecDepth 20000 in
theorem gX7_power_X7_isBand : GoodIn wsX7_power (va_wsS RX7 156 yX7_isBand wsX7_isBand) := goodIn_app (goodIn_of _ (by decide +kernel)) ggX7_power_X7_isBand
set_option maxRecDepth 20000 in
theorem ggX7_power_X7_isIn : GoodIn wsX7_power wsX7_isIn := goodIn_r _ [10] (by decide +kernel) (by decide +kernel)
set_option maxRecDepth 20000 in
theorem gX7_power_X7_isIn : GoodIn wsX7_power (va_wsS RX7 62 yX7_isIn wsX7_isIn) := goodIn_app (goodIn_of _ (by decide +kernel)) ggX7_power_X7_isIn
theorem dX7_power_0 : decode cX7_power 0 = .ok (.iload_n 1, 1) := by decide +kernel
theorem dX7_power_1 : decode cX7_power 1 = .ok (.invokestatic 174, 3) := by decide +kernel
theorem dX7_power_4 : decode cX7_power 4 = .ok (.ifCond .eq 10, 3) := by decide +kernel
theorem dX7_power_7 : decode cX7_power 7 = .ok (.iload_n 2, 1) := by decide +kernel
theorem dX7_power_8 : decode cX7_power 8 = .ok (.invokestatic 156, 3) := by decide +kernel
theorem dX7_power_11 : decode cX7_power 11 = .ok (.ifCond .ne 5, 3) := by decide +kernel
theorem dX7_power_14 : decode cX7_power 14 = .ok (.iconst (-1), 1) := by decide +kernel
theorem dX7_power_15 : decode cX7_power 15 = .ok (.ireturn, 1) := by decide +kernel
theorem dX7_power_16 : decode cX7_power 16 = .ok (.iload_n 3, 1) := by decide +kernel
theorem dX7_power_17 : decode cX7_power 17 = .ok (.i2l, 1) := by decide +kernel
theorem dX7_power_18 : decode cX7_power 18 = .ok (.lconst 0, 1) := by decide +kernel
theorem dX7_power_19 : decode cX7_power 19 = .ok (.ldc2_w 161, 3) := by decide +kernel
theorem dX7_power_22 : decode cX7_power 22 = .ok (.invokestatic 62, 3) := by decide +kernel
theorem dX7_power_25 : decode cX7_power 25 = .ok (.ifCond .ne 6, 3) := by decide +kernel
theorem dX7_power_28 : decode cX7_power 28 = .ok (.bipush (-2), 2) := by decide +kernel
theorem dX7_power_30 : decode cX7_power 30 = .ok (.ireturn, 1) := by decide +kernel
theorem dX7_power_31 : decode cX7_power 31 = .ok (.aload_n 0, 1) := by decide +kernel
theorem dX7_power_32 : decode cX7_power 32 = .ok (.getfield 9, 3) := by decide +kernel
theorem dX7_power_35 : decode cX7_power 35 = .ok (.bipush 100, 2) := by decide +kernel
theorem dX7_power_37 : decode cX7_power 37 = .ok (.iconst 5, 1) := by decide +kernel
theorem dX7_power_38 : decode cX7_power 38 = .ok (.iload_n 1, 1) := by decide +kernel
theorem dX7_power_39 : decode cX7_power 39 = .ok (.imul, 1) := by decide +kernel
theorem dX7_power_40 : decode cX7_power 40 = .ok (.iadd, 1) := by decide +kernel
theorem dX7_power_41 : decode cX7_power 41 = .ok (.iload_n 2, 1) := by decide +kernel
theorem dX7_power_42 : decode cX7_power 42 = .ok (.iadd, 1) := by decide +kernel
theorem dX7_power_43 : decode cX7_power 43 = .ok (.iaload, 1) := by decide +kernel
theorem dX7_power_44 : decode cX7_power 44 = .ok (.istore 4, 2) := by decide +kernel
theorem dX7_power_46 : decode cX7_power 46 = .ok (.aload_n 0, 1) := by decide +kernel
theorem dX7_power_47 : decode cX7_power 47 = .ok (.getfield 9, 3) := by decide +kernel
theorem dX7_power_50 : decode cX7_power 50 = .ok (.bipush 100, 2) := by decide +kernel
theorem dX7_power_52 : decode cX7_power 52 = .ok (.iconst 5, 1) := by decide +kernel
theorem dX7_power_53 : decode cX7_power 53 = .ok (.iload_n 1, 1) := by decide +kernel
theorem dX7_power_54 : decode cX7_power 54 = .ok (.imul, 1) := by decide +kernel
theorem dX7_power_55 : decode cX7_power 55 = .ok (.iadd, 1) := by decide +kernel
theorem dX7_power_56 : decode cX7_power 56 = .ok (.iload_n 2, 1) := by decide +kernel
theorem dX7_power_57 : decode cX7_power 57 = .ok (.iadd, 1) := by decide +kernel
theorem dX7_power_58 : decode cX7_power 58 = .ok (.iload_n 3, 1) := by decide +kernel
theorem dX7_power_59 : decode cX7_power 59 = .ok (.iastore, 1) := by decide +kernel
theorem dX7_power_60 : decode cX7_power 60 = .ok (.iload 4, 2) := by decide +kernel
theorem dX7_power_62 : decode cX7_power 62 = .ok (.ireturn, 1) := by decide +kernel
set_option maxRecDepth 20000 in
theorem ggX7_weight_X7_isIn : GoodIn wsX7_weight wsX7_isIn := goodIn_r _ [7] (by decide +kernel) (by decide +kernel)
set_option maxRecDepth 20000 in
theorem gX7_weight_X7_isIn : GoodIn wsX7_weight (va_wsS RX7 62 yX7_isIn wsX7_isIn) := goodIn_app (goodIn_of _ (by decide +kernel)) ggX7_weight_X7_isIn
set_option maxRecDepth 20000 in
theorem ggX7_weight_X7_isBand : GoodIn wsX7_weight wsX7_isBand := goodIn_r _ [10, 11, 4, 5, 6, 7] (by decide +kernel) (by decide +kernel)
set_option maxRecDepth 20000 in
theorem gX7_weight_X7_isBand : GoodIn wsX7_weight (va_wsS RX7 156 yX7_isBand wsX7_isBand) := goodIn_app (goodIn_of _ (by decide +kernel)) ggX7_weight_X7_isBand
theorem dX7_weight_0 : decode cX7_weight 0 = .ok (.iload_n 1, 1) := by decide +kernel
theorem dX7_weight_1 : decode cX7_weight 1 = .ok (.i2l, 1) := by decide +kernel
theorem dX7_weight_2 : decode cX7_weight 2 = .ok (.lconst 0, 1) := by decide +kernel
theorem dX7_weight_3 : decode cX7_weight 3 = .ok (.ldc2_w 66, 3) := by decide +kernel
theorem dX7_weight_6 : decode cX7_weight 6 = .ok (.invokestatic 62, 3) := by decide +kernel
theorem dX7_weight_9 : decode cX7_weight 9 = .ok (.ifCond .eq 10, 3) := by decide +kernel
theorem dX7_weight_12 : decode cX7_weight 12 = .ok (.iload_n 2, 1) := by decide +kernel
theorem dX7_weight_13 : decode cX7_weight 13 = .ok (.invokestatic 156, 3) := by decide +kernel
theorem dX7_weight_16 : decode cX7_weight 16 = .ok (.ifCond .ne 5, 3) := by decide +kernel
theorem dX7_weight_19 : decode cX7_weight 19 = .ok (.iconst (-1), 1) := by decide +kernel
theorem dX7_weight_20 : decode cX7_weight 20 = .ok (.ireturn, 1) := by decide +kernel
theorem dX7_weight_21 : decode cX7_weight 21 = .ok (.iload_n 3, 1) := by decide +kernel
theorem dX7_weight_22 : decode cX7_weight 22 = .ok (.i2l, 1) := by decide +kernel
theorem dX7_weight_23 : decode cX7_weight 23 = .ok (.lconst 0, 1) := by decide +kernel
theorem dX7_weight_24 : decode cX7_weight 24 = .ok (.ldc2_w 161, 3) := by decide +kernel
theorem dX7_weight_27 : decode cX7_weight 27 = .ok (.invokestatic 62, 3) := by decide +kernel
theorem dX7_weight_30 : decode cX7_weight 30 = .ok (.ifCond .ne 6, 3) := by decide +kernel
theorem dX7_weight_33 : decode cX7_weight 33 = .ok (.bipush (-2), 2) := by decide +kernel
theorem dX7_weight_35 : decode cX7_weight 35 = .ok (.ireturn, 1) := by decide +kernel
theorem dX7_weight_36 : decode cX7_weight 36 = .ok (.aload_n 0, 1) := by decide +kernel
theorem dX7_weight_37 : decode cX7_weight 37 = .ok (.getfield 9, 3) := by decide +kernel
theorem dX7_weight_40 : decode cX7_weight 40 = .ok (.bipush 115, 2) := by decide +kernel
theorem dX7_weight_42 : decode cX7_weight 42 = .ok (.iconst 5, 1) := by decide +kernel
theorem dX7_weight_43 : decode cX7_weight 43 = .ok (.iload_n 1, 1) := by decide +kernel
theorem dX7_weight_44 : decode cX7_weight 44 = .ok (.imul, 1) := by decide +kernel
theorem dX7_weight_45 : decode cX7_weight 45 = .ok (.iadd, 1) := by decide +kernel
theorem dX7_weight_46 : decode cX7_weight 46 = .ok (.iload_n 2, 1) := by decide +kernel
theorem dX7_weight_47 : decode cX7_weight 47 = .ok (.iadd, 1) := by decide +kernel
theorem dX7_weight_48 : decode cX7_weight 48 = .ok (.iaload, 1) := by decide +kernel
theorem dX7_weight_49 : decode cX7_weight 49 = .ok (.istore 4, 2) := by decide +kernel
theorem dX7_weight_51 : decode cX7_weight 51 = .ok (.aload_n 0, 1) := by decide +kernel
theorem dX7_weight_52 : decode cX7_weight 52 = .ok (.getfield 9, 3) := by decide +kernel
theorem dX7_weight_55 : decode cX7_weight 55 = .ok (.bipush 115, 2) := by decide +kernel
theorem dX7_weight_57 : decode cX7_weight 57 = .ok (.iconst 5, 1) := by decide +kernel
theorem dX7_weight_58 : decode cX7_weight 58 = .ok (.iload_n 1, 1) := by decide +kernel
theorem dX7_weight_59 : decode cX7_weight 59 = .ok (.imul, 1) := by decide +kernel
theorem dX7_weight_60 : decode cX7_weight 60 = .ok (.iadd, 1) := by decide +kernel
theorem dX7_weight_61 : decode cX7_weight 61 = .ok (.iload_n 2, 1) := by decide +kernel
theorem dX7_weight_62 : decode cX7_weight 62 = .ok (.iadd, 1) := by decide +kernel
theorem dX7_weight_63 : decode cX7_weight 63 = .ok (.iload_n 3, 1) := by decide +kernel
theorem dX7_weight_64 : decode cX7_weight 64 = .ok (.iastore, 1) := by decide +kernel
theorem dX7_weight_65 : decode cX7_weight 65 = .ok (.iload 4, 2) := by decide +kernel
theorem dX7_weight_67 : decode cX7_weight 67 = .ok (.ireturn, 1) := by decide +kernel
theorem dX7_common_0 : decode cX7_common 0 = .ok (.lload_n 0, 1) := by decide +kernel
theorem dX7_common_1 : decode cX7_common 1 = .ok (.lstore 4, 2) := by decide +kernel
theorem dX7_common_3 : decode cX7_common 3 = .ok (.lload_n 2, 1) := by decide +kernel
theorem dX7_common_4 : decode cX7_common 4 = .ok (.lstore 6, 2) := by decide +kernel
theorem dX7_common_6 : decode cX7_common 6 = .ok (.lload 6, 2) := by decide +kernel
theorem dX7_common_8 : decode cX7_common 8 = .ok (.lconst 0, 1) := by decide +kernel
theorem dX7_common_9 : decode cX7_common 9 = .ok (.lcmp, 1) := by decide +kernel
theorem dX7_common_10 : decode cX7_common 10 = .ok (.ifCond .eq 21, 3) := by decide +kernel
theorem dX7_common_13 : decode cX7_common 13 = .ok (.lload 4, 2) := by decide +kernel
theorem dX7_common_15 : decode cX7_common 15 = .ok (.lload 6, 2) := by decide +kernel
theorem dX7_common_17 : decode cX7_common 17 = .ok (.lrem, 1) := by decide +kernel
theorem dX7_common_18 : decode cX7_common 18 = .ok (.lstore 8, 2) := by decide +kernel
theorem dX7_common_20 : decode cX7_common 20 = .ok (.lload 6, 2) := by decide +kernel
theorem dX7_common_22 : decode cX7_common 22 = .ok (.lstore 4, 2) := by decide +kernel
theorem dX7_common_24 : decode cX7_common 24 = .ok (.lload 8, 2) := by decide +kernel
theorem dX7_common_26 : decode cX7_common 26 = .ok (.lstore 6, 2) := by decide +kernel
theorem dX7_common_28 : decode cX7_common 28 = .ok (.goto (-22), 3) := by decide +kernel
theorem dX7_common_31 : decode cX7_common 31 = .ok (.lload 4, 2) := by decide +kernel
theorem dX7_common_33 : decode cX7_common 33 = .ok (.lreturn, 1) := by decide +kernel
set_option maxRecDepth 20000 in
theorem ggX7_partOf_X7_common : GoodIn wsX7_partOf wsX7_common := goodIn_r _ [4] (by decide +kernel) (by decide +kernel)
set_option maxRecDepth 20000 in
theorem gX7_partOf_X7_common : GoodIn wsX7_partOf (va_wsS RX7 177 yX7_common wsX7_common) := goodIn_app (goodIn_of _ (by decide +kernel)) ggX7_partOf_X7_common
theorem dX7_partOf_0 : decode cX7_partOf 0 = .ok (.iload 4, 2) := by decide +kernel
theorem dX7_partOf_2 : decode cX7_partOf 2 = .ok (.ifCond .ne 7, 3) := by decide +kernel
theorem dX7_partOf_5 : decode cX7_partOf 5 = .ok (.lload_n 0, 1) := by decide +kernel
theorem dX7_partOf_6 : decode cX7_partOf 6 = .ok (.goto 4, 3) := by decide +kernel
theorem dX7_partOf_9 : decode cX7_partOf 9 = .ok (.lload_n 2, 1) := by decide +kernel
theorem dX7_partOf_10 : decode cX7_partOf 10 = .ok (.lload_n 0, 1) := by decide +kernel
theorem dX7_partOf_11 : decode cX7_partOf 11 = .ok (.lload_n 2, 1) := by decide +kernel
theorem dX7_partOf_12 : decode cX7_partOf 12 = .ok (.invokestatic 177, 3) := by decide +kernel
theorem dX7_partOf_15 : decode cX7_partOf 15 = .ok (.ldiv, 1) := by decide +kernel
theorem dX7_partOf_16 : decode cX7_partOf 16 = .ok (.lreturn, 1) := by decide +kernel
set_option maxRecDepth 20000 in
theorem ggX7_through_X7_isStack : GoodIn wsX7_through wsX7_isStack := goodIn_r _ [8, 9, 10, 11, 7, 12, 64, 65, 66, 67, 68, 69, 70, 71, 72, 73, 74, 75, 76, 77, 78, 79, 80, 81, 82, 83, 84, 85, 86, 87, 88, 89] (by decide +kernel) (by decide +kernel)
set_option maxRecDepth 20000 in
theorem gX7_through_X7_isStack : GoodIn wsX7_through (wsV RX7 169 RX7 yX7_isStack wsX7_isStack) := goodIn_app (goodIn_of _ (by decide +kernel)) ggX7_through_X7_isStack
set_option maxRecDepth 20000 in
theorem ggX7_through_X7_isBand : GoodIn wsX7_through wsX7_isBand := goodIn_r _ [15, 16, 10, 11, 7, 12] (by decide +kernel) (by decide +kernel)
set_option maxRecDepth 20000 in
theorem gX7_through_X7_isBand : GoodIn wsX7_through (va_wsS RX7 156 yX7_isBand wsX7_isBand) := goodIn_app (goodIn_of _ (by decide +kernel)) ggX7_through_X7_isBand
set_option maxRecDepth 20000 in
theorem ggX7_through_X7_isIn : GoodIn wsX7_through wsX7_isIn := goodIn_r _ [12] (by decide +kernel) (by decide +kernel)
set_option maxRecDepth 20000 in
theorem gX7_through_X7_isIn : GoodIn wsX7_through (va_wsS RX7 62 yX7_isIn wsX7_isIn) := goodIn_app (goodIn_of _ (by decide +kernel)) ggX7_through_X7_isIn
set_option maxRecDepth 20000 in
theorem ggX7_through_X7_shines : GoodIn wsX7_through wsX7_shines := goodIn_r _ [20, 21, 22, 23, 7, 24, 3, 2, 25, 26, 27, 28, 9, 29, 30, 31, 32, 33, 34, 35, 36, 37, 38, 39, 40, 41, 42, 43, 44, 45, 46, 47, 48, 49, 50, 51, 52, 53, 54, 55, 56, 57, 64, 65, 66, 67, 68, 69, 70, 71, 72, 73, 74, 75, 76, 77, 78, 79, 80, 81, 82, 83, 84, 85, 86, 87, 88, 89] (by decide +kernel) (by decide +kernel)
set_option maxRecDepth 20000 in
theorem gX7_through_X7_shines : GoodIn wsX7_through (wsV RX7 183 RX7 yX7_shines wsX7_shines) := goodIn_app (goodIn_of _ (by decide +kernel)) ggX7_through_X7_shines
set_option maxRecDepth 20000 in
theorem ggX7_through_X7_partOf : GoodIn wsX7_through wsX7_partOf := goodIn_r _ [60, 61, 62, 7, 63] (by decide +kernel) (by decide +kernel)
set_option maxRecDepth 20000 in
theorem gX7_through_X7_partOf : GoodIn wsX7_through (va_wsS RX7 186 yX7_partOf wsX7_partOf) := goodIn_app (goodIn_of _ (by decide +kernel)) ggX7_through_X7_partOf
theorem dX7_through_0 : decode cX7_through 0 = .ok (.aload_n 0, 1) := by decide +kernel
theorem dX7_through_1 : decode cX7_through 1 = .ok (.iload_n 1, 1) := by decide +kernel
theorem dX7_through_2 : decode cX7_through 2 = .ok (.invokevirtual 169, 3) := by decide +kernel
theorem dX7_through_5 : decode cX7_through 5 = .ok (.ifCond .eq 20, 3) := by decide +kernel
theorem dX7_through_8 : decode cX7_through 8 = .ok (.iload_n 2, 1) := by decide +kernel
theorem dX7_through_9 : decode cX7_through 9 = .ok (.invokestatic 156, 3) := by decide +kernel
theorem dX7_through_12 : decode cX7_through 12 = .ok (.ifCond .eq 13, 3) := by decide +kernel
theorem dX7_through_15 : decode cX7_through 15 = .ok (.iload_n 3, 1) := by decide +kernel
theorem dX7_through_16 : decode cX7_through 16 = .ok (.i2l, 1) := by decide +kernel
theorem dX7_through_17 : decode cX7_through 17 = .ok (.lconst 0, 1) := by decide +kernel
theorem dX7_through_18 : decode cX7_through 18 = .ok (.lconst 1, 1) := by decide +kernel
theorem dX7_through_19 : decode cX7_through 19 = .ok (.invokestatic 62, 3) := by decide +kernel
theorem dX7_through_22 : decode cX7_through 22 = .ok (.ifCond .ne 7, 3) := by decide +kernel
theorem dX7_through_25 : decode cX7_through 25 = .ok (.ldc2_w 181, 3) := by decide +kernel
theorem dX7_through_28 : decode cX7_through 28 = .ok (.lreturn, 1) := by decide +kernel
theorem dX7_through_29 : decode cX7_through 29 = .ok (.aload_n 0, 1) := by decide +kernel
theorem dX7_through_30 : decode cX7_through 30 = .ok (.iload_n 1, 1) := by decide +kernel
theorem dX7_through_31 : decode cX7_through 31 = .ok (.invokevirtual 183, 3) := by decide +kernel
theorem dX7_through_34 : decode cX7_through 34 = .ok (.aload_n 0, 1) := by decide +kernel
theorem dX7_through_35 : decode cX7_through 35 = .ok (.getfield 18, 3) := by decide +kernel
theorem dX7_through_38 : decode cX7_through 38 = .ok (.iload_n 2, 1) := by decide +kernel
theorem dX7_through_39 : decode cX7_through 39 = .ok (.laload, 1) := by decide +kernel
theorem dX7_through_40 : decode cX7_through 40 = .ok (.aload_n 0, 1) := by decide +kernel
theorem dX7_through_41 : decode cX7_through 41 = .ok (.getfield 84, 3) := by decide +kernel
theorem dX7_through_44 : decode cX7_through 44 = .ok (.iload_n 3, 1) := by decide +kernel
theorem dX7_through_45 : decode cX7_through 45 = .ok (.invokestatic 186, 3) := by decide +kernel
theorem dX7_through_48 : decode cX7_through 48 = .ok (.lreturn, 1) := by decide +kernel
set_option maxRecDepth 20000 in
theorem ggX7_sees_X7_isStack : GoodIn wsX7_sees wsX7_isStack := goodIn_r _ [9, 10, 11, 12, 8, 13, 69, 70, 71, 72, 73, 74, 75, 76, 77, 78, 79, 80, 81, 82, 83, 84, 85, 86, 87, 88, 89, 90, 91, 92, 93, 94] (by decide +kernel) (by decide +kernel)
set_option maxRecDepth 20000 in
theorem gX7_sees_X7_isStack : GoodIn wsX7_sees (wsV RX7 169 RX7 yX7_isStack wsX7_isStack) := goodIn_app (goodIn_of _ (by decide +kernel)) ggX7_sees_X7_isStack
set_option maxRecDepth 20000 in
theorem ggX7_sees_X7_isLamp : GoodIn wsX7_sees wsX7_isLamp := goodIn_r _ [16, 2, 11, 12, 8, 13] (by decide +kernel) (by decide +kernel)
set_option maxRecDepth 20000 in
theorem gX7_sees_X7_isLamp : GoodIn wsX7_sees (va_wsS RX7 174 yX7_isLamp wsX7_isLamp) := goodIn_app (goodIn_of _ (by decide +kernel)) ggX7_sees_X7_isLamp
set_option maxRecDepth 20000 in
theorem ggX7_sees_X7_isIn : GoodIn wsX7_sees wsX7_isIn := goodIn_r _ [13] (by decide +kernel) (by decide +kernel)
set_option maxRecDepth 20000 in
theorem gX7_sees_X7_isIn : GoodIn wsX7_sees (va_wsS RX7 62 yX7_isIn wsX7_isIn) := goodIn_app (goodIn_of _ (by decide +kernel)) ggX7_sees_X7_isIn
set_option maxRecDepth 20000 in
theorem ggX7_sees_X7_shines : GoodIn wsX7_sees wsX7_shines := goodIn_r _ [20, 21, 22, 23, 8, 24, 4, 25, 26, 27, 28, 29, 10, 30, 31, 32, 33, 34, 35, 36, 37, 38, 39, 40, 41, 42, 43, 44, 45, 46, 47, 48, 49, 50, 51, 52, 53, 54, 55, 56, 57, 58, 69, 70, 71, 72, 73, 74, 75, 76, 77, 78, 79, 80, 81, 82, 83, 84, 85, 86, 87, 88, 89, 90, 91, 92, 93, 94] (by decide +kernel) (by decide +kernel)
set_option maxRecDepth 20000 in
theorem gX7_sees_X7_shines : GoodIn wsX7_sees (wsV RX7 183 RX7 yX7_shines wsX7_shines) := goodIn_app (goodIn_of _ (by decide +kernel)) ggX7_sees_X7_shines
set_option maxRecDepth 20000 in
theorem ggX7_sees_X7_seen : GoodIn wsX7_sees wsX7_seen := goodIn_r _ [62, 1, 10, 25, 69, 70, 71, 72, 73, 74, 75, 76, 77, 78, 79, 80, 81, 82, 83, 84, 85, 86, 87, 88, 89, 90, 91, 92, 93, 94] (by decide +kernel) (by decide +kernel)
set_option maxRecDepth 20000 in
theorem gX7_sees_X7_seen : GoodIn wsX7_sees (wsV RX7 108 RX7 yX7_seen wsX7_seen) := goodIn_app (goodIn_of _ (by decide +kernel)) ggX7_sees_X7_seen
set_option maxRecDepth 20000 in
theorem ggX7_sees_X7_partOf : GoodIn wsX7_sees wsX7_partOf := goodIn_r _ [65, 66, 67, 8, 68] (by decide +kernel) (by decide +kernel)
set_option maxRecDepth 20000 in
theorem gX7_sees_X7_partOf : GoodIn wsX7_sees (va_wsS RX7 186 yX7_partOf wsX7_partOf) := goodIn_app (goodIn_of _ (by decide +kernel)) ggX7_sees_X7_partOf
theorem dX7_sees_0 : decode cX7_sees 0 = .ok (.aload_n 0, 1) := by decide +kernel
theorem dX7_sees_1 : decode cX7_sees 1 = .ok (.iload_n 1, 1) := by decide +kernel
theorem dX7_sees_2 : decode cX7_sees 2 = .ok (.invokevirtual 169, 3) := by decide +kernel
theorem dX7_sees_5 : decode cX7_sees 5 = .ok (.ifCond .eq 46, 3) := by decide +kernel
theorem dX7_sees_8 : decode cX7_sees 8 = .ok (.iload_n 2, 1) := by decide +kernel
theorem dX7_sees_9 : decode cX7_sees 9 = .ok (.invokestatic 174, 3) := by decide +kernel
theorem dX7_sees_12 : decode cX7_sees 12 = .ok (.ifCond .eq 39, 3) := by decide +kernel
theorem dX7_sees_15 : decode cX7_sees 15 = .ok (.iload_n 3, 1) := by decide +kernel
theorem dX7_sees_16 : decode cX7_sees 16 = .ok (.i2l, 1) := by decide +kernel
theorem dX7_sees_17 : decode cX7_sees 17 = .ok (.lconst 0, 1) := by decide +kernel
theorem dX7_sees_18 : decode cX7_sees 18 = .ok (.ldc2_w 106, 3) := by decide +kernel
theorem dX7_sees_21 : decode cX7_sees 21 = .ok (.invokestatic 62, 3) := by decide +kernel
theorem dX7_sees_24 : decode cX7_sees 24 = .ok (.ifCond .eq 27, 3) := by decide +kernel
theorem dX7_sees_27 : decode cX7_sees 27 = .ok (.iload 4, 2) := by decide +kernel
theorem dX7_sees_29 : decode cX7_sees 29 = .ok (.i2l, 1) := by decide +kernel
theorem dX7_sees_30 : decode cX7_sees 30 = .ok (.lconst 0, 1) := by decide +kernel
theorem dX7_sees_31 : decode cX7_sees 31 = .ok (.ldc2_w 66, 3) := by decide +kernel
theorem dX7_sees_34 : decode cX7_sees 34 = .ok (.invokestatic 62, 3) := by decide +kernel
theorem dX7_sees_37 : decode cX7_sees 37 = .ok (.ifCond .eq 14, 3) := by decide +kernel
theorem dX7_sees_40 : decode cX7_sees 40 = .ok (.iload 5, 2) := by decide +kernel
theorem dX7_sees_42 : decode cX7_sees 42 = .ok (.i2l, 1) := by decide +kernel
theorem dX7_sees_43 : decode cX7_sees 43 = .ok (.lconst 0, 1) := by decide +kernel
theorem dX7_sees_44 : decode cX7_sees 44 = .ok (.lconst 1, 1) := by decide +kernel
theorem dX7_sees_45 : decode cX7_sees 45 = .ok (.invokestatic 62, 3) := by decide +kernel
theorem dX7_sees_48 : decode cX7_sees 48 = .ok (.ifCond .ne 7, 3) := by decide +kernel
theorem dX7_sees_51 : decode cX7_sees 51 = .ok (.ldc2_w 181, 3) := by decide +kernel
theorem dX7_sees_54 : decode cX7_sees 54 = .ok (.lreturn, 1) := by decide +kernel
theorem dX7_sees_55 : decode cX7_sees 55 = .ok (.aload_n 0, 1) := by decide +kernel
theorem dX7_sees_56 : decode cX7_sees 56 = .ok (.iload_n 1, 1) := by decide +kernel
theorem dX7_sees_57 : decode cX7_sees 57 = .ok (.invokevirtual 183, 3) := by decide +kernel
theorem dX7_sees_60 : decode cX7_sees 60 = .ok (.aload_n 0, 1) := by decide +kernel
theorem dX7_sees_61 : decode cX7_sees 61 = .ok (.iload_n 2, 1) := by decide +kernel
theorem dX7_sees_62 : decode cX7_sees 62 = .ok (.iload_n 3, 1) := by decide +kernel
theorem dX7_sees_63 : decode cX7_sees 63 = .ok (.iload 4, 2) := by decide +kernel
theorem dX7_sees_65 : decode cX7_sees 65 = .ok (.invokevirtual 108, 3) := by decide +kernel
theorem dX7_sees_68 : decode cX7_sees 68 = .ok (.iload_n 3, 1) := by decide +kernel
theorem dX7_sees_69 : decode cX7_sees 69 = .ok (.ifCond .ne 10, 3) := by decide +kernel
theorem dX7_sees_72 : decode cX7_sees 72 = .ok (.aload_n 0, 1) := by decide +kernel
theorem dX7_sees_73 : decode cX7_sees 73 = .ok (.getfield 84, 3) := by decide +kernel
theorem dX7_sees_76 : decode cX7_sees 76 = .ok (.goto 11, 3) := by decide +kernel
theorem dX7_sees_79 : decode cX7_sees 79 = .ok (.ldc2_w 106, 3) := by decide +kernel
theorem dX7_sees_82 : decode cX7_sees 82 = .ok (.aload_n 0, 1) := by decide +kernel
theorem dX7_sees_83 : decode cX7_sees 83 = .ok (.getfield 84, 3) := by decide +kernel
theorem dX7_sees_86 : decode cX7_sees 86 = .ok (.lmul, 1) := by decide +kernel
theorem dX7_sees_87 : decode cX7_sees 87 = .ok (.iload 5, 2) := by decide +kernel
theorem dX7_sees_89 : decode cX7_sees 89 = .ok (.invokestatic 186, 3) := by decide +kernel
theorem dX7_sees_92 : decode cX7_sees 92 = .ok (.lreturn, 1) := by decide +kernel
set_option maxRecDepth 20000 in
theorem ggX7_shade_X7_isStack : GoodIn wsX7_shade wsX7_isStack := goodIn_r _ [7, 8, 9, 10, 6, 11, 66, 67, 68, 69, 70, 71, 72, 73, 74, 75, 76, 77, 78, 79, 80, 81, 82, 83, 84, 85, 86, 87, 88, 89, 90, 91] (by decide +kernel) (by decide +kernel)
set_option maxRecDepth 20000 in
theorem gX7_shade_X7_isStack : GoodIn wsX7_shade (wsV RX7 169 RX7 yX7_isStack wsX7_isStack) := goodIn_app (goodIn_of _ (by decide +kernel)) ggX7_shade_X7_isStack
set_option maxRecDepth 20000 in
theorem ggX7_shade_X7_isLamp : GoodIn wsX7_shade wsX7_isLamp := goodIn_r _ [14, 2, 9, 10, 6, 11] (by decide +kernel) (by decide +kernel)
set_option maxRecDepth 20000 in
theorem gX7_shade_X7_isLamp : GoodIn wsX7_shade (va_wsS RX7 174 yX7_isLamp wsX7_isLamp) := goodIn_app (goodIn_of _ (by decide +kernel)) ggX7_shade_X7_isLamp
set_option maxRecDepth 20000 in
theorem ggX7_shade_X7_isIn : GoodIn wsX7_shade wsX7_isIn := goodIn_r _ [11] (by decide +kernel) (by decide +kernel)
set_option maxRecDepth 20000 in
theorem gX7_shade_X7_isIn : GoodIn wsX7_shade (va_wsS RX7 62 yX7_isIn wsX7_isIn) := goodIn_app (goodIn_of _ (by decide +kernel)) ggX7_shade_X7_isIn
set_option maxRecDepth 20000 in
theorem ggX7_shade_X7_shines : GoodIn wsX7_shade wsX7_shines := goodIn_r _ [18, 19, 20, 21, 6, 22, 23, 24, 25, 26, 27, 28, 8, 29, 30, 31, 32, 33, 34, 35, 36, 37, 38, 39, 40, 41, 42, 43, 44, 45, 46, 47, 48, 49, 50, 51, 52, 53, 54, 55, 56, 57, 66, 67, 68, 69, 70, 71, 72, 73, 74, 75, 76, 77, 78, 79, 80, 81, 82, 83, 84, 85, 86, 87, 88, 89, 90, 91] (by decide +kernel) (by decide +kernel)
set_option maxRecDepth 20000 in
theorem gX7_shade_X7_shines : GoodIn wsX7_shade (wsV RX7 183 RX7 yX7_shines wsX7_shines) := goodIn_app (goodIn_of _ (by decide +kernel)) ggX7_shade_X7_shines
set_option maxRecDepth 20000 in
theorem ggX7_shade_X7_shadeOf : GoodIn wsX7_shade wsX7_shadeOf := goodIn_r _ [61, 23, 1, 62, 63, 64, 6, 65, 8, 24, 66, 67, 68, 69, 70, 71, 72, 73, 74, 75, 76, 77, 78, 79, 80, 81, 82, 83, 84, 85, 86, 87, 88, 89, 90, 91] (by decide +kernel) (by decide +kernel)
set_option maxRecDepth 20000 in
theorem gX7_shade_X7_shadeOf : GoodIn wsX7_shade (wsV RX7 112 RX7 yX7_shadeOf wsX7_shadeOf) := goodIn_app (goodIn_of _ (by decide +kernel)) ggX7_shade_X7_shadeOf
theorem dX7_shade_0 : decode cX7_shade 0 = .ok (.aload_n 0, 1) := by decide +kernel
theorem dX7_shade_1 : decode cX7_shade 1 = .ok (.iload_n 1, 1) := by decide +kernel
theorem dX7_shade_2 : decode cX7_shade 2 = .ok (.invokevirtual 169, 3) := by decide +kernel
theorem dX7_shade_5 : decode cX7_shade 5 = .ok (.ifCond .eq 35, 3) := by decide +kernel
theorem dX7_shade_8 : decode cX7_shade 8 = .ok (.iload_n 2, 1) := by decide +kernel
theorem dX7_shade_9 : decode cX7_shade 9 = .ok (.invokestatic 174, 3) := by decide +kernel
theorem dX7_shade_12 : decode cX7_shade 12 = .ok (.ifCond .eq 28, 3) := by decide +kernel
theorem dX7_shade_15 : decode cX7_shade 15 = .ok (.iload_n 3, 1) := by decide +kernel
theorem dX7_shade_16 : decode cX7_shade 16 = .ok (.i2l, 1) := by decide +kernel
theorem dX7_shade_17 : decode cX7_shade 17 = .ok (.lconst 0, 1) := by decide +kernel
theorem dX7_shade_18 : decode cX7_shade 18 = .ok (.ldc2_w 106, 3) := by decide +kernel
theorem dX7_shade_21 : decode cX7_shade 21 = .ok (.invokestatic 62, 3) := by decide +kernel
theorem dX7_shade_24 : decode cX7_shade 24 = .ok (.ifCond .eq 16, 3) := by decide +kernel
theorem dX7_shade_27 : decode cX7_shade 27 = .ok (.iload 4, 2) := by decide +kernel
theorem dX7_shade_29 : decode cX7_shade 29 = .ok (.i2l, 1) := by decide +kernel
theorem dX7_shade_30 : decode cX7_shade 30 = .ok (.lconst 0, 1) := by decide +kernel
theorem dX7_shade_31 : decode cX7_shade 31 = .ok (.ldc2_w 66, 3) := by decide +kernel
theorem dX7_shade_34 : decode cX7_shade 34 = .ok (.invokestatic 62, 3) := by decide +kernel
theorem dX7_shade_37 : decode cX7_shade 37 = .ok (.ifCond .ne 5, 3) := by decide +kernel
theorem dX7_shade_40 : decode cX7_shade 40 = .ok (.iconst (-1), 1) := by decide +kernel
theorem dX7_shade_41 : decode cX7_shade 41 = .ok (.ireturn, 1) := by decide +kernel
theorem dX7_shade_42 : decode cX7_shade 42 = .ok (.aload_n 0, 1) := by decide +kernel
theorem dX7_shade_43 : decode cX7_shade 43 = .ok (.iload_n 1, 1) := by decide +kernel
theorem dX7_shade_44 : decode cX7_shade 44 = .ok (.invokevirtual 183, 3) := by decide +kernel
theorem dX7_shade_47 : decode cX7_shade 47 = .ok (.aload_n 0, 1) := by decide +kernel
theorem dX7_shade_48 : decode cX7_shade 48 = .ok (.iload_n 2, 1) := by decide +kernel
theorem dX7_shade_49 : decode cX7_shade 49 = .ok (.iload_n 3, 1) := by decide +kernel
theorem dX7_shade_50 : decode cX7_shade 50 = .ok (.iload 4, 2) := by decide +kernel
theorem dX7_shade_52 : decode cX7_shade 52 = .ok (.invokevirtual 112, 3) := by decide +kernel
theorem dX7_shade_55 : decode cX7_shade 55 = .ok (.ireturn, 1) := by decide +kernel
set_option maxRecDepth 20000 in
theorem ggX7_findSeen_X7_shines : GoodIn wsX7_findSeen wsX7_shines := goodIn_r _ [7, 8, 9, 10, 6, 11, 12, 13, 14, 15, 16, 17, 18, 19, 20, 21, 22, 23, 24, 25, 26, 1, 27, 28, 29, 30, 31, 32, 33, 34, 35, 36, 37, 38, 39, 40, 41, 42, 43, 44, 45, 46, 52, 53, 54, 55, 56, 57, 58, 59, 60, 61, 62, 63, 64, 65, 66, 67, 68, 69, 70, 71, 72, 73, 74, 75, 76, 77] (by decide +kernel) (by decide +kernel)
set_option maxRecDepth 20000 in
theorem gX7_findSeen_X7_shines : GoodIn wsX7_findSeen (wsV RX7 183 RX7 yX7_shines wsX7_shines) := goodIn_app (goodIn_of _ (by decide +kernel)) ggX7_findSeen_X7_shines
set_option maxRecDepth 20000 in
theorem ggX7_findSeen_X7_size : GoodIn wsX7_findSeen wsX7_size := goodIn_r _ [17, 18, 52, 53, 54, 55, 56, 57, 58, 59, 60, 61, 62, 63, 64, 65, 66, 67, 68, 69, 70, 71, 72, 73, 74, 75, 76, 77] (by decide +kernel) (by decide +kernel)
set_option maxRecDepth 20000 in
theorem gX7_findSeen_X7_size : GoodIn wsX7_findSeen (wsV RX7 96 RX7 yX7_size wsX7_size) := goodIn_app (goodIn_of _ (by decide +kernel)) ggX7_findSeen_X7_size
set_option maxRecDepth 20000 in
theorem ggX7_findSeen_X7_seen : GoodIn wsX7_findSeen wsX7_seen := goodIn_r _ [50, 51, 18, 13, 52, 53, 54, 55, 56, 57, 58, 59, 60, 61, 62, 63, 64, 65, 66, 67, 68, 69, 70, 71, 72, 73, 74, 75, 76, 77] (by decide +kernel) (by decide +kernel)
set_option maxRecDepth 20000 in
theorem gX7_findSeen_X7_seen : GoodIn wsX7_findSeen (wsV RX7 108 RX7 yX7_seen wsX7_seen) := goodIn_app (goodIn_of _ (by decide +kernel)) ggX7_findSeen_X7_seen
theorem dX7_findSeen_0 : decode cX7_findSeen 0 = .ok (.aload_n 0, 1) := by decide +kernel
theorem dX7_findSeen_1 : decode cX7_findSeen 1 = .ok (.iload_n 1, 1) := by decide +kernel
theorem dX7_findSeen_2 : decode cX7_findSeen 2 = .ok (.invokevirtual 183, 3) := by decide +kernel
theorem dX7_findSeen_5 : decode cX7_findSeen 5 = .ok (.lconst 1, 1) := by decide +kernel
theorem dX7_findSeen_6 : decode cX7_findSeen 6 = .ok (.lstore_n 3, 1) := by decide +kernel
theorem dX7_findSeen_7 : decode cX7_findSeen 7 = .ok (.aload_n 0, 1) := by decide +kernel
theorem dX7_findSeen_8 : decode cX7_findSeen 8 = .ok (.iload_n 1, 1) := by decide +kernel
theorem dX7_findSeen_9 : decode cX7_findSeen 9 = .ok (.invokevirtual 96, 3) := by decide +kernel
theorem dX7_findSeen_12 : decode cX7_findSeen 12 = .ok (.istore 5, 2) := by decide +kernel
theorem dX7_findSeen_14 : decode cX7_findSeen 14 = .ok (.iload 5, 2) := by decide +kernel
theorem dX7_findSeen_16 : decode cX7_findSeen 16 = .ok (.bipush 6, 2) := by decide +kernel
theorem dX7_findSeen_18 : decode cX7_findSeen 18 = .ok (.if_icmp .ge 15, 3) := by decide +kernel
theorem dX7_findSeen_21 : decode cX7_findSeen 21 = .ok (.lload_n 3, 1) := by decide +kernel
theorem dX7_findSeen_22 : decode cX7_findSeen 22 = .ok (.ldc2_w 88, 3) := by decide +kernel
theorem dX7_findSeen_25 : decode cX7_findSeen 25 = .ok (.lmul, 1) := by decide +kernel
theorem dX7_findSeen_26 : decode cX7_findSeen 26 = .ok (.lstore_n 3, 1) := by decide +kernel
theorem dX7_findSeen_27 : decode cX7_findSeen 27 = .ok (.iinc 5 1, 3) := by decide +kernel
theorem dX7_findSeen_30 : decode cX7_findSeen 30 = .ok (.goto (-16), 3) := by decide +kernel
theorem dX7_findSeen_33 : decode cX7_findSeen 33 = .ok (.iconst 0, 1) := by decide +kernel
theorem dX7_findSeen_34 : decode cX7_findSeen 34 = .ok (.istore 5, 2) := by decide +kernel
theorem dX7_findSeen_36 : decode cX7_findSeen 36 = .ok (.iload 5, 2) := by decide +kernel
theorem dX7_findSeen_38 : decode cX7_findSeen 38 = .ok (.iconst 3, 1) := by decide +kernel
theorem dX7_findSeen_39 : decode cX7_findSeen 39 = .ok (.if_icmp .ge 26, 3) := by decide +kernel
theorem dX7_findSeen_42 : decode cX7_findSeen 42 = .ok (.aload_n 0, 1) := by decide +kernel
theorem dX7_findSeen_43 : decode cX7_findSeen 43 = .ok (.getfield 44, 3) := by decide +kernel
theorem dX7_findSeen_46 : decode cX7_findSeen 46 = .ok (.iload 5, 2) := by decide +kernel
theorem dX7_findSeen_48 : decode cX7_findSeen 48 = .ok (.aload_n 0, 1) := by decide +kernel
theorem dX7_findSeen_49 : decode cX7_findSeen 49 = .ok (.iload_n 2, 1) := by decide +kernel
theorem dX7_findSeen_50 : decode cX7_findSeen 50 = .ok (.iconst 0, 1) := by decide +kernel
theorem dX7_findSeen_51 : decode cX7_findSeen 51 = .ok (.iload 5, 2) := by decide +kernel
theorem dX7_findSeen_53 : decode cX7_findSeen 53 = .ok (.invokevirtual 108, 3) := by decide +kernel
theorem dX7_findSeen_56 : decode cX7_findSeen 56 = .ok (.lload_n 3, 1) := by decide +kernel
theorem dX7_findSeen_57 : decode cX7_findSeen 57 = .ok (.lmul, 1) := by decide +kernel
theorem dX7_findSeen_58 : decode cX7_findSeen 58 = .ok (.lastore, 1) := by decide +kernel
theorem dX7_findSeen_59 : decode cX7_findSeen 59 = .ok (.iinc 5 1, 3) := by decide +kernel
theorem dX7_findSeen_62 : decode cX7_findSeen 62 = .ok (.goto (-26), 3) := by decide +kernel
theorem dX7_findSeen_65 : decode cX7_findSeen 65 = .ok (.return_, 1) := by decide +kernel
set_option maxRecDepth 20000 in
theorem ggX7_areAlike_X7_findSeen : GoodIn wsX7_areAlike wsX7_findSeen := goodIn_r _ [6, 7, 1, 8, 9, 10, 5, 11, 12, 13, 14, 15, 16, 17, 18, 19, 20, 21, 22, 23, 24, 25, 26, 27, 28, 29, 30, 31, 32, 33, 34, 35, 36, 37, 38, 39, 40, 41, 42, 43, 44, 45, 46, 47, 48, 49, 50, 51, 52, 53, 54, 55, 56, 57, 58, 59, 60, 61, 62, 63, 64, 65, 66, 67, 68, 69, 70, 71, 72, 73, 74, 75, 76, 77, 78, 79, 80, 81] (by decide +kernel) (by decide +kernel)
set_option maxRecDepth 20000 in
theorem gX7_areAlike_X7_findSeen : GoodIn wsX7_areAlike (wsV RX7 190 RX7 yX7_findSeen wsX7_findSeen) := goodIn_app (goodIn_of _ (by decide +kernel)) ggX7_areAlike_X7_findSeen
theorem dX7_areAlike_0 : decode cX7_areAlike 0 = .ok (.aload_n 0, 1) := by decide +kernel
theorem dX7_areAlike_1 : decode cX7_areAlike 1 = .ok (.iload_n 1, 1) := by decide +kernel
theorem dX7_areAlike_2 : decode cX7_areAlike 2 = .ok (.iload_n 3, 1) := by decide +kernel
theorem dX7_areAlike_3 : decode cX7_areAlike 3 = .ok (.invokevirtual 190, 3) := by decide +kernel
theorem dX7_areAlike_6 : decode cX7_areAlike 6 = .ok (.aload_n 0, 1) := by decide +kernel
theorem dX7_areAlike_7 : decode cX7_areAlike 7 = .ok (.getfield 44, 3) := by decide +kernel
theorem dX7_areAlike_10 : decode cX7_areAlike 10 = .ok (.iconst 0, 1) := by decide +kernel
theorem dX7_areAlike_11 : decode cX7_areAlike 11 = .ok (.laload, 1) := by decide +kernel
theorem dX7_areAlike_12 : decode cX7_areAlike 12 = .ok (.lstore 4, 2) := by decide +kernel
theorem dX7_areAlike_14 : decode cX7_areAlike 14 = .ok (.aload_n 0, 1) := by decide +kernel
theorem dX7_areAlike_15 : decode cX7_areAlike 15 = .ok (.getfield 44, 3) := by decide +kernel
theorem dX7_areAlike_18 : decode cX7_areAlike 18 = .ok (.iconst 1, 1) := by decide +kernel
theorem dX7_areAlike_19 : decode cX7_areAlike 19 = .ok (.laload, 1) := by decide +kernel
theorem dX7_areAlike_20 : decode cX7_areAlike 20 = .ok (.lstore 6, 2) := by decide +kernel
theorem dX7_areAlike_22 : decode cX7_areAlike 22 = .ok (.aload_n 0, 1) := by decide +kernel
theorem dX7_areAlike_23 : decode cX7_areAlike 23 = .ok (.getfield 44, 3) := by decide +kernel
theorem dX7_areAlike_26 : decode cX7_areAlike 26 = .ok (.iconst 2, 1) := by decide +kernel
theorem dX7_areAlike_27 : decode cX7_areAlike 27 = .ok (.laload, 1) := by decide +kernel
theorem dX7_areAlike_28 : decode cX7_areAlike 28 = .ok (.lstore 8, 2) := by decide +kernel
theorem dX7_areAlike_30 : decode cX7_areAlike 30 = .ok (.aload_n 0, 1) := by decide +kernel
theorem dX7_areAlike_31 : decode cX7_areAlike 31 = .ok (.iload_n 2, 1) := by decide +kernel
theorem dX7_areAlike_32 : decode cX7_areAlike 32 = .ok (.iload_n 3, 1) := by decide +kernel
theorem dX7_areAlike_33 : decode cX7_areAlike 33 = .ok (.invokevirtual 190, 3) := by decide +kernel
theorem dX7_areAlike_36 : decode cX7_areAlike 36 = .ok (.lload 4, 2) := by decide +kernel
theorem dX7_areAlike_38 : decode cX7_areAlike 38 = .ok (.aload_n 0, 1) := by decide +kernel
theorem dX7_areAlike_39 : decode cX7_areAlike 39 = .ok (.getfield 44, 3) := by decide +kernel
theorem dX7_areAlike_42 : decode cX7_areAlike 42 = .ok (.iconst 0, 1) := by decide +kernel
theorem dX7_areAlike_43 : decode cX7_areAlike 43 = .ok (.laload, 1) := by decide +kernel
theorem dX7_areAlike_44 : decode cX7_areAlike 44 = .ok (.lcmp, 1) := by decide +kernel
theorem dX7_areAlike_45 : decode cX7_areAlike 45 = .ok (.ifCond .ne 31, 3) := by decide +kernel
theorem dX7_areAlike_48 : decode cX7_areAlike 48 = .ok (.lload 6, 2) := by decide +kernel
theorem dX7_areAlike_50 : decode cX7_areAlike 50 = .ok (.aload_n 0, 1) := by decide +kernel
theorem dX7_areAlike_51 : decode cX7_areAlike 51 = .ok (.getfield 44, 3) := by decide +kernel
theorem dX7_areAlike_54 : decode cX7_areAlike 54 = .ok (.iconst 1, 1) := by decide +kernel
theorem dX7_areAlike_55 : decode cX7_areAlike 55 = .ok (.laload, 1) := by decide +kernel
theorem dX7_areAlike_56 : decode cX7_areAlike 56 = .ok (.lcmp, 1) := by decide +kernel
theorem dX7_areAlike_57 : decode cX7_areAlike 57 = .ok (.ifCond .ne 19, 3) := by decide +kernel
theorem dX7_areAlike_60 : decode cX7_areAlike 60 = .ok (.lload 8, 2) := by decide +kernel
theorem dX7_areAlike_62 : decode cX7_areAlike 62 = .ok (.aload_n 0, 1) := by decide +kernel
theorem dX7_areAlike_63 : decode cX7_areAlike 63 = .ok (.getfield 44, 3) := by decide +kernel
theorem dX7_areAlike_66 : decode cX7_areAlike 66 = .ok (.iconst 2, 1) := by decide +kernel
theorem dX7_areAlike_67 : decode cX7_areAlike 67 = .ok (.laload, 1) := by decide +kernel
theorem dX7_areAlike_68 : decode cX7_areAlike 68 = .ok (.lcmp, 1) := by decide +kernel
theorem dX7_areAlike_69 : decode cX7_areAlike 69 = .ok (.ifCond .ne 7, 3) := by decide +kernel
theorem dX7_areAlike_72 : decode cX7_areAlike 72 = .ok (.iconst 1, 1) := by decide +kernel
theorem dX7_areAlike_73 : decode cX7_areAlike 73 = .ok (.goto 4, 3) := by decide +kernel
theorem dX7_areAlike_76 : decode cX7_areAlike 76 = .ok (.iconst 0, 1) := by decide +kernel
theorem dX7_areAlike_77 : decode cX7_areAlike 77 = .ok (.ireturn, 1) := by decide +kernel
set_option maxRecDepth 20000 in
theorem ggX7_alike_X7_isStack : GoodIn wsX7_alike wsX7_isStack := goodIn_r _ [5, 6, 7, 8, 4, 9, 71, 72, 73, 74, 75, 76, 77, 78, 79, 80, 81, 82, 83, 84, 85, 86, 87, 88, 89, 90, 91, 92, 93, 94, 95, 96] (by decide +kernel) (by decide +kernel)
set_option maxRecDepth 20000 in
theorem gX7_alike_X7_isStack : GoodIn wsX7_alike (wsV RX7 169 RX7 yX7_isStack wsX7_isStack) := goodIn_app (goodIn_of _ (by decide +kernel)) ggX7_alike_X7_isStack
set_option maxRecDepth 20000 in
theorem ggX7_alike_X7_isLamp : GoodIn wsX7_alike wsX7_isLamp := goodIn_r _ [12, 13, 7, 8, 4, 9] (by decide +kernel) (by decide +kernel)
set_option maxRecDepth 20000 in
theorem gX7_alike_X7_isLamp : GoodIn wsX7_alike (va_wsS RX7 174 yX7_isLamp wsX7_isLamp) := goodIn_app (goodIn_of _ (by decide +kernel)) ggX7_alike_X7_isLamp
set_option maxRecDepth 20000 in
theorem ggX7_alike_X7_areAlike : GoodIn wsX7_alike wsX7_areAlike := goodIn_r _ [17, 18, 19, 20, 21, 4, 22, 23, 24, 25, 26, 27, 28, 29, 30, 31, 32, 33, 34, 35, 36, 37, 6, 38, 39, 40, 41, 42, 43, 44, 45, 46, 47, 48, 49, 50, 51, 52, 53, 54, 55, 56, 57, 58, 59, 60, 61, 62, 63, 64, 65, 66, 67, 68, 69, 70, 71, 72, 73, 74, 75, 76, 77, 78, 79, 80, 81, 82, 83, 84, 85, 86, 87, 88, 89, 90, 91, 92, 93, 94, 95, 96] (by decide +kernel) (by decide +kernel)
set_option maxRecDepth 20000 in
theorem gX7_alike_X7_areAlike : GoodIn wsX7_alike (wsV RX7 194 RX7 yX7_areAlike wsX7_areAlike) := goodIn_app (goodIn_of _ (by decide +kernel)) ggX7_alike_X7_areAlike
theorem dX7_alike_0 : decode cX7_alike 0 = .ok (.aload_n 0, 1) := by decide +kernel
theorem dX7_alike_1 : decode cX7_alike 1 = .ok (.iload_n 1, 1) := by decide +kernel
theorem dX7_alike_2 : decode cX7_alike 2 = .ok (.invokevirtual 169, 3) := by decide +kernel
theorem dX7_alike_5 : decode cX7_alike 5 = .ok (.ifCond .eq 18, 3) := by decide +kernel
theorem dX7_alike_8 : decode cX7_alike 8 = .ok (.aload_n 0, 1) := by decide +kernel
theorem dX7_alike_9 : decode cX7_alike 9 = .ok (.iload_n 2, 1) := by decide +kernel
theorem dX7_alike_10 : decode cX7_alike 10 = .ok (.invokevirtual 169, 3) := by decide +kernel
theorem dX7_alike_13 : decode cX7_alike 13 = .ok (.ifCond .eq 10, 3) := by decide +kernel
theorem dX7_alike_16 : decode cX7_alike 16 = .ok (.iload_n 3, 1) := by decide +kernel
theorem dX7_alike_17 : decode cX7_alike 17 = .ok (.invokestatic 174, 3) := by decide +kernel
theorem dX7_alike_20 : decode cX7_alike 20 = .ok (.ifCond .ne 5, 3) := by decide +kernel
theorem dX7_alike_23 : decode cX7_alike 23 = .ok (.iconst (-1), 1) := by decide +kernel
theorem dX7_alike_24 : decode cX7_alike 24 = .ok (.ireturn, 1) := by decide +kernel
theorem dX7_alike_25 : decode cX7_alike 25 = .ok (.aload_n 0, 1) := by decide +kernel
theorem dX7_alike_26 : decode cX7_alike 26 = .ok (.iload_n 1, 1) := by decide +kernel
theorem dX7_alike_27 : decode cX7_alike 27 = .ok (.iload_n 2, 1) := by decide +kernel
theorem dX7_alike_28 : decode cX7_alike 28 = .ok (.iload_n 3, 1) := by decide +kernel
theorem dX7_alike_29 : decode cX7_alike 29 = .ok (.invokevirtual 194, 3) := by decide +kernel
theorem dX7_alike_32 : decode cX7_alike 32 = .ok (.ifCond .eq 7, 3) := by decide +kernel
theorem dX7_alike_35 : decode cX7_alike 35 = .ok (.iconst 1, 1) := by decide +kernel
theorem dX7_alike_36 : decode cX7_alike 36 = .ok (.goto 4, 3) := by decide +kernel
theorem dX7_alike_39 : decode cX7_alike 39 = .ok (.iconst 0, 1) := by decide +kernel
theorem dX7_alike_40 : decode cX7_alike 40 = .ok (.ireturn, 1) := by decide +kernel
set_option maxRecDepth 20000 in
theorem ggX7_isFalse_X7_areAlike : GoodIn wsX7_isFalse wsX7_areAlike := goodIn_r _ [5, 6, 7, 8, 9, 4, 10, 11, 12, 13, 14, 15, 16, 17, 18, 19, 20, 21, 22, 23, 24, 25, 26, 27, 28, 29, 30, 31, 32, 33, 34, 35, 36, 37, 38, 39, 40, 41, 42, 43, 44, 45, 46, 47, 48, 49, 50, 51, 52, 53, 54, 55, 56, 57, 58, 59, 60, 61, 62, 63, 64, 65, 66, 67, 68, 69, 70, 71, 72, 73, 74, 75, 76, 77, 78, 79, 80, 81, 82, 83, 84, 85] (by decide +kernel) (by decide +kernel)
set_option maxRecDepth 20000 in
theorem gX7_isFalse_X7_areAlike : GoodIn wsX7_isFalse (wsV RX7 194 RX7 yX7_areAlike wsX7_areAlike) := goodIn_app (goodIn_of _ (by decide +kernel)) ggX7_isFalse_X7_areAlike
theorem dX7_isFalse_0 : decode cX7_isFalse 0 = .ok (.aload_n 0, 1) := by decide +kernel
theorem dX7_isFalse_1 : decode cX7_isFalse 1 = .ok (.iload_n 1, 1) := by decide +kernel
theorem dX7_isFalse_2 : decode cX7_isFalse 2 = .ok (.iload_n 2, 1) := by decide +kernel
theorem dX7_isFalse_3 : decode cX7_isFalse 3 = .ok (.iload_n 3, 1) := by decide +kernel
theorem dX7_isFalse_4 : decode cX7_isFalse 4 = .ok (.invokevirtual 194, 3) := by decide +kernel
theorem dX7_isFalse_7 : decode cX7_isFalse 7 = .ok (.ifCond .ne 5, 3) := by decide +kernel
theorem dX7_isFalse_10 : decode cX7_isFalse 10 = .ok (.iconst 0, 1) := by decide +kernel
theorem dX7_isFalse_11 : decode cX7_isFalse 11 = .ok (.ireturn, 1) := by decide +kernel
theorem dX7_isFalse_12 : decode cX7_isFalse 12 = .ok (.aload_n 0, 1) := by decide +kernel
theorem dX7_isFalse_13 : decode cX7_isFalse 13 = .ok (.iload_n 1, 1) := by decide +kernel
theorem dX7_isFalse_14 : decode cX7_isFalse 14 = .ok (.iload_n 2, 1) := by decide +kernel
theorem dX7_isFalse_15 : decode cX7_isFalse 15 = .ok (.iconst 0, 1) := by decide +kernel
theorem dX7_isFalse_16 : decode cX7_isFalse 16 = .ok (.invokevirtual 194, 3) := by decide +kernel
theorem dX7_isFalse_19 : decode cX7_isFalse 19 = .ok (.ifCond .eq 23, 3) := by decide +kernel
theorem dX7_isFalse_22 : decode cX7_isFalse 22 = .ok (.aload_n 0, 1) := by decide +kernel
theorem dX7_isFalse_23 : decode cX7_isFalse 23 = .ok (.iload_n 1, 1) := by decide +kernel
theorem dX7_isFalse_24 : decode cX7_isFalse 24 = .ok (.iload_n 2, 1) := by decide +kernel
theorem dX7_isFalse_25 : decode cX7_isFalse 25 = .ok (.iconst 1, 1) := by decide +kernel
theorem dX7_isFalse_26 : decode cX7_isFalse 26 = .ok (.invokevirtual 194, 3) := by decide +kernel
theorem dX7_isFalse_29 : decode cX7_isFalse 29 = .ok (.ifCond .eq 13, 3) := by decide +kernel
theorem dX7_isFalse_32 : decode cX7_isFalse 32 = .ok (.aload_n 0, 1) := by decide +kernel
theorem dX7_isFalse_33 : decode cX7_isFalse 33 = .ok (.iload_n 1, 1) := by decide +kernel
theorem dX7_isFalse_34 : decode cX7_isFalse 34 = .ok (.iload_n 2, 1) := by decide +kernel
theorem dX7_isFalse_35 : decode cX7_isFalse 35 = .ok (.iconst 2, 1) := by decide +kernel
theorem dX7_isFalse_36 : decode cX7_isFalse 36 = .ok (.invokevirtual 194, 3) := by decide +kernel
theorem dX7_isFalse_39 : decode cX7_isFalse 39 = .ok (.ifCond .ne 7, 3) := by decide +kernel
theorem dX7_isFalse_42 : decode cX7_isFalse 42 = .ok (.iconst 1, 1) := by decide +kernel
theorem dX7_isFalse_43 : decode cX7_isFalse 43 = .ok (.goto 4, 3) := by decide +kernel
theorem dX7_isFalse_46 : decode cX7_isFalse 46 = .ok (.iconst 0, 1) := by decide +kernel
theorem dX7_isFalse_47 : decode cX7_isFalse 47 = .ok (.ireturn, 1) := by decide +kernel
set_option maxRecDepth 20000 in
theorem ggX7_falsePairs_X7_isLamp : GoodIn wsX7_falsePairs wsX7_isLamp := goodIn_r _ [5, 6, 7, 8, 4, 9] (by decide +kernel) (by decide +kernel)
set_option maxRecDepth 20000 in
theorem gX7_falsePairs_X7_isLamp : GoodIn wsX7_falsePairs (va_wsS RX7 174 yX7_isLamp wsX7_isLamp) := goodIn_app (goodIn_of _ (by decide +kernel)) ggX7_falsePairs_X7_isLamp
set_option maxRecDepth 20000 in
theorem ggX7_falsePairs_X7_isIn : GoodIn wsX7_falsePairs wsX7_isIn := goodIn_r _ [9] (by decide +kernel) (by decide +kernel)
set_option maxRecDepth 20000 in
theorem gX7_falsePairs_X7_isIn : GoodIn wsX7_falsePairs (va_wsS RX7 62 yX7_isIn wsX7_isIn) := goodIn_app (goodIn_of _ (by decide +kernel)) ggX7_falsePairs_X7_isIn
set_option maxRecDepth 20000 in
theorem ggX7_falsePairs_X7_isFalse : GoodIn wsX7_falsePairs wsX7_isFalse := goodIn_r _ [13, 14, 15, 16, 4, 17, 18, 19, 20, 21, 22, 23, 24, 25, 26, 27, 28, 29, 30, 31, 32, 33, 34, 35, 36, 37, 1, 38, 39, 40, 41, 42, 43, 44, 45, 46, 47, 48, 49, 50, 51, 52, 53, 54, 55, 56, 57, 58, 59, 60, 61, 62, 63, 64, 65, 66, 67, 68, 69, 70, 71, 72, 73, 74, 75, 76, 77, 78, 79, 80, 81, 82, 83, 84, 85, 86, 87, 88, 89, 90, 91, 92, 93, 94, 95, 96] (by decide +kernel) (by decide +kernel)
set_option maxRecDepth 20000 in
theorem gX7_falsePairs_X7_isFalse : GoodIn wsX7_falsePairs (wsV RX7 198 RX7 yX7_isFalse wsX7_isFalse) := goodIn_app (goodIn_of _ (by decide +kernel)) ggX7_falsePairs_X7_isFalse
theorem dX7_falsePairs_0 : decode cX7_falsePairs 0 = .ok (.iload_n 1, 1) := by decide +kernel
theorem dX7_falsePairs_1 : decode cX7_falsePairs 1 = .ok (.invokestatic 174, 3) := by decide +kernel
theorem dX7_falsePairs_4 : decode cX7_falsePairs 4 = .ok (.ifCond .eq 13, 3) := by decide +kernel
theorem dX7_falsePairs_7 : decode cX7_falsePairs 7 = .ok (.iload_n 2, 1) := by decide +kernel
theorem dX7_falsePairs_8 : decode cX7_falsePairs 8 = .ok (.i2l, 1) := by decide +kernel
theorem dX7_falsePairs_9 : decode cX7_falsePairs 9 = .ok (.lconst 0, 1) := by decide +kernel
theorem dX7_falsePairs_10 : decode cX7_falsePairs 10 = .ok (.lconst 1, 1) := by decide +kernel
theorem dX7_falsePairs_11 : decode cX7_falsePairs 11 = .ok (.invokestatic 62, 3) := by decide +kernel
theorem dX7_falsePairs_14 : decode cX7_falsePairs 14 = .ok (.ifCond .ne 5, 3) := by decide +kernel
theorem dX7_falsePairs_17 : decode cX7_falsePairs 17 = .ok (.iconst (-1), 1) := by decide +kernel
theorem dX7_falsePairs_18 : decode cX7_falsePairs 18 = .ok (.ireturn, 1) := by decide +kernel
theorem dX7_falsePairs_19 : decode cX7_falsePairs 19 = .ok (.iconst 0, 1) := by decide +kernel
theorem dX7_falsePairs_20 : decode cX7_falsePairs 20 = .ok (.istore_n 3, 1) := by decide +kernel
theorem dX7_falsePairs_21 : decode cX7_falsePairs 21 = .ok (.bipush (-5), 2) := by decide +kernel
theorem dX7_falsePairs_23 : decode cX7_falsePairs 23 = .ok (.istore 4, 2) := by decide +kernel
theorem dX7_falsePairs_25 : decode cX7_falsePairs 25 = .ok (.iconst 0, 1) := by decide +kernel
theorem dX7_falsePairs_26 : decode cX7_falsePairs 26 = .ok (.istore 5, 2) := by decide +kernel
theorem dX7_falsePairs_28 : decode cX7_falsePairs 28 = .ok (.iload 5, 2) := by decide +kernel
theorem dX7_falsePairs_30 : decode cX7_falsePairs 30 = .ok (.aload_n 0, 1) := by decide +kernel
theorem dX7_falsePairs_31 : decode cX7_falsePairs 31 = .ok (.getfield 9, 3) := by decide +kernel
theorem dX7_falsePairs_34 : decode cX7_falsePairs 34 = .ok (.iconst 1, 1) := by decide +kernel
theorem dX7_falsePairs_35 : decode cX7_falsePairs 35 = .ok (.iaload, 1) := by decide +kernel
theorem dX7_falsePairs_36 : decode cX7_falsePairs 36 = .ok (.if_icmp .ge 69, 3) := by decide +kernel
theorem dX7_falsePairs_39 : decode cX7_falsePairs 39 = .ok (.iload 5, 2) := by decide +kernel
theorem dX7_falsePairs_41 : decode cX7_falsePairs 41 = .ok (.iconst 1, 1) := by decide +kernel
theorem dX7_falsePairs_42 : decode cX7_falsePairs 42 = .ok (.iadd, 1) := by decide +kernel
theorem dX7_falsePairs_43 : decode cX7_falsePairs 43 = .ok (.istore 6, 2) := by decide +kernel
theorem dX7_falsePairs_45 : decode cX7_falsePairs 45 = .ok (.iload 6, 2) := by decide +kernel
theorem dX7_falsePairs_47 : decode cX7_falsePairs 47 = .ok (.aload_n 0, 1) := by decide +kernel
theorem dX7_falsePairs_48 : decode cX7_falsePairs 48 = .ok (.getfield 9, 3) := by decide +kernel
theorem dX7_falsePairs_51 : decode cX7_falsePairs 51 = .ok (.iconst 1, 1) := by decide +kernel
theorem dX7_falsePairs_52 : decode cX7_falsePairs 52 = .ok (.iaload, 1) := by decide +kernel
theorem dX7_falsePairs_53 : decode cX7_falsePairs 53 = .ok (.if_icmp .ge 46, 3) := by decide +kernel
theorem dX7_falsePairs_56 : decode cX7_falsePairs 56 = .ok (.aload_n 0, 1) := by decide +kernel
theorem dX7_falsePairs_57 : decode cX7_falsePairs 57 = .ok (.iload 5, 2) := by decide +kernel
theorem dX7_falsePairs_59 : decode cX7_falsePairs 59 = .ok (.iload 6, 2) := by decide +kernel
theorem dX7_falsePairs_61 : decode cX7_falsePairs 61 = .ok (.iload_n 1, 1) := by decide +kernel
theorem dX7_falsePairs_62 : decode cX7_falsePairs 62 = .ok (.invokevirtual 198, 3) := by decide +kernel
theorem dX7_falsePairs_65 : decode cX7_falsePairs 65 = .ok (.ifCond .ne 6, 3) := by decide +kernel
theorem dX7_falsePairs_68 : decode cX7_falsePairs 68 = .ok (.goto 25, 3) := by decide +kernel
theorem dX7_falsePairs_71 : decode cX7_falsePairs 71 = .ok (.iload_n 3, 1) := by decide +kernel
theorem dX7_falsePairs_72 : decode cX7_falsePairs 72 = .ok (.ifCond .ne 14, 3) := by decide +kernel
theorem dX7_falsePairs_75 : decode cX7_falsePairs 75 = .ok (.bipush 10, 2) := by decide +kernel
theorem dX7_falsePairs_77 : decode cX7_falsePairs 77 = .ok (.iload 5, 2) := by decide +kernel
theorem dX7_falsePairs_79 : decode cX7_falsePairs 79 = .ok (.imul, 1) := by decide +kernel
theorem dX7_falsePairs_80 : decode cX7_falsePairs 80 = .ok (.iload 6, 2) := by decide +kernel
theorem dX7_falsePairs_82 : decode cX7_falsePairs 82 = .ok (.iadd, 1) := by decide +kernel
theorem dX7_falsePairs_83 : decode cX7_falsePairs 83 = .ok (.goto 5, 3) := by decide +kernel
theorem dX7_falsePairs_86 : decode cX7_falsePairs 86 = .ok (.iload 4, 2) := by decide +kernel
theorem dX7_falsePairs_88 : decode cX7_falsePairs 88 = .ok (.istore 4, 2) := by decide +kernel
theorem dX7_falsePairs_90 : decode cX7_falsePairs 90 = .ok (.iinc 3 1, 3) := by decide +kernel
theorem dX7_falsePairs_93 : decode cX7_falsePairs 93 = .ok (.iinc 6 1, 3) := by decide +kernel
theorem dX7_falsePairs_96 : decode cX7_falsePairs 96 = .ok (.goto (-51), 3) := by decide +kernel
theorem dX7_falsePairs_99 : decode cX7_falsePairs 99 = .ok (.iinc 5 1, 3) := by decide +kernel
theorem dX7_falsePairs_102 : decode cX7_falsePairs 102 = .ok (.goto (-74), 3) := by decide +kernel
theorem dX7_falsePairs_105 : decode cX7_falsePairs 105 = .ok (.iload_n 2, 1) := by decide +kernel
theorem dX7_falsePairs_106 : decode cX7_falsePairs 106 = .ok (.ifCond .ne 7, 3) := by decide +kernel
theorem dX7_falsePairs_109 : decode cX7_falsePairs 109 = .ok (.iload_n 3, 1) := by decide +kernel
theorem dX7_falsePairs_110 : decode cX7_falsePairs 110 = .ok (.goto 5, 3) := by decide +kernel
theorem dX7_falsePairs_113 : decode cX7_falsePairs 113 = .ok (.iload 4, 2) := by decide +kernel
theorem dX7_falsePairs_115 : decode cX7_falsePairs 115 = .ok (.ireturn, 1) := by decide +kernel
set_option maxRecDepth 20000 in
theorem ggX7_brightness_X7_findSeen : GoodIn wsX7_brightness wsX7_findSeen := goodIn_r _ [6, 7, 1, 8, 9, 10, 5, 11, 12, 13, 14, 15, 16, 17, 18, 19, 20, 21, 22, 23, 24, 25, 26, 27, 28, 29, 30, 31, 32, 33, 34, 35, 36, 37, 38, 39, 40, 41, 42, 43, 44, 45, 46, 47, 48, 49, 50, 51, 52, 53, 54, 55, 56, 57, 58, 59, 60, 61, 62, 63, 64, 65, 66, 67, 68, 69, 70, 71, 72, 73, 74, 75, 76, 77, 78, 79, 80, 81] (by decide +kernel) (by decide +kernel)
set_option maxRecDepth 20000 in
theorem gX7_brightness_X7_findSeen : GoodIn wsX7_brightness (wsV RX7 190 RX7 yX7_findSeen wsX7_findSeen) := goodIn_app (goodIn_of _ (by decide +kernel)) ggX7_brightness_X7_findSeen
theorem dX7_brightness_0 : decode cX7_brightness 0 = .ok (.aload_n 0, 1) := by decide +kernel
theorem dX7_brightness_1 : decode cX7_brightness 1 = .ok (.iload_n 1, 1) := by decide +kernel
theorem dX7_brightness_2 : decode cX7_brightness 2 = .ok (.iload_n 2, 1) := by decide +kernel
theorem dX7_brightness_3 : decode cX7_brightness 3 = .ok (.invokevirtual 190, 3) := by decide +kernel
theorem dX7_brightness_6 : decode cX7_brightness 6 = .ok (.aload_n 0, 1) := by decide +kernel
theorem dX7_brightness_7 : decode cX7_brightness 7 = .ok (.getfield 44, 3) := by decide +kernel
theorem dX7_brightness_10 : decode cX7_brightness 10 = .ok (.iconst 0, 1) := by decide +kernel
theorem dX7_brightness_11 : decode cX7_brightness 11 = .ok (.laload, 1) := by decide +kernel
theorem dX7_brightness_12 : decode cX7_brightness 12 = .ok (.aload_n 0, 1) := by decide +kernel
theorem dX7_brightness_13 : decode cX7_brightness 13 = .ok (.getfield 44, 3) := by decide +kernel
theorem dX7_brightness_16 : decode cX7_brightness 16 = .ok (.iconst 1, 1) := by decide +kernel
theorem dX7_brightness_17 : decode cX7_brightness 17 = .ok (.laload, 1) := by decide +kernel
theorem dX7_brightness_18 : decode cX7_brightness 18 = .ok (.ladd, 1) := by decide +kernel
theorem dX7_brightness_19 : decode cX7_brightness 19 = .ok (.aload_n 0, 1) := by decide +kernel
theorem dX7_brightness_20 : decode cX7_brightness 20 = .ok (.getfield 44, 3) := by decide +kernel
theorem dX7_brightness_23 : decode cX7_brightness 23 = .ok (.iconst 2, 1) := by decide +kernel
theorem dX7_brightness_24 : decode cX7_brightness 24 = .ok (.laload, 1) := by decide +kernel
theorem dX7_brightness_25 : decode cX7_brightness 25 = .ok (.ladd, 1) := by decide +kernel
theorem dX7_brightness_26 : decode cX7_brightness 26 = .ok (.lreturn, 1) := by decide +kernel
set_option maxRecDepth 20000 in
theorem ggX7_ranked_X7_isLamp : GoodIn wsX7_ranked wsX7_isLamp := goodIn_r _ [5, 6, 7, 8, 4, 9] (by decide +kernel) (by decide +kernel)
set_option maxRecDepth 20000 in
theorem gX7_ranked_X7_isLamp : GoodIn wsX7_ranked (va_wsS RX7 174 yX7_isLamp wsX7_isLamp) := goodIn_app (goodIn_of _ (by decide +kernel)) ggX7_ranked_X7_isLamp
set_option maxRecDepth 20000 in
theorem ggX7_ranked_X7_isIn : GoodIn wsX7_ranked wsX7_isIn := goodIn_r _ [9] (by decide +kernel) (by decide +kernel)
set_option maxRecDepth 20000 in
theorem gX7_ranked_X7_isIn : GoodIn wsX7_ranked (va_wsS RX7 62 yX7_isIn wsX7_isIn) := goodIn_app (goodIn_of _ (by decide +kernel)) ggX7_ranked_X7_isIn
set_option maxRecDepth 20000 in
theorem ggX7_ranked_X7_brightness : GoodIn wsX7_ranked wsX7_brightness := goodIn_r _ [13, 14, 15, 16, 17, 4, 18, 19, 20, 21, 22, 23, 24, 25, 26, 27, 28, 29, 30, 31, 32, 33, 1, 34, 35, 36, 37, 38, 39, 40, 41, 42, 43, 44, 45, 46, 47, 48, 49, 50, 51, 52, 53, 54, 55, 56, 57, 58, 59, 60, 61, 62, 63, 64, 65, 66, 67, 68, 69, 70, 71, 72, 73, 74, 75, 76, 77, 78, 79, 80, 81, 82, 83, 84, 85, 86, 87, 88, 89, 90, 91, 92] (by decide +kernel) (by decide +kernel)
set_option maxRecDepth 20000 in
theorem gX7_ranked_X7_brightness : GoodIn wsX7_ranked (wsV RX7 201 RX7 yX7_brightness wsX7_brightness) := goodIn_app (goodIn_of _ (by decide +kernel)) ggX7_ranked_X7_brightness
theorem dX7_ranked_0 : decode cX7_ranked 0 = .ok (.iload_n 1, 1) := by decide +kernel
theorem dX7_ranked_1 : decode cX7_ranked 1 = .ok (.invokestatic 174, 3) := by decide +kernel
theorem dX7_ranked_4 : decode cX7_ranked 4 = .ok (.ifCond .eq 21, 3) := by decide +kernel
theorem dX7_ranked_7 : decode cX7_ranked 7 = .ok (.iload_n 2, 1) := by decide +kernel
theorem dX7_ranked_8 : decode cX7_ranked 8 = .ok (.i2l, 1) := by decide +kernel
theorem dX7_ranked_9 : decode cX7_ranked 9 = .ok (.lconst 0, 1) := by decide +kernel
theorem dX7_ranked_10 : decode cX7_ranked 10 = .ok (.aload_n 0, 1) := by decide +kernel
theorem dX7_ranked_11 : decode cX7_ranked 11 = .ok (.getfield 9, 3) := by decide +kernel
theorem dX7_ranked_14 : decode cX7_ranked 14 = .ok (.iconst 1, 1) := by decide +kernel
theorem dX7_ranked_15 : decode cX7_ranked 15 = .ok (.iaload, 1) := by decide +kernel
theorem dX7_ranked_16 : decode cX7_ranked 16 = .ok (.iconst 1, 1) := by decide +kernel
theorem dX7_ranked_17 : decode cX7_ranked 17 = .ok (.isub, 1) := by decide +kernel
theorem dX7_ranked_18 : decode cX7_ranked 18 = .ok (.i2l, 1) := by decide +kernel
theorem dX7_ranked_19 : decode cX7_ranked 19 = .ok (.invokestatic 62, 3) := by decide +kernel
theorem dX7_ranked_22 : decode cX7_ranked 22 = .ok (.ifCond .ne 5, 3) := by decide +kernel
theorem dX7_ranked_25 : decode cX7_ranked 25 = .ok (.iconst (-1), 1) := by decide +kernel
theorem dX7_ranked_26 : decode cX7_ranked 26 = .ok (.ireturn, 1) := by decide +kernel
theorem dX7_ranked_27 : decode cX7_ranked 27 = .ok (.iconst 0, 1) := by decide +kernel
theorem dX7_ranked_28 : decode cX7_ranked 28 = .ok (.istore_n 3, 1) := by decide +kernel
theorem dX7_ranked_29 : decode cX7_ranked 29 = .ok (.iconst 0, 1) := by decide +kernel
theorem dX7_ranked_30 : decode cX7_ranked 30 = .ok (.istore 4, 2) := by decide +kernel
theorem dX7_ranked_32 : decode cX7_ranked 32 = .ok (.iload 4, 2) := by decide +kernel
theorem dX7_ranked_34 : decode cX7_ranked 34 = .ok (.aload_n 0, 1) := by decide +kernel
theorem dX7_ranked_35 : decode cX7_ranked 35 = .ok (.getfield 9, 3) := by decide +kernel
theorem dX7_ranked_38 : decode cX7_ranked 38 = .ok (.iconst 1, 1) := by decide +kernel
theorem dX7_ranked_39 : decode cX7_ranked 39 = .ok (.iaload, 1) := by decide +kernel
theorem dX7_ranked_40 : decode cX7_ranked 40 = .ok (.if_icmp .ge 96, 3) := by decide +kernel
theorem dX7_ranked_43 : decode cX7_ranked 43 = .ok (.iconst 0, 1) := by decide +kernel
theorem dX7_ranked_44 : decode cX7_ranked 44 = .ok (.istore 5, 2) := by decide +kernel
theorem dX7_ranked_46 : decode cX7_ranked 46 = .ok (.aload_n 0, 1) := by decide +kernel
theorem dX7_ranked_47 : decode cX7_ranked 47 = .ok (.iload 4, 2) := by decide +kernel
theorem dX7_ranked_49 : decode cX7_ranked 49 = .ok (.iload_n 1, 1) := by decide +kernel
theorem dX7_ranked_50 : decode cX7_ranked 50 = .ok (.invokevirtual 201, 3) := by decide +kernel
theorem dX7_ranked_53 : decode cX7_ranked 53 = .ok (.lstore 6, 2) := by decide +kernel
theorem dX7_ranked_55 : decode cX7_ranked 55 = .ok (.iconst 0, 1) := by decide +kernel
theorem dX7_ranked_56 : decode cX7_ranked 56 = .ok (.istore 8, 2) := by decide +kernel
theorem dX7_ranked_58 : decode cX7_ranked 58 = .ok (.iload 8, 2) := by decide +kernel
theorem dX7_ranked_60 : decode cX7_ranked 60 = .ok (.aload_n 0, 1) := by decide +kernel
theorem dX7_ranked_61 : decode cX7_ranked 61 = .ok (.getfield 9, 3) := by decide +kernel
theorem dX7_ranked_64 : decode cX7_ranked 64 = .ok (.iconst 1, 1) := by decide +kernel
theorem dX7_ranked_65 : decode cX7_ranked 65 = .ok (.iaload, 1) := by decide +kernel
theorem dX7_ranked_66 : decode cX7_ranked 66 = .ok (.if_icmp .ge 51, 3) := by decide +kernel
theorem dX7_ranked_69 : decode cX7_ranked 69 = .ok (.aload_n 0, 1) := by decide +kernel
theorem dX7_ranked_70 : decode cX7_ranked 70 = .ok (.iload 8, 2) := by decide +kernel
theorem dX7_ranked_72 : decode cX7_ranked 72 = .ok (.iload_n 1, 1) := by decide +kernel
theorem dX7_ranked_73 : decode cX7_ranked 73 = .ok (.invokevirtual 201, 3) := by decide +kernel
theorem dX7_ranked_76 : decode cX7_ranked 76 = .ok (.lstore 9, 2) := by decide +kernel
theorem dX7_ranked_78 : decode cX7_ranked 78 = .ok (.iload 5, 2) := by decide +kernel
theorem dX7_ranked_80 : decode cX7_ranked 80 = .ok (.lload 9, 2) := by decide +kernel
theorem dX7_ranked_82 : decode cX7_ranked 82 = .ok (.lload 6, 2) := by decide +kernel
theorem dX7_ranked_84 : decode cX7_ranked 84 = .ok (.lcmp, 1) := by decide +kernel
theorem dX7_ranked_85 : decode cX7_ranked 85 = .ok (.ifCond .gt 18, 3) := by decide +kernel
theorem dX7_ranked_88 : decode cX7_ranked 88 = .ok (.lload 9, 2) := by decide +kernel
theorem dX7_ranked_90 : decode cX7_ranked 90 = .ok (.lload 6, 2) := by decide +kernel
theorem dX7_ranked_92 : decode cX7_ranked 92 = .ok (.lcmp, 1) := by decide +kernel
theorem dX7_ranked_93 : decode cX7_ranked 93 = .ok (.ifCond .ne 14, 3) := by decide +kernel
theorem dX7_ranked_96 : decode cX7_ranked 96 = .ok (.iload 8, 2) := by decide +kernel
theorem dX7_ranked_98 : decode cX7_ranked 98 = .ok (.iload 4, 2) := by decide +kernel
theorem dX7_ranked_100 : decode cX7_ranked 100 = .ok (.if_icmp .ge 7, 3) := by decide +kernel
theorem dX7_ranked_103 : decode cX7_ranked 103 = .ok (.iconst 1, 1) := by decide +kernel
theorem dX7_ranked_104 : decode cX7_ranked 104 = .ok (.goto 4, 3) := by decide +kernel
theorem dX7_ranked_107 : decode cX7_ranked 107 = .ok (.iconst 0, 1) := by decide +kernel
theorem dX7_ranked_108 : decode cX7_ranked 108 = .ok (.iadd, 1) := by decide +kernel
theorem dX7_ranked_109 : decode cX7_ranked 109 = .ok (.istore 5, 2) := by decide +kernel
theorem dX7_ranked_111 : decode cX7_ranked 111 = .ok (.iinc 8 1, 3) := by decide +kernel
theorem dX7_ranked_114 : decode cX7_ranked 114 = .ok (.goto (-56), 3) := by decide +kernel
theorem dX7_ranked_117 : decode cX7_ranked 117 = .ok (.iload 5, 2) := by decide +kernel
theorem dX7_ranked_119 : decode cX7_ranked 119 = .ok (.iload_n 2, 1) := by decide +kernel
theorem dX7_ranked_120 : decode cX7_ranked 120 = .ok (.if_icmp .ne 8, 3) := by decide +kernel
theorem dX7_ranked_123 : decode cX7_ranked 123 = .ok (.iload 4, 2) := by decide +kernel
theorem dX7_ranked_125 : decode cX7_ranked 125 = .ok (.goto 4, 3) := by decide +kernel
theorem dX7_ranked_128 : decode cX7_ranked 128 = .ok (.iload_n 3, 1) := by decide +kernel
theorem dX7_ranked_129 : decode cX7_ranked 129 = .ok (.istore_n 3, 1) := by decide +kernel
theorem dX7_ranked_130 : decode cX7_ranked 130 = .ok (.iinc 4 1, 3) := by decide +kernel
theorem dX7_ranked_133 : decode cX7_ranked 133 = .ok (.goto (-101), 3) := by decide +kernel
theorem dX7_ranked_136 : decode cX7_ranked 136 = .ok (.iload_n 3, 1) := by decide +kernel
theorem dX7_ranked_137 : decode cX7_ranked 137 = .ok (.ireturn, 1) := by decide +kernel
set_option maxRecDepth 20000 in
theorem ggX7_wish_X7_isIn : GoodIn wsX7_wish wsX7_isIn := goodIn_r _ [6] (by decide +kernel) (by decide +kernel)
set_option maxRecDepth 20000 in
theorem gX7_wish_X7_isIn : GoodIn wsX7_wish (va_wsS RX7 62 yX7_isIn wsX7_isIn) := goodIn_app (goodIn_of _ (by decide +kernel)) ggX7_wish_X7_isIn
theorem dX7_wish_0 : decode cX7_wish 0 = .ok (.iload_n 1, 1) := by decide +kernel
theorem dX7_wish_1 : decode cX7_wish 1 = .ok (.i2l, 1) := by decide +kernel
theorem dX7_wish_2 : decode cX7_wish 2 = .ok (.lconst 0, 1) := by decide +kernel
theorem dX7_wish_3 : decode cX7_wish 3 = .ok (.ldc2_w 205, 3) := by decide +kernel
theorem dX7_wish_6 : decode cX7_wish 6 = .ok (.invokestatic 62, 3) := by decide +kernel
theorem dX7_wish_9 : decode cX7_wish 9 = .ok (.ifCond .eq 27, 3) := by decide +kernel
theorem dX7_wish_12 : decode cX7_wish 12 = .ok (.iload_n 2, 1) := by decide +kernel
theorem dX7_wish_13 : decode cX7_wish 13 = .ok (.i2l, 1) := by decide +kernel
theorem dX7_wish_14 : decode cX7_wish 14 = .ok (.lconst 0, 1) := by decide +kernel
theorem dX7_wish_15 : decode cX7_wish 15 = .ok (.ldc2_w 205, 3) := by decide +kernel
theorem dX7_wish_18 : decode cX7_wish 18 = .ok (.invokestatic 62, 3) := by decide +kernel
theorem dX7_wish_21 : decode cX7_wish 21 = .ok (.ifCond .eq 15, 3) := by decide +kernel
theorem dX7_wish_24 : decode cX7_wish 24 = .ok (.iload_n 3, 1) := by decide +kernel
theorem dX7_wish_25 : decode cX7_wish 25 = .ok (.i2l, 1) := by decide +kernel
theorem dX7_wish_26 : decode cX7_wish 26 = .ok (.lconst 0, 1) := by decide +kernel
theorem dX7_wish_27 : decode cX7_wish 27 = .ok (.ldc2_w 205, 3) := by decide +kernel
theorem dX7_wish_30 : decode cX7_wish 30 = .ok (.invokestatic 62, 3) := by decide +kernel
theorem dX7_wish_33 : decode cX7_wish 33 = .ok (.ifCond .ne 6, 3) := by decide +kernel
theorem dX7_wish_36 : decode cX7_wish 36 = .ok (.bipush (-2), 2) := by decide +kernel
theorem dX7_wish_38 : decode cX7_wish 38 = .ok (.ireturn, 1) := by decide +kernel
theorem dX7_wish_39 : decode cX7_wish 39 = .ok (.aload_n 0, 1) := by decide +kernel
theorem dX7_wish_40 : decode cX7_wish 40 = .ok (.getfield 9, 3) := by decide +kernel
theorem dX7_wish_43 : decode cX7_wish 43 = .ok (.sipush 130, 3) := by decide +kernel
theorem dX7_wish_46 : decode cX7_wish 46 = .ok (.iload_n 1, 1) := by decide +kernel
theorem dX7_wish_47 : decode cX7_wish 47 = .ok (.iastore, 1) := by decide +kernel
theorem dX7_wish_48 : decode cX7_wish 48 = .ok (.aload_n 0, 1) := by decide +kernel
theorem dX7_wish_49 : decode cX7_wish 49 = .ok (.getfield 9, 3) := by decide +kernel
theorem dX7_wish_52 : decode cX7_wish 52 = .ok (.sipush 131, 3) := by decide +kernel
theorem dX7_wish_55 : decode cX7_wish 55 = .ok (.iload_n 2, 1) := by decide +kernel
theorem dX7_wish_56 : decode cX7_wish 56 = .ok (.iastore, 1) := by decide +kernel
theorem dX7_wish_57 : decode cX7_wish 57 = .ok (.aload_n 0, 1) := by decide +kernel
theorem dX7_wish_58 : decode cX7_wish 58 = .ok (.getfield 9, 3) := by decide +kernel
theorem dX7_wish_61 : decode cX7_wish 61 = .ok (.sipush 132, 3) := by decide +kernel
theorem dX7_wish_64 : decode cX7_wish 64 = .ok (.iload_n 3, 1) := by decide +kernel
theorem dX7_wish_65 : decode cX7_wish 65 = .ok (.iastore, 1) := by decide +kernel
theorem dX7_wish_66 : decode cX7_wish 66 = .ok (.iconst 1, 1) := by decide +kernel
theorem dX7_wish_67 : decode cX7_wish 67 = .ok (.ireturn, 1) := by decide +kernel
theorem dX7_next_0 : decode cX7_next 0 = .ok (.iload_n 1, 1) := by decide +kernel
theorem dX7_next_1 : decode cX7_next 1 = .ok (.iconst 1, 1) := by decide +kernel
theorem dX7_next_2 : decode cX7_next 2 = .ok (.isub, 1) := by decide +kernel
theorem dX7_next_3 : decode cX7_next 3 = .ok (.istore_n 2, 1) := by decide +kernel
theorem dX7_next_4 : decode cX7_next 4 = .ok (.iload_n 2, 1) := by decide +kernel
theorem dX7_next_5 : decode cX7_next 5 = .ok (.ifCond .lt 26, 3) := by decide +kernel
theorem dX7_next_8 : decode cX7_next 8 = .ok (.aload_n 0, 1) := by decide +kernel
theorem dX7_next_9 : decode cX7_next 9 = .ok (.getfield 47, 3) := by decide +kernel
theorem dX7_next_12 : decode cX7_next 12 = .ok (.iload_n 2, 1) := by decide +kernel
theorem dX7_next_13 : decode cX7_next 13 = .ok (.iaload, 1) := by decide +kernel
theorem dX7_next_14 : decode cX7_next 14 = .ok (.aload_n 0, 1) := by decide +kernel
theorem dX7_next_15 : decode cX7_next 15 = .ok (.getfield 9, 3) := by decide +kernel
theorem dX7_next_18 : decode cX7_next 18 = .ok (.iconst 0, 1) := by decide +kernel
