theorem dX3_sheetAt_2 : decode cX3_sheetAt 2 = .ok (.invokevirtual 54, 3) := by decide +kernel
theorem dX3_sheetAt_5 : decode cX3_sheetAt 5 = .ok (.ifCond .eq 26, 3) := by decide +kernel
theorem dX3_sheetAt_8 : decode cX3_sheetAt 8 = .ok (.iload_n 2, 1) := by decide +kernel
theorem dX3_sheetAt_9 : decode cX3_sheetAt 9 = .ok (.bipush 6, 2) := by decide +kernel
theorem dX3_sheetAt_11 : decode cX3_sheetAt 11 = .ok (.invokestatic 47, 3) := by decide +kernel
theorem dX3_sheetAt_14 : decode cX3_sheetAt 14 = .ok (.ifCond .eq 17, 3) := by decide +kernel
theorem dX3_sheetAt_17 : decode cX3_sheetAt 17 = .ok (.aload_n 0, 1) := by decide +kernel
theorem dX3_sheetAt_18 : decode cX3_sheetAt 18 = .ok (.getfield 31, 3) := by decide +kernel
theorem dX3_sheetAt_21 : decode cX3_sheetAt 21 = .ok (.iload_n 1, 1) := by decide +kernel
theorem dX3_sheetAt_22 : decode cX3_sheetAt 22 = .ok (.bipush 6, 2) := by decide +kernel
theorem dX3_sheetAt_24 : decode cX3_sheetAt 24 = .ok (.imul, 1) := by decide +kernel
theorem dX3_sheetAt_25 : decode cX3_sheetAt 25 = .ok (.iload_n 2, 1) := by decide +kernel
theorem dX3_sheetAt_26 : decode cX3_sheetAt 26 = .ok (.iadd, 1) := by decide +kernel
theorem dX3_sheetAt_27 : decode cX3_sheetAt 27 = .ok (.iaload, 1) := by decide +kernel
theorem dX3_sheetAt_28 : decode cX3_sheetAt 28 = .ok (.goto 4, 3) := by decide +kernel
theorem dX3_sheetAt_31 : decode cX3_sheetAt 31 = .ok (.iconst (-1), 1) := by decide +kernel
theorem dX3_sheetAt_32 : decode cX3_sheetAt 32 = .ok (.ireturn, 1) := by decide +kernel
theorem dX3_sheetsLaid_0 : decode cX3_sheetsLaid 0 = .ok (.iconst 0, 1) := by decide +kernel
theorem dX3_sheetsLaid_1 : decode cX3_sheetsLaid 1 = .ok (.istore_n 1, 1) := by decide +kernel
theorem dX3_sheetsLaid_2 : decode cX3_sheetsLaid 2 = .ok (.iconst 0, 1) := by decide +kernel
theorem dX3_sheetsLaid_3 : decode cX3_sheetsLaid 3 = .ok (.istore_n 2, 1) := by decide +kernel
theorem dX3_sheetsLaid_4 : decode cX3_sheetsLaid 4 = .ok (.iload_n 2, 1) := by decide +kernel
theorem dX3_sheetsLaid_5 : decode cX3_sheetsLaid 5 = .ok (.aload_n 0, 1) := by decide +kernel
theorem dX3_sheetsLaid_6 : decode cX3_sheetsLaid 6 = .ok (.getfield 25, 3) := by decide +kernel
theorem dX3_sheetsLaid_9 : decode cX3_sheetsLaid 9 = .ok (.if_icmp .ge 18, 3) := by decide +kernel
theorem dX3_sheetsLaid_12 : decode cX3_sheetsLaid 12 = .ok (.iload_n 1, 1) := by decide +kernel
theorem dX3_sheetsLaid_13 : decode cX3_sheetsLaid 13 = .ok (.aload_n 0, 1) := by decide +kernel
theorem dX3_sheetsLaid_14 : decode cX3_sheetsLaid 14 = .ok (.getfield 28, 3) := by decide +kernel
theorem dX3_sheetsLaid_17 : decode cX3_sheetsLaid 17 = .ok (.iload_n 2, 1) := by decide +kernel
theorem dX3_sheetsLaid_18 : decode cX3_sheetsLaid 18 = .ok (.iaload, 1) := by decide +kernel
theorem dX3_sheetsLaid_19 : decode cX3_sheetsLaid 19 = .ok (.iadd, 1) := by decide +kernel
theorem dX3_sheetsLaid_20 : decode cX3_sheetsLaid 20 = .ok (.istore_n 1, 1) := by decide +kernel
theorem dX3_sheetsLaid_21 : decode cX3_sheetsLaid 21 = .ok (.iinc 2 1, 3) := by decide +kernel
theorem dX3_sheetsLaid_24 : decode cX3_sheetsLaid 24 = .ok (.goto (-20), 3) := by decide +kernel
theorem dX3_sheetsLaid_27 : decode cX3_sheetsLaid 27 = .ok (.iload_n 1, 1) := by decide +kernel
theorem dX3_sheetsLaid_28 : decode cX3_sheetsLaid 28 = .ok (.ireturn, 1) := by decide +kernel
set_option maxRecDepth 20000 in
theorem ggX3_letsAs_X3_hasSheet : GoodIn wsX3_letsAs wsX3_hasSheet := goodIn_r _ [6, 7, 8, 9, 10, 19, 20, 21, 22, 23, 24, 25, 26, 27, 28] (by decide +kernel) (by decide +kernel)
set_option maxRecDepth 20000 in
theorem gX3_letsAs_X3_hasSheet : GoodIn wsX3_letsAs (wsV RX3 58 RX3 yX3_hasSheet wsX3_hasSheet) := goodIn_app (goodIn_of _ (by decide +kernel)) ggX3_letsAs_X3_hasSheet
set_option maxRecDepth 20000 in
theorem ggX3_letsAs_X6_within : GoodIn wsX3_letsAs wsX6_within := goodIn_r _ [10] (by decide +kernel) (by decide +kernel)
set_option maxRecDepth 20000 in
theorem gX3_letsAs_X6_within_n47 : GoodIn wsX3_letsAs (wsX6_within) := ggX3_letsAs_X6_within
set_option maxRecDepth 20000 in
theorem ggX3_letsAs_X3_greatestNumber : GoodIn wsX3_letsAs wsX3_greatestNumber := goodIn_r _ [14, 1, 15, 16, 17, 18, 19, 20, 21, 22, 23, 24, 25, 26, 27, 28] (by decide +kernel) (by decide +kernel)
set_option maxRecDepth 20000 in
theorem gX3_letsAs_X3_greatestNumber : GoodIn wsX3_letsAs (wsV RX3 61 RX3 yX3_greatestNumber wsX3_greatestNumber) := goodIn_app (goodIn_of _ (by decide +kernel)) ggX3_letsAs_X3_greatestNumber
theorem dX3_letsAs_0 : decode cX3_letsAs 0 = .ok (.aload_n 0, 1) := by decide +kernel
theorem dX3_letsAs_1 : decode cX3_letsAs 1 = .ok (.iload_n 1, 1) := by decide +kernel
theorem dX3_letsAs_2 : decode cX3_letsAs 2 = .ok (.invokevirtual 58, 3) := by decide +kernel
theorem dX3_letsAs_5 : decode cX3_letsAs 5 = .ok (.ifCond .eq 12, 3) := by decide +kernel
theorem dX3_letsAs_8 : decode cX3_letsAs 8 = .ok (.iload 4, 2) := by decide +kernel
theorem dX3_letsAs_10 : decode cX3_letsAs 10 = .ok (.iconst 5, 1) := by decide +kernel
theorem dX3_letsAs_11 : decode cX3_letsAs 11 = .ok (.invokestatic 47, 3) := by decide +kernel
theorem dX3_letsAs_14 : decode cX3_letsAs 14 = .ok (.ifCond .ne 5, 3) := by decide +kernel
theorem dX3_letsAs_17 : decode cX3_letsAs 17 = .ok (.iconst 0, 1) := by decide +kernel
theorem dX3_letsAs_18 : decode cX3_letsAs 18 = .ok (.ireturn, 1) := by decide +kernel
theorem dX3_letsAs_19 : decode cX3_letsAs 19 = .ok (.aload_n 0, 1) := by decide +kernel
theorem dX3_letsAs_20 : decode cX3_letsAs 20 = .ok (.getfield 22, 3) := by decide +kernel
theorem dX3_letsAs_23 : decode cX3_letsAs 23 = .ok (.iload_n 1, 1) := by decide +kernel
theorem dX3_letsAs_24 : decode cX3_letsAs 24 = .ok (.iconst 5, 1) := by decide +kernel
theorem dX3_letsAs_25 : decode cX3_letsAs 25 = .ok (.imul, 1) := by decide +kernel
theorem dX3_letsAs_26 : decode cX3_letsAs 26 = .ok (.iload 4, 2) := by decide +kernel
theorem dX3_letsAs_28 : decode cX3_letsAs 28 = .ok (.iadd, 1) := by decide +kernel
theorem dX3_letsAs_29 : decode cX3_letsAs 29 = .ok (.iaload, 1) := by decide +kernel
theorem dX3_letsAs_30 : decode cX3_letsAs 30 = .ok (.istore 5, 2) := by decide +kernel
theorem dX3_letsAs_32 : decode cX3_letsAs 32 = .ok (.iload_n 2, 1) := by decide +kernel
theorem dX3_letsAs_33 : decode cX3_letsAs 33 = .ok (.tableswitch 78 0 4 #[35, 41, 47, 52, 60], 35) := by decide +kernel
theorem dX3_letsAs_68 : decode cX3_letsAs 68 = .ok (.bipush 10, 2) := by decide +kernel
theorem dX3_letsAs_70 : decode cX3_letsAs 70 = .ok (.iload 5, 2) := by decide +kernel
theorem dX3_letsAs_72 : decode cX3_letsAs 72 = .ok (.imul, 1) := by decide +kernel
theorem dX3_letsAs_73 : decode cX3_letsAs 73 = .ok (.ireturn, 1) := by decide +kernel
theorem dX3_letsAs_74 : decode cX3_letsAs 74 = .ok (.iload 5, 2) := by decide +kernel
theorem dX3_letsAs_76 : decode cX3_letsAs 76 = .ok (.iload 5, 2) := by decide +kernel
theorem dX3_letsAs_78 : decode cX3_letsAs 78 = .ok (.imul, 1) := by decide +kernel
theorem dX3_letsAs_79 : decode cX3_letsAs 79 = .ok (.ireturn, 1) := by decide +kernel
theorem dX3_letsAs_80 : decode cX3_letsAs 80 = .ok (.iload 5, 2) := by decide +kernel
theorem dX3_letsAs_82 : decode cX3_letsAs 82 = .ok (.iload_n 3, 1) := by decide +kernel
theorem dX3_letsAs_83 : decode cX3_letsAs 83 = .ok (.imul, 1) := by decide +kernel
theorem dX3_letsAs_84 : decode cX3_letsAs 84 = .ok (.ireturn, 1) := by decide +kernel
theorem dX3_letsAs_85 : decode cX3_letsAs 85 = .ok (.bipush 100, 2) := by decide +kernel
theorem dX3_letsAs_87 : decode cX3_letsAs 87 = .ok (.iload 5, 2) := by decide +kernel
theorem dX3_letsAs_89 : decode cX3_letsAs 89 = .ok (.iload_n 3, 1) := by decide +kernel
theorem dX3_letsAs_90 : decode cX3_letsAs 90 = .ok (.imul, 1) := by decide +kernel
theorem dX3_letsAs_91 : decode cX3_letsAs 91 = .ok (.isub, 1) := by decide +kernel
theorem dX3_letsAs_92 : decode cX3_letsAs 92 = .ok (.ireturn, 1) := by decide +kernel
theorem dX3_letsAs_93 : decode cX3_letsAs 93 = .ok (.iload_n 3, 1) := by decide +kernel
theorem dX3_letsAs_94 : decode cX3_letsAs 94 = .ok (.iconst 5, 1) := by decide +kernel
theorem dX3_letsAs_95 : decode cX3_letsAs 95 = .ok (.irem, 1) := by decide +kernel
theorem dX3_letsAs_96 : decode cX3_letsAs 96 = .ok (.iload 4, 2) := by decide +kernel
theorem dX3_letsAs_98 : decode cX3_letsAs 98 = .ok (.if_icmp .ne 7, 3) := by decide +kernel
theorem dX3_letsAs_101 : decode cX3_letsAs 101 = .ok (.iconst 0, 1) := by decide +kernel
theorem dX3_letsAs_102 : decode cX3_letsAs 102 = .ok (.goto 8, 3) := by decide +kernel
theorem dX3_letsAs_105 : decode cX3_letsAs 105 = .ok (.iload 5, 2) := by decide +kernel
theorem dX3_letsAs_107 : decode cX3_letsAs 107 = .ok (.iload 5, 2) := by decide +kernel
theorem dX3_letsAs_109 : decode cX3_letsAs 109 = .ok (.imul, 1) := by decide +kernel
theorem dX3_letsAs_110 : decode cX3_letsAs 110 = .ok (.ireturn, 1) := by decide +kernel
theorem dX3_letsAs_111 : decode cX3_letsAs 111 = .ok (.bipush 10, 2) := by decide +kernel
theorem dX3_letsAs_113 : decode cX3_letsAs 113 = .ok (.aload_n 0, 1) := by decide +kernel
theorem dX3_letsAs_114 : decode cX3_letsAs 114 = .ok (.iload_n 1, 1) := by decide +kernel
theorem dX3_letsAs_115 : decode cX3_letsAs 115 = .ok (.invokevirtual 61, 3) := by decide +kernel
theorem dX3_letsAs_118 : decode cX3_letsAs 118 = .ok (.imul, 1) := by decide +kernel
theorem dX3_letsAs_119 : decode cX3_letsAs 119 = .ok (.ireturn, 1) := by decide +kernel
theorem dX3_greatestNumber_0 : decode cX3_greatestNumber 0 = .ok (.iconst 0, 1) := by decide +kernel
theorem dX3_greatestNumber_1 : decode cX3_greatestNumber 1 = .ok (.istore_n 2, 1) := by decide +kernel
theorem dX3_greatestNumber_2 : decode cX3_greatestNumber 2 = .ok (.iconst 0, 1) := by decide +kernel
theorem dX3_greatestNumber_3 : decode cX3_greatestNumber 3 = .ok (.istore_n 3, 1) := by decide +kernel
theorem dX3_greatestNumber_4 : decode cX3_greatestNumber 4 = .ok (.iload_n 3, 1) := by decide +kernel
theorem dX3_greatestNumber_5 : decode cX3_greatestNumber 5 = .ok (.iconst 5, 1) := by decide +kernel
theorem dX3_greatestNumber_6 : decode cX3_greatestNumber 6 = .ok (.if_icmp .ge 24, 3) := by decide +kernel
theorem dX3_greatestNumber_9 : decode cX3_greatestNumber 9 = .ok (.iload_n 2, 1) := by decide +kernel
theorem dX3_greatestNumber_10 : decode cX3_greatestNumber 10 = .ok (.aload_n 0, 1) := by decide +kernel
theorem dX3_greatestNumber_11 : decode cX3_greatestNumber 11 = .ok (.getfield 22, 3) := by decide +kernel
theorem dX3_greatestNumber_14 : decode cX3_greatestNumber 14 = .ok (.iload_n 1, 1) := by decide +kernel
theorem dX3_greatestNumber_15 : decode cX3_greatestNumber 15 = .ok (.iconst 5, 1) := by decide +kernel
theorem dX3_greatestNumber_16 : decode cX3_greatestNumber 16 = .ok (.imul, 1) := by decide +kernel
theorem dX3_greatestNumber_17 : decode cX3_greatestNumber 17 = .ok (.iload_n 3, 1) := by decide +kernel
theorem dX3_greatestNumber_18 : decode cX3_greatestNumber 18 = .ok (.iadd, 1) := by decide +kernel
theorem dX3_greatestNumber_19 : decode cX3_greatestNumber 19 = .ok (.iaload, 1) := by decide +kernel
theorem dX3_greatestNumber_20 : decode cX3_greatestNumber 20 = .ok (.invokestatic 65, 3) := by decide +kernel
theorem dX3_greatestNumber_23 : decode cX3_greatestNumber 23 = .ok (.istore_n 2, 1) := by decide +kernel
theorem dX3_greatestNumber_24 : decode cX3_greatestNumber 24 = .ok (.iinc 3 1, 3) := by decide +kernel
theorem dX3_greatestNumber_27 : decode cX3_greatestNumber 27 = .ok (.goto (-23), 3) := by decide +kernel
theorem dX3_greatestNumber_30 : decode cX3_greatestNumber 30 = .ok (.iload_n 2, 1) := by decide +kernel
theorem dX3_greatestNumber_31 : decode cX3_greatestNumber 31 = .ok (.ireturn, 1) := by decide +kernel
theorem dX4_init_0 : decode cX4_init 0 = .ok (.aload_n 0, 1) := by decide +kernel
theorem dX4_init_1 : decode cX4_init 1 = .ok (.invokespecial 3, 3) := by decide +kernel
theorem dX4_init_4 : decode cX4_init 4 = .ok (.aload_n 0, 1) := by decide +kernel
theorem dX4_init_5 : decode cX4_init 5 = .ok (.bipush 80, 2) := by decide +kernel
theorem dX4_init_7 : decode cX4_init 7 = .ok (.newarray .int, 2) := by decide +kernel
theorem dX4_init_9 : decode cX4_init 9 = .ok (.putfield 9, 3) := by decide +kernel
theorem dX4_init_12 : decode cX4_init 12 = .ok (.aload_n 0, 1) := by decide +kernel
theorem dX4_init_13 : decode cX4_init 13 = .ok (.iconst 0, 1) := by decide +kernel
theorem dX4_init_14 : decode cX4_init 14 = .ok (.putfield 15, 3) := by decide +kernel
theorem dX4_init_17 : decode cX4_init 17 = .ok (.aload_n 0, 1) := by decide +kernel
theorem dX4_init_18 : decode cX4_init 18 = .ok (.iconst 0, 1) := by decide +kernel
theorem dX4_init_19 : decode cX4_init 19 = .ok (.putfield 19, 3) := by decide +kernel
theorem dX4_init_22 : decode cX4_init 22 = .ok (.aload_n 0, 1) := by decide +kernel
theorem dX4_init_23 : decode cX4_init 23 = .ok (.bipush 8, 2) := by decide +kernel
theorem dX4_init_25 : decode cX4_init 25 = .ok (.newarray .int, 2) := by decide +kernel
theorem dX4_init_27 : decode cX4_init 27 = .ok (.putfield 22, 3) := by decide +kernel
theorem dX4_init_30 : decode cX4_init 30 = .ok (.aload_n 0, 1) := by decide +kernel
theorem dX4_init_31 : decode cX4_init 31 = .ok (.bipush 8, 2) := by decide +kernel
theorem dX4_init_33 : decode cX4_init 33 = .ok (.newarray .int, 2) := by decide +kernel
theorem dX4_init_35 : decode cX4_init 35 = .ok (.putfield 25, 3) := by decide +kernel
theorem dX4_init_38 : decode cX4_init 38 = .ok (.aload_n 0, 1) := by decide +kernel
theorem dX4_init_39 : decode cX4_init 39 = .ok (.bipush 40, 2) := by decide +kernel
theorem dX4_init_41 : decode cX4_init 41 = .ok (.newarray .int, 2) := by decide +kernel
theorem dX4_init_43 : decode cX4_init 43 = .ok (.putfield 28, 3) := by decide +kernel
theorem dX4_init_46 : decode cX4_init 46 = .ok (.aload_n 0, 1) := by decide +kernel
theorem dX4_init_47 : decode cX4_init 47 = .ok (.iconst 0, 1) := by decide +kernel
theorem dX4_init_48 : decode cX4_init 48 = .ok (.putfield 31, 3) := by decide +kernel
theorem dX4_init_51 : decode cX4_init 51 = .ok (.aload_n 0, 1) := by decide +kernel
theorem dX4_init_52 : decode cX4_init 52 = .ok (.bipush 6, 2) := by decide +kernel
theorem dX4_init_54 : decode cX4_init 54 = .ok (.newarray .int, 2) := by decide +kernel
theorem dX4_init_56 : decode cX4_init 56 = .ok (.putfield 34, 3) := by decide +kernel
theorem dX4_init_59 : decode cX4_init 59 = .ok (.aload_n 0, 1) := by decide +kernel
theorem dX4_init_60 : decode cX4_init 60 = .ok (.iconst 0, 1) := by decide +kernel
theorem dX4_init_61 : decode cX4_init 61 = .ok (.putfield 37, 3) := by decide +kernel
theorem dX4_init_64 : decode cX4_init 64 = .ok (.return_, 1) := by decide +kernel
theorem dX4_append_0 : decode cX4_append 0 = .ok (.aload_n 0, 1) := by decide +kernel
theorem dX4_append_1 : decode cX4_append 1 = .ok (.getfield 15, 3) := by decide +kernel
theorem dX4_append_4 : decode cX4_append 4 = .ok (.bipush 80, 2) := by decide +kernel
theorem dX4_append_6 : decode cX4_append 6 = .ok (.if_icmp .lt 5, 3) := by decide +kernel
theorem dX4_append_9 : decode cX4_append 9 = .ok (.iconst 0, 1) := by decide +kernel
theorem dX4_append_10 : decode cX4_append 10 = .ok (.ireturn, 1) := by decide +kernel
theorem dX4_append_11 : decode cX4_append 11 = .ok (.aload_n 0, 1) := by decide +kernel
theorem dX4_append_12 : decode cX4_append 12 = .ok (.getfield 9, 3) := by decide +kernel
theorem dX4_append_15 : decode cX4_append 15 = .ok (.aload_n 0, 1) := by decide +kernel
theorem dX4_append_16 : decode cX4_append 16 = .ok (.getfield 15, 3) := by decide +kernel
theorem dX4_append_19 : decode cX4_append 19 = .ok (.iload_n 1, 1) := by decide +kernel
theorem dX4_append_20 : decode cX4_append 20 = .ok (.iastore, 1) := by decide +kernel
theorem dX4_append_21 : decode cX4_append 21 = .ok (.aload_n 0, 1) := by decide +kernel
theorem dX4_append_22 : decode cX4_append 22 = .ok (.dup, 1) := by decide +kernel
theorem dX4_append_23 : decode cX4_append 23 = .ok (.getfield 15, 3) := by decide +kernel
theorem dX4_append_26 : decode cX4_append 26 = .ok (.iconst 1, 1) := by decide +kernel
theorem dX4_append_27 : decode cX4_append 27 = .ok (.iadd, 1) := by decide +kernel
theorem dX4_append_28 : decode cX4_append 28 = .ok (.putfield 15, 3) := by decide +kernel
theorem dX4_append_31 : decode cX4_append 31 = .ok (.iconst 1, 1) := by decide +kernel
theorem dX4_append_32 : decode cX4_append 32 = .ok (.ireturn, 1) := by decide +kernel
set_option maxRecDepth 20000 in
theorem ggX4_byteAt_X6_within : GoodIn wsX4_byteAt wsX6_within := goodIn_r _ [5] (by decide +kernel) (by decide +kernel)
set_option maxRecDepth 20000 in
theorem gX4_byteAt_X6_within_n40 : GoodIn wsX4_byteAt (wsX6_within) := ggX4_byteAt_X6_within
theorem dX4_byteAt_0 : decode cX4_byteAt 0 = .ok (.iload_n 1, 1) := by decide +kernel
theorem dX4_byteAt_1 : decode cX4_byteAt 1 = .ok (.aload_n 0, 1) := by decide +kernel
theorem dX4_byteAt_2 : decode cX4_byteAt 2 = .ok (.getfield 15, 3) := by decide +kernel
theorem dX4_byteAt_5 : decode cX4_byteAt 5 = .ok (.if_icmp .ge 21, 3) := by decide +kernel
theorem dX4_byteAt_8 : decode cX4_byteAt 8 = .ok (.iload_n 1, 1) := by decide +kernel
theorem dX4_byteAt_9 : decode cX4_byteAt 9 = .ok (.bipush 80, 2) := by decide +kernel
theorem dX4_byteAt_11 : decode cX4_byteAt 11 = .ok (.invokestatic 40, 3) := by decide +kernel
theorem dX4_byteAt_14 : decode cX4_byteAt 14 = .ok (.ifCond .eq 12, 3) := by decide +kernel
theorem dX4_byteAt_17 : decode cX4_byteAt 17 = .ok (.aload_n 0, 1) := by decide +kernel
theorem dX4_byteAt_18 : decode cX4_byteAt 18 = .ok (.getfield 9, 3) := by decide +kernel
theorem dX4_byteAt_21 : decode cX4_byteAt 21 = .ok (.iload_n 1, 1) := by decide +kernel
theorem dX4_byteAt_22 : decode cX4_byteAt 22 = .ok (.iaload, 1) := by decide +kernel
theorem dX4_byteAt_23 : decode cX4_byteAt 23 = .ok (.goto 4, 3) := by decide +kernel
theorem dX4_byteAt_26 : decode cX4_byteAt 26 = .ok (.iconst (-1), 1) := by decide +kernel
theorem dX4_byteAt_27 : decode cX4_byteAt 27 = .ok (.ireturn, 1) := by decide +kernel
set_option maxRecDepth 20000 in
theorem ggX4_readStack_X4_byteAt : GoodIn wsX4_readStack wsX4_byteAt := goodIn_r _ [8, 2, 9, 10, 11, 12, 13, 14, 15, 16, 17, 18, 19, 20, 21] (by decide +kernel) (by decide +kernel)
set_option maxRecDepth 20000 in
theorem gX4_readStack_X4_byteAt : GoodIn wsX4_readStack (wsV RX4 44 RX4 yX4_byteAt wsX4_byteAt) := goodIn_app (goodIn_of _ (by decide +kernel)) ggX4_readStack_X4_byteAt
set_option maxRecDepth 20000 in
theorem ggX4_readStack_X6_within : GoodIn wsX4_readStack wsX6_within := goodIn_r _ [12] (by decide +kernel) (by decide +kernel)
set_option maxRecDepth 20000 in
theorem gX4_readStack_X6_within_n40 : GoodIn wsX4_readStack (wsX6_within) := ggX4_readStack_X6_within
theorem dX4_readStack_0 : decode cX4_readStack 0 = .ok (.aload_n 0, 1) := by decide +kernel
theorem dX4_readStack_1 : decode cX4_readStack 1 = .ok (.iconst 0, 1) := by decide +kernel
theorem dX4_readStack_2 : decode cX4_readStack 2 = .ok (.putfield 31, 3) := by decide +kernel
theorem dX4_readStack_5 : decode cX4_readStack 5 = .ok (.aload_n 0, 1) := by decide +kernel
theorem dX4_readStack_6 : decode cX4_readStack 6 = .ok (.iconst 0, 1) := by decide +kernel
theorem dX4_readStack_7 : decode cX4_readStack 7 = .ok (.invokevirtual 44, 3) := by decide +kernel
theorem dX4_readStack_10 : decode cX4_readStack 10 = .ok (.bipush 45, 2) := by decide +kernel
theorem dX4_readStack_12 : decode cX4_readStack 12 = .ok (.if_icmp .ne 17, 3) := by decide +kernel
theorem dX4_readStack_15 : decode cX4_readStack 15 = .ok (.aload_n 0, 1) := by decide +kernel
theorem dX4_readStack_16 : decode cX4_readStack 16 = .ok (.getfield 15, 3) := by decide +kernel
theorem dX4_readStack_19 : decode cX4_readStack 19 = .ok (.iconst 1, 1) := by decide +kernel
theorem dX4_readStack_20 : decode cX4_readStack 20 = .ok (.if_icmp .ne 7, 3) := by decide +kernel
theorem dX4_readStack_23 : decode cX4_readStack 23 = .ok (.iconst (-1), 1) := by decide +kernel
theorem dX4_readStack_24 : decode cX4_readStack 24 = .ok (.goto 4, 3) := by decide +kernel
theorem dX4_readStack_27 : decode cX4_readStack 27 = .ok (.iconst 1, 1) := by decide +kernel
theorem dX4_readStack_28 : decode cX4_readStack 28 = .ok (.ireturn, 1) := by decide +kernel
theorem dX4_readStack_29 : decode cX4_readStack 29 = .ok (.iconst 0, 1) := by decide +kernel
theorem dX4_readStack_30 : decode cX4_readStack 30 = .ok (.istore_n 2, 1) := by decide +kernel
theorem dX4_readStack_31 : decode cX4_readStack 31 = .ok (.iload_n 2, 1) := by decide +kernel
theorem dX4_readStack_32 : decode cX4_readStack 32 = .ok (.aload_n 0, 1) := by decide +kernel
theorem dX4_readStack_33 : decode cX4_readStack 33 = .ok (.getfield 15, 3) := by decide +kernel
theorem dX4_readStack_36 : decode cX4_readStack 36 = .ok (.if_icmp .ge 48, 3) := by decide +kernel
theorem dX4_readStack_39 : decode cX4_readStack 39 = .ok (.aload_n 0, 1) := by decide +kernel
theorem dX4_readStack_40 : decode cX4_readStack 40 = .ok (.iload_n 2, 1) := by decide +kernel
theorem dX4_readStack_41 : decode cX4_readStack 41 = .ok (.invokevirtual 44, 3) := by decide +kernel
theorem dX4_readStack_44 : decode cX4_readStack 44 = .ok (.bipush 97, 2) := by decide +kernel
theorem dX4_readStack_46 : decode cX4_readStack 46 = .ok (.isub, 1) := by decide +kernel
theorem dX4_readStack_47 : decode cX4_readStack 47 = .ok (.istore_n 3, 1) := by decide +kernel
theorem dX4_readStack_48 : decode cX4_readStack 48 = .ok (.iload_n 2, 1) := by decide +kernel
theorem dX4_readStack_49 : decode cX4_readStack 49 = .ok (.bipush 6, 2) := by decide +kernel
theorem dX4_readStack_51 : decode cX4_readStack 51 = .ok (.if_icmp .ge 11, 3) := by decide +kernel
theorem dX4_readStack_54 : decode cX4_readStack 54 = .ok (.iload_n 3, 1) := by decide +kernel
theorem dX4_readStack_55 : decode cX4_readStack 55 = .ok (.iload_n 1, 1) := by decide +kernel
theorem dX4_readStack_56 : decode cX4_readStack 56 = .ok (.invokestatic 40, 3) := by decide +kernel
theorem dX4_readStack_59 : decode cX4_readStack 59 = .ok (.ifCond .ne 5, 3) := by decide +kernel
theorem dX4_readStack_62 : decode cX4_readStack 62 = .ok (.iload_n 2, 1) := by decide +kernel
theorem dX4_readStack_63 : decode cX4_readStack 63 = .ok (.ireturn, 1) := by decide +kernel
theorem dX4_readStack_64 : decode cX4_readStack 64 = .ok (.aload_n 0, 1) := by decide +kernel
theorem dX4_readStack_65 : decode cX4_readStack 65 = .ok (.getfield 34, 3) := by decide +kernel
theorem dX4_readStack_68 : decode cX4_readStack 68 = .ok (.iload_n 2, 1) := by decide +kernel
theorem dX4_readStack_69 : decode cX4_readStack 69 = .ok (.iload_n 3, 1) := by decide +kernel
theorem dX4_readStack_70 : decode cX4_readStack 70 = .ok (.iastore, 1) := by decide +kernel
theorem dX4_readStack_71 : decode cX4_readStack 71 = .ok (.aload_n 0, 1) := by decide +kernel
theorem dX4_readStack_72 : decode cX4_readStack 72 = .ok (.iload_n 2, 1) := by decide +kernel
theorem dX4_readStack_73 : decode cX4_readStack 73 = .ok (.iconst 1, 1) := by decide +kernel
theorem dX4_readStack_74 : decode cX4_readStack 74 = .ok (.iadd, 1) := by decide +kernel
theorem dX4_readStack_75 : decode cX4_readStack 75 = .ok (.putfield 31, 3) := by decide +kernel
theorem dX4_readStack_78 : decode cX4_readStack 78 = .ok (.iinc 2 1, 3) := by decide +kernel
theorem dX4_readStack_81 : decode cX4_readStack 81 = .ok (.goto (-50), 3) := by decide +kernel
theorem dX4_readStack_84 : decode cX4_readStack 84 = .ok (.aload_n 0, 1) := by decide +kernel
theorem dX4_readStack_85 : decode cX4_readStack 85 = .ok (.getfield 15, 3) := by decide +kernel
theorem dX4_readStack_88 : decode cX4_readStack 88 = .ok (.ifCond .ne 7, 3) := by decide +kernel
theorem dX4_readStack_91 : decode cX4_readStack 91 = .ok (.iconst 0, 1) := by decide +kernel
theorem dX4_readStack_92 : decode cX4_readStack 92 = .ok (.goto 4, 3) := by decide +kernel
theorem dX4_readStack_95 : decode cX4_readStack 95 = .ok (.iconst (-1), 1) := by decide +kernel
theorem dX4_readStack_96 : decode cX4_readStack 96 = .ok (.ireturn, 1) := by decide +kernel
set_option maxRecDepth 20000 in
theorem ggX4_readSheets_X4_readClause : GoodIn wsX4_readSheets wsX4_readClause := goodIn_r _ [8, 2, 9, 10, 11, 12, 13, 14, 7, 15, 1, 3, 16, 17, 18, 19, 20, 21, 22, 23, 24, 25, 26, 27, 28, 29, 30, 31, 32, 33, 34, 35, 36, 37, 38, 39, 40, 41, 42, 43, 44, 45, 46, 47, 48, 49, 50, 51, 52, 53, 54, 55, 56, 57, 58, 59, 60, 61, 62, 63, 64, 65, 66, 67, 68, 69, 70, 71, 72, 73, 74, 75, 76, 77, 78, 79, 80, 81, 82, 83, 84, 85, 86, 87, 88, 89, 90, 91, 92, 93, 94, 95, 96, 97, 98, 99] (by decide +kernel) (by decide +kernel)
set_option maxRecDepth 20000 in
theorem gX4_readSheets_X4_readClause : GoodIn wsX4_readSheets (wsV RX4 48 RX4 yX4_readClause wsX4_readClause) := goodIn_app (goodIn_of _ (by decide +kernel)) ggX4_readSheets_X4_readClause
set_option maxRecDepth 20000 in
theorem ggX4_readSheets_X4_pass : GoodIn wsX4_readSheets wsX4_pass := goodIn_r _ [82, 1, 16, 17, 18, 7, 19, 3, 20, 21, 22, 23, 91, 92, 93, 94, 95, 96, 97, 98, 99] (by decide +kernel) (by decide +kernel)
set_option maxRecDepth 20000 in
theorem gX4_readSheets_X4_pass : GoodIn wsX4_readSheets (wsV RX4 52 RX4 yX4_pass wsX4_pass) := goodIn_app (goodIn_of _ (by decide +kernel)) ggX4_readSheets_X4_pass
theorem dX4_readSheets_0 : decode cX4_readSheets 0 = .ok (.aload_n 0, 1) := by decide +kernel
theorem dX4_readSheets_1 : decode cX4_readSheets 1 = .ok (.iconst 0, 1) := by decide +kernel
theorem dX4_readSheets_2 : decode cX4_readSheets 2 = .ok (.putfield 37, 3) := by decide +kernel
theorem dX4_readSheets_5 : decode cX4_readSheets 5 = .ok (.aload_n 0, 1) := by decide +kernel
theorem dX4_readSheets_6 : decode cX4_readSheets 6 = .ok (.iconst 0, 1) := by decide +kernel
theorem dX4_readSheets_7 : decode cX4_readSheets 7 = .ok (.putfield 19, 3) := by decide +kernel
theorem dX4_readSheets_10 : decode cX4_readSheets 10 = .ok (.iconst 1, 1) := by decide +kernel
theorem dX4_readSheets_11 : decode cX4_readSheets 11 = .ok (.istore_n 1, 1) := by decide +kernel
theorem dX4_readSheets_12 : decode cX4_readSheets 12 = .ok (.iconst 0, 1) := by decide +kernel
theorem dX4_readSheets_13 : decode cX4_readSheets 13 = .ok (.istore_n 2, 1) := by decide +kernel
theorem dX4_readSheets_14 : decode cX4_readSheets 14 = .ok (.iload_n 2, 1) := by decide +kernel
theorem dX4_readSheets_15 : decode cX4_readSheets 15 = .ok (.bipush 8, 2) := by decide +kernel
theorem dX4_readSheets_17 : decode cX4_readSheets 17 = .ok (.if_icmp .ge 32, 3) := by decide +kernel
theorem dX4_readSheets_20 : decode cX4_readSheets 20 = .ok (.iload_n 1, 1) := by decide +kernel
theorem dX4_readSheets_21 : decode cX4_readSheets 21 = .ok (.ifCond .eq 28, 3) := by decide +kernel
theorem dX4_readSheets_24 : decode cX4_readSheets 24 = .ok (.aload_n 0, 1) := by decide +kernel
theorem dX4_readSheets_25 : decode cX4_readSheets 25 = .ok (.invokevirtual 48, 3) := by decide +kernel
theorem dX4_readSheets_28 : decode cX4_readSheets 28 = .ok (.ifCond .ne 8, 3) := by decide +kernel
theorem dX4_readSheets_31 : decode cX4_readSheets 31 = .ok (.aload_n 0, 1) := by decide +kernel
theorem dX4_readSheets_32 : decode cX4_readSheets 32 = .ok (.getfield 37, 3) := by decide +kernel
theorem dX4_readSheets_35 : decode cX4_readSheets 35 = .ok (.ireturn, 1) := by decide +kernel
theorem dX4_readSheets_36 : decode cX4_readSheets 36 = .ok (.aload_n 0, 1) := by decide +kernel
theorem dX4_readSheets_37 : decode cX4_readSheets 37 = .ok (.bipush 59, 2) := by decide +kernel
theorem dX4_readSheets_39 : decode cX4_readSheets 39 = .ok (.invokevirtual 52, 3) := by decide +kernel
theorem dX4_readSheets_42 : decode cX4_readSheets 42 = .ok (.istore_n 1, 1) := by decide +kernel
theorem dX4_readSheets_43 : decode cX4_readSheets 43 = .ok (.iinc 2 1, 3) := by decide +kernel
theorem dX4_readSheets_46 : decode cX4_readSheets 46 = .ok (.goto (-32), 3) := by decide +kernel
theorem dX4_readSheets_49 : decode cX4_readSheets 49 = .ok (.aload_n 0, 1) := by decide +kernel
theorem dX4_readSheets_50 : decode cX4_readSheets 50 = .ok (.getfield 37, 3) := by decide +kernel
theorem dX4_readSheets_53 : decode cX4_readSheets 53 = .ok (.aload_n 0, 1) := by decide +kernel
theorem dX4_readSheets_54 : decode cX4_readSheets 54 = .ok (.getfield 15, 3) := by decide +kernel
theorem dX4_readSheets_57 : decode cX4_readSheets 57 = .ok (.if_icmp .ge 10, 3) := by decide +kernel
theorem dX4_readSheets_60 : decode cX4_readSheets 60 = .ok (.aload_n 0, 1) := by decide +kernel
theorem dX4_readSheets_61 : decode cX4_readSheets 61 = .ok (.getfield 37, 3) := by decide +kernel
theorem dX4_readSheets_64 : decode cX4_readSheets 64 = .ok (.goto 4, 3) := by decide +kernel
theorem dX4_readSheets_67 : decode cX4_readSheets 67 = .ok (.iconst (-1), 1) := by decide +kernel
theorem dX4_readSheets_68 : decode cX4_readSheets 68 = .ok (.ireturn, 1) := by decide +kernel
set_option maxRecDepth 20000 in
theorem ggX4_readClause_X4_readWord : GoodIn wsX4_readClause wsX4_readWord := goodIn_r _ [9, 10, 11, 12, 13, 14, 8, 15, 16, 17, 18, 19, 20, 21, 22, 23, 24, 25, 26, 27, 28, 29, 30, 31, 32, 33, 34, 35, 36, 37, 38, 39, 40, 41, 42, 43, 44, 45, 46, 47, 48, 49, 50, 51, 52, 53, 54, 55, 56, 57, 58, 59, 60, 61, 62, 63, 64, 65, 66, 67, 68, 69, 70, 71, 72, 73, 74, 87, 88, 89, 90, 91, 92, 93, 94, 95] (by decide +kernel) (by decide +kernel)
set_option maxRecDepth 20000 in
theorem gX4_readClause_X4_readWord : GoodIn wsX4_readClause (wsV RX4 56 RX4 yX4_readWord wsX4_readWord) := goodIn_app (goodIn_of _ (by decide +kernel)) ggX4_readClause_X4_readWord
set_option maxRecDepth 20000 in
theorem ggX4_readClause_X4_pass : GoodIn wsX4_readClause wsX4_pass := goodIn_r _ [78, 10, 12, 13, 14, 8, 15, 11, 16, 17, 18, 19, 87, 88, 89, 90, 91, 92, 93, 94, 95] (by decide +kernel) (by decide +kernel)
set_option maxRecDepth 20000 in
theorem gX4_readClause_X4_pass : GoodIn wsX4_readClause (wsV RX4 52 RX4 yX4_pass wsX4_pass) := goodIn_app (goodIn_of _ (by decide +kernel)) ggX4_readClause_X4_pass
set_option maxRecDepth 20000 in
theorem ggX4_readClause_X4_readFigure : GoodIn wsX4_readClause wsX4_readFigure := goodIn_r _ [82, 10, 12, 13, 14, 8, 15, 11, 16, 17, 18, 19, 87, 88, 89, 90, 91, 92, 93, 94, 95] (by decide +kernel) (by decide +kernel)
set_option maxRecDepth 20000 in
theorem gX4_readClause_X4_readFigure : GoodIn wsX4_readClause (wsV RX4 60 RX4 yX4_readFigure wsX4_readFigure) := goodIn_app (goodIn_of _ (by decide +kernel)) ggX4_readClause_X4_readFigure
set_option maxRecDepth 20000 in
theorem ggX4_readClause_X4_readNumber : GoodIn wsX4_readClause wsX4_readNumber := goodIn_r _ [86, 79, 80, 81, 8, 82, 10, 12, 13, 14, 15, 11, 16, 17, 18, 19, 75, 76, 77, 78, 87, 88, 89, 90, 91, 92, 93, 94, 95] (by decide +kernel) (by decide +kernel)
set_option maxRecDepth 20000 in
theorem gX4_readClause_X4_readNumber : GoodIn wsX4_readClause (wsV RX4 63 RX4 yX4_readNumber wsX4_readNumber) := goodIn_app (goodIn_of _ (by decide +kernel)) ggX4_readClause_X4_readNumber
theorem dX4_readClause_0 : decode cX4_readClause 0 = .ok (.aload_n 0, 1) := by decide +kernel
theorem dX4_readClause_1 : decode cX4_readClause 1 = .ok (.getfield 19, 3) := by decide +kernel
theorem dX4_readClause_4 : decode cX4_readClause 4 = .ok (.bipush 8, 2) := by decide +kernel
theorem dX4_readClause_6 : decode cX4_readClause 6 = .ok (.if_icmp .lt 5, 3) := by decide +kernel
theorem dX4_readClause_9 : decode cX4_readClause 9 = .ok (.iconst 0, 1) := by decide +kernel
theorem dX4_readClause_10 : decode cX4_readClause 10 = .ok (.ireturn, 1) := by decide +kernel
theorem dX4_readClause_11 : decode cX4_readClause 11 = .ok (.aload_n 0, 1) := by decide +kernel
theorem dX4_readClause_12 : decode cX4_readClause 12 = .ok (.invokevirtual 56, 3) := by decide +kernel
theorem dX4_readClause_15 : decode cX4_readClause 15 = .ok (.istore_n 1, 1) := by decide +kernel
theorem dX4_readClause_16 : decode cX4_readClause 16 = .ok (.iload_n 1, 1) := by decide +kernel
theorem dX4_readClause_17 : decode cX4_readClause 17 = .ok (.ifCond .lt 12, 3) := by decide +kernel
theorem dX4_readClause_20 : decode cX4_readClause 20 = .ok (.aload_n 0, 1) := by decide +kernel
theorem dX4_readClause_21 : decode cX4_readClause 21 = .ok (.bipush 32, 2) := by decide +kernel
theorem dX4_readClause_23 : decode cX4_readClause 23 = .ok (.invokevirtual 52, 3) := by decide +kernel
theorem dX4_readClause_26 : decode cX4_readClause 26 = .ok (.ifCond .ne 5, 3) := by decide +kernel
theorem dX4_readClause_29 : decode cX4_readClause 29 = .ok (.iconst 0, 1) := by decide +kernel
theorem dX4_readClause_30 : decode cX4_readClause 30 = .ok (.ireturn, 1) := by decide +kernel
theorem dX4_readClause_31 : decode cX4_readClause 31 = .ok (.aload_n 0, 1) := by decide +kernel
theorem dX4_readClause_32 : decode cX4_readClause 32 = .ok (.invokevirtual 60, 3) := by decide +kernel
theorem dX4_readClause_35 : decode cX4_readClause 35 = .ok (.istore_n 2, 1) := by decide +kernel
theorem dX4_readClause_36 : decode cX4_readClause 36 = .ok (.iload_n 2, 1) := by decide +kernel
theorem dX4_readClause_37 : decode cX4_readClause 37 = .ok (.ifCond .lt 12, 3) := by decide +kernel
theorem dX4_readClause_40 : decode cX4_readClause 40 = .ok (.aload_n 0, 1) := by decide +kernel
theorem dX4_readClause_41 : decode cX4_readClause 41 = .ok (.bipush 32, 2) := by decide +kernel
theorem dX4_readClause_43 : decode cX4_readClause 43 = .ok (.invokevirtual 52, 3) := by decide +kernel
theorem dX4_readClause_46 : decode cX4_readClause 46 = .ok (.ifCond .ne 5, 3) := by decide +kernel
theorem dX4_readClause_49 : decode cX4_readClause 49 = .ok (.iconst 0, 1) := by decide +kernel
theorem dX4_readClause_50 : decode cX4_readClause 50 = .ok (.ireturn, 1) := by decide +kernel
theorem dX4_readClause_51 : decode cX4_readClause 51 = .ok (.iconst 0, 1) := by decide +kernel
theorem dX4_readClause_52 : decode cX4_readClause 52 = .ok (.istore_n 3, 1) := by decide +kernel
theorem dX4_readClause_53 : decode cX4_readClause 53 = .ok (.iload_n 3, 1) := by decide +kernel
theorem dX4_readClause_54 : decode cX4_readClause 54 = .ok (.iconst 5, 1) := by decide +kernel
theorem dX4_readClause_55 : decode cX4_readClause 55 = .ok (.if_icmp .ge 52, 3) := by decide +kernel
theorem dX4_readClause_58 : decode cX4_readClause 58 = .ok (.iload_n 3, 1) := by decide +kernel
theorem dX4_readClause_59 : decode cX4_readClause 59 = .ok (.ifCond .le 14, 3) := by decide +kernel
theorem dX4_readClause_62 : decode cX4_readClause 62 = .ok (.aload_n 0, 1) := by decide +kernel
theorem dX4_readClause_63 : decode cX4_readClause 63 = .ok (.bipush 44, 2) := by decide +kernel
theorem dX4_readClause_65 : decode cX4_readClause 65 = .ok (.invokevirtual 52, 3) := by decide +kernel
theorem dX4_readClause_68 : decode cX4_readClause 68 = .ok (.ifCond .ne 5, 3) := by decide +kernel
theorem dX4_readClause_71 : decode cX4_readClause 71 = .ok (.iconst 0, 1) := by decide +kernel
theorem dX4_readClause_72 : decode cX4_readClause 72 = .ok (.ireturn, 1) := by decide +kernel
theorem dX4_readClause_73 : decode cX4_readClause 73 = .ok (.aload_n 0, 1) := by decide +kernel
theorem dX4_readClause_74 : decode cX4_readClause 74 = .ok (.invokevirtual 63, 3) := by decide +kernel
theorem dX4_readClause_77 : decode cX4_readClause 77 = .ok (.istore 4, 2) := by decide +kernel
theorem dX4_readClause_79 : decode cX4_readClause 79 = .ok (.iload 4, 2) := by decide +kernel
theorem dX4_readClause_81 : decode cX4_readClause 81 = .ok (.ifCond .ge 5, 3) := by decide +kernel
theorem dX4_readClause_84 : decode cX4_readClause 84 = .ok (.iconst 0, 1) := by decide +kernel
theorem dX4_readClause_85 : decode cX4_readClause 85 = .ok (.ireturn, 1) := by decide +kernel
theorem dX4_readClause_86 : decode cX4_readClause 86 = .ok (.aload_n 0, 1) := by decide +kernel
theorem dX4_readClause_87 : decode cX4_readClause 87 = .ok (.getfield 28, 3) := by decide +kernel
theorem dX4_readClause_90 : decode cX4_readClause 90 = .ok (.aload_n 0, 1) := by decide +kernel
theorem dX4_readClause_91 : decode cX4_readClause 91 = .ok (.getfield 19, 3) := by decide +kernel
theorem dX4_readClause_94 : decode cX4_readClause 94 = .ok (.iconst 5, 1) := by decide +kernel
theorem dX4_readClause_95 : decode cX4_readClause 95 = .ok (.imul, 1) := by decide +kernel
theorem dX4_readClause_96 : decode cX4_readClause 96 = .ok (.iload_n 3, 1) := by decide +kernel
theorem dX4_readClause_97 : decode cX4_readClause 97 = .ok (.iadd, 1) := by decide +kernel
theorem dX4_readClause_98 : decode cX4_readClause 98 = .ok (.iload 4, 2) := by decide +kernel
theorem dX4_readClause_100 : decode cX4_readClause 100 = .ok (.iastore, 1) := by decide +kernel
theorem dX4_readClause_101 : decode cX4_readClause 101 = .ok (.iinc 3 1, 3) := by decide +kernel
theorem dX4_readClause_104 : decode cX4_readClause 104 = .ok (.goto (-51), 3) := by decide +kernel
theorem dX4_readClause_107 : decode cX4_readClause 107 = .ok (.aload_n 0, 1) := by decide +kernel
theorem dX4_readClause_108 : decode cX4_readClause 108 = .ok (.getfield 22, 3) := by decide +kernel
theorem dX4_readClause_111 : decode cX4_readClause 111 = .ok (.aload_n 0, 1) := by decide +kernel
theorem dX4_readClause_112 : decode cX4_readClause 112 = .ok (.getfield 19, 3) := by decide +kernel
theorem dX4_readClause_115 : decode cX4_readClause 115 = .ok (.iload_n 1, 1) := by decide +kernel
theorem dX4_readClause_116 : decode cX4_readClause 116 = .ok (.iastore, 1) := by decide +kernel
theorem dX4_readClause_117 : decode cX4_readClause 117 = .ok (.aload_n 0, 1) := by decide +kernel
theorem dX4_readClause_118 : decode cX4_readClause 118 = .ok (.getfield 25, 3) := by decide +kernel
theorem dX4_readClause_121 : decode cX4_readClause 121 = .ok (.aload_n 0, 1) := by decide +kernel
theorem dX4_readClause_122 : decode cX4_readClause 122 = .ok (.getfield 19, 3) := by decide +kernel
theorem dX4_readClause_125 : decode cX4_readClause 125 = .ok (.iload_n 2, 1) := by decide +kernel
theorem dX4_readClause_126 : decode cX4_readClause 126 = .ok (.iastore, 1) := by decide +kernel
theorem dX4_readClause_127 : decode cX4_readClause 127 = .ok (.aload_n 0, 1) := by decide +kernel
theorem dX4_readClause_128 : decode cX4_readClause 128 = .ok (.dup, 1) := by decide +kernel
theorem dX4_readClause_129 : decode cX4_readClause 129 = .ok (.getfield 19, 3) := by decide +kernel
theorem dX4_readClause_132 : decode cX4_readClause 132 = .ok (.iconst 1, 1) := by decide +kernel
theorem dX4_readClause_133 : decode cX4_readClause 133 = .ok (.iadd, 1) := by decide +kernel
theorem dX4_readClause_134 : decode cX4_readClause 134 = .ok (.putfield 19, 3) := by decide +kernel
theorem dX4_readClause_137 : decode cX4_readClause 137 = .ok (.iconst 1, 1) := by decide +kernel
theorem dX4_readClause_138 : decode cX4_readClause 138 = .ok (.ireturn, 1) := by decide +kernel
set_option maxRecDepth 20000 in
theorem ggX4_pass_X4_byteAt : GoodIn wsX4_pass wsX4_byteAt := goodIn_r _ [6, 7, 8, 9, 10, 11, 12, 13, 14, 15, 16, 17, 18, 19, 20] (by decide +kernel) (by decide +kernel)
set_option maxRecDepth 20000 in
theorem gX4_pass_X4_byteAt : GoodIn wsX4_pass (wsV RX4 44 RX4 yX4_byteAt wsX4_byteAt) := goodIn_app (goodIn_of _ (by decide +kernel)) ggX4_pass_X4_byteAt
theorem dX4_pass_0 : decode cX4_pass 0 = .ok (.aload_n 0, 1) := by decide +kernel
theorem dX4_pass_1 : decode cX4_pass 1 = .ok (.aload_n 0, 1) := by decide +kernel
theorem dX4_pass_2 : decode cX4_pass 2 = .ok (.getfield 37, 3) := by decide +kernel
theorem dX4_pass_5 : decode cX4_pass 5 = .ok (.invokevirtual 44, 3) := by decide +kernel
theorem dX4_pass_8 : decode cX4_pass 8 = .ok (.iload_n 1, 1) := by decide +kernel
theorem dX4_pass_9 : decode cX4_pass 9 = .ok (.if_icmp .eq 5, 3) := by decide +kernel
theorem dX4_pass_12 : decode cX4_pass 12 = .ok (.iconst 0, 1) := by decide +kernel
theorem dX4_pass_13 : decode cX4_pass 13 = .ok (.ireturn, 1) := by decide +kernel
theorem dX4_pass_14 : decode cX4_pass 14 = .ok (.aload_n 0, 1) := by decide +kernel
theorem dX4_pass_15 : decode cX4_pass 15 = .ok (.dup, 1) := by decide +kernel
theorem dX4_pass_16 : decode cX4_pass 16 = .ok (.getfield 37, 3) := by decide +kernel
theorem dX4_pass_19 : decode cX4_pass 19 = .ok (.iconst 1, 1) := by decide +kernel
theorem dX4_pass_20 : decode cX4_pass 20 = .ok (.iadd, 1) := by decide +kernel
theorem dX4_pass_21 : decode cX4_pass 21 = .ok (.putfield 37, 3) := by decide +kernel
theorem dX4_pass_24 : decode cX4_pass 24 = .ok (.iconst 1, 1) := by decide +kernel
theorem dX4_pass_25 : decode cX4_pass 25 = .ok (.ireturn, 1) := by decide +kernel
set_option maxRecDepth 20000 in
theorem ggX4_readFigure_X4_byteAt : GoodIn wsX4_readFigure wsX4_byteAt := goodIn_r _ [6, 7, 8, 9, 10, 11, 12, 13, 14, 15, 16, 17, 18, 19, 20] (by decide +kernel) (by decide +kernel)
set_option maxRecDepth 20000 in
theorem gX4_readFigure_X4_byteAt : GoodIn wsX4_readFigure (wsV RX4 44 RX4 yX4_byteAt wsX4_byteAt) := goodIn_app (goodIn_of _ (by decide +kernel)) ggX4_readFigure_X4_byteAt
set_option maxRecDepth 20000 in
theorem ggX4_readFigure_X6_within : GoodIn wsX4_readFigure wsX6_within := goodIn_r _ [11] (by decide +kernel) (by decide +kernel)
set_option maxRecDepth 20000 in
theorem gX4_readFigure_X6_within_n40 : GoodIn wsX4_readFigure (wsX6_within) := ggX4_readFigure_X6_within
theorem dX4_readFigure_0 : decode cX4_readFigure 0 = .ok (.aload_n 0, 1) := by decide +kernel
theorem dX4_readFigure_1 : decode cX4_readFigure 1 = .ok (.aload_n 0, 1) := by decide +kernel
theorem dX4_readFigure_2 : decode cX4_readFigure 2 = .ok (.getfield 37, 3) := by decide +kernel
theorem dX4_readFigure_5 : decode cX4_readFigure 5 = .ok (.invokevirtual 44, 3) := by decide +kernel
theorem dX4_readFigure_8 : decode cX4_readFigure 8 = .ok (.bipush 48, 2) := by decide +kernel
theorem dX4_readFigure_10 : decode cX4_readFigure 10 = .ok (.isub, 1) := by decide +kernel
theorem dX4_readFigure_11 : decode cX4_readFigure 11 = .ok (.istore_n 1, 1) := by decide +kernel
theorem dX4_readFigure_12 : decode cX4_readFigure 12 = .ok (.iload_n 1, 1) := by decide +kernel
theorem dX4_readFigure_13 : decode cX4_readFigure 13 = .ok (.bipush 10, 2) := by decide +kernel
theorem dX4_readFigure_15 : decode cX4_readFigure 15 = .ok (.invokestatic 40, 3) := by decide +kernel
theorem dX4_readFigure_18 : decode cX4_readFigure 18 = .ok (.ifCond .ne 5, 3) := by decide +kernel
theorem dX4_readFigure_21 : decode cX4_readFigure 21 = .ok (.iconst (-1), 1) := by decide +kernel
theorem dX4_readFigure_22 : decode cX4_readFigure 22 = .ok (.ireturn, 1) := by decide +kernel
theorem dX4_readFigure_23 : decode cX4_readFigure 23 = .ok (.aload_n 0, 1) := by decide +kernel
theorem dX4_readFigure_24 : decode cX4_readFigure 24 = .ok (.dup, 1) := by decide +kernel
theorem dX4_readFigure_25 : decode cX4_readFigure 25 = .ok (.getfield 37, 3) := by decide +kernel
theorem dX4_readFigure_28 : decode cX4_readFigure 28 = .ok (.iconst 1, 1) := by decide +kernel
theorem dX4_readFigure_29 : decode cX4_readFigure 29 = .ok (.iadd, 1) := by decide +kernel
theorem dX4_readFigure_30 : decode cX4_readFigure 30 = .ok (.putfield 37, 3) := by decide +kernel
theorem dX4_readFigure_33 : decode cX4_readFigure 33 = .ok (.iload_n 1, 1) := by decide +kernel
theorem dX4_readFigure_34 : decode cX4_readFigure 34 = .ok (.ireturn, 1) := by decide +kernel
set_option maxRecDepth 20000 in
theorem ggX4_readNumber_X4_readFigure : GoodIn wsX4_readNumber wsX4_readFigure := goodIn_r _ [5, 6, 7, 8, 9, 4, 10, 11, 12, 13, 14, 15, 20, 21, 22, 23, 24, 25, 26, 27, 28] (by decide +kernel) (by decide +kernel)
set_option maxRecDepth 20000 in
theorem gX4_readNumber_X4_readFigure : GoodIn wsX4_readNumber (wsV RX4 60 RX4 yX4_readFigure wsX4_readFigure) := goodIn_app (goodIn_of _ (by decide +kernel)) ggX4_readNumber_X4_readFigure
set_option maxRecDepth 20000 in
theorem ggX4_readNumber_X4_pass : GoodIn wsX4_readNumber wsX4_pass := goodIn_r _ [19, 6, 7, 8, 9, 4, 10, 11, 12, 13, 14, 15, 20, 21, 22, 23, 24, 25, 26, 27, 28] (by decide +kernel) (by decide +kernel)
set_option maxRecDepth 20000 in
theorem gX4_readNumber_X4_pass : GoodIn wsX4_readNumber (wsV RX4 52 RX4 yX4_pass wsX4_pass) := goodIn_app (goodIn_of _ (by decide +kernel)) ggX4_readNumber_X4_pass
theorem dX4_readNumber_0 : decode cX4_readNumber 0 = .ok (.aload_n 0, 1) := by decide +kernel
theorem dX4_readNumber_1 : decode cX4_readNumber 1 = .ok (.invokevirtual 60, 3) := by decide +kernel
theorem dX4_readNumber_4 : decode cX4_readNumber 4 = .ok (.istore_n 1, 1) := by decide +kernel
theorem dX4_readNumber_5 : decode cX4_readNumber 5 = .ok (.iload_n 1, 1) := by decide +kernel
theorem dX4_readNumber_6 : decode cX4_readNumber 6 = .ok (.iconst 1, 1) := by decide +kernel
theorem dX4_readNumber_7 : decode cX4_readNumber 7 = .ok (.if_icmp .ne 17, 3) := by decide +kernel
theorem dX4_readNumber_10 : decode cX4_readNumber 10 = .ok (.aload_n 0, 1) := by decide +kernel
theorem dX4_readNumber_11 : decode cX4_readNumber 11 = .ok (.bipush 48, 2) := by decide +kernel
theorem dX4_readNumber_13 : decode cX4_readNumber 13 = .ok (.invokevirtual 52, 3) := by decide +kernel
theorem dX4_readNumber_16 : decode cX4_readNumber 16 = .ok (.ifCond .eq 8, 3) := by decide +kernel
theorem dX4_readNumber_19 : decode cX4_readNumber 19 = .ok (.bipush 10, 2) := by decide +kernel
theorem dX4_readNumber_21 : decode cX4_readNumber 21 = .ok (.goto 4, 3) := by decide +kernel
theorem dX4_readNumber_24 : decode cX4_readNumber 24 = .ok (.iload_n 1, 1) := by decide +kernel
theorem dX4_readNumber_25 : decode cX4_readNumber 25 = .ok (.ireturn, 1) := by decide +kernel
set_option maxRecDepth 20000 in
theorem ggX4_readWord_X4_byteAt : GoodIn wsX4_readWord wsX4_byteAt := goodIn_r _ [7, 2, 8, 9, 10, 11, 67, 68, 69, 70, 71, 72, 73, 74, 75] (by decide +kernel) (by decide +kernel)
set_option maxRecDepth 20000 in
theorem gX4_readWord_X4_byteAt : GoodIn wsX4_readWord (wsV RX4 44 RX4 yX4_byteAt wsX4_byteAt) := goodIn_app (goodIn_of _ (by decide +kernel)) ggX4_readWord_X4_byteAt
set_option maxRecDepth 20000 in
theorem ggX4_readWord_X6_within : GoodIn wsX4_readWord wsX6_within := goodIn_r _ [11] (by decide +kernel) (by decide +kernel)
set_option maxRecDepth 20000 in
theorem gX4_readWord_X6_within_n40 : GoodIn wsX4_readWord (wsX6_within) := ggX4_readWord_X6_within
set_option maxRecDepth 20000 in
theorem ggX4_readWord_X6_wordOf : GoodIn wsX4_readWord wsX6_wordOf := goodIn_r _ [13] (by decide +kernel) (by decide +kernel)
set_option maxRecDepth 20000 in
theorem gX4_readWord_X6_wordOf_n66 : GoodIn wsX4_readWord (wsX6_wordOf) := ggX4_readWord_X6_wordOf
set_option maxRecDepth 20000 in
theorem ggX4_readWord_X4_spells : GoodIn wsX4_readWord wsX4_spells := goodIn_r _ [17, 1, 18, 19, 20, 21, 22, 23, 24, 25, 26, 27, 28, 29, 3, 4, 5, 6, 7, 2, 8, 9, 10, 11, 30, 31, 32, 33, 34, 35, 36, 37, 38, 39, 40, 41, 42, 43, 44, 45, 46, 47, 48, 49, 50, 51, 52, 53, 54, 55, 56, 57, 58, 59, 60, 61, 62, 63, 64, 65, 66, 67, 68, 69, 70, 71, 72, 73, 74, 75] (by decide +kernel) (by decide +kernel)
set_option maxRecDepth 20000 in
theorem gX4_readWord_X4_spells : GoodIn wsX4_readWord (wsV RX4 70 RX4 yX4_spells wsX4_spells) := goodIn_app (goodIn_of _ (by decide +kernel)) ggX4_readWord_X4_spells
theorem dX4_readWord_0 : decode cX4_readWord 0 = .ok (.aload_n 0, 1) := by decide +kernel
theorem dX4_readWord_1 : decode cX4_readWord 1 = .ok (.getfield 37, 3) := by decide +kernel
theorem dX4_readWord_4 : decode cX4_readWord 4 = .ok (.istore_n 1, 1) := by decide +kernel
theorem dX4_readWord_5 : decode cX4_readWord 5 = .ok (.iload_n 1, 1) := by decide +kernel
theorem dX4_readWord_6 : decode cX4_readWord 6 = .ok (.aload_n 0, 1) := by decide +kernel
theorem dX4_readWord_7 : decode cX4_readWord 7 = .ok (.getfield 15, 3) := by decide +kernel
theorem dX4_readWord_10 : decode cX4_readWord 10 = .ok (.if_icmp .ge 25, 3) := by decide +kernel
theorem dX4_readWord_13 : decode cX4_readWord 13 = .ok (.aload_n 0, 1) := by decide +kernel
theorem dX4_readWord_14 : decode cX4_readWord 14 = .ok (.iload_n 1, 1) := by decide +kernel
theorem dX4_readWord_15 : decode cX4_readWord 15 = .ok (.invokevirtual 44, 3) := by decide +kernel
theorem dX4_readWord_18 : decode cX4_readWord 18 = .ok (.bipush 97, 2) := by decide +kernel
theorem dX4_readWord_20 : decode cX4_readWord 20 = .ok (.isub, 1) := by decide +kernel
theorem dX4_readWord_21 : decode cX4_readWord 21 = .ok (.bipush 26, 2) := by decide +kernel
theorem dX4_readWord_23 : decode cX4_readWord 23 = .ok (.invokestatic 40, 3) := by decide +kernel
theorem dX4_readWord_26 : decode cX4_readWord 26 = .ok (.ifCond .eq 9, 3) := by decide +kernel
theorem dX4_readWord_29 : decode cX4_readWord 29 = .ok (.iinc 1 1, 3) := by decide +kernel
theorem dX4_readWord_32 : decode cX4_readWord 32 = .ok (.goto (-27), 3) := by decide +kernel
theorem dX4_readWord_35 : decode cX4_readWord 35 = .ok (.iconst 0, 1) := by decide +kernel
theorem dX4_readWord_36 : decode cX4_readWord 36 = .ok (.istore_n 2, 1) := by decide +kernel
theorem dX4_readWord_37 : decode cX4_readWord 37 = .ok (.iload_n 2, 1) := by decide +kernel
theorem dX4_readWord_38 : decode cX4_readWord 38 = .ok (.bipush 6, 2) := by decide +kernel
theorem dX4_readWord_40 : decode cX4_readWord 40 = .ok (.if_icmp .ge 28, 3) := by decide +kernel
theorem dX4_readWord_43 : decode cX4_readWord 43 = .ok (.aload_n 0, 1) := by decide +kernel
theorem dX4_readWord_44 : decode cX4_readWord 44 = .ok (.iload_n 2, 1) := by decide +kernel
theorem dX4_readWord_45 : decode cX4_readWord 45 = .ok (.invokestatic 66, 3) := by decide +kernel
theorem dX4_readWord_48 : decode cX4_readWord 48 = .ok (.iload_n 1, 1) := by decide +kernel
theorem dX4_readWord_49 : decode cX4_readWord 49 = .ok (.invokevirtual 70, 3) := by decide +kernel
theorem dX4_readWord_52 : decode cX4_readWord 52 = .ok (.ifCond .eq 10, 3) := by decide +kernel
theorem dX4_readWord_55 : decode cX4_readWord 55 = .ok (.aload_n 0, 1) := by decide +kernel
theorem dX4_readWord_56 : decode cX4_readWord 56 = .ok (.iload_n 1, 1) := by decide +kernel
theorem dX4_readWord_57 : decode cX4_readWord 57 = .ok (.putfield 37, 3) := by decide +kernel
theorem dX4_readWord_60 : decode cX4_readWord 60 = .ok (.iload_n 2, 1) := by decide +kernel
theorem dX4_readWord_61 : decode cX4_readWord 61 = .ok (.ireturn, 1) := by decide +kernel
theorem dX4_readWord_62 : decode cX4_readWord 62 = .ok (.iinc 2 1, 3) := by decide +kernel
theorem dX4_readWord_65 : decode cX4_readWord 65 = .ok (.goto (-28), 3) := by decide +kernel
theorem dX4_readWord_68 : decode cX4_readWord 68 = .ok (.iconst (-1), 1) := by decide +kernel
theorem dX4_readWord_69 : decode cX4_readWord 69 = .ok (.ireturn, 1) := by decide +kernel
set_option maxRecDepth 20000 in
theorem ggX4_spells_J0_length_8abf5 : GoodIn wsX4_spells wsJ0_length_8abf5 := goodIn_r _ [6, 7, 8, 9, 10, 5, 11, 12, 13] (by decide +kernel) (by decide +kernel)
set_option maxRecDepth 20000 in
theorem gX4_spells_J0_length_8abf5 : GoodIn wsX4_spells (wsV RX4 74 RJ0 yJ0_length_8abf5 wsJ0_length_8abf5) := goodIn_app (goodIn_of _ (by decide +kernel)) ggX4_spells_J0_length_8abf5
set_option maxRecDepth 20000 in
theorem ggX4_spells_X4_byteAt : GoodIn wsX4_spells wsX4_byteAt := goodIn_r _ [18, 19, 20, 21, 22, 23, 61, 62, 63, 64, 65, 66, 67, 68, 69] (by decide +kernel) (by decide +kernel)
set_option maxRecDepth 20000 in
theorem gX4_spells_X4_byteAt : GoodIn wsX4_spells (wsV RX4 44 RX4 yX4_byteAt wsX4_byteAt) := goodIn_app (goodIn_of _ (by decide +kernel)) ggX4_spells_X4_byteAt
set_option maxRecDepth 20000 in
theorem ggX4_spells_J0_charAt_5068e : GoodIn wsX4_spells wsJ0_charAt_5068e := goodIn_r _ [27, 7, 28, 29, 30, 5, 31, 12, 13, 32, 33, 34, 35, 36, 37, 38, 39, 40, 41, 42, 43, 44, 45, 46, 47, 48, 49, 50, 51, 52, 53, 54, 55, 56, 57, 58, 59, 60] (by decide +kernel) (by decide +kernel)
set_option maxRecDepth 20000 in
theorem gX4_spells_J0_charAt_5068e : GoodIn wsX4_spells (wsV RX4 79 RJ0 yJ0_charAt_5068e wsJ0_charAt_5068e) := goodIn_app (goodIn_of _ (by decide +kernel)) ggX4_spells_J0_charAt_5068e
theorem dX4_spells_0 : decode cX4_spells 0 = .ok (.aload_n 1, 1) := by decide +kernel
theorem dX4_spells_1 : decode cX4_spells 1 = .ok (.invokevirtual 74, 3) := by decide +kernel
theorem dX4_spells_4 : decode cX4_spells 4 = .ok (.iload_n 2, 1) := by decide +kernel
theorem dX4_spells_5 : decode cX4_spells 5 = .ok (.aload_n 0, 1) := by decide +kernel
theorem dX4_spells_6 : decode cX4_spells 6 = .ok (.getfield 37, 3) := by decide +kernel
theorem dX4_spells_9 : decode cX4_spells 9 = .ok (.isub, 1) := by decide +kernel
theorem dX4_spells_10 : decode cX4_spells 10 = .ok (.if_icmp .eq 5, 3) := by decide +kernel
theorem dX4_spells_13 : decode cX4_spells 13 = .ok (.iconst 0, 1) := by decide +kernel
theorem dX4_spells_14 : decode cX4_spells 14 = .ok (.ireturn, 1) := by decide +kernel
theorem dX4_spells_15 : decode cX4_spells 15 = .ok (.iconst 0, 1) := by decide +kernel
theorem dX4_spells_16 : decode cX4_spells 16 = .ok (.istore_n 3, 1) := by decide +kernel
theorem dX4_spells_17 : decode cX4_spells 17 = .ok (.iload_n 3, 1) := by decide +kernel
theorem dX4_spells_18 : decode cX4_spells 18 = .ok (.aload_n 1, 1) := by decide +kernel
theorem dX4_spells_19 : decode cX4_spells 19 = .ok (.invokevirtual 74, 3) := by decide +kernel
theorem dX4_spells_22 : decode cX4_spells 22 = .ok (.if_icmp .ge 29, 3) := by decide +kernel
theorem dX4_spells_25 : decode cX4_spells 25 = .ok (.aload_n 0, 1) := by decide +kernel
theorem dX4_spells_26 : decode cX4_spells 26 = .ok (.aload_n 0, 1) := by decide +kernel
theorem dX4_spells_27 : decode cX4_spells 27 = .ok (.getfield 37, 3) := by decide +kernel
theorem dX4_spells_30 : decode cX4_spells 30 = .ok (.iload_n 3, 1) := by decide +kernel
theorem dX4_spells_31 : decode cX4_spells 31 = .ok (.iadd, 1) := by decide +kernel
theorem dX4_spells_32 : decode cX4_spells 32 = .ok (.invokevirtual 44, 3) := by decide +kernel
theorem dX4_spells_35 : decode cX4_spells 35 = .ok (.aload_n 1, 1) := by decide +kernel
theorem dX4_spells_36 : decode cX4_spells 36 = .ok (.iload_n 3, 1) := by decide +kernel
theorem dX4_spells_37 : decode cX4_spells 37 = .ok (.invokevirtual 79, 3) := by decide +kernel
theorem dX4_spells_40 : decode cX4_spells 40 = .ok (.if_icmp .eq 5, 3) := by decide +kernel
theorem dX4_spells_43 : decode cX4_spells 43 = .ok (.iconst 0, 1) := by decide +kernel
theorem dX4_spells_44 : decode cX4_spells 44 = .ok (.ireturn, 1) := by decide +kernel
theorem dX4_spells_45 : decode cX4_spells 45 = .ok (.iinc 3 1, 3) := by decide +kernel
theorem dX4_spells_48 : decode cX4_spells 48 = .ok (.goto (-31), 3) := by decide +kernel
theorem dX4_spells_51 : decode cX4_spells 51 = .ok (.iconst 1, 1) := by decide +kernel
theorem dX4_spells_52 : decode cX4_spells 52 = .ok (.ireturn, 1) := by decide +kernel
theorem dX5_init_0 : decode cX5_init 0 = .ok (.aload_n 0, 1) := by decide +kernel
theorem dX5_init_1 : decode cX5_init 1 = .ok (.invokespecial 3, 3) := by decide +kernel
theorem dX5_init_4 : decode cX5_init 4 = .ok (.aload_n 0, 1) := by decide +kernel
theorem dX5_init_5 : decode cX5_init 5 = .ok (.aload_n 1, 1) := by decide +kernel
theorem dX5_init_6 : decode cX5_init 6 = .ok (.putfield 9, 3) := by decide +kernel
theorem dX5_init_9 : decode cX5_init 9 = .ok (.aload_n 0, 1) := by decide +kernel
theorem dX5_init_10 : decode cX5_init 10 = .ok (.aload_n 2, 1) := by decide +kernel
theorem dX5_init_11 : decode cX5_init 11 = .ok (.putfield 15, 3) := by decide +kernel
theorem dX5_init_14 : decode cX5_init 14 = .ok (.aload_n 0, 1) := by decide +kernel
theorem dX5_init_15 : decode cX5_init 15 = .ok (.iconst 4, 1) := by decide +kernel
theorem dX5_init_16 : decode cX5_init 16 = .ok (.newarray .int, 2) := by decide +kernel
theorem dX5_init_18 : decode cX5_init 18 = .ok (.putfield 19, 3) := by decide +kernel
theorem dX5_init_21 : decode cX5_init 21 = .ok (.aload_n 0, 1) := by decide +kernel
theorem dX5_init_22 : decode cX5_init 22 = .ok (.iconst 4, 1) := by decide +kernel
theorem dX5_init_23 : decode cX5_init 23 = .ok (.newarray .int, 2) := by decide +kernel
theorem dX5_init_25 : decode cX5_init 25 = .ok (.putfield 23, 3) := by decide +kernel
theorem dX5_init_28 : decode cX5_init 28 = .ok (.aload_n 0, 1) := by decide +kernel
theorem dX5_init_29 : decode cX5_init 29 = .ok (.iconst 3, 1) := by decide +kernel
theorem dX5_init_30 : decode cX5_init 30 = .ok (.newarray .int, 2) := by decide +kernel
theorem dX5_init_32 : decode cX5_init 32 = .ok (.putfield 26, 3) := by decide +kernel
theorem dX5_init_35 : decode cX5_init 35 = .ok (.aload_n 0, 1) := by decide +kernel
theorem dX5_init_36 : decode cX5_init 36 = .ok (.iconst 0, 1) := by decide +kernel
theorem dX5_init_37 : decode cX5_init 37 = .ok (.putfield 29, 3) := by decide +kernel
theorem dX5_init_40 : decode cX5_init 40 = .ok (.aload_n 0, 1) := by decide +kernel
theorem dX5_init_41 : decode cX5_init 41 = .ok (.iconst 0, 1) := by decide +kernel
theorem dX5_init_42 : decode cX5_init 42 = .ok (.putfield 33, 3) := by decide +kernel
theorem dX5_init_45 : decode cX5_init 45 = .ok (.aload_n 0, 1) := by decide +kernel
theorem dX5_init_46 : decode cX5_init 46 = .ok (.iconst 0, 1) := by decide +kernel
theorem dX5_init_47 : decode cX5_init 47 = .ok (.putfield 36, 3) := by decide +kernel
theorem dX5_init_50 : decode cX5_init 50 = .ok (.return_, 1) := by decide +kernel
set_option maxRecDepth 20000 in
theorem ggX5_seekFewest_X0_lookAtSheets : GoodIn wsX5_seekFewest wsX0_lookAtSheets := goodIn_r _ [7, 8, 9, 10, 11, 12, 13, 14, 6, 15, 16, 17, 18, 19, 20, 21, 22, 23, 24, 25, 26, 27, 28, 29, 30, 31, 32, 33, 34, 35, 36, 37, 38, 110, 111, 112, 113, 114, 115, 116, 117, 118, 119, 120, 121, 122, 123, 124] (by decide +kernel) (by decide +kernel)
set_option maxRecDepth 20000 in
theorem gX5_seekFewest_X0_lookAtSheets : GoodIn wsX5_seekFewest (wsV RX5 39 RX0 yX0_lookAtSheets wsX0_lookAtSheets) := goodIn_app (goodIn_of _ (by decide +kernel)) ggX5_seekFewest_X0_lookAtSheets
set_option maxRecDepth 20000 in
theorem ggX5_seekFewest_X5_begin : GoodIn wsX5_seekFewest wsX5_begin := goodIn_r _ [43, 44, 45, 46, 102, 103, 104, 105, 106, 107, 108, 109, 115, 116, 117, 118, 119, 120, 121, 122, 123, 124] (by decide +kernel) (by decide +kernel)
set_option maxRecDepth 20000 in
theorem gX5_seekFewest_X5_begin : GoodIn wsX5_seekFewest (wsV RX5 44 RX5 yX5_begin wsX5_begin) := goodIn_app (goodIn_of _ (by decide +kernel)) ggX5_seekFewest_X5_begin
set_option maxRecDepth 20000 in
theorem ggX5_seekFewest_X5_pileTried : GoodIn wsX5_seekFewest wsX5_pileTried := goodIn_r _ [50, 1, 44, 51, 52, 53, 6, 54, 55, 56, 57, 58, 59, 60, 61, 16, 62, 17, 18, 19, 102, 103, 104, 105, 106, 107, 108, 109, 110, 111, 112, 113, 114] (by decide +kernel) (by decide +kernel)
set_option maxRecDepth 20000 in
theorem gX5_seekFewest_X5_pileTried : GoodIn wsX5_seekFewest (wsV RX5 48 RX5 yX5_pileTried wsX5_pileTried) := goodIn_app (goodIn_of _ (by decide +kernel)) ggX5_seekFewest_X5_pileTried
set_option maxRecDepth 20000 in
theorem ggX5_seekFewest_X5_isWished : GoodIn wsX5_seekFewest wsX5_isWished := goodIn_r _ [66, 1, 45, 67, 68, 69, 70, 6, 71, 72, 73, 74, 75, 8, 76, 77, 55, 17, 18, 19, 78, 79, 80, 81, 82, 83, 84, 56, 85, 86, 87, 102, 103, 104, 105, 106, 107, 108, 109, 115, 116, 117, 118, 119, 120, 121, 122, 123, 124, 110, 111, 112, 113, 114] (by decide +kernel) (by decide +kernel)
set_option maxRecDepth 20000 in
theorem gX5_seekFewest_X5_isWished : GoodIn wsX5_seekFewest (wsV RX5 52 RX5 yX5_isWished wsX5_isWished) := goodIn_app (goodIn_of _ (by decide +kernel)) ggX5_seekFewest_X5_isWished
set_option maxRecDepth 20000 in
theorem ggX5_seekFewest_X5_keep : GoodIn wsX5_seekFewest wsX5_keep := goodIn_r _ [91, 92, 44, 93, 94, 102, 103, 104, 105, 106, 107, 108, 109] (by decide +kernel) (by decide +kernel)
set_option maxRecDepth 20000 in
theorem gX5_seekFewest_X5_keep : GoodIn wsX5_seekFewest (wsV RX5 55 RX5 yX5_keep wsX5_keep) := goodIn_app (goodIn_of _ (by decide +kernel)) ggX5_seekFewest_X5_keep
set_option maxRecDepth 20000 in
theorem ggX5_seekFewest_X5_goOn : GoodIn wsX5_seekFewest wsX5_goOn := goodIn_r _ [98, 44, 99, 100, 37, 101, 45, 46, 102, 103, 104, 105, 106, 107, 108, 109, 115, 116, 117, 118, 119, 120, 121, 122, 123, 124] (by decide +kernel) (by decide +kernel)
set_option maxRecDepth 20000 in
theorem gX5_seekFewest_X5_goOn : GoodIn wsX5_seekFewest (wsV RX5 59 RX5 yX5_goOn wsX5_goOn) := goodIn_app (goodIn_of _ (by decide +kernel)) ggX5_seekFewest_X5_goOn
theorem dX5_seekFewest_0 : decode cX5_seekFewest 0 = .ok (.aload_n 0, 1) := by decide +kernel
theorem dX5_seekFewest_1 : decode cX5_seekFewest 1 = .ok (.getfield 15, 3) := by decide +kernel
theorem dX5_seekFewest_4 : decode cX5_seekFewest 4 = .ok (.invokevirtual 39, 3) := by decide +kernel
theorem dX5_seekFewest_7 : decode cX5_seekFewest 7 = .ok (.aload_n 0, 1) := by decide +kernel
theorem dX5_seekFewest_8 : decode cX5_seekFewest 8 = .ok (.iconst 0, 1) := by decide +kernel
theorem dX5_seekFewest_9 : decode cX5_seekFewest 9 = .ok (.putfield 36, 3) := by decide +kernel
theorem dX5_seekFewest_12 : decode cX5_seekFewest 12 = .ok (.iconst 0, 1) := by decide +kernel
theorem dX5_seekFewest_13 : decode cX5_seekFewest 13 = .ok (.istore_n 2, 1) := by decide +kernel
theorem dX5_seekFewest_14 : decode cX5_seekFewest 14 = .ok (.iload_n 2, 1) := by decide +kernel
theorem dX5_seekFewest_15 : decode cX5_seekFewest 15 = .ok (.iconst 4, 1) := by decide +kernel
theorem dX5_seekFewest_16 : decode cX5_seekFewest 16 = .ok (.if_icmp .gt 85, 3) := by decide +kernel
theorem dX5_seekFewest_19 : decode cX5_seekFewest 19 = .ok (.aload_n 0, 1) := by decide +kernel
theorem dX5_seekFewest_20 : decode cX5_seekFewest 20 = .ok (.getfield 36, 3) := by decide +kernel
theorem dX5_seekFewest_23 : decode cX5_seekFewest 23 = .ok (.ifCond .ne 78, 3) := by decide +kernel
theorem dX5_seekFewest_26 : decode cX5_seekFewest 26 = .ok (.aload_n 0, 1) := by decide +kernel
theorem dX5_seekFewest_27 : decode cX5_seekFewest 27 = .ok (.iload_n 2, 1) := by decide +kernel
theorem dX5_seekFewest_28 : decode cX5_seekFewest 28 = .ok (.invokevirtual 44, 3) := by decide +kernel
theorem dX5_seekFewest_31 : decode cX5_seekFewest 31 = .ok (.istore_n 3, 1) := by decide +kernel
theorem dX5_seekFewest_32 : decode cX5_seekFewest 32 = .ok (.iconst 0, 1) := by decide +kernel
theorem dX5_seekFewest_33 : decode cX5_seekFewest 33 = .ok (.istore 4, 2) := by decide +kernel
theorem dX5_seekFewest_35 : decode cX5_seekFewest 35 = .ok (.iload 4, 2) := by decide +kernel
theorem dX5_seekFewest_37 : decode cX5_seekFewest 37 = .ok (.sipush 1000, 3) := by decide +kernel
theorem dX5_seekFewest_40 : decode cX5_seekFewest 40 = .ok (.if_icmp .ge 55, 3) := by decide +kernel
theorem dX5_seekFewest_43 : decode cX5_seekFewest 43 = .ok (.iload_n 3, 1) := by decide +kernel
theorem dX5_seekFewest_44 : decode cX5_seekFewest 44 = .ok (.ifCond .eq 51, 3) := by decide +kernel
theorem dX5_seekFewest_47 : decode cX5_seekFewest 47 = .ok (.aload_n 0, 1) := by decide +kernel
theorem dX5_seekFewest_48 : decode cX5_seekFewest 48 = .ok (.iload_n 2, 1) := by decide +kernel
theorem dX5_seekFewest_49 : decode cX5_seekFewest 49 = .ok (.invokevirtual 48, 3) := by decide +kernel
theorem dX5_seekFewest_52 : decode cX5_seekFewest 52 = .ok (.aload_n 0, 1) := by decide +kernel
theorem dX5_seekFewest_53 : decode cX5_seekFewest 53 = .ok (.iload_n 1, 1) := by decide +kernel
theorem dX5_seekFewest_54 : decode cX5_seekFewest 54 = .ok (.invokevirtual 52, 3) := by decide +kernel
theorem dX5_seekFewest_57 : decode cX5_seekFewest 57 = .ok (.ifCond .eq 26, 3) := by decide +kernel
theorem dX5_seekFewest_60 : decode cX5_seekFewest 60 = .ok (.aload_n 0, 1) := by decide +kernel
theorem dX5_seekFewest_61 : decode cX5_seekFewest 61 = .ok (.getfield 36, 3) := by decide +kernel
theorem dX5_seekFewest_64 : decode cX5_seekFewest 64 = .ok (.ifCond .ne 9, 3) := by decide +kernel
theorem dX5_seekFewest_67 : decode cX5_seekFewest 67 = .ok (.aload_n 0, 1) := by decide +kernel
theorem dX5_seekFewest_68 : decode cX5_seekFewest 68 = .ok (.iload_n 2, 1) := by decide +kernel
theorem dX5_seekFewest_69 : decode cX5_seekFewest 69 = .ok (.iconst 0, 1) := by decide +kernel
theorem dX5_seekFewest_70 : decode cX5_seekFewest 70 = .ok (.invokevirtual 55, 3) := by decide +kernel
theorem dX5_seekFewest_73 : decode cX5_seekFewest 73 = .ok (.aload_n 0, 1) := by decide +kernel
theorem dX5_seekFewest_74 : decode cX5_seekFewest 74 = .ok (.dup, 1) := by decide +kernel
theorem dX5_seekFewest_75 : decode cX5_seekFewest 75 = .ok (.getfield 36, 3) := by decide +kernel
theorem dX5_seekFewest_78 : decode cX5_seekFewest 78 = .ok (.iconst 1, 1) := by decide +kernel
theorem dX5_seekFewest_79 : decode cX5_seekFewest 79 = .ok (.iadd, 1) := by decide +kernel
theorem dX5_seekFewest_80 : decode cX5_seekFewest 80 = .ok (.putfield 36, 3) := by decide +kernel
theorem dX5_seekFewest_83 : decode cX5_seekFewest 83 = .ok (.aload_n 0, 1) := by decide +kernel
theorem dX5_seekFewest_84 : decode cX5_seekFewest 84 = .ok (.iload_n 2, 1) := by decide +kernel
theorem dX5_seekFewest_85 : decode cX5_seekFewest 85 = .ok (.invokevirtual 59, 3) := by decide +kernel
theorem dX5_seekFewest_88 : decode cX5_seekFewest 88 = .ok (.istore_n 3, 1) := by decide +kernel
theorem dX5_seekFewest_89 : decode cX5_seekFewest 89 = .ok (.iinc 4 1, 3) := by decide +kernel
theorem dX5_seekFewest_92 : decode cX5_seekFewest 92 = .ok (.goto (-57), 3) := by decide +kernel
theorem dX5_seekFewest_95 : decode cX5_seekFewest 95 = .ok (.iinc 2 1, 3) := by decide +kernel
theorem dX5_seekFewest_98 : decode cX5_seekFewest 98 = .ok (.goto (-84), 3) := by decide +kernel
theorem dX5_seekFewest_101 : decode cX5_seekFewest 101 = .ok (.return_, 1) := by decide +kernel
set_option maxRecDepth 20000 in
theorem ggX5_seekNearest_X0_lookAtSheets : GoodIn wsX5_seekNearest wsX0_lookAtSheets := goodIn_r _ [8, 9, 10, 11, 12, 13, 14, 15, 7, 16, 17, 18, 19, 20, 21, 22, 23, 24, 25, 26, 27, 28, 29, 30, 31, 32, 33, 34, 35, 36, 37, 38, 39, 120, 121, 122, 123, 124, 125, 126, 127, 128, 129, 130, 131, 132, 133, 134] (by decide +kernel) (by decide +kernel)
set_option maxRecDepth 20000 in
theorem gX5_seekNearest_X0_lookAtSheets : GoodIn wsX5_seekNearest (wsV RX5 39 RX0 yX0_lookAtSheets wsX0_lookAtSheets) := goodIn_app (goodIn_of _ (by decide +kernel)) ggX5_seekNearest_X0_lookAtSheets
set_option maxRecDepth 20000 in
theorem ggX5_seekNearest_X5_begin : GoodIn wsX5_seekNearest wsX5_begin := goodIn_r _ [44, 45, 46, 47, 112, 113, 114, 115, 116, 117, 118, 119, 125, 126, 127, 128, 129, 130, 131, 132, 133, 134] (by decide +kernel) (by decide +kernel)
set_option maxRecDepth 20000 in
theorem gX5_seekNearest_X5_begin : GoodIn wsX5_seekNearest (wsV RX5 44 RX5 yX5_begin wsX5_begin) := goodIn_app (goodIn_of _ (by decide +kernel)) ggX5_seekNearest_X5_begin
set_option maxRecDepth 20000 in
theorem ggX5_seekNearest_X5_pileTried : GoodIn wsX5_seekNearest wsX5_pileTried := goodIn_r _ [51, 1, 45, 52, 53, 54, 7, 55, 56, 57, 58, 59, 60, 61, 62, 17, 63, 18, 19, 20, 112, 113, 114, 115, 116, 117, 118, 119, 120, 121, 122, 123, 124] (by decide +kernel) (by decide +kernel)
set_option maxRecDepth 20000 in
theorem gX5_seekNearest_X5_pileTried : GoodIn wsX5_seekNearest (wsV RX5 48 RX5 yX5_pileTried wsX5_pileTried) := goodIn_app (goodIn_of _ (by decide +kernel)) ggX5_seekNearest_X5_pileTried
set_option maxRecDepth 20000 in
theorem ggX5_seekNearest_X5_missOf : GoodIn wsX5_seekNearest wsX5_missOf := goodIn_r _ [67, 1, 68, 46, 69, 70, 71, 72, 7, 73, 74, 75, 76, 77, 78, 79, 80, 81, 9, 82, 83, 56, 18, 19, 20, 84, 85, 86, 87, 88, 89, 90, 57, 91, 92, 93, 94, 95, 96, 97, 38, 98, 112, 113, 114, 115, 116, 117, 118, 119, 125, 126, 127, 128, 129, 130, 131, 132, 133, 134, 120, 121, 122, 123, 124] (by decide +kernel) (by decide +kernel)
set_option maxRecDepth 20000 in
theorem gX5_seekNearest_X5_missOf : GoodIn wsX5_seekNearest (wsV RX5 63 RX5 yX5_missOf wsX5_missOf) := goodIn_app (goodIn_of _ (by decide +kernel)) ggX5_seekNearest_X5_missOf
set_option maxRecDepth 20000 in
theorem ggX5_seekNearest_X5_keep : GoodIn wsX5_seekNearest wsX5_keep := goodIn_r _ [102, 103, 45, 104, 3, 112, 113, 114, 115, 116, 117, 118, 119] (by decide +kernel) (by decide +kernel)
set_option maxRecDepth 20000 in
theorem gX5_seekNearest_X5_keep : GoodIn wsX5_seekNearest (wsV RX5 55 RX5 yX5_keep wsX5_keep) := goodIn_app (goodIn_of _ (by decide +kernel)) ggX5_seekNearest_X5_keep
set_option maxRecDepth 20000 in
theorem ggX5_seekNearest_X5_goOn : GoodIn wsX5_seekNearest wsX5_goOn := goodIn_r _ [108, 45, 109, 110, 38, 111, 46, 47, 112, 113, 114, 115, 116, 117, 118, 119, 125, 126, 127, 128, 129, 130, 131, 132, 133, 134] (by decide +kernel) (by decide +kernel)
set_option maxRecDepth 20000 in
theorem gX5_seekNearest_X5_goOn : GoodIn wsX5_seekNearest (wsV RX5 59 RX5 yX5_goOn wsX5_goOn) := goodIn_app (goodIn_of _ (by decide +kernel)) ggX5_seekNearest_X5_goOn
theorem dX5_seekNearest_0 : decode cX5_seekNearest 0 = .ok (.aload_n 0, 1) := by decide +kernel
theorem dX5_seekNearest_1 : decode cX5_seekNearest 1 = .ok (.getfield 15, 3) := by decide +kernel
theorem dX5_seekNearest_4 : decode cX5_seekNearest 4 = .ok (.invokevirtual 39, 3) := by decide +kernel
theorem dX5_seekNearest_7 : decode cX5_seekNearest 7 = .ok (.aload_n 0, 1) := by decide +kernel
theorem dX5_seekNearest_8 : decode cX5_seekNearest 8 = .ok (.ldc 62, 2) := by decide +kernel
theorem dX5_seekNearest_10 : decode cX5_seekNearest 10 = .ok (.putfield 33, 3) := by decide +kernel
theorem dX5_seekNearest_13 : decode cX5_seekNearest 13 = .ok (.iconst 0, 1) := by decide +kernel
theorem dX5_seekNearest_14 : decode cX5_seekNearest 14 = .ok (.istore_n 2, 1) := by decide +kernel
theorem dX5_seekNearest_15 : decode cX5_seekNearest 15 = .ok (.iload_n 2, 1) := by decide +kernel
theorem dX5_seekNearest_16 : decode cX5_seekNearest 16 = .ok (.iconst 3, 1) := by decide +kernel
theorem dX5_seekNearest_17 : decode cX5_seekNearest 17 = .ok (.if_icmp .gt 70, 3) := by decide +kernel
theorem dX5_seekNearest_20 : decode cX5_seekNearest 20 = .ok (.aload_n 0, 1) := by decide +kernel
theorem dX5_seekNearest_21 : decode cX5_seekNearest 21 = .ok (.iload_n 2, 1) := by decide +kernel
theorem dX5_seekNearest_22 : decode cX5_seekNearest 22 = .ok (.invokevirtual 44, 3) := by decide +kernel
theorem dX5_seekNearest_25 : decode cX5_seekNearest 25 = .ok (.istore_n 3, 1) := by decide +kernel
theorem dX5_seekNearest_26 : decode cX5_seekNearest 26 = .ok (.iconst 0, 1) := by decide +kernel
theorem dX5_seekNearest_27 : decode cX5_seekNearest 27 = .ok (.istore 4, 2) := by decide +kernel
theorem dX5_seekNearest_29 : decode cX5_seekNearest 29 = .ok (.iload 4, 2) := by decide +kernel
theorem dX5_seekNearest_31 : decode cX5_seekNearest 31 = .ok (.sipush 1000, 3) := by decide +kernel
theorem dX5_seekNearest_34 : decode cX5_seekNearest 34 = .ok (.if_icmp .ge 47, 3) := by decide +kernel
theorem dX5_seekNearest_37 : decode cX5_seekNearest 37 = .ok (.iload_n 3, 1) := by decide +kernel
theorem dX5_seekNearest_38 : decode cX5_seekNearest 38 = .ok (.ifCond .eq 43, 3) := by decide +kernel
theorem dX5_seekNearest_41 : decode cX5_seekNearest 41 = .ok (.aload_n 0, 1) := by decide +kernel
theorem dX5_seekNearest_42 : decode cX5_seekNearest 42 = .ok (.iload_n 2, 1) := by decide +kernel
theorem dX5_seekNearest_43 : decode cX5_seekNearest 43 = .ok (.invokevirtual 48, 3) := by decide +kernel
theorem dX5_seekNearest_46 : decode cX5_seekNearest 46 = .ok (.aload_n 0, 1) := by decide +kernel
theorem dX5_seekNearest_47 : decode cX5_seekNearest 47 = .ok (.iload_n 1, 1) := by decide +kernel
theorem dX5_seekNearest_48 : decode cX5_seekNearest 48 = .ok (.invokevirtual 63, 3) := by decide +kernel
theorem dX5_seekNearest_51 : decode cX5_seekNearest 51 = .ok (.istore 5, 2) := by decide +kernel
theorem dX5_seekNearest_53 : decode cX5_seekNearest 53 = .ok (.iload 5, 2) := by decide +kernel
theorem dX5_seekNearest_55 : decode cX5_seekNearest 55 = .ok (.aload_n 0, 1) := by decide +kernel
theorem dX5_seekNearest_56 : decode cX5_seekNearest 56 = .ok (.getfield 33, 3) := by decide +kernel
theorem dX5_seekNearest_59 : decode cX5_seekNearest 59 = .ok (.if_icmp .ge 10, 3) := by decide +kernel
theorem dX5_seekNearest_62 : decode cX5_seekNearest 62 = .ok (.aload_n 0, 1) := by decide +kernel
theorem dX5_seekNearest_63 : decode cX5_seekNearest 63 = .ok (.iload_n 2, 1) := by decide +kernel
theorem dX5_seekNearest_64 : decode cX5_seekNearest 64 = .ok (.iload 5, 2) := by decide +kernel
theorem dX5_seekNearest_66 : decode cX5_seekNearest 66 = .ok (.invokevirtual 55, 3) := by decide +kernel
theorem dX5_seekNearest_69 : decode cX5_seekNearest 69 = .ok (.aload_n 0, 1) := by decide +kernel
theorem dX5_seekNearest_70 : decode cX5_seekNearest 70 = .ok (.iload_n 2, 1) := by decide +kernel
theorem dX5_seekNearest_71 : decode cX5_seekNearest 71 = .ok (.invokevirtual 59, 3) := by decide +kernel
theorem dX5_seekNearest_74 : decode cX5_seekNearest 74 = .ok (.istore_n 3, 1) := by decide +kernel
theorem dX5_seekNearest_75 : decode cX5_seekNearest 75 = .ok (.iinc 4 1, 3) := by decide +kernel
theorem dX5_seekNearest_78 : decode cX5_seekNearest 78 = .ok (.goto (-49), 3) := by decide +kernel
theorem dX5_seekNearest_81 : decode cX5_seekNearest 81 = .ok (.iinc 2 1, 3) := by decide +kernel
theorem dX5_seekNearest_84 : decode cX5_seekNearest 84 = .ok (.goto (-69), 3) := by decide +kernel
theorem dX5_seekNearest_87 : decode cX5_seekNearest 87 = .ok (.return_, 1) := by decide +kernel
set_option maxRecDepth 20000 in
theorem ggX5_bestSheet_X6_within : GoodIn wsX5_bestSheet wsX6_within := goodIn_r _ [5] (by decide +kernel) (by decide +kernel)
set_option maxRecDepth 20000 in
theorem gX5_bestSheet_X6_within_n67 : GoodIn wsX5_bestSheet (wsX6_within) := ggX5_bestSheet_X6_within
theorem dX5_bestSheet_0 : decode cX5_bestSheet 0 = .ok (.iload_n 1, 1) := by decide +kernel
theorem dX5_bestSheet_1 : decode cX5_bestSheet 1 = .ok (.aload_n 0, 1) := by decide +kernel
theorem dX5_bestSheet_2 : decode cX5_bestSheet 2 = .ok (.getfield 29, 3) := by decide +kernel
theorem dX5_bestSheet_5 : decode cX5_bestSheet 5 = .ok (.if_icmp .ge 24, 3) := by decide +kernel
theorem dX5_bestSheet_8 : decode cX5_bestSheet 8 = .ok (.iload_n 1, 1) := by decide +kernel
theorem dX5_bestSheet_9 : decode cX5_bestSheet 9 = .ok (.aload_n 0, 1) := by decide +kernel
theorem dX5_bestSheet_10 : decode cX5_bestSheet 10 = .ok (.getfield 23, 3) := by decide +kernel
theorem dX5_bestSheet_13 : decode cX5_bestSheet 13 = .ok (.arraylength, 1) := by decide +kernel
theorem dX5_bestSheet_14 : decode cX5_bestSheet 14 = .ok (.invokestatic 67, 3) := by decide +kernel
theorem dX5_bestSheet_17 : decode cX5_bestSheet 17 = .ok (.ifCond .eq 12, 3) := by decide +kernel
theorem dX5_bestSheet_20 : decode cX5_bestSheet 20 = .ok (.aload_n 0, 1) := by decide +kernel
theorem dX5_bestSheet_21 : decode cX5_bestSheet 21 = .ok (.getfield 23, 3) := by decide +kernel
theorem dX5_bestSheet_24 : decode cX5_bestSheet 24 = .ok (.iload_n 1, 1) := by decide +kernel
theorem dX5_bestSheet_25 : decode cX5_bestSheet 25 = .ok (.iaload, 1) := by decide +kernel
theorem dX5_bestSheet_26 : decode cX5_bestSheet 26 = .ok (.goto 5, 3) := by decide +kernel
theorem dX5_bestSheet_29 : decode cX5_bestSheet 29 = .ok (.bipush (-5), 2) := by decide +kernel
theorem dX5_bestSheet_31 : decode cX5_bestSheet 31 = .ok (.ireturn, 1) := by decide +kernel
theorem dX5_begin_0 : decode cX5_begin 0 = .ok (.iconst 0, 1) := by decide +kernel
theorem dX5_begin_1 : decode cX5_begin 1 = .ok (.istore_n 2, 1) := by decide +kernel
theorem dX5_begin_2 : decode cX5_begin 2 = .ok (.iload_n 2, 1) := by decide +kernel
theorem dX5_begin_3 : decode cX5_begin 3 = .ok (.iload_n 1, 1) := by decide +kernel
theorem dX5_begin_4 : decode cX5_begin 4 = .ok (.if_icmp .ge 25, 3) := by decide +kernel
theorem dX5_begin_7 : decode cX5_begin 7 = .ok (.iload_n 2, 1) := by decide +kernel
theorem dX5_begin_8 : decode cX5_begin 8 = .ok (.aload_n 0, 1) := by decide +kernel
theorem dX5_begin_9 : decode cX5_begin 9 = .ok (.getfield 19, 3) := by decide +kernel
theorem dX5_begin_12 : decode cX5_begin 12 = .ok (.arraylength, 1) := by decide +kernel
theorem dX5_begin_13 : decode cX5_begin 13 = .ok (.if_icmp .ge 16, 3) := by decide +kernel
theorem dX5_begin_16 : decode cX5_begin 16 = .ok (.aload_n 0, 1) := by decide +kernel
theorem dX5_begin_17 : decode cX5_begin 17 = .ok (.getfield 19, 3) := by decide +kernel
theorem dX5_begin_20 : decode cX5_begin 20 = .ok (.iload_n 2, 1) := by decide +kernel
theorem dX5_begin_21 : decode cX5_begin 21 = .ok (.iconst 0, 1) := by decide +kernel
theorem dX5_begin_22 : decode cX5_begin 22 = .ok (.iastore, 1) := by decide +kernel
theorem dX5_begin_23 : decode cX5_begin 23 = .ok (.iinc 2 1, 3) := by decide +kernel
theorem dX5_begin_26 : decode cX5_begin 26 = .ok (.goto (-24), 3) := by decide +kernel
theorem dX5_begin_29 : decode cX5_begin 29 = .ok (.iload_n 1, 1) := by decide +kernel
theorem dX5_begin_30 : decode cX5_begin 30 = .ok (.ifCond .eq 13, 3) := by decide +kernel
theorem dX5_begin_33 : decode cX5_begin 33 = .ok (.aload_n 0, 1) := by decide +kernel
theorem dX5_begin_34 : decode cX5_begin 34 = .ok (.getfield 9, 3) := by decide +kernel
theorem dX5_begin_37 : decode cX5_begin 37 = .ok (.getfield 71, 3) := by decide +kernel
theorem dX5_begin_40 : decode cX5_begin 40 = .ok (.ifCond .le 7, 3) := by decide +kernel
theorem dX5_begin_43 : decode cX5_begin 43 = .ok (.iconst 1, 1) := by decide +kernel
theorem dX5_begin_44 : decode cX5_begin 44 = .ok (.goto 4, 3) := by decide +kernel
theorem dX5_begin_47 : decode cX5_begin 47 = .ok (.iconst 0, 1) := by decide +kernel
theorem dX5_begin_48 : decode cX5_begin 48 = .ok (.ireturn, 1) := by decide +kernel
theorem dX5_goOn_0 : decode cX5_goOn 0 = .ok (.iload_n 1, 1) := by decide +kernel
theorem dX5_goOn_1 : decode cX5_goOn 1 = .ok (.aload_n 0, 1) := by decide +kernel
theorem dX5_goOn_2 : decode cX5_goOn 2 = .ok (.getfield 19, 3) := by decide +kernel
theorem dX5_goOn_5 : decode cX5_goOn 5 = .ok (.arraylength, 1) := by decide +kernel
theorem dX5_goOn_6 : decode cX5_goOn 6 = .ok (.invokestatic 76, 3) := by decide +kernel
theorem dX5_goOn_9 : decode cX5_goOn 9 = .ok (.iconst 1, 1) := by decide +kernel
theorem dX5_goOn_10 : decode cX5_goOn 10 = .ok (.isub, 1) := by decide +kernel
theorem dX5_goOn_11 : decode cX5_goOn 11 = .ok (.istore_n 2, 1) := by decide +kernel
theorem dX5_goOn_12 : decode cX5_goOn 12 = .ok (.iload_n 2, 1) := by decide +kernel
theorem dX5_goOn_13 : decode cX5_goOn 13 = .ok (.ifCond .lt 27, 3) := by decide +kernel
theorem dX5_goOn_16 : decode cX5_goOn 16 = .ok (.aload_n 0, 1) := by decide +kernel
theorem dX5_goOn_17 : decode cX5_goOn 17 = .ok (.getfield 19, 3) := by decide +kernel
theorem dX5_goOn_20 : decode cX5_goOn 20 = .ok (.iload_n 2, 1) := by decide +kernel
theorem dX5_goOn_21 : decode cX5_goOn 21 = .ok (.iaload, 1) := by decide +kernel
theorem dX5_goOn_22 : decode cX5_goOn 22 = .ok (.aload_n 0, 1) := by decide +kernel
theorem dX5_goOn_23 : decode cX5_goOn 23 = .ok (.getfield 9, 3) := by decide +kernel
theorem dX5_goOn_26 : decode cX5_goOn 26 = .ok (.getfield 71, 3) := by decide +kernel
theorem dX5_goOn_29 : decode cX5_goOn 29 = .ok (.iconst 1, 1) := by decide +kernel
theorem dX5_goOn_30 : decode cX5_goOn 30 = .ok (.isub, 1) := by decide +kernel
theorem dX5_goOn_31 : decode cX5_goOn 31 = .ok (.if_icmp .lt 9, 3) := by decide +kernel
theorem dX5_goOn_34 : decode cX5_goOn 34 = .ok (.iinc 2 (-1), 3) := by decide +kernel
theorem dX5_goOn_37 : decode cX5_goOn 37 = .ok (.goto (-25), 3) := by decide +kernel
theorem dX5_goOn_40 : decode cX5_goOn 40 = .ok (.iload_n 2, 1) := by decide +kernel
theorem dX5_goOn_41 : decode cX5_goOn 41 = .ok (.ifCond .ge 5, 3) := by decide +kernel
theorem dX5_goOn_44 : decode cX5_goOn 44 = .ok (.iconst 0, 1) := by decide +kernel
theorem dX5_goOn_45 : decode cX5_goOn 45 = .ok (.ireturn, 1) := by decide +kernel
theorem dX5_goOn_46 : decode cX5_goOn 46 = .ok (.aload_n 0, 1) := by decide +kernel
theorem dX5_goOn_47 : decode cX5_goOn 47 = .ok (.getfield 19, 3) := by decide +kernel
theorem dX5_goOn_50 : decode cX5_goOn 50 = .ok (.iload_n 2, 1) := by decide +kernel
theorem dX5_goOn_51 : decode cX5_goOn 51 = .ok (.iaload, 1) := by decide +kernel
theorem dX5_goOn_52 : decode cX5_goOn 52 = .ok (.iconst 1, 1) := by decide +kernel
theorem dX5_goOn_53 : decode cX5_goOn 53 = .ok (.iadd, 1) := by decide +kernel
theorem dX5_goOn_54 : decode cX5_goOn 54 = .ok (.istore_n 3, 1) := by decide +kernel
theorem dX5_goOn_55 : decode cX5_goOn 55 = .ok (.iload_n 2, 1) := by decide +kernel
theorem dX5_goOn_56 : decode cX5_goOn 56 = .ok (.istore 4, 2) := by decide +kernel
theorem dX5_goOn_58 : decode cX5_goOn 58 = .ok (.iload 4, 2) := by decide +kernel
theorem dX5_goOn_60 : decode cX5_goOn 60 = .ok (.iload_n 1, 1) := by decide +kernel
theorem dX5_goOn_61 : decode cX5_goOn 61 = .ok (.if_icmp .ge 27, 3) := by decide +kernel
theorem dX5_goOn_64 : decode cX5_goOn 64 = .ok (.iload 4, 2) := by decide +kernel
theorem dX5_goOn_66 : decode cX5_goOn 66 = .ok (.aload_n 0, 1) := by decide +kernel
theorem dX5_goOn_67 : decode cX5_goOn 67 = .ok (.getfield 19, 3) := by decide +kernel
theorem dX5_goOn_70 : decode cX5_goOn 70 = .ok (.arraylength, 1) := by decide +kernel
theorem dX5_goOn_71 : decode cX5_goOn 71 = .ok (.if_icmp .ge 17, 3) := by decide +kernel
theorem dX5_goOn_74 : decode cX5_goOn 74 = .ok (.aload_n 0, 1) := by decide +kernel
theorem dX5_goOn_75 : decode cX5_goOn 75 = .ok (.getfield 19, 3) := by decide +kernel
theorem dX5_goOn_78 : decode cX5_goOn 78 = .ok (.iload 4, 2) := by decide +kernel
theorem dX5_goOn_80 : decode cX5_goOn 80 = .ok (.iload_n 3, 1) := by decide +kernel
theorem dX5_goOn_81 : decode cX5_goOn 81 = .ok (.iastore, 1) := by decide +kernel
theorem dX5_goOn_82 : decode cX5_goOn 82 = .ok (.iinc 4 1, 3) := by decide +kernel
theorem dX5_goOn_85 : decode cX5_goOn 85 = .ok (.goto (-27), 3) := by decide +kernel
theorem dX5_goOn_88 : decode cX5_goOn 88 = .ok (.iconst 1, 1) := by decide +kernel
theorem dX5_goOn_89 : decode cX5_goOn 89 = .ok (.ireturn, 1) := by decide +kernel
theorem dX5_keep_0 : decode cX5_keep 0 = .ok (.iconst 0, 1) := by decide +kernel
theorem dX5_keep_1 : decode cX5_keep 1 = .ok (.istore_n 3, 1) := by decide +kernel
theorem dX5_keep_2 : decode cX5_keep 2 = .ok (.iload_n 3, 1) := by decide +kernel
theorem dX5_keep_3 : decode cX5_keep 3 = .ok (.iload_n 1, 1) := by decide +kernel
theorem dX5_keep_4 : decode cX5_keep 4 = .ok (.if_icmp .ge 30, 3) := by decide +kernel
theorem dX5_keep_7 : decode cX5_keep 7 = .ok (.iload_n 3, 1) := by decide +kernel
theorem dX5_keep_8 : decode cX5_keep 8 = .ok (.aload_n 0, 1) := by decide +kernel
theorem dX5_keep_9 : decode cX5_keep 9 = .ok (.getfield 23, 3) := by decide +kernel
theorem dX5_keep_12 : decode cX5_keep 12 = .ok (.arraylength, 1) := by decide +kernel
theorem dX5_keep_13 : decode cX5_keep 13 = .ok (.if_icmp .ge 21, 3) := by decide +kernel
theorem dX5_keep_16 : decode cX5_keep 16 = .ok (.aload_n 0, 1) := by decide +kernel
theorem dX5_keep_17 : decode cX5_keep 17 = .ok (.getfield 23, 3) := by decide +kernel
theorem dX5_keep_20 : decode cX5_keep 20 = .ok (.iload_n 3, 1) := by decide +kernel
theorem dX5_keep_21 : decode cX5_keep 21 = .ok (.aload_n 0, 1) := by decide +kernel
theorem dX5_keep_22 : decode cX5_keep 22 = .ok (.getfield 19, 3) := by decide +kernel
theorem dX5_keep_25 : decode cX5_keep 25 = .ok (.iload_n 3, 1) := by decide +kernel
theorem dX5_keep_26 : decode cX5_keep 26 = .ok (.iaload, 1) := by decide +kernel
theorem dX5_keep_27 : decode cX5_keep 27 = .ok (.iastore, 1) := by decide +kernel
theorem dX5_keep_28 : decode cX5_keep 28 = .ok (.iinc 3 1, 3) := by decide +kernel
theorem dX5_keep_31 : decode cX5_keep 31 = .ok (.goto (-29), 3) := by decide +kernel
theorem dX5_keep_34 : decode cX5_keep 34 = .ok (.aload_n 0, 1) := by decide +kernel
theorem dX5_keep_35 : decode cX5_keep 35 = .ok (.iload_n 1, 1) := by decide +kernel
theorem dX5_keep_36 : decode cX5_keep 36 = .ok (.putfield 29, 3) := by decide +kernel
theorem dX5_keep_39 : decode cX5_keep 39 = .ok (.aload_n 0, 1) := by decide +kernel
theorem dX5_keep_40 : decode cX5_keep 40 = .ok (.iload_n 2, 1) := by decide +kernel
theorem dX5_keep_41 : decode cX5_keep 41 = .ok (.putfield 33, 3) := by decide +kernel
theorem dX5_keep_44 : decode cX5_keep 44 = .ok (.return_, 1) := by decide +kernel
set_option maxRecDepth 20000 in
theorem ggX5_pileTried_X0_clear : GoodIn wsX5_pileTried wsX0_clear := goodIn_r _ [7, 8, 9, 10, 28, 29, 30, 31, 32] (by decide +kernel) (by decide +kernel)
set_option maxRecDepth 20000 in
theorem gX5_pileTried_X0_clear : GoodIn wsX5_pileTried (wsV RX5 82 RX0 yX0_clear wsX0_clear) := goodIn_app (goodIn_of _ (by decide +kernel)) ggX5_pileTried_X0_clear
set_option maxRecDepth 20000 in
theorem ggX5_pileTried_X0_add : GoodIn wsX5_pileTried wsX0_add := goodIn_r _ [14, 10, 8, 15, 9, 16, 17, 18, 19, 28, 29, 30, 31, 32] (by decide +kernel) (by decide +kernel)
set_option maxRecDepth 20000 in
theorem gX5_pileTried_X0_add : GoodIn wsX5_pileTried (wsV RX5 85 RX0 yX0_add wsX0_add) := goodIn_app (goodIn_of _ (by decide +kernel)) ggX5_pileTried_X0_add
theorem dX5_pileTried_0 : decode cX5_pileTried 0 = .ok (.aload_n 0, 1) := by decide +kernel
theorem dX5_pileTried_1 : decode cX5_pileTried 1 = .ok (.getfield 15, 3) := by decide +kernel
theorem dX5_pileTried_4 : decode cX5_pileTried 4 = .ok (.invokevirtual 82, 3) := by decide +kernel
theorem dX5_pileTried_7 : decode cX5_pileTried 7 = .ok (.iconst 0, 1) := by decide +kernel
theorem dX5_pileTried_8 : decode cX5_pileTried 8 = .ok (.istore_n 2, 1) := by decide +kernel
theorem dX5_pileTried_9 : decode cX5_pileTried 9 = .ok (.iload_n 2, 1) := by decide +kernel
theorem dX5_pileTried_10 : decode cX5_pileTried 10 = .ok (.iload_n 1, 1) := by decide +kernel
theorem dX5_pileTried_11 : decode cX5_pileTried 11 = .ok (.if_icmp .ge 31, 3) := by decide +kernel
theorem dX5_pileTried_14 : decode cX5_pileTried 14 = .ok (.iload_n 2, 1) := by decide +kernel
theorem dX5_pileTried_15 : decode cX5_pileTried 15 = .ok (.aload_n 0, 1) := by decide +kernel
theorem dX5_pileTried_16 : decode cX5_pileTried 16 = .ok (.getfield 19, 3) := by decide +kernel
theorem dX5_pileTried_19 : decode cX5_pileTried 19 = .ok (.arraylength, 1) := by decide +kernel
theorem dX5_pileTried_20 : decode cX5_pileTried 20 = .ok (.if_icmp .ge 22, 3) := by decide +kernel
theorem dX5_pileTried_23 : decode cX5_pileTried 23 = .ok (.aload_n 0, 1) := by decide +kernel
theorem dX5_pileTried_24 : decode cX5_pileTried 24 = .ok (.getfield 15, 3) := by decide +kernel
theorem dX5_pileTried_27 : decode cX5_pileTried 27 = .ok (.aload_n 0, 1) := by decide +kernel
theorem dX5_pileTried_28 : decode cX5_pileTried 28 = .ok (.getfield 19, 3) := by decide +kernel
theorem dX5_pileTried_31 : decode cX5_pileTried 31 = .ok (.iload_n 2, 1) := by decide +kernel
theorem dX5_pileTried_32 : decode cX5_pileTried 32 = .ok (.iaload, 1) := by decide +kernel
theorem dX5_pileTried_33 : decode cX5_pileTried 33 = .ok (.invokevirtual 85, 3) := by decide +kernel
theorem dX5_pileTried_36 : decode cX5_pileTried 36 = .ok (.iinc 2 1, 3) := by decide +kernel
theorem dX5_pileTried_39 : decode cX5_pileTried 39 = .ok (.goto (-30), 3) := by decide +kernel
theorem dX5_pileTried_42 : decode cX5_pileTried 42 = .ok (.return_, 1) := by decide +kernel
set_option maxRecDepth 20000 in
theorem ggX5_isWished_X0_shadeOf : GoodIn wsX5_isWished wsX0_shadeOf := goodIn_r _ [8, 9, 10, 11, 7, 12, 13, 14, 15, 16, 17, 18, 19, 20, 21, 22, 23, 24, 25, 26, 27, 28, 29, 30, 49, 50, 51, 52, 53, 39, 40, 41, 42, 43, 44, 45, 46, 47, 48] (by decide +kernel) (by decide +kernel)
set_option maxRecDepth 20000 in
theorem gX5_isWished_X0_shadeOf : GoodIn wsX5_isWished (wsV RX5 88 RX0 yX0_shadeOf wsX0_shadeOf) := goodIn_app (goodIn_of _ (by decide +kernel)) ggX5_isWished_X0_shadeOf
theorem dX5_isWished_0 : decode cX5_isWished 0 = .ok (.iconst 0, 1) := by decide +kernel
theorem dX5_isWished_1 : decode cX5_isWished 1 = .ok (.istore_n 2, 1) := by decide +kernel
theorem dX5_isWished_2 : decode cX5_isWished 2 = .ok (.iload_n 2, 1) := by decide +kernel
theorem dX5_isWished_3 : decode cX5_isWished 3 = .ok (.iconst 3, 1) := by decide +kernel
theorem dX5_isWished_4 : decode cX5_isWished 4 = .ok (.if_icmp .ge 33, 3) := by decide +kernel
theorem dX5_isWished_7 : decode cX5_isWished 7 = .ok (.aload_n 0, 1) := by decide +kernel
theorem dX5_isWished_8 : decode cX5_isWished 8 = .ok (.getfield 15, 3) := by decide +kernel
theorem dX5_isWished_11 : decode cX5_isWished 11 = .ok (.iload_n 1, 1) := by decide +kernel
theorem dX5_isWished_12 : decode cX5_isWished 12 = .ok (.iconst 0, 1) := by decide +kernel
theorem dX5_isWished_13 : decode cX5_isWished 13 = .ok (.iload_n 2, 1) := by decide +kernel
theorem dX5_isWished_14 : decode cX5_isWished 14 = .ok (.invokevirtual 88, 3) := by decide +kernel
theorem dX5_isWished_17 : decode cX5_isWished 17 = .ok (.aload_n 0, 1) := by decide +kernel
theorem dX5_isWished_18 : decode cX5_isWished 18 = .ok (.getfield 9, 3) := by decide +kernel
theorem dX5_isWished_21 : decode cX5_isWished 21 = .ok (.getfield 92, 3) := by decide +kernel
theorem dX5_isWished_24 : decode cX5_isWished 24 = .ok (.iload_n 2, 1) := by decide +kernel
theorem dX5_isWished_25 : decode cX5_isWished 25 = .ok (.iaload, 1) := by decide +kernel
theorem dX5_isWished_26 : decode cX5_isWished 26 = .ok (.if_icmp .eq 5, 3) := by decide +kernel
theorem dX5_isWished_29 : decode cX5_isWished 29 = .ok (.iconst 0, 1) := by decide +kernel
theorem dX5_isWished_30 : decode cX5_isWished 30 = .ok (.ireturn, 1) := by decide +kernel
theorem dX5_isWished_31 : decode cX5_isWished 31 = .ok (.iinc 2 1, 3) := by decide +kernel
theorem dX5_isWished_34 : decode cX5_isWished 34 = .ok (.goto (-32), 3) := by decide +kernel
theorem dX5_isWished_37 : decode cX5_isWished 37 = .ok (.iconst 1, 1) := by decide +kernel
theorem dX5_isWished_38 : decode cX5_isWished 38 = .ok (.ireturn, 1) := by decide +kernel
set_option maxRecDepth 20000 in
theorem ggX5_missOf_X0_shadesInto : GoodIn wsX5_missOf wsX0_shadesInto := goodIn_r _ [9, 10, 11, 12, 8, 13, 14, 15, 16, 17, 18, 19, 20, 21, 22, 23, 24, 25, 26, 27, 28, 29, 30, 31, 32, 33, 34, 35, 60, 61, 62, 63, 64, 50, 51, 52, 53, 54, 55, 56, 57, 58, 59] (by decide +kernel) (by decide +kernel)
set_option maxRecDepth 20000 in
theorem gX5_missOf_X0_shadesInto : GoodIn wsX5_missOf (wsV RX5 95 RX0 yX0_shadesInto wsX0_shadesInto) := goodIn_app (goodIn_of _ (by decide +kernel)) ggX5_missOf_X0_shadesInto
set_option maxRecDepth 20000 in
theorem ggX5_missOf_X6_differing : GoodIn wsX5_missOf wsX6_differing := goodIn_r _ [37, 38, 39, 40, 41] (by decide +kernel) (by decide +kernel)
set_option maxRecDepth 20000 in
theorem gX5_missOf_X6_differing_n99 : GoodIn wsX5_missOf (wsX6_differing) := ggX5_missOf_X6_differing
theorem dX5_missOf_0 : decode cX5_missOf 0 = .ok (.aload_n 0, 1) := by decide +kernel
theorem dX5_missOf_1 : decode cX5_missOf 1 = .ok (.getfield 15, 3) := by decide +kernel
theorem dX5_missOf_4 : decode cX5_missOf 4 = .ok (.aload_n 0, 1) := by decide +kernel
theorem dX5_missOf_5 : decode cX5_missOf 5 = .ok (.getfield 26, 3) := by decide +kernel
theorem dX5_missOf_8 : decode cX5_missOf 8 = .ok (.iload_n 1, 1) := by decide +kernel
theorem dX5_missOf_9 : decode cX5_missOf 9 = .ok (.iconst 0, 1) := by decide +kernel
theorem dX5_missOf_10 : decode cX5_missOf 10 = .ok (.invokevirtual 95, 3) := by decide +kernel
theorem dX5_missOf_13 : decode cX5_missOf 13 = .ok (.aload_n 0, 1) := by decide +kernel
theorem dX5_missOf_14 : decode cX5_missOf 14 = .ok (.getfield 26, 3) := by decide +kernel
theorem dX5_missOf_17 : decode cX5_missOf 17 = .ok (.aload_n 0, 1) := by decide +kernel
theorem dX5_missOf_18 : decode cX5_missOf 18 = .ok (.getfield 9, 3) := by decide +kernel
theorem dX5_missOf_21 : decode cX5_missOf 21 = .ok (.getfield 92, 3) := by decide +kernel
theorem dX5_missOf_24 : decode cX5_missOf 24 = .ok (.invokestatic 99, 3) := by decide +kernel
theorem dX5_missOf_27 : decode cX5_missOf 27 = .ok (.ireturn, 1) := by decide +kernel
set_option maxRecDepth 20000 in
theorem ggX6_init_X3_init : GoodIn wsX6_init wsX3_init := goodIn_r _ [38, 39, 2, 3, 40, 30, 41, 42, 43, 44, 45, 46, 47, 48, 49, 100, 101, 102, 103, 104, 105, 106, 107, 108, 109] (by decide +kernel) (by decide +kernel)
set_option maxRecDepth 20000 in
theorem gX6_init_X3_init : GoodIn wsX6_init (wsX3_init) := ggX6_init_X3_init
set_option maxRecDepth 20000 in
theorem ggX6_init_X0_init : GoodIn wsX6_init wsX0_init := goodIn_r _ [52, 53, 2, 3, 54, 30, 55, 33, 56, 57, 58, 59, 12, 60, 61, 62, 122, 123, 124, 125, 126] (by decide +kernel) (by decide +kernel)
set_option maxRecDepth 20000 in
theorem gX6_init_X0_init : GoodIn wsX6_init (wsX0_init) := ggX6_init_X0_init
set_option maxRecDepth 20000 in
theorem ggX6_init_X5_init : GoodIn wsX6_init wsX5_init := goodIn_r _ [65, 66, 2, 3, 67, 68, 30, 69, 70, 71, 72, 73, 74, 127, 128, 129, 130, 131, 132, 133, 134] (by decide +kernel) (by decide +kernel)
set_option maxRecDepth 20000 in
theorem gX6_init_X5_init : GoodIn wsX6_init (wsX5_init) := ggX6_init_X5_init
set_option maxRecDepth 20000 in
theorem ggX6_init_X4_init : GoodIn wsX6_init wsX4_init := goodIn_r _ [77, 78, 2, 3, 30, 79, 80, 81, 82, 83, 84, 85, 86, 87, 135, 136, 137, 138, 139, 140, 141, 142, 143] (by decide +kernel) (by decide +kernel)
set_option maxRecDepth 20000 in
theorem gX6_init_X4_init : GoodIn wsX6_init (wsX4_init) := ggX6_init_X4_init
set_option maxRecDepth 20000 in
theorem ggX6_init_X2_init : GoodIn wsX6_init wsX2_init := goodIn_r _ [90, 91, 2, 3, 30, 92, 93, 144, 145] (by decide +kernel) (by decide +kernel)
set_option maxRecDepth 20000 in
theorem gX6_init_X2_init : GoodIn wsX6_init (wsX2_init) := ggX6_init_X2_init
set_option maxRecDepth 20000 in
theorem ggX6_init_X1_init : GoodIn wsX6_init wsX1_init := goodIn_r _ [96, 97, 2, 3, 30, 98, 99, 146, 147] (by decide +kernel) (by decide +kernel)
set_option maxRecDepth 20000 in
theorem gX6_init_X1_init : GoodIn wsX6_init (wsX1_init) := ggX6_init_X1_init
theorem dX6_init_0 : decode cX6_init 0 = .ok (.aload_n 0, 1) := by decide +kernel
theorem dX6_init_1 : decode cX6_init 1 = .ok (.invokespecial 3, 3) := by decide +kernel
theorem dX6_init_4 : decode cX6_init 4 = .ok (.aload_n 0, 1) := by decide +kernel
theorem dX6_init_5 : decode cX6_init 5 = .ok (.new 9, 3) := by decide +kernel
theorem dX6_init_8 : decode cX6_init 8 = .ok (.dup, 1) := by decide +kernel
theorem dX6_init_9 : decode cX6_init 9 = .ok (.invokespecial 11, 3) := by decide +kernel
theorem dX6_init_12 : decode cX6_init 12 = .ok (.putfield 12, 3) := by decide +kernel
theorem dX6_init_15 : decode cX6_init 15 = .ok (.aload_n 0, 1) := by decide +kernel
theorem dX6_init_16 : decode cX6_init 16 = .ok (.new 9, 3) := by decide +kernel
theorem dX6_init_19 : decode cX6_init 19 = .ok (.dup, 1) := by decide +kernel
theorem dX6_init_20 : decode cX6_init 20 = .ok (.invokespecial 11, 3) := by decide +kernel
theorem dX6_init_23 : decode cX6_init 23 = .ok (.putfield 18, 3) := by decide +kernel
theorem dX6_init_26 : decode cX6_init 26 = .ok (.aload_n 0, 1) := by decide +kernel
theorem dX6_init_27 : decode cX6_init 27 = .ok (.iconst 0, 1) := by decide +kernel
theorem dX6_init_28 : decode cX6_init 28 = .ok (.putfield 21, 3) := by decide +kernel
theorem dX6_init_31 : decode cX6_init 31 = .ok (.aload_n 0, 1) := by decide +kernel
theorem dX6_init_32 : decode cX6_init 32 = .ok (.new 25, 3) := by decide +kernel
theorem dX6_init_35 : decode cX6_init 35 = .ok (.dup, 1) := by decide +kernel
theorem dX6_init_36 : decode cX6_init 36 = .ok (.aload_n 0, 1) := by decide +kernel
theorem dX6_init_37 : decode cX6_init 37 = .ok (.getfield 12, 3) := by decide +kernel
theorem dX6_init_40 : decode cX6_init 40 = .ok (.invokespecial 27, 3) := by decide +kernel
theorem dX6_init_43 : decode cX6_init 43 = .ok (.putfield 30, 3) := by decide +kernel
theorem dX6_init_46 : decode cX6_init 46 = .ok (.aload_n 0, 1) := by decide +kernel
theorem dX6_init_47 : decode cX6_init 47 = .ok (.new 34, 3) := by decide +kernel
theorem dX6_init_50 : decode cX6_init 50 = .ok (.dup, 1) := by decide +kernel
theorem dX6_init_51 : decode cX6_init 51 = .ok (.aload_n 0, 1) := by decide +kernel
theorem dX6_init_52 : decode cX6_init 52 = .ok (.getfield 12, 3) := by decide +kernel
theorem dX6_init_55 : decode cX6_init 55 = .ok (.aload_n 0, 1) := by decide +kernel
theorem dX6_init_56 : decode cX6_init 56 = .ok (.getfield 30, 3) := by decide +kernel
theorem dX6_init_59 : decode cX6_init 59 = .ok (.invokespecial 36, 3) := by decide +kernel
theorem dX6_init_62 : decode cX6_init 62 = .ok (.putfield 39, 3) := by decide +kernel
theorem dX6_init_65 : decode cX6_init 65 = .ok (.aload_n 0, 1) := by decide +kernel
theorem dX6_init_66 : decode cX6_init 66 = .ok (.new 43, 3) := by decide +kernel
theorem dX6_init_69 : decode cX6_init 69 = .ok (.dup, 1) := by decide +kernel
theorem dX6_init_70 : decode cX6_init 70 = .ok (.invokespecial 45, 3) := by decide +kernel
theorem dX6_init_73 : decode cX6_init 73 = .ok (.putfield 46, 3) := by decide +kernel
theorem dX6_init_76 : decode cX6_init 76 = .ok (.aload_n 0, 1) := by decide +kernel
theorem dX6_init_77 : decode cX6_init 77 = .ok (.new 50, 3) := by decide +kernel
theorem dX6_init_80 : decode cX6_init 80 = .ok (.dup, 1) := by decide +kernel
theorem dX6_init_81 : decode cX6_init 81 = .ok (.invokespecial 52, 3) := by decide +kernel
theorem dX6_init_84 : decode cX6_init 84 = .ok (.putfield 53, 3) := by decide +kernel
theorem dX6_init_87 : decode cX6_init 87 = .ok (.aload_n 0, 1) := by decide +kernel
theorem dX6_init_88 : decode cX6_init 88 = .ok (.new 57, 3) := by decide +kernel
theorem dX6_init_91 : decode cX6_init 91 = .ok (.dup, 1) := by decide +kernel
theorem dX6_init_92 : decode cX6_init 92 = .ok (.invokespecial 59, 3) := by decide +kernel
theorem dX6_init_95 : decode cX6_init 95 = .ok (.putfield 60, 3) := by decide +kernel
theorem dX6_init_98 : decode cX6_init 98 = .ok (.aload_n 0, 1) := by decide +kernel
theorem dX6_init_99 : decode cX6_init 99 = .ok (.iconst 3, 1) := by decide +kernel
theorem dX6_init_100 : decode cX6_init 100 = .ok (.newarray .int, 2) := by decide +kernel
theorem dX6_init_102 : decode cX6_init 102 = .ok (.putfield 64, 3) := by decide +kernel
theorem dX6_init_105 : decode cX6_init 105 = .ok (.aload_n 0, 1) := by decide +kernel
theorem dX6_init_106 : decode cX6_init 106 = .ok (.iconst 3, 1) := by decide +kernel
theorem dX6_init_107 : decode cX6_init 107 = .ok (.newarray .int, 2) := by decide +kernel
theorem dX6_init_109 : decode cX6_init 109 = .ok (.putfield 68, 3) := by decide +kernel
theorem dX6_init_112 : decode cX6_init 112 = .ok (.aload_n 0, 1) := by decide +kernel
theorem dX6_init_113 : decode cX6_init 113 = .ok (.iconst 3, 1) := by decide +kernel
theorem dX6_init_114 : decode cX6_init 114 = .ok (.newarray .long, 2) := by decide +kernel
theorem dX6_init_116 : decode cX6_init 116 = .ok (.putfield 71, 3) := by decide +kernel
theorem dX6_init_119 : decode cX6_init 119 = .ok (.aload_n 0, 1) := by decide +kernel
theorem dX6_init_120 : decode cX6_init 120 = .ok (.iconst 3, 1) := by decide +kernel
theorem dX6_init_121 : decode cX6_init 121 = .ok (.newarray .long, 2) := by decide +kernel
theorem dX6_init_123 : decode cX6_init 123 = .ok (.putfield 75, 3) := by decide +kernel
theorem dX6_init_126 : decode cX6_init 126 = .ok (.return_, 1) := by decide +kernel
set_option maxRecDepth 20000 in
theorem ggX6_feed_X4_append : GoodIn wsX6_feed wsX4_append := goodIn_r _ [7, 8, 9, 22, 23, 24, 25, 26, 27, 28, 29, 30] (by decide +kernel) (by decide +kernel)
set_option maxRecDepth 20000 in
theorem gX6_feed_X4_append : GoodIn wsX6_feed (wsV RX6 78 RX4 yX4_append wsX4_append) := goodIn_app (goodIn_of _ (by decide +kernel)) ggX6_feed_X4_append
theorem dX6_feed_0 : decode cX6_feed 0 = .ok (.iload_n 1, 1) := by decide +kernel
theorem dX6_feed_1 : decode cX6_feed 1 = .ok (.iconst 1, 1) := by decide +kernel
theorem dX6_feed_2 : decode cX6_feed 2 = .ok (.if_icmp .lt 9, 3) := by decide +kernel
theorem dX6_feed_5 : decode cX6_feed 5 = .ok (.iload_n 1, 1) := by decide +kernel
theorem dX6_feed_6 : decode cX6_feed 6 = .ok (.bipush 127, 2) := by decide +kernel
theorem dX6_feed_8 : decode cX6_feed 8 = .ok (.if_icmp .le 6, 3) := by decide +kernel
theorem dX6_feed_11 : decode cX6_feed 11 = .ok (.bipush (-2), 2) := by decide +kernel
theorem dX6_feed_13 : decode cX6_feed 13 = .ok (.ireturn, 1) := by decide +kernel
theorem dX6_feed_14 : decode cX6_feed 14 = .ok (.aload_n 0, 1) := by decide +kernel
theorem dX6_feed_15 : decode cX6_feed 15 = .ok (.getfield 46, 3) := by decide +kernel
theorem dX6_feed_18 : decode cX6_feed 18 = .ok (.iload_n 1, 1) := by decide +kernel
theorem dX6_feed_19 : decode cX6_feed 19 = .ok (.invokevirtual 78, 3) := by decide +kernel
theorem dX6_feed_22 : decode cX6_feed 22 = .ok (.ifCond .eq 13, 3) := by decide +kernel
theorem dX6_feed_25 : decode cX6_feed 25 = .ok (.aload_n 0, 1) := by decide +kernel
theorem dX6_feed_26 : decode cX6_feed 26 = .ok (.getfield 46, 3) := by decide +kernel
theorem dX6_feed_29 : decode cX6_feed 29 = .ok (.getfield 82, 3) := by decide +kernel
theorem dX6_feed_32 : decode cX6_feed 32 = .ok (.goto 5, 3) := by decide +kernel
theorem dX6_feed_35 : decode cX6_feed 35 = .ok (.bipush (-4), 2) := by decide +kernel
theorem dX6_feed_37 : decode cX6_feed 37 = .ok (.ireturn, 1) := by decide +kernel
set_option maxRecDepth 20000 in
theorem ggX6_sheets_X4_readSheets : GoodIn wsX6_sheets wsX4_readSheets := goodIn_r _ [13, 14, 15, 16, 17, 18, 19, 12, 20, 21, 22, 23, 24, 25, 26, 27, 28, 29, 30, 31, 32, 33, 34, 35, 36, 37, 38, 39, 40, 41, 42, 43, 44, 45, 46, 47, 48, 49, 50, 51, 52, 53, 54, 55, 56, 57, 58, 59, 60, 61, 62, 63, 64, 65, 66, 67, 68, 69, 70, 71, 72, 73, 74, 75, 76, 77, 78, 79, 80, 81, 82, 83, 84, 85, 86, 87, 88, 89, 90, 91, 92, 93, 94, 95, 96, 97, 98, 99, 100, 101, 102, 124, 125, 126, 127, 128, 129, 130, 131, 132] (by decide +kernel) (by decide +kernel)
set_option maxRecDepth 20000 in
theorem gX6_sheets_X4_readSheets : GoodIn wsX6_sheets (wsV RX6 86 RX4 yX4_readSheets wsX4_readSheets) := goodIn_app (goodIn_of _ (by decide +kernel)) ggX6_sheets_X4_readSheets
set_option maxRecDepth 20000 in
theorem ggX6_sheets_X3_addSheet : GoodIn wsX6_sheets wsX3_addSheet := goodIn_r _ [107, 108, 109, 110, 111, 133, 134, 135, 136, 137, 138, 139, 140, 141, 142] (by decide +kernel) (by decide +kernel)
set_option maxRecDepth 20000 in
theorem gX6_sheets_X3_addSheet : GoodIn wsX6_sheets (wsV RX6 105 RX3 yX3_addSheet wsX3_addSheet) := goodIn_app (goodIn_of _ (by decide +kernel)) ggX6_sheets_X3_addSheet
theorem dX6_sheets_0 : decode cX6_sheets 0 = .ok (.aload_n 0, 1) := by decide +kernel
theorem dX6_sheets_1 : decode cX6_sheets 1 = .ok (.getfield 46, 3) := by decide +kernel
theorem dX6_sheets_4 : decode cX6_sheets 4 = .ok (.invokevirtual 86, 3) := by decide +kernel
theorem dX6_sheets_7 : decode cX6_sheets 7 = .ok (.istore_n 1, 1) := by decide +kernel
theorem dX6_sheets_8 : decode cX6_sheets 8 = .ok (.aload_n 0, 1) := by decide +kernel
theorem dX6_sheets_9 : decode cX6_sheets 9 = .ok (.getfield 46, 3) := by decide +kernel
theorem dX6_sheets_12 : decode cX6_sheets 12 = .ok (.iconst 0, 1) := by decide +kernel
theorem dX6_sheets_13 : decode cX6_sheets 13 = .ok (.putfield 82, 3) := by decide +kernel
theorem dX6_sheets_16 : decode cX6_sheets 16 = .ok (.iload_n 1, 1) := by decide +kernel
theorem dX6_sheets_17 : decode cX6_sheets 17 = .ok (.ifCond .lt 8, 3) := by decide +kernel
theorem dX6_sheets_20 : decode cX6_sheets 20 = .ok (.bipush (-100), 2) := by decide +kernel
theorem dX6_sheets_22 : decode cX6_sheets 22 = .ok (.iload_n 1, 1) := by decide +kernel
theorem dX6_sheets_23 : decode cX6_sheets 23 = .ok (.isub, 1) := by decide +kernel
theorem dX6_sheets_24 : decode cX6_sheets 24 = .ok (.ireturn, 1) := by decide +kernel
theorem dX6_sheets_25 : decode cX6_sheets 25 = .ok (.aload_n 0, 1) := by decide +kernel
theorem dX6_sheets_26 : decode cX6_sheets 26 = .ok (.getfield 12, 3) := by decide +kernel
theorem dX6_sheets_29 : decode cX6_sheets 29 = .ok (.getfield 90, 3) := by decide +kernel
theorem dX6_sheets_32 : decode cX6_sheets 32 = .ok (.aload_n 0, 1) := by decide +kernel
theorem dX6_sheets_33 : decode cX6_sheets 33 = .ok (.getfield 46, 3) := by decide +kernel
theorem dX6_sheets_36 : decode cX6_sheets 36 = .ok (.getfield 93, 3) := by decide +kernel
theorem dX6_sheets_39 : decode cX6_sheets 39 = .ok (.iadd, 1) := by decide +kernel
theorem dX6_sheets_40 : decode cX6_sheets 40 = .ok (.bipush 8, 2) := by decide +kernel
theorem dX6_sheets_42 : decode cX6_sheets 42 = .ok (.if_icmp .le 6, 3) := by decide +kernel
theorem dX6_sheets_45 : decode cX6_sheets 45 = .ok (.bipush (-4), 2) := by decide +kernel
theorem dX6_sheets_47 : decode cX6_sheets 47 = .ok (.ireturn, 1) := by decide +kernel
