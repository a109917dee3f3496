theorem dX6_fades_0 : decode cX6_fades 0 = .ok (.aload_n 0, 1) := by decide +kernel
theorem dX6_fades_1 : decode cX6_fades 1 = .ok (.getfield 12, 3) := by decide +kernel
theorem dX6_fades_4 : decode cX6_fades 4 = .ok (.iload_n 1, 1) := by decide +kernel
theorem dX6_fades_5 : decode cX6_fades 5 = .ok (.invokevirtual 141, 3) := by decide +kernel
theorem dX6_fades_8 : decode cX6_fades 8 = .ok (.ifCond .eq 11, 3) := by decide +kernel
theorem dX6_fades_11 : decode cX6_fades 11 = .ok (.iload_n 2, 1) := by decide +kernel
theorem dX6_fades_12 : decode cX6_fades 12 = .ok (.iconst 3, 1) := by decide +kernel
theorem dX6_fades_13 : decode cX6_fades 13 = .ok (.invokestatic 112, 3) := by decide +kernel
theorem dX6_fades_16 : decode cX6_fades 16 = .ok (.ifCond .ne 5, 3) := by decide +kernel
theorem dX6_fades_19 : decode cX6_fades 19 = .ok (.iconst (-1), 1) := by decide +kernel
theorem dX6_fades_20 : decode cX6_fades 20 = .ok (.ireturn, 1) := by decide +kernel
theorem dX6_fades_21 : decode cX6_fades 21 = .ok (.aload_n 0, 1) := by decide +kernel
theorem dX6_fades_22 : decode cX6_fades 22 = .ok (.getfield 30, 3) := by decide +kernel
theorem dX6_fades_25 : decode cX6_fades 25 = .ok (.invokevirtual 162, 3) := by decide +kernel
theorem dX6_fades_28 : decode cX6_fades 28 = .ok (.aload_n 0, 1) := by decide +kernel
theorem dX6_fades_29 : decode cX6_fades 29 = .ok (.getfield 30, 3) := by decide +kernel
theorem dX6_fades_32 : decode cX6_fades 32 = .ok (.iload_n 1, 1) := by decide +kernel
theorem dX6_fades_33 : decode cX6_fades 33 = .ok (.invokevirtual 165, 3) := by decide +kernel
theorem dX6_fades_36 : decode cX6_fades 36 = .ok (.aload_n 0, 1) := by decide +kernel
theorem dX6_fades_37 : decode cX6_fades 37 = .ok (.getfield 30, 3) := by decide +kernel
theorem dX6_fades_40 : decode cX6_fades 40 = .ok (.aload_n 0, 1) := by decide +kernel
theorem dX6_fades_41 : decode cX6_fades 41 = .ok (.getfield 64, 3) := by decide +kernel
theorem dX6_fades_44 : decode cX6_fades 44 = .ok (.iload_n 2, 1) := by decide +kernel
theorem dX6_fades_45 : decode cX6_fades 45 = .ok (.iconst 0, 1) := by decide +kernel
theorem dX6_fades_46 : decode cX6_fades 46 = .ok (.invokevirtual 229, 3) := by decide +kernel
theorem dX6_fades_49 : decode cX6_fades 49 = .ok (.iconst 1, 1) := by decide +kernel
theorem dX6_fades_50 : decode cX6_fades 50 = .ok (.istore_n 3, 1) := by decide +kernel
theorem dX6_fades_51 : decode cX6_fades 51 = .ok (.iload_n 3, 1) := by decide +kernel
theorem dX6_fades_52 : decode cX6_fades 52 = .ok (.bipush 10, 2) := by decide +kernel
theorem dX6_fades_54 : decode cX6_fades 54 = .ok (.if_icmp .gt 38, 3) := by decide +kernel
theorem dX6_fades_57 : decode cX6_fades 57 = .ok (.aload_n 0, 1) := by decide +kernel
theorem dX6_fades_58 : decode cX6_fades 58 = .ok (.getfield 30, 3) := by decide +kernel
theorem dX6_fades_61 : decode cX6_fades 61 = .ok (.aload_n 0, 1) := by decide +kernel
theorem dX6_fades_62 : decode cX6_fades 62 = .ok (.getfield 68, 3) := by decide +kernel
theorem dX6_fades_65 : decode cX6_fades 65 = .ok (.iload_n 2, 1) := by decide +kernel
theorem dX6_fades_66 : decode cX6_fades 66 = .ok (.iload_n 3, 1) := by decide +kernel
theorem dX6_fades_67 : decode cX6_fades 67 = .ok (.invokevirtual 229, 3) := by decide +kernel
theorem dX6_fades_70 : decode cX6_fades 70 = .ok (.aload_n 0, 1) := by decide +kernel
theorem dX6_fades_71 : decode cX6_fades 71 = .ok (.getfield 64, 3) := by decide +kernel
theorem dX6_fades_74 : decode cX6_fades 74 = .ok (.aload_n 0, 1) := by decide +kernel
theorem dX6_fades_75 : decode cX6_fades 75 = .ok (.getfield 68, 3) := by decide +kernel
theorem dX6_fades_78 : decode cX6_fades 78 = .ok (.invokestatic 237, 3) := by decide +kernel
theorem dX6_fades_81 : decode cX6_fades 81 = .ok (.ifCond .le 5, 3) := by decide +kernel
theorem dX6_fades_84 : decode cX6_fades 84 = .ok (.iload_n 3, 1) := by decide +kernel
theorem dX6_fades_85 : decode cX6_fades 85 = .ok (.ireturn, 1) := by decide +kernel
theorem dX6_fades_86 : decode cX6_fades 86 = .ok (.iinc 3 1, 3) := by decide +kernel
theorem dX6_fades_89 : decode cX6_fades 89 = .ok (.goto (-38), 3) := by decide +kernel
theorem dX6_fades_92 : decode cX6_fades 92 = .ok (.bipush (-5), 2) := by decide +kernel
theorem dX6_fades_94 : decode cX6_fades 94 = .ok (.ireturn, 1) := by decide +kernel
set_option maxRecDepth 20000 in
theorem ggX6_was_X3_hasSheet : GoodIn wsX6_was wsX3_hasSheet := goodIn_r _ [11, 12, 13, 14, 15, 133, 134, 135, 136, 137, 138, 139, 140, 141, 142] (by decide +kernel) (by decide +kernel)
set_option maxRecDepth 20000 in
theorem gX6_was_X3_hasSheet : GoodIn wsX6_was (wsV RX6 109 RX3 yX3_hasSheet wsX3_hasSheet) := goodIn_app (goodIn_of _ (by decide +kernel)) ggX6_was_X3_hasSheet
set_option maxRecDepth 20000 in
theorem ggX6_was_X3_hasStack : GoodIn wsX6_was wsX3_hasStack := goodIn_r _ [19, 20, 13, 14, 15, 133, 134, 135, 136, 137, 138, 139, 140, 141, 142] (by decide +kernel) (by decide +kernel)
set_option maxRecDepth 20000 in
theorem gX6_was_X3_hasStack : GoodIn wsX6_was (wsV RX6 141 RX3 yX3_hasStack wsX3_hasStack) := goodIn_app (goodIn_of _ (by decide +kernel)) ggX6_was_X3_hasStack
set_option maxRecDepth 20000 in
theorem ggX6_was_X6_within : GoodIn wsX6_was wsX6_within := goodIn_r _ [15] (by decide +kernel) (by decide +kernel)
set_option maxRecDepth 20000 in
theorem gX6_was_X6_within : GoodIn wsX6_was (va_wsS RX6 112 yX6_within wsX6_within) := goodIn_app (goodIn_of _ (by decide +kernel)) ggX6_was_X6_within
set_option maxRecDepth 20000 in
theorem ggX6_was_X1_isHeld : GoodIn wsX6_was wsX1_isHeld := goodIn_r _ [26, 27, 13, 14, 15, 131, 132] (by decide +kernel) (by decide +kernel)
set_option maxRecDepth 20000 in
theorem gX6_was_X1_isHeld : GoodIn wsX6_was (wsV RX6 247 RX1 yX1_isHeld wsX1_isHeld) := goodIn_app (goodIn_of _ (by decide +kernel)) ggX6_was_X1_isHeld
set_option maxRecDepth 20000 in
theorem ggX6_was_X0_lookAtSheets : GoodIn wsX6_was wsX0_lookAtSheets := goodIn_r _ [32, 33, 34, 35, 36, 37, 38, 39, 31, 40, 41, 13, 14, 15, 42, 43, 44, 10, 45, 46, 47, 8, 9, 11, 12, 48, 49, 50, 51, 52, 53, 54, 55, 143, 144, 145, 146, 147, 133, 134, 135, 136, 137, 138, 139, 140, 141, 142] (by decide +kernel) (by decide +kernel)
set_option maxRecDepth 20000 in
theorem gX6_was_X0_lookAtSheets : GoodIn wsX6_was (wsV RX6 162 RX0 yX0_lookAtSheets wsX0_lookAtSheets) := goodIn_app (goodIn_of _ (by decide +kernel)) ggX6_was_X0_lookAtSheets
set_option maxRecDepth 20000 in
theorem ggX6_was_X0_lookAtSheetAs : GoodIn wsX6_was wsX0_lookAtSheetAs := goodIn_r _ [40, 41, 33, 13, 14, 15, 42, 43, 44, 10, 45, 46, 47, 8, 9, 11, 12, 48, 49, 50, 51, 52, 53, 54, 55, 143, 144, 145, 146, 147, 133, 134, 135, 136, 137, 138, 139, 140, 141, 142] (by decide +kernel) (by decide +kernel)
set_option maxRecDepth 20000 in
theorem gX6_was_X0_lookAtSheetAs : GoodIn wsX6_was (wsV RX6 253 RX0 yX0_lookAtSheetAs wsX0_lookAtSheetAs) := goodIn_app (goodIn_of _ (by decide +kernel)) ggX6_was_X0_lookAtSheetAs
set_option maxRecDepth 20000 in
theorem ggX6_was_X0_pileStack : GoodIn wsX6_was wsX0_pileStack := goodIn_r _ [60, 61, 62, 63, 31, 64, 33, 65, 66, 67, 68, 69, 70, 71, 72, 73, 17, 18, 10, 19, 20, 13, 14, 15, 74, 75, 76, 77, 78, 79, 80, 81, 82, 83, 41, 84, 143, 144, 145, 146, 147, 133, 134, 135, 136, 137, 138, 139, 140, 141, 142] (by decide +kernel) (by decide +kernel)
set_option maxRecDepth 20000 in
theorem gX6_was_X0_pileStack : GoodIn wsX6_was (wsV RX6 165 RX0 yX0_pileStack wsX0_pileStack) := goodIn_app (goodIn_of _ (by decide +kernel)) ggX6_was_X0_pileStack
set_option maxRecDepth 20000 in
theorem ggX6_was_X6_listTellsShades : GoodIn wsX6_was wsX6_listTellsShades := goodIn_r _ [88, 4, 2, 89, 90, 91, 31, 92, 93, 94, 95, 96, 33, 97, 98, 70, 13, 14, 15, 99, 100, 101, 102, 103, 104, 105, 71, 106, 107, 108, 109, 110, 111, 25, 112, 113, 114, 115, 116, 117, 27, 118, 23, 24, 26, 119, 120, 121, 122, 123, 124, 125, 126, 127, 128, 129, 130, 143, 144, 145, 146, 147, 133, 134, 135, 136, 137, 138, 139, 140, 141, 142, 131, 132] (by decide +kernel) (by decide +kernel)
set_option maxRecDepth 20000 in
theorem gX6_was_X6_listTellsShades : GoodIn wsX6_was (wsV RX6 257 RX6 yX6_listTellsShades wsX6_listTellsShades) := goodIn_app (goodIn_of _ (by decide +kernel)) ggX6_was_X6_listTellsShades
theorem dX6_was_0 : decode cX6_was 0 = .ok (.aload_n 0, 1) := by decide +kernel
theorem dX6_was_1 : decode cX6_was 1 = .ok (.getfield 12, 3) := by decide +kernel
theorem dX6_was_4 : decode cX6_was 4 = .ok (.iload_n 1, 1) := by decide +kernel
theorem dX6_was_5 : decode cX6_was 5 = .ok (.invokevirtual 109, 3) := by decide +kernel
theorem dX6_was_8 : decode cX6_was 8 = .ok (.ifCond .eq 22, 3) := by decide +kernel
theorem dX6_was_11 : decode cX6_was 11 = .ok (.aload_n 0, 1) := by decide +kernel
theorem dX6_was_12 : decode cX6_was 12 = .ok (.getfield 12, 3) := by decide +kernel
theorem dX6_was_15 : decode cX6_was 15 = .ok (.iload_n 2, 1) := by decide +kernel
theorem dX6_was_16 : decode cX6_was 16 = .ok (.invokevirtual 141, 3) := by decide +kernel
theorem dX6_was_19 : decode cX6_was 19 = .ok (.ifCond .eq 11, 3) := by decide +kernel
theorem dX6_was_22 : decode cX6_was 22 = .ok (.iload_n 3, 1) := by decide +kernel
theorem dX6_was_23 : decode cX6_was 23 = .ok (.iconst 3, 1) := by decide +kernel
theorem dX6_was_24 : decode cX6_was 24 = .ok (.invokestatic 112, 3) := by decide +kernel
theorem dX6_was_27 : decode cX6_was 27 = .ok (.ifCond .ne 5, 3) := by decide +kernel
theorem dX6_was_30 : decode cX6_was 30 = .ok (.iconst (-1), 1) := by decide +kernel
theorem dX6_was_31 : decode cX6_was 31 = .ok (.ireturn, 1) := by decide +kernel
theorem dX6_was_32 : decode cX6_was 32 = .ok (.iload 4, 2) := by decide +kernel
theorem dX6_was_34 : decode cX6_was 34 = .ok (.iconst 4, 1) := by decide +kernel
theorem dX6_was_35 : decode cX6_was 35 = .ok (.invokestatic 112, 3) := by decide +kernel
theorem dX6_was_38 : decode cX6_was 38 = .ok (.ifCond .eq 12, 3) := by decide +kernel
theorem dX6_was_41 : decode cX6_was 41 = .ok (.iload 5, 2) := by decide +kernel
theorem dX6_was_43 : decode cX6_was 43 = .ok (.iconst 2, 1) := by decide +kernel
theorem dX6_was_44 : decode cX6_was 44 = .ok (.invokestatic 112, 3) := by decide +kernel
theorem dX6_was_47 : decode cX6_was 47 = .ok (.ifCond .ne 5, 3) := by decide +kernel
theorem dX6_was_50 : decode cX6_was 50 = .ok (.iconst (-1), 1) := by decide +kernel
theorem dX6_was_51 : decode cX6_was 51 = .ok (.ireturn, 1) := by decide +kernel
theorem dX6_was_52 : decode cX6_was 52 = .ok (.aload_n 0, 1) := by decide +kernel
theorem dX6_was_53 : decode cX6_was 53 = .ok (.getfield 60, 3) := by decide +kernel
theorem dX6_was_56 : decode cX6_was 56 = .ok (.iload 4, 2) := by decide +kernel
theorem dX6_was_58 : decode cX6_was 58 = .ok (.invokevirtual 247, 3) := by decide +kernel
theorem dX6_was_61 : decode cX6_was 61 = .ok (.ifCond .ne 6, 3) := by decide +kernel
theorem dX6_was_64 : decode cX6_was 64 = .ok (.bipush (-11), 2) := by decide +kernel
theorem dX6_was_66 : decode cX6_was 66 = .ok (.ireturn, 1) := by decide +kernel
theorem dX6_was_67 : decode cX6_was 67 = .ok (.aload_n 0, 1) := by decide +kernel
theorem dX6_was_68 : decode cX6_was 68 = .ok (.getfield 60, 3) := by decide +kernel
theorem dX6_was_71 : decode cX6_was 71 = .ok (.getfield 250, 3) := by decide +kernel
theorem dX6_was_74 : decode cX6_was 74 = .ok (.iload 4, 2) := by decide +kernel
theorem dX6_was_76 : decode cX6_was 76 = .ok (.iaload, 1) := by decide +kernel
theorem dX6_was_77 : decode cX6_was 77 = .ok (.iconst 3, 1) := by decide +kernel
theorem dX6_was_78 : decode cX6_was 78 = .ok (.if_icmp .ge 6, 3) := by decide +kernel
theorem dX6_was_81 : decode cX6_was 81 = .ok (.bipush (-13), 2) := by decide +kernel
theorem dX6_was_83 : decode cX6_was 83 = .ok (.ireturn, 1) := by decide +kernel
theorem dX6_was_84 : decode cX6_was 84 = .ok (.aload_n 0, 1) := by decide +kernel
theorem dX6_was_85 : decode cX6_was 85 = .ok (.getfield 30, 3) := by decide +kernel
theorem dX6_was_88 : decode cX6_was 88 = .ok (.invokevirtual 162, 3) := by decide +kernel
theorem dX6_was_91 : decode cX6_was 91 = .ok (.iconst 0, 1) := by decide +kernel
theorem dX6_was_92 : decode cX6_was 92 = .ok (.istore 6, 2) := by decide +kernel
theorem dX6_was_94 : decode cX6_was 94 = .ok (.iload 5, 2) := by decide +kernel
theorem dX6_was_96 : decode cX6_was 96 = .ok (.ifCond .ne 8, 3) := by decide +kernel
theorem dX6_was_99 : decode cX6_was 99 = .ok (.bipush 6, 2) := by decide +kernel
theorem dX6_was_101 : decode cX6_was 101 = .ok (.goto 5, 3) := by decide +kernel
theorem dX6_was_104 : decode cX6_was 104 = .ok (.bipush 10, 2) := by decide +kernel
theorem dX6_was_106 : decode cX6_was 106 = .ok (.istore 7, 2) := by decide +kernel
theorem dX6_was_108 : decode cX6_was 108 = .ok (.iconst 0, 1) := by decide +kernel
theorem dX6_was_109 : decode cX6_was 109 = .ok (.istore 8, 2) := by decide +kernel
theorem dX6_was_111 : decode cX6_was 111 = .ok (.iload 8, 2) := by decide +kernel
theorem dX6_was_113 : decode cX6_was 113 = .ok (.iload 7, 2) := by decide +kernel
theorem dX6_was_115 : decode cX6_was 115 = .ok (.if_icmp .ge 90, 3) := by decide +kernel
theorem dX6_was_118 : decode cX6_was 118 = .ok (.iload 5, 2) := by decide +kernel
theorem dX6_was_120 : decode cX6_was 120 = .ok (.ifCond .ne 8, 3) := by decide +kernel
theorem dX6_was_123 : decode cX6_was 123 = .ok (.iload 8, 2) := by decide +kernel
theorem dX6_was_125 : decode cX6_was 125 = .ok (.goto 12, 3) := by decide +kernel
theorem dX6_was_128 : decode cX6_was 128 = .ok (.aload_n 0, 1) := by decide +kernel
theorem dX6_was_129 : decode cX6_was 129 = .ok (.getfield 12, 3) := by decide +kernel
theorem dX6_was_132 : decode cX6_was 132 = .ok (.getfield 121, 3) := by decide +kernel
theorem dX6_was_135 : decode cX6_was 135 = .ok (.iload_n 1, 1) := by decide +kernel
theorem dX6_was_136 : decode cX6_was 136 = .ok (.iaload, 1) := by decide +kernel
theorem dX6_was_137 : decode cX6_was 137 = .ok (.istore 9, 2) := by decide +kernel
theorem dX6_was_139 : decode cX6_was 139 = .ok (.iload 5, 2) := by decide +kernel
theorem dX6_was_141 : decode cX6_was 141 = .ok (.ifCond .ne 15, 3) := by decide +kernel
theorem dX6_was_144 : decode cX6_was 144 = .ok (.aload_n 0, 1) := by decide +kernel
theorem dX6_was_145 : decode cX6_was 145 = .ok (.getfield 12, 3) := by decide +kernel
theorem dX6_was_148 : decode cX6_was 148 = .ok (.getfield 122, 3) := by decide +kernel
theorem dX6_was_151 : decode cX6_was 151 = .ok (.iload_n 1, 1) := by decide +kernel
theorem dX6_was_152 : decode cX6_was 152 = .ok (.iaload, 1) := by decide +kernel
theorem dX6_was_153 : decode cX6_was 153 = .ok (.goto 5, 3) := by decide +kernel
theorem dX6_was_156 : decode cX6_was 156 = .ok (.iload 8, 2) := by decide +kernel
theorem dX6_was_158 : decode cX6_was 158 = .ok (.istore 10, 2) := by decide +kernel
theorem dX6_was_160 : decode cX6_was 160 = .ok (.aload_n 0, 1) := by decide +kernel
theorem dX6_was_161 : decode cX6_was 161 = .ok (.getfield 30, 3) := by decide +kernel
theorem dX6_was_164 : decode cX6_was 164 = .ok (.iload_n 1, 1) := by decide +kernel
theorem dX6_was_165 : decode cX6_was 165 = .ok (.iload 9, 2) := by decide +kernel
theorem dX6_was_167 : decode cX6_was 167 = .ok (.iload 10, 2) := by decide +kernel
theorem dX6_was_169 : decode cX6_was 169 = .ok (.invokevirtual 253, 3) := by decide +kernel
theorem dX6_was_172 : decode cX6_was 172 = .ok (.aload_n 0, 1) := by decide +kernel
theorem dX6_was_173 : decode cX6_was 173 = .ok (.getfield 30, 3) := by decide +kernel
theorem dX6_was_176 : decode cX6_was 176 = .ok (.iload_n 2, 1) := by decide +kernel
theorem dX6_was_177 : decode cX6_was 177 = .ok (.invokevirtual 165, 3) := by decide +kernel
theorem dX6_was_180 : decode cX6_was 180 = .ok (.aload_n 0, 1) := by decide +kernel
theorem dX6_was_181 : decode cX6_was 181 = .ok (.iload 4, 2) := by decide +kernel
theorem dX6_was_183 : decode cX6_was 183 = .ok (.iload_n 3, 1) := by decide +kernel
theorem dX6_was_184 : decode cX6_was 184 = .ok (.invokevirtual 257, 3) := by decide +kernel
theorem dX6_was_187 : decode cX6_was 187 = .ok (.ifCond .eq 12, 3) := by decide +kernel
theorem dX6_was_190 : decode cX6_was 190 = .ok (.iload 6, 2) := by decide +kernel
theorem dX6_was_192 : decode cX6_was 192 = .ok (.iconst 1, 1) := by decide +kernel
theorem dX6_was_193 : decode cX6_was 193 = .ok (.iload 8, 2) := by decide +kernel
theorem dX6_was_195 : decode cX6_was 195 = .ok (.ishl, 1) := by decide +kernel
theorem dX6_was_196 : decode cX6_was 196 = .ok (.ior, 1) := by decide +kernel
theorem dX6_was_197 : decode cX6_was 197 = .ok (.istore 6, 2) := by decide +kernel
theorem dX6_was_199 : decode cX6_was 199 = .ok (.iinc 8 1, 3) := by decide +kernel
theorem dX6_was_202 : decode cX6_was 202 = .ok (.goto (-91), 3) := by decide +kernel
theorem dX6_was_205 : decode cX6_was 205 = .ok (.iload 6, 2) := by decide +kernel
theorem dX6_was_207 : decode cX6_was 207 = .ok (.ireturn, 1) := by decide +kernel
set_option maxRecDepth 20000 in
theorem ggX6_odds_X6_within : GoodIn wsX6_odds wsX6_within := goodIn_r _ [8] (by decide +kernel) (by decide +kernel)
set_option maxRecDepth 20000 in
theorem gX6_odds_X6_within : GoodIn wsX6_odds (va_wsS RX6 112 yX6_within wsX6_within) := goodIn_app (goodIn_of _ (by decide +kernel)) ggX6_odds_X6_within
set_option maxRecDepth 20000 in
theorem ggX6_odds_X0_lookAtSheets : GoodIn wsX6_odds wsX0_lookAtSheets := goodIn_r _ [13, 14, 15, 16, 17, 18, 19, 20, 12, 21, 22, 6, 7, 8, 23, 24, 25, 26, 27, 28, 29, 30, 31, 32, 33, 34, 35, 36, 37, 38, 39, 40, 41, 110, 111, 112, 113, 114, 100, 101, 102, 103, 104, 105, 106, 107, 108, 109] (by decide +kernel) (by decide +kernel)
set_option maxRecDepth 20000 in
theorem gX6_odds_X0_lookAtSheets : GoodIn wsX6_odds (wsV RX6 162 RX0 yX0_lookAtSheets wsX0_lookAtSheets) := goodIn_app (goodIn_of _ (by decide +kernel)) ggX6_odds_X0_lookAtSheets
set_option maxRecDepth 20000 in
theorem ggX6_odds_X0_pileDrawn : GoodIn wsX6_odds wsX0_pileDrawn := goodIn_r _ [45, 46, 47, 48, 14, 15, 49, 50, 51, 12, 52, 53, 54, 55, 56, 57, 58, 59, 22, 60, 6, 7, 8, 110, 111, 112, 113, 114, 100, 101, 102, 103, 104, 105, 106, 107, 108, 109] (by decide +kernel) (by decide +kernel)
set_option maxRecDepth 20000 in
theorem gX6_odds_X0_pileDrawn : GoodIn wsX6_odds (wsV RX6 260 RX0 yX0_pileDrawn wsX0_pileDrawn) := goodIn_app (goodIn_of _ (by decide +kernel)) ggX6_odds_X0_pileDrawn
set_option maxRecDepth 20000 in
theorem ggX6_odds_X0_shadeOf : GoodIn wsX6_odds wsX0_shadeOf := goodIn_r _ [64, 65, 66, 67, 12, 68, 14, 69, 70, 53, 6, 7, 8, 71, 72, 73, 74, 75, 76, 77, 54, 78, 79, 80, 110, 111, 112, 113, 114, 100, 101, 102, 103, 104, 105, 106, 107, 108, 109] (by decide +kernel) (by decide +kernel)
set_option maxRecDepth 20000 in
theorem gX6_odds_X0_shadeOf : GoodIn wsX6_odds (wsV RX6 192 RX0 yX0_shadeOf wsX0_shadeOf) := goodIn_app (goodIn_of _ (by decide +kernel)) ggX6_odds_X0_shadeOf
set_option maxRecDepth 20000 in
theorem ggX6_odds_X6_partOf : GoodIn wsX6_odds wsX6_partOf := goodIn_r _ [83, 84, 85, 7, 86, 87, 79, 80] (by decide +kernel) (by decide +kernel)
set_option maxRecDepth 20000 in
theorem gX6_odds_X6_partOf : GoodIn wsX6_odds (va_wsS RX6 176 yX6_partOf wsX6_partOf) := goodIn_app (goodIn_of _ (by decide +kernel)) ggX6_odds_X6_partOf
theorem dX6_odds_0 : decode cX6_odds 0 = .ok (.iload_n 1, 1) := by decide +kernel
theorem dX6_odds_1 : decode cX6_odds 1 = .ok (.iconst 5, 1) := by decide +kernel
theorem dX6_odds_2 : decode cX6_odds 2 = .ok (.invokestatic 112, 3) := by decide +kernel
theorem dX6_odds_5 : decode cX6_odds 5 = .ok (.ifCond .eq 14, 3) := by decide +kernel
theorem dX6_odds_8 : decode cX6_odds 8 = .ok (.iload_n 3, 1) := by decide +kernel
theorem dX6_odds_9 : decode cX6_odds 9 = .ok (.iconst 1, 1) := by decide +kernel
theorem dX6_odds_10 : decode cX6_odds 10 = .ok (.if_icmp .lt 9, 3) := by decide +kernel
theorem dX6_odds_13 : decode cX6_odds 13 = .ok (.iload_n 3, 1) := by decide +kernel
theorem dX6_odds_14 : decode cX6_odds 14 = .ok (.bipush 20, 2) := by decide +kernel
theorem dX6_odds_16 : decode cX6_odds 16 = .ok (.if_icmp .le 7, 3) := by decide +kernel
theorem dX6_odds_19 : decode cX6_odds 19 = .ok (.ldc2_w 160, 3) := by decide +kernel
theorem dX6_odds_22 : decode cX6_odds 22 = .ok (.lreturn, 1) := by decide +kernel
theorem dX6_odds_23 : decode cX6_odds 23 = .ok (.iload 4, 2) := by decide +kernel
theorem dX6_odds_25 : decode cX6_odds 25 = .ok (.iconst 3, 1) := by decide +kernel
theorem dX6_odds_26 : decode cX6_odds 26 = .ok (.invokestatic 112, 3) := by decide +kernel
theorem dX6_odds_29 : decode cX6_odds 29 = .ok (.ifCond .eq 21, 3) := by decide +kernel
theorem dX6_odds_32 : decode cX6_odds 32 = .ok (.iload 5, 2) := by decide +kernel
theorem dX6_odds_34 : decode cX6_odds 34 = .ok (.iconst 3, 1) := by decide +kernel
theorem dX6_odds_35 : decode cX6_odds 35 = .ok (.invokestatic 112, 3) := by decide +kernel
theorem dX6_odds_38 : decode cX6_odds 38 = .ok (.ifCond .eq 12, 3) := by decide +kernel
theorem dX6_odds_41 : decode cX6_odds 41 = .ok (.iload 7, 2) := by decide +kernel
theorem dX6_odds_43 : decode cX6_odds 43 = .ok (.iconst 2, 1) := by decide +kernel
theorem dX6_odds_44 : decode cX6_odds 44 = .ok (.invokestatic 112, 3) := by decide +kernel
theorem dX6_odds_47 : decode cX6_odds 47 = .ok (.ifCond .ne 7, 3) := by decide +kernel
theorem dX6_odds_50 : decode cX6_odds 50 = .ok (.ldc2_w 160, 3) := by decide +kernel
theorem dX6_odds_53 : decode cX6_odds 53 = .ok (.lreturn, 1) := by decide +kernel
theorem dX6_odds_54 : decode cX6_odds 54 = .ok (.aload_n 0, 1) := by decide +kernel
theorem dX6_odds_55 : decode cX6_odds 55 = .ok (.getfield 12, 3) := by decide +kernel
theorem dX6_odds_58 : decode cX6_odds 58 = .ok (.getfield 90, 3) := by decide +kernel
theorem dX6_odds_61 : decode cX6_odds 61 = .ok (.ifCond .gt 7, 3) := by decide +kernel
theorem dX6_odds_64 : decode cX6_odds 64 = .ok (.ldc2_w 160, 3) := by decide +kernel
theorem dX6_odds_67 : decode cX6_odds 67 = .ok (.lreturn, 1) := by decide +kernel
theorem dX6_odds_68 : decode cX6_odds 68 = .ok (.aload_n 0, 1) := by decide +kernel
theorem dX6_odds_69 : decode cX6_odds 69 = .ok (.getfield 30, 3) := by decide +kernel
theorem dX6_odds_72 : decode cX6_odds 72 = .ok (.invokevirtual 162, 3) := by decide +kernel
theorem dX6_odds_75 : decode cX6_odds 75 = .ok (.iconst 0, 1) := by decide +kernel
theorem dX6_odds_76 : decode cX6_odds 76 = .ok (.istore 8, 2) := by decide +kernel
theorem dX6_odds_78 : decode cX6_odds 78 = .ok (.iconst 0, 1) := by decide +kernel
theorem dX6_odds_79 : decode cX6_odds 79 = .ok (.istore 9, 2) := by decide +kernel
theorem dX6_odds_81 : decode cX6_odds 81 = .ok (.iload 9, 2) := by decide +kernel
theorem dX6_odds_83 : decode cX6_odds 83 = .ok (.iload_n 3, 1) := by decide +kernel
theorem dX6_odds_84 : decode cX6_odds 84 = .ok (.if_icmp .ge 41, 3) := by decide +kernel
theorem dX6_odds_87 : decode cX6_odds 87 = .ok (.aload_n 0, 1) := by decide +kernel
theorem dX6_odds_88 : decode cX6_odds 88 = .ok (.getfield 30, 3) := by decide +kernel
theorem dX6_odds_91 : decode cX6_odds 91 = .ok (.iload_n 1, 1) := by decide +kernel
theorem dX6_odds_92 : decode cX6_odds 92 = .ok (.iload_n 2, 1) := by decide +kernel
theorem dX6_odds_93 : decode cX6_odds 93 = .ok (.iload 9, 2) := by decide +kernel
theorem dX6_odds_95 : decode cX6_odds 95 = .ok (.iadd, 1) := by decide +kernel
theorem dX6_odds_96 : decode cX6_odds 96 = .ok (.invokevirtual 260, 3) := by decide +kernel
theorem dX6_odds_99 : decode cX6_odds 99 = .ok (.aload_n 0, 1) := by decide +kernel
theorem dX6_odds_100 : decode cX6_odds 100 = .ok (.getfield 30, 3) := by decide +kernel
theorem dX6_odds_103 : decode cX6_odds 103 = .ok (.iload 4, 2) := by decide +kernel
theorem dX6_odds_105 : decode cX6_odds 105 = .ok (.iconst 0, 1) := by decide +kernel
theorem dX6_odds_106 : decode cX6_odds 106 = .ok (.iload 5, 2) := by decide +kernel
theorem dX6_odds_108 : decode cX6_odds 108 = .ok (.invokevirtual 192, 3) := by decide +kernel
theorem dX6_odds_111 : decode cX6_odds 111 = .ok (.iload 6, 2) := by decide +kernel
theorem dX6_odds_113 : decode cX6_odds 113 = .ok (.if_icmp .lt 6, 3) := by decide +kernel
theorem dX6_odds_116 : decode cX6_odds 116 = .ok (.iinc 8 1, 3) := by decide +kernel
theorem dX6_odds_119 : decode cX6_odds 119 = .ok (.iinc 9 1, 3) := by decide +kernel
theorem dX6_odds_122 : decode cX6_odds 122 = .ok (.goto (-41), 3) := by decide +kernel
theorem dX6_odds_125 : decode cX6_odds 125 = .ok (.iload 8, 2) := by decide +kernel
theorem dX6_odds_127 : decode cX6_odds 127 = .ok (.i2l, 1) := by decide +kernel
theorem dX6_odds_128 : decode cX6_odds 128 = .ok (.iload_n 3, 1) := by decide +kernel
theorem dX6_odds_129 : decode cX6_odds 129 = .ok (.i2l, 1) := by decide +kernel
theorem dX6_odds_130 : decode cX6_odds 130 = .ok (.iload 7, 2) := by decide +kernel
theorem dX6_odds_132 : decode cX6_odds 132 = .ok (.invokestatic 176, 3) := by decide +kernel
theorem dX6_odds_135 : decode cX6_odds 135 = .ok (.lreturn, 1) := by decide +kernel
set_option maxRecDepth 20000 in
theorem ggX6_spell_X3_hasStack : GoodIn wsX6_spell wsX3_hasStack := goodIn_r _ [8, 9, 10, 11, 12, 108, 109, 110, 111, 112, 113, 114, 115, 116, 117] (by decide +kernel) (by decide +kernel)
set_option maxRecDepth 20000 in
theorem gX6_spell_X3_hasStack : GoodIn wsX6_spell (wsV RX6 141 RX3 yX3_hasStack wsX3_hasStack) := goodIn_app (goodIn_of _ (by decide +kernel)) ggX6_spell_X3_hasStack
set_option maxRecDepth 20000 in
theorem ggX6_spell_X2_spellStack : GoodIn wsX6_spell wsX2_spellStack := goodIn_r _ [17, 18, 19, 20, 5, 6, 7, 8, 9, 10, 11, 12, 21, 22, 23, 16, 24, 25, 26, 27, 28, 29, 30, 31, 32, 33, 34, 35, 36, 37, 38, 39, 40, 41, 42, 43, 44, 45, 46, 47, 48, 49, 50, 51, 52, 53, 54, 55, 56, 57, 58, 59, 60, 61, 62, 63, 64, 65, 66, 67, 68, 69, 70, 71, 72, 73, 74, 75, 76, 77, 78, 79, 80, 81, 82, 83, 84, 85, 86, 87, 88, 89, 90, 91, 92, 93, 106, 107, 108, 109, 110, 111, 112, 113, 114, 115, 116, 117] (by decide +kernel) (by decide +kernel)
set_option maxRecDepth 20000 in
theorem gX6_spell_X2_spellStack : GoodIn wsX6_spell (wsV RX6 263 RX2 yX2_spellStack wsX2_spellStack) := goodIn_app (goodIn_of _ (by decide +kernel)) ggX6_spell_X2_spellStack
theorem dX6_spell_0 : decode cX6_spell 0 = .ok (.aload_n 0, 1) := by decide +kernel
theorem dX6_spell_1 : decode cX6_spell 1 = .ok (.getfield 12, 3) := by decide +kernel
theorem dX6_spell_4 : decode cX6_spell 4 = .ok (.iload_n 1, 1) := by decide +kernel
theorem dX6_spell_5 : decode cX6_spell 5 = .ok (.invokevirtual 141, 3) := by decide +kernel
theorem dX6_spell_8 : decode cX6_spell 8 = .ok (.ifCond .ne 5, 3) := by decide +kernel
theorem dX6_spell_11 : decode cX6_spell 11 = .ok (.iconst (-1), 1) := by decide +kernel
theorem dX6_spell_12 : decode cX6_spell 12 = .ok (.ireturn, 1) := by decide +kernel
theorem dX6_spell_13 : decode cX6_spell 13 = .ok (.aload_n 0, 1) := by decide +kernel
theorem dX6_spell_14 : decode cX6_spell 14 = .ok (.getfield 53, 3) := by decide +kernel
theorem dX6_spell_17 : decode cX6_spell 17 = .ok (.aload_n 0, 1) := by decide +kernel
theorem dX6_spell_18 : decode cX6_spell 18 = .ok (.getfield 12, 3) := by decide +kernel
theorem dX6_spell_21 : decode cX6_spell 21 = .ok (.iload_n 1, 1) := by decide +kernel
theorem dX6_spell_22 : decode cX6_spell 22 = .ok (.invokevirtual 263, 3) := by decide +kernel
theorem dX6_spell_25 : decode cX6_spell 25 = .ok (.aload_n 0, 1) := by decide +kernel
theorem dX6_spell_26 : decode cX6_spell 26 = .ok (.getfield 53, 3) := by decide +kernel
theorem dX6_spell_29 : decode cX6_spell 29 = .ok (.getfield 267, 3) := by decide +kernel
theorem dX6_spell_32 : decode cX6_spell 32 = .ok (.ireturn, 1) := by decide +kernel
set_option maxRecDepth 20000 in
theorem ggX6_paper_X6_within : GoodIn wsX6_paper wsX6_within := goodIn_r _ [7] (by decide +kernel) (by decide +kernel)
set_option maxRecDepth 20000 in
theorem gX6_paper_X6_within : GoodIn wsX6_paper (va_wsS RX6 112 yX6_within wsX6_within) := goodIn_app (goodIn_of _ (by decide +kernel)) ggX6_paper_X6_within
theorem dX6_paper_0 : decode cX6_paper 0 = .ok (.iload_n 1, 1) := by decide +kernel
theorem dX6_paper_1 : decode cX6_paper 1 = .ok (.aload_n 0, 1) := by decide +kernel
theorem dX6_paper_2 : decode cX6_paper 2 = .ok (.getfield 53, 3) := by decide +kernel
theorem dX6_paper_5 : decode cX6_paper 5 = .ok (.getfield 267, 3) := by decide +kernel
theorem dX6_paper_8 : decode cX6_paper 8 = .ok (.invokestatic 112, 3) := by decide +kernel
theorem dX6_paper_11 : decode cX6_paper 11 = .ok (.ifCond .eq 15, 3) := by decide +kernel
theorem dX6_paper_14 : decode cX6_paper 14 = .ok (.aload_n 0, 1) := by decide +kernel
theorem dX6_paper_15 : decode cX6_paper 15 = .ok (.getfield 53, 3) := by decide +kernel
theorem dX6_paper_18 : decode cX6_paper 18 = .ok (.getfield 268, 3) := by decide +kernel
theorem dX6_paper_21 : decode cX6_paper 21 = .ok (.iload_n 1, 1) := by decide +kernel
theorem dX6_paper_22 : decode cX6_paper 22 = .ok (.iaload, 1) := by decide +kernel
theorem dX6_paper_23 : decode cX6_paper 23 = .ok (.goto 4, 3) := by decide +kernel
theorem dX6_paper_26 : decode cX6_paper 26 = .ok (.iconst (-1), 1) := by decide +kernel
theorem dX6_paper_27 : decode cX6_paper 27 = .ok (.ireturn, 1) := by decide +kernel
set_option maxRecDepth 20000 in
theorem ggX6_judge_X6_within : GoodIn wsX6_judge wsX6_within := goodIn_r _ [8] (by decide +kernel) (by decide +kernel)
set_option maxRecDepth 20000 in
theorem gX6_judge_X6_within : GoodIn wsX6_judge (va_wsS RX6 112 yX6_within wsX6_within) := goodIn_app (goodIn_of _ (by decide +kernel)) ggX6_judge_X6_within
set_option maxRecDepth 20000 in
theorem ggX6_judge_X1_isHeld : GoodIn wsX6_judge wsX1_isHeld := goodIn_r _ [13, 14, 6, 7, 8, 123, 124] (by decide +kernel) (by decide +kernel)
set_option maxRecDepth 20000 in
theorem gX6_judge_X1_isHeld : GoodIn wsX6_judge (wsV RX6 247 RX1 yX1_isHeld wsX1_isHeld) := goodIn_app (goodIn_of _ (by decide +kernel)) ggX6_judge_X1_isHeld
set_option maxRecDepth 20000 in
theorem ggX6_judge_X0_lookAtSheets : GoodIn wsX6_judge wsX0_lookAtSheets := goodIn_r _ [19, 20, 21, 22, 23, 24, 25, 26, 18, 27, 28, 6, 7, 8, 29, 30, 31, 32, 33, 34, 35, 36, 37, 38, 39, 40, 41, 42, 43, 44, 45, 46, 47, 125, 126, 127, 128, 129, 130, 131, 132, 133, 134, 135, 136, 137, 138, 139] (by decide +kernel) (by decide +kernel)
set_option maxRecDepth 20000 in
theorem gX6_judge_X0_lookAtSheets : GoodIn wsX6_judge (wsV RX6 162 RX0 yX0_lookAtSheets wsX0_lookAtSheets) := goodIn_app (goodIn_of _ (by decide +kernel)) ggX6_judge_X0_lookAtSheets
set_option maxRecDepth 20000 in
theorem ggX6_judge_X3_hasStack : GoodIn wsX6_judge wsX3_hasStack := goodIn_r _ [51, 52, 6, 7, 8, 130, 131, 132, 133, 134, 135, 136, 137, 138, 139] (by decide +kernel) (by decide +kernel)
set_option maxRecDepth 20000 in
theorem gX6_judge_X3_hasStack : GoodIn wsX6_judge (wsV RX6 141 RX3 yX3_hasStack wsX3_hasStack) := goodIn_app (goodIn_of _ (by decide +kernel)) ggX6_judge_X3_hasStack
set_option maxRecDepth 20000 in
theorem ggX6_judge_X0_pileStack : GoodIn wsX6_judge wsX0_pileStack := goodIn_r _ [56, 57, 58, 59, 18, 60, 20, 61, 62, 63, 64, 65, 66, 67, 68, 69, 49, 50, 32, 51, 52, 6, 7, 8, 70, 71, 72, 73, 74, 75, 76, 77, 78, 79, 28, 80, 125, 126, 127, 128, 129, 130, 131, 132, 133, 134, 135, 136, 137, 138, 139] (by decide +kernel) (by decide +kernel)
set_option maxRecDepth 20000 in
theorem gX6_judge_X0_pileStack : GoodIn wsX6_judge (wsV RX6 165 RX0 yX0_pileStack wsX0_pileStack) := goodIn_app (goodIn_of _ (by decide +kernel)) ggX6_judge_X0_pileStack
set_option maxRecDepth 20000 in
theorem ggX6_judge_X0_shadeOf : GoodIn wsX6_judge wsX0_shadeOf := goodIn_r _ [84, 85, 86, 87, 18, 88, 20, 89, 90, 66, 6, 7, 8, 91, 92, 93, 94, 95, 96, 97, 67, 98, 99, 100, 125, 126, 127, 128, 129, 130, 131, 132, 133, 134, 135, 136, 137, 138, 139] (by decide +kernel) (by decide +kernel)
set_option maxRecDepth 20000 in
theorem gX6_judge_X0_shadeOf : GoodIn wsX6_judge (wsV RX6 192 RX0 yX0_shadeOf wsX0_shadeOf) := goodIn_app (goodIn_of _ (by decide +kernel)) ggX6_judge_X0_shadeOf
set_option maxRecDepth 20000 in
theorem ggX6_judge_X1_valueAt : GoodIn wsX6_judge wsX1_valueAt := goodIn_r _ [104, 105, 106, 107, 108, 12, 109, 14, 110, 10, 11, 13, 6, 7, 8, 123, 124] (by decide +kernel) (by decide +kernel)
set_option maxRecDepth 20000 in
theorem gX6_judge_X1_valueAt : GoodIn wsX6_judge (wsV RX6 271 RX1 yX1_valueAt wsX1_valueAt) := goodIn_app (goodIn_of _ (by decide +kernel)) ggX6_judge_X1_valueAt
theorem dX6_judge_0 : decode cX6_judge 0 = .ok (.iload_n 1, 1) := by decide +kernel
theorem dX6_judge_1 : decode cX6_judge 1 = .ok (.iconst 4, 1) := by decide +kernel
theorem dX6_judge_2 : decode cX6_judge 2 = .ok (.invokestatic 112, 3) := by decide +kernel
theorem dX6_judge_5 : decode cX6_judge 5 = .ok (.ifCond .eq 11, 3) := by decide +kernel
theorem dX6_judge_8 : decode cX6_judge 8 = .ok (.iload_n 2, 1) := by decide +kernel
theorem dX6_judge_9 : decode cX6_judge 9 = .ok (.iconst 3, 1) := by decide +kernel
theorem dX6_judge_10 : decode cX6_judge 10 = .ok (.invokestatic 112, 3) := by decide +kernel
theorem dX6_judge_13 : decode cX6_judge 13 = .ok (.ifCond .ne 5, 3) := by decide +kernel
theorem dX6_judge_16 : decode cX6_judge 16 = .ok (.iconst (-1), 1) := by decide +kernel
theorem dX6_judge_17 : decode cX6_judge 17 = .ok (.ireturn, 1) := by decide +kernel
theorem dX6_judge_18 : decode cX6_judge 18 = .ok (.aload_n 0, 1) := by decide +kernel
theorem dX6_judge_19 : decode cX6_judge 19 = .ok (.getfield 60, 3) := by decide +kernel
theorem dX6_judge_22 : decode cX6_judge 22 = .ok (.iload_n 1, 1) := by decide +kernel
theorem dX6_judge_23 : decode cX6_judge 23 = .ok (.invokevirtual 247, 3) := by decide +kernel
theorem dX6_judge_26 : decode cX6_judge 26 = .ok (.ifCond .ne 6, 3) := by decide +kernel
theorem dX6_judge_29 : decode cX6_judge 29 = .ok (.bipush (-11), 2) := by decide +kernel
theorem dX6_judge_31 : decode cX6_judge 31 = .ok (.ireturn, 1) := by decide +kernel
theorem dX6_judge_32 : decode cX6_judge 32 = .ok (.aload_n 0, 1) := by decide +kernel
theorem dX6_judge_33 : decode cX6_judge 33 = .ok (.getfield 30, 3) := by decide +kernel
theorem dX6_judge_36 : decode cX6_judge 36 = .ok (.invokevirtual 162, 3) := by decide +kernel
theorem dX6_judge_39 : decode cX6_judge 39 = .ok (.iconst 0, 1) := by decide +kernel
theorem dX6_judge_40 : decode cX6_judge 40 = .ok (.istore_n 3, 1) := by decide +kernel
theorem dX6_judge_41 : decode cX6_judge 41 = .ok (.iload_n 3, 1) := by decide +kernel
theorem dX6_judge_42 : decode cX6_judge 42 = .ok (.aload_n 0, 1) := by decide +kernel
theorem dX6_judge_43 : decode cX6_judge 43 = .ok (.getfield 60, 3) := by decide +kernel
theorem dX6_judge_46 : decode cX6_judge 46 = .ok (.getfield 250, 3) := by decide +kernel
theorem dX6_judge_49 : decode cX6_judge 49 = .ok (.iload_n 1, 1) := by decide +kernel
theorem dX6_judge_50 : decode cX6_judge 50 = .ok (.iaload, 1) := by decide +kernel
theorem dX6_judge_51 : decode cX6_judge 51 = .ok (.if_icmp .ge 63, 3) := by decide +kernel
theorem dX6_judge_54 : decode cX6_judge 54 = .ok (.iload_n 3, 1) := by decide +kernel
theorem dX6_judge_55 : decode cX6_judge 55 = .ok (.iconst 3, 1) := by decide +kernel
theorem dX6_judge_56 : decode cX6_judge 56 = .ok (.idiv, 1) := by decide +kernel
theorem dX6_judge_57 : decode cX6_judge 57 = .ok (.istore 4, 2) := by decide +kernel
theorem dX6_judge_59 : decode cX6_judge 59 = .ok (.aload_n 0, 1) := by decide +kernel
theorem dX6_judge_60 : decode cX6_judge 60 = .ok (.getfield 12, 3) := by decide +kernel
theorem dX6_judge_63 : decode cX6_judge 63 = .ok (.iload 4, 2) := by decide +kernel
theorem dX6_judge_65 : decode cX6_judge 65 = .ok (.invokevirtual 141, 3) := by decide +kernel
theorem dX6_judge_68 : decode cX6_judge 68 = .ok (.ifCond .ne 5, 3) := by decide +kernel
theorem dX6_judge_71 : decode cX6_judge 71 = .ok (.iload_n 3, 1) := by decide +kernel
theorem dX6_judge_72 : decode cX6_judge 72 = .ok (.ireturn, 1) := by decide +kernel
theorem dX6_judge_73 : decode cX6_judge 73 = .ok (.aload_n 0, 1) := by decide +kernel
theorem dX6_judge_74 : decode cX6_judge 74 = .ok (.getfield 30, 3) := by decide +kernel
theorem dX6_judge_77 : decode cX6_judge 77 = .ok (.iload 4, 2) := by decide +kernel
theorem dX6_judge_79 : decode cX6_judge 79 = .ok (.invokevirtual 165, 3) := by decide +kernel
theorem dX6_judge_82 : decode cX6_judge 82 = .ok (.aload_n 0, 1) := by decide +kernel
theorem dX6_judge_83 : decode cX6_judge 83 = .ok (.getfield 30, 3) := by decide +kernel
theorem dX6_judge_86 : decode cX6_judge 86 = .ok (.iload_n 2, 1) := by decide +kernel
theorem dX6_judge_87 : decode cX6_judge 87 = .ok (.iconst 0, 1) := by decide +kernel
theorem dX6_judge_88 : decode cX6_judge 88 = .ok (.iload_n 3, 1) := by decide +kernel
theorem dX6_judge_89 : decode cX6_judge 89 = .ok (.iconst 3, 1) := by decide +kernel
theorem dX6_judge_90 : decode cX6_judge 90 = .ok (.irem, 1) := by decide +kernel
theorem dX6_judge_91 : decode cX6_judge 91 = .ok (.invokevirtual 192, 3) := by decide +kernel
theorem dX6_judge_94 : decode cX6_judge 94 = .ok (.aload_n 0, 1) := by decide +kernel
theorem dX6_judge_95 : decode cX6_judge 95 = .ok (.getfield 60, 3) := by decide +kernel
theorem dX6_judge_98 : decode cX6_judge 98 = .ok (.iload_n 1, 1) := by decide +kernel
theorem dX6_judge_99 : decode cX6_judge 99 = .ok (.iload_n 3, 1) := by decide +kernel
theorem dX6_judge_100 : decode cX6_judge 100 = .ok (.invokevirtual 271, 3) := by decide +kernel
theorem dX6_judge_103 : decode cX6_judge 103 = .ok (.if_icmp .eq 5, 3) := by decide +kernel
theorem dX6_judge_106 : decode cX6_judge 106 = .ok (.iload_n 3, 1) := by decide +kernel
theorem dX6_judge_107 : decode cX6_judge 107 = .ok (.ireturn, 1) := by decide +kernel
theorem dX6_judge_108 : decode cX6_judge 108 = .ok (.iinc 3 1, 3) := by decide +kernel
theorem dX6_judge_111 : decode cX6_judge 111 = .ok (.goto (-70), 3) := by decide +kernel
theorem dX6_judge_114 : decode cX6_judge 114 = .ok (.bipush (-5), 2) := by decide +kernel
theorem dX6_judge_116 : decode cX6_judge 116 = .ok (.ireturn, 1) := by decide +kernel
set_option maxRecDepth 20000 in
theorem ggX6_change_X6_within : GoodIn wsX6_change wsX6_within := goodIn_r _ [6] (by decide +kernel) (by decide +kernel)
set_option maxRecDepth 20000 in
theorem gX6_change_X6_within : GoodIn wsX6_change (va_wsS RX6 112 yX6_within wsX6_within) := goodIn_app (goodIn_of _ (by decide +kernel)) ggX6_change_X6_within
set_option maxRecDepth 20000 in
theorem ggX6_change_X1_isHeld : GoodIn wsX6_change wsX1_isHeld := goodIn_r _ [11, 12, 4, 5, 6, 50, 51] (by decide +kernel) (by decide +kernel)
set_option maxRecDepth 20000 in
theorem gX6_change_X1_isHeld : GoodIn wsX6_change (wsV RX6 247 RX1 yX1_isHeld wsX1_isHeld) := goodIn_app (goodIn_of _ (by decide +kernel)) ggX6_change_X1_isHeld
set_option maxRecDepth 20000 in
theorem ggX6_change_X1_valueAt : GoodIn wsX6_change wsX1_valueAt := goodIn_r _ [16, 17, 18, 19, 20, 10, 21, 12, 22, 8, 9, 11, 4, 5, 6, 50, 51] (by decide +kernel) (by decide +kernel)
set_option maxRecDepth 20000 in
theorem gX6_change_X1_valueAt : GoodIn wsX6_change (wsV RX6 271 RX1 yX1_valueAt wsX1_valueAt) := goodIn_app (goodIn_of _ (by decide +kernel)) ggX6_change_X1_valueAt
set_option maxRecDepth 20000 in
theorem ggX6_change_X6_number : GoodIn wsX6_change wsX6_number := goodIn_r _ [26, 27, 28, 29, 30, 31, 32, 33, 34, 4, 5, 6, 3, 35, 36, 37, 38, 39, 40, 41, 42, 43, 44, 45, 46, 47, 48, 49, 52, 53, 54, 55, 56, 57, 58, 59, 60, 61] (by decide +kernel) (by decide +kernel)
set_option maxRecDepth 20000 in
theorem gX6_change_X6_number : GoodIn wsX6_change (wsV RX6 274 RX6 yX6_number wsX6_number) := goodIn_app (goodIn_of _ (by decide +kernel)) ggX6_change_X6_number
theorem dX6_change_0 : decode cX6_change 0 = .ok (.iload_n 1, 1) := by decide +kernel
theorem dX6_change_1 : decode cX6_change 1 = .ok (.iconst 4, 1) := by decide +kernel
theorem dX6_change_2 : decode cX6_change 2 = .ok (.invokestatic 112, 3) := by decide +kernel
theorem dX6_change_5 : decode cX6_change 5 = .ok (.ifCond .ne 5, 3) := by decide +kernel
theorem dX6_change_8 : decode cX6_change 8 = .ok (.iconst (-1), 1) := by decide +kernel
theorem dX6_change_9 : decode cX6_change 9 = .ok (.ireturn, 1) := by decide +kernel
theorem dX6_change_10 : decode cX6_change 10 = .ok (.aload_n 0, 1) := by decide +kernel
theorem dX6_change_11 : decode cX6_change 11 = .ok (.getfield 60, 3) := by decide +kernel
theorem dX6_change_14 : decode cX6_change 14 = .ok (.iload_n 1, 1) := by decide +kernel
theorem dX6_change_15 : decode cX6_change 15 = .ok (.invokevirtual 247, 3) := by decide +kernel
theorem dX6_change_18 : decode cX6_change 18 = .ok (.ifCond .ne 6, 3) := by decide +kernel
theorem dX6_change_21 : decode cX6_change 21 = .ok (.bipush (-11), 2) := by decide +kernel
theorem dX6_change_23 : decode cX6_change 23 = .ok (.ireturn, 1) := by decide +kernel
theorem dX6_change_24 : decode cX6_change 24 = .ok (.iconst 0, 1) := by decide +kernel
theorem dX6_change_25 : decode cX6_change 25 = .ok (.istore_n 2, 1) := by decide +kernel
theorem dX6_change_26 : decode cX6_change 26 = .ok (.iconst 0, 1) := by decide +kernel
theorem dX6_change_27 : decode cX6_change 27 = .ok (.istore_n 3, 1) := by decide +kernel
theorem dX6_change_28 : decode cX6_change 28 = .ok (.iload_n 3, 1) := by decide +kernel
theorem dX6_change_29 : decode cX6_change 29 = .ok (.iconst 3, 1) := by decide +kernel
theorem dX6_change_30 : decode cX6_change 30 = .ok (.iadd, 1) := by decide +kernel
theorem dX6_change_31 : decode cX6_change 31 = .ok (.aload_n 0, 1) := by decide +kernel
theorem dX6_change_32 : decode cX6_change 32 = .ok (.getfield 60, 3) := by decide +kernel
theorem dX6_change_35 : decode cX6_change 35 = .ok (.getfield 250, 3) := by decide +kernel
theorem dX6_change_38 : decode cX6_change 38 = .ok (.iload_n 1, 1) := by decide +kernel
theorem dX6_change_39 : decode cX6_change 39 = .ok (.iaload, 1) := by decide +kernel
theorem dX6_change_40 : decode cX6_change 40 = .ok (.if_icmp .gt 54, 3) := by decide +kernel
theorem dX6_change_43 : decode cX6_change 43 = .ok (.aload_n 0, 1) := by decide +kernel
theorem dX6_change_44 : decode cX6_change 44 = .ok (.aload_n 0, 1) := by decide +kernel
theorem dX6_change_45 : decode cX6_change 45 = .ok (.getfield 60, 3) := by decide +kernel
theorem dX6_change_48 : decode cX6_change 48 = .ok (.iload_n 1, 1) := by decide +kernel
theorem dX6_change_49 : decode cX6_change 49 = .ok (.iload_n 3, 1) := by decide +kernel
theorem dX6_change_50 : decode cX6_change 50 = .ok (.invokevirtual 271, 3) := by decide +kernel
theorem dX6_change_53 : decode cX6_change 53 = .ok (.aload_n 0, 1) := by decide +kernel
theorem dX6_change_54 : decode cX6_change 54 = .ok (.getfield 60, 3) := by decide +kernel
theorem dX6_change_57 : decode cX6_change 57 = .ok (.iload_n 1, 1) := by decide +kernel
theorem dX6_change_58 : decode cX6_change 58 = .ok (.iload_n 3, 1) := by decide +kernel
theorem dX6_change_59 : decode cX6_change 59 = .ok (.iconst 1, 1) := by decide +kernel
theorem dX6_change_60 : decode cX6_change 60 = .ok (.iadd, 1) := by decide +kernel
theorem dX6_change_61 : decode cX6_change 61 = .ok (.invokevirtual 271, 3) := by decide +kernel
theorem dX6_change_64 : decode cX6_change 64 = .ok (.aload_n 0, 1) := by decide +kernel
theorem dX6_change_65 : decode cX6_change 65 = .ok (.getfield 60, 3) := by decide +kernel
theorem dX6_change_68 : decode cX6_change 68 = .ok (.iload_n 1, 1) := by decide +kernel
theorem dX6_change_69 : decode cX6_change 69 = .ok (.iload_n 3, 1) := by decide +kernel
theorem dX6_change_70 : decode cX6_change 70 = .ok (.iconst 2, 1) := by decide +kernel
theorem dX6_change_71 : decode cX6_change 71 = .ok (.iadd, 1) := by decide +kernel
theorem dX6_change_72 : decode cX6_change 72 = .ok (.invokevirtual 271, 3) := by decide +kernel
theorem dX6_change_75 : decode cX6_change 75 = .ok (.invokevirtual 274, 3) := by decide +kernel
theorem dX6_change_78 : decode cX6_change 78 = .ok (.istore 4, 2) := by decide +kernel
theorem dX6_change_80 : decode cX6_change 80 = .ok (.iload 4, 2) := by decide +kernel
theorem dX6_change_82 : decode cX6_change 82 = .ok (.ifCond .lt 6, 3) := by decide +kernel
theorem dX6_change_85 : decode cX6_change 85 = .ok (.iinc 2 1, 3) := by decide +kernel
theorem dX6_change_88 : decode cX6_change 88 = .ok (.iinc 3 3, 3) := by decide +kernel
theorem dX6_change_91 : decode cX6_change 91 = .ok (.goto (-63), 3) := by decide +kernel
theorem dX6_change_94 : decode cX6_change 94 = .ok (.iload_n 2, 1) := by decide +kernel
theorem dX6_change_95 : decode cX6_change 95 = .ok (.ireturn, 1) := by decide +kernel
set_option maxRecDepth 20000 in
theorem ggX6_list_X6_within : GoodIn wsX6_list wsX6_within := goodIn_r _ [5] (by decide +kernel) (by decide +kernel)
set_option maxRecDepth 20000 in
theorem gX6_list_X6_within : GoodIn wsX6_list (va_wsS RX6 112 yX6_within wsX6_within) := goodIn_app (goodIn_of _ (by decide +kernel)) ggX6_list_X6_within
set_option maxRecDepth 20000 in
theorem ggX6_list_X1_clearTo : GoodIn wsX6_list wsX1_clearTo := goodIn_r _ [10, 11, 12, 3, 4, 5, 25, 26] (by decide +kernel) (by decide +kernel)
set_option maxRecDepth 20000 in
theorem gX6_list_X1_clearTo : GoodIn wsX6_list (wsV RX6 277 RX1 yX1_clearTo wsX1_clearTo) := goodIn_app (goodIn_of _ (by decide +kernel)) ggX6_list_X1_clearTo
theorem dX6_list_0 : decode cX6_list 0 = .ok (.iload_n 1, 1) := by decide +kernel
theorem dX6_list_1 : decode cX6_list 1 = .ok (.iconst 4, 1) := by decide +kernel
theorem dX6_list_2 : decode cX6_list 2 = .ok (.invokestatic 112, 3) := by decide +kernel
theorem dX6_list_5 : decode cX6_list 5 = .ok (.ifCond .ne 5, 3) := by decide +kernel
theorem dX6_list_8 : decode cX6_list 8 = .ok (.iconst (-1), 1) := by decide +kernel
theorem dX6_list_9 : decode cX6_list 9 = .ok (.ireturn, 1) := by decide +kernel
theorem dX6_list_10 : decode cX6_list 10 = .ok (.iload_n 2, 1) := by decide +kernel
theorem dX6_list_11 : decode cX6_list 11 = .ok (.bipush 18, 2) := by decide +kernel
theorem dX6_list_13 : decode cX6_list 13 = .ok (.if_icmp .le 6, 3) := by decide +kernel
theorem dX6_list_16 : decode cX6_list 16 = .ok (.bipush (-2), 2) := by decide +kernel
theorem dX6_list_18 : decode cX6_list 18 = .ok (.ireturn, 1) := by decide +kernel
theorem dX6_list_19 : decode cX6_list 19 = .ok (.iload_n 2, 1) := by decide +kernel
theorem dX6_list_20 : decode cX6_list 20 = .ok (.ifCond .ge 6, 3) := by decide +kernel
theorem dX6_list_23 : decode cX6_list 23 = .ok (.bipush (-14), 2) := by decide +kernel
theorem dX6_list_25 : decode cX6_list 25 = .ok (.ireturn, 1) := by decide +kernel
theorem dX6_list_26 : decode cX6_list 26 = .ok (.aload_n 0, 1) := by decide +kernel
theorem dX6_list_27 : decode cX6_list 27 = .ok (.getfield 60, 3) := by decide +kernel
theorem dX6_list_30 : decode cX6_list 30 = .ok (.iload_n 1, 1) := by decide +kernel
theorem dX6_list_31 : decode cX6_list 31 = .ok (.iload_n 2, 1) := by decide +kernel
theorem dX6_list_32 : decode cX6_list 32 = .ok (.invokevirtual 277, 3) := by decide +kernel
theorem dX6_list_35 : decode cX6_list 35 = .ok (.iconst 1, 1) := by decide +kernel
theorem dX6_list_36 : decode cX6_list 36 = .ok (.ireturn, 1) := by decide +kernel
set_option maxRecDepth 20000 in
theorem ggX6_put_X6_within : GoodIn wsX6_put wsX6_within := goodIn_r _ [6] (by decide +kernel) (by decide +kernel)
set_option maxRecDepth 20000 in
theorem gX6_put_X6_within : GoodIn wsX6_put (va_wsS RX6 112 yX6_within wsX6_within) := goodIn_app (goodIn_of _ (by decide +kernel)) ggX6_put_X6_within
set_option maxRecDepth 20000 in
theorem ggX6_put_X1_isHeld : GoodIn wsX6_put wsX1_isHeld := goodIn_r _ [11, 12, 4, 5, 6, 30, 31] (by decide +kernel) (by decide +kernel)
set_option maxRecDepth 20000 in
theorem gX6_put_X1_isHeld : GoodIn wsX6_put (wsV RX6 247 RX1 yX1_isHeld wsX1_isHeld) := goodIn_app (goodIn_of _ (by decide +kernel)) ggX6_put_X1_isHeld
set_option maxRecDepth 20000 in
theorem ggX6_put_X1_hasPlace : GoodIn wsX6_put wsX1_hasPlace := goodIn_r _ [16, 12, 17, 8, 9, 10, 11, 4, 5, 6, 30, 31] (by decide +kernel) (by decide +kernel)
set_option maxRecDepth 20000 in
theorem gX6_put_X1_hasPlace : GoodIn wsX6_put (wsV RX6 280 RX1 yX1_hasPlace wsX1_hasPlace) := goodIn_app (goodIn_of _ (by decide +kernel)) ggX6_put_X1_hasPlace
theorem dX6_put_0 : decode cX6_put 0 = .ok (.iload_n 1, 1) := by decide +kernel
theorem dX6_put_1 : decode cX6_put 1 = .ok (.iconst 4, 1) := by decide +kernel
theorem dX6_put_2 : decode cX6_put 2 = .ok (.invokestatic 112, 3) := by decide +kernel
theorem dX6_put_5 : decode cX6_put 5 = .ok (.ifCond .ne 5, 3) := by decide +kernel
theorem dX6_put_8 : decode cX6_put 8 = .ok (.iconst (-1), 1) := by decide +kernel
theorem dX6_put_9 : decode cX6_put 9 = .ok (.ireturn, 1) := by decide +kernel
theorem dX6_put_10 : decode cX6_put 10 = .ok (.aload_n 0, 1) := by decide +kernel
theorem dX6_put_11 : decode cX6_put 11 = .ok (.getfield 60, 3) := by decide +kernel
theorem dX6_put_14 : decode cX6_put 14 = .ok (.iload_n 1, 1) := by decide +kernel
theorem dX6_put_15 : decode cX6_put 15 = .ok (.invokevirtual 247, 3) := by decide +kernel
theorem dX6_put_18 : decode cX6_put 18 = .ok (.ifCond .ne 6, 3) := by decide +kernel
theorem dX6_put_21 : decode cX6_put 21 = .ok (.bipush (-11), 2) := by decide +kernel
theorem dX6_put_23 : decode cX6_put 23 = .ok (.ireturn, 1) := by decide +kernel
theorem dX6_put_24 : decode cX6_put 24 = .ok (.aload_n 0, 1) := by decide +kernel
theorem dX6_put_25 : decode cX6_put 25 = .ok (.getfield 60, 3) := by decide +kernel
theorem dX6_put_28 : decode cX6_put 28 = .ok (.iload_n 1, 1) := by decide +kernel
theorem dX6_put_29 : decode cX6_put 29 = .ok (.iload_n 2, 1) := by decide +kernel
theorem dX6_put_30 : decode cX6_put 30 = .ok (.invokevirtual 280, 3) := by decide +kernel
theorem dX6_put_33 : decode cX6_put 33 = .ok (.ifCond .ne 6, 3) := by decide +kernel
theorem dX6_put_36 : decode cX6_put 36 = .ok (.bipush (-13), 2) := by decide +kernel
theorem dX6_put_38 : decode cX6_put 38 = .ok (.ireturn, 1) := by decide +kernel
theorem dX6_put_39 : decode cX6_put 39 = .ok (.aload_n 0, 1) := by decide +kernel
theorem dX6_put_40 : decode cX6_put 40 = .ok (.getfield 60, 3) := by decide +kernel
theorem dX6_put_43 : decode cX6_put 43 = .ok (.getfield 283, 3) := by decide +kernel
theorem dX6_put_46 : decode cX6_put 46 = .ok (.iload_n 1, 1) := by decide +kernel
theorem dX6_put_47 : decode cX6_put 47 = .ok (.bipush 18, 2) := by decide +kernel
theorem dX6_put_49 : decode cX6_put 49 = .ok (.imul, 1) := by decide +kernel
theorem dX6_put_50 : decode cX6_put 50 = .ok (.iload_n 2, 1) := by decide +kernel
theorem dX6_put_51 : decode cX6_put 51 = .ok (.iadd, 1) := by decide +kernel
theorem dX6_put_52 : decode cX6_put 52 = .ok (.iload_n 3, 1) := by decide +kernel
theorem dX6_put_53 : decode cX6_put 53 = .ok (.iastore, 1) := by decide +kernel
theorem dX6_put_54 : decode cX6_put 54 = .ok (.iconst 1, 1) := by decide +kernel
theorem dX6_put_55 : decode cX6_put 55 = .ok (.ireturn, 1) := by decide +kernel
set_option maxRecDepth 20000 in
theorem ggX6_get_X6_within : GoodIn wsX6_get wsX6_within := goodIn_r _ [6] (by decide +kernel) (by decide +kernel)
set_option maxRecDepth 20000 in
theorem gX6_get_X6_within : GoodIn wsX6_get (va_wsS RX6 112 yX6_within wsX6_within) := goodIn_app (goodIn_of _ (by decide +kernel)) ggX6_get_X6_within
set_option maxRecDepth 20000 in
theorem ggX6_get_X1_hasPlace : GoodIn wsX6_get wsX1_hasPlace := goodIn_r _ [11, 12, 13, 14, 15, 10, 16, 4, 5, 6, 35, 36] (by decide +kernel) (by decide +kernel)
set_option maxRecDepth 20000 in
theorem gX6_get_X1_hasPlace : GoodIn wsX6_get (wsV RX6 280 RX1 yX1_hasPlace wsX1_hasPlace) := goodIn_app (goodIn_of _ (by decide +kernel)) ggX6_get_X1_hasPlace
set_option maxRecDepth 20000 in
theorem ggX6_get_X1_valueAt : GoodIn wsX6_get wsX1_valueAt := goodIn_r _ [20, 21, 22, 8, 9, 10, 11, 12, 13, 14, 15, 16, 4, 5, 6, 35, 36] (by decide +kernel) (by decide +kernel)
set_option maxRecDepth 20000 in
theorem gX6_get_X1_valueAt : GoodIn wsX6_get (wsV RX6 271 RX1 yX1_valueAt wsX1_valueAt) := goodIn_app (goodIn_of _ (by decide +kernel)) ggX6_get_X1_valueAt
theorem dX6_get_0 : decode cX6_get 0 = .ok (.iload_n 1, 1) := by decide +kernel
theorem dX6_get_1 : decode cX6_get 1 = .ok (.iconst 4, 1) := by decide +kernel
theorem dX6_get_2 : decode cX6_get 2 = .ok (.invokestatic 112, 3) := by decide +kernel
theorem dX6_get_5 : decode cX6_get 5 = .ok (.ifCond .eq 28, 3) := by decide +kernel
theorem dX6_get_8 : decode cX6_get 8 = .ok (.aload_n 0, 1) := by decide +kernel
theorem dX6_get_9 : decode cX6_get 9 = .ok (.getfield 60, 3) := by decide +kernel
theorem dX6_get_12 : decode cX6_get 12 = .ok (.iload_n 1, 1) := by decide +kernel
theorem dX6_get_13 : decode cX6_get 13 = .ok (.iload_n 2, 1) := by decide +kernel
theorem dX6_get_14 : decode cX6_get 14 = .ok (.invokevirtual 280, 3) := by decide +kernel
theorem dX6_get_17 : decode cX6_get 17 = .ok (.ifCond .eq 16, 3) := by decide +kernel
theorem dX6_get_20 : decode cX6_get 20 = .ok (.aload_n 0, 1) := by decide +kernel
theorem dX6_get_21 : decode cX6_get 21 = .ok (.getfield 60, 3) := by decide +kernel
theorem dX6_get_24 : decode cX6_get 24 = .ok (.iload_n 1, 1) := by decide +kernel
theorem dX6_get_25 : decode cX6_get 25 = .ok (.iload_n 2, 1) := by decide +kernel
theorem dX6_get_26 : decode cX6_get 26 = .ok (.invokevirtual 271, 3) := by decide +kernel
theorem dX6_get_29 : decode cX6_get 29 = .ok (.i2l, 1) := by decide +kernel
theorem dX6_get_30 : decode cX6_get 30 = .ok (.goto 6, 3) := by decide +kernel
theorem dX6_get_33 : decode cX6_get 33 = .ok (.ldc2_w 160, 3) := by decide +kernel
theorem dX6_get_36 : decode cX6_get 36 = .ok (.lreturn, 1) := by decide +kernel
set_option maxRecDepth 20000 in
theorem ggX6_image_X3_becomeLike : GoodIn wsX6_image wsX3_becomeLike := goodIn_r _ [9, 10, 11, 12, 13, 14, 15, 16, 17, 18, 19, 20, 21, 8, 22, 35, 36, 37, 38, 39, 40, 41, 42, 43, 44] (by decide +kernel) (by decide +kernel)
set_option maxRecDepth 20000 in
theorem gX6_image_X3_becomeLike : GoodIn wsX6_image (wsV RX6 286 RX3 yX3_becomeLike wsX3_becomeLike) := goodIn_app (goodIn_of _ (by decide +kernel)) ggX6_image_X3_becomeLike
theorem dX6_image_0 : decode cX6_image 0 = .ok (.aload_n 0, 1) := by decide +kernel
theorem dX6_image_1 : decode cX6_image 1 = .ok (.getfield 18, 3) := by decide +kernel
theorem dX6_image_4 : decode cX6_image 4 = .ok (.aload_n 0, 1) := by decide +kernel
theorem dX6_image_5 : decode cX6_image 5 = .ok (.getfield 12, 3) := by decide +kernel
theorem dX6_image_8 : decode cX6_image 8 = .ok (.invokevirtual 286, 3) := by decide +kernel
theorem dX6_image_11 : decode cX6_image 11 = .ok (.aload_n 0, 1) := by decide +kernel
theorem dX6_image_12 : decode cX6_image 12 = .ok (.iconst 1, 1) := by decide +kernel
theorem dX6_image_13 : decode cX6_image 13 = .ok (.putfield 21, 3) := by decide +kernel
theorem dX6_image_16 : decode cX6_image 16 = .ok (.aload_n 0, 1) := by decide +kernel
theorem dX6_image_17 : decode cX6_image 17 = .ok (.getfield 12, 3) := by decide +kernel
theorem dX6_image_20 : decode cX6_image 20 = .ok (.getfield 90, 3) := by decide +kernel
theorem dX6_image_23 : decode cX6_image 23 = .ok (.ireturn, 1) := by decide +kernel
set_option maxRecDepth 20000 in
theorem ggX6_undo_X3_becomeLike : GoodIn wsX6_undo wsX3_becomeLike := goodIn_r _ [9, 10, 11, 12, 13, 14, 15, 16, 17, 18, 19, 20, 21, 8, 22, 35, 36, 37, 38, 39, 40, 41, 42, 43, 44] (by decide +kernel) (by decide +kernel)
set_option maxRecDepth 20000 in
theorem gX6_undo_X3_becomeLike : GoodIn wsX6_undo (wsV RX6 286 RX3 yX3_becomeLike wsX3_becomeLike) := goodIn_app (goodIn_of _ (by decide +kernel)) ggX6_undo_X3_becomeLike
theorem dX6_undo_0 : decode cX6_undo 0 = .ok (.aload_n 0, 1) := by decide +kernel
theorem dX6_undo_1 : decode cX6_undo 1 = .ok (.getfield 21, 3) := by decide +kernel
theorem dX6_undo_4 : decode cX6_undo 4 = .ok (.ifCond .ne 6, 3) := by decide +kernel
theorem dX6_undo_7 : decode cX6_undo 7 = .ok (.bipush (-3), 2) := by decide +kernel
theorem dX6_undo_9 : decode cX6_undo 9 = .ok (.ireturn, 1) := by decide +kernel
theorem dX6_undo_10 : decode cX6_undo 10 = .ok (.aload_n 0, 1) := by decide +kernel
theorem dX6_undo_11 : decode cX6_undo 11 = .ok (.getfield 12, 3) := by decide +kernel
theorem dX6_undo_14 : decode cX6_undo 14 = .ok (.aload_n 0, 1) := by decide +kernel
theorem dX6_undo_15 : decode cX6_undo 15 = .ok (.getfield 18, 3) := by decide +kernel
theorem dX6_undo_18 : decode cX6_undo 18 = .ok (.invokevirtual 286, 3) := by decide +kernel
theorem dX6_undo_21 : decode cX6_undo 21 = .ok (.aload_n 0, 1) := by decide +kernel
theorem dX6_undo_22 : decode cX6_undo 22 = .ok (.getfield 12, 3) := by decide +kernel
theorem dX6_undo_25 : decode cX6_undo 25 = .ok (.getfield 90, 3) := by decide +kernel
theorem dX6_undo_28 : decode cX6_undo 28 = .ok (.ireturn, 1) := by decide +kernel
set_option maxRecDepth 20000 in
theorem ggX6_count_X3_sheetsLaid : GoodIn wsX6_count wsX3_sheetsLaid := goodIn_r _ [13, 14, 15, 32, 33, 34, 35, 36, 37, 38, 39, 40, 41] (by decide +kernel) (by decide +kernel)
set_option maxRecDepth 20000 in
theorem gX6_count_X3_sheetsLaid : GoodIn wsX6_count (wsV RX6 289 RX3 yX3_sheetsLaid wsX3_sheetsLaid) := goodIn_app (goodIn_of _ (by decide +kernel)) ggX6_count_X3_sheetsLaid
set_option maxRecDepth 20000 in
theorem ggX6_count_X6_within : GoodIn wsX6_count wsX6_within := goodIn_r _ [19] (by decide +kernel) (by decide +kernel)
set_option maxRecDepth 20000 in
theorem gX6_count_X6_within : GoodIn wsX6_count (va_wsS RX6 112 yX6_within wsX6_within) := goodIn_app (goodIn_of _ (by decide +kernel)) ggX6_count_X6_within
theorem dX6_count_0 : decode cX6_count 0 = .ok (.iload_n 1, 1) := by decide +kernel
theorem dX6_count_1 : decode cX6_count 1 = .ok (.ifCond .ne 11, 3) := by decide +kernel
theorem dX6_count_4 : decode cX6_count 4 = .ok (.aload_n 0, 1) := by decide +kernel
theorem dX6_count_5 : decode cX6_count 5 = .ok (.getfield 12, 3) := by decide +kernel
theorem dX6_count_8 : decode cX6_count 8 = .ok (.getfield 90, 3) := by decide +kernel
theorem dX6_count_11 : decode cX6_count 11 = .ok (.ireturn, 1) := by decide +kernel
theorem dX6_count_12 : decode cX6_count 12 = .ok (.iload_n 1, 1) := by decide +kernel
theorem dX6_count_13 : decode cX6_count 13 = .ok (.iconst 1, 1) := by decide +kernel
theorem dX6_count_14 : decode cX6_count 14 = .ok (.if_icmp .ne 11, 3) := by decide +kernel
theorem dX6_count_17 : decode cX6_count 17 = .ok (.aload_n 0, 1) := by decide +kernel
theorem dX6_count_18 : decode cX6_count 18 = .ok (.getfield 12, 3) := by decide +kernel
theorem dX6_count_21 : decode cX6_count 21 = .ok (.getfield 199, 3) := by decide +kernel
theorem dX6_count_24 : decode cX6_count 24 = .ok (.ireturn, 1) := by decide +kernel
theorem dX6_count_25 : decode cX6_count 25 = .ok (.iload_n 1, 1) := by decide +kernel
theorem dX6_count_26 : decode cX6_count 26 = .ok (.iconst 2, 1) := by decide +kernel
theorem dX6_count_27 : decode cX6_count 27 = .ok (.if_icmp .ne 11, 3) := by decide +kernel
theorem dX6_count_30 : decode cX6_count 30 = .ok (.aload_n 0, 1) := by decide +kernel
theorem dX6_count_31 : decode cX6_count 31 = .ok (.getfield 46, 3) := by decide +kernel
theorem dX6_count_34 : decode cX6_count 34 = .ok (.getfield 82, 3) := by decide +kernel
theorem dX6_count_37 : decode cX6_count 37 = .ok (.ireturn, 1) := by decide +kernel
theorem dX6_count_38 : decode cX6_count 38 = .ok (.iload_n 1, 1) := by decide +kernel
theorem dX6_count_39 : decode cX6_count 39 = .ok (.iconst 3, 1) := by decide +kernel
theorem dX6_count_40 : decode cX6_count 40 = .ok (.if_icmp .ne 11, 3) := by decide +kernel
theorem dX6_count_43 : decode cX6_count 43 = .ok (.aload_n 0, 1) := by decide +kernel
theorem dX6_count_44 : decode cX6_count 44 = .ok (.getfield 53, 3) := by decide +kernel
theorem dX6_count_47 : decode cX6_count 47 = .ok (.getfield 267, 3) := by decide +kernel
theorem dX6_count_50 : decode cX6_count 50 = .ok (.ireturn, 1) := by decide +kernel
theorem dX6_count_51 : decode cX6_count 51 = .ok (.iload_n 1, 1) := by decide +kernel
theorem dX6_count_52 : decode cX6_count 52 = .ok (.iconst 4, 1) := by decide +kernel
theorem dX6_count_53 : decode cX6_count 53 = .ok (.if_icmp .ne 11, 3) := by decide +kernel
theorem dX6_count_56 : decode cX6_count 56 = .ok (.aload_n 0, 1) := by decide +kernel
theorem dX6_count_57 : decode cX6_count 57 = .ok (.getfield 12, 3) := by decide +kernel
theorem dX6_count_60 : decode cX6_count 60 = .ok (.invokevirtual 289, 3) := by decide +kernel
theorem dX6_count_63 : decode cX6_count 63 = .ok (.ireturn, 1) := by decide +kernel
theorem dX6_count_64 : decode cX6_count 64 = .ok (.iload_n 1, 1) := by decide +kernel
theorem dX6_count_65 : decode cX6_count 65 = .ok (.iconst 5, 1) := by decide +kernel
theorem dX6_count_66 : decode cX6_count 66 = .ok (.isub, 1) := by decide +kernel
theorem dX6_count_67 : decode cX6_count 67 = .ok (.iconst 3, 1) := by decide +kernel
theorem dX6_count_68 : decode cX6_count 68 = .ok (.invokestatic 112, 3) := by decide +kernel
theorem dX6_count_71 : decode cX6_count 71 = .ok (.ifCond .eq 17, 3) := by decide +kernel
theorem dX6_count_74 : decode cX6_count 74 = .ok (.aload_n 0, 1) := by decide +kernel
theorem dX6_count_75 : decode cX6_count 75 = .ok (.getfield 12, 3) := by decide +kernel
theorem dX6_count_78 : decode cX6_count 78 = .ok (.getfield 208, 3) := by decide +kernel
theorem dX6_count_81 : decode cX6_count 81 = .ok (.iload_n 1, 1) := by decide +kernel
theorem dX6_count_82 : decode cX6_count 82 = .ok (.iconst 5, 1) := by decide +kernel
theorem dX6_count_83 : decode cX6_count 83 = .ok (.isub, 1) := by decide +kernel
theorem dX6_count_84 : decode cX6_count 84 = .ok (.iaload, 1) := by decide +kernel
theorem dX6_count_85 : decode cX6_count 85 = .ok (.goto 5, 3) := by decide +kernel
theorem dX6_count_88 : decode cX6_count 88 = .ok (.bipush (-2), 2) := by decide +kernel
theorem dX6_count_90 : decode cX6_count 90 = .ok (.ireturn, 1) := by decide +kernel
set_option maxRecDepth 20000 in
theorem ggX6_canSee_X3_hasStack : GoodIn wsX6_canSee wsX3_hasStack := goodIn_r _ [6, 7, 8, 9, 10, 24, 25, 26, 27, 28, 29, 30, 31, 32, 33] (by decide +kernel) (by decide +kernel)
set_option maxRecDepth 20000 in
theorem gX6_canSee_X3_hasStack : GoodIn wsX6_canSee (wsV RX6 141 RX3 yX3_hasStack wsX3_hasStack) := goodIn_app (goodIn_of _ (by decide +kernel)) ggX6_canSee_X3_hasStack
set_option maxRecDepth 20000 in
theorem ggX6_canSee_X6_within : GoodIn wsX6_canSee wsX6_within := goodIn_r _ [10] (by decide +kernel) (by decide +kernel)
set_option maxRecDepth 20000 in
theorem gX6_canSee_X6_within : GoodIn wsX6_canSee (va_wsS RX6 112 yX6_within wsX6_within) := goodIn_app (goodIn_of _ (by decide +kernel)) ggX6_canSee_X6_within
theorem dX6_canSee_0 : decode cX6_canSee 0 = .ok (.aload_n 0, 1) := by decide +kernel
theorem dX6_canSee_1 : decode cX6_canSee 1 = .ok (.getfield 12, 3) := by decide +kernel
theorem dX6_canSee_4 : decode cX6_canSee 4 = .ok (.iload_n 1, 1) := by decide +kernel
theorem dX6_canSee_5 : decode cX6_canSee 5 = .ok (.invokevirtual 141, 3) := by decide +kernel
theorem dX6_canSee_8 : decode cX6_canSee 8 = .ok (.ifCond .eq 24, 3) := by decide +kernel
theorem dX6_canSee_11 : decode cX6_canSee 11 = .ok (.iload_n 2, 1) := by decide +kernel
theorem dX6_canSee_12 : decode cX6_canSee 12 = .ok (.iconst 3, 1) := by decide +kernel
theorem dX6_canSee_13 : decode cX6_canSee 13 = .ok (.invokestatic 112, 3) := by decide +kernel
theorem dX6_canSee_16 : decode cX6_canSee 16 = .ok (.ifCond .eq 16, 3) := by decide +kernel
theorem dX6_canSee_19 : decode cX6_canSee 19 = .ok (.iload_n 3, 1) := by decide +kernel
theorem dX6_canSee_20 : decode cX6_canSee 20 = .ok (.bipush 11, 2) := by decide +kernel
theorem dX6_canSee_22 : decode cX6_canSee 22 = .ok (.invokestatic 112, 3) := by decide +kernel
theorem dX6_canSee_25 : decode cX6_canSee 25 = .ok (.ifCond .eq 7, 3) := by decide +kernel
theorem dX6_canSee_28 : decode cX6_canSee 28 = .ok (.iconst 1, 1) := by decide +kernel
theorem dX6_canSee_29 : decode cX6_canSee 29 = .ok (.goto 4, 3) := by decide +kernel
theorem dX6_canSee_32 : decode cX6_canSee 32 = .ok (.iconst 0, 1) := by decide +kernel
theorem dX6_canSee_33 : decode cX6_canSee 33 = .ok (.ireturn, 1) := by decide +kernel
set_option maxRecDepth 20000 in
theorem ggX6_looksAlike_X0_pileStack : GoodIn wsX6_looksAlike wsX0_pileStack := goodIn_r _ [8, 9, 10, 11, 7, 12, 13, 14, 15, 16, 17, 18, 19, 20, 21, 22, 23, 24, 25, 26, 27, 28, 29, 30, 31, 32, 33, 34, 35, 36, 37, 38, 39, 40, 41, 42, 68, 69, 70, 71, 72, 73, 74, 75, 76, 77, 78, 79, 80, 81, 82] (by decide +kernel) (by decide +kernel)
set_option maxRecDepth 20000 in
theorem gX6_looksAlike_X0_pileStack : GoodIn wsX6_looksAlike (wsV RX6 165 RX0 yX0_pileStack wsX0_pileStack) := goodIn_app (goodIn_of _ (by decide +kernel)) ggX6_looksAlike_X0_pileStack
set_option maxRecDepth 20000 in
theorem ggX6_looksAlike_X0_seenInto : GoodIn wsX6_looksAlike wsX0_seenInto := goodIn_r _ [46, 21, 42, 47, 48, 49, 7, 50, 13, 51, 52, 19, 28, 29, 30, 53, 54, 55, 68, 69, 70, 71, 72, 73, 74, 75, 76, 77, 78, 79, 80, 81, 82] (by decide +kernel) (by decide +kernel)
set_option maxRecDepth 20000 in
theorem gX6_looksAlike_X0_seenInto : GoodIn wsX6_looksAlike (wsV RX6 292 RX0 yX0_seenInto wsX0_seenInto) := goodIn_app (goodIn_of _ (by decide +kernel)) ggX6_looksAlike_X0_seenInto
theorem dX6_looksAlike_0 : decode cX6_looksAlike 0 = .ok (.aload_n 0, 1) := by decide +kernel
theorem dX6_looksAlike_1 : decode cX6_looksAlike 1 = .ok (.getfield 30, 3) := by decide +kernel
theorem dX6_looksAlike_4 : decode cX6_looksAlike 4 = .ok (.iload_n 1, 1) := by decide +kernel
theorem dX6_looksAlike_5 : decode cX6_looksAlike 5 = .ok (.invokevirtual 165, 3) := by decide +kernel
theorem dX6_looksAlike_8 : decode cX6_looksAlike 8 = .ok (.aload_n 0, 1) := by decide +kernel
theorem dX6_looksAlike_9 : decode cX6_looksAlike 9 = .ok (.getfield 30, 3) := by decide +kernel
theorem dX6_looksAlike_12 : decode cX6_looksAlike 12 = .ok (.aload_n 0, 1) := by decide +kernel
theorem dX6_looksAlike_13 : decode cX6_looksAlike 13 = .ok (.getfield 71, 3) := by decide +kernel
theorem dX6_looksAlike_16 : decode cX6_looksAlike 16 = .ok (.iload_n 3, 1) := by decide +kernel
theorem dX6_looksAlike_17 : decode cX6_looksAlike 17 = .ok (.invokevirtual 292, 3) := by decide +kernel
theorem dX6_looksAlike_20 : decode cX6_looksAlike 20 = .ok (.aload_n 0, 1) := by decide +kernel
theorem dX6_looksAlike_21 : decode cX6_looksAlike 21 = .ok (.getfield 30, 3) := by decide +kernel
theorem dX6_looksAlike_24 : decode cX6_looksAlike 24 = .ok (.iload_n 2, 1) := by decide +kernel
theorem dX6_looksAlike_25 : decode cX6_looksAlike 25 = .ok (.invokevirtual 165, 3) := by decide +kernel
theorem dX6_looksAlike_28 : decode cX6_looksAlike 28 = .ok (.aload_n 0, 1) := by decide +kernel
theorem dX6_looksAlike_29 : decode cX6_looksAlike 29 = .ok (.getfield 30, 3) := by decide +kernel
theorem dX6_looksAlike_32 : decode cX6_looksAlike 32 = .ok (.aload_n 0, 1) := by decide +kernel
theorem dX6_looksAlike_33 : decode cX6_looksAlike 33 = .ok (.getfield 75, 3) := by decide +kernel
theorem dX6_looksAlike_36 : decode cX6_looksAlike 36 = .ok (.iload_n 3, 1) := by decide +kernel
theorem dX6_looksAlike_37 : decode cX6_looksAlike 37 = .ok (.invokevirtual 292, 3) := by decide +kernel
theorem dX6_looksAlike_40 : decode cX6_looksAlike 40 = .ok (.iconst 0, 1) := by decide +kernel
theorem dX6_looksAlike_41 : decode cX6_looksAlike 41 = .ok (.istore 4, 2) := by decide +kernel
theorem dX6_looksAlike_43 : decode cX6_looksAlike 43 = .ok (.iload 4, 2) := by decide +kernel
theorem dX6_looksAlike_45 : decode cX6_looksAlike 45 = .ok (.iconst 3, 1) := by decide +kernel
theorem dX6_looksAlike_46 : decode cX6_looksAlike 46 = .ok (.if_icmp .ge 29, 3) := by decide +kernel
theorem dX6_looksAlike_49 : decode cX6_looksAlike 49 = .ok (.aload_n 0, 1) := by decide +kernel
theorem dX6_looksAlike_50 : decode cX6_looksAlike 50 = .ok (.getfield 71, 3) := by decide +kernel
theorem dX6_looksAlike_53 : decode cX6_looksAlike 53 = .ok (.iload 4, 2) := by decide +kernel
theorem dX6_looksAlike_55 : decode cX6_looksAlike 55 = .ok (.laload, 1) := by decide +kernel
theorem dX6_looksAlike_56 : decode cX6_looksAlike 56 = .ok (.aload_n 0, 1) := by decide +kernel
theorem dX6_looksAlike_57 : decode cX6_looksAlike 57 = .ok (.getfield 75, 3) := by decide +kernel
theorem dX6_looksAlike_60 : decode cX6_looksAlike 60 = .ok (.iload 4, 2) := by decide +kernel
theorem dX6_looksAlike_62 : decode cX6_looksAlike 62 = .ok (.laload, 1) := by decide +kernel
theorem dX6_looksAlike_63 : decode cX6_looksAlike 63 = .ok (.lcmp, 1) := by decide +kernel
theorem dX6_looksAlike_64 : decode cX6_looksAlike 64 = .ok (.ifCond .eq 5, 3) := by decide +kernel
theorem dX6_looksAlike_67 : decode cX6_looksAlike 67 = .ok (.iconst 0, 1) := by decide +kernel
theorem dX6_looksAlike_68 : decode cX6_looksAlike 68 = .ok (.ireturn, 1) := by decide +kernel
theorem dX6_looksAlike_69 : decode cX6_looksAlike 69 = .ok (.iinc 4 1, 3) := by decide +kernel
theorem dX6_looksAlike_72 : decode cX6_looksAlike 72 = .ok (.goto (-29), 3) := by decide +kernel
theorem dX6_looksAlike_75 : decode cX6_looksAlike 75 = .ok (.iconst 1, 1) := by decide +kernel
theorem dX6_looksAlike_76 : decode cX6_looksAlike 76 = .ok (.ireturn, 1) := by decide +kernel
set_option maxRecDepth 20000 in
theorem ggX6_isFalsePair_X6_looksAlike : GoodIn wsX6_isFalsePair wsX6_looksAlike := goodIn_r _ [5, 6, 7, 8, 9, 10, 11, 12, 13, 14, 15, 16, 17, 18, 19, 20, 21, 22, 23, 24, 25, 26, 27, 28, 29, 30, 31, 32, 33, 4, 34, 35, 36, 37, 38, 39, 40, 41, 42, 43, 44, 45, 46, 47, 48, 49, 50, 51, 52, 53, 54, 55, 56, 57, 58, 59, 60, 61, 62, 63, 64, 65, 66, 67, 68, 69, 70, 71, 72, 73, 74, 75, 76, 77, 78, 79, 80, 81, 82, 83, 84, 85, 86] (by decide +kernel) (by decide +kernel)
set_option maxRecDepth 20000 in
theorem gX6_isFalsePair_X6_looksAlike : GoodIn wsX6_isFalsePair (wsV RX6 196 RX6 yX6_looksAlike wsX6_looksAlike) := goodIn_app (goodIn_of _ (by decide +kernel)) ggX6_isFalsePair_X6_looksAlike
theorem dX6_isFalsePair_0 : decode cX6_isFalsePair 0 = .ok (.aload_n 0, 1) := by decide +kernel
theorem dX6_isFalsePair_1 : decode cX6_isFalsePair 1 = .ok (.iload_n 1, 1) := by decide +kernel
theorem dX6_isFalsePair_2 : decode cX6_isFalsePair 2 = .ok (.iload_n 2, 1) := by decide +kernel
theorem dX6_isFalsePair_3 : decode cX6_isFalsePair 3 = .ok (.iload_n 3, 1) := by decide +kernel
theorem dX6_isFalsePair_4 : decode cX6_isFalsePair 4 = .ok (.invokevirtual 196, 3) := by decide +kernel
theorem dX6_isFalsePair_7 : decode cX6_isFalsePair 7 = .ok (.ifCond .ne 5, 3) := by decide +kernel
theorem dX6_isFalsePair_10 : decode cX6_isFalsePair 10 = .ok (.iconst 0, 1) := by decide +kernel
theorem dX6_isFalsePair_11 : decode cX6_isFalsePair 11 = .ok (.ireturn, 1) := by decide +kernel
theorem dX6_isFalsePair_12 : decode cX6_isFalsePair 12 = .ok (.iconst 0, 1) := by decide +kernel
theorem dX6_isFalsePair_13 : decode cX6_isFalsePair 13 = .ok (.istore 4, 2) := by decide +kernel
theorem dX6_isFalsePair_15 : decode cX6_isFalsePair 15 = .ok (.iload 4, 2) := by decide +kernel
theorem dX6_isFalsePair_17 : decode cX6_isFalsePair 17 = .ok (.iconst 3, 1) := by decide +kernel
theorem dX6_isFalsePair_18 : decode cX6_isFalsePair 18 = .ok (.if_icmp .ge 22, 3) := by decide +kernel
theorem dX6_isFalsePair_21 : decode cX6_isFalsePair 21 = .ok (.aload_n 0, 1) := by decide +kernel
theorem dX6_isFalsePair_22 : decode cX6_isFalsePair 22 = .ok (.iload_n 1, 1) := by decide +kernel
theorem dX6_isFalsePair_23 : decode cX6_isFalsePair 23 = .ok (.iload_n 2, 1) := by decide +kernel
theorem dX6_isFalsePair_24 : decode cX6_isFalsePair 24 = .ok (.iload 4, 2) := by decide +kernel
theorem dX6_isFalsePair_26 : decode cX6_isFalsePair 26 = .ok (.invokevirtual 196, 3) := by decide +kernel
theorem dX6_isFalsePair_29 : decode cX6_isFalsePair 29 = .ok (.ifCond .ne 5, 3) := by decide +kernel
theorem dX6_isFalsePair_32 : decode cX6_isFalsePair 32 = .ok (.iconst 1, 1) := by decide +kernel
theorem dX6_isFalsePair_33 : decode cX6_isFalsePair 33 = .ok (.ireturn, 1) := by decide +kernel
theorem dX6_isFalsePair_34 : decode cX6_isFalsePair 34 = .ok (.iinc 4 1, 3) := by decide +kernel
theorem dX6_isFalsePair_37 : decode cX6_isFalsePair 37 = .ok (.goto (-22), 3) := by decide +kernel
theorem dX6_isFalsePair_40 : decode cX6_isFalsePair 40 = .ok (.iconst 0, 1) := by decide +kernel
theorem dX6_isFalsePair_41 : decode cX6_isFalsePair 41 = .ok (.ireturn, 1) := by decide +kernel
set_option maxRecDepth 20000 in
theorem ggX6_brightness_X0_pileStack : GoodIn wsX6_brightness wsX0_pileStack := goodIn_r _ [7, 8, 9, 10, 6, 11, 12, 13, 14, 15, 16, 17, 18, 19, 20, 21, 22, 23, 24, 25, 26, 27, 28, 29, 30, 31, 32, 33, 34, 35, 36, 37, 38, 39, 40, 41, 67, 68, 69, 70, 71, 72, 73, 74, 75, 76, 77, 78, 79, 80, 81] (by decide +kernel) (by decide +kernel)
set_option maxRecDepth 20000 in
theorem gX6_brightness_X0_pileStack : GoodIn wsX6_brightness (wsV RX6 165 RX0 yX0_pileStack wsX0_pileStack) := goodIn_app (goodIn_of _ (by decide +kernel)) ggX6_brightness_X0_pileStack
set_option maxRecDepth 20000 in
theorem ggX6_brightness_X0_seenInto : GoodIn wsX6_brightness wsX0_seenInto := goodIn_r _ [45, 20, 41, 46, 47, 48, 6, 49, 12, 50, 51, 18, 27, 28, 29, 52, 53, 54, 67, 68, 69, 70, 71, 72, 73, 74, 75, 76, 77, 78, 79, 80, 81] (by decide +kernel) (by decide +kernel)
set_option maxRecDepth 20000 in
theorem gX6_brightness_X0_seenInto : GoodIn wsX6_brightness (wsV RX6 292 RX0 yX0_seenInto wsX0_seenInto) := goodIn_app (goodIn_of _ (by decide +kernel)) ggX6_brightness_X0_seenInto
theorem dX6_brightness_0 : decode cX6_brightness 0 = .ok (.aload_n 0, 1) := by decide +kernel
theorem dX6_brightness_1 : decode cX6_brightness 1 = .ok (.getfield 30, 3) := by decide +kernel
theorem dX6_brightness_4 : decode cX6_brightness 4 = .ok (.iload_n 1, 1) := by decide +kernel
theorem dX6_brightness_5 : decode cX6_brightness 5 = .ok (.invokevirtual 165, 3) := by decide +kernel
theorem dX6_brightness_8 : decode cX6_brightness 8 = .ok (.aload_n 0, 1) := by decide +kernel
theorem dX6_brightness_9 : decode cX6_brightness 9 = .ok (.getfield 30, 3) := by decide +kernel
theorem dX6_brightness_12 : decode cX6_brightness 12 = .ok (.aload_n 0, 1) := by decide +kernel
theorem dX6_brightness_13 : decode cX6_brightness 13 = .ok (.getfield 71, 3) := by decide +kernel
theorem dX6_brightness_16 : decode cX6_brightness 16 = .ok (.iload_n 2, 1) := by decide +kernel
theorem dX6_brightness_17 : decode cX6_brightness 17 = .ok (.invokevirtual 292, 3) := by decide +kernel
theorem dX6_brightness_20 : decode cX6_brightness 20 = .ok (.lconst 0, 1) := by decide +kernel
theorem dX6_brightness_21 : decode cX6_brightness 21 = .ok (.lstore_n 3, 1) := by decide +kernel
theorem dX6_brightness_22 : decode cX6_brightness 22 = .ok (.iconst 0, 1) := by decide +kernel
theorem dX6_brightness_23 : decode cX6_brightness 23 = .ok (.istore 5, 2) := by decide +kernel
theorem dX6_brightness_25 : decode cX6_brightness 25 = .ok (.iload 5, 2) := by decide +kernel
theorem dX6_brightness_27 : decode cX6_brightness 27 = .ok (.iconst 3, 1) := by decide +kernel
theorem dX6_brightness_28 : decode cX6_brightness 28 = .ok (.if_icmp .ge 19, 3) := by decide +kernel
theorem dX6_brightness_31 : decode cX6_brightness 31 = .ok (.lload_n 3, 1) := by decide +kernel
theorem dX6_brightness_32 : decode cX6_brightness 32 = .ok (.aload_n 0, 1) := by decide +kernel
theorem dX6_brightness_33 : decode cX6_brightness 33 = .ok (.getfield 71, 3) := by decide +kernel
theorem dX6_brightness_36 : decode cX6_brightness 36 = .ok (.iload 5, 2) := by decide +kernel
theorem dX6_brightness_38 : decode cX6_brightness 38 = .ok (.laload, 1) := by decide +kernel
theorem dX6_brightness_39 : decode cX6_brightness 39 = .ok (.ladd, 1) := by decide +kernel
theorem dX6_brightness_40 : decode cX6_brightness 40 = .ok (.lstore_n 3, 1) := by decide +kernel
theorem dX6_brightness_41 : decode cX6_brightness 41 = .ok (.iinc 5 1, 3) := by decide +kernel
theorem dX6_brightness_44 : decode cX6_brightness 44 = .ok (.goto (-19), 3) := by decide +kernel
theorem dX6_brightness_47 : decode cX6_brightness 47 = .ok (.lload_n 3, 1) := by decide +kernel
theorem dX6_brightness_48 : decode cX6_brightness 48 = .ok (.lreturn, 1) := by decide +kernel
set_option maxRecDepth 20000 in
theorem ggX6_brighterThan_X6_brightness : GoodIn wsX6_brighterThan wsX6_brightness := goodIn_r _ [7, 8, 9, 10, 11, 12, 13, 14, 15, 16, 17, 18, 19, 20, 21, 22, 23, 24, 25, 26, 27, 28, 29, 30, 31, 32, 33, 34, 6, 35, 36, 37, 38, 39, 40, 41, 42, 43, 44, 45, 46, 47, 48, 49, 50, 51, 52, 53, 54, 55, 56, 57, 58, 59, 60, 61, 62, 63, 64, 65, 66, 67, 68, 69, 70, 71, 72, 83, 84, 85, 86, 87, 73, 74, 75, 76, 77, 78, 79, 80, 81, 82] (by decide +kernel) (by decide +kernel)
set_option maxRecDepth 20000 in
theorem gX6_brighterThan_X6_brightness : GoodIn wsX6_brighterThan (wsV RX6 296 RX6 yX6_brightness wsX6_brightness) := goodIn_app (goodIn_of _ (by decide +kernel)) ggX6_brighterThan_X6_brightness
theorem dX6_brighterThan_0 : decode cX6_brighterThan 0 = .ok (.aload_n 0, 1) := by decide +kernel
theorem dX6_brighterThan_1 : decode cX6_brighterThan 1 = .ok (.iload_n 1, 1) := by decide +kernel
theorem dX6_brighterThan_2 : decode cX6_brighterThan 2 = .ok (.iload_n 2, 1) := by decide +kernel
theorem dX6_brighterThan_3 : decode cX6_brighterThan 3 = .ok (.invokevirtual 296, 3) := by decide +kernel
theorem dX6_brighterThan_6 : decode cX6_brighterThan 6 = .ok (.lstore_n 3, 1) := by decide +kernel
theorem dX6_brighterThan_7 : decode cX6_brighterThan 7 = .ok (.iconst 0, 1) := by decide +kernel
theorem dX6_brighterThan_8 : decode cX6_brighterThan 8 = .ok (.istore 5, 2) := by decide +kernel
theorem dX6_brighterThan_10 : decode cX6_brighterThan 10 = .ok (.iconst 0, 1) := by decide +kernel
theorem dX6_brighterThan_11 : decode cX6_brighterThan 11 = .ok (.istore 6, 2) := by decide +kernel
theorem dX6_brighterThan_13 : decode cX6_brighterThan 13 = .ok (.iload 6, 2) := by decide +kernel
theorem dX6_brighterThan_15 : decode cX6_brighterThan 15 = .ok (.aload_n 0, 1) := by decide +kernel
theorem dX6_brighterThan_16 : decode cX6_brighterThan 16 = .ok (.getfield 12, 3) := by decide +kernel
theorem dX6_brighterThan_19 : decode cX6_brighterThan 19 = .ok (.getfield 199, 3) := by decide +kernel
theorem dX6_brighterThan_22 : decode cX6_brighterThan 22 = .ok (.if_icmp .ge 41, 3) := by decide +kernel
theorem dX6_brighterThan_25 : decode cX6_brighterThan 25 = .ok (.aload_n 0, 1) := by decide +kernel
theorem dX6_brighterThan_26 : decode cX6_brighterThan 26 = .ok (.iload 6, 2) := by decide +kernel
theorem dX6_brighterThan_28 : decode cX6_brighterThan 28 = .ok (.iload_n 2, 1) := by decide +kernel
theorem dX6_brighterThan_29 : decode cX6_brighterThan 29 = .ok (.invokevirtual 296, 3) := by decide +kernel
theorem dX6_brighterThan_32 : decode cX6_brighterThan 32 = .ok (.lstore 7, 2) := by decide +kernel
theorem dX6_brighterThan_34 : decode cX6_brighterThan 34 = .ok (.lload 7, 2) := by decide +kernel
theorem dX6_brighterThan_36 : decode cX6_brighterThan 36 = .ok (.lload_n 3, 1) := by decide +kernel
theorem dX6_brighterThan_37 : decode cX6_brighterThan 37 = .ok (.lcmp, 1) := by decide +kernel
theorem dX6_brighterThan_38 : decode cX6_brighterThan 38 = .ok (.ifCond .gt 16, 3) := by decide +kernel
theorem dX6_brighterThan_41 : decode cX6_brighterThan 41 = .ok (.lload 7, 2) := by decide +kernel
theorem dX6_brighterThan_43 : decode cX6_brighterThan 43 = .ok (.lload_n 3, 1) := by decide +kernel
theorem dX6_brighterThan_44 : decode cX6_brighterThan 44 = .ok (.lcmp, 1) := by decide +kernel
theorem dX6_brighterThan_45 : decode cX6_brighterThan 45 = .ok (.ifCond .ne 12, 3) := by decide +kernel
theorem dX6_brighterThan_48 : decode cX6_brighterThan 48 = .ok (.iload 6, 2) := by decide +kernel
theorem dX6_brighterThan_50 : decode cX6_brighterThan 50 = .ok (.iload_n 1, 1) := by decide +kernel
theorem dX6_brighterThan_51 : decode cX6_brighterThan 51 = .ok (.if_icmp .ge 6, 3) := by decide +kernel
theorem dX6_brighterThan_54 : decode cX6_brighterThan 54 = .ok (.iinc 5 1, 3) := by decide +kernel
theorem dX6_brighterThan_57 : decode cX6_brighterThan 57 = .ok (.iinc 6 1, 3) := by decide +kernel
theorem dX6_brighterThan_60 : decode cX6_brighterThan 60 = .ok (.goto (-47), 3) := by decide +kernel
theorem dX6_brighterThan_63 : decode cX6_brighterThan 63 = .ok (.iload 5, 2) := by decide +kernel
theorem dX6_brighterThan_65 : decode cX6_brighterThan 65 = .ok (.ireturn, 1) := by decide +kernel
set_option maxRecDepth 20000 in
theorem ggX6_listTellsShades_X0_shadeOf : GoodIn wsX6_listTellsShades wsX0_shadeOf := goodIn_r _ [7, 8, 9, 10, 6, 11, 12, 13, 14, 15, 16, 17, 18, 19, 20, 21, 22, 23, 24, 25, 26, 27, 28, 29, 57, 58, 59, 60, 61, 62, 63, 64, 65, 66, 67, 68, 69, 70, 71] (by decide +kernel) (by decide +kernel)
set_option maxRecDepth 20000 in
theorem gX6_listTellsShades_X0_shadeOf : GoodIn wsX6_listTellsShades (wsV RX6 192 RX0 yX0_shadeOf wsX0_shadeOf) := goodIn_app (goodIn_of _ (by decide +kernel)) ggX6_listTellsShades_X0_shadeOf
set_option maxRecDepth 20000 in
theorem ggX6_listTellsShades_X1_valueAt : GoodIn wsX6_listTellsShades wsX1_valueAt := goodIn_r _ [34, 35, 36, 37, 38, 33, 39, 40, 41, 42, 43, 44, 16, 17, 18, 72, 73] (by decide +kernel) (by decide +kernel)
set_option maxRecDepth 20000 in
theorem gX6_listTellsShades_X1_valueAt : GoodIn wsX6_listTellsShades (wsV RX6 271 RX1 yX1_valueAt wsX1_valueAt) := goodIn_app (goodIn_of _ (by decide +kernel)) ggX6_listTellsShades_X1_valueAt
theorem dX6_listTellsShades_0 : decode cX6_listTellsShades 0 = .ok (.iconst 0, 1) := by decide +kernel
theorem dX6_listTellsShades_1 : decode cX6_listTellsShades 1 = .ok (.istore_n 3, 1) := by decide +kernel
theorem dX6_listTellsShades_2 : decode cX6_listTellsShades 2 = .ok (.iload_n 3, 1) := by decide +kernel
theorem dX6_listTellsShades_3 : decode cX6_listTellsShades 3 = .ok (.iconst 3, 1) := by decide +kernel
theorem dX6_listTellsShades_4 : decode cX6_listTellsShades 4 = .ok (.if_icmp .ge 33, 3) := by decide +kernel
theorem dX6_listTellsShades_7 : decode cX6_listTellsShades 7 = .ok (.aload_n 0, 1) := by decide +kernel
theorem dX6_listTellsShades_8 : decode cX6_listTellsShades 8 = .ok (.getfield 30, 3) := by decide +kernel
theorem dX6_listTellsShades_11 : decode cX6_listTellsShades 11 = .ok (.iload_n 2, 1) := by decide +kernel
theorem dX6_listTellsShades_12 : decode cX6_listTellsShades 12 = .ok (.iconst 0, 1) := by decide +kernel
theorem dX6_listTellsShades_13 : decode cX6_listTellsShades 13 = .ok (.iload_n 3, 1) := by decide +kernel
theorem dX6_listTellsShades_14 : decode cX6_listTellsShades 14 = .ok (.invokevirtual 192, 3) := by decide +kernel
theorem dX6_listTellsShades_17 : decode cX6_listTellsShades 17 = .ok (.aload_n 0, 1) := by decide +kernel
theorem dX6_listTellsShades_18 : decode cX6_listTellsShades 18 = .ok (.getfield 60, 3) := by decide +kernel
theorem dX6_listTellsShades_21 : decode cX6_listTellsShades 21 = .ok (.iload_n 1, 1) := by decide +kernel
theorem dX6_listTellsShades_22 : decode cX6_listTellsShades 22 = .ok (.iload_n 3, 1) := by decide +kernel
theorem dX6_listTellsShades_23 : decode cX6_listTellsShades 23 = .ok (.invokevirtual 271, 3) := by decide +kernel
theorem dX6_listTellsShades_26 : decode cX6_listTellsShades 26 = .ok (.if_icmp .eq 5, 3) := by decide +kernel
theorem dX6_listTellsShades_29 : decode cX6_listTellsShades 29 = .ok (.iconst 0, 1) := by decide +kernel
theorem dX6_listTellsShades_30 : decode cX6_listTellsShades 30 = .ok (.ireturn, 1) := by decide +kernel
theorem dX6_listTellsShades_31 : decode cX6_listTellsShades 31 = .ok (.iinc 3 1, 3) := by decide +kernel
theorem dX6_listTellsShades_34 : decode cX6_listTellsShades 34 = .ok (.goto (-32), 3) := by decide +kernel
theorem dX6_listTellsShades_37 : decode cX6_listTellsShades 37 = .ok (.iconst 1, 1) := by decide +kernel
theorem dX6_listTellsShades_38 : decode cX6_listTellsShades 38 = .ok (.ireturn, 1) := by decide +kernel
theorem dX6_within_0 : decode cX6_within 0 = .ok (.iload_n 0, 1) := by decide +kernel
theorem dX6_within_1 : decode cX6_within 1 = .ok (.ifCond .lt 12, 3) := by decide +kernel
theorem dX6_within_4 : decode cX6_within 4 = .ok (.iload_n 0, 1) := by decide +kernel
theorem dX6_within_5 : decode cX6_within 5 = .ok (.iload_n 1, 1) := by decide +kernel
theorem dX6_within_6 : decode cX6_within 6 = .ok (.if_icmp .ge 7, 3) := by decide +kernel
theorem dX6_within_9 : decode cX6_within 9 = .ok (.iconst 1, 1) := by decide +kernel
theorem dX6_within_10 : decode cX6_within 10 = .ok (.goto 4, 3) := by decide +kernel
theorem dX6_within_13 : decode cX6_within 13 = .ok (.iconst 0, 1) := by decide +kernel
theorem dX6_within_14 : decode cX6_within 14 = .ok (.ireturn, 1) := by decide +kernel
set_option maxRecDepth 20000 in
theorem ggX6_exchange_X6_within : GoodIn wsX6_exchange wsX6_within := goodIn_r _ [4] (by decide +kernel) (by decide +kernel)
set_option maxRecDepth 20000 in
theorem gX6_exchange_X6_within : GoodIn wsX6_exchange (va_wsS RX6 112 yX6_within wsX6_within) := goodIn_app (goodIn_of _ (by decide +kernel)) ggX6_exchange_X6_within
theorem dX6_exchange_0 : decode cX6_exchange 0 = .ok (.iload_n 1, 1) := by decide +kernel
theorem dX6_exchange_1 : decode cX6_exchange 1 = .ok (.aload_n 0, 1) := by decide +kernel
theorem dX6_exchange_2 : decode cX6_exchange 2 = .ok (.arraylength, 1) := by decide +kernel
theorem dX6_exchange_3 : decode cX6_exchange 3 = .ok (.invokestatic 112, 3) := by decide +kernel
theorem dX6_exchange_6 : decode cX6_exchange 6 = .ok (.ifCond .ne 5, 3) := by decide +kernel
theorem dX6_exchange_9 : decode cX6_exchange 9 = .ok (.iconst (-1), 1) := by decide +kernel
theorem dX6_exchange_10 : decode cX6_exchange 10 = .ok (.ireturn, 1) := by decide +kernel
theorem dX6_exchange_11 : decode cX6_exchange 11 = .ok (.aload_n 0, 1) := by decide +kernel
theorem dX6_exchange_12 : decode cX6_exchange 12 = .ok (.iload_n 1, 1) := by decide +kernel
theorem dX6_exchange_13 : decode cX6_exchange 13 = .ok (.iaload, 1) := by decide +kernel
theorem dX6_exchange_14 : decode cX6_exchange 14 = .ok (.istore_n 3, 1) := by decide +kernel
theorem dX6_exchange_15 : decode cX6_exchange 15 = .ok (.aload_n 0, 1) := by decide +kernel
theorem dX6_exchange_16 : decode cX6_exchange 16 = .ok (.iload_n 1, 1) := by decide +kernel
theorem dX6_exchange_17 : decode cX6_exchange 17 = .ok (.iload_n 2, 1) := by decide +kernel
theorem dX6_exchange_18 : decode cX6_exchange 18 = .ok (.iastore, 1) := by decide +kernel
theorem dX6_exchange_19 : decode cX6_exchange 19 = .ok (.iload_n 3, 1) := by decide +kernel
theorem dX6_exchange_20 : decode cX6_exchange 20 = .ok (.ireturn, 1) := by decide +kernel
theorem dX6_differing_0 : decode cX6_differing 0 = .ok (.iconst 0, 1) := by decide +kernel
theorem dX6_differing_1 : decode cX6_differing 1 = .ok (.istore_n 2, 1) := by decide +kernel
theorem dX6_differing_2 : decode cX6_differing 2 = .ok (.iconst 0, 1) := by decide +kernel
theorem dX6_differing_3 : decode cX6_differing 3 = .ok (.istore_n 3, 1) := by decide +kernel
theorem dX6_differing_4 : decode cX6_differing 4 = .ok (.iload_n 3, 1) := by decide +kernel
theorem dX6_differing_5 : decode cX6_differing 5 = .ok (.aload_n 0, 1) := by decide +kernel
theorem dX6_differing_6 : decode cX6_differing 6 = .ok (.arraylength, 1) := by decide +kernel
theorem dX6_differing_7 : decode cX6_differing 7 = .ok (.if_icmp .ge 28, 3) := by decide +kernel
theorem dX6_differing_10 : decode cX6_differing 10 = .ok (.iload_n 3, 1) := by decide +kernel
theorem dX6_differing_11 : decode cX6_differing 11 = .ok (.aload_n 1, 1) := by decide +kernel
theorem dX6_differing_12 : decode cX6_differing 12 = .ok (.arraylength, 1) := by decide +kernel
theorem dX6_differing_13 : decode cX6_differing 13 = .ok (.if_icmp .ge 22, 3) := by decide +kernel
theorem dX6_differing_16 : decode cX6_differing 16 = .ok (.iload_n 2, 1) := by decide +kernel
theorem dX6_differing_17 : decode cX6_differing 17 = .ok (.aload_n 0, 1) := by decide +kernel
theorem dX6_differing_18 : decode cX6_differing 18 = .ok (.iload_n 3, 1) := by decide +kernel
theorem dX6_differing_19 : decode cX6_differing 19 = .ok (.iaload, 1) := by decide +kernel
theorem dX6_differing_20 : decode cX6_differing 20 = .ok (.aload_n 1, 1) := by decide +kernel
theorem dX6_differing_21 : decode cX6_differing 21 = .ok (.iload_n 3, 1) := by decide +kernel
theorem dX6_differing_22 : decode cX6_differing 22 = .ok (.iaload, 1) := by decide +kernel
theorem dX6_differing_23 : decode cX6_differing 23 = .ok (.isub, 1) := by decide +kernel
theorem dX6_differing_24 : decode cX6_differing 24 = .ok (.invokestatic 300, 3) := by decide +kernel
theorem dX6_differing_27 : decode cX6_differing 27 = .ok (.iadd, 1) := by decide +kernel
theorem dX6_differing_28 : decode cX6_differing 28 = .ok (.istore_n 2, 1) := by decide +kernel
theorem dX6_differing_29 : decode cX6_differing 29 = .ok (.iinc 3 1, 3) := by decide +kernel
theorem dX6_differing_32 : decode cX6_differing 32 = .ok (.goto (-28), 3) := by decide +kernel
theorem dX6_differing_35 : decode cX6_differing 35 = .ok (.iload_n 2, 1) := by decide +kernel
theorem dX6_differing_36 : decode cX6_differing 36 = .ok (.ireturn, 1) := by decide +kernel
theorem dX6_cut_0 : decode cX6_cut 0 = .ok (.lload_n 2, 1) := by decide +kernel
theorem dX6_cut_1 : decode cX6_cut 1 = .ok (.lconst 0, 1) := by decide +kernel
theorem dX6_cut_2 : decode cX6_cut 2 = .ok (.lcmp, 1) := by decide +kernel
theorem dX6_cut_3 : decode cX6_cut 3 = .ok (.ifCond .le 9, 3) := by decide +kernel
theorem dX6_cut_6 : decode cX6_cut 6 = .ok (.lload_n 0, 1) := by decide +kernel
theorem dX6_cut_7 : decode cX6_cut 7 = .ok (.lload_n 2, 1) := by decide +kernel
theorem dX6_cut_8 : decode cX6_cut 8 = .ok (.ldiv, 1) := by decide +kernel
theorem dX6_cut_9 : decode cX6_cut 9 = .ok (.goto 4, 3) := by decide +kernel
theorem dX6_cut_12 : decode cX6_cut 12 = .ok (.lconst 0, 1) := by decide +kernel
theorem dX6_cut_13 : decode cX6_cut 13 = .ok (.lreturn, 1) := by decide +kernel
set_option maxRecDepth 20000 in
theorem ggX6_partOf_X6_greatestCommonDivisor : GoodIn wsX6_partOf wsX6_greatestCommonDivisor := goodIn_r _ [4] (by decide +kernel) (by decide +kernel)
set_option maxRecDepth 20000 in
theorem gX6_partOf_X6_greatestCommonDivisor : GoodIn wsX6_partOf (va_wsS RX6 305 yX6_greatestCommonDivisor wsX6_greatestCommonDivisor) := goodIn_app (goodIn_of _ (by decide +kernel)) ggX6_partOf_X6_greatestCommonDivisor
set_option maxRecDepth 20000 in
theorem ggX6_partOf_X6_cut : GoodIn wsX6_partOf wsX6_cut := goodIn_r _ [7] (by decide +kernel) (by decide +kernel)
set_option maxRecDepth 20000 in
theorem gX6_partOf_X6_cut : GoodIn wsX6_partOf (va_wsS RX6 309 yX6_cut wsX6_cut) := goodIn_app (goodIn_of _ (by decide +kernel)) ggX6_partOf_X6_cut
theorem dX6_partOf_0 : decode cX6_partOf 0 = .ok (.lload_n 0, 1) := by decide +kernel
theorem dX6_partOf_1 : decode cX6_partOf 1 = .ok (.lload_n 2, 1) := by decide +kernel
theorem dX6_partOf_2 : decode cX6_partOf 2 = .ok (.invokestatic 305, 3) := by decide +kernel
theorem dX6_partOf_5 : decode cX6_partOf 5 = .ok (.lstore 5, 2) := by decide +kernel
theorem dX6_partOf_7 : decode cX6_partOf 7 = .ok (.iload 4, 2) := by decide +kernel
theorem dX6_partOf_9 : decode cX6_partOf 9 = .ok (.ifCond .ne 7, 3) := by decide +kernel
theorem dX6_partOf_12 : decode cX6_partOf 12 = .ok (.lload_n 0, 1) := by decide +kernel
theorem dX6_partOf_13 : decode cX6_partOf 13 = .ok (.goto 4, 3) := by decide +kernel
theorem dX6_partOf_16 : decode cX6_partOf 16 = .ok (.lload_n 2, 1) := by decide +kernel
theorem dX6_partOf_17 : decode cX6_partOf 17 = .ok (.lload 5, 2) := by decide +kernel
theorem dX6_partOf_19 : decode cX6_partOf 19 = .ok (.invokestatic 309, 3) := by decide +kernel
theorem dX6_partOf_22 : decode cX6_partOf 22 = .ok (.lreturn, 1) := by decide +kernel
theorem dX6_greatestCommonDivisor_0 : decode cX6_greatestCommonDivisor 0 = .ok (.lload_n 0, 1) := by decide +kernel
theorem dX6_greatestCommonDivisor_1 : decode cX6_greatestCommonDivisor 1 = .ok (.lstore 4, 2) := by decide +kernel
theorem dX6_greatestCommonDivisor_3 : decode cX6_greatestCommonDivisor 3 = .ok (.lload_n 2, 1) := by decide +kernel
theorem dX6_greatestCommonDivisor_4 : decode cX6_greatestCommonDivisor 4 = .ok (.lstore 6, 2) := by decide +kernel
theorem dX6_greatestCommonDivisor_6 : decode cX6_greatestCommonDivisor 6 = .ok (.iconst 0, 1) := by decide +kernel
theorem dX6_greatestCommonDivisor_7 : decode cX6_greatestCommonDivisor 7 = .ok (.istore 8, 2) := by decide +kernel
theorem dX6_greatestCommonDivisor_9 : decode cX6_greatestCommonDivisor 9 = .ok (.iload 8, 2) := by decide +kernel
theorem dX6_greatestCommonDivisor_11 : decode cX6_greatestCommonDivisor 11 = .ok (.sipush 128, 3) := by decide +kernel
theorem dX6_greatestCommonDivisor_14 : decode cX6_greatestCommonDivisor 14 = .ok (.if_icmp .ge 31, 3) := by decide +kernel
theorem dX6_greatestCommonDivisor_17 : decode cX6_greatestCommonDivisor 17 = .ok (.lload 6, 2) := by decide +kernel
theorem dX6_greatestCommonDivisor_19 : decode cX6_greatestCommonDivisor 19 = .ok (.lconst 0, 1) := by decide +kernel
theorem dX6_greatestCommonDivisor_20 : decode cX6_greatestCommonDivisor 20 = .ok (.lcmp, 1) := by decide +kernel
theorem dX6_greatestCommonDivisor_21 : decode cX6_greatestCommonDivisor 21 = .ok (.ifCond .le 24, 3) := by decide +kernel
theorem dX6_greatestCommonDivisor_24 : decode cX6_greatestCommonDivisor 24 = .ok (.lload 4, 2) := by decide +kernel
theorem dX6_greatestCommonDivisor_26 : decode cX6_greatestCommonDivisor 26 = .ok (.lload 6, 2) := by decide +kernel
theorem dX6_greatestCommonDivisor_28 : decode cX6_greatestCommonDivisor 28 = .ok (.lrem, 1) := by decide +kernel
theorem dX6_greatestCommonDivisor_29 : decode cX6_greatestCommonDivisor 29 = .ok (.lstore 9, 2) := by decide +kernel
theorem dX6_greatestCommonDivisor_31 : decode cX6_greatestCommonDivisor 31 = .ok (.lload 6, 2) := by decide +kernel
theorem dX6_greatestCommonDivisor_33 : decode cX6_greatestCommonDivisor 33 = .ok (.lstore 4, 2) := by decide +kernel
theorem dX6_greatestCommonDivisor_35 : decode cX6_greatestCommonDivisor 35 = .ok (.lload 9, 2) := by decide +kernel
theorem dX6_greatestCommonDivisor_37 : decode cX6_greatestCommonDivisor 37 = .ok (.lstore 6, 2) := by decide +kernel
theorem dX6_greatestCommonDivisor_39 : decode cX6_greatestCommonDivisor 39 = .ok (.iinc 8 1, 3) := by decide +kernel
theorem dX6_greatestCommonDivisor_42 : decode cX6_greatestCommonDivisor 42 = .ok (.goto (-33), 3) := by decide +kernel
theorem dX6_greatestCommonDivisor_45 : decode cX6_greatestCommonDivisor 45 = .ok (.lload 4, 2) := by decide +kernel
theorem dX6_greatestCommonDivisor_47 : decode cX6_greatestCommonDivisor 47 = .ok (.lreturn, 1) := by decide +kernel
theorem dX6_wordOf_0 : decode cX6_wordOf 0 = .ok (.iload_n 0, 1) := by decide +kernel
theorem dX6_wordOf_1 : decode cX6_wordOf 1 = .ok (.tableswitch 63 0 5 #[39, 43, 47, 51, 55, 59], 39) := by decide +kernel
theorem dX6_wordOf_40 : decode cX6_wordOf 40 = .ok (.ldc_w 312, 3) := by decide +kernel
theorem dX6_wordOf_43 : decode cX6_wordOf 43 = .ok (.areturn, 1) := by decide +kernel
theorem dX6_wordOf_44 : decode cX6_wordOf 44 = .ok (.ldc_w 314, 3) := by decide +kernel
theorem dX6_wordOf_47 : decode cX6_wordOf 47 = .ok (.areturn, 1) := by decide +kernel
theorem dX6_wordOf_48 : decode cX6_wordOf 48 = .ok (.ldc_w 316, 3) := by decide +kernel
theorem dX6_wordOf_51 : decode cX6_wordOf 51 = .ok (.areturn, 1) := by decide +kernel
theorem dX6_wordOf_52 : decode cX6_wordOf 52 = .ok (.ldc_w 318, 3) := by decide +kernel
theorem dX6_wordOf_55 : decode cX6_wordOf 55 = .ok (.areturn, 1) := by decide +kernel
theorem dX6_wordOf_56 : decode cX6_wordOf 56 = .ok (.ldc_w 320, 3) := by decide +kernel
theorem dX6_wordOf_59 : decode cX6_wordOf 59 = .ok (.areturn, 1) := by decide +kernel
theorem dX6_wordOf_60 : decode cX6_wordOf 60 = .ok (.ldc_w 322, 3) := by decide +kernel
theorem dX6_wordOf_63 : decode cX6_wordOf 63 = .ok (.areturn, 1) := by decide +kernel
theorem dX6_wordOf_64 : decode cX6_wordOf 64 = .ok (.ldc_w 324, 3) := by decide +kernel
theorem dX6_wordOf_67 : decode cX6_wordOf 67 = .ok (.areturn, 1) := by decide +kernel
theorem dX7_init_0 : decode cX7_init 0 = .ok (.aload_n 0, 1) := by decide +kernel
theorem dX7_init_1 : decode cX7_init 1 = .ok (.invokespecial 3, 3) := by decide +kernel
theorem dX7_init_4 : decode cX7_init 4 = .ok (.aload_n 0, 1) := by decide +kernel
theorem dX7_init_5 : decode cX7_init 5 = .ok (.sipush 133, 3) := by decide +kernel
theorem dX7_init_8 : decode cX7_init 8 = .ok (.newarray .int, 2) := by decide +kernel
theorem dX7_init_10 : decode cX7_init 10 = .ok (.putfield 9, 3) := by decide +kernel
theorem dX7_init_13 : decode cX7_init 13 = .ok (.aload_n 0, 1) := by decide +kernel
theorem dX7_init_14 : decode cX7_init 14 = .ok (.sipush 133, 3) := by decide +kernel
theorem dX7_init_17 : decode cX7_init 17 = .ok (.newarray .int, 2) := by decide +kernel
theorem dX7_init_19 : decode cX7_init 19 = .ok (.putfield 15, 3) := by decide +kernel
theorem dX7_init_22 : decode cX7_init 22 = .ok (.aload_n 0, 1) := by decide +kernel
theorem dX7_init_23 : decode cX7_init 23 = .ok (.iconst 5, 1) := by decide +kernel
theorem dX7_init_24 : decode cX7_init 24 = .ok (.newarray .long, 2) := by decide +kernel
theorem dX7_init_26 : decode cX7_init 26 = .ok (.putfield 18, 3) := by decide +kernel
theorem dX7_init_29 : decode cX7_init 29 = .ok (.aload_n 0, 1) := by decide +kernel
theorem dX7_init_30 : decode cX7_init 30 = .ok (.iconst 3, 1) := by decide +kernel
theorem dX7_init_31 : decode cX7_init 31 = .ok (.newarray .int, 2) := by decide +kernel
theorem dX7_init_33 : decode cX7_init 33 = .ok (.putfield 22, 3) := by decide +kernel
theorem dX7_init_36 : decode cX7_init 36 = .ok (.aload_n 0, 1) := by decide +kernel
theorem dX7_init_37 : decode cX7_init 37 = .ok (.iconst 3, 1) := by decide +kernel
theorem dX7_init_38 : decode cX7_init 38 = .ok (.newarray .int, 2) := by decide +kernel
theorem dX7_init_40 : decode cX7_init 40 = .ok (.putfield 25, 3) := by decide +kernel
theorem dX7_init_43 : decode cX7_init 43 = .ok (.aload_n 0, 1) := by decide +kernel
theorem dX7_init_44 : decode cX7_init 44 = .ok (.bipush 80, 2) := by decide +kernel
theorem dX7_init_46 : decode cX7_init 46 = .ok (.newarray .int, 2) := by decide +kernel
theorem dX7_init_48 : decode cX7_init 48 = .ok (.putfield 28, 3) := by decide +kernel
theorem dX7_init_51 : decode cX7_init 51 = .ok (.aload_n 0, 1) := by decide +kernel
theorem dX7_init_52 : decode cX7_init 52 = .ok (.iconst 5, 1) := by decide +kernel
theorem dX7_init_53 : decode cX7_init 53 = .ok (.newarray .int, 2) := by decide +kernel
theorem dX7_init_55 : decode cX7_init 55 = .ok (.putfield 31, 3) := by decide +kernel
theorem dX7_init_58 : decode cX7_init 58 = .ok (.aload_n 0, 1) := by decide +kernel
theorem dX7_init_59 : decode cX7_init 59 = .ok (.bipush 56, 2) := by decide +kernel
theorem dX7_init_61 : decode cX7_init 61 = .ok (.newarray .int, 2) := by decide +kernel
theorem dX7_init_63 : decode cX7_init 63 = .ok (.putfield 34, 3) := by decide +kernel
theorem dX7_init_66 : decode cX7_init 66 = .ok (.aload_n 0, 1) := by decide +kernel
theorem dX7_init_67 : decode cX7_init 67 = .ok (.bipush 36, 2) := by decide +kernel
theorem dX7_init_69 : decode cX7_init 69 = .ok (.newarray .char, 2) := by decide +kernel
theorem dX7_init_71 : decode cX7_init 71 = .ok (.dup, 1) := by decide +kernel
theorem dX7_init_72 : decode cX7_init 72 = .ok (.iconst 0, 1) := by decide +kernel
theorem dX7_init_73 : decode cX7_init 73 = .ok (.bipush 103, 2) := by decide +kernel
theorem dX7_init_75 : decode cX7_init 75 = .ok (.castore, 1) := by decide +kernel
theorem dX7_init_76 : decode cX7_init 76 = .ok (.dup, 1) := by decide +kernel
theorem dX7_init_77 : decode cX7_init 77 = .ok (.iconst 1, 1) := by decide +kernel
theorem dX7_init_78 : decode cX7_init 78 = .ok (.bipush 108, 2) := by decide +kernel
theorem dX7_init_80 : decode cX7_init 80 = .ok (.castore, 1) := by decide +kernel
theorem dX7_init_81 : decode cX7_init 81 = .ok (.dup, 1) := by decide +kernel
theorem dX7_init_82 : decode cX7_init 82 = .ok (.iconst 2, 1) := by decide +kernel
theorem dX7_init_83 : decode cX7_init 83 = .ok (.bipush 97, 2) := by decide +kernel
theorem dX7_init_85 : decode cX7_init 85 = .ok (.castore, 1) := by decide +kernel
theorem dX7_init_86 : decode cX7_init 86 = .ok (.dup, 1) := by decide +kernel
theorem dX7_init_87 : decode cX7_init 87 = .ok (.iconst 3, 1) := by decide +kernel
theorem dX7_init_88 : decode cX7_init 88 = .ok (.bipush 115, 2) := by decide +kernel
theorem dX7_init_90 : decode cX7_init 90 = .ok (.castore, 1) := by decide +kernel
theorem dX7_init_91 : decode cX7_init 91 = .ok (.dup, 1) := by decide +kernel
theorem dX7_init_92 : decode cX7_init 92 = .ok (.iconst 4, 1) := by decide +kernel
theorem dX7_init_93 : decode cX7_init 93 = .ok (.bipush 115, 2) := by decide +kernel
theorem dX7_init_95 : decode cX7_init 95 = .ok (.castore, 1) := by decide +kernel
theorem dX7_init_96 : decode cX7_init 96 = .ok (.dup, 1) := by decide +kernel
theorem dX7_init_97 : decode cX7_init 97 = .ok (.iconst 5, 1) := by decide +kernel
theorem dX7_init_98 : decode cX7_init 98 = .ok (.bipush 32, 2) := by decide +kernel
theorem dX7_init_100 : decode cX7_init 100 = .ok (.castore, 1) := by decide +kernel
theorem dX7_init_101 : decode cX7_init 101 = .ok (.dup, 1) := by decide +kernel
theorem dX7_init_102 : decode cX7_init 102 = .ok (.bipush 6, 2) := by decide +kernel
theorem dX7_init_104 : decode cX7_init 104 = .ok (.bipush 116, 2) := by decide +kernel
theorem dX7_init_106 : decode cX7_init 106 = .ok (.castore, 1) := by decide +kernel
theorem dX7_init_107 : decode cX7_init 107 = .ok (.dup, 1) := by decide +kernel
theorem dX7_init_108 : decode cX7_init 108 = .ok (.bipush 7, 2) := by decide +kernel
theorem dX7_init_110 : decode cX7_init 110 = .ok (.bipush 104, 2) := by decide +kernel
theorem dX7_init_112 : decode cX7_init 112 = .ok (.castore, 1) := by decide +kernel
theorem dX7_init_113 : decode cX7_init 113 = .ok (.dup, 1) := by decide +kernel
theorem dX7_init_114 : decode cX7_init 114 = .ok (.bipush 8, 2) := by decide +kernel
theorem dX7_init_116 : decode cX7_init 116 = .ok (.bipush 105, 2) := by decide +kernel
theorem dX7_init_118 : decode cX7_init 118 = .ok (.castore, 1) := by decide +kernel
theorem dX7_init_119 : decode cX7_init 119 = .ok (.dup, 1) := by decide +kernel
theorem dX7_init_120 : decode cX7_init 120 = .ok (.bipush 9, 2) := by decide +kernel
theorem dX7_init_122 : decode cX7_init 122 = .ok (.bipush 99, 2) := by decide +kernel
theorem dX7_init_124 : decode cX7_init 124 = .ok (.castore, 1) := by decide +kernel
theorem dX7_init_125 : decode cX7_init 125 = .ok (.dup, 1) := by decide +kernel
theorem dX7_init_126 : decode cX7_init 126 = .ok (.bipush 10, 2) := by decide +kernel
theorem dX7_init_128 : decode cX7_init 128 = .ok (.bipush 107, 2) := by decide +kernel
theorem dX7_init_130 : decode cX7_init 130 = .ok (.castore, 1) := by decide +kernel
theorem dX7_init_131 : decode cX7_init 131 = .ok (.dup, 1) := by decide +kernel
theorem dX7_init_132 : decode cX7_init 132 = .ok (.bipush 11, 2) := by decide +kernel
theorem dX7_init_134 : decode cX7_init 134 = .ok (.bipush 32, 2) := by decide +kernel
theorem dX7_init_136 : decode cX7_init 136 = .ok (.castore, 1) := by decide +kernel
theorem dX7_init_137 : decode cX7_init 137 = .ok (.dup, 1) := by decide +kernel
theorem dX7_init_138 : decode cX7_init 138 = .ok (.bipush 12, 2) := by decide +kernel
theorem dX7_init_140 : decode cX7_init 140 = .ok (.bipush 115, 2) := by decide +kernel
