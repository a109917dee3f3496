theorem dX7_next_19 : decode cX7_next 19 = .ok (.iaload, 1) := by decide +kernel
theorem dX7_next_20 : decode cX7_next 20 = .ok (.iconst 1, 1) := by decide +kernel
theorem dX7_next_21 : decode cX7_next 21 = .ok (.isub, 1) := by decide +kernel
theorem dX7_next_22 : decode cX7_next 22 = .ok (.if_icmp .ne 9, 3) := by decide +kernel
theorem dX7_next_25 : decode cX7_next 25 = .ok (.iinc 2 (-1), 3) := by decide +kernel
theorem dX7_next_28 : decode cX7_next 28 = .ok (.goto (-24), 3) := by decide +kernel
theorem dX7_next_31 : decode cX7_next 31 = .ok (.iload_n 2, 1) := by decide +kernel
theorem dX7_next_32 : decode cX7_next 32 = .ok (.ifCond .ge 5, 3) := by decide +kernel
theorem dX7_next_35 : decode cX7_next 35 = .ok (.iconst 0, 1) := by decide +kernel
theorem dX7_next_36 : decode cX7_next 36 = .ok (.ireturn, 1) := by decide +kernel
theorem dX7_next_37 : decode cX7_next 37 = .ok (.aload_n 0, 1) := by decide +kernel
theorem dX7_next_38 : decode cX7_next 38 = .ok (.getfield 47, 3) := by decide +kernel
theorem dX7_next_41 : decode cX7_next 41 = .ok (.iload_n 2, 1) := by decide +kernel
theorem dX7_next_42 : decode cX7_next 42 = .ok (.iaload, 1) := by decide +kernel
theorem dX7_next_43 : decode cX7_next 43 = .ok (.iconst 1, 1) := by decide +kernel
theorem dX7_next_44 : decode cX7_next 44 = .ok (.iadd, 1) := by decide +kernel
theorem dX7_next_45 : decode cX7_next 45 = .ok (.istore_n 3, 1) := by decide +kernel
theorem dX7_next_46 : decode cX7_next 46 = .ok (.iload_n 2, 1) := by decide +kernel
theorem dX7_next_47 : decode cX7_next 47 = .ok (.istore 4, 2) := by decide +kernel
theorem dX7_next_49 : decode cX7_next 49 = .ok (.iload 4, 2) := by decide +kernel
theorem dX7_next_51 : decode cX7_next 51 = .ok (.iload_n 1, 1) := by decide +kernel
theorem dX7_next_52 : decode cX7_next 52 = .ok (.if_icmp .ge 17, 3) := by decide +kernel
theorem dX7_next_55 : decode cX7_next 55 = .ok (.aload_n 0, 1) := by decide +kernel
theorem dX7_next_56 : decode cX7_next 56 = .ok (.getfield 47, 3) := by decide +kernel
theorem dX7_next_59 : decode cX7_next 59 = .ok (.iload 4, 2) := by decide +kernel
theorem dX7_next_61 : decode cX7_next 61 = .ok (.iload_n 3, 1) := by decide +kernel
theorem dX7_next_62 : decode cX7_next 62 = .ok (.iastore, 1) := by decide +kernel
theorem dX7_next_63 : decode cX7_next 63 = .ok (.iinc 4 1, 3) := by decide +kernel
theorem dX7_next_66 : decode cX7_next 66 = .ok (.goto (-17), 3) := by decide +kernel
theorem dX7_next_69 : decode cX7_next 69 = .ok (.iconst 1, 1) := by decide +kernel
theorem dX7_next_70 : decode cX7_next 70 = .ok (.ireturn, 1) := by decide +kernel
set_option maxRecDepth 20000 in
theorem ggX7_apart_X7_begins : GoodIn wsX7_apart wsX7_begins := goodIn_r _ [8, 9, 10, 53, 54, 55, 56, 57, 58, 59, 60, 61, 62, 63, 64, 65, 66, 67, 68, 69, 70, 71, 72, 73, 74, 75, 76, 77, 78] (by decide +kernel) (by decide +kernel)
set_option maxRecDepth 20000 in
theorem gX7_apart_X7_begins : GoodIn wsX7_apart (wsV RX7 93 RX7 yX7_begins wsX7_begins) := goodIn_app (goodIn_of _ (by decide +kernel)) ggX7_apart_X7_begins
set_option maxRecDepth 20000 in
theorem ggX7_apart_X7_lays : GoodIn wsX7_apart wsX7_lays := goodIn_r _ [14, 9, 15, 10, 16, 17, 18, 7, 19, 20, 21, 22, 23, 3, 24, 25, 26, 27, 28, 29, 30, 31, 32, 33, 34, 35, 53, 54, 55, 56, 57, 58, 59, 60, 61, 62, 63, 64, 65, 66, 67, 68, 69, 70, 71, 72, 73, 74, 75, 76, 77, 78] (by decide +kernel) (by decide +kernel)
set_option maxRecDepth 20000 in
theorem gX7_apart_X7_lays : GoodIn wsX7_apart (wsV RX7 102 RX7 yX7_lays wsX7_lays) := goodIn_app (goodIn_of _ (by decide +kernel)) ggX7_apart_X7_lays
set_option maxRecDepth 20000 in
theorem ggX7_apart_X7_findShades : GoodIn wsX7_apart wsX7_findShades := goodIn_r _ [39, 2, 40, 41, 42, 7, 43, 9, 44, 45, 46, 47, 48, 3, 10, 53, 54, 55, 56, 57, 58, 59, 60, 61, 62, 63, 64, 65, 66, 67, 68, 69, 70, 71, 72, 73, 74, 75, 76, 77, 78] (by decide +kernel) (by decide +kernel)
set_option maxRecDepth 20000 in
theorem gX7_apart_X7_findShades : GoodIn wsX7_apart (wsV RX7 207 RX7 yX7_findShades wsX7_findShades) := goodIn_app (goodIn_of _ (by decide +kernel)) ggX7_apart_X7_findShades
set_option maxRecDepth 20000 in
theorem ggX7_apart_X7_apartFrom : GoodIn wsX7_apart wsX7_apartFrom := goodIn_r _ [52] (by decide +kernel) (by decide +kernel)
set_option maxRecDepth 20000 in
theorem gX7_apart_X7_apartFrom : GoodIn wsX7_apart (wsV RX7 210 RX7 yX7_apartFrom wsX7_apartFrom) := goodIn_app (goodIn_of _ (by decide +kernel)) ggX7_apart_X7_apartFrom
theorem dX7_apart_0 : decode cX7_apart 0 = .ok (.aload_n 0, 1) := by decide +kernel
theorem dX7_apart_1 : decode cX7_apart 1 = .ok (.invokevirtual 93, 3) := by decide +kernel
theorem dX7_apart_4 : decode cX7_apart 4 = .ok (.iconst 0, 1) := by decide +kernel
theorem dX7_apart_5 : decode cX7_apart 5 = .ok (.istore_n 3, 1) := by decide +kernel
theorem dX7_apart_6 : decode cX7_apart 6 = .ok (.iload_n 3, 1) := by decide +kernel
theorem dX7_apart_7 : decode cX7_apart 7 = .ok (.iload_n 1, 1) := by decide +kernel
theorem dX7_apart_8 : decode cX7_apart 8 = .ok (.if_icmp .ge 19, 3) := by decide +kernel
theorem dX7_apart_11 : decode cX7_apart 11 = .ok (.aload_n 0, 1) := by decide +kernel
theorem dX7_apart_12 : decode cX7_apart 12 = .ok (.aload_n 0, 1) := by decide +kernel
theorem dX7_apart_13 : decode cX7_apart 13 = .ok (.getfield 47, 3) := by decide +kernel
theorem dX7_apart_16 : decode cX7_apart 16 = .ok (.iload_n 3, 1) := by decide +kernel
theorem dX7_apart_17 : decode cX7_apart 17 = .ok (.iaload, 1) := by decide +kernel
theorem dX7_apart_18 : decode cX7_apart 18 = .ok (.invokevirtual 102, 3) := by decide +kernel
theorem dX7_apart_21 : decode cX7_apart 21 = .ok (.iinc 3 1, 3) := by decide +kernel
theorem dX7_apart_24 : decode cX7_apart 24 = .ok (.goto (-18), 3) := by decide +kernel
theorem dX7_apart_27 : decode cX7_apart 27 = .ok (.aload_n 0, 1) := by decide +kernel
theorem dX7_apart_28 : decode cX7_apart 28 = .ok (.iload_n 2, 1) := by decide +kernel
theorem dX7_apart_29 : decode cX7_apart 29 = .ok (.invokevirtual 207, 3) := by decide +kernel
theorem dX7_apart_32 : decode cX7_apart 32 = .ok (.aload_n 0, 1) := by decide +kernel
theorem dX7_apart_33 : decode cX7_apart 33 = .ok (.aload_n 0, 1) := by decide +kernel
theorem dX7_apart_34 : decode cX7_apart 34 = .ok (.getfield 22, 3) := by decide +kernel
theorem dX7_apart_37 : decode cX7_apart 37 = .ok (.iconst 0, 1) := by decide +kernel
theorem dX7_apart_38 : decode cX7_apart 38 = .ok (.iaload, 1) := by decide +kernel
theorem dX7_apart_39 : decode cX7_apart 39 = .ok (.aload_n 0, 1) := by decide +kernel
theorem dX7_apart_40 : decode cX7_apart 40 = .ok (.getfield 9, 3) := by decide +kernel
theorem dX7_apart_43 : decode cX7_apart 43 = .ok (.sipush 130, 3) := by decide +kernel
theorem dX7_apart_46 : decode cX7_apart 46 = .ok (.iaload, 1) := by decide +kernel
theorem dX7_apart_47 : decode cX7_apart 47 = .ok (.invokevirtual 210, 3) := by decide +kernel
theorem dX7_apart_50 : decode cX7_apart 50 = .ok (.aload_n 0, 1) := by decide +kernel
theorem dX7_apart_51 : decode cX7_apart 51 = .ok (.aload_n 0, 1) := by decide +kernel
theorem dX7_apart_52 : decode cX7_apart 52 = .ok (.getfield 22, 3) := by decide +kernel
theorem dX7_apart_55 : decode cX7_apart 55 = .ok (.iconst 1, 1) := by decide +kernel
theorem dX7_apart_56 : decode cX7_apart 56 = .ok (.iaload, 1) := by decide +kernel
theorem dX7_apart_57 : decode cX7_apart 57 = .ok (.aload_n 0, 1) := by decide +kernel
theorem dX7_apart_58 : decode cX7_apart 58 = .ok (.getfield 9, 3) := by decide +kernel
theorem dX7_apart_61 : decode cX7_apart 61 = .ok (.sipush 131, 3) := by decide +kernel
theorem dX7_apart_64 : decode cX7_apart 64 = .ok (.iaload, 1) := by decide +kernel
theorem dX7_apart_65 : decode cX7_apart 65 = .ok (.invokevirtual 210, 3) := by decide +kernel
theorem dX7_apart_68 : decode cX7_apart 68 = .ok (.iadd, 1) := by decide +kernel
theorem dX7_apart_69 : decode cX7_apart 69 = .ok (.aload_n 0, 1) := by decide +kernel
theorem dX7_apart_70 : decode cX7_apart 70 = .ok (.aload_n 0, 1) := by decide +kernel
theorem dX7_apart_71 : decode cX7_apart 71 = .ok (.getfield 22, 3) := by decide +kernel
theorem dX7_apart_74 : decode cX7_apart 74 = .ok (.iconst 2, 1) := by decide +kernel
theorem dX7_apart_75 : decode cX7_apart 75 = .ok (.iaload, 1) := by decide +kernel
theorem dX7_apart_76 : decode cX7_apart 76 = .ok (.aload_n 0, 1) := by decide +kernel
theorem dX7_apart_77 : decode cX7_apart 77 = .ok (.getfield 9, 3) := by decide +kernel
theorem dX7_apart_80 : decode cX7_apart 80 = .ok (.sipush 132, 3) := by decide +kernel
theorem dX7_apart_83 : decode cX7_apart 83 = .ok (.iaload, 1) := by decide +kernel
theorem dX7_apart_84 : decode cX7_apart 84 = .ok (.invokevirtual 210, 3) := by decide +kernel
theorem dX7_apart_87 : decode cX7_apart 87 = .ok (.iadd, 1) := by decide +kernel
theorem dX7_apart_88 : decode cX7_apart 88 = .ok (.ireturn, 1) := by decide +kernel
set_option maxRecDepth 20000 in
theorem ggX7_findBest_X7_apart : GoodIn wsX7_findBest wsX7_apart := goodIn_r _ [11, 4, 12, 3, 13, 14, 15, 10, 16, 17, 18, 19, 20, 21, 22, 23, 24, 25, 26, 27, 28, 29, 30, 31, 32, 33, 34, 35, 36, 37, 38, 39, 40, 41, 42, 43, 44, 45, 46, 47, 48, 49, 50, 51, 52, 53, 54, 55, 56, 57, 58, 59, 60, 65, 66, 67, 68, 69, 70, 71, 72, 73, 74, 75, 76, 77, 78, 79, 80, 81, 82, 83, 84, 85, 86, 87, 88, 89, 90] (by decide +kernel) (by decide +kernel)
set_option maxRecDepth 20000 in
theorem gX7_findBest_X7_apart : GoodIn wsX7_findBest (wsV RX7 219 RX7 yX7_apart wsX7_apart) := goodIn_app (goodIn_of _ (by decide +kernel)) ggX7_findBest_X7_apart
set_option maxRecDepth 20000 in
theorem ggX7_findBest_X7_next : GoodIn wsX7_findBest wsX7_next := goodIn_r _ [64, 4, 3, 65, 66, 67, 68, 69, 70, 71, 72, 73, 74, 75, 76, 77, 78, 79, 80, 81, 82, 83, 84, 85, 86, 87, 88, 89, 90] (by decide +kernel) (by decide +kernel)
set_option maxRecDepth 20000 in
theorem gX7_findBest_X7_next : GoodIn wsX7_findBest (wsV RX7 225 RX7 yX7_next wsX7_next) := goodIn_app (goodIn_of _ (by decide +kernel)) ggX7_findBest_X7_next
theorem dX7_findBest_0 : decode cX7_findBest 0 = .ok (.aload_n 0, 1) := by decide +kernel
theorem dX7_findBest_1 : decode cX7_findBest 1 = .ok (.iconst (-1), 1) := by decide +kernel
theorem dX7_findBest_2 : decode cX7_findBest 2 = .ok (.putfield 213, 3) := by decide +kernel
theorem dX7_findBest_5 : decode cX7_findBest 5 = .ok (.aload_n 0, 1) := by decide +kernel
theorem dX7_findBest_6 : decode cX7_findBest 6 = .ok (.iconst 0, 1) := by decide +kernel
theorem dX7_findBest_7 : decode cX7_findBest 7 = .ok (.putfield 216, 3) := by decide +kernel
theorem dX7_findBest_10 : decode cX7_findBest 10 = .ok (.iconst 0, 1) := by decide +kernel
theorem dX7_findBest_11 : decode cX7_findBest 11 = .ok (.istore_n 3, 1) := by decide +kernel
theorem dX7_findBest_12 : decode cX7_findBest 12 = .ok (.iload_n 3, 1) := by decide +kernel
theorem dX7_findBest_13 : decode cX7_findBest 13 = .ok (.iload_n 1, 1) := by decide +kernel
theorem dX7_findBest_14 : decode cX7_findBest 14 = .ok (.if_icmp .gt 163, 3) := by decide +kernel
theorem dX7_findBest_17 : decode cX7_findBest 17 = .ok (.iload_n 3, 1) := by decide +kernel
theorem dX7_findBest_18 : decode cX7_findBest 18 = .ok (.ifCond .eq 12, 3) := by decide +kernel
theorem dX7_findBest_21 : decode cX7_findBest 21 = .ok (.aload_n 0, 1) := by decide +kernel
theorem dX7_findBest_22 : decode cX7_findBest 22 = .ok (.getfield 9, 3) := by decide +kernel
theorem dX7_findBest_25 : decode cX7_findBest 25 = .ok (.iconst 0, 1) := by decide +kernel
theorem dX7_findBest_26 : decode cX7_findBest 26 = .ok (.iaload, 1) := by decide +kernel
theorem dX7_findBest_27 : decode cX7_findBest 27 = .ok (.ifCond .le 150, 3) := by decide +kernel
theorem dX7_findBest_30 : decode cX7_findBest 30 = .ok (.iconst 0, 1) := by decide +kernel
theorem dX7_findBest_31 : decode cX7_findBest 31 = .ok (.istore 4, 2) := by decide +kernel
theorem dX7_findBest_33 : decode cX7_findBest 33 = .ok (.iload 4, 2) := by decide +kernel
theorem dX7_findBest_35 : decode cX7_findBest 35 = .ok (.iload_n 3, 1) := by decide +kernel
theorem dX7_findBest_36 : decode cX7_findBest 36 = .ok (.if_icmp .ge 17, 3) := by decide +kernel
theorem dX7_findBest_39 : decode cX7_findBest 39 = .ok (.aload_n 0, 1) := by decide +kernel
theorem dX7_findBest_40 : decode cX7_findBest 40 = .ok (.getfield 47, 3) := by decide +kernel
theorem dX7_findBest_43 : decode cX7_findBest 43 = .ok (.iload 4, 2) := by decide +kernel
theorem dX7_findBest_45 : decode cX7_findBest 45 = .ok (.iconst 0, 1) := by decide +kernel
theorem dX7_findBest_46 : decode cX7_findBest 46 = .ok (.iastore, 1) := by decide +kernel
theorem dX7_findBest_47 : decode cX7_findBest 47 = .ok (.iinc 4 1, 3) := by decide +kernel
theorem dX7_findBest_50 : decode cX7_findBest 50 = .ok (.goto (-17), 3) := by decide +kernel
theorem dX7_findBest_53 : decode cX7_findBest 53 = .ok (.iconst 1, 1) := by decide +kernel
theorem dX7_findBest_54 : decode cX7_findBest 54 = .ok (.istore 4, 2) := by decide +kernel
theorem dX7_findBest_56 : decode cX7_findBest 56 = .ok (.iload 4, 2) := by decide +kernel
theorem dX7_findBest_58 : decode cX7_findBest 58 = .ok (.ifCond .eq 113, 3) := by decide +kernel
theorem dX7_findBest_61 : decode cX7_findBest 61 = .ok (.aload_n 0, 1) := by decide +kernel
theorem dX7_findBest_62 : decode cX7_findBest 62 = .ok (.iload_n 3, 1) := by decide +kernel
theorem dX7_findBest_63 : decode cX7_findBest 63 = .ok (.iload_n 2, 1) := by decide +kernel
theorem dX7_findBest_64 : decode cX7_findBest 64 = .ok (.invokevirtual 219, 3) := by decide +kernel
theorem dX7_findBest_67 : decode cX7_findBest 67 = .ok (.istore 5, 2) := by decide +kernel
theorem dX7_findBest_69 : decode cX7_findBest 69 = .ok (.aload_n 0, 1) := by decide +kernel
theorem dX7_findBest_70 : decode cX7_findBest 70 = .ok (.getfield 213, 3) := by decide +kernel
theorem dX7_findBest_73 : decode cX7_findBest 73 = .ok (.ifCond .lt 12, 3) := by decide +kernel
theorem dX7_findBest_76 : decode cX7_findBest 76 = .ok (.iload 5, 2) := by decide +kernel
theorem dX7_findBest_78 : decode cX7_findBest 78 = .ok (.aload_n 0, 1) := by decide +kernel
theorem dX7_findBest_79 : decode cX7_findBest 79 = .ok (.getfield 222, 3) := by decide +kernel
theorem dX7_findBest_82 : decode cX7_findBest 82 = .ok (.if_icmp .ge 48, 3) := by decide +kernel
theorem dX7_findBest_85 : decode cX7_findBest 85 = .ok (.aload_n 0, 1) := by decide +kernel
theorem dX7_findBest_86 : decode cX7_findBest 86 = .ok (.iload_n 3, 1) := by decide +kernel
theorem dX7_findBest_87 : decode cX7_findBest 87 = .ok (.putfield 213, 3) := by decide +kernel
theorem dX7_findBest_90 : decode cX7_findBest 90 = .ok (.aload_n 0, 1) := by decide +kernel
theorem dX7_findBest_91 : decode cX7_findBest 91 = .ok (.iload 5, 2) := by decide +kernel
theorem dX7_findBest_93 : decode cX7_findBest 93 = .ok (.putfield 222, 3) := by decide +kernel
theorem dX7_findBest_96 : decode cX7_findBest 96 = .ok (.aload_n 0, 1) := by decide +kernel
theorem dX7_findBest_97 : decode cX7_findBest 97 = .ok (.iconst 0, 1) := by decide +kernel
theorem dX7_findBest_98 : decode cX7_findBest 98 = .ok (.putfield 216, 3) := by decide +kernel
theorem dX7_findBest_101 : decode cX7_findBest 101 = .ok (.iconst 0, 1) := by decide +kernel
theorem dX7_findBest_102 : decode cX7_findBest 102 = .ok (.istore 6, 2) := by decide +kernel
theorem dX7_findBest_104 : decode cX7_findBest 104 = .ok (.iload 6, 2) := by decide +kernel
theorem dX7_findBest_106 : decode cX7_findBest 106 = .ok (.iload_n 3, 1) := by decide +kernel
theorem dX7_findBest_107 : decode cX7_findBest 107 = .ok (.if_icmp .ge 23, 3) := by decide +kernel
theorem dX7_findBest_110 : decode cX7_findBest 110 = .ok (.aload_n 0, 1) := by decide +kernel
theorem dX7_findBest_111 : decode cX7_findBest 111 = .ok (.getfield 50, 3) := by decide +kernel
theorem dX7_findBest_114 : decode cX7_findBest 114 = .ok (.iload 6, 2) := by decide +kernel
theorem dX7_findBest_116 : decode cX7_findBest 116 = .ok (.aload_n 0, 1) := by decide +kernel
theorem dX7_findBest_117 : decode cX7_findBest 117 = .ok (.getfield 47, 3) := by decide +kernel
theorem dX7_findBest_120 : decode cX7_findBest 120 = .ok (.iload 6, 2) := by decide +kernel
theorem dX7_findBest_122 : decode cX7_findBest 122 = .ok (.iaload, 1) := by decide +kernel
theorem dX7_findBest_123 : decode cX7_findBest 123 = .ok (.iastore, 1) := by decide +kernel
theorem dX7_findBest_124 : decode cX7_findBest 124 = .ok (.iinc 6 1, 3) := by decide +kernel
theorem dX7_findBest_127 : decode cX7_findBest 127 = .ok (.goto (-23), 3) := by decide +kernel
theorem dX7_findBest_130 : decode cX7_findBest 130 = .ok (.aload_n 0, 1) := by decide +kernel
theorem dX7_findBest_131 : decode cX7_findBest 131 = .ok (.dup, 1) := by decide +kernel
theorem dX7_findBest_132 : decode cX7_findBest 132 = .ok (.getfield 216, 3) := by decide +kernel
theorem dX7_findBest_135 : decode cX7_findBest 135 = .ok (.iload 5, 2) := by decide +kernel
theorem dX7_findBest_137 : decode cX7_findBest 137 = .ok (.aload_n 0, 1) := by decide +kernel
theorem dX7_findBest_138 : decode cX7_findBest 138 = .ok (.getfield 222, 3) := by decide +kernel
theorem dX7_findBest_141 : decode cX7_findBest 141 = .ok (.if_icmp .ne 15, 3) := by decide +kernel
theorem dX7_findBest_144 : decode cX7_findBest 144 = .ok (.iload_n 3, 1) := by decide +kernel
theorem dX7_findBest_145 : decode cX7_findBest 145 = .ok (.aload_n 0, 1) := by decide +kernel
theorem dX7_findBest_146 : decode cX7_findBest 146 = .ok (.getfield 213, 3) := by decide +kernel
theorem dX7_findBest_149 : decode cX7_findBest 149 = .ok (.if_icmp .ne 7, 3) := by decide +kernel
theorem dX7_findBest_152 : decode cX7_findBest 152 = .ok (.iconst 1, 1) := by decide +kernel
theorem dX7_findBest_153 : decode cX7_findBest 153 = .ok (.goto 4, 3) := by decide +kernel
theorem dX7_findBest_156 : decode cX7_findBest 156 = .ok (.iconst 0, 1) := by decide +kernel
theorem dX7_findBest_157 : decode cX7_findBest 157 = .ok (.iadd, 1) := by decide +kernel
theorem dX7_findBest_158 : decode cX7_findBest 158 = .ok (.putfield 216, 3) := by decide +kernel
theorem dX7_findBest_161 : decode cX7_findBest 161 = .ok (.aload_n 0, 1) := by decide +kernel
theorem dX7_findBest_162 : decode cX7_findBest 162 = .ok (.iload_n 3, 1) := by decide +kernel
theorem dX7_findBest_163 : decode cX7_findBest 163 = .ok (.invokevirtual 225, 3) := by decide +kernel
theorem dX7_findBest_166 : decode cX7_findBest 166 = .ok (.istore 4, 2) := by decide +kernel
theorem dX7_findBest_168 : decode cX7_findBest 168 = .ok (.goto (-112), 3) := by decide +kernel
theorem dX7_findBest_171 : decode cX7_findBest 171 = .ok (.iinc 3 1, 3) := by decide +kernel
theorem dX7_findBest_174 : decode cX7_findBest 174 = .ok (.goto (-162), 3) := by decide +kernel
theorem dX7_findBest_177 : decode cX7_findBest 177 = .ok (.return_, 1) := by decide +kernel
theorem dX7_bestOf_0 : decode cX7_bestOf 0 = .ok (.iload_n 1, 1) := by decide +kernel
theorem dX7_bestOf_1 : decode cX7_bestOf 1 = .ok (.aload_n 0, 1) := by decide +kernel
theorem dX7_bestOf_2 : decode cX7_bestOf 2 = .ok (.getfield 213, 3) := by decide +kernel
theorem dX7_bestOf_5 : decode cX7_bestOf 5 = .ok (.if_icmp .ge 12, 3) := by decide +kernel
theorem dX7_bestOf_8 : decode cX7_bestOf 8 = .ok (.aload_n 0, 1) := by decide +kernel
theorem dX7_bestOf_9 : decode cX7_bestOf 9 = .ok (.getfield 50, 3) := by decide +kernel
theorem dX7_bestOf_12 : decode cX7_bestOf 12 = .ok (.iload_n 1, 1) := by decide +kernel
theorem dX7_bestOf_13 : decode cX7_bestOf 13 = .ok (.iaload, 1) := by decide +kernel
theorem dX7_bestOf_14 : decode cX7_bestOf 14 = .ok (.goto 5, 3) := by decide +kernel
theorem dX7_bestOf_17 : decode cX7_bestOf 17 = .ok (.bipush (-5), 2) := by decide +kernel
theorem dX7_bestOf_19 : decode cX7_bestOf 19 = .ok (.ireturn, 1) := by decide +kernel
set_option maxRecDepth 20000 in
theorem ggX7_fewest_X7_isLamp : GoodIn wsX7_fewest wsX7_isLamp := goodIn_r _ [9, 10, 11, 12, 8, 13] (by decide +kernel) (by decide +kernel)
set_option maxRecDepth 20000 in
theorem gX7_fewest_X7_isLamp : GoodIn wsX7_fewest (va_wsS RX7 174 yX7_isLamp wsX7_isLamp) := goodIn_app (goodIn_of _ (by decide +kernel)) ggX7_fewest_X7_isLamp
set_option maxRecDepth 20000 in
theorem ggX7_fewest_X7_isIn : GoodIn wsX7_fewest wsX7_isIn := goodIn_r _ [13] (by decide +kernel) (by decide +kernel)
set_option maxRecDepth 20000 in
theorem gX7_fewest_X7_isIn : GoodIn wsX7_fewest (va_wsS RX7 62 yX7_isIn wsX7_isIn) := goodIn_app (goodIn_of _ (by decide +kernel)) ggX7_fewest_X7_isIn
set_option maxRecDepth 20000 in
theorem ggX7_fewest_X7_findBest : GoodIn wsX7_fewest wsX7_findBest := goodIn_r _ [17, 4, 5, 18, 19, 3, 20, 21, 22, 23, 8, 24, 25, 26, 27, 28, 29, 30, 31, 32, 33, 34, 35, 36, 37, 38, 39, 40, 41, 42, 43, 44, 45, 46, 47, 48, 49, 50, 51, 52, 53, 54, 55, 56, 57, 58, 59, 60, 61, 62, 63, 64, 1, 65, 66, 67, 68, 69, 70, 71, 72, 73, 74, 75, 76, 81, 82, 83, 84, 85, 86, 87, 88, 89, 90, 91, 92, 93, 94, 95, 96, 97, 98, 99, 100, 101, 102, 103, 104, 105, 106] (by decide +kernel) (by decide +kernel)
set_option maxRecDepth 20000 in
theorem gX7_fewest_X7_findBest : GoodIn wsX7_fewest (wsV RX7 230 RX7 yX7_findBest wsX7_findBest) := goodIn_app (goodIn_of _ (by decide +kernel)) ggX7_fewest_X7_findBest
set_option maxRecDepth 20000 in
theorem ggX7_fewest_X7_bestOf : GoodIn wsX7_fewest wsX7_bestOf := goodIn_r _ [80, 4, 20, 81, 82, 83, 84, 85, 86, 87, 88, 89, 90, 91, 92, 93, 94, 95, 96, 97, 98, 99, 100, 101, 102, 103, 104, 105, 106] (by decide +kernel) (by decide +kernel)
set_option maxRecDepth 20000 in
theorem gX7_fewest_X7_bestOf : GoodIn wsX7_fewest (wsV RX7 233 RX7 yX7_bestOf wsX7_bestOf) := goodIn_app (goodIn_of _ (by decide +kernel)) ggX7_fewest_X7_bestOf
theorem dX7_fewest_0 : decode cX7_fewest 0 = .ok (.iload_n 1, 1) := by decide +kernel
theorem dX7_fewest_1 : decode cX7_fewest 1 = .ok (.invokestatic 174, 3) := by decide +kernel
theorem dX7_fewest_4 : decode cX7_fewest 4 = .ok (.ifCond .eq 27, 3) := by decide +kernel
theorem dX7_fewest_7 : decode cX7_fewest 7 = .ok (.iload_n 2, 1) := by decide +kernel
theorem dX7_fewest_8 : decode cX7_fewest 8 = .ok (.i2l, 1) := by decide +kernel
theorem dX7_fewest_9 : decode cX7_fewest 9 = .ok (.lconst 0, 1) := by decide +kernel
theorem dX7_fewest_10 : decode cX7_fewest 10 = .ok (.lconst 1, 1) := by decide +kernel
theorem dX7_fewest_11 : decode cX7_fewest 11 = .ok (.invokestatic 62, 3) := by decide +kernel
theorem dX7_fewest_14 : decode cX7_fewest 14 = .ok (.ifCond .ne 19, 3) := by decide +kernel
theorem dX7_fewest_17 : decode cX7_fewest 17 = .ok (.iload_n 2, 1) := by decide +kernel
theorem dX7_fewest_18 : decode cX7_fewest 18 = .ok (.i2l, 1) := by decide +kernel
theorem dX7_fewest_19 : decode cX7_fewest 19 = .ok (.ldc2_w 106, 3) := by decide +kernel
theorem dX7_fewest_22 : decode cX7_fewest 22 = .ok (.ldc2_w 228, 3) := by decide +kernel
theorem dX7_fewest_25 : decode cX7_fewest 25 = .ok (.invokestatic 62, 3) := by decide +kernel
theorem dX7_fewest_28 : decode cX7_fewest 28 = .ok (.ifCond .ne 5, 3) := by decide +kernel
theorem dX7_fewest_31 : decode cX7_fewest 31 = .ok (.iconst (-1), 1) := by decide +kernel
theorem dX7_fewest_32 : decode cX7_fewest 32 = .ok (.ireturn, 1) := by decide +kernel
theorem dX7_fewest_33 : decode cX7_fewest 33 = .ok (.aload_n 0, 1) := by decide +kernel
theorem dX7_fewest_34 : decode cX7_fewest 34 = .ok (.iconst 4, 1) := by decide +kernel
theorem dX7_fewest_35 : decode cX7_fewest 35 = .ok (.iload_n 1, 1) := by decide +kernel
theorem dX7_fewest_36 : decode cX7_fewest 36 = .ok (.invokevirtual 230, 3) := by decide +kernel
theorem dX7_fewest_39 : decode cX7_fewest 39 = .ok (.aload_n 0, 1) := by decide +kernel
theorem dX7_fewest_40 : decode cX7_fewest 40 = .ok (.getfield 222, 3) := by decide +kernel
theorem dX7_fewest_43 : decode cX7_fewest 43 = .ok (.ifCond .le 6, 3) := by decide +kernel
theorem dX7_fewest_46 : decode cX7_fewest 46 = .ok (.bipush (-5), 2) := by decide +kernel
theorem dX7_fewest_48 : decode cX7_fewest 48 = .ok (.ireturn, 1) := by decide +kernel
theorem dX7_fewest_49 : decode cX7_fewest 49 = .ok (.iload_n 2, 1) := by decide +kernel
theorem dX7_fewest_50 : decode cX7_fewest 50 = .ok (.ifCond .ne 10, 3) := by decide +kernel
theorem dX7_fewest_53 : decode cX7_fewest 53 = .ok (.aload_n 0, 1) := by decide +kernel
theorem dX7_fewest_54 : decode cX7_fewest 54 = .ok (.getfield 213, 3) := by decide +kernel
theorem dX7_fewest_57 : decode cX7_fewest 57 = .ok (.goto 23, 3) := by decide +kernel
theorem dX7_fewest_60 : decode cX7_fewest 60 = .ok (.iload_n 2, 1) := by decide +kernel
theorem dX7_fewest_61 : decode cX7_fewest 61 = .ok (.iconst 1, 1) := by decide +kernel
theorem dX7_fewest_62 : decode cX7_fewest 62 = .ok (.if_icmp .ne 10, 3) := by decide +kernel
theorem dX7_fewest_65 : decode cX7_fewest 65 = .ok (.aload_n 0, 1) := by decide +kernel
theorem dX7_fewest_66 : decode cX7_fewest 66 = .ok (.getfield 216, 3) := by decide +kernel
theorem dX7_fewest_69 : decode cX7_fewest 69 = .ok (.goto 11, 3) := by decide +kernel
theorem dX7_fewest_72 : decode cX7_fewest 72 = .ok (.aload_n 0, 1) := by decide +kernel
theorem dX7_fewest_73 : decode cX7_fewest 73 = .ok (.iload_n 2, 1) := by decide +kernel
theorem dX7_fewest_74 : decode cX7_fewest 74 = .ok (.bipush 10, 2) := by decide +kernel
theorem dX7_fewest_76 : decode cX7_fewest 76 = .ok (.isub, 1) := by decide +kernel
theorem dX7_fewest_77 : decode cX7_fewest 77 = .ok (.invokevirtual 233, 3) := by decide +kernel
theorem dX7_fewest_80 : decode cX7_fewest 80 = .ok (.ireturn, 1) := by decide +kernel
set_option maxRecDepth 20000 in
theorem ggX7_nearest_X7_isLamp : GoodIn wsX7_nearest wsX7_isLamp := goodIn_r _ [8, 9, 10, 11, 7, 12] (by decide +kernel) (by decide +kernel)
set_option maxRecDepth 20000 in
theorem gX7_nearest_X7_isLamp : GoodIn wsX7_nearest (va_wsS RX7 174 yX7_isLamp wsX7_isLamp) := goodIn_app (goodIn_of _ (by decide +kernel)) ggX7_nearest_X7_isLamp
set_option maxRecDepth 20000 in
theorem ggX7_nearest_X7_isIn : GoodIn wsX7_nearest wsX7_isIn := goodIn_r _ [12] (by decide +kernel) (by decide +kernel)
set_option maxRecDepth 20000 in
theorem gX7_nearest_X7_isIn : GoodIn wsX7_nearest (va_wsS RX7 62 yX7_isIn wsX7_isIn) := goodIn_app (goodIn_of _ (by decide +kernel)) ggX7_nearest_X7_isIn
set_option maxRecDepth 20000 in
theorem ggX7_nearest_X7_findBest : GoodIn wsX7_nearest wsX7_findBest := goodIn_r _ [16, 3, 17, 18, 19, 4, 20, 21, 22, 23, 7, 24, 25, 26, 27, 28, 29, 30, 31, 32, 33, 34, 35, 36, 37, 38, 39, 40, 41, 42, 43, 44, 45, 46, 47, 48, 49, 50, 51, 52, 53, 54, 55, 56, 57, 58, 59, 60, 61, 62, 63, 64, 1, 65, 66, 67, 68, 69, 70, 71, 72, 73, 74, 75, 76, 81, 82, 83, 84, 85, 86, 87, 88, 89, 90, 91, 92, 93, 94, 95, 96, 97, 98, 99, 100, 101, 102, 103, 104, 105, 106] (by decide +kernel) (by decide +kernel)
set_option maxRecDepth 20000 in
theorem gX7_nearest_X7_findBest : GoodIn wsX7_nearest (wsV RX7 230 RX7 yX7_findBest wsX7_findBest) := goodIn_app (goodIn_of _ (by decide +kernel)) ggX7_nearest_X7_findBest
set_option maxRecDepth 20000 in
theorem ggX7_nearest_X7_bestOf : GoodIn wsX7_nearest wsX7_bestOf := goodIn_r _ [80, 3, 20, 81, 82, 83, 84, 85, 86, 87, 88, 89, 90, 91, 92, 93, 94, 95, 96, 97, 98, 99, 100, 101, 102, 103, 104, 105, 106] (by decide +kernel) (by decide +kernel)
set_option maxRecDepth 20000 in
theorem gX7_nearest_X7_bestOf : GoodIn wsX7_nearest (wsV RX7 233 RX7 yX7_bestOf wsX7_bestOf) := goodIn_app (goodIn_of _ (by decide +kernel)) ggX7_nearest_X7_bestOf
theorem dX7_nearest_0 : decode cX7_nearest 0 = .ok (.iload_n 1, 1) := by decide +kernel
theorem dX7_nearest_1 : decode cX7_nearest 1 = .ok (.invokestatic 174, 3) := by decide +kernel
theorem dX7_nearest_4 : decode cX7_nearest 4 = .ok (.ifCond .eq 27, 3) := by decide +kernel
theorem dX7_nearest_7 : decode cX7_nearest 7 = .ok (.iload_n 2, 1) := by decide +kernel
theorem dX7_nearest_8 : decode cX7_nearest 8 = .ok (.i2l, 1) := by decide +kernel
theorem dX7_nearest_9 : decode cX7_nearest 9 = .ok (.lconst 0, 1) := by decide +kernel
theorem dX7_nearest_10 : decode cX7_nearest 10 = .ok (.lconst 1, 1) := by decide +kernel
theorem dX7_nearest_11 : decode cX7_nearest 11 = .ok (.invokestatic 62, 3) := by decide +kernel
theorem dX7_nearest_14 : decode cX7_nearest 14 = .ok (.ifCond .ne 19, 3) := by decide +kernel
theorem dX7_nearest_17 : decode cX7_nearest 17 = .ok (.iload_n 2, 1) := by decide +kernel
theorem dX7_nearest_18 : decode cX7_nearest 18 = .ok (.i2l, 1) := by decide +kernel
theorem dX7_nearest_19 : decode cX7_nearest 19 = .ok (.ldc2_w 106, 3) := by decide +kernel
theorem dX7_nearest_22 : decode cX7_nearest 22 = .ok (.ldc2_w 236, 3) := by decide +kernel
theorem dX7_nearest_25 : decode cX7_nearest 25 = .ok (.invokestatic 62, 3) := by decide +kernel
theorem dX7_nearest_28 : decode cX7_nearest 28 = .ok (.ifCond .ne 5, 3) := by decide +kernel
theorem dX7_nearest_31 : decode cX7_nearest 31 = .ok (.iconst (-1), 1) := by decide +kernel
theorem dX7_nearest_32 : decode cX7_nearest 32 = .ok (.ireturn, 1) := by decide +kernel
theorem dX7_nearest_33 : decode cX7_nearest 33 = .ok (.aload_n 0, 1) := by decide +kernel
theorem dX7_nearest_34 : decode cX7_nearest 34 = .ok (.iconst 3, 1) := by decide +kernel
theorem dX7_nearest_35 : decode cX7_nearest 35 = .ok (.iload_n 1, 1) := by decide +kernel
theorem dX7_nearest_36 : decode cX7_nearest 36 = .ok (.invokevirtual 230, 3) := by decide +kernel
theorem dX7_nearest_39 : decode cX7_nearest 39 = .ok (.iload_n 2, 1) := by decide +kernel
theorem dX7_nearest_40 : decode cX7_nearest 40 = .ok (.ifCond .ne 10, 3) := by decide +kernel
theorem dX7_nearest_43 : decode cX7_nearest 43 = .ok (.aload_n 0, 1) := by decide +kernel
theorem dX7_nearest_44 : decode cX7_nearest 44 = .ok (.getfield 213, 3) := by decide +kernel
theorem dX7_nearest_47 : decode cX7_nearest 47 = .ok (.goto 23, 3) := by decide +kernel
theorem dX7_nearest_50 : decode cX7_nearest 50 = .ok (.iload_n 2, 1) := by decide +kernel
theorem dX7_nearest_51 : decode cX7_nearest 51 = .ok (.iconst 1, 1) := by decide +kernel
theorem dX7_nearest_52 : decode cX7_nearest 52 = .ok (.if_icmp .ne 10, 3) := by decide +kernel
theorem dX7_nearest_55 : decode cX7_nearest 55 = .ok (.aload_n 0, 1) := by decide +kernel
theorem dX7_nearest_56 : decode cX7_nearest 56 = .ok (.getfield 222, 3) := by decide +kernel
theorem dX7_nearest_59 : decode cX7_nearest 59 = .ok (.goto 11, 3) := by decide +kernel
theorem dX7_nearest_62 : decode cX7_nearest 62 = .ok (.aload_n 0, 1) := by decide +kernel
theorem dX7_nearest_63 : decode cX7_nearest 63 = .ok (.iload_n 2, 1) := by decide +kernel
theorem dX7_nearest_64 : decode cX7_nearest 64 = .ok (.bipush 10, 2) := by decide +kernel
theorem dX7_nearest_66 : decode cX7_nearest 66 = .ok (.isub, 1) := by decide +kernel
theorem dX7_nearest_67 : decode cX7_nearest 67 = .ok (.invokevirtual 233, 3) := by decide +kernel
theorem dX7_nearest_70 : decode cX7_nearest 70 = .ok (.ireturn, 1) := by decide +kernel
set_option maxRecDepth 20000 in
theorem ggX7_missed_X7_shines : GoodIn wsX7_missed wsX7_shines := goodIn_r _ [7, 8, 9, 10, 6, 11, 12, 13, 14, 15, 16, 17, 18, 19, 20, 21, 22, 23, 24, 25, 26, 27, 28, 29, 30, 31, 32, 33, 34, 35, 36, 37, 38, 39, 40, 41, 42, 43, 44, 45, 46, 47, 69, 70, 71, 72, 73, 74, 75, 76, 77, 78, 79, 80, 81, 82, 83, 84, 85, 86, 87, 88, 89, 90, 91, 92, 93, 94] (by decide +kernel) (by decide +kernel)
set_option maxRecDepth 20000 in
theorem gX7_missed_X7_shines : GoodIn wsX7_missed (wsV RX7 183 RX7 yX7_shines wsX7_shines) := goodIn_app (goodIn_of _ (by decide +kernel)) ggX7_missed_X7_shines
set_option maxRecDepth 20000 in
theorem ggX7_missed_X7_findShades : GoodIn wsX7_missed wsX7_findShades := goodIn_r _ [51, 1, 52, 53, 54, 6, 55, 12, 56, 57, 58, 59, 60, 18, 13, 69, 70, 71, 72, 73, 74, 75, 76, 77, 78, 79, 80, 81, 82, 83, 84, 85, 86, 87, 88, 89, 90, 91, 92, 93, 94] (by decide +kernel) (by decide +kernel)
set_option maxRecDepth 20000 in
theorem gX7_missed_X7_findShades : GoodIn wsX7_missed (wsV RX7 207 RX7 yX7_findShades wsX7_findShades) := goodIn_app (goodIn_of _ (by decide +kernel)) ggX7_missed_X7_findShades
set_option maxRecDepth 20000 in
theorem ggX7_missed_X7_keepShades : GoodIn wsX7_missed wsX7_keepShades := goodIn_r _ [64, 2, 1, 69, 70, 71, 72, 73, 74, 75, 76, 77, 78, 79, 80, 81, 82, 83, 84, 85, 86, 87, 88, 89, 90, 91, 92, 93, 94] (by decide +kernel) (by decide +kernel)
set_option maxRecDepth 20000 in
theorem gX7_missed_X7_keepShades : GoodIn wsX7_missed (wsV RX7 238 RX7 yX7_keepShades wsX7_keepShades) := goodIn_app (goodIn_of _ (by decide +kernel)) ggX7_missed_X7_keepShades
set_option maxRecDepth 20000 in
theorem ggX7_missed_X7_size : GoodIn wsX7_missed wsX7_size := goodIn_r _ [17, 18, 69, 70, 71, 72, 73, 74, 75, 76, 77, 78, 79, 80, 81, 82, 83, 84, 85, 86, 87, 88, 89, 90, 91, 92, 93, 94] (by decide +kernel) (by decide +kernel)
set_option maxRecDepth 20000 in
theorem gX7_missed_X7_size : GoodIn wsX7_missed (wsV RX7 96 RX7 yX7_size wsX7_size) := goodIn_app (goodIn_of _ (by decide +kernel)) ggX7_missed_X7_size
set_option maxRecDepth 20000 in
theorem ggX7_missed_X7_begins : GoodIn wsX7_missed wsX7_begins := goodIn_r _ [11, 12, 13, 69, 70, 71, 72, 73, 74, 75, 76, 77, 78, 79, 80, 81, 82, 83, 84, 85, 86, 87, 88, 89, 90, 91, 92, 93, 94] (by decide +kernel) (by decide +kernel)
set_option maxRecDepth 20000 in
theorem gX7_missed_X7_begins : GoodIn wsX7_missed (wsV RX7 93 RX7 yX7_begins wsX7_begins) := goodIn_app (goodIn_of _ (by decide +kernel)) ggX7_missed_X7_begins
set_option maxRecDepth 20000 in
theorem ggX7_missed_X7_laid : GoodIn wsX7_missed wsX7_laid := goodIn_r _ [22, 18, 69, 70, 71, 72, 73, 74, 75, 76, 77, 78, 79, 80, 81, 82, 83, 84, 85, 86, 87, 88, 89, 90, 91, 92, 93, 94] (by decide +kernel) (by decide +kernel)
set_option maxRecDepth 20000 in
theorem gX7_missed_X7_laid : GoodIn wsX7_missed (wsV RX7 99 RX7 yX7_laid wsX7_laid) := goodIn_app (goodIn_of _ (by decide +kernel)) ggX7_missed_X7_laid
set_option maxRecDepth 20000 in
theorem ggX7_missed_X7_lays : GoodIn wsX7_missed wsX7_lays := goodIn_r _ [26, 12, 27, 13, 28, 29, 30, 6, 31, 32, 33, 34, 35, 18, 36, 37, 38, 39, 40, 41, 42, 43, 44, 45, 46, 47, 69, 70, 71, 72, 73, 74, 75, 76, 77, 78, 79, 80, 81, 82, 83, 84, 85, 86, 87, 88, 89, 90, 91, 92, 93, 94] (by decide +kernel) (by decide +kernel)
set_option maxRecDepth 20000 in
theorem gX7_missed_X7_lays : GoodIn wsX7_missed (wsV RX7 102 RX7 yX7_lays wsX7_lays) := goodIn_app (goodIn_of _ (by decide +kernel)) ggX7_missed_X7_lays
set_option maxRecDepth 20000 in
theorem ggX7_missed_X7_apartFrom : GoodIn wsX7_missed wsX7_apartFrom := goodIn_r _ [68] (by decide +kernel) (by decide +kernel)
set_option maxRecDepth 20000 in
theorem gX7_missed_X7_apartFrom : GoodIn wsX7_missed (wsV RX7 210 RX7 yX7_apartFrom wsX7_apartFrom) := goodIn_app (goodIn_of _ (by decide +kernel)) ggX7_missed_X7_apartFrom
theorem dX7_missed_0 : decode cX7_missed 0 = .ok (.aload_n 0, 1) := by decide +kernel
theorem dX7_missed_1 : decode cX7_missed 1 = .ok (.iload_n 1, 1) := by decide +kernel
theorem dX7_missed_2 : decode cX7_missed 2 = .ok (.invokevirtual 183, 3) := by decide +kernel
theorem dX7_missed_5 : decode cX7_missed 5 = .ok (.aload_n 0, 1) := by decide +kernel
theorem dX7_missed_6 : decode cX7_missed 6 = .ok (.iload_n 2, 1) := by decide +kernel
theorem dX7_missed_7 : decode cX7_missed 7 = .ok (.invokevirtual 207, 3) := by decide +kernel
theorem dX7_missed_10 : decode cX7_missed 10 = .ok (.aload_n 0, 1) := by decide +kernel
theorem dX7_missed_11 : decode cX7_missed 11 = .ok (.invokevirtual 238, 3) := by decide +kernel
theorem dX7_missed_14 : decode cX7_missed 14 = .ok (.iconst 0, 1) := by decide +kernel
theorem dX7_missed_15 : decode cX7_missed 15 = .ok (.istore 4, 2) := by decide +kernel
theorem dX7_missed_17 : decode cX7_missed 17 = .ok (.iconst (-1), 1) := by decide +kernel
theorem dX7_missed_18 : decode cX7_missed 18 = .ok (.istore 5, 2) := by decide +kernel
theorem dX7_missed_20 : decode cX7_missed 20 = .ok (.iconst 0, 1) := by decide +kernel
theorem dX7_missed_21 : decode cX7_missed 21 = .ok (.istore 6, 2) := by decide +kernel
theorem dX7_missed_23 : decode cX7_missed 23 = .ok (.iload 6, 2) := by decide +kernel
theorem dX7_missed_25 : decode cX7_missed 25 = .ok (.aload_n 0, 1) := by decide +kernel
theorem dX7_missed_26 : decode cX7_missed 26 = .ok (.iload_n 1, 1) := by decide +kernel
theorem dX7_missed_27 : decode cX7_missed 27 = .ok (.invokevirtual 96, 3) := by decide +kernel
theorem dX7_missed_30 : decode cX7_missed 30 = .ok (.if_icmp .ge 125, 3) := by decide +kernel
theorem dX7_missed_33 : decode cX7_missed 33 = .ok (.aload_n 0, 1) := by decide +kernel
theorem dX7_missed_34 : decode cX7_missed 34 = .ok (.invokevirtual 93, 3) := by decide +kernel
theorem dX7_missed_37 : decode cX7_missed 37 = .ok (.iconst 0, 1) := by decide +kernel
theorem dX7_missed_38 : decode cX7_missed 38 = .ok (.istore 7, 2) := by decide +kernel
theorem dX7_missed_40 : decode cX7_missed 40 = .ok (.iload 7, 2) := by decide +kernel
theorem dX7_missed_42 : decode cX7_missed 42 = .ok (.aload_n 0, 1) := by decide +kernel
theorem dX7_missed_43 : decode cX7_missed 43 = .ok (.iload_n 1, 1) := by decide +kernel
theorem dX7_missed_44 : decode cX7_missed 44 = .ok (.invokevirtual 96, 3) := by decide +kernel
theorem dX7_missed_47 : decode cX7_missed 47 = .ok (.if_icmp .ge 27, 3) := by decide +kernel
theorem dX7_missed_50 : decode cX7_missed 50 = .ok (.iload 7, 2) := by decide +kernel
theorem dX7_missed_52 : decode cX7_missed 52 = .ok (.iload 6, 2) := by decide +kernel
theorem dX7_missed_54 : decode cX7_missed 54 = .ok (.if_icmp .eq 14, 3) := by decide +kernel
theorem dX7_missed_57 : decode cX7_missed 57 = .ok (.aload_n 0, 1) := by decide +kernel
theorem dX7_missed_58 : decode cX7_missed 58 = .ok (.aload_n 0, 1) := by decide +kernel
theorem dX7_missed_59 : decode cX7_missed 59 = .ok (.iload_n 1, 1) := by decide +kernel
theorem dX7_missed_60 : decode cX7_missed 60 = .ok (.iload 7, 2) := by decide +kernel
theorem dX7_missed_62 : decode cX7_missed 62 = .ok (.invokevirtual 99, 3) := by decide +kernel
theorem dX7_missed_65 : decode cX7_missed 65 = .ok (.invokevirtual 102, 3) := by decide +kernel
theorem dX7_missed_68 : decode cX7_missed 68 = .ok (.iinc 7 1, 3) := by decide +kernel
theorem dX7_missed_71 : decode cX7_missed 71 = .ok (.goto (-31), 3) := by decide +kernel
theorem dX7_missed_74 : decode cX7_missed 74 = .ok (.aload_n 0, 1) := by decide +kernel
theorem dX7_missed_75 : decode cX7_missed 75 = .ok (.iload_n 2, 1) := by decide +kernel
theorem dX7_missed_76 : decode cX7_missed 76 = .ok (.invokevirtual 207, 3) := by decide +kernel
theorem dX7_missed_79 : decode cX7_missed 79 = .ok (.aload_n 0, 1) := by decide +kernel
theorem dX7_missed_80 : decode cX7_missed 80 = .ok (.aload_n 0, 1) := by decide +kernel
theorem dX7_missed_81 : decode cX7_missed 81 = .ok (.getfield 22, 3) := by decide +kernel
theorem dX7_missed_84 : decode cX7_missed 84 = .ok (.iconst 0, 1) := by decide +kernel
theorem dX7_missed_85 : decode cX7_missed 85 = .ok (.iaload, 1) := by decide +kernel
theorem dX7_missed_86 : decode cX7_missed 86 = .ok (.aload_n 0, 1) := by decide +kernel
theorem dX7_missed_87 : decode cX7_missed 87 = .ok (.getfield 25, 3) := by decide +kernel
theorem dX7_missed_90 : decode cX7_missed 90 = .ok (.iconst 0, 1) := by decide +kernel
theorem dX7_missed_91 : decode cX7_missed 91 = .ok (.iaload, 1) := by decide +kernel
theorem dX7_missed_92 : decode cX7_missed 92 = .ok (.invokevirtual 210, 3) := by decide +kernel
theorem dX7_missed_95 : decode cX7_missed 95 = .ok (.aload_n 0, 1) := by decide +kernel
theorem dX7_missed_96 : decode cX7_missed 96 = .ok (.aload_n 0, 1) := by decide +kernel
theorem dX7_missed_97 : decode cX7_missed 97 = .ok (.getfield 22, 3) := by decide +kernel
theorem dX7_missed_100 : decode cX7_missed 100 = .ok (.iconst 1, 1) := by decide +kernel
theorem dX7_missed_101 : decode cX7_missed 101 = .ok (.iaload, 1) := by decide +kernel
theorem dX7_missed_102 : decode cX7_missed 102 = .ok (.aload_n 0, 1) := by decide +kernel
theorem dX7_missed_103 : decode cX7_missed 103 = .ok (.getfield 25, 3) := by decide +kernel
theorem dX7_missed_106 : decode cX7_missed 106 = .ok (.iconst 1, 1) := by decide +kernel
theorem dX7_missed_107 : decode cX7_missed 107 = .ok (.iaload, 1) := by decide +kernel
theorem dX7_missed_108 : decode cX7_missed 108 = .ok (.invokevirtual 210, 3) := by decide +kernel
theorem dX7_missed_111 : decode cX7_missed 111 = .ok (.iadd, 1) := by decide +kernel
theorem dX7_missed_112 : decode cX7_missed 112 = .ok (.aload_n 0, 1) := by decide +kernel
theorem dX7_missed_113 : decode cX7_missed 113 = .ok (.aload_n 0, 1) := by decide +kernel
theorem dX7_missed_114 : decode cX7_missed 114 = .ok (.getfield 22, 3) := by decide +kernel
theorem dX7_missed_117 : decode cX7_missed 117 = .ok (.iconst 2, 1) := by decide +kernel
theorem dX7_missed_118 : decode cX7_missed 118 = .ok (.iaload, 1) := by decide +kernel
theorem dX7_missed_119 : decode cX7_missed 119 = .ok (.aload_n 0, 1) := by decide +kernel
theorem dX7_missed_120 : decode cX7_missed 120 = .ok (.getfield 25, 3) := by decide +kernel
theorem dX7_missed_123 : decode cX7_missed 123 = .ok (.iconst 2, 1) := by decide +kernel
theorem dX7_missed_124 : decode cX7_missed 124 = .ok (.iaload, 1) := by decide +kernel
theorem dX7_missed_125 : decode cX7_missed 125 = .ok (.invokevirtual 210, 3) := by decide +kernel
theorem dX7_missed_128 : decode cX7_missed 128 = .ok (.iadd, 1) := by decide +kernel
theorem dX7_missed_129 : decode cX7_missed 129 = .ok (.istore 7, 2) := by decide +kernel
theorem dX7_missed_131 : decode cX7_missed 131 = .ok (.iload 7, 2) := by decide +kernel
theorem dX7_missed_133 : decode cX7_missed 133 = .ok (.iload 5, 2) := by decide +kernel
theorem dX7_missed_135 : decode cX7_missed 135 = .ok (.if_icmp .gt 6, 3) := by decide +kernel
theorem dX7_missed_138 : decode cX7_missed 138 = .ok (.goto 11, 3) := by decide +kernel
theorem dX7_missed_141 : decode cX7_missed 141 = .ok (.iload 7, 2) := by decide +kernel
theorem dX7_missed_143 : decode cX7_missed 143 = .ok (.istore 5, 2) := by decide +kernel
theorem dX7_missed_145 : decode cX7_missed 145 = .ok (.iload 6, 2) := by decide +kernel
theorem dX7_missed_147 : decode cX7_missed 147 = .ok (.istore 4, 2) := by decide +kernel
theorem dX7_missed_149 : decode cX7_missed 149 = .ok (.iinc 6 1, 3) := by decide +kernel
theorem dX7_missed_152 : decode cX7_missed 152 = .ok (.goto (-129), 3) := by decide +kernel
theorem dX7_missed_155 : decode cX7_missed 155 = .ok (.iload_n 3, 1) := by decide +kernel
theorem dX7_missed_156 : decode cX7_missed 156 = .ok (.ifCond .eq 8, 3) := by decide +kernel
theorem dX7_missed_159 : decode cX7_missed 159 = .ok (.iload 4, 2) := by decide +kernel
theorem dX7_missed_161 : decode cX7_missed 161 = .ok (.goto 5, 3) := by decide +kernel
theorem dX7_missed_164 : decode cX7_missed 164 = .ok (.iload 5, 2) := by decide +kernel
theorem dX7_missed_166 : decode cX7_missed 166 = .ok (.ireturn, 1) := by decide +kernel
set_option maxRecDepth 20000 in
theorem ggX7_without_X7_isStack : GoodIn wsX7_without wsX7_isStack := goodIn_r _ [5, 6, 7, 8, 4, 9, 84, 85, 86, 87, 88, 89, 90, 91, 92, 93, 94, 95, 96, 97, 98, 99, 100, 101, 102, 103, 104, 105, 106, 107, 108, 109] (by decide +kernel) (by decide +kernel)
set_option maxRecDepth 20000 in
theorem gX7_without_X7_isStack : GoodIn wsX7_without (wsV RX7 169 RX7 yX7_isStack wsX7_isStack) := goodIn_app (goodIn_of _ (by decide +kernel)) ggX7_without_X7_isStack
set_option maxRecDepth 20000 in
theorem ggX7_without_X7_isLamp : GoodIn wsX7_without wsX7_isLamp := goodIn_r _ [12, 13, 7, 8, 4, 9] (by decide +kernel) (by decide +kernel)
set_option maxRecDepth 20000 in
theorem gX7_without_X7_isLamp : GoodIn wsX7_without (va_wsS RX7 174 yX7_isLamp wsX7_isLamp) := goodIn_app (goodIn_of _ (by decide +kernel)) ggX7_without_X7_isLamp
set_option maxRecDepth 20000 in
theorem ggX7_without_X7_isIn : GoodIn wsX7_without wsX7_isIn := goodIn_r _ [9] (by decide +kernel) (by decide +kernel)
set_option maxRecDepth 20000 in
theorem gX7_without_X7_isIn : GoodIn wsX7_without (va_wsS RX7 62 yX7_isIn wsX7_isIn) := goodIn_app (goodIn_of _ (by decide +kernel)) ggX7_without_X7_isIn
set_option maxRecDepth 20000 in
theorem ggX7_without_X7_size : GoodIn wsX7_without wsX7_size := goodIn_r _ [17, 6, 84, 85, 86, 87, 88, 89, 90, 91, 92, 93, 94, 95, 96, 97, 98, 99, 100, 101, 102, 103, 104, 105, 106, 107, 108, 109] (by decide +kernel) (by decide +kernel)
set_option maxRecDepth 20000 in
theorem gX7_without_X7_size : GoodIn wsX7_without (wsV RX7 96 RX7 yX7_size wsX7_size) := goodIn_app (goodIn_of _ (by decide +kernel)) ggX7_without_X7_size
set_option maxRecDepth 20000 in
theorem ggX7_without_X7_missed : GoodIn wsX7_without wsX7_missed := goodIn_r _ [21, 22, 23, 24, 25, 26, 4, 27, 28, 29, 30, 31, 32, 33, 14, 15, 16, 17, 6, 34, 35, 36, 37, 38, 39, 40, 41, 42, 43, 44, 45, 46, 47, 48, 49, 50, 51, 52, 53, 54, 55, 56, 57, 58, 59, 60, 61, 62, 63, 64, 65, 66, 67, 68, 69, 70, 71, 72, 73, 74, 75, 76, 77, 78, 79, 80, 81, 82, 83, 84, 85, 86, 87, 88, 89, 90, 91, 92, 93, 94, 95, 96, 97, 98, 99, 100, 101, 102, 103, 104, 105, 106, 107, 108, 109] (by decide +kernel) (by decide +kernel)
set_option maxRecDepth 20000 in
theorem gX7_without_X7_missed : GoodIn wsX7_without (wsV RX7 241 RX7 yX7_missed wsX7_missed) := goodIn_app (goodIn_of _ (by decide +kernel)) ggX7_without_X7_missed
theorem dX7_without_0 : decode cX7_without 0 = .ok (.aload_n 0, 1) := by decide +kernel
theorem dX7_without_1 : decode cX7_without 1 = .ok (.iload_n 1, 1) := by decide +kernel
theorem dX7_without_2 : decode cX7_without 2 = .ok (.invokevirtual 169, 3) := by decide +kernel
theorem dX7_without_5 : decode cX7_without 5 = .ok (.ifCond .eq 20, 3) := by decide +kernel
theorem dX7_without_8 : decode cX7_without 8 = .ok (.iload_n 2, 1) := by decide +kernel
theorem dX7_without_9 : decode cX7_without 9 = .ok (.invokestatic 174, 3) := by decide +kernel
theorem dX7_without_12 : decode cX7_without 12 = .ok (.ifCond .eq 13, 3) := by decide +kernel
theorem dX7_without_15 : decode cX7_without 15 = .ok (.iload_n 3, 1) := by decide +kernel
theorem dX7_without_16 : decode cX7_without 16 = .ok (.i2l, 1) := by decide +kernel
theorem dX7_without_17 : decode cX7_without 17 = .ok (.lconst 0, 1) := by decide +kernel
theorem dX7_without_18 : decode cX7_without 18 = .ok (.lconst 1, 1) := by decide +kernel
theorem dX7_without_19 : decode cX7_without 19 = .ok (.invokestatic 62, 3) := by decide +kernel
theorem dX7_without_22 : decode cX7_without 22 = .ok (.ifCond .ne 5, 3) := by decide +kernel
theorem dX7_without_25 : decode cX7_without 25 = .ok (.iconst (-1), 1) := by decide +kernel
theorem dX7_without_26 : decode cX7_without 26 = .ok (.ireturn, 1) := by decide +kernel
theorem dX7_without_27 : decode cX7_without 27 = .ok (.aload_n 0, 1) := by decide +kernel
theorem dX7_without_28 : decode cX7_without 28 = .ok (.iload_n 1, 1) := by decide +kernel
theorem dX7_without_29 : decode cX7_without 29 = .ok (.invokevirtual 96, 3) := by decide +kernel
theorem dX7_without_32 : decode cX7_without 32 = .ok (.ifCond .ne 8, 3) := by decide +kernel
theorem dX7_without_35 : decode cX7_without 35 = .ok (.bipush (-3), 2) := by decide +kernel
theorem dX7_without_37 : decode cX7_without 37 = .ok (.goto 18, 3) := by decide +kernel
theorem dX7_without_40 : decode cX7_without 40 = .ok (.aload_n 0, 1) := by decide +kernel
theorem dX7_without_41 : decode cX7_without 41 = .ok (.iload_n 1, 1) := by decide +kernel
theorem dX7_without_42 : decode cX7_without 42 = .ok (.iload_n 2, 1) := by decide +kernel
theorem dX7_without_43 : decode cX7_without 43 = .ok (.iload_n 3, 1) := by decide +kernel
theorem dX7_without_44 : decode cX7_without 44 = .ok (.ifCond .ne 7, 3) := by decide +kernel
theorem dX7_without_47 : decode cX7_without 47 = .ok (.iconst 1, 1) := by decide +kernel
theorem dX7_without_48 : decode cX7_without 48 = .ok (.goto 4, 3) := by decide +kernel
theorem dX7_without_51 : decode cX7_without 51 = .ok (.iconst 0, 1) := by decide +kernel
theorem dX7_without_52 : decode cX7_without 52 = .ok (.invokevirtual 241, 3) := by decide +kernel
theorem dX7_without_55 : decode cX7_without 55 = .ok (.ireturn, 1) := by decide +kernel
set_option maxRecDepth 20000 in
theorem ggX7_dark_X7_isStack : GoodIn wsX7_dark wsX7_isStack := goodIn_r _ [6, 7, 8, 9, 5, 10, 75, 76, 77, 78, 79, 80, 81, 82, 83, 84, 85, 86, 87, 88, 89, 90, 91, 92, 93, 94, 95, 96, 97, 98, 99, 100] (by decide +kernel) (by decide +kernel)
set_option maxRecDepth 20000 in
theorem gX7_dark_X7_isStack : GoodIn wsX7_dark (wsV RX7 169 RX7 yX7_isStack wsX7_isStack) := goodIn_app (goodIn_of _ (by decide +kernel)) ggX7_dark_X7_isStack
set_option maxRecDepth 20000 in
theorem ggX7_dark_X7_isLamp : GoodIn wsX7_dark wsX7_isLamp := goodIn_r _ [13, 14, 8, 9, 5, 10] (by decide +kernel) (by decide +kernel)
set_option maxRecDepth 20000 in
theorem gX7_dark_X7_isLamp : GoodIn wsX7_dark (va_wsS RX7 174 yX7_isLamp wsX7_isLamp) := goodIn_app (goodIn_of _ (by decide +kernel)) ggX7_dark_X7_isLamp
set_option maxRecDepth 20000 in
theorem ggX7_dark_X7_isSheet : GoodIn wsX7_dark wsX7_isSheet := goodIn_r _ [18, 7, 8, 9, 5, 10, 75, 76, 77, 78, 79, 80, 81, 82, 83, 84, 85, 86, 87, 88, 89, 90, 91, 92, 93, 94, 95, 96, 97, 98, 99, 100] (by decide +kernel) (by decide +kernel)
set_option maxRecDepth 20000 in
theorem gX7_dark_X7_isSheet : GoodIn wsX7_dark (wsV RX7 153 RX7 yX7_isSheet wsX7_isSheet) := goodIn_app (goodIn_of _ (by decide +kernel)) ggX7_dark_X7_isSheet
set_option maxRecDepth 20000 in
theorem ggX7_dark_X7_shines : GoodIn wsX7_dark wsX7_shines := goodIn_r _ [22, 23, 24, 25, 5, 26, 27, 28, 29, 30, 31, 32, 7, 33, 34, 35, 36, 37, 38, 39, 40, 41, 42, 43, 44, 45, 46, 47, 48, 49, 50, 51, 52, 53, 54, 55, 56, 57, 58, 59, 60, 61, 75, 76, 77, 78, 79, 80, 81, 82, 83, 84, 85, 86, 87, 88, 89, 90, 91, 92, 93, 94, 95, 96, 97, 98, 99, 100] (by decide +kernel) (by decide +kernel)
set_option maxRecDepth 20000 in
theorem gX7_dark_X7_shines : GoodIn wsX7_dark (wsV RX7 183 RX7 yX7_shines wsX7_shines) := goodIn_app (goodIn_of _ (by decide +kernel)) ggX7_dark_X7_shines
set_option maxRecDepth 20000 in
theorem ggX7_dark_X7_size : GoodIn wsX7_dark wsX7_size := goodIn_r _ [32, 7, 75, 76, 77, 78, 79, 80, 81, 82, 83, 84, 85, 86, 87, 88, 89, 90, 91, 92, 93, 94, 95, 96, 97, 98, 99, 100] (by decide +kernel) (by decide +kernel)
set_option maxRecDepth 20000 in
theorem gX7_dark_X7_size : GoodIn wsX7_dark (wsV RX7 96 RX7 yX7_size wsX7_size) := goodIn_app (goodIn_of _ (by decide +kernel)) ggX7_dark_X7_size
set_option maxRecDepth 20000 in
theorem ggX7_dark_X7_lays : GoodIn wsX7_dark wsX7_lays := goodIn_r _ [40, 27, 41, 28, 42, 43, 44, 5, 45, 46, 47, 48, 49, 7, 50, 51, 52, 53, 54, 55, 56, 57, 58, 59, 60, 61, 75, 76, 77, 78, 79, 80, 81, 82, 83, 84, 85, 86, 87, 88, 89, 90, 91, 92, 93, 94, 95, 96, 97, 98, 99, 100] (by decide +kernel) (by decide +kernel)
set_option maxRecDepth 20000 in
theorem gX7_dark_X7_lays : GoodIn wsX7_dark (wsV RX7 102 RX7 yX7_lays wsX7_lays) := goodIn_app (goodIn_of _ (by decide +kernel)) ggX7_dark_X7_lays
set_option maxRecDepth 20000 in
theorem ggX7_dark_X7_findShades : GoodIn wsX7_dark wsX7_findShades := goodIn_r _ [65, 1, 66, 67, 68, 5, 69, 27, 70, 71, 72, 73, 74, 7, 28, 75, 76, 77, 78, 79, 80, 81, 82, 83, 84, 85, 86, 87, 88, 89, 90, 91, 92, 93, 94, 95, 96, 97, 98, 99, 100] (by decide +kernel) (by decide +kernel)
set_option maxRecDepth 20000 in
theorem gX7_dark_X7_findShades : GoodIn wsX7_dark (wsV RX7 207 RX7 yX7_findShades wsX7_findShades) := goodIn_app (goodIn_of _ (by decide +kernel)) ggX7_dark_X7_findShades
theorem dX7_dark_0 : decode cX7_dark 0 = .ok (.aload_n 0, 1) := by decide +kernel
theorem dX7_dark_1 : decode cX7_dark 1 = .ok (.iload_n 1, 1) := by decide +kernel
theorem dX7_dark_2 : decode cX7_dark 2 = .ok (.invokevirtual 169, 3) := by decide +kernel
theorem dX7_dark_5 : decode cX7_dark 5 = .ok (.ifCond .eq 18, 3) := by decide +kernel
theorem dX7_dark_8 : decode cX7_dark 8 = .ok (.iload_n 2, 1) := by decide +kernel
theorem dX7_dark_9 : decode cX7_dark 9 = .ok (.invokestatic 174, 3) := by decide +kernel
theorem dX7_dark_12 : decode cX7_dark 12 = .ok (.ifCond .eq 11, 3) := by decide +kernel
theorem dX7_dark_15 : decode cX7_dark 15 = .ok (.aload_n 0, 1) := by decide +kernel
theorem dX7_dark_16 : decode cX7_dark 16 = .ok (.iload_n 3, 1) := by decide +kernel
theorem dX7_dark_17 : decode cX7_dark 17 = .ok (.invokevirtual 153, 3) := by decide +kernel
theorem dX7_dark_20 : decode cX7_dark 20 = .ok (.ifCond .ne 5, 3) := by decide +kernel
theorem dX7_dark_23 : decode cX7_dark 23 = .ok (.iconst (-1), 1) := by decide +kernel
theorem dX7_dark_24 : decode cX7_dark 24 = .ok (.ireturn, 1) := by decide +kernel
theorem dX7_dark_25 : decode cX7_dark 25 = .ok (.aload_n 0, 1) := by decide +kernel
theorem dX7_dark_26 : decode cX7_dark 26 = .ok (.iload_n 1, 1) := by decide +kernel
theorem dX7_dark_27 : decode cX7_dark 27 = .ok (.invokevirtual 183, 3) := by decide +kernel
theorem dX7_dark_30 : decode cX7_dark 30 = .ok (.iconst 0, 1) := by decide +kernel
theorem dX7_dark_31 : decode cX7_dark 31 = .ok (.istore 4, 2) := by decide +kernel
theorem dX7_dark_33 : decode cX7_dark 33 = .ok (.iload 4, 2) := by decide +kernel
theorem dX7_dark_35 : decode cX7_dark 35 = .ok (.aload_n 0, 1) := by decide +kernel
theorem dX7_dark_36 : decode cX7_dark 36 = .ok (.iload_n 1, 1) := by decide +kernel
theorem dX7_dark_37 : decode cX7_dark 37 = .ok (.invokevirtual 96, 3) := by decide +kernel
theorem dX7_dark_40 : decode cX7_dark 40 = .ok (.iadd, 1) := by decide +kernel
theorem dX7_dark_41 : decode cX7_dark 41 = .ok (.bipush 8, 2) := by decide +kernel
theorem dX7_dark_43 : decode cX7_dark 43 = .ok (.if_icmp .gt 50, 3) := by decide +kernel
theorem dX7_dark_46 : decode cX7_dark 46 = .ok (.iload 4, 2) := by decide +kernel
theorem dX7_dark_48 : decode cX7_dark 48 = .ok (.ifCond .le 8, 3) := by decide +kernel
theorem dX7_dark_51 : decode cX7_dark 51 = .ok (.aload_n 0, 1) := by decide +kernel
theorem dX7_dark_52 : decode cX7_dark 52 = .ok (.iload_n 3, 1) := by decide +kernel
theorem dX7_dark_53 : decode cX7_dark 53 = .ok (.invokevirtual 102, 3) := by decide +kernel
theorem dX7_dark_56 : decode cX7_dark 56 = .ok (.aload_n 0, 1) := by decide +kernel
theorem dX7_dark_57 : decode cX7_dark 57 = .ok (.iload_n 2, 1) := by decide +kernel
theorem dX7_dark_58 : decode cX7_dark 58 = .ok (.invokevirtual 207, 3) := by decide +kernel
theorem dX7_dark_61 : decode cX7_dark 61 = .ok (.aload_n 0, 1) := by decide +kernel
theorem dX7_dark_62 : decode cX7_dark 62 = .ok (.getfield 22, 3) := by decide +kernel
theorem dX7_dark_65 : decode cX7_dark 65 = .ok (.iconst 0, 1) := by decide +kernel
theorem dX7_dark_66 : decode cX7_dark 66 = .ok (.iaload, 1) := by decide +kernel
theorem dX7_dark_67 : decode cX7_dark 67 = .ok (.aload_n 0, 1) := by decide +kernel
theorem dX7_dark_68 : decode cX7_dark 68 = .ok (.getfield 22, 3) := by decide +kernel
theorem dX7_dark_71 : decode cX7_dark 71 = .ok (.iconst 1, 1) := by decide +kernel
theorem dX7_dark_72 : decode cX7_dark 72 = .ok (.iaload, 1) := by decide +kernel
theorem dX7_dark_73 : decode cX7_dark 73 = .ok (.iadd, 1) := by decide +kernel
theorem dX7_dark_74 : decode cX7_dark 74 = .ok (.aload_n 0, 1) := by decide +kernel
theorem dX7_dark_75 : decode cX7_dark 75 = .ok (.getfield 22, 3) := by decide +kernel
theorem dX7_dark_78 : decode cX7_dark 78 = .ok (.iconst 2, 1) := by decide +kernel
theorem dX7_dark_79 : decode cX7_dark 79 = .ok (.iaload, 1) := by decide +kernel
theorem dX7_dark_80 : decode cX7_dark 80 = .ok (.iadd, 1) := by decide +kernel
theorem dX7_dark_81 : decode cX7_dark 81 = .ok (.ifCond .ne 6, 3) := by decide +kernel
theorem dX7_dark_84 : decode cX7_dark 84 = .ok (.iload 4, 2) := by decide +kernel
theorem dX7_dark_86 : decode cX7_dark 86 = .ok (.ireturn, 1) := by decide +kernel
theorem dX7_dark_87 : decode cX7_dark 87 = .ok (.iinc 4 1, 3) := by decide +kernel
theorem dX7_dark_90 : decode cX7_dark 90 = .ok (.goto (-57), 3) := by decide +kernel
theorem dX7_dark_93 : decode cX7_dark 93 = .ok (.bipush (-5), 2) := by decide +kernel
theorem dX7_dark_95 : decode cX7_dark 95 = .ok (.ireturn, 1) := by decide +kernel
set_option maxRecDepth 20000 in
theorem ggX7_fades_X7_isStack : GoodIn wsX7_fades wsX7_isStack := goodIn_r _ [6, 7, 8, 9, 5, 10, 71, 72, 73, 74, 75, 76, 77, 78, 79, 80, 81, 82, 83, 84, 85, 86, 87, 88, 89, 90, 91, 92, 93, 94, 95, 96] (by decide +kernel) (by decide +kernel)
set_option maxRecDepth 20000 in
theorem gX7_fades_X7_isStack : GoodIn wsX7_fades (wsV RX7 169 RX7 yX7_isStack wsX7_isStack) := goodIn_app (goodIn_of _ (by decide +kernel)) ggX7_fades_X7_isStack
set_option maxRecDepth 20000 in
theorem ggX7_fades_X7_isLamp : GoodIn wsX7_fades wsX7_isLamp := goodIn_r _ [13, 14, 8, 9, 5, 10] (by decide +kernel) (by decide +kernel)
set_option maxRecDepth 20000 in
theorem gX7_fades_X7_isLamp : GoodIn wsX7_fades (va_wsS RX7 174 yX7_isLamp wsX7_isLamp) := goodIn_app (goodIn_of _ (by decide +kernel)) ggX7_fades_X7_isLamp
set_option maxRecDepth 20000 in
theorem ggX7_fades_X7_shines : GoodIn wsX7_fades wsX7_shines := goodIn_r _ [18, 19, 20, 21, 5, 22, 23, 24, 25, 26, 27, 28, 7, 29, 30, 31, 32, 33, 34, 35, 36, 37, 38, 39, 40, 41, 42, 43, 44, 45, 46, 47, 48, 49, 50, 51, 52, 53, 54, 55, 56, 57, 71, 72, 73, 74, 75, 76, 77, 78, 79, 80, 81, 82, 83, 84, 85, 86, 87, 88, 89, 90, 91, 92, 93, 94, 95, 96] (by decide +kernel) (by decide +kernel)
set_option maxRecDepth 20000 in
theorem gX7_fades_X7_shines : GoodIn wsX7_fades (wsV RX7 183 RX7 yX7_shines wsX7_shines) := goodIn_app (goodIn_of _ (by decide +kernel)) ggX7_fades_X7_shines
set_option maxRecDepth 20000 in
theorem ggX7_fades_X7_findShades : GoodIn wsX7_fades wsX7_findShades := goodIn_r _ [61, 1, 62, 63, 64, 5, 65, 23, 66, 67, 68, 69, 70, 7, 24, 71, 72, 73, 74, 75, 76, 77, 78, 79, 80, 81, 82, 83, 84, 85, 86, 87, 88, 89, 90, 91, 92, 93, 94, 95, 96] (by decide +kernel) (by decide +kernel)
set_option maxRecDepth 20000 in
theorem gX7_fades_X7_findShades : GoodIn wsX7_fades (wsV RX7 207 RX7 yX7_findShades wsX7_findShades) := goodIn_app (goodIn_of _ (by decide +kernel)) ggX7_fades_X7_findShades
set_option maxRecDepth 20000 in
theorem ggX7_fades_X7_shadeOf : GoodIn wsX7_fades wsX7_shadeOf := goodIn_r _ [65, 23, 66, 67, 68, 69, 5, 70, 7, 24, 71, 72, 73, 74, 75, 76, 77, 78, 79, 80, 81, 82, 83, 84, 85, 86, 87, 88, 89, 90, 91, 92, 93, 94, 95, 96] (by decide +kernel) (by decide +kernel)
set_option maxRecDepth 20000 in
theorem gX7_fades_X7_shadeOf : GoodIn wsX7_fades (wsV RX7 112 RX7 yX7_shadeOf wsX7_shadeOf) := goodIn_app (goodIn_of _ (by decide +kernel)) ggX7_fades_X7_shadeOf
theorem dX7_fades_0 : decode cX7_fades 0 = .ok (.aload_n 0, 1) := by decide +kernel
theorem dX7_fades_1 : decode cX7_fades 1 = .ok (.iload_n 1, 1) := by decide +kernel
theorem dX7_fades_2 : decode cX7_fades 2 = .ok (.invokevirtual 169, 3) := by decide +kernel
theorem dX7_fades_5 : decode cX7_fades 5 = .ok (.ifCond .eq 10, 3) := by decide +kernel
theorem dX7_fades_8 : decode cX7_fades 8 = .ok (.iload_n 2, 1) := by decide +kernel
theorem dX7_fades_9 : decode cX7_fades 9 = .ok (.invokestatic 174, 3) := by decide +kernel
theorem dX7_fades_12 : decode cX7_fades 12 = .ok (.ifCond .ne 5, 3) := by decide +kernel
theorem dX7_fades_15 : decode cX7_fades 15 = .ok (.iconst (-1), 1) := by decide +kernel
theorem dX7_fades_16 : decode cX7_fades 16 = .ok (.ireturn, 1) := by decide +kernel
theorem dX7_fades_17 : decode cX7_fades 17 = .ok (.aload_n 0, 1) := by decide +kernel
theorem dX7_fades_18 : decode cX7_fades 18 = .ok (.iload_n 1, 1) := by decide +kernel
theorem dX7_fades_19 : decode cX7_fades 19 = .ok (.invokevirtual 183, 3) := by decide +kernel
theorem dX7_fades_22 : decode cX7_fades 22 = .ok (.aload_n 0, 1) := by decide +kernel
theorem dX7_fades_23 : decode cX7_fades 23 = .ok (.iload_n 2, 1) := by decide +kernel
theorem dX7_fades_24 : decode cX7_fades 24 = .ok (.invokevirtual 207, 3) := by decide +kernel
theorem dX7_fades_27 : decode cX7_fades 27 = .ok (.iconst 1, 1) := by decide +kernel
theorem dX7_fades_28 : decode cX7_fades 28 = .ok (.istore_n 3, 1) := by decide +kernel
theorem dX7_fades_29 : decode cX7_fades 29 = .ok (.iload_n 3, 1) := by decide +kernel
theorem dX7_fades_30 : decode cX7_fades 30 = .ok (.bipush 10, 2) := by decide +kernel
theorem dX7_fades_32 : decode cX7_fades 32 = .ok (.if_icmp .gt 44, 3) := by decide +kernel
theorem dX7_fades_35 : decode cX7_fades 35 = .ok (.iconst 0, 1) := by decide +kernel
theorem dX7_fades_36 : decode cX7_fades 36 = .ok (.istore 4, 2) := by decide +kernel
theorem dX7_fades_38 : decode cX7_fades 38 = .ok (.iload 4, 2) := by decide +kernel
theorem dX7_fades_40 : decode cX7_fades 40 = .ok (.iconst 3, 1) := by decide +kernel
theorem dX7_fades_41 : decode cX7_fades 41 = .ok (.if_icmp .ge 29, 3) := by decide +kernel
theorem dX7_fades_44 : decode cX7_fades 44 = .ok (.aload_n 0, 1) := by decide +kernel
theorem dX7_fades_45 : decode cX7_fades 45 = .ok (.iload_n 2, 1) := by decide +kernel
theorem dX7_fades_46 : decode cX7_fades 46 = .ok (.iload_n 3, 1) := by decide +kernel
theorem dX7_fades_47 : decode cX7_fades 47 = .ok (.iload 4, 2) := by decide +kernel
theorem dX7_fades_49 : decode cX7_fades 49 = .ok (.invokevirtual 112, 3) := by decide +kernel
theorem dX7_fades_52 : decode cX7_fades 52 = .ok (.aload_n 0, 1) := by decide +kernel
theorem dX7_fades_53 : decode cX7_fades 53 = .ok (.getfield 22, 3) := by decide +kernel
theorem dX7_fades_56 : decode cX7_fades 56 = .ok (.iload 4, 2) := by decide +kernel
theorem dX7_fades_58 : decode cX7_fades 58 = .ok (.iaload, 1) := by decide +kernel
theorem dX7_fades_59 : decode cX7_fades 59 = .ok (.if_icmp .eq 5, 3) := by decide +kernel
theorem dX7_fades_62 : decode cX7_fades 62 = .ok (.iload_n 3, 1) := by decide +kernel
theorem dX7_fades_63 : decode cX7_fades 63 = .ok (.ireturn, 1) := by decide +kernel
theorem dX7_fades_64 : decode cX7_fades 64 = .ok (.iinc 4 1, 3) := by decide +kernel
theorem dX7_fades_67 : decode cX7_fades 67 = .ok (.goto (-29), 3) := by decide +kernel
theorem dX7_fades_70 : decode cX7_fades 70 = .ok (.iinc 3 1, 3) := by decide +kernel
theorem dX7_fades_73 : decode cX7_fades 73 = .ok (.goto (-44), 3) := by decide +kernel
theorem dX7_fades_76 : decode cX7_fades 76 = .ok (.bipush (-5), 2) := by decide +kernel
theorem dX7_fades_78 : decode cX7_fades 78 = .ok (.ireturn, 1) := by decide +kernel
set_option maxRecDepth 20000 in
theorem ggX7_isTold_X7_shines : GoodIn wsX7_isTold wsX7_shines := goodIn_r _ [7, 8, 9, 10, 6, 11, 12, 13, 14, 15, 16, 17, 18, 19, 20, 21, 22, 23, 24, 25, 26, 27, 28, 29, 30, 31, 32, 33, 34, 35, 36, 37, 38, 39, 40, 41, 42, 43, 44, 45, 46, 47, 61, 62, 63, 64, 65, 66, 67, 68, 69, 70, 71, 72, 73, 74, 75, 76, 77, 78, 79, 80, 81, 82, 83, 84, 85, 86] (by decide +kernel) (by decide +kernel)
set_option maxRecDepth 20000 in
theorem gX7_isTold_X7_shines : GoodIn wsX7_isTold (wsV RX7 183 RX7 yX7_shines wsX7_shines) := goodIn_app (goodIn_of _ (by decide +kernel)) ggX7_isTold_X7_shines
set_option maxRecDepth 20000 in
theorem ggX7_isTold_X7_findShades : GoodIn wsX7_isTold wsX7_findShades := goodIn_r _ [51, 1, 52, 53, 54, 6, 55, 12, 56, 57, 58, 59, 60, 18, 13, 61, 62, 63, 64, 65, 66, 67, 68, 69, 70, 71, 72, 73, 74, 75, 76, 77, 78, 79, 80, 81, 82, 83, 84, 85, 86] (by decide +kernel) (by decide +kernel)
set_option maxRecDepth 20000 in
theorem gX7_isTold_X7_findShades : GoodIn wsX7_isTold (wsV RX7 207 RX7 yX7_findShades wsX7_findShades) := goodIn_app (goodIn_of _ (by decide +kernel)) ggX7_isTold_X7_findShades
theorem dX7_isTold_0 : decode cX7_isTold 0 = .ok (.aload_n 0, 1) := by decide +kernel
theorem dX7_isTold_1 : decode cX7_isTold 1 = .ok (.iload_n 1, 1) := by decide +kernel
theorem dX7_isTold_2 : decode cX7_isTold 2 = .ok (.invokevirtual 183, 3) := by decide +kernel
theorem dX7_isTold_5 : decode cX7_isTold 5 = .ok (.aload_n 0, 1) := by decide +kernel
theorem dX7_isTold_6 : decode cX7_isTold 6 = .ok (.iload_n 2, 1) := by decide +kernel
theorem dX7_isTold_7 : decode cX7_isTold 7 = .ok (.invokevirtual 207, 3) := by decide +kernel
theorem dX7_isTold_10 : decode cX7_isTold 10 = .ok (.iconst 0, 1) := by decide +kernel
theorem dX7_isTold_11 : decode cX7_isTold 11 = .ok (.istore 4, 2) := by decide +kernel
theorem dX7_isTold_13 : decode cX7_isTold 13 = .ok (.iload 4, 2) := by decide +kernel
theorem dX7_isTold_15 : decode cX7_isTold 15 = .ok (.iconst 3, 1) := by decide +kernel
theorem dX7_isTold_16 : decode cX7_isTold 16 = .ok (.if_icmp .ge 33, 3) := by decide +kernel
theorem dX7_isTold_19 : decode cX7_isTold 19 = .ok (.aload_n 0, 1) := by decide +kernel
theorem dX7_isTold_20 : decode cX7_isTold 20 = .ok (.getfield 22, 3) := by decide +kernel
theorem dX7_isTold_23 : decode cX7_isTold 23 = .ok (.iload 4, 2) := by decide +kernel
theorem dX7_isTold_25 : decode cX7_isTold 25 = .ok (.iaload, 1) := by decide +kernel
theorem dX7_isTold_26 : decode cX7_isTold 26 = .ok (.aload_n 0, 1) := by decide +kernel
theorem dX7_isTold_27 : decode cX7_isTold 27 = .ok (.getfield 56, 3) := by decide +kernel
theorem dX7_isTold_30 : decode cX7_isTold 30 = .ok (.bipush 18, 2) := by decide +kernel
theorem dX7_isTold_32 : decode cX7_isTold 32 = .ok (.iload_n 3, 1) := by decide +kernel
theorem dX7_isTold_33 : decode cX7_isTold 33 = .ok (.imul, 1) := by decide +kernel
theorem dX7_isTold_34 : decode cX7_isTold 34 = .ok (.iload 4, 2) := by decide +kernel
theorem dX7_isTold_36 : decode cX7_isTold 36 = .ok (.iadd, 1) := by decide +kernel
theorem dX7_isTold_37 : decode cX7_isTold 37 = .ok (.iaload, 1) := by decide +kernel
theorem dX7_isTold_38 : decode cX7_isTold 38 = .ok (.if_icmp .eq 5, 3) := by decide +kernel
theorem dX7_isTold_41 : decode cX7_isTold 41 = .ok (.iconst 0, 1) := by decide +kernel
theorem dX7_isTold_42 : decode cX7_isTold 42 = .ok (.ireturn, 1) := by decide +kernel
theorem dX7_isTold_43 : decode cX7_isTold 43 = .ok (.iinc 4 1, 3) := by decide +kernel
theorem dX7_isTold_46 : decode cX7_isTold 46 = .ok (.goto (-33), 3) := by decide +kernel
theorem dX7_isTold_49 : decode cX7_isTold 49 = .ok (.iconst 1, 1) := by decide +kernel
theorem dX7_isTold_50 : decode cX7_isTold 50 = .ok (.ireturn, 1) := by decide +kernel
set_option maxRecDepth 20000 in
theorem ggX7_was_X7_isSheet : GoodIn wsX7_was wsX7_isSheet := goodIn_r _ [7, 2, 8, 9, 6, 10, 85, 86, 87, 88, 89, 90, 91, 92, 93, 94, 95, 96, 97, 98, 99, 100, 101, 102, 103, 104, 105, 106, 107, 108, 109, 110] (by decide +kernel) (by decide +kernel)
set_option maxRecDepth 20000 in
theorem gX7_was_X7_isSheet : GoodIn wsX7_was (wsV RX7 153 RX7 yX7_isSheet wsX7_isSheet) := goodIn_app (goodIn_of _ (by decide +kernel)) ggX7_was_X7_isSheet
set_option maxRecDepth 20000 in
theorem ggX7_was_X7_isStack : GoodIn wsX7_was wsX7_isStack := goodIn_r _ [14, 2, 8, 9, 6, 10, 85, 86, 87, 88, 89, 90, 91, 92, 93, 94, 95, 96, 97, 98, 99, 100, 101, 102, 103, 104, 105, 106, 107, 108, 109, 110] (by decide +kernel) (by decide +kernel)
set_option maxRecDepth 20000 in
theorem gX7_was_X7_isStack : GoodIn wsX7_was (wsV RX7 169 RX7 yX7_isStack wsX7_isStack) := goodIn_app (goodIn_of _ (by decide +kernel)) ggX7_was_X7_isStack
set_option maxRecDepth 20000 in
theorem ggX7_was_X7_isLamp : GoodIn wsX7_was wsX7_isLamp := goodIn_r _ [17, 18, 8, 9, 6, 10] (by decide +kernel) (by decide +kernel)
set_option maxRecDepth 20000 in
theorem gX7_was_X7_isLamp : GoodIn wsX7_was (va_wsS RX7 174 yX7_isLamp wsX7_isLamp) := goodIn_app (goodIn_of _ (by decide +kernel)) ggX7_was_X7_isLamp
set_option maxRecDepth 20000 in
theorem ggX7_was_X7_isList : GoodIn wsX7_was wsX7_isList := goodIn_r _ [21, 22, 8, 9, 6, 10] (by decide +kernel) (by decide +kernel)
set_option maxRecDepth 20000 in
theorem gX7_was_X7_isList : GoodIn wsX7_was (va_wsS RX7 245 yX7_isList wsX7_isList) := goodIn_app (goodIn_of _ (by decide +kernel)) ggX7_was_X7_isList
set_option maxRecDepth 20000 in
theorem ggX7_was_X7_isIn : GoodIn wsX7_was wsX7_isIn := goodIn_r _ [10] (by decide +kernel) (by decide +kernel)
set_option maxRecDepth 20000 in
theorem gX7_was_X7_isIn : GoodIn wsX7_was (va_wsS RX7 62 yX7_isIn wsX7_isIn) := goodIn_app (goodIn_of _ (by decide +kernel)) ggX7_was_X7_isIn
set_option maxRecDepth 20000 in
theorem ggX7_was_X7_isTold : GoodIn wsX7_was wsX7_isTold := goodIn_r _ [26, 27, 28, 29, 30, 31, 6, 32, 33, 34, 35, 36, 37, 38, 39, 40, 41, 42, 2, 43, 44, 45, 46, 47, 48, 49, 50, 51, 52, 53, 54, 55, 56, 57, 58, 59, 60, 61, 62, 63, 64, 65, 66, 67, 68, 69, 70, 71, 72, 73, 74, 75, 76, 77, 78, 79, 80, 81, 82, 83, 84, 85, 86, 87, 88, 89, 90, 91, 92, 93, 94, 95, 96, 97, 98, 99, 100, 101, 102, 103, 104, 105, 106, 107, 108, 109, 110] (by decide +kernel) (by decide +kernel)
set_option maxRecDepth 20000 in
theorem gX7_was_X7_isTold : GoodIn wsX7_was (wsV RX7 248 RX7 yX7_isTold wsX7_isTold) := goodIn_app (goodIn_of _ (by decide +kernel)) ggX7_was_X7_isTold
theorem dX7_was_0 : decode cX7_was 0 = .ok (.aload_n 0, 1) := by decide +kernel
theorem dX7_was_1 : decode cX7_was 1 = .ok (.iload_n 1, 1) := by decide +kernel
theorem dX7_was_2 : decode cX7_was 2 = .ok (.invokevirtual 153, 3) := by decide +kernel
theorem dX7_was_5 : decode cX7_was 5 = .ok (.ifCond .eq 37, 3) := by decide +kernel
theorem dX7_was_8 : decode cX7_was 8 = .ok (.aload_n 0, 1) := by decide +kernel
theorem dX7_was_9 : decode cX7_was 9 = .ok (.iload_n 2, 1) := by decide +kernel
theorem dX7_was_10 : decode cX7_was 10 = .ok (.invokevirtual 169, 3) := by decide +kernel
theorem dX7_was_13 : decode cX7_was 13 = .ok (.ifCond .eq 29, 3) := by decide +kernel
theorem dX7_was_16 : decode cX7_was 16 = .ok (.iload_n 3, 1) := by decide +kernel
theorem dX7_was_17 : decode cX7_was 17 = .ok (.invokestatic 174, 3) := by decide +kernel
theorem dX7_was_20 : decode cX7_was 20 = .ok (.ifCond .eq 22, 3) := by decide +kernel
theorem dX7_was_23 : decode cX7_was 23 = .ok (.iload 4, 2) := by decide +kernel
theorem dX7_was_25 : decode cX7_was 25 = .ok (.invokestatic 245, 3) := by decide +kernel
theorem dX7_was_28 : decode cX7_was 28 = .ok (.ifCond .eq 14, 3) := by decide +kernel
theorem dX7_was_31 : decode cX7_was 31 = .ok (.iload 5, 2) := by decide +kernel
theorem dX7_was_33 : decode cX7_was 33 = .ok (.i2l, 1) := by decide +kernel
theorem dX7_was_34 : decode cX7_was 34 = .ok (.lconst 0, 1) := by decide +kernel
theorem dX7_was_35 : decode cX7_was 35 = .ok (.lconst 1, 1) := by decide +kernel
theorem dX7_was_36 : decode cX7_was 36 = .ok (.invokestatic 62, 3) := by decide +kernel
theorem dX7_was_39 : decode cX7_was 39 = .ok (.ifCond .ne 5, 3) := by decide +kernel
theorem dX7_was_42 : decode cX7_was 42 = .ok (.iconst (-1), 1) := by decide +kernel
theorem dX7_was_43 : decode cX7_was 43 = .ok (.ireturn, 1) := by decide +kernel
theorem dX7_was_44 : decode cX7_was 44 = .ok (.aload_n 0, 1) := by decide +kernel
theorem dX7_was_45 : decode cX7_was 45 = .ok (.getfield 59, 3) := by decide +kernel
theorem dX7_was_48 : decode cX7_was 48 = .ok (.iload 4, 2) := by decide +kernel
theorem dX7_was_50 : decode cX7_was 50 = .ok (.iaload, 1) := by decide +kernel
theorem dX7_was_51 : decode cX7_was 51 = .ok (.ifCond .ge 6, 3) := by decide +kernel
theorem dX7_was_54 : decode cX7_was 54 = .ok (.bipush (-11), 2) := by decide +kernel
theorem dX7_was_56 : decode cX7_was 56 = .ok (.ireturn, 1) := by decide +kernel
theorem dX7_was_57 : decode cX7_was 57 = .ok (.aload_n 0, 1) := by decide +kernel
theorem dX7_was_58 : decode cX7_was 58 = .ok (.getfield 59, 3) := by decide +kernel
theorem dX7_was_61 : decode cX7_was 61 = .ok (.iload 4, 2) := by decide +kernel
theorem dX7_was_63 : decode cX7_was 63 = .ok (.iaload, 1) := by decide +kernel
theorem dX7_was_64 : decode cX7_was 64 = .ok (.iconst 3, 1) := by decide +kernel
theorem dX7_was_65 : decode cX7_was 65 = .ok (.if_icmp .ge 6, 3) := by decide +kernel
theorem dX7_was_68 : decode cX7_was 68 = .ok (.bipush (-13), 2) := by decide +kernel
theorem dX7_was_70 : decode cX7_was 70 = .ok (.ireturn, 1) := by decide +kernel
theorem dX7_was_71 : decode cX7_was 71 = .ok (.iconst 2, 1) := by decide +kernel
theorem dX7_was_72 : decode cX7_was 72 = .ok (.bipush 7, 2) := by decide +kernel
theorem dX7_was_74 : decode cX7_was 74 = .ok (.iload_n 1, 1) := by decide +kernel
theorem dX7_was_75 : decode cX7_was 75 = .ok (.imul, 1) := by decide +kernel
theorem dX7_was_76 : decode cX7_was 76 = .ok (.iadd, 1) := by decide +kernel
theorem dX7_was_77 : decode cX7_was 77 = .ok (.iload 5, 2) := by decide +kernel
theorem dX7_was_79 : decode cX7_was 79 = .ok (.iadd, 1) := by decide +kernel
theorem dX7_was_80 : decode cX7_was 80 = .ok (.istore 6, 2) := by decide +kernel
theorem dX7_was_82 : decode cX7_was 82 = .ok (.aload_n 0, 1) := by decide +kernel
theorem dX7_was_83 : decode cX7_was 83 = .ok (.getfield 9, 3) := by decide +kernel
theorem dX7_was_86 : decode cX7_was 86 = .ok (.iload 6, 2) := by decide +kernel
theorem dX7_was_88 : decode cX7_was 88 = .ok (.iaload, 1) := by decide +kernel
theorem dX7_was_89 : decode cX7_was 89 = .ok (.istore 7, 2) := by decide +kernel
theorem dX7_was_91 : decode cX7_was 91 = .ok (.iconst 0, 1) := by decide +kernel
theorem dX7_was_92 : decode cX7_was 92 = .ok (.istore 8, 2) := by decide +kernel
theorem dX7_was_94 : decode cX7_was 94 = .ok (.iconst 0, 1) := by decide +kernel
theorem dX7_was_95 : decode cX7_was 95 = .ok (.istore 9, 2) := by decide +kernel
theorem dX7_was_97 : decode cX7_was 97 = .ok (.iload 9, 2) := by decide +kernel
theorem dX7_was_99 : decode cX7_was 99 = .ok (.iload 5, 2) := by decide +kernel
theorem dX7_was_101 : decode cX7_was 101 = .ok (.ifCond .ne 8, 3) := by decide +kernel
theorem dX7_was_104 : decode cX7_was 104 = .ok (.bipush 6, 2) := by decide +kernel
theorem dX7_was_106 : decode cX7_was 106 = .ok (.goto 5, 3) := by decide +kernel
theorem dX7_was_109 : decode cX7_was 109 = .ok (.bipush 10, 2) := by decide +kernel
theorem dX7_was_111 : decode cX7_was 111 = .ok (.if_icmp .ge 42, 3) := by decide +kernel
theorem dX7_was_114 : decode cX7_was 114 = .ok (.aload_n 0, 1) := by decide +kernel
theorem dX7_was_115 : decode cX7_was 115 = .ok (.getfield 9, 3) := by decide +kernel
theorem dX7_was_118 : decode cX7_was 118 = .ok (.iload 6, 2) := by decide +kernel
theorem dX7_was_120 : decode cX7_was 120 = .ok (.iload 9, 2) := by decide +kernel
theorem dX7_was_122 : decode cX7_was 122 = .ok (.iastore, 1) := by decide +kernel
theorem dX7_was_123 : decode cX7_was 123 = .ok (.iload 8, 2) := by decide +kernel
theorem dX7_was_125 : decode cX7_was 125 = .ok (.aload_n 0, 1) := by decide +kernel
theorem dX7_was_126 : decode cX7_was 126 = .ok (.iload_n 2, 1) := by decide +kernel
theorem dX7_was_127 : decode cX7_was 127 = .ok (.iload_n 3, 1) := by decide +kernel
theorem dX7_was_128 : decode cX7_was 128 = .ok (.iload 4, 2) := by decide +kernel
theorem dX7_was_130 : decode cX7_was 130 = .ok (.invokevirtual 248, 3) := by decide +kernel
theorem dX7_was_133 : decode cX7_was 133 = .ok (.ifCond .eq 10, 3) := by decide +kernel
theorem dX7_was_136 : decode cX7_was 136 = .ok (.iconst 1, 1) := by decide +kernel
theorem dX7_was_137 : decode cX7_was 137 = .ok (.iload 9, 2) := by decide +kernel
theorem dX7_was_139 : decode cX7_was 139 = .ok (.ishl, 1) := by decide +kernel
theorem dX7_was_140 : decode cX7_was 140 = .ok (.goto 4, 3) := by decide +kernel
theorem dX7_was_143 : decode cX7_was 143 = .ok (.iconst 0, 1) := by decide +kernel
theorem dX7_was_144 : decode cX7_was 144 = .ok (.ior, 1) := by decide +kernel
theorem dX7_was_145 : decode cX7_was 145 = .ok (.istore 8, 2) := by decide +kernel
theorem dX7_was_147 : decode cX7_was 147 = .ok (.iinc 9 1, 3) := by decide +kernel
theorem dX7_was_150 : decode cX7_was 150 = .ok (.goto (-53), 3) := by decide +kernel
theorem dX7_was_153 : decode cX7_was 153 = .ok (.aload_n 0, 1) := by decide +kernel
theorem dX7_was_154 : decode cX7_was 154 = .ok (.getfield 9, 3) := by decide +kernel
theorem dX7_was_157 : decode cX7_was 157 = .ok (.iload 6, 2) := by decide +kernel
theorem dX7_was_159 : decode cX7_was 159 = .ok (.iload 7, 2) := by decide +kernel
theorem dX7_was_161 : decode cX7_was 161 = .ok (.iastore, 1) := by decide +kernel
theorem dX7_was_162 : decode cX7_was 162 = .ok (.iload 8, 2) := by decide +kernel
theorem dX7_was_164 : decode cX7_was 164 = .ok (.ireturn, 1) := by decide +kernel
set_option maxRecDepth 20000 in
theorem ggX7_odds_X7_isIn : GoodIn wsX7_odds wsX7_isIn := goodIn_r _ [12] (by decide +kernel) (by decide +kernel)
set_option maxRecDepth 20000 in
theorem gX7_odds_X7_isIn : GoodIn wsX7_odds (va_wsS RX7 62 yX7_isIn wsX7_isIn) := goodIn_app (goodIn_of _ (by decide +kernel)) ggX7_odds_X7_isIn
set_option maxRecDepth 20000 in
theorem ggX7_odds_X7_isLamp : GoodIn wsX7_odds wsX7_isLamp := goodIn_r _ [15, 3, 9, 10, 11, 12] (by decide +kernel) (by decide +kernel)
set_option maxRecDepth 20000 in
theorem gX7_odds_X7_isLamp : GoodIn wsX7_odds (va_wsS RX7 174 yX7_isLamp wsX7_isLamp) := goodIn_app (goodIn_of _ (by decide +kernel)) ggX7_odds_X7_isLamp
set_option maxRecDepth 20000 in
theorem ggX7_odds_X7_begins : GoodIn wsX7_odds wsX7_begins := goodIn_r _ [19, 20, 21, 62, 63, 64, 65, 66, 67, 68, 69, 70, 71, 72, 73, 74, 75, 76, 77, 78, 79, 80, 81, 82, 83, 84, 85, 86, 87] (by decide +kernel) (by decide +kernel)
set_option maxRecDepth 20000 in
theorem gX7_odds_X7_begins : GoodIn wsX7_odds (wsV RX7 93 RX7 yX7_begins wsX7_begins) := goodIn_app (goodIn_of _ (by decide +kernel)) ggX7_odds_X7_begins
set_option maxRecDepth 20000 in
theorem ggX7_odds_X7_lays : GoodIn wsX7_odds wsX7_lays := goodIn_r _ [25, 20, 26, 21, 27, 28, 29, 11, 30, 31, 32, 33, 34, 4, 35, 36, 37, 38, 39, 40, 41, 42, 43, 44, 45, 46, 62, 63, 64, 65, 66, 67, 68, 69, 70, 71, 72, 73, 74, 75, 76, 77, 78, 79, 80, 81, 82, 83, 84, 85, 86, 87] (by decide +kernel) (by decide +kernel)
set_option maxRecDepth 20000 in
theorem gX7_odds_X7_lays : GoodIn wsX7_odds (wsV RX7 102 RX7 yX7_lays wsX7_lays) := goodIn_app (goodIn_of _ (by decide +kernel)) ggX7_odds_X7_lays
set_option maxRecDepth 20000 in
theorem ggX7_odds_X7_shadeOf : GoodIn wsX7_odds wsX7_shadeOf := goodIn_r _ [50, 20, 51, 52, 53, 54, 11, 55, 4, 21, 62, 63, 64, 65, 66, 67, 68, 69, 70, 71, 72, 73, 74, 75, 76, 77, 78, 79, 80, 81, 82, 83, 84, 85, 86, 87] (by decide +kernel) (by decide +kernel)
set_option maxRecDepth 20000 in
theorem gX7_odds_X7_shadeOf : GoodIn wsX7_odds (wsV RX7 112 RX7 yX7_shadeOf wsX7_shadeOf) := goodIn_app (goodIn_of _ (by decide +kernel)) ggX7_odds_X7_shadeOf
set_option maxRecDepth 20000 in
theorem ggX7_odds_X7_partOf : GoodIn wsX7_odds wsX7_partOf := goodIn_r _ [58, 59, 60, 11, 61] (by decide +kernel) (by decide +kernel)
set_option maxRecDepth 20000 in
theorem gX7_odds_X7_partOf : GoodIn wsX7_odds (va_wsS RX7 186 yX7_partOf wsX7_partOf) := goodIn_app (goodIn_of _ (by decide +kernel)) ggX7_odds_X7_partOf
theorem dX7_odds_0 : decode cX7_odds 0 = .ok (.iload_n 1, 1) := by decide +kernel
theorem dX7_odds_1 : decode cX7_odds 1 = .ok (.i2l, 1) := by decide +kernel
theorem dX7_odds_2 : decode cX7_odds 2 = .ok (.lconst 0, 1) := by decide +kernel
theorem dX7_odds_3 : decode cX7_odds 3 = .ok (.ldc2_w 68, 3) := by decide +kernel
theorem dX7_odds_6 : decode cX7_odds 6 = .ok (.invokestatic 62, 3) := by decide +kernel
theorem dX7_odds_9 : decode cX7_odds 9 = .ok (.ifCond .eq 56, 3) := by decide +kernel
theorem dX7_odds_12 : decode cX7_odds 12 = .ok (.iload_n 3, 1) := by decide +kernel
theorem dX7_odds_13 : decode cX7_odds 13 = .ok (.i2l, 1) := by decide +kernel
theorem dX7_odds_14 : decode cX7_odds 14 = .ok (.lconst 1, 1) := by decide +kernel
theorem dX7_odds_15 : decode cX7_odds 15 = .ok (.ldc2_w 165, 3) := by decide +kernel
theorem dX7_odds_18 : decode cX7_odds 18 = .ok (.invokestatic 62, 3) := by decide +kernel
theorem dX7_odds_21 : decode cX7_odds 21 = .ok (.ifCond .eq 44, 3) := by decide +kernel
theorem dX7_odds_24 : decode cX7_odds 24 = .ok (.iload 4, 2) := by decide +kernel
theorem dX7_odds_26 : decode cX7_odds 26 = .ok (.invokestatic 174, 3) := by decide +kernel
theorem dX7_odds_29 : decode cX7_odds 29 = .ok (.ifCond .eq 36, 3) := by decide +kernel
theorem dX7_odds_32 : decode cX7_odds 32 = .ok (.iload 5, 2) := by decide +kernel
theorem dX7_odds_34 : decode cX7_odds 34 = .ok (.i2l, 1) := by decide +kernel
theorem dX7_odds_35 : decode cX7_odds 35 = .ok (.lconst 0, 1) := by decide +kernel
theorem dX7_odds_36 : decode cX7_odds 36 = .ok (.ldc2_w 66, 3) := by decide +kernel
theorem dX7_odds_39 : decode cX7_odds 39 = .ok (.invokestatic 62, 3) := by decide +kernel
theorem dX7_odds_42 : decode cX7_odds 42 = .ok (.ifCond .eq 23, 3) := by decide +kernel
theorem dX7_odds_45 : decode cX7_odds 45 = .ok (.iload 7, 2) := by decide +kernel
theorem dX7_odds_47 : decode cX7_odds 47 = .ok (.i2l, 1) := by decide +kernel
theorem dX7_odds_48 : decode cX7_odds 48 = .ok (.lconst 0, 1) := by decide +kernel
theorem dX7_odds_49 : decode cX7_odds 49 = .ok (.lconst 1, 1) := by decide +kernel
theorem dX7_odds_50 : decode cX7_odds 50 = .ok (.invokestatic 62, 3) := by decide +kernel
theorem dX7_odds_53 : decode cX7_odds 53 = .ok (.ifCond .eq 12, 3) := by decide +kernel
theorem dX7_odds_56 : decode cX7_odds 56 = .ok (.aload_n 0, 1) := by decide +kernel
theorem dX7_odds_57 : decode cX7_odds 57 = .ok (.getfield 9, 3) := by decide +kernel
theorem dX7_odds_60 : decode cX7_odds 60 = .ok (.iconst 0, 1) := by decide +kernel
theorem dX7_odds_61 : decode cX7_odds 61 = .ok (.iaload, 1) := by decide +kernel
theorem dX7_odds_62 : decode cX7_odds 62 = .ok (.ifCond .ne 7, 3) := by decide +kernel
theorem dX7_odds_65 : decode cX7_odds 65 = .ok (.ldc2_w 181, 3) := by decide +kernel
theorem dX7_odds_68 : decode cX7_odds 68 = .ok (.lreturn, 1) := by decide +kernel
theorem dX7_odds_69 : decode cX7_odds 69 = .ok (.iconst 0, 1) := by decide +kernel
theorem dX7_odds_70 : decode cX7_odds 70 = .ok (.istore 8, 2) := by decide +kernel
theorem dX7_odds_72 : decode cX7_odds 72 = .ok (.iconst 0, 1) := by decide +kernel
theorem dX7_odds_73 : decode cX7_odds 73 = .ok (.istore 9, 2) := by decide +kernel
theorem dX7_odds_75 : decode cX7_odds 75 = .ok (.iload 9, 2) := by decide +kernel
theorem dX7_odds_77 : decode cX7_odds 77 = .ok (.iload_n 3, 1) := by decide +kernel
theorem dX7_odds_78 : decode cX7_odds 78 = .ok (.if_icmp .ge 88, 3) := by decide +kernel
theorem dX7_odds_81 : decode cX7_odds 81 = .ok (.iload_n 2, 1) := by decide +kernel
theorem dX7_odds_82 : decode cX7_odds 82 = .ok (.iload 9, 2) := by decide +kernel
theorem dX7_odds_84 : decode cX7_odds 84 = .ok (.iadd, 1) := by decide +kernel
theorem dX7_odds_85 : decode cX7_odds 85 = .ok (.istore 10, 2) := by decide +kernel
theorem dX7_odds_87 : decode cX7_odds 87 = .ok (.aload_n 0, 1) := by decide +kernel
theorem dX7_odds_88 : decode cX7_odds 88 = .ok (.invokevirtual 93, 3) := by decide +kernel
theorem dX7_odds_91 : decode cX7_odds 91 = .ok (.iconst 0, 1) := by decide +kernel
theorem dX7_odds_92 : decode cX7_odds 92 = .ok (.istore 11, 2) := by decide +kernel
theorem dX7_odds_94 : decode cX7_odds 94 = .ok (.iload 11, 2) := by decide +kernel
theorem dX7_odds_96 : decode cX7_odds 96 = .ok (.iload_n 1, 1) := by decide +kernel
theorem dX7_odds_97 : decode cX7_odds 97 = .ok (.if_icmp .ge 39, 3) := by decide +kernel
theorem dX7_odds_100 : decode cX7_odds 100 = .ok (.iload 10, 2) := by decide +kernel
theorem dX7_odds_102 : decode cX7_odds 102 = .ok (.ldc 251, 2) := by decide +kernel
theorem dX7_odds_104 : decode cX7_odds 104 = .ok (.imul, 1) := by decide +kernel
theorem dX7_odds_105 : decode cX7_odds 105 = .ok (.sipush 12345, 3) := by decide +kernel
theorem dX7_odds_108 : decode cX7_odds 108 = .ok (.iadd, 1) := by decide +kernel
theorem dX7_odds_109 : decode cX7_odds 109 = .ok (.istore 10, 2) := by decide +kernel
theorem dX7_odds_111 : decode cX7_odds 111 = .ok (.aload_n 0, 1) := by decide +kernel
theorem dX7_odds_112 : decode cX7_odds 112 = .ok (.iload 10, 2) := by decide +kernel
theorem dX7_odds_114 : decode cX7_odds 114 = .ok (.ldc 252, 2) := by decide +kernel
theorem dX7_odds_116 : decode cX7_odds 116 = .ok (.iand, 1) := by decide +kernel
theorem dX7_odds_117 : decode cX7_odds 117 = .ok (.ldc 253, 2) := by decide +kernel
theorem dX7_odds_119 : decode cX7_odds 119 = .ok (.idiv, 1) := by decide +kernel
theorem dX7_odds_120 : decode cX7_odds 120 = .ok (.aload_n 0, 1) := by decide +kernel
theorem dX7_odds_121 : decode cX7_odds 121 = .ok (.getfield 9, 3) := by decide +kernel
theorem dX7_odds_124 : decode cX7_odds 124 = .ok (.iconst 0, 1) := by decide +kernel
theorem dX7_odds_125 : decode cX7_odds 125 = .ok (.iaload, 1) := by decide +kernel
theorem dX7_odds_126 : decode cX7_odds 126 = .ok (.irem, 1) := by decide +kernel
theorem dX7_odds_127 : decode cX7_odds 127 = .ok (.invokevirtual 102, 3) := by decide +kernel
theorem dX7_odds_130 : decode cX7_odds 130 = .ok (.iinc 11 1, 3) := by decide +kernel
theorem dX7_odds_133 : decode cX7_odds 133 = .ok (.goto (-39), 3) := by decide +kernel
theorem dX7_odds_136 : decode cX7_odds 136 = .ok (.iload 8, 2) := by decide +kernel
theorem dX7_odds_138 : decode cX7_odds 138 = .ok (.aload_n 0, 1) := by decide +kernel
theorem dX7_odds_139 : decode cX7_odds 139 = .ok (.iload 4, 2) := by decide +kernel
theorem dX7_odds_141 : decode cX7_odds 141 = .ok (.iconst 0, 1) := by decide +kernel
theorem dX7_odds_142 : decode cX7_odds 142 = .ok (.iload 5, 2) := by decide +kernel
theorem dX7_odds_144 : decode cX7_odds 144 = .ok (.invokevirtual 112, 3) := by decide +kernel
theorem dX7_odds_147 : decode cX7_odds 147 = .ok (.iload 6, 2) := by decide +kernel
theorem dX7_odds_149 : decode cX7_odds 149 = .ok (.if_icmp .lt 7, 3) := by decide +kernel
theorem dX7_odds_152 : decode cX7_odds 152 = .ok (.iconst 1, 1) := by decide +kernel
theorem dX7_odds_153 : decode cX7_odds 153 = .ok (.goto 4, 3) := by decide +kernel
theorem dX7_odds_156 : decode cX7_odds 156 = .ok (.iconst 0, 1) := by decide +kernel
theorem dX7_odds_157 : decode cX7_odds 157 = .ok (.iadd, 1) := by decide +kernel
theorem dX7_odds_158 : decode cX7_odds 158 = .ok (.istore 8, 2) := by decide +kernel
theorem dX7_odds_160 : decode cX7_odds 160 = .ok (.iinc 9 1, 3) := by decide +kernel
theorem dX7_odds_163 : decode cX7_odds 163 = .ok (.goto (-88), 3) := by decide +kernel
theorem dX7_odds_166 : decode cX7_odds 166 = .ok (.iload 8, 2) := by decide +kernel
theorem dX7_odds_168 : decode cX7_odds 168 = .ok (.i2l, 1) := by decide +kernel
theorem dX7_odds_169 : decode cX7_odds 169 = .ok (.iload_n 3, 1) := by decide +kernel
theorem dX7_odds_170 : decode cX7_odds 170 = .ok (.i2l, 1) := by decide +kernel
theorem dX7_odds_171 : decode cX7_odds 171 = .ok (.iload 7, 2) := by decide +kernel
theorem dX7_odds_173 : decode cX7_odds 173 = .ok (.invokestatic 186, 3) := by decide +kernel
theorem dX7_odds_176 : decode cX7_odds 176 = .ok (.lreturn, 1) := by decide +kernel
theorem dX7_writes_0 : decode cX7_writes 0 = .ok (.aload_n 0, 1) := by decide +kernel
theorem dX7_writes_1 : decode cX7_writes 1 = .ok (.getfield 53, 3) := by decide +kernel
theorem dX7_writes_4 : decode cX7_writes 4 = .ok (.aload_n 0, 1) := by decide +kernel
theorem dX7_writes_5 : decode cX7_writes 5 = .ok (.getfield 254, 3) := by decide +kernel
theorem dX7_writes_8 : decode cX7_writes 8 = .ok (.iload_n 1, 1) := by decide +kernel
theorem dX7_writes_9 : decode cX7_writes 9 = .ok (.iastore, 1) := by decide +kernel
theorem dX7_writes_10 : decode cX7_writes 10 = .ok (.aload_n 0, 1) := by decide +kernel
theorem dX7_writes_11 : decode cX7_writes 11 = .ok (.dup, 1) := by decide +kernel
theorem dX7_writes_12 : decode cX7_writes 12 = .ok (.getfield 254, 3) := by decide +kernel
theorem dX7_writes_15 : decode cX7_writes 15 = .ok (.iconst 1, 1) := by decide +kernel
theorem dX7_writes_16 : decode cX7_writes 16 = .ok (.iadd, 1) := by decide +kernel
theorem dX7_writes_17 : decode cX7_writes 17 = .ok (.putfield 254, 3) := by decide +kernel
theorem dX7_writes_20 : decode cX7_writes 20 = .ok (.return_, 1) := by decide +kernel
set_option maxRecDepth 20000 in
theorem ggX7_spell_X7_isStack : GoodIn wsX7_spell wsX7_isStack := goodIn_r _ [8, 9, 10, 11, 7, 12, 34, 35, 36, 37, 38, 39, 40, 41, 42, 43, 44, 45, 46, 47, 48, 49, 50, 51, 52, 53, 54, 55, 56, 57, 58, 59] (by decide +kernel) (by decide +kernel)
set_option maxRecDepth 20000 in
theorem gX7_spell_X7_isStack : GoodIn wsX7_spell (wsV RX7 169 RX7 yX7_isStack wsX7_isStack) := goodIn_app (goodIn_of _ (by decide +kernel)) ggX7_spell_X7_isStack
set_option maxRecDepth 20000 in
theorem ggX7_spell_X7_size : GoodIn wsX7_spell wsX7_size := goodIn_r _ [16, 9, 34, 35, 36, 37, 38, 39, 40, 41, 42, 43, 44, 45, 46, 47, 48, 49, 50, 51, 52, 53, 54, 55, 56, 57, 58, 59] (by decide +kernel) (by decide +kernel)
set_option maxRecDepth 20000 in
theorem gX7_spell_X7_size : GoodIn wsX7_spell (wsV RX7 96 RX7 yX7_size wsX7_size) := goodIn_app (goodIn_of _ (by decide +kernel)) ggX7_spell_X7_size
set_option maxRecDepth 20000 in
theorem ggX7_spell_X7_writes : GoodIn wsX7_spell wsX7_writes := goodIn_r _ [20, 21, 1, 34, 35, 36, 37, 38, 39, 40, 41, 42, 43, 44, 45, 46, 47, 48, 49, 50, 51, 52, 53, 54, 55, 56, 57, 58, 59] (by decide +kernel) (by decide +kernel)
set_option maxRecDepth 20000 in
theorem gX7_spell_X7_writes : GoodIn wsX7_spell (wsV RX7 257 RX7 yX7_writes wsX7_writes) := goodIn_app (goodIn_of _ (by decide +kernel)) ggX7_spell_X7_writes
set_option maxRecDepth 20000 in
theorem ggX7_spell_X7_laid : GoodIn wsX7_spell wsX7_laid := goodIn_r _ [25, 9, 34, 35, 36, 37, 38, 39, 40, 41, 42, 43, 44, 45, 46, 47, 48, 49, 50, 51, 52, 53, 54, 55, 56, 57, 58, 59] (by decide +kernel) (by decide +kernel)
set_option maxRecDepth 20000 in
theorem gX7_spell_X7_laid : GoodIn wsX7_spell (wsV RX7 99 RX7 yX7_laid wsX7_laid) := goodIn_app (goodIn_of _ (by decide +kernel)) ggX7_spell_X7_laid
set_option maxRecDepth 20000 in
theorem ggX7_spell_X7_kindOf : GoodIn wsX7_spell wsX7_kindOf := goodIn_r _ [29, 9, 34, 35, 36, 37, 38, 39, 40, 41, 42, 43, 44, 45, 46, 47, 48, 49, 50, 51, 52, 53, 54, 55, 56, 57, 58, 59] (by decide +kernel) (by decide +kernel)
set_option maxRecDepth 20000 in
theorem gX7_spell_X7_kindOf : GoodIn wsX7_spell (wsV RX7 74 RX7 yX7_kindOf wsX7_kindOf) := goodIn_app (goodIn_of _ (by decide +kernel)) ggX7_spell_X7_kindOf
set_option maxRecDepth 20000 in
theorem ggX7_spell_X7_figureOf : GoodIn wsX7_spell wsX7_figureOf := goodIn_r _ [33, 9, 34, 35, 36, 37, 38, 39, 40, 41, 42, 43, 44, 45, 46, 47, 48, 49, 50, 51, 52, 53, 54, 55, 56, 57, 58, 59] (by decide +kernel) (by decide +kernel)
set_option maxRecDepth 20000 in
theorem gX7_spell_X7_figureOf : GoodIn wsX7_spell (wsV RX7 78 RX7 yX7_figureOf wsX7_figureOf) := goodIn_app (goodIn_of _ (by decide +kernel)) ggX7_spell_X7_figureOf
theorem dX7_spell_0 : decode cX7_spell 0 = .ok (.aload_n 0, 1) := by decide +kernel
theorem dX7_spell_1 : decode cX7_spell 1 = .ok (.iload_n 1, 1) := by decide +kernel
theorem dX7_spell_2 : decode cX7_spell 2 = .ok (.invokevirtual 169, 3) := by decide +kernel
theorem dX7_spell_5 : decode cX7_spell 5 = .ok (.ifCond .ne 5, 3) := by decide +kernel
theorem dX7_spell_8 : decode cX7_spell 8 = .ok (.iconst (-1), 1) := by decide +kernel
theorem dX7_spell_9 : decode cX7_spell 9 = .ok (.ireturn, 1) := by decide +kernel
theorem dX7_spell_10 : decode cX7_spell 10 = .ok (.aload_n 0, 1) := by decide +kernel
theorem dX7_spell_11 : decode cX7_spell 11 = .ok (.iconst 0, 1) := by decide +kernel
theorem dX7_spell_12 : decode cX7_spell 12 = .ok (.putfield 254, 3) := by decide +kernel
theorem dX7_spell_15 : decode cX7_spell 15 = .ok (.aload_n 0, 1) := by decide +kernel
theorem dX7_spell_16 : decode cX7_spell 16 = .ok (.iload_n 1, 1) := by decide +kernel
theorem dX7_spell_17 : decode cX7_spell 17 = .ok (.invokevirtual 96, 3) := by decide +kernel
theorem dX7_spell_20 : decode cX7_spell 20 = .ok (.ifCond .ne 9, 3) := by decide +kernel
theorem dX7_spell_23 : decode cX7_spell 23 = .ok (.aload_n 0, 1) := by decide +kernel
theorem dX7_spell_24 : decode cX7_spell 24 = .ok (.bipush 45, 2) := by decide +kernel
theorem dX7_spell_26 : decode cX7_spell 26 = .ok (.invokevirtual 257, 3) := by decide +kernel
theorem dX7_spell_29 : decode cX7_spell 29 = .ok (.iconst 0, 1) := by decide +kernel
theorem dX7_spell_30 : decode cX7_spell 30 = .ok (.istore_n 2, 1) := by decide +kernel
theorem dX7_spell_31 : decode cX7_spell 31 = .ok (.iload_n 2, 1) := by decide +kernel
theorem dX7_spell_32 : decode cX7_spell 32 = .ok (.aload_n 0, 1) := by decide +kernel
theorem dX7_spell_33 : decode cX7_spell 33 = .ok (.iload_n 1, 1) := by decide +kernel
theorem dX7_spell_34 : decode cX7_spell 34 = .ok (.invokevirtual 96, 3) := by decide +kernel
theorem dX7_spell_37 : decode cX7_spell 37 = .ok (.if_icmp .ge 82, 3) := by decide +kernel
theorem dX7_spell_40 : decode cX7_spell 40 = .ok (.iload_n 2, 1) := by decide +kernel
theorem dX7_spell_41 : decode cX7_spell 41 = .ok (.ifCond .le 9, 3) := by decide +kernel
theorem dX7_spell_44 : decode cX7_spell 44 = .ok (.aload_n 0, 1) := by decide +kernel
theorem dX7_spell_45 : decode cX7_spell 45 = .ok (.bipush 47, 2) := by decide +kernel
theorem dX7_spell_47 : decode cX7_spell 47 = .ok (.invokevirtual 257, 3) := by decide +kernel
theorem dX7_spell_50 : decode cX7_spell 50 = .ok (.aload_n 0, 1) := by decide +kernel
theorem dX7_spell_51 : decode cX7_spell 51 = .ok (.iload_n 1, 1) := by decide +kernel
theorem dX7_spell_52 : decode cX7_spell 52 = .ok (.iload_n 2, 1) := by decide +kernel
theorem dX7_spell_53 : decode cX7_spell 53 = .ok (.invokevirtual 99, 3) := by decide +kernel
theorem dX7_spell_56 : decode cX7_spell 56 = .ok (.istore_n 3, 1) := by decide +kernel
theorem dX7_spell_57 : decode cX7_spell 57 = .ok (.iconst 0, 1) := by decide +kernel
theorem dX7_spell_58 : decode cX7_spell 58 = .ok (.istore 4, 2) := by decide +kernel
theorem dX7_spell_60 : decode cX7_spell 60 = .ok (.iload 4, 2) := by decide +kernel
theorem dX7_spell_62 : decode cX7_spell 62 = .ok (.aload_n 0, 1) := by decide +kernel
theorem dX7_spell_63 : decode cX7_spell 63 = .ok (.getfield 41, 3) := by decide +kernel
theorem dX7_spell_66 : decode cX7_spell 66 = .ok (.aload_n 0, 1) := by decide +kernel
theorem dX7_spell_67 : decode cX7_spell 67 = .ok (.iload_n 3, 1) := by decide +kernel
theorem dX7_spell_68 : decode cX7_spell 68 = .ok (.invokevirtual 74, 3) := by decide +kernel
theorem dX7_spell_71 : decode cX7_spell 71 = .ok (.iaload, 1) := by decide +kernel
theorem dX7_spell_72 : decode cX7_spell 72 = .ok (.if_icmp .ge 29, 3) := by decide +kernel
theorem dX7_spell_75 : decode cX7_spell 75 = .ok (.aload_n 0, 1) := by decide +kernel
theorem dX7_spell_76 : decode cX7_spell 76 = .ok (.aload_n 0, 1) := by decide +kernel
theorem dX7_spell_77 : decode cX7_spell 77 = .ok (.getfield 37, 3) := by decide +kernel
theorem dX7_spell_80 : decode cX7_spell 80 = .ok (.bipush 6, 2) := by decide +kernel
theorem dX7_spell_82 : decode cX7_spell 82 = .ok (.aload_n 0, 1) := by decide +kernel
theorem dX7_spell_83 : decode cX7_spell 83 = .ok (.iload_n 3, 1) := by decide +kernel
theorem dX7_spell_84 : decode cX7_spell 84 = .ok (.invokevirtual 74, 3) := by decide +kernel
theorem dX7_spell_87 : decode cX7_spell 87 = .ok (.imul, 1) := by decide +kernel
theorem dX7_spell_88 : decode cX7_spell 88 = .ok (.iload 4, 2) := by decide +kernel
theorem dX7_spell_90 : decode cX7_spell 90 = .ok (.iadd, 1) := by decide +kernel
theorem dX7_spell_91 : decode cX7_spell 91 = .ok (.caload, 1) := by decide +kernel
theorem dX7_spell_92 : decode cX7_spell 92 = .ok (.invokevirtual 257, 3) := by decide +kernel
theorem dX7_spell_95 : decode cX7_spell 95 = .ok (.iinc 4 1, 3) := by decide +kernel
theorem dX7_spell_98 : decode cX7_spell 98 = .ok (.goto (-38), 3) := by decide +kernel
theorem dX7_spell_101 : decode cX7_spell 101 = .ok (.aload_n 0, 1) := by decide +kernel
theorem dX7_spell_102 : decode cX7_spell 102 = .ok (.bipush 48, 2) := by decide +kernel
theorem dX7_spell_104 : decode cX7_spell 104 = .ok (.aload_n 0, 1) := by decide +kernel
theorem dX7_spell_105 : decode cX7_spell 105 = .ok (.iload_n 3, 1) := by decide +kernel
theorem dX7_spell_106 : decode cX7_spell 106 = .ok (.invokevirtual 78, 3) := by decide +kernel
theorem dX7_spell_109 : decode cX7_spell 109 = .ok (.iadd, 1) := by decide +kernel
theorem dX7_spell_110 : decode cX7_spell 110 = .ok (.invokevirtual 257, 3) := by decide +kernel
theorem dX7_spell_113 : decode cX7_spell 113 = .ok (.iinc 2 1, 3) := by decide +kernel
theorem dX7_spell_116 : decode cX7_spell 116 = .ok (.goto (-85), 3) := by decide +kernel
theorem dX7_spell_119 : decode cX7_spell 119 = .ok (.aload_n 0, 1) := by decide +kernel
theorem dX7_spell_120 : decode cX7_spell 120 = .ok (.getfield 254, 3) := by decide +kernel
theorem dX7_spell_123 : decode cX7_spell 123 = .ok (.ireturn, 1) := by decide +kernel
set_option maxRecDepth 20000 in
theorem ggX7_paper_X7_isIn : GoodIn wsX7_paper wsX7_isIn := goodIn_r _ [6] (by decide +kernel) (by decide +kernel)
set_option maxRecDepth 20000 in
theorem gX7_paper_X7_isIn : GoodIn wsX7_paper (va_wsS RX7 62 yX7_isIn wsX7_isIn) := goodIn_app (goodIn_of _ (by decide +kernel)) ggX7_paper_X7_isIn
theorem dX7_paper_0 : decode cX7_paper 0 = .ok (.iload_n 1, 1) := by decide +kernel
theorem dX7_paper_1 : decode cX7_paper 1 = .ok (.i2l, 1) := by decide +kernel
theorem dX7_paper_2 : decode cX7_paper 2 = .ok (.lconst 0, 1) := by decide +kernel
theorem dX7_paper_3 : decode cX7_paper 3 = .ok (.aload_n 0, 1) := by decide +kernel
theorem dX7_paper_4 : decode cX7_paper 4 = .ok (.getfield 254, 3) := by decide +kernel
theorem dX7_paper_7 : decode cX7_paper 7 = .ok (.iconst 1, 1) := by decide +kernel
theorem dX7_paper_8 : decode cX7_paper 8 = .ok (.isub, 1) := by decide +kernel
theorem dX7_paper_9 : decode cX7_paper 9 = .ok (.i2l, 1) := by decide +kernel
theorem dX7_paper_10 : decode cX7_paper 10 = .ok (.invokestatic 62, 3) := by decide +kernel
theorem dX7_paper_13 : decode cX7_paper 13 = .ok (.ifCond .eq 12, 3) := by decide +kernel
theorem dX7_paper_16 : decode cX7_paper 16 = .ok (.aload_n 0, 1) := by decide +kernel
theorem dX7_paper_17 : decode cX7_paper 17 = .ok (.getfield 53, 3) := by decide +kernel
theorem dX7_paper_20 : decode cX7_paper 20 = .ok (.iload_n 1, 1) := by decide +kernel
theorem dX7_paper_21 : decode cX7_paper 21 = .ok (.iaload, 1) := by decide +kernel
theorem dX7_paper_22 : decode cX7_paper 22 = .ok (.goto 4, 3) := by decide +kernel
theorem dX7_paper_25 : decode cX7_paper 25 = .ok (.iconst (-1), 1) := by decide +kernel
theorem dX7_paper_26 : decode cX7_paper 26 = .ok (.ireturn, 1) := by decide +kernel
set_option maxRecDepth 20000 in
theorem ggX7_isList_X7_isIn : GoodIn wsX7_isList wsX7_isIn := goodIn_r _ [5] (by decide +kernel) (by decide +kernel)
set_option maxRecDepth 20000 in
theorem gX7_isList_X7_isIn : GoodIn wsX7_isList (va_wsS RX7 62 yX7_isIn wsX7_isIn) := goodIn_app (goodIn_of _ (by decide +kernel)) ggX7_isList_X7_isIn
theorem dX7_isList_0 : decode cX7_isList 0 = .ok (.iload_n 0, 1) := by decide +kernel
theorem dX7_isList_1 : decode cX7_isList 1 = .ok (.i2l, 1) := by decide +kernel
theorem dX7_isList_2 : decode cX7_isList 2 = .ok (.lconst 0, 1) := by decide +kernel
theorem dX7_isList_3 : decode cX7_isList 3 = .ok (.ldc2_w 260, 3) := by decide +kernel
theorem dX7_isList_6 : decode cX7_isList 6 = .ok (.invokestatic 62, 3) := by decide +kernel
theorem dX7_isList_9 : decode cX7_isList 9 = .ok (.ireturn, 1) := by decide +kernel
set_option maxRecDepth 20000 in
theorem ggX7_judge_X7_isList : GoodIn wsX7_judge wsX7_isList := goodIn_r _ [6, 7, 8, 9, 5, 10] (by decide +kernel) (by decide +kernel)
set_option maxRecDepth 20000 in
theorem gX7_judge_X7_isList : GoodIn wsX7_judge (va_wsS RX7 245 yX7_isList wsX7_isList) := goodIn_app (goodIn_of _ (by decide +kernel)) ggX7_judge_X7_isList
set_option maxRecDepth 20000 in
theorem ggX7_judge_X7_isLamp : GoodIn wsX7_judge wsX7_isLamp := goodIn_r _ [13, 14, 8, 9, 5, 10] (by decide +kernel) (by decide +kernel)
set_option maxRecDepth 20000 in
theorem gX7_judge_X7_isLamp : GoodIn wsX7_judge (va_wsS RX7 174 yX7_isLamp wsX7_isLamp) := goodIn_app (goodIn_of _ (by decide +kernel)) ggX7_judge_X7_isLamp
set_option maxRecDepth 20000 in
theorem ggX7_judge_X7_isStack : GoodIn wsX7_judge wsX7_isStack := goodIn_r _ [18, 19, 8, 9, 5, 10, 72, 73, 74, 75, 76, 77, 78, 79, 80, 81, 82, 83, 84, 85, 86, 87, 88, 89, 90, 91, 92, 93, 94, 95, 96, 97] (by decide +kernel) (by decide +kernel)
set_option maxRecDepth 20000 in
theorem gX7_judge_X7_isStack : GoodIn wsX7_judge (wsV RX7 169 RX7 yX7_isStack wsX7_isStack) := goodIn_app (goodIn_of _ (by decide +kernel)) ggX7_judge_X7_isStack
set_option maxRecDepth 20000 in
theorem ggX7_judge_X7_shines : GoodIn wsX7_judge wsX7_shines := goodIn_r _ [23, 24, 25, 26, 5, 27, 28, 29, 30, 31, 32, 33, 19, 34, 35, 36, 37, 38, 39, 40, 41, 42, 43, 44, 45, 46, 47, 48, 49, 50, 51, 52, 53, 54, 55, 56, 57, 58, 59, 60, 61, 62, 72, 73, 74, 75, 76, 77, 78, 79, 80, 81, 82, 83, 84, 85, 86, 87, 88, 89, 90, 91, 92, 93, 94, 95, 96, 97] (by decide +kernel) (by decide +kernel)
set_option maxRecDepth 20000 in
theorem gX7_judge_X7_shines : GoodIn wsX7_judge (wsV RX7 183 RX7 yX7_shines wsX7_shines) := goodIn_app (goodIn_of _ (by decide +kernel)) ggX7_judge_X7_shines
set_option maxRecDepth 20000 in
theorem ggX7_judge_X7_shadeOf : GoodIn wsX7_judge wsX7_shadeOf := goodIn_r _ [66, 28, 67, 68, 69, 70, 5, 71, 19, 29, 72, 73, 74, 75, 76, 77, 78, 79, 80, 81, 82, 83, 84, 85, 86, 87, 88, 89, 90, 91, 92, 93, 94, 95, 96, 97] (by decide +kernel) (by decide +kernel)
set_option maxRecDepth 20000 in
theorem gX7_judge_X7_shadeOf : GoodIn wsX7_judge (wsV RX7 112 RX7 yX7_shadeOf wsX7_shadeOf) := goodIn_app (goodIn_of _ (by decide +kernel)) ggX7_judge_X7_shadeOf
theorem dX7_judge_0 : decode cX7_judge 0 = .ok (.iload_n 1, 1) := by decide +kernel
theorem dX7_judge_1 : decode cX7_judge 1 = .ok (.invokestatic 245, 3) := by decide +kernel
theorem dX7_judge_4 : decode cX7_judge 4 = .ok (.ifCond .eq 10, 3) := by decide +kernel
theorem dX7_judge_7 : decode cX7_judge 7 = .ok (.iload_n 2, 1) := by decide +kernel
theorem dX7_judge_8 : decode cX7_judge 8 = .ok (.invokestatic 174, 3) := by decide +kernel
theorem dX7_judge_11 : decode cX7_judge 11 = .ok (.ifCond .ne 5, 3) := by decide +kernel
theorem dX7_judge_14 : decode cX7_judge 14 = .ok (.iconst (-1), 1) := by decide +kernel
theorem dX7_judge_15 : decode cX7_judge 15 = .ok (.ireturn, 1) := by decide +kernel
theorem dX7_judge_16 : decode cX7_judge 16 = .ok (.aload_n 0, 1) := by decide +kernel
theorem dX7_judge_17 : decode cX7_judge 17 = .ok (.getfield 59, 3) := by decide +kernel
theorem dX7_judge_20 : decode cX7_judge 20 = .ok (.iload_n 1, 1) := by decide +kernel
theorem dX7_judge_21 : decode cX7_judge 21 = .ok (.iaload, 1) := by decide +kernel
theorem dX7_judge_22 : decode cX7_judge 22 = .ok (.ifCond .ge 6, 3) := by decide +kernel
theorem dX7_judge_25 : decode cX7_judge 25 = .ok (.bipush (-11), 2) := by decide +kernel
theorem dX7_judge_27 : decode cX7_judge 27 = .ok (.ireturn, 1) := by decide +kernel
theorem dX7_judge_28 : decode cX7_judge 28 = .ok (.iconst 0, 1) := by decide +kernel
theorem dX7_judge_29 : decode cX7_judge 29 = .ok (.istore_n 3, 1) := by decide +kernel
theorem dX7_judge_30 : decode cX7_judge 30 = .ok (.iload_n 3, 1) := by decide +kernel
theorem dX7_judge_31 : decode cX7_judge 31 = .ok (.aload_n 0, 1) := by decide +kernel
theorem dX7_judge_32 : decode cX7_judge 32 = .ok (.getfield 59, 3) := by decide +kernel
theorem dX7_judge_35 : decode cX7_judge 35 = .ok (.iload_n 1, 1) := by decide +kernel
theorem dX7_judge_36 : decode cX7_judge 36 = .ok (.iaload, 1) := by decide +kernel
theorem dX7_judge_37 : decode cX7_judge 37 = .ok (.if_icmp .ge 53, 3) := by decide +kernel
theorem dX7_judge_40 : decode cX7_judge 40 = .ok (.aload_n 0, 1) := by decide +kernel
theorem dX7_judge_41 : decode cX7_judge 41 = .ok (.iload_n 3, 1) := by decide +kernel
theorem dX7_judge_42 : decode cX7_judge 42 = .ok (.iconst 3, 1) := by decide +kernel
theorem dX7_judge_43 : decode cX7_judge 43 = .ok (.idiv, 1) := by decide +kernel
theorem dX7_judge_44 : decode cX7_judge 44 = .ok (.invokevirtual 169, 3) := by decide +kernel
theorem dX7_judge_47 : decode cX7_judge 47 = .ok (.ifCond .ne 5, 3) := by decide +kernel
theorem dX7_judge_50 : decode cX7_judge 50 = .ok (.iload_n 3, 1) := by decide +kernel
theorem dX7_judge_51 : decode cX7_judge 51 = .ok (.ireturn, 1) := by decide +kernel
