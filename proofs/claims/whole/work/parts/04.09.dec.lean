theorem dX8_takes_88 : decode cX8_takes 88 = .ok (.iload_n 3, 1) := by decide +kernel
theorem dX8_takes_89 : decode cX8_takes 89 = .ok (.iadd, 1) := by decide +kernel
theorem dX8_takes_90 : decode cX8_takes 90 = .ok (.aload_n 0, 1) := by decide +kernel
theorem dX8_takes_91 : decode cX8_takes 91 = .ok (.getfield 93, 3) := by decide +kernel
theorem dX8_takes_94 : decode cX8_takes 94 = .ok (.iload_n 3, 1) := by decide +kernel
theorem dX8_takes_95 : decode cX8_takes 95 = .ok (.iaload, 1) := by decide +kernel
theorem dX8_takes_96 : decode cX8_takes 96 = .ok (.iastore, 1) := by decide +kernel
theorem dX8_takes_97 : decode cX8_takes 97 = .ok (.aload_n 0, 1) := by decide +kernel
theorem dX8_takes_98 : decode cX8_takes 98 = .ok (.getfield 22, 3) := by decide +kernel
theorem dX8_takes_101 : decode cX8_takes 101 = .ok (.sipush 1280, 3) := by decide +kernel
theorem dX8_takes_104 : decode cX8_takes 104 = .ok (.iload_n 2, 1) := by decide +kernel
theorem dX8_takes_105 : decode cX8_takes 105 = .ok (.imul, 1) := by decide +kernel
theorem dX8_takes_106 : decode cX8_takes 106 = .ok (.iload_n 3, 1) := by decide +kernel
theorem dX8_takes_107 : decode cX8_takes 107 = .ok (.iadd, 1) := by decide +kernel
theorem dX8_takes_108 : decode cX8_takes 108 = .ok (.aload_n 0, 1) := by decide +kernel
theorem dX8_takes_109 : decode cX8_takes 109 = .ok (.getfield 96, 3) := by decide +kernel
theorem dX8_takes_112 : decode cX8_takes 112 = .ok (.iload_n 3, 1) := by decide +kernel
theorem dX8_takes_113 : decode cX8_takes 113 = .ok (.baload, 1) := by decide +kernel
theorem dX8_takes_114 : decode cX8_takes 114 = .ok (.bastore, 1) := by decide +kernel
theorem dX8_takes_115 : decode cX8_takes 115 = .ok (.iinc 3 1, 3) := by decide +kernel
theorem dX8_takes_118 : decode cX8_takes 118 = .ok (.goto (-46), 3) := by decide +kernel
theorem dX8_takes_121 : decode cX8_takes 121 = .ok (.return_, 1) := by decide +kernel
set_option maxRecDepth 20000 in
theorem ggX8_smooth_X8_isGrid : GoodIn wsX8_smooth wsX8_isGrid := goodIn_r _ [8, 9, 10, 7, 11] (by decide +kernel) (by decide +kernel)
set_option maxRecDepth 20000 in
theorem gX8_smooth_X8_isGrid : GoodIn wsX8_smooth (va_wsS RX8 103 yX8_isGrid wsX8_isGrid) := goodIn_app (goodIn_of _ (by decide +kernel)) ggX8_smooth_X8_isGrid
set_option maxRecDepth 20000 in
theorem ggX8_smooth_X8_in : GoodIn wsX8_smooth wsX8_in := goodIn_r _ [11] (by decide +kernel) (by decide +kernel)
set_option maxRecDepth 20000 in
theorem gX8_smooth_X8_in : GoodIn wsX8_smooth (va_wsS RX8 99 yX8_in wsX8_in) := goodIn_app (goodIn_of _ (by decide +kernel)) ggX8_smooth_X8_in
set_option maxRecDepth 20000 in
theorem ggX8_smooth_X8_neighbour : GoodIn wsX8_smooth wsX8_neighbour := goodIn_r _ [15, 16, 17, 7, 18, 19, 20, 21, 22, 23, 24, 25, 2, 9, 10, 11, 37, 38, 39, 40, 41, 42, 43, 44, 45, 46, 47, 48, 49, 50, 51, 52, 53, 54, 55, 56, 57, 58, 59, 60, 61, 62, 63, 64, 65, 66, 67, 68, 69] (by decide +kernel) (by decide +kernel)
set_option maxRecDepth 20000 in
theorem gX8_smooth_X8_neighbour : GoodIn wsX8_smooth (wsV RX8 206 RX8 yX8_neighbour wsX8_neighbour) := goodIn_app (goodIn_of _ (by decide +kernel)) ggX8_smooth_X8_neighbour
set_option maxRecDepth 20000 in
theorem ggX8_smooth_X8_nearest : GoodIn wsX8_smooth wsX8_nearest := goodIn_r _ [28, 29] (by decide +kernel) (by decide +kernel)
set_option maxRecDepth 20000 in
theorem gX8_smooth_X8_nearest : GoodIn wsX8_smooth (va_wsS RX8 262 yX8_nearest wsX8_nearest) := goodIn_app (goodIn_of _ (by decide +kernel)) ggX8_smooth_X8_nearest
set_option maxRecDepth 20000 in
theorem ggX8_smooth_X8_takes : GoodIn wsX8_smooth wsX8_takes := goodIn_r _ [33, 34, 35, 36, 3, 4, 2, 1, 37, 38, 39, 40, 41, 42, 43, 44, 45, 46, 47, 48, 49, 50, 51, 52, 53, 54, 55, 56, 57, 58, 59, 60, 61, 62, 63, 64, 65, 66, 67, 68, 69] (by decide +kernel) (by decide +kernel)
set_option maxRecDepth 20000 in
theorem gX8_smooth_X8_takes : GoodIn wsX8_smooth (wsV RX8 266 RX8 yX8_takes wsX8_takes) := goodIn_app (goodIn_of _ (by decide +kernel)) ggX8_smooth_X8_takes
theorem dX8_smooth_0 : decode cX8_smooth 0 = .ok (.iload_n 1, 1) := by decide +kernel
theorem dX8_smooth_1 : decode cX8_smooth 1 = .ok (.invokestatic 103, 3) := by decide +kernel
theorem dX8_smooth_4 : decode cX8_smooth 4 = .ok (.ifCond .eq 21, 3) := by decide +kernel
theorem dX8_smooth_7 : decode cX8_smooth 7 = .ok (.iload_n 2, 1) := by decide +kernel
theorem dX8_smooth_8 : decode cX8_smooth 8 = .ok (.invokestatic 103, 3) := by decide +kernel
theorem dX8_smooth_11 : decode cX8_smooth 11 = .ok (.ifCond .eq 14, 3) := by decide +kernel
theorem dX8_smooth_14 : decode cX8_smooth 14 = .ok (.iload_n 3, 1) := by decide +kernel
theorem dX8_smooth_15 : decode cX8_smooth 15 = .ok (.iconst 1, 1) := by decide +kernel
theorem dX8_smooth_16 : decode cX8_smooth 16 = .ok (.sipush 1000, 3) := by decide +kernel
theorem dX8_smooth_19 : decode cX8_smooth 19 = .ok (.invokestatic 99, 3) := by decide +kernel
theorem dX8_smooth_22 : decode cX8_smooth 22 = .ok (.ifCond .ne 5, 3) := by decide +kernel
theorem dX8_smooth_25 : decode cX8_smooth 25 = .ok (.iconst 0, 1) := by decide +kernel
theorem dX8_smooth_26 : decode cX8_smooth 26 = .ok (.ireturn, 1) := by decide +kernel
theorem dX8_smooth_27 : decode cX8_smooth 27 = .ok (.iconst 0, 1) := by decide +kernel
theorem dX8_smooth_28 : decode cX8_smooth 28 = .ok (.istore 4, 2) := by decide +kernel
theorem dX8_smooth_30 : decode cX8_smooth 30 = .ok (.iload 4, 2) := by decide +kernel
theorem dX8_smooth_32 : decode cX8_smooth 32 = .ok (.sipush 1280, 3) := by decide +kernel
theorem dX8_smooth_35 : decode cX8_smooth 35 = .ok (.if_icmp .ge 144, 3) := by decide +kernel
theorem dX8_smooth_38 : decode cX8_smooth 38 = .ok (.aload_n 0, 1) := by decide +kernel
theorem dX8_smooth_39 : decode cX8_smooth 39 = .ok (.getfield 96, 3) := by decide +kernel
theorem dX8_smooth_42 : decode cX8_smooth 42 = .ok (.iload 4, 2) := by decide +kernel
theorem dX8_smooth_44 : decode cX8_smooth 44 = .ok (.aload_n 0, 1) := by decide +kernel
theorem dX8_smooth_45 : decode cX8_smooth 45 = .ok (.getfield 22, 3) := by decide +kernel
theorem dX8_smooth_48 : decode cX8_smooth 48 = .ok (.sipush 1280, 3) := by decide +kernel
theorem dX8_smooth_51 : decode cX8_smooth 51 = .ok (.iload_n 1, 1) := by decide +kernel
theorem dX8_smooth_52 : decode cX8_smooth 52 = .ok (.imul, 1) := by decide +kernel
theorem dX8_smooth_53 : decode cX8_smooth 53 = .ok (.iload 4, 2) := by decide +kernel
theorem dX8_smooth_55 : decode cX8_smooth 55 = .ok (.iadd, 1) := by decide +kernel
theorem dX8_smooth_56 : decode cX8_smooth 56 = .ok (.baload, 1) := by decide +kernel
theorem dX8_smooth_57 : decode cX8_smooth 57 = .ok (.bastore, 1) := by decide +kernel
theorem dX8_smooth_58 : decode cX8_smooth 58 = .ok (.iload_n 3, 1) := by decide +kernel
theorem dX8_smooth_59 : decode cX8_smooth 59 = .ok (.i2l, 1) := by decide +kernel
theorem dX8_smooth_60 : decode cX8_smooth 60 = .ok (.aload_n 0, 1) := by decide +kernel
theorem dX8_smooth_61 : decode cX8_smooth 61 = .ok (.getfield 19, 3) := by decide +kernel
theorem dX8_smooth_64 : decode cX8_smooth 64 = .ok (.sipush 1280, 3) := by decide +kernel
theorem dX8_smooth_67 : decode cX8_smooth 67 = .ok (.iload_n 1, 1) := by decide +kernel
theorem dX8_smooth_68 : decode cX8_smooth 68 = .ok (.imul, 1) := by decide +kernel
theorem dX8_smooth_69 : decode cX8_smooth 69 = .ok (.iload 4, 2) := by decide +kernel
theorem dX8_smooth_71 : decode cX8_smooth 71 = .ok (.iadd, 1) := by decide +kernel
theorem dX8_smooth_72 : decode cX8_smooth 72 = .ok (.iaload, 1) := by decide +kernel
theorem dX8_smooth_73 : decode cX8_smooth 73 = .ok (.i2l, 1) := by decide +kernel
theorem dX8_smooth_74 : decode cX8_smooth 74 = .ok (.lmul, 1) := by decide +kernel
theorem dX8_smooth_75 : decode cX8_smooth 75 = .ok (.lstore 5, 2) := by decide +kernel
theorem dX8_smooth_77 : decode cX8_smooth 77 = .ok (.iload_n 3, 1) := by decide +kernel
theorem dX8_smooth_78 : decode cX8_smooth 78 = .ok (.istore 7, 2) := by decide +kernel
theorem dX8_smooth_80 : decode cX8_smooth 80 = .ok (.iconst 1, 1) := by decide +kernel
theorem dX8_smooth_81 : decode cX8_smooth 81 = .ok (.istore 8, 2) := by decide +kernel
theorem dX8_smooth_83 : decode cX8_smooth 83 = .ok (.iload 8, 2) := by decide +kernel
theorem dX8_smooth_85 : decode cX8_smooth 85 = .ok (.bipush 8, 2) := by decide +kernel
theorem dX8_smooth_87 : decode cX8_smooth 87 = .ok (.if_icmp .ge 57, 3) := by decide +kernel
theorem dX8_smooth_90 : decode cX8_smooth 90 = .ok (.aload_n 0, 1) := by decide +kernel
theorem dX8_smooth_91 : decode cX8_smooth 91 = .ok (.getfield 96, 3) := by decide +kernel
theorem dX8_smooth_94 : decode cX8_smooth 94 = .ok (.iload 4, 2) := by decide +kernel
theorem dX8_smooth_96 : decode cX8_smooth 96 = .ok (.baload, 1) := by decide +kernel
theorem dX8_smooth_97 : decode cX8_smooth 97 = .ok (.ifCond .eq 47, 3) := by decide +kernel
theorem dX8_smooth_100 : decode cX8_smooth 100 = .ok (.aload_n 0, 1) := by decide +kernel
theorem dX8_smooth_101 : decode cX8_smooth 101 = .ok (.iload_n 1, 1) := by decide +kernel
theorem dX8_smooth_102 : decode cX8_smooth 102 = .ok (.iload 4, 2) := by decide +kernel
theorem dX8_smooth_104 : decode cX8_smooth 104 = .ok (.iload 8, 2) := by decide +kernel
theorem dX8_smooth_106 : decode cX8_smooth 106 = .ok (.invokevirtual 206, 3) := by decide +kernel
theorem dX8_smooth_109 : decode cX8_smooth 109 = .ok (.istore 9, 2) := by decide +kernel
theorem dX8_smooth_111 : decode cX8_smooth 111 = .ok (.iload 9, 2) := by decide +kernel
theorem dX8_smooth_113 : decode cX8_smooth 113 = .ok (.ifCond .lt 25, 3) := by decide +kernel
theorem dX8_smooth_116 : decode cX8_smooth 116 = .ok (.lload 5, 2) := by decide +kernel
theorem dX8_smooth_118 : decode cX8_smooth 118 = .ok (.aload_n 0, 1) := by decide +kernel
theorem dX8_smooth_119 : decode cX8_smooth 119 = .ok (.getfield 19, 3) := by decide +kernel
theorem dX8_smooth_122 : decode cX8_smooth 122 = .ok (.sipush 1280, 3) := by decide +kernel
theorem dX8_smooth_125 : decode cX8_smooth 125 = .ok (.iload_n 1, 1) := by decide +kernel
theorem dX8_smooth_126 : decode cX8_smooth 126 = .ok (.imul, 1) := by decide +kernel
theorem dX8_smooth_127 : decode cX8_smooth 127 = .ok (.iload 9, 2) := by decide +kernel
theorem dX8_smooth_129 : decode cX8_smooth 129 = .ok (.iadd, 1) := by decide +kernel
theorem dX8_smooth_130 : decode cX8_smooth 130 = .ok (.iaload, 1) := by decide +kernel
theorem dX8_smooth_131 : decode cX8_smooth 131 = .ok (.i2l, 1) := by decide +kernel
theorem dX8_smooth_132 : decode cX8_smooth 132 = .ok (.ladd, 1) := by decide +kernel
theorem dX8_smooth_133 : decode cX8_smooth 133 = .ok (.lstore 5, 2) := by decide +kernel
theorem dX8_smooth_135 : decode cX8_smooth 135 = .ok (.iinc 7 1, 3) := by decide +kernel
theorem dX8_smooth_138 : decode cX8_smooth 138 = .ok (.iinc 8 2, 3) := by decide +kernel
theorem dX8_smooth_141 : decode cX8_smooth 141 = .ok (.goto (-58), 3) := by decide +kernel
theorem dX8_smooth_144 : decode cX8_smooth 144 = .ok (.aload_n 0, 1) := by decide +kernel
theorem dX8_smooth_145 : decode cX8_smooth 145 = .ok (.getfield 93, 3) := by decide +kernel
theorem dX8_smooth_148 : decode cX8_smooth 148 = .ok (.iload 4, 2) := by decide +kernel
theorem dX8_smooth_150 : decode cX8_smooth 150 = .ok (.aload_n 0, 1) := by decide +kernel
theorem dX8_smooth_151 : decode cX8_smooth 151 = .ok (.getfield 96, 3) := by decide +kernel
theorem dX8_smooth_154 : decode cX8_smooth 154 = .ok (.iload 4, 2) := by decide +kernel
theorem dX8_smooth_156 : decode cX8_smooth 156 = .ok (.baload, 1) := by decide +kernel
theorem dX8_smooth_157 : decode cX8_smooth 157 = .ok (.ifCond .eq 14, 3) := by decide +kernel
theorem dX8_smooth_160 : decode cX8_smooth 160 = .ok (.lload 5, 2) := by decide +kernel
theorem dX8_smooth_162 : decode cX8_smooth 162 = .ok (.iload 7, 2) := by decide +kernel
theorem dX8_smooth_164 : decode cX8_smooth 164 = .ok (.i2l, 1) := by decide +kernel
theorem dX8_smooth_165 : decode cX8_smooth 165 = .ok (.invokestatic 262, 3) := by decide +kernel
theorem dX8_smooth_168 : decode cX8_smooth 168 = .ok (.goto 4, 3) := by decide +kernel
theorem dX8_smooth_171 : decode cX8_smooth 171 = .ok (.iconst 0, 1) := by decide +kernel
theorem dX8_smooth_172 : decode cX8_smooth 172 = .ok (.iastore, 1) := by decide +kernel
theorem dX8_smooth_173 : decode cX8_smooth 173 = .ok (.iinc 4 1, 3) := by decide +kernel
theorem dX8_smooth_176 : decode cX8_smooth 176 = .ok (.goto (-146), 3) := by decide +kernel
theorem dX8_smooth_179 : decode cX8_smooth 179 = .ok (.aload_n 0, 1) := by decide +kernel
theorem dX8_smooth_180 : decode cX8_smooth 180 = .ok (.iload_n 1, 1) := by decide +kernel
theorem dX8_smooth_181 : decode cX8_smooth 181 = .ok (.iload_n 2, 1) := by decide +kernel
theorem dX8_smooth_182 : decode cX8_smooth 182 = .ok (.invokevirtual 266, 3) := by decide +kernel
theorem dX8_smooth_185 : decode cX8_smooth 185 = .ok (.iconst 1, 1) := by decide +kernel
theorem dX8_smooth_186 : decode cX8_smooth 186 = .ok (.ireturn, 1) := by decide +kernel
theorem dX8_nearest_0 : decode cX8_nearest 0 = .ok (.lload_n 0, 1) := by decide +kernel
theorem dX8_nearest_1 : decode cX8_nearest 1 = .ok (.lconst 0, 1) := by decide +kernel
theorem dX8_nearest_2 : decode cX8_nearest 2 = .ok (.lcmp, 1) := by decide +kernel
theorem dX8_nearest_3 : decode cX8_nearest 3 = .ok (.ifCond .lt 9, 3) := by decide +kernel
theorem dX8_nearest_6 : decode cX8_nearest 6 = .ok (.lload_n 0, 1) := by decide +kernel
theorem dX8_nearest_7 : decode cX8_nearest 7 = .ok (.lload_n 2, 1) := by decide +kernel
theorem dX8_nearest_8 : decode cX8_nearest 8 = .ok (.ldiv, 1) := by decide +kernel
theorem dX8_nearest_9 : decode cX8_nearest 9 = .ok (.goto 12, 3) := by decide +kernel
theorem dX8_nearest_12 : decode cX8_nearest 12 = .ok (.lload_n 0, 1) := by decide +kernel
theorem dX8_nearest_13 : decode cX8_nearest 13 = .ok (.lneg, 1) := by decide +kernel
theorem dX8_nearest_14 : decode cX8_nearest 14 = .ok (.lload_n 2, 1) := by decide +kernel
theorem dX8_nearest_15 : decode cX8_nearest 15 = .ok (.ladd, 1) := by decide +kernel
theorem dX8_nearest_16 : decode cX8_nearest 16 = .ok (.lconst 1, 1) := by decide +kernel
theorem dX8_nearest_17 : decode cX8_nearest 17 = .ok (.lsub, 1) := by decide +kernel
theorem dX8_nearest_18 : decode cX8_nearest 18 = .ok (.lload_n 2, 1) := by decide +kernel
theorem dX8_nearest_19 : decode cX8_nearest 19 = .ok (.ldiv, 1) := by decide +kernel
theorem dX8_nearest_20 : decode cX8_nearest 20 = .ok (.lneg, 1) := by decide +kernel
theorem dX8_nearest_21 : decode cX8_nearest 21 = .ok (.lstore 4, 2) := by decide +kernel
theorem dX8_nearest_23 : decode cX8_nearest 23 = .ok (.ldc2_w 209, 3) := by decide +kernel
theorem dX8_nearest_26 : decode cX8_nearest 26 = .ok (.lload_n 0, 1) := by decide +kernel
theorem dX8_nearest_27 : decode cX8_nearest 27 = .ok (.lload 4, 2) := by decide +kernel
theorem dX8_nearest_29 : decode cX8_nearest 29 = .ok (.lload_n 2, 1) := by decide +kernel
theorem dX8_nearest_30 : decode cX8_nearest 30 = .ok (.lmul, 1) := by decide +kernel
theorem dX8_nearest_31 : decode cX8_nearest 31 = .ok (.lsub, 1) := by decide +kernel
theorem dX8_nearest_32 : decode cX8_nearest 32 = .ok (.lmul, 1) := by decide +kernel
theorem dX8_nearest_33 : decode cX8_nearest 33 = .ok (.lstore 6, 2) := by decide +kernel
theorem dX8_nearest_35 : decode cX8_nearest 35 = .ok (.lload 6, 2) := by decide +kernel
theorem dX8_nearest_37 : decode cX8_nearest 37 = .ok (.lload_n 2, 1) := by decide +kernel
theorem dX8_nearest_38 : decode cX8_nearest 38 = .ok (.lcmp, 1) := by decide +kernel
theorem dX8_nearest_39 : decode cX8_nearest 39 = .ok (.ifCond .gt 21, 3) := by decide +kernel
theorem dX8_nearest_42 : decode cX8_nearest 42 = .ok (.lload 6, 2) := by decide +kernel
theorem dX8_nearest_44 : decode cX8_nearest 44 = .ok (.lload_n 2, 1) := by decide +kernel
theorem dX8_nearest_45 : decode cX8_nearest 45 = .ok (.lcmp, 1) := by decide +kernel
theorem dX8_nearest_46 : decode cX8_nearest 46 = .ok (.ifCond .ne 18, 3) := by decide +kernel
theorem dX8_nearest_49 : decode cX8_nearest 49 = .ok (.lload 4, 2) := by decide +kernel
theorem dX8_nearest_51 : decode cX8_nearest 51 = .ok (.ldc2_w 209, 3) := by decide +kernel
theorem dX8_nearest_54 : decode cX8_nearest 54 = .ok (.lrem, 1) := by decide +kernel
theorem dX8_nearest_55 : decode cX8_nearest 55 = .ok (.lconst 0, 1) := by decide +kernel
theorem dX8_nearest_56 : decode cX8_nearest 56 = .ok (.lcmp, 1) := by decide +kernel
theorem dX8_nearest_57 : decode cX8_nearest 57 = .ok (.ifCond .eq 7, 3) := by decide +kernel
theorem dX8_nearest_60 : decode cX8_nearest 60 = .ok (.iconst 1, 1) := by decide +kernel
theorem dX8_nearest_61 : decode cX8_nearest 61 = .ok (.goto 4, 3) := by decide +kernel
theorem dX8_nearest_64 : decode cX8_nearest 64 = .ok (.iconst 0, 1) := by decide +kernel
theorem dX8_nearest_65 : decode cX8_nearest 65 = .ok (.istore 8, 2) := by decide +kernel
theorem dX8_nearest_67 : decode cX8_nearest 67 = .ok (.iload 8, 2) := by decide +kernel
theorem dX8_nearest_69 : decode cX8_nearest 69 = .ok (.ifCond .eq 10, 3) := by decide +kernel
theorem dX8_nearest_72 : decode cX8_nearest 72 = .ok (.lload 4, 2) := by decide +kernel
theorem dX8_nearest_74 : decode cX8_nearest 74 = .ok (.lconst 1, 1) := by decide +kernel
theorem dX8_nearest_75 : decode cX8_nearest 75 = .ok (.ladd, 1) := by decide +kernel
theorem dX8_nearest_76 : decode cX8_nearest 76 = .ok (.goto 5, 3) := by decide +kernel
theorem dX8_nearest_79 : decode cX8_nearest 79 = .ok (.lload 4, 2) := by decide +kernel
theorem dX8_nearest_81 : decode cX8_nearest 81 = .ok (.l2i, 1) := by decide +kernel
theorem dX8_nearest_82 : decode cX8_nearest 82 = .ok (.ireturn, 1) := by decide +kernel
set_option maxRecDepth 20000 in
theorem ggX8_difference_X8_isGrid : GoodIn wsX8_difference wsX8_isGrid := goodIn_r _ [10, 11, 12, 9, 13] (by decide +kernel) (by decide +kernel)
set_option maxRecDepth 20000 in
theorem gX8_difference_X8_isGrid : GoodIn wsX8_difference (va_wsS RX8 103 yX8_isGrid wsX8_isGrid) := goodIn_app (goodIn_of _ (by decide +kernel)) ggX8_difference_X8_isGrid
set_option maxRecDepth 20000 in
theorem ggX8_difference_X8_in : GoodIn wsX8_difference wsX8_in := goodIn_r _ [13] (by decide +kernel) (by decide +kernel)
set_option maxRecDepth 20000 in
theorem gX8_difference_X8_in : GoodIn wsX8_difference (va_wsS RX8 99 yX8_in wsX8_in) := goodIn_app (goodIn_of _ (by decide +kernel)) ggX8_difference_X8_in
set_option maxRecDepth 20000 in
theorem ggX8_difference_X8_takes : GoodIn wsX8_difference wsX8_takes := goodIn_r _ [17, 18, 19, 20, 1, 6, 2, 3, 21, 22, 23, 24, 25, 26, 27, 28, 29, 30, 31, 32, 33, 34, 35, 36, 37, 38, 39, 40, 41, 42, 43, 44, 45, 46, 47, 48, 49, 50, 51, 52, 53] (by decide +kernel) (by decide +kernel)
set_option maxRecDepth 20000 in
theorem gX8_difference_X8_takes : GoodIn wsX8_difference (wsV RX8 266 RX8 yX8_takes wsX8_takes) := goodIn_app (goodIn_of _ (by decide +kernel)) ggX8_difference_X8_takes
theorem dX8_difference_0 : decode cX8_difference 0 = .ok (.iload_n 1, 1) := by decide +kernel
theorem dX8_difference_1 : decode cX8_difference 1 = .ok (.invokestatic 103, 3) := by decide +kernel
theorem dX8_difference_4 : decode cX8_difference 4 = .ok (.ifCond .eq 17, 3) := by decide +kernel
theorem dX8_difference_7 : decode cX8_difference 7 = .ok (.iload_n 2, 1) := by decide +kernel
theorem dX8_difference_8 : decode cX8_difference 8 = .ok (.invokestatic 103, 3) := by decide +kernel
theorem dX8_difference_11 : decode cX8_difference 11 = .ok (.ifCond .eq 10, 3) := by decide +kernel
theorem dX8_difference_14 : decode cX8_difference 14 = .ok (.iload_n 3, 1) := by decide +kernel
theorem dX8_difference_15 : decode cX8_difference 15 = .ok (.invokestatic 103, 3) := by decide +kernel
theorem dX8_difference_18 : decode cX8_difference 18 = .ok (.ifCond .ne 5, 3) := by decide +kernel
theorem dX8_difference_21 : decode cX8_difference 21 = .ok (.iconst (-1), 1) := by decide +kernel
theorem dX8_difference_22 : decode cX8_difference 22 = .ok (.ireturn, 1) := by decide +kernel
theorem dX8_difference_23 : decode cX8_difference 23 = .ok (.iconst 0, 1) := by decide +kernel
theorem dX8_difference_24 : decode cX8_difference 24 = .ok (.istore 4, 2) := by decide +kernel
theorem dX8_difference_26 : decode cX8_difference 26 = .ok (.iconst 0, 1) := by decide +kernel
theorem dX8_difference_27 : decode cX8_difference 27 = .ok (.istore 5, 2) := by decide +kernel
theorem dX8_difference_29 : decode cX8_difference 29 = .ok (.iload 5, 2) := by decide +kernel
theorem dX8_difference_31 : decode cX8_difference 31 = .ok (.sipush 1280, 3) := by decide +kernel
theorem dX8_difference_34 : decode cX8_difference 34 = .ok (.if_icmp .ge 156, 3) := by decide +kernel
theorem dX8_difference_37 : decode cX8_difference 37 = .ok (.aload_n 0, 1) := by decide +kernel
theorem dX8_difference_38 : decode cX8_difference 38 = .ok (.getfield 19, 3) := by decide +kernel
theorem dX8_difference_41 : decode cX8_difference 41 = .ok (.sipush 1280, 3) := by decide +kernel
theorem dX8_difference_44 : decode cX8_difference 44 = .ok (.iload_n 1, 1) := by decide +kernel
theorem dX8_difference_45 : decode cX8_difference 45 = .ok (.imul, 1) := by decide +kernel
theorem dX8_difference_46 : decode cX8_difference 46 = .ok (.iload 5, 2) := by decide +kernel
theorem dX8_difference_48 : decode cX8_difference 48 = .ok (.iadd, 1) := by decide +kernel
theorem dX8_difference_49 : decode cX8_difference 49 = .ok (.iaload, 1) := by decide +kernel
theorem dX8_difference_50 : decode cX8_difference 50 = .ok (.aload_n 0, 1) := by decide +kernel
theorem dX8_difference_51 : decode cX8_difference 51 = .ok (.getfield 19, 3) := by decide +kernel
theorem dX8_difference_54 : decode cX8_difference 54 = .ok (.sipush 1280, 3) := by decide +kernel
theorem dX8_difference_57 : decode cX8_difference 57 = .ok (.iload_n 2, 1) := by decide +kernel
theorem dX8_difference_58 : decode cX8_difference 58 = .ok (.imul, 1) := by decide +kernel
theorem dX8_difference_59 : decode cX8_difference 59 = .ok (.iload 5, 2) := by decide +kernel
theorem dX8_difference_61 : decode cX8_difference 61 = .ok (.iadd, 1) := by decide +kernel
theorem dX8_difference_62 : decode cX8_difference 62 = .ok (.iaload, 1) := by decide +kernel
theorem dX8_difference_63 : decode cX8_difference 63 = .ok (.isub, 1) := by decide +kernel
theorem dX8_difference_64 : decode cX8_difference 64 = .ok (.istore 6, 2) := by decide +kernel
theorem dX8_difference_66 : decode cX8_difference 66 = .ok (.aload_n 0, 1) := by decide +kernel
theorem dX8_difference_67 : decode cX8_difference 67 = .ok (.getfield 22, 3) := by decide +kernel
theorem dX8_difference_70 : decode cX8_difference 70 = .ok (.sipush 1280, 3) := by decide +kernel
theorem dX8_difference_73 : decode cX8_difference 73 = .ok (.iload_n 1, 1) := by decide +kernel
theorem dX8_difference_74 : decode cX8_difference 74 = .ok (.imul, 1) := by decide +kernel
theorem dX8_difference_75 : decode cX8_difference 75 = .ok (.iload 5, 2) := by decide +kernel
theorem dX8_difference_77 : decode cX8_difference 77 = .ok (.iadd, 1) := by decide +kernel
theorem dX8_difference_78 : decode cX8_difference 78 = .ok (.baload, 1) := by decide +kernel
theorem dX8_difference_79 : decode cX8_difference 79 = .ok (.ifCond .eq 23, 3) := by decide +kernel
theorem dX8_difference_82 : decode cX8_difference 82 = .ok (.aload_n 0, 1) := by decide +kernel
theorem dX8_difference_83 : decode cX8_difference 83 = .ok (.getfield 22, 3) := by decide +kernel
theorem dX8_difference_86 : decode cX8_difference 86 = .ok (.sipush 1280, 3) := by decide +kernel
theorem dX8_difference_89 : decode cX8_difference 89 = .ok (.iload_n 2, 1) := by decide +kernel
theorem dX8_difference_90 : decode cX8_difference 90 = .ok (.imul, 1) := by decide +kernel
theorem dX8_difference_91 : decode cX8_difference 91 = .ok (.iload 5, 2) := by decide +kernel
theorem dX8_difference_93 : decode cX8_difference 93 = .ok (.iadd, 1) := by decide +kernel
theorem dX8_difference_94 : decode cX8_difference 94 = .ok (.baload, 1) := by decide +kernel
theorem dX8_difference_95 : decode cX8_difference 95 = .ok (.ifCond .eq 7, 3) := by decide +kernel
theorem dX8_difference_98 : decode cX8_difference 98 = .ok (.iconst 1, 1) := by decide +kernel
theorem dX8_difference_99 : decode cX8_difference 99 = .ok (.goto 4, 3) := by decide +kernel
theorem dX8_difference_102 : decode cX8_difference 102 = .ok (.iconst 0, 1) := by decide +kernel
theorem dX8_difference_103 : decode cX8_difference 103 = .ok (.istore 7, 2) := by decide +kernel
theorem dX8_difference_105 : decode cX8_difference 105 = .ok (.aload_n 0, 1) := by decide +kernel
theorem dX8_difference_106 : decode cX8_difference 106 = .ok (.getfield 96, 3) := by decide +kernel
theorem dX8_difference_109 : decode cX8_difference 109 = .ok (.iload 5, 2) := by decide +kernel
theorem dX8_difference_111 : decode cX8_difference 111 = .ok (.iload 7, 2) := by decide +kernel
theorem dX8_difference_113 : decode cX8_difference 113 = .ok (.ifCond .eq 21, 3) := by decide +kernel
theorem dX8_difference_116 : decode cX8_difference 116 = .ok (.iload 6, 2) := by decide +kernel
theorem dX8_difference_118 : decode cX8_difference 118 = .ok (.ldc_w 270, 3) := by decide +kernel
theorem dX8_difference_121 : decode cX8_difference 121 = .ok (.ldc_w 271, 3) := by decide +kernel
theorem dX8_difference_124 : decode cX8_difference 124 = .ok (.invokestatic 99, 3) := by decide +kernel
theorem dX8_difference_127 : decode cX8_difference 127 = .ok (.ifCond .eq 7, 3) := by decide +kernel
theorem dX8_difference_130 : decode cX8_difference 130 = .ok (.iconst 1, 1) := by decide +kernel
theorem dX8_difference_131 : decode cX8_difference 131 = .ok (.goto 4, 3) := by decide +kernel
theorem dX8_difference_134 : decode cX8_difference 134 = .ok (.iconst 0, 1) := by decide +kernel
theorem dX8_difference_135 : decode cX8_difference 135 = .ok (.bastore, 1) := by decide +kernel
theorem dX8_difference_136 : decode cX8_difference 136 = .ok (.aload_n 0, 1) := by decide +kernel
theorem dX8_difference_137 : decode cX8_difference 137 = .ok (.getfield 93, 3) := by decide +kernel
theorem dX8_difference_140 : decode cX8_difference 140 = .ok (.iload 5, 2) := by decide +kernel
theorem dX8_difference_142 : decode cX8_difference 142 = .ok (.aload_n 0, 1) := by decide +kernel
theorem dX8_difference_143 : decode cX8_difference 143 = .ok (.getfield 96, 3) := by decide +kernel
theorem dX8_difference_146 : decode cX8_difference 146 = .ok (.iload 5, 2) := by decide +kernel
theorem dX8_difference_148 : decode cX8_difference 148 = .ok (.baload, 1) := by decide +kernel
theorem dX8_difference_149 : decode cX8_difference 149 = .ok (.ifCond .eq 8, 3) := by decide +kernel
theorem dX8_difference_152 : decode cX8_difference 152 = .ok (.iload 6, 2) := by decide +kernel
theorem dX8_difference_154 : decode cX8_difference 154 = .ok (.goto 4, 3) := by decide +kernel
theorem dX8_difference_157 : decode cX8_difference 157 = .ok (.iconst 0, 1) := by decide +kernel
theorem dX8_difference_158 : decode cX8_difference 158 = .ok (.iastore, 1) := by decide +kernel
theorem dX8_difference_159 : decode cX8_difference 159 = .ok (.iload 4, 2) := by decide +kernel
theorem dX8_difference_161 : decode cX8_difference 161 = .ok (.iload 7, 2) := by decide +kernel
theorem dX8_difference_163 : decode cX8_difference 163 = .ok (.ifCond .eq 17, 3) := by decide +kernel
theorem dX8_difference_166 : decode cX8_difference 166 = .ok (.aload_n 0, 1) := by decide +kernel
theorem dX8_difference_167 : decode cX8_difference 167 = .ok (.getfield 96, 3) := by decide +kernel
theorem dX8_difference_170 : decode cX8_difference 170 = .ok (.iload 5, 2) := by decide +kernel
theorem dX8_difference_172 : decode cX8_difference 172 = .ok (.baload, 1) := by decide +kernel
theorem dX8_difference_173 : decode cX8_difference 173 = .ok (.ifCond .ne 7, 3) := by decide +kernel
theorem dX8_difference_176 : decode cX8_difference 176 = .ok (.iconst 1, 1) := by decide +kernel
theorem dX8_difference_177 : decode cX8_difference 177 = .ok (.goto 4, 3) := by decide +kernel
theorem dX8_difference_180 : decode cX8_difference 180 = .ok (.iconst 0, 1) := by decide +kernel
theorem dX8_difference_181 : decode cX8_difference 181 = .ok (.iadd, 1) := by decide +kernel
theorem dX8_difference_182 : decode cX8_difference 182 = .ok (.istore 4, 2) := by decide +kernel
theorem dX8_difference_184 : decode cX8_difference 184 = .ok (.iinc 5 1, 3) := by decide +kernel
theorem dX8_difference_187 : decode cX8_difference 187 = .ok (.goto (-158), 3) := by decide +kernel
theorem dX8_difference_190 : decode cX8_difference 190 = .ok (.aload_n 0, 1) := by decide +kernel
theorem dX8_difference_191 : decode cX8_difference 191 = .ok (.iload_n 1, 1) := by decide +kernel
theorem dX8_difference_192 : decode cX8_difference 192 = .ok (.iload_n 3, 1) := by decide +kernel
theorem dX8_difference_193 : decode cX8_difference 193 = .ok (.invokevirtual 266, 3) := by decide +kernel
theorem dX8_difference_196 : decode cX8_difference 196 = .ok (.iload 4, 2) := by decide +kernel
theorem dX8_difference_198 : decode cX8_difference 198 = .ok (.ireturn, 1) := by decide +kernel
theorem dJxe99ae_isNaN_b9ae7_0 : decode cJxe99ae_isNaN_b9ae7 0 = .ok (.dload_n 0, 1) := by decide +kernel
theorem dJxe99ae_isNaN_b9ae7_1 : decode cJxe99ae_isNaN_b9ae7 1 = .ok (.dload_n 0, 1) := by decide +kernel
theorem dJxe99ae_isNaN_b9ae7_2 : decode cJxe99ae_isNaN_b9ae7 2 = .ok (.dcmp .l, 1) := by decide +kernel
theorem dJxe99ae_isNaN_b9ae7_3 : decode cJxe99ae_isNaN_b9ae7 3 = .ok (.ifCond .eq 7, 3) := by decide +kernel
theorem dJxe99ae_isNaN_b9ae7_6 : decode cJxe99ae_isNaN_b9ae7 6 = .ok (.iconst 1, 1) := by decide +kernel
theorem dJxe99ae_isNaN_b9ae7_7 : decode cJxe99ae_isNaN_b9ae7 7 = .ok (.goto 4, 3) := by decide +kernel
theorem dJxe99ae_isNaN_b9ae7_10 : decode cJxe99ae_isNaN_b9ae7 10 = .ok (.iconst 0, 1) := by decide +kernel
theorem dJxe99ae_isNaN_b9ae7_11 : decode cJxe99ae_isNaN_b9ae7 11 = .ok (.ireturn, 1) := by decide +kernel
set_option maxRecDepth 20000 in
theorem ggJxe99ae_doubleToLongBits_ccdee_Jxe99ae_isNaN_b9ae7 : GoodIn wsJxe99ae_doubleToLongBits_ccdee wsJxe99ae_isNaN_b9ae7 := goodIn_r _ [9] (by decide +kernel) (by decide +kernel)
set_option maxRecDepth 20000 in
theorem gJxe99ae_doubleToLongBits_ccdee_Jxe99ae_isNaN_b9ae7 : GoodIn wsJxe99ae_doubleToLongBits_ccdee (va_wsS RJxe99ae 122 yJxe99ae_isNaN_b9ae7 wsJxe99ae_isNaN_b9ae7) := goodIn_app (goodIn_of _ (by decide +kernel)) ggJxe99ae_doubleToLongBits_ccdee_Jxe99ae_isNaN_b9ae7
theorem dJxe99ae_doubleToLongBits_ccdee_0 : decode cJxe99ae_doubleToLongBits_ccdee 0 = .ok (.dload_n 0, 1) := by decide +kernel
theorem dJxe99ae_doubleToLongBits_ccdee_1 : decode cJxe99ae_doubleToLongBits_ccdee 1 = .ok (.invokestatic 122, 3) := by decide +kernel
theorem dJxe99ae_doubleToLongBits_ccdee_4 : decode cJxe99ae_doubleToLongBits_ccdee 4 = .ok (.ifCond .ne 8, 3) := by decide +kernel
theorem dJxe99ae_doubleToLongBits_ccdee_7 : decode cJxe99ae_doubleToLongBits_ccdee 7 = .ok (.dload_n 0, 1) := by decide +kernel
theorem dJxe99ae_doubleToLongBits_ccdee_8 : decode cJxe99ae_doubleToLongBits_ccdee 8 = .ok (.invokestatic 134, 3) := by decide +kernel
theorem dJxe99ae_doubleToLongBits_ccdee_11 : decode cJxe99ae_doubleToLongBits_ccdee 11 = .ok (.lreturn, 1) := by decide +kernel
theorem dJxe99ae_doubleToLongBits_ccdee_12 : decode cJxe99ae_doubleToLongBits_ccdee 12 = .ok (.ldc2_w 137, 3) := by decide +kernel
theorem dJxe99ae_doubleToLongBits_ccdee_15 : decode cJxe99ae_doubleToLongBits_ccdee 15 = .ok (.lreturn, 1) := by decide +kernel
theorem dJxf58ca_isNaN_12338_0 : decode cJxf58ca_isNaN_12338 0 = .ok (.fload_n 0, 1) := by decide +kernel
theorem dJxf58ca_isNaN_12338_1 : decode cJxf58ca_isNaN_12338 1 = .ok (.fload_n 0, 1) := by decide +kernel
theorem dJxf58ca_isNaN_12338_2 : decode cJxf58ca_isNaN_12338 2 = .ok (.fcmp .l, 1) := by decide +kernel
theorem dJxf58ca_isNaN_12338_3 : decode cJxf58ca_isNaN_12338 3 = .ok (.ifCond .eq 7, 3) := by decide +kernel
theorem dJxf58ca_isNaN_12338_6 : decode cJxf58ca_isNaN_12338 6 = .ok (.iconst 1, 1) := by decide +kernel
theorem dJxf58ca_isNaN_12338_7 : decode cJxf58ca_isNaN_12338 7 = .ok (.goto 4, 3) := by decide +kernel
theorem dJxf58ca_isNaN_12338_10 : decode cJxf58ca_isNaN_12338 10 = .ok (.iconst 0, 1) := by decide +kernel
theorem dJxf58ca_isNaN_12338_11 : decode cJxf58ca_isNaN_12338 11 = .ok (.ireturn, 1) := by decide +kernel
set_option maxRecDepth 20000 in
theorem ggJxf58ca_floatToIntBits_5c35a_Jxf58ca_isNaN_12338 : GoodIn wsJxf58ca_floatToIntBits_5c35a wsJxf58ca_isNaN_12338 := goodIn_r _ [9] (by decide +kernel) (by decide +kernel)
set_option maxRecDepth 20000 in
theorem gJxf58ca_floatToIntBits_5c35a_Jxf58ca_isNaN_12338 : GoodIn wsJxf58ca_floatToIntBits_5c35a (va_wsS RJxf58ca 59 yJxf58ca_isNaN_12338 wsJxf58ca_isNaN_12338) := goodIn_app (goodIn_of _ (by decide +kernel)) ggJxf58ca_floatToIntBits_5c35a_Jxf58ca_isNaN_12338
theorem dJxf58ca_floatToIntBits_5c35a_0 : decode cJxf58ca_floatToIntBits_5c35a 0 = .ok (.fload_n 0, 1) := by decide +kernel
theorem dJxf58ca_floatToIntBits_5c35a_1 : decode cJxf58ca_floatToIntBits_5c35a 1 = .ok (.invokestatic 59, 3) := by decide +kernel
theorem dJxf58ca_floatToIntBits_5c35a_4 : decode cJxf58ca_floatToIntBits_5c35a 4 = .ok (.ifCond .ne 8, 3) := by decide +kernel
theorem dJxf58ca_floatToIntBits_5c35a_7 : decode cJxf58ca_floatToIntBits_5c35a 7 = .ok (.fload_n 0, 1) := by decide +kernel
theorem dJxf58ca_floatToIntBits_5c35a_8 : decode cJxf58ca_floatToIntBits_5c35a 8 = .ok (.invokestatic 74, 3) := by decide +kernel
theorem dJxf58ca_floatToIntBits_5c35a_11 : decode cJxf58ca_floatToIntBits_5c35a 11 = .ok (.ireturn, 1) := by decide +kernel
theorem dJxf58ca_floatToIntBits_5c35a_12 : decode cJxf58ca_floatToIntBits_5c35a 12 = .ok (.ldc 77, 2) := by decide +kernel
theorem dJxf58ca_floatToIntBits_5c35a_14 : decode cJxf58ca_floatToIntBits_5c35a 14 = .ok (.ireturn, 1) := by decide +kernel
theorem dJ6_numberOfLeadingZeros_0f7a4_0 : decode cJ6_numberOfLeadingZeros_0f7a4 0 = .ok (.iload_n 0, 1) := by decide +kernel
theorem dJ6_numberOfLeadingZeros_0f7a4_1 : decode cJ6_numberOfLeadingZeros_0f7a4 1 = .ok (.ifCond .gt 14, 3) := by decide +kernel
theorem dJ6_numberOfLeadingZeros_0f7a4_4 : decode cJ6_numberOfLeadingZeros_0f7a4 4 = .ok (.iload_n 0, 1) := by decide +kernel
theorem dJ6_numberOfLeadingZeros_0f7a4_5 : decode cJ6_numberOfLeadingZeros_0f7a4 5 = .ok (.ifCond .ne 8, 3) := by decide +kernel
theorem dJ6_numberOfLeadingZeros_0f7a4_8 : decode cJ6_numberOfLeadingZeros_0f7a4 8 = .ok (.bipush 32, 2) := by decide +kernel
theorem dJ6_numberOfLeadingZeros_0f7a4_10 : decode cJ6_numberOfLeadingZeros_0f7a4 10 = .ok (.goto 4, 3) := by decide +kernel
theorem dJ6_numberOfLeadingZeros_0f7a4_13 : decode cJ6_numberOfLeadingZeros_0f7a4 13 = .ok (.iconst 0, 1) := by decide +kernel
theorem dJ6_numberOfLeadingZeros_0f7a4_14 : decode cJ6_numberOfLeadingZeros_0f7a4 14 = .ok (.ireturn, 1) := by decide +kernel
theorem dJ6_numberOfLeadingZeros_0f7a4_15 : decode cJ6_numberOfLeadingZeros_0f7a4 15 = .ok (.bipush 31, 2) := by decide +kernel
theorem dJ6_numberOfLeadingZeros_0f7a4_17 : decode cJ6_numberOfLeadingZeros_0f7a4 17 = .ok (.istore_n 1, 1) := by decide +kernel
theorem dJ6_numberOfLeadingZeros_0f7a4_18 : decode cJ6_numberOfLeadingZeros_0f7a4 18 = .ok (.iload_n 0, 1) := by decide +kernel
theorem dJ6_numberOfLeadingZeros_0f7a4_19 : decode cJ6_numberOfLeadingZeros_0f7a4 19 = .ok (.ldc_w 264, 3) := by decide +kernel
theorem dJ6_numberOfLeadingZeros_0f7a4_22 : decode cJ6_numberOfLeadingZeros_0f7a4 22 = .ok (.if_icmp .lt 11, 3) := by decide +kernel
theorem dJ6_numberOfLeadingZeros_0f7a4_25 : decode cJ6_numberOfLeadingZeros_0f7a4 25 = .ok (.iinc 1 (-16), 3) := by decide +kernel
theorem dJ6_numberOfLeadingZeros_0f7a4_28 : decode cJ6_numberOfLeadingZeros_0f7a4 28 = .ok (.iload_n 0, 1) := by decide +kernel
theorem dJ6_numberOfLeadingZeros_0f7a4_29 : decode cJ6_numberOfLeadingZeros_0f7a4 29 = .ok (.bipush 16, 2) := by decide +kernel
theorem dJ6_numberOfLeadingZeros_0f7a4_31 : decode cJ6_numberOfLeadingZeros_0f7a4 31 = .ok (.iushr, 1) := by decide +kernel
theorem dJ6_numberOfLeadingZeros_0f7a4_32 : decode cJ6_numberOfLeadingZeros_0f7a4 32 = .ok (.istore_n 0, 1) := by decide +kernel
theorem dJ6_numberOfLeadingZeros_0f7a4_33 : decode cJ6_numberOfLeadingZeros_0f7a4 33 = .ok (.iload_n 0, 1) := by decide +kernel
theorem dJ6_numberOfLeadingZeros_0f7a4_34 : decode cJ6_numberOfLeadingZeros_0f7a4 34 = .ok (.sipush 256, 3) := by decide +kernel
theorem dJ6_numberOfLeadingZeros_0f7a4_37 : decode cJ6_numberOfLeadingZeros_0f7a4 37 = .ok (.if_icmp .lt 11, 3) := by decide +kernel
theorem dJ6_numberOfLeadingZeros_0f7a4_40 : decode cJ6_numberOfLeadingZeros_0f7a4 40 = .ok (.iinc 1 (-8), 3) := by decide +kernel
theorem dJ6_numberOfLeadingZeros_0f7a4_43 : decode cJ6_numberOfLeadingZeros_0f7a4 43 = .ok (.iload_n 0, 1) := by decide +kernel
theorem dJ6_numberOfLeadingZeros_0f7a4_44 : decode cJ6_numberOfLeadingZeros_0f7a4 44 = .ok (.bipush 8, 2) := by decide +kernel
theorem dJ6_numberOfLeadingZeros_0f7a4_46 : decode cJ6_numberOfLeadingZeros_0f7a4 46 = .ok (.iushr, 1) := by decide +kernel
theorem dJ6_numberOfLeadingZeros_0f7a4_47 : decode cJ6_numberOfLeadingZeros_0f7a4 47 = .ok (.istore_n 0, 1) := by decide +kernel
theorem dJ6_numberOfLeadingZeros_0f7a4_48 : decode cJ6_numberOfLeadingZeros_0f7a4 48 = .ok (.iload_n 0, 1) := by decide +kernel
theorem dJ6_numberOfLeadingZeros_0f7a4_49 : decode cJ6_numberOfLeadingZeros_0f7a4 49 = .ok (.bipush 16, 2) := by decide +kernel
theorem dJ6_numberOfLeadingZeros_0f7a4_51 : decode cJ6_numberOfLeadingZeros_0f7a4 51 = .ok (.if_icmp .lt 10, 3) := by decide +kernel
theorem dJ6_numberOfLeadingZeros_0f7a4_54 : decode cJ6_numberOfLeadingZeros_0f7a4 54 = .ok (.iinc 1 (-4), 3) := by decide +kernel
theorem dJ6_numberOfLeadingZeros_0f7a4_57 : decode cJ6_numberOfLeadingZeros_0f7a4 57 = .ok (.iload_n 0, 1) := by decide +kernel
theorem dJ6_numberOfLeadingZeros_0f7a4_58 : decode cJ6_numberOfLeadingZeros_0f7a4 58 = .ok (.iconst 4, 1) := by decide +kernel
theorem dJ6_numberOfLeadingZeros_0f7a4_59 : decode cJ6_numberOfLeadingZeros_0f7a4 59 = .ok (.iushr, 1) := by decide +kernel
theorem dJ6_numberOfLeadingZeros_0f7a4_60 : decode cJ6_numberOfLeadingZeros_0f7a4 60 = .ok (.istore_n 0, 1) := by decide +kernel
theorem dJ6_numberOfLeadingZeros_0f7a4_61 : decode cJ6_numberOfLeadingZeros_0f7a4 61 = .ok (.iload_n 0, 1) := by decide +kernel
theorem dJ6_numberOfLeadingZeros_0f7a4_62 : decode cJ6_numberOfLeadingZeros_0f7a4 62 = .ok (.iconst 4, 1) := by decide +kernel
theorem dJ6_numberOfLeadingZeros_0f7a4_63 : decode cJ6_numberOfLeadingZeros_0f7a4 63 = .ok (.if_icmp .lt 10, 3) := by decide +kernel
theorem dJ6_numberOfLeadingZeros_0f7a4_66 : decode cJ6_numberOfLeadingZeros_0f7a4 66 = .ok (.iinc 1 (-2), 3) := by decide +kernel
theorem dJ6_numberOfLeadingZeros_0f7a4_69 : decode cJ6_numberOfLeadingZeros_0f7a4 69 = .ok (.iload_n 0, 1) := by decide +kernel
theorem dJ6_numberOfLeadingZeros_0f7a4_70 : decode cJ6_numberOfLeadingZeros_0f7a4 70 = .ok (.iconst 2, 1) := by decide +kernel
theorem dJ6_numberOfLeadingZeros_0f7a4_71 : decode cJ6_numberOfLeadingZeros_0f7a4 71 = .ok (.iushr, 1) := by decide +kernel
theorem dJ6_numberOfLeadingZeros_0f7a4_72 : decode cJ6_numberOfLeadingZeros_0f7a4 72 = .ok (.istore_n 0, 1) := by decide +kernel
theorem dJ6_numberOfLeadingZeros_0f7a4_73 : decode cJ6_numberOfLeadingZeros_0f7a4 73 = .ok (.iload_n 1, 1) := by decide +kernel
theorem dJ6_numberOfLeadingZeros_0f7a4_74 : decode cJ6_numberOfLeadingZeros_0f7a4 74 = .ok (.iload_n 0, 1) := by decide +kernel
theorem dJ6_numberOfLeadingZeros_0f7a4_75 : decode cJ6_numberOfLeadingZeros_0f7a4 75 = .ok (.iconst 1, 1) := by decide +kernel
theorem dJ6_numberOfLeadingZeros_0f7a4_76 : decode cJ6_numberOfLeadingZeros_0f7a4 76 = .ok (.iushr, 1) := by decide +kernel
theorem dJ6_numberOfLeadingZeros_0f7a4_77 : decode cJ6_numberOfLeadingZeros_0f7a4 77 = .ok (.isub, 1) := by decide +kernel
theorem dJ6_numberOfLeadingZeros_0f7a4_78 : decode cJ6_numberOfLeadingZeros_0f7a4 78 = .ok (.ireturn, 1) := by decide +kernel
theorem dJ6_bitCount_0f7a4_0 : decode cJ6_bitCount_0f7a4 0 = .ok (.iload_n 0, 1) := by decide +kernel
theorem dJ6_bitCount_0f7a4_1 : decode cJ6_bitCount_0f7a4 1 = .ok (.iload_n 0, 1) := by decide +kernel
theorem dJ6_bitCount_0f7a4_2 : decode cJ6_bitCount_0f7a4 2 = .ok (.iconst 1, 1) := by decide +kernel
theorem dJ6_bitCount_0f7a4_3 : decode cJ6_bitCount_0f7a4 3 = .ok (.iushr, 1) := by decide +kernel
theorem dJ6_bitCount_0f7a4_4 : decode cJ6_bitCount_0f7a4 4 = .ok (.ldc_w 265, 3) := by decide +kernel
theorem dJ6_bitCount_0f7a4_7 : decode cJ6_bitCount_0f7a4 7 = .ok (.iand, 1) := by decide +kernel
theorem dJ6_bitCount_0f7a4_8 : decode cJ6_bitCount_0f7a4 8 = .ok (.isub, 1) := by decide +kernel
theorem dJ6_bitCount_0f7a4_9 : decode cJ6_bitCount_0f7a4 9 = .ok (.istore_n 0, 1) := by decide +kernel
theorem dJ6_bitCount_0f7a4_10 : decode cJ6_bitCount_0f7a4 10 = .ok (.iload_n 0, 1) := by decide +kernel
theorem dJ6_bitCount_0f7a4_11 : decode cJ6_bitCount_0f7a4 11 = .ok (.ldc_w 266, 3) := by decide +kernel
theorem dJ6_bitCount_0f7a4_14 : decode cJ6_bitCount_0f7a4 14 = .ok (.iand, 1) := by decide +kernel
theorem dJ6_bitCount_0f7a4_15 : decode cJ6_bitCount_0f7a4 15 = .ok (.iload_n 0, 1) := by decide +kernel
theorem dJ6_bitCount_0f7a4_16 : decode cJ6_bitCount_0f7a4 16 = .ok (.iconst 2, 1) := by decide +kernel
theorem dJ6_bitCount_0f7a4_17 : decode cJ6_bitCount_0f7a4 17 = .ok (.iushr, 1) := by decide +kernel
theorem dJ6_bitCount_0f7a4_18 : decode cJ6_bitCount_0f7a4 18 = .ok (.ldc_w 266, 3) := by decide +kernel
theorem dJ6_bitCount_0f7a4_21 : decode cJ6_bitCount_0f7a4 21 = .ok (.iand, 1) := by decide +kernel
theorem dJ6_bitCount_0f7a4_22 : decode cJ6_bitCount_0f7a4 22 = .ok (.iadd, 1) := by decide +kernel
theorem dJ6_bitCount_0f7a4_23 : decode cJ6_bitCount_0f7a4 23 = .ok (.istore_n 0, 1) := by decide +kernel
theorem dJ6_bitCount_0f7a4_24 : decode cJ6_bitCount_0f7a4 24 = .ok (.iload_n 0, 1) := by decide +kernel
theorem dJ6_bitCount_0f7a4_25 : decode cJ6_bitCount_0f7a4 25 = .ok (.iload_n 0, 1) := by decide +kernel
theorem dJ6_bitCount_0f7a4_26 : decode cJ6_bitCount_0f7a4 26 = .ok (.iconst 4, 1) := by decide +kernel
theorem dJ6_bitCount_0f7a4_27 : decode cJ6_bitCount_0f7a4 27 = .ok (.iushr, 1) := by decide +kernel
theorem dJ6_bitCount_0f7a4_28 : decode cJ6_bitCount_0f7a4 28 = .ok (.iadd, 1) := by decide +kernel
theorem dJ6_bitCount_0f7a4_29 : decode cJ6_bitCount_0f7a4 29 = .ok (.ldc_w 267, 3) := by decide +kernel
theorem dJ6_bitCount_0f7a4_32 : decode cJ6_bitCount_0f7a4 32 = .ok (.iand, 1) := by decide +kernel
theorem dJ6_bitCount_0f7a4_33 : decode cJ6_bitCount_0f7a4 33 = .ok (.istore_n 0, 1) := by decide +kernel
theorem dJ6_bitCount_0f7a4_34 : decode cJ6_bitCount_0f7a4 34 = .ok (.iload_n 0, 1) := by decide +kernel
theorem dJ6_bitCount_0f7a4_35 : decode cJ6_bitCount_0f7a4 35 = .ok (.iload_n 0, 1) := by decide +kernel
theorem dJ6_bitCount_0f7a4_36 : decode cJ6_bitCount_0f7a4 36 = .ok (.bipush 8, 2) := by decide +kernel
theorem dJ6_bitCount_0f7a4_38 : decode cJ6_bitCount_0f7a4 38 = .ok (.iushr, 1) := by decide +kernel
theorem dJ6_bitCount_0f7a4_39 : decode cJ6_bitCount_0f7a4 39 = .ok (.iadd, 1) := by decide +kernel
theorem dJ6_bitCount_0f7a4_40 : decode cJ6_bitCount_0f7a4 40 = .ok (.istore_n 0, 1) := by decide +kernel
theorem dJ6_bitCount_0f7a4_41 : decode cJ6_bitCount_0f7a4 41 = .ok (.iload_n 0, 1) := by decide +kernel
theorem dJ6_bitCount_0f7a4_42 : decode cJ6_bitCount_0f7a4 42 = .ok (.iload_n 0, 1) := by decide +kernel
theorem dJ6_bitCount_0f7a4_43 : decode cJ6_bitCount_0f7a4 43 = .ok (.bipush 16, 2) := by decide +kernel
theorem dJ6_bitCount_0f7a4_45 : decode cJ6_bitCount_0f7a4 45 = .ok (.iushr, 1) := by decide +kernel
theorem dJ6_bitCount_0f7a4_46 : decode cJ6_bitCount_0f7a4 46 = .ok (.iadd, 1) := by decide +kernel
theorem dJ6_bitCount_0f7a4_47 : decode cJ6_bitCount_0f7a4 47 = .ok (.istore_n 0, 1) := by decide +kernel
theorem dJ6_bitCount_0f7a4_48 : decode cJ6_bitCount_0f7a4 48 = .ok (.iload_n 0, 1) := by decide +kernel
theorem dJ6_bitCount_0f7a4_49 : decode cJ6_bitCount_0f7a4 49 = .ok (.bipush 63, 2) := by decide +kernel
theorem dJ6_bitCount_0f7a4_51 : decode cJ6_bitCount_0f7a4 51 = .ok (.iand, 1) := by decide +kernel
theorem dJ6_bitCount_0f7a4_52 : decode cJ6_bitCount_0f7a4 52 = .ok (.ireturn, 1) := by decide +kernel
theorem dJ13_bitCount_95d88_0 : decode cJ13_bitCount_95d88 0 = .ok (.lload_n 0, 1) := by decide +kernel
theorem dJ13_bitCount_95d88_1 : decode cJ13_bitCount_95d88 1 = .ok (.lload_n 0, 1) := by decide +kernel
theorem dJ13_bitCount_95d88_2 : decode cJ13_bitCount_95d88 2 = .ok (.iconst 1, 1) := by decide +kernel
theorem dJ13_bitCount_95d88_3 : decode cJ13_bitCount_95d88 3 = .ok (.lushr, 1) := by decide +kernel
theorem dJ13_bitCount_95d88_4 : decode cJ13_bitCount_95d88 4 = .ok (.ldc2_w 314, 3) := by decide +kernel
theorem dJ13_bitCount_95d88_7 : decode cJ13_bitCount_95d88 7 = .ok (.land, 1) := by decide +kernel
theorem dJ13_bitCount_95d88_8 : decode cJ13_bitCount_95d88 8 = .ok (.lsub, 1) := by decide +kernel
theorem dJ13_bitCount_95d88_9 : decode cJ13_bitCount_95d88 9 = .ok (.lstore_n 0, 1) := by decide +kernel
theorem dJ13_bitCount_95d88_10 : decode cJ13_bitCount_95d88 10 = .ok (.lload_n 0, 1) := by decide +kernel
theorem dJ13_bitCount_95d88_11 : decode cJ13_bitCount_95d88 11 = .ok (.ldc2_w 316, 3) := by decide +kernel
theorem dJ13_bitCount_95d88_14 : decode cJ13_bitCount_95d88 14 = .ok (.land, 1) := by decide +kernel
theorem dJ13_bitCount_95d88_15 : decode cJ13_bitCount_95d88 15 = .ok (.lload_n 0, 1) := by decide +kernel
theorem dJ13_bitCount_95d88_16 : decode cJ13_bitCount_95d88 16 = .ok (.iconst 2, 1) := by decide +kernel
theorem dJ13_bitCount_95d88_17 : decode cJ13_bitCount_95d88 17 = .ok (.lushr, 1) := by decide +kernel
theorem dJ13_bitCount_95d88_18 : decode cJ13_bitCount_95d88 18 = .ok (.ldc2_w 316, 3) := by decide +kernel
theorem dJ13_bitCount_95d88_21 : decode cJ13_bitCount_95d88 21 = .ok (.land, 1) := by decide +kernel
theorem dJ13_bitCount_95d88_22 : decode cJ13_bitCount_95d88 22 = .ok (.ladd, 1) := by decide +kernel
theorem dJ13_bitCount_95d88_23 : decode cJ13_bitCount_95d88 23 = .ok (.lstore_n 0, 1) := by decide +kernel
theorem dJ13_bitCount_95d88_24 : decode cJ13_bitCount_95d88 24 = .ok (.lload_n 0, 1) := by decide +kernel
theorem dJ13_bitCount_95d88_25 : decode cJ13_bitCount_95d88 25 = .ok (.lload_n 0, 1) := by decide +kernel
theorem dJ13_bitCount_95d88_26 : decode cJ13_bitCount_95d88 26 = .ok (.iconst 4, 1) := by decide +kernel
theorem dJ13_bitCount_95d88_27 : decode cJ13_bitCount_95d88 27 = .ok (.lushr, 1) := by decide +kernel
theorem dJ13_bitCount_95d88_28 : decode cJ13_bitCount_95d88 28 = .ok (.ladd, 1) := by decide +kernel
theorem dJ13_bitCount_95d88_29 : decode cJ13_bitCount_95d88 29 = .ok (.ldc2_w 318, 3) := by decide +kernel
theorem dJ13_bitCount_95d88_32 : decode cJ13_bitCount_95d88 32 = .ok (.land, 1) := by decide +kernel
theorem dJ13_bitCount_95d88_33 : decode cJ13_bitCount_95d88 33 = .ok (.lstore_n 0, 1) := by decide +kernel
theorem dJ13_bitCount_95d88_34 : decode cJ13_bitCount_95d88 34 = .ok (.lload_n 0, 1) := by decide +kernel
theorem dJ13_bitCount_95d88_35 : decode cJ13_bitCount_95d88 35 = .ok (.lload_n 0, 1) := by decide +kernel
theorem dJ13_bitCount_95d88_36 : decode cJ13_bitCount_95d88 36 = .ok (.bipush 8, 2) := by decide +kernel
theorem dJ13_bitCount_95d88_38 : decode cJ13_bitCount_95d88 38 = .ok (.lushr, 1) := by decide +kernel
theorem dJ13_bitCount_95d88_39 : decode cJ13_bitCount_95d88 39 = .ok (.ladd, 1) := by decide +kernel
theorem dJ13_bitCount_95d88_40 : decode cJ13_bitCount_95d88 40 = .ok (.lstore_n 0, 1) := by decide +kernel
theorem dJ13_bitCount_95d88_41 : decode cJ13_bitCount_95d88 41 = .ok (.lload_n 0, 1) := by decide +kernel
theorem dJ13_bitCount_95d88_42 : decode cJ13_bitCount_95d88 42 = .ok (.lload_n 0, 1) := by decide +kernel
theorem dJ13_bitCount_95d88_43 : decode cJ13_bitCount_95d88 43 = .ok (.bipush 16, 2) := by decide +kernel
theorem dJ13_bitCount_95d88_45 : decode cJ13_bitCount_95d88 45 = .ok (.lushr, 1) := by decide +kernel
theorem dJ13_bitCount_95d88_46 : decode cJ13_bitCount_95d88 46 = .ok (.ladd, 1) := by decide +kernel
theorem dJ13_bitCount_95d88_47 : decode cJ13_bitCount_95d88 47 = .ok (.lstore_n 0, 1) := by decide +kernel
theorem dJ13_bitCount_95d88_48 : decode cJ13_bitCount_95d88 48 = .ok (.lload_n 0, 1) := by decide +kernel
theorem dJ13_bitCount_95d88_49 : decode cJ13_bitCount_95d88 49 = .ok (.lload_n 0, 1) := by decide +kernel
theorem dJ13_bitCount_95d88_50 : decode cJ13_bitCount_95d88 50 = .ok (.bipush 32, 2) := by decide +kernel
theorem dJ13_bitCount_95d88_52 : decode cJ13_bitCount_95d88 52 = .ok (.lushr, 1) := by decide +kernel
theorem dJ13_bitCount_95d88_53 : decode cJ13_bitCount_95d88 53 = .ok (.ladd, 1) := by decide +kernel
theorem dJ13_bitCount_95d88_54 : decode cJ13_bitCount_95d88 54 = .ok (.lstore_n 0, 1) := by decide +kernel
theorem dJ13_bitCount_95d88_55 : decode cJ13_bitCount_95d88 55 = .ok (.lload_n 0, 1) := by decide +kernel
theorem dJ13_bitCount_95d88_56 : decode cJ13_bitCount_95d88 56 = .ok (.l2i, 1) := by decide +kernel
theorem dJ13_bitCount_95d88_57 : decode cJ13_bitCount_95d88 57 = .ok (.bipush 127, 2) := by decide +kernel
theorem dJ13_bitCount_95d88_59 : decode cJ13_bitCount_95d88 59 = .ok (.iand, 1) := by decide +kernel
theorem dJ13_bitCount_95d88_60 : decode cJ13_bitCount_95d88 60 = .ok (.ireturn, 1) := by decide +kernel
theorem dJ9_floorDiv_f86c9_0 : decode cJ9_floorDiv_f86c9 0 = .ok (.lload_n 0, 1) := by decide +kernel
theorem dJ9_floorDiv_f86c9_1 : decode cJ9_floorDiv_f86c9 1 = .ok (.lload_n 2, 1) := by decide +kernel
theorem dJ9_floorDiv_f86c9_2 : decode cJ9_floorDiv_f86c9 2 = .ok (.ldiv, 1) := by decide +kernel
theorem dJ9_floorDiv_f86c9_3 : decode cJ9_floorDiv_f86c9 3 = .ok (.lstore 4, 2) := by decide +kernel
theorem dJ9_floorDiv_f86c9_5 : decode cJ9_floorDiv_f86c9 5 = .ok (.lload_n 0, 1) := by decide +kernel
theorem dJ9_floorDiv_f86c9_6 : decode cJ9_floorDiv_f86c9 6 = .ok (.lload_n 2, 1) := by decide +kernel
theorem dJ9_floorDiv_f86c9_7 : decode cJ9_floorDiv_f86c9 7 = .ok (.lxor, 1) := by decide +kernel
theorem dJ9_floorDiv_f86c9_8 : decode cJ9_floorDiv_f86c9 8 = .ok (.lconst 0, 1) := by decide +kernel
theorem dJ9_floorDiv_f86c9_9 : decode cJ9_floorDiv_f86c9 9 = .ok (.lcmp, 1) := by decide +kernel
theorem dJ9_floorDiv_f86c9_10 : decode cJ9_floorDiv_f86c9 10 = .ok (.ifCond .ge 17, 3) := by decide +kernel
theorem dJ9_floorDiv_f86c9_13 : decode cJ9_floorDiv_f86c9 13 = .ok (.lload 4, 2) := by decide +kernel
theorem dJ9_floorDiv_f86c9_15 : decode cJ9_floorDiv_f86c9 15 = .ok (.lload_n 2, 1) := by decide +kernel
theorem dJ9_floorDiv_f86c9_16 : decode cJ9_floorDiv_f86c9 16 = .ok (.lmul, 1) := by decide +kernel
theorem dJ9_floorDiv_f86c9_17 : decode cJ9_floorDiv_f86c9 17 = .ok (.lload_n 0, 1) := by decide +kernel
theorem dJ9_floorDiv_f86c9_18 : decode cJ9_floorDiv_f86c9 18 = .ok (.lcmp, 1) := by decide +kernel
theorem dJ9_floorDiv_f86c9_19 : decode cJ9_floorDiv_f86c9 19 = .ok (.ifCond .eq 8, 3) := by decide +kernel
theorem dJ9_floorDiv_f86c9_22 : decode cJ9_floorDiv_f86c9 22 = .ok (.lload 4, 2) := by decide +kernel
theorem dJ9_floorDiv_f86c9_24 : decode cJ9_floorDiv_f86c9 24 = .ok (.lconst 1, 1) := by decide +kernel
theorem dJ9_floorDiv_f86c9_25 : decode cJ9_floorDiv_f86c9 25 = .ok (.lsub, 1) := by decide +kernel
theorem dJ9_floorDiv_f86c9_26 : decode cJ9_floorDiv_f86c9 26 = .ok (.lreturn, 1) := by decide +kernel
theorem dJ9_floorDiv_f86c9_27 : decode cJ9_floorDiv_f86c9 27 = .ok (.lload 4, 2) := by decide +kernel
theorem dJ9_floorDiv_f86c9_29 : decode cJ9_floorDiv_f86c9 29 = .ok (.lreturn, 1) := by decide +kernel
theorem dJ9_floorMod_f86c9_0 : decode cJ9_floorMod_f86c9 0 = .ok (.lload_n 0, 1) := by decide +kernel
theorem dJ9_floorMod_f86c9_1 : decode cJ9_floorMod_f86c9 1 = .ok (.lload_n 2, 1) := by decide +kernel
theorem dJ9_floorMod_f86c9_2 : decode cJ9_floorMod_f86c9 2 = .ok (.lrem, 1) := by decide +kernel
theorem dJ9_floorMod_f86c9_3 : decode cJ9_floorMod_f86c9 3 = .ok (.lstore 4, 2) := by decide +kernel
theorem dJ9_floorMod_f86c9_5 : decode cJ9_floorMod_f86c9 5 = .ok (.lload_n 0, 1) := by decide +kernel
theorem dJ9_floorMod_f86c9_6 : decode cJ9_floorMod_f86c9 6 = .ok (.lload_n 2, 1) := by decide +kernel
theorem dJ9_floorMod_f86c9_7 : decode cJ9_floorMod_f86c9 7 = .ok (.lxor, 1) := by decide +kernel
theorem dJ9_floorMod_f86c9_8 : decode cJ9_floorMod_f86c9 8 = .ok (.lconst 0, 1) := by decide +kernel
theorem dJ9_floorMod_f86c9_9 : decode cJ9_floorMod_f86c9 9 = .ok (.lcmp, 1) := by decide +kernel
theorem dJ9_floorMod_f86c9_10 : decode cJ9_floorMod_f86c9 10 = .ok (.ifCond .ge 15, 3) := by decide +kernel
theorem dJ9_floorMod_f86c9_13 : decode cJ9_floorMod_f86c9 13 = .ok (.lload 4, 2) := by decide +kernel
theorem dJ9_floorMod_f86c9_15 : decode cJ9_floorMod_f86c9 15 = .ok (.lconst 0, 1) := by decide +kernel
theorem dJ9_floorMod_f86c9_16 : decode cJ9_floorMod_f86c9 16 = .ok (.lcmp, 1) := by decide +kernel
theorem dJ9_floorMod_f86c9_17 : decode cJ9_floorMod_f86c9 17 = .ok (.ifCond .eq 8, 3) := by decide +kernel
theorem dJ9_floorMod_f86c9_20 : decode cJ9_floorMod_f86c9 20 = .ok (.lload 4, 2) := by decide +kernel
theorem dJ9_floorMod_f86c9_22 : decode cJ9_floorMod_f86c9 22 = .ok (.lload_n 2, 1) := by decide +kernel
theorem dJ9_floorMod_f86c9_23 : decode cJ9_floorMod_f86c9 23 = .ok (.ladd, 1) := by decide +kernel
theorem dJ9_floorMod_f86c9_24 : decode cJ9_floorMod_f86c9 24 = .ok (.lreturn, 1) := by decide +kernel
theorem dJ9_floorMod_f86c9_25 : decode cJ9_floorMod_f86c9 25 = .ok (.lload 4, 2) := by decide +kernel
theorem dJ9_floorMod_f86c9_27 : decode cJ9_floorMod_f86c9 27 = .ok (.lreturn, 1) := by decide +kernel
theorem dJ9_abs_0f7a4_0 : decode cJ9_abs_0f7a4 0 = .ok (.iload_n 0, 1) := by decide +kernel
theorem dJ9_abs_0f7a4_1 : decode cJ9_abs_0f7a4 1 = .ok (.ifCond .ge 8, 3) := by decide +kernel
theorem dJ9_abs_0f7a4_4 : decode cJ9_abs_0f7a4 4 = .ok (.iload_n 0, 1) := by decide +kernel
theorem dJ9_abs_0f7a4_5 : decode cJ9_abs_0f7a4 5 = .ok (.ineg, 1) := by decide +kernel
theorem dJ9_abs_0f7a4_6 : decode cJ9_abs_0f7a4 6 = .ok (.goto 4, 3) := by decide +kernel
theorem dJ9_abs_0f7a4_9 : decode cJ9_abs_0f7a4 9 = .ok (.iload_n 0, 1) := by decide +kernel
theorem dJ9_abs_0f7a4_10 : decode cJ9_abs_0f7a4 10 = .ok (.ireturn, 1) := by decide +kernel
theorem dJ9_max_7cf53_0 : decode cJ9_max_7cf53 0 = .ok (.iload_n 0, 1) := by decide +kernel
theorem dJ9_max_7cf53_1 : decode cJ9_max_7cf53 1 = .ok (.iload_n 1, 1) := by decide +kernel
theorem dJ9_max_7cf53_2 : decode cJ9_max_7cf53 2 = .ok (.if_icmp .lt 7, 3) := by decide +kernel
theorem dJ9_max_7cf53_5 : decode cJ9_max_7cf53 5 = .ok (.iload_n 0, 1) := by decide +kernel
theorem dJ9_max_7cf53_6 : decode cJ9_max_7cf53 6 = .ok (.goto 4, 3) := by decide +kernel
theorem dJ9_max_7cf53_9 : decode cJ9_max_7cf53 9 = .ok (.iload_n 1, 1) := by decide +kernel
theorem dJ9_max_7cf53_10 : decode cJ9_max_7cf53 10 = .ok (.ireturn, 1) := by decide +kernel
theorem dJ9_min_7cf53_0 : decode cJ9_min_7cf53 0 = .ok (.iload_n 0, 1) := by decide +kernel
theorem dJ9_min_7cf53_1 : decode cJ9_min_7cf53 1 = .ok (.iload_n 1, 1) := by decide +kernel
theorem dJ9_min_7cf53_2 : decode cJ9_min_7cf53 2 = .ok (.if_icmp .gt 7, 3) := by decide +kernel
theorem dJ9_min_7cf53_5 : decode cJ9_min_7cf53 5 = .ok (.iload_n 0, 1) := by decide +kernel
theorem dJ9_min_7cf53_6 : decode cJ9_min_7cf53 6 = .ok (.goto 4, 3) := by decide +kernel
theorem dJ9_min_7cf53_9 : decode cJ9_min_7cf53 9 = .ok (.iload_n 1, 1) := by decide +kernel
theorem dJ9_min_7cf53_10 : decode cJ9_min_7cf53 10 = .ok (.ireturn, 1) := by decide +kernel
theorem dJ7_fill_d0a16_0 : decode cJ7_fill_d0a16 0 = .ok (.iconst 0, 1) := by decide +kernel
theorem dJ7_fill_d0a16_1 : decode cJ7_fill_d0a16 1 = .ok (.istore_n 3, 1) := by decide +kernel
theorem dJ7_fill_d0a16_2 : decode cJ7_fill_d0a16 2 = .ok (.aload_n 0, 1) := by decide +kernel
theorem dJ7_fill_d0a16_3 : decode cJ7_fill_d0a16 3 = .ok (.arraylength, 1) := by decide +kernel
theorem dJ7_fill_d0a16_4 : decode cJ7_fill_d0a16 4 = .ok (.istore 4, 2) := by decide +kernel
theorem dJ7_fill_d0a16_6 : decode cJ7_fill_d0a16 6 = .ok (.iload_n 3, 1) := by decide +kernel
theorem dJ7_fill_d0a16_7 : decode cJ7_fill_d0a16 7 = .ok (.iload 4, 2) := by decide +kernel
theorem dJ7_fill_d0a16_9 : decode cJ7_fill_d0a16 9 = .ok (.if_icmp .ge 13, 3) := by decide +kernel
theorem dJ7_fill_d0a16_12 : decode cJ7_fill_d0a16 12 = .ok (.aload_n 0, 1) := by decide +kernel
theorem dJ7_fill_d0a16_13 : decode cJ7_fill_d0a16 13 = .ok (.iload_n 3, 1) := by decide +kernel
theorem dJ7_fill_d0a16_14 : decode cJ7_fill_d0a16 14 = .ok (.lload_n 1, 1) := by decide +kernel
theorem dJ7_fill_d0a16_15 : decode cJ7_fill_d0a16 15 = .ok (.lastore, 1) := by decide +kernel
theorem dJ7_fill_d0a16_16 : decode cJ7_fill_d0a16 16 = .ok (.iinc 3 1, 3) := by decide +kernel
theorem dJ7_fill_d0a16_19 : decode cJ7_fill_d0a16 19 = .ok (.goto (-13), 3) := by decide +kernel
theorem dJ7_fill_d0a16_22 : decode cJ7_fill_d0a16 22 = .ok (.return_, 1) := by decide +kernel
theorem dJ7_fill_53178_0 : decode cJ7_fill_53178 0 = .ok (.iconst 0, 1) := by decide +kernel
theorem dJ7_fill_53178_1 : decode cJ7_fill_53178 1 = .ok (.istore_n 2, 1) := by decide +kernel
theorem dJ7_fill_53178_2 : decode cJ7_fill_53178 2 = .ok (.aload_n 0, 1) := by decide +kernel
theorem dJ7_fill_53178_3 : decode cJ7_fill_53178 3 = .ok (.arraylength, 1) := by decide +kernel
theorem dJ7_fill_53178_4 : decode cJ7_fill_53178 4 = .ok (.istore_n 3, 1) := by decide +kernel
theorem dJ7_fill_53178_5 : decode cJ7_fill_53178 5 = .ok (.iload_n 2, 1) := by decide +kernel
theorem dJ7_fill_53178_6 : decode cJ7_fill_53178 6 = .ok (.iload_n 3, 1) := by decide +kernel
theorem dJ7_fill_53178_7 : decode cJ7_fill_53178 7 = .ok (.if_icmp .ge 13, 3) := by decide +kernel
theorem dJ7_fill_53178_10 : decode cJ7_fill_53178 10 = .ok (.aload_n 0, 1) := by decide +kernel
theorem dJ7_fill_53178_11 : decode cJ7_fill_53178 11 = .ok (.iload_n 2, 1) := by decide +kernel
theorem dJ7_fill_53178_12 : decode cJ7_fill_53178 12 = .ok (.iload_n 1, 1) := by decide +kernel
theorem dJ7_fill_53178_13 : decode cJ7_fill_53178 13 = .ok (.iastore, 1) := by decide +kernel
theorem dJ7_fill_53178_14 : decode cJ7_fill_53178 14 = .ok (.iinc 2 1, 3) := by decide +kernel
theorem dJ7_fill_53178_17 : decode cJ7_fill_53178 17 = .ok (.goto (-12), 3) := by decide +kernel
theorem dJ7_fill_53178_20 : decode cJ7_fill_53178 20 = .ok (.return_, 1) := by decide +kernel
theorem dJ7_fill_031fb_0 : decode cJ7_fill_031fb 0 = .ok (.iconst 0, 1) := by decide +kernel
theorem dJ7_fill_031fb_1 : decode cJ7_fill_031fb 1 = .ok (.istore_n 2, 1) := by decide +kernel
theorem dJ7_fill_031fb_2 : decode cJ7_fill_031fb 2 = .ok (.aload_n 0, 1) := by decide +kernel
theorem dJ7_fill_031fb_3 : decode cJ7_fill_031fb 3 = .ok (.arraylength, 1) := by decide +kernel
theorem dJ7_fill_031fb_4 : decode cJ7_fill_031fb 4 = .ok (.istore_n 3, 1) := by decide +kernel
theorem dJ7_fill_031fb_5 : decode cJ7_fill_031fb 5 = .ok (.iload_n 2, 1) := by decide +kernel
theorem dJ7_fill_031fb_6 : decode cJ7_fill_031fb 6 = .ok (.iload_n 3, 1) := by decide +kernel
theorem dJ7_fill_031fb_7 : decode cJ7_fill_031fb 7 = .ok (.if_icmp .ge 13, 3) := by decide +kernel
theorem dJ7_fill_031fb_10 : decode cJ7_fill_031fb 10 = .ok (.aload_n 0, 1) := by decide +kernel
theorem dJ7_fill_031fb_11 : decode cJ7_fill_031fb 11 = .ok (.iload_n 2, 1) := by decide +kernel
theorem dJ7_fill_031fb_12 : decode cJ7_fill_031fb 12 = .ok (.iload_n 1, 1) := by decide +kernel
theorem dJ7_fill_031fb_13 : decode cJ7_fill_031fb 13 = .ok (.bastore, 1) := by decide +kernel
theorem dJ7_fill_031fb_14 : decode cJ7_fill_031fb 14 = .ok (.iinc 2 1, 3) := by decide +kernel
theorem dJ7_fill_031fb_17 : decode cJ7_fill_031fb 17 = .ok (.goto (-12), 3) := by decide +kernel
theorem dJ7_fill_031fb_20 : decode cJ7_fill_031fb 20 = .ok (.return_, 1) := by decide +kernel
abbrev vwCl : List vw_C := [(RX0, TX0, 2), (RX2, TX2, 4), (RX3, TX3, 4), (RX4, TX4, 12), (RX6, TX6, 4), (RX7, TX7, 6), (RX8, TX8, 33)]
