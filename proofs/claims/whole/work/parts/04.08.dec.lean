theorem dX8_saddle_68 : decode cX8_saddle 68 = .ok (.iload 4, 2) := by decide +kernel
theorem dX8_saddle_70 : decode cX8_saddle 70 = .ok (.iadd, 1) := by decide +kernel
theorem dX8_saddle_71 : decode cX8_saddle 71 = .ok (.iaload, 1) := by decide +kernel
theorem dX8_saddle_72 : decode cX8_saddle 72 = .ok (.istore 5, 2) := by decide +kernel
theorem dX8_saddle_74 : decode cX8_saddle 74 = .ok (.iload 5, 2) := by decide +kernel
theorem dX8_saddle_76 : decode cX8_saddle 76 = .ok (.iload_n 3, 1) := by decide +kernel
theorem dX8_saddle_77 : decode cX8_saddle 77 = .ok (.if_icmp .ge 8, 3) := by decide +kernel
theorem dX8_saddle_80 : decode cX8_saddle 80 = .ok (.iload 5, 2) := by decide +kernel
theorem dX8_saddle_82 : decode cX8_saddle 82 = .ok (.goto 4, 3) := by decide +kernel
theorem dX8_saddle_85 : decode cX8_saddle 85 = .ok (.iload_n 3, 1) := by decide +kernel
theorem dX8_saddle_86 : decode cX8_saddle 86 = .ok (.istore_n 3, 1) := by decide +kernel
theorem dX8_saddle_87 : decode cX8_saddle 87 = .ok (.aload_n 0, 1) := by decide +kernel
theorem dX8_saddle_88 : decode cX8_saddle 88 = .ok (.iload_n 1, 1) := by decide +kernel
theorem dX8_saddle_89 : decode cX8_saddle 89 = .ok (.iload 4, 2) := by decide +kernel
theorem dX8_saddle_91 : decode cX8_saddle 91 = .ok (.iload_n 2, 1) := by decide +kernel
theorem dX8_saddle_92 : decode cX8_saddle 92 = .ok (.invokevirtual 218, 3) := by decide +kernel
theorem dX8_saddle_95 : decode cX8_saddle 95 = .ok (.ifCond .eq 5, 3) := by decide +kernel
theorem dX8_saddle_98 : decode cX8_saddle 98 = .ok (.iload_n 3, 1) := by decide +kernel
theorem dX8_saddle_99 : decode cX8_saddle 99 = .ok (.ireturn, 1) := by decide +kernel
theorem dX8_saddle_100 : decode cX8_saddle 100 = .ok (.aload_n 0, 1) := by decide +kernel
theorem dX8_saddle_101 : decode cX8_saddle 101 = .ok (.getfield 87, 3) := by decide +kernel
theorem dX8_saddle_104 : decode cX8_saddle 104 = .ok (.iload 4, 2) := by decide +kernel
theorem dX8_saddle_106 : decode cX8_saddle 106 = .ok (.iconst 1, 1) := by decide +kernel
theorem dX8_saddle_107 : decode cX8_saddle 107 = .ok (.bastore, 1) := by decide +kernel
theorem dX8_saddle_108 : decode cX8_saddle 108 = .ok (.iconst 0, 1) := by decide +kernel
theorem dX8_saddle_109 : decode cX8_saddle 109 = .ok (.istore 6, 2) := by decide +kernel
theorem dX8_saddle_111 : decode cX8_saddle 111 = .ok (.iload 6, 2) := by decide +kernel
theorem dX8_saddle_113 : decode cX8_saddle 113 = .ok (.bipush 8, 2) := by decide +kernel
theorem dX8_saddle_115 : decode cX8_saddle 115 = .ok (.if_icmp .ge 33, 3) := by decide +kernel
theorem dX8_saddle_118 : decode cX8_saddle 118 = .ok (.aload_n 0, 1) := by decide +kernel
theorem dX8_saddle_119 : decode cX8_saddle 119 = .ok (.iload_n 1, 1) := by decide +kernel
theorem dX8_saddle_120 : decode cX8_saddle 120 = .ok (.iload 4, 2) := by decide +kernel
theorem dX8_saddle_122 : decode cX8_saddle 122 = .ok (.iload 6, 2) := by decide +kernel
theorem dX8_saddle_124 : decode cX8_saddle 124 = .ok (.invokevirtual 206, 3) := by decide +kernel
theorem dX8_saddle_127 : decode cX8_saddle 127 = .ok (.istore 7, 2) := by decide +kernel
theorem dX8_saddle_129 : decode cX8_saddle 129 = .ok (.iload 7, 2) := by decide +kernel
theorem dX8_saddle_131 : decode cX8_saddle 131 = .ok (.ifCond .lt 11, 3) := by decide +kernel
theorem dX8_saddle_134 : decode cX8_saddle 134 = .ok (.aload_n 0, 1) := by decide +kernel
theorem dX8_saddle_135 : decode cX8_saddle 135 = .ok (.getfield 90, 3) := by decide +kernel
theorem dX8_saddle_138 : decode cX8_saddle 138 = .ok (.iload 7, 2) := by decide +kernel
theorem dX8_saddle_140 : decode cX8_saddle 140 = .ok (.iconst 1, 1) := by decide +kernel
theorem dX8_saddle_141 : decode cX8_saddle 141 = .ok (.bastore, 1) := by decide +kernel
theorem dX8_saddle_142 : decode cX8_saddle 142 = .ok (.iinc 6 1, 3) := by decide +kernel
theorem dX8_saddle_145 : decode cX8_saddle 145 = .ok (.goto (-34), 3) := by decide +kernel
theorem dX8_saddle_148 : decode cX8_saddle 148 = .ok (.iconst (-1), 1) := by decide +kernel
theorem dX8_saddle_149 : decode cX8_saddle 149 = .ok (.istore 4, 2) := by decide +kernel
theorem dX8_saddle_151 : decode cX8_saddle 151 = .ok (.iconst 0, 1) := by decide +kernel
theorem dX8_saddle_152 : decode cX8_saddle 152 = .ok (.istore 6, 2) := by decide +kernel
theorem dX8_saddle_154 : decode cX8_saddle 154 = .ok (.iload 6, 2) := by decide +kernel
theorem dX8_saddle_156 : decode cX8_saddle 156 = .ok (.sipush 1280, 3) := by decide +kernel
theorem dX8_saddle_159 : decode cX8_saddle 159 = .ok (.if_icmp .ge 67, 3) := by decide +kernel
theorem dX8_saddle_162 : decode cX8_saddle 162 = .ok (.aload_n 0, 1) := by decide +kernel
theorem dX8_saddle_163 : decode cX8_saddle 163 = .ok (.getfield 90, 3) := by decide +kernel
theorem dX8_saddle_166 : decode cX8_saddle 166 = .ok (.iload 6, 2) := by decide +kernel
theorem dX8_saddle_168 : decode cX8_saddle 168 = .ok (.baload, 1) := by decide +kernel
theorem dX8_saddle_169 : decode cX8_saddle 169 = .ok (.ifCond .eq 51, 3) := by decide +kernel
theorem dX8_saddle_172 : decode cX8_saddle 172 = .ok (.aload_n 0, 1) := by decide +kernel
theorem dX8_saddle_173 : decode cX8_saddle 173 = .ok (.getfield 87, 3) := by decide +kernel
theorem dX8_saddle_176 : decode cX8_saddle 176 = .ok (.iload 6, 2) := by decide +kernel
theorem dX8_saddle_178 : decode cX8_saddle 178 = .ok (.baload, 1) := by decide +kernel
theorem dX8_saddle_179 : decode cX8_saddle 179 = .ok (.ifCond .ne 41, 3) := by decide +kernel
theorem dX8_saddle_182 : decode cX8_saddle 182 = .ok (.iload 4, 2) := by decide +kernel
theorem dX8_saddle_184 : decode cX8_saddle 184 = .ok (.ifCond .lt 32, 3) := by decide +kernel
theorem dX8_saddle_187 : decode cX8_saddle 187 = .ok (.aload_n 0, 1) := by decide +kernel
theorem dX8_saddle_188 : decode cX8_saddle 188 = .ok (.getfield 19, 3) := by decide +kernel
theorem dX8_saddle_191 : decode cX8_saddle 191 = .ok (.sipush 1280, 3) := by decide +kernel
theorem dX8_saddle_194 : decode cX8_saddle 194 = .ok (.iload_n 1, 1) := by decide +kernel
theorem dX8_saddle_195 : decode cX8_saddle 195 = .ok (.imul, 1) := by decide +kernel
theorem dX8_saddle_196 : decode cX8_saddle 196 = .ok (.iload 6, 2) := by decide +kernel
theorem dX8_saddle_198 : decode cX8_saddle 198 = .ok (.iadd, 1) := by decide +kernel
theorem dX8_saddle_199 : decode cX8_saddle 199 = .ok (.iaload, 1) := by decide +kernel
theorem dX8_saddle_200 : decode cX8_saddle 200 = .ok (.aload_n 0, 1) := by decide +kernel
theorem dX8_saddle_201 : decode cX8_saddle 201 = .ok (.getfield 19, 3) := by decide +kernel
theorem dX8_saddle_204 : decode cX8_saddle 204 = .ok (.sipush 1280, 3) := by decide +kernel
theorem dX8_saddle_207 : decode cX8_saddle 207 = .ok (.iload_n 1, 1) := by decide +kernel
theorem dX8_saddle_208 : decode cX8_saddle 208 = .ok (.imul, 1) := by decide +kernel
theorem dX8_saddle_209 : decode cX8_saddle 209 = .ok (.iload 4, 2) := by decide +kernel
theorem dX8_saddle_211 : decode cX8_saddle 211 = .ok (.iadd, 1) := by decide +kernel
theorem dX8_saddle_212 : decode cX8_saddle 212 = .ok (.iaload, 1) := by decide +kernel
theorem dX8_saddle_213 : decode cX8_saddle 213 = .ok (.if_icmp .le 7, 3) := by decide +kernel
theorem dX8_saddle_216 : decode cX8_saddle 216 = .ok (.iload 6, 2) := by decide +kernel
theorem dX8_saddle_218 : decode cX8_saddle 218 = .ok (.istore 4, 2) := by decide +kernel
theorem dX8_saddle_220 : decode cX8_saddle 220 = .ok (.iinc 6 1, 3) := by decide +kernel
theorem dX8_saddle_223 : decode cX8_saddle 223 = .ok (.goto (-69), 3) := by decide +kernel
theorem dX8_saddle_226 : decode cX8_saddle 226 = .ok (.goto (-172), 3) := by decide +kernel
theorem dX8_saddle_229 : decode cX8_saddle 229 = .ok (.ldc 221, 2) := by decide +kernel
theorem dX8_saddle_231 : decode cX8_saddle 231 = .ok (.ireturn, 1) := by decide +kernel
set_option maxRecDepth 20000 in
theorem ggX8_kindOf_X8_neighbours : GoodIn wsX8_kindOf wsX8_neighbours := goodIn_r _ [5, 6, 7, 8, 4, 9, 10, 11, 12, 13, 14, 15, 16, 17, 18, 19, 20, 21, 22, 23, 29, 30, 31, 32, 33, 34, 35, 36, 37, 38, 39, 40, 41, 42, 43, 44, 45, 46, 47, 48, 49, 50, 51, 52, 53, 54, 55, 56, 57, 58, 59, 60, 61] (by decide +kernel) (by decide +kernel)
set_option maxRecDepth 20000 in
theorem gX8_kindOf_X8_neighbours : GoodIn wsX8_kindOf (wsV RX8 215 RX8 yX8_neighbours wsX8_neighbours) := goodIn_app (goodIn_of _ (by decide +kernel)) ggX8_kindOf_X8_neighbours
set_option maxRecDepth 20000 in
theorem ggX8_kindOf_X8_neighbour : GoodIn wsX8_kindOf wsX8_neighbour := goodIn_r _ [9, 10, 11, 4, 12, 13, 14, 15, 16, 17, 18, 19, 20, 21, 22, 23, 29, 30, 31, 32, 33, 34, 35, 36, 37, 38, 39, 40, 41, 42, 43, 44, 45, 46, 47, 48, 49, 50, 51, 52, 53, 54, 55, 56, 57, 58, 59, 60, 61] (by decide +kernel) (by decide +kernel)
set_option maxRecDepth 20000 in
theorem gX8_kindOf_X8_neighbour : GoodIn wsX8_kindOf (wsV RX8 206 RX8 yX8_neighbour wsX8_neighbour) := goodIn_app (goodIn_of _ (by decide +kernel)) ggX8_kindOf_X8_neighbour
set_option maxRecDepth 20000 in
theorem ggX8_kindOf_X8_isAbove : GoodIn wsX8_kindOf wsX8_isAbove := goodIn_r _ [27, 28, 29, 30, 31, 32, 33, 34, 35, 36, 37, 38, 39, 40, 41, 42, 43, 44, 45, 46, 47, 48, 49, 50, 51, 52, 53, 54, 55, 56, 57, 58, 59, 60, 61] (by decide +kernel) (by decide +kernel)
set_option maxRecDepth 20000 in
theorem gX8_kindOf_X8_isAbove : GoodIn wsX8_kindOf (wsV RX8 218 RX8 yX8_isAbove wsX8_isAbove) := goodIn_app (goodIn_of _ (by decide +kernel)) ggX8_kindOf_X8_isAbove
theorem dX8_kindOf_0 : decode cX8_kindOf 0 = .ok (.aload_n 0, 1) := by decide +kernel
theorem dX8_kindOf_1 : decode cX8_kindOf 1 = .ok (.iload_n 1, 1) := by decide +kernel
theorem dX8_kindOf_2 : decode cX8_kindOf 2 = .ok (.iload_n 2, 1) := by decide +kernel
theorem dX8_kindOf_3 : decode cX8_kindOf 3 = .ok (.invokevirtual 215, 3) := by decide +kernel
theorem dX8_kindOf_6 : decode cX8_kindOf 6 = .ok (.bipush 8, 2) := by decide +kernel
theorem dX8_kindOf_8 : decode cX8_kindOf 8 = .ok (.if_icmp .ge 5, 3) := by decide +kernel
theorem dX8_kindOf_11 : decode cX8_kindOf 11 = .ok (.iconst 0, 1) := by decide +kernel
theorem dX8_kindOf_12 : decode cX8_kindOf 12 = .ok (.ireturn, 1) := by decide +kernel
theorem dX8_kindOf_13 : decode cX8_kindOf 13 = .ok (.iconst 0, 1) := by decide +kernel
theorem dX8_kindOf_14 : decode cX8_kindOf 14 = .ok (.istore_n 3, 1) := by decide +kernel
theorem dX8_kindOf_15 : decode cX8_kindOf 15 = .ok (.iconst 0, 1) := by decide +kernel
theorem dX8_kindOf_16 : decode cX8_kindOf 16 = .ok (.istore 4, 2) := by decide +kernel
theorem dX8_kindOf_18 : decode cX8_kindOf 18 = .ok (.iconst 0, 1) := by decide +kernel
theorem dX8_kindOf_19 : decode cX8_kindOf 19 = .ok (.istore 5, 2) := by decide +kernel
theorem dX8_kindOf_21 : decode cX8_kindOf 21 = .ok (.iload 5, 2) := by decide +kernel
theorem dX8_kindOf_23 : decode cX8_kindOf 23 = .ok (.bipush 8, 2) := by decide +kernel
theorem dX8_kindOf_25 : decode cX8_kindOf 25 = .ok (.if_icmp .ge 72, 3) := by decide +kernel
theorem dX8_kindOf_28 : decode cX8_kindOf 28 = .ok (.aload_n 0, 1) := by decide +kernel
theorem dX8_kindOf_29 : decode cX8_kindOf 29 = .ok (.iload_n 1, 1) := by decide +kernel
theorem dX8_kindOf_30 : decode cX8_kindOf 30 = .ok (.aload_n 0, 1) := by decide +kernel
theorem dX8_kindOf_31 : decode cX8_kindOf 31 = .ok (.iload_n 1, 1) := by decide +kernel
theorem dX8_kindOf_32 : decode cX8_kindOf 32 = .ok (.iload_n 2, 1) := by decide +kernel
theorem dX8_kindOf_33 : decode cX8_kindOf 33 = .ok (.iload 5, 2) := by decide +kernel
theorem dX8_kindOf_35 : decode cX8_kindOf 35 = .ok (.invokevirtual 206, 3) := by decide +kernel
theorem dX8_kindOf_38 : decode cX8_kindOf 38 = .ok (.iload_n 2, 1) := by decide +kernel
theorem dX8_kindOf_39 : decode cX8_kindOf 39 = .ok (.invokevirtual 218, 3) := by decide +kernel
theorem dX8_kindOf_42 : decode cX8_kindOf 42 = .ok (.istore 6, 2) := by decide +kernel
theorem dX8_kindOf_44 : decode cX8_kindOf 44 = .ok (.iload_n 3, 1) := by decide +kernel
theorem dX8_kindOf_45 : decode cX8_kindOf 45 = .ok (.iload 6, 2) := by decide +kernel
theorem dX8_kindOf_47 : decode cX8_kindOf 47 = .ok (.ifCond .eq 7, 3) := by decide +kernel
theorem dX8_kindOf_50 : decode cX8_kindOf 50 = .ok (.iconst 1, 1) := by decide +kernel
theorem dX8_kindOf_51 : decode cX8_kindOf 51 = .ok (.goto 4, 3) := by decide +kernel
theorem dX8_kindOf_54 : decode cX8_kindOf 54 = .ok (.iconst 0, 1) := by decide +kernel
theorem dX8_kindOf_55 : decode cX8_kindOf 55 = .ok (.iadd, 1) := by decide +kernel
theorem dX8_kindOf_56 : decode cX8_kindOf 56 = .ok (.istore_n 3, 1) := by decide +kernel
theorem dX8_kindOf_57 : decode cX8_kindOf 57 = .ok (.iload 4, 2) := by decide +kernel
theorem dX8_kindOf_59 : decode cX8_kindOf 59 = .ok (.iload 6, 2) := by decide +kernel
theorem dX8_kindOf_61 : decode cX8_kindOf 61 = .ok (.aload_n 0, 1) := by decide +kernel
theorem dX8_kindOf_62 : decode cX8_kindOf 62 = .ok (.iload_n 1, 1) := by decide +kernel
theorem dX8_kindOf_63 : decode cX8_kindOf 63 = .ok (.aload_n 0, 1) := by decide +kernel
theorem dX8_kindOf_64 : decode cX8_kindOf 64 = .ok (.iload_n 1, 1) := by decide +kernel
theorem dX8_kindOf_65 : decode cX8_kindOf 65 = .ok (.iload_n 2, 1) := by decide +kernel
theorem dX8_kindOf_66 : decode cX8_kindOf 66 = .ok (.iload 5, 2) := by decide +kernel
theorem dX8_kindOf_68 : decode cX8_kindOf 68 = .ok (.iconst 1, 1) := by decide +kernel
theorem dX8_kindOf_69 : decode cX8_kindOf 69 = .ok (.iadd, 1) := by decide +kernel
theorem dX8_kindOf_70 : decode cX8_kindOf 70 = .ok (.bipush 8, 2) := by decide +kernel
theorem dX8_kindOf_72 : decode cX8_kindOf 72 = .ok (.irem, 1) := by decide +kernel
theorem dX8_kindOf_73 : decode cX8_kindOf 73 = .ok (.invokevirtual 206, 3) := by decide +kernel
theorem dX8_kindOf_76 : decode cX8_kindOf 76 = .ok (.iload_n 2, 1) := by decide +kernel
theorem dX8_kindOf_77 : decode cX8_kindOf 77 = .ok (.invokevirtual 218, 3) := by decide +kernel
theorem dX8_kindOf_80 : decode cX8_kindOf 80 = .ok (.if_icmp .eq 7, 3) := by decide +kernel
theorem dX8_kindOf_83 : decode cX8_kindOf 83 = .ok (.iconst 1, 1) := by decide +kernel
theorem dX8_kindOf_84 : decode cX8_kindOf 84 = .ok (.goto 4, 3) := by decide +kernel
theorem dX8_kindOf_87 : decode cX8_kindOf 87 = .ok (.iconst 0, 1) := by decide +kernel
theorem dX8_kindOf_88 : decode cX8_kindOf 88 = .ok (.iadd, 1) := by decide +kernel
theorem dX8_kindOf_89 : decode cX8_kindOf 89 = .ok (.istore 4, 2) := by decide +kernel
theorem dX8_kindOf_91 : decode cX8_kindOf 91 = .ok (.iinc 5 1, 3) := by decide +kernel
theorem dX8_kindOf_94 : decode cX8_kindOf 94 = .ok (.goto (-73), 3) := by decide +kernel
theorem dX8_kindOf_97 : decode cX8_kindOf 97 = .ok (.iload_n 3, 1) := by decide +kernel
theorem dX8_kindOf_98 : decode cX8_kindOf 98 = .ok (.ifCond .ne 7, 3) := by decide +kernel
theorem dX8_kindOf_101 : decode cX8_kindOf 101 = .ok (.iconst 1, 1) := by decide +kernel
theorem dX8_kindOf_102 : decode cX8_kindOf 102 = .ok (.goto 24, 3) := by decide +kernel
theorem dX8_kindOf_105 : decode cX8_kindOf 105 = .ok (.iload_n 3, 1) := by decide +kernel
theorem dX8_kindOf_106 : decode cX8_kindOf 106 = .ok (.bipush 8, 2) := by decide +kernel
theorem dX8_kindOf_108 : decode cX8_kindOf 108 = .ok (.if_icmp .ne 7, 3) := by decide +kernel
theorem dX8_kindOf_111 : decode cX8_kindOf 111 = .ok (.iconst 2, 1) := by decide +kernel
theorem dX8_kindOf_112 : decode cX8_kindOf 112 = .ok (.goto 14, 3) := by decide +kernel
theorem dX8_kindOf_115 : decode cX8_kindOf 115 = .ok (.iload 4, 2) := by decide +kernel
theorem dX8_kindOf_117 : decode cX8_kindOf 117 = .ok (.iconst 4, 1) := by decide +kernel
theorem dX8_kindOf_118 : decode cX8_kindOf 118 = .ok (.if_icmp .lt 7, 3) := by decide +kernel
theorem dX8_kindOf_121 : decode cX8_kindOf 121 = .ok (.iconst 3, 1) := by decide +kernel
theorem dX8_kindOf_122 : decode cX8_kindOf 122 = .ok (.goto 4, 3) := by decide +kernel
theorem dX8_kindOf_125 : decode cX8_kindOf 125 = .ok (.iconst 0, 1) := by decide +kernel
theorem dX8_kindOf_126 : decode cX8_kindOf 126 = .ok (.ireturn, 1) := by decide +kernel
set_option maxRecDepth 20000 in
theorem ggX8_point_X8_isGrid : GoodIn wsX8_point wsX8_isGrid := goodIn_r _ [6, 7, 8, 5, 9] (by decide +kernel) (by decide +kernel)
set_option maxRecDepth 20000 in
theorem gX8_point_X8_isGrid : GoodIn wsX8_point (va_wsS RX8 103 yX8_isGrid wsX8_isGrid) := goodIn_app (goodIn_of _ (by decide +kernel)) ggX8_point_X8_isGrid
set_option maxRecDepth 20000 in
theorem ggX8_point_X8_has : GoodIn wsX8_point wsX8_has := goodIn_r _ [13, 14, 7, 8, 5, 9, 68, 69, 70, 71, 72, 73, 74, 75, 76, 77, 78, 79, 80, 81, 82, 83, 84, 85, 86, 87, 88, 89, 90, 91, 92, 93, 94, 95, 96, 97, 98, 99, 100] (by decide +kernel) (by decide +kernel)
set_option maxRecDepth 20000 in
theorem gX8_point_X8_has : GoodIn wsX8_point (wsV RX8 124 RX8 yX8_has wsX8_has) := goodIn_app (goodIn_of _ (by decide +kernel)) ggX8_point_X8_has
set_option maxRecDepth 20000 in
theorem ggX8_point_X8_flow : GoodIn wsX8_point wsX8_flow := goodIn_r _ [18, 19, 20, 21, 22, 23, 5, 24, 25, 26, 27, 28, 29, 30, 10, 11, 12, 13, 14, 7, 8, 9, 68, 69, 70, 71, 72, 73, 74, 75, 76, 77, 78, 79, 80, 81, 82, 83, 84, 85, 86, 87, 88, 89, 90, 91, 92, 93, 94, 95, 96, 97, 98, 99, 100] (by decide +kernel) (by decide +kernel)
set_option maxRecDepth 20000 in
theorem gX8_point_X8_flow : GoodIn wsX8_point (wsV RX8 211 RX8 yX8_flow wsX8_flow) := goodIn_app (goodIn_of _ (by decide +kernel)) ggX8_point_X8_flow
set_option maxRecDepth 20000 in
theorem ggX8_point_X8_basin : GoodIn wsX8_point wsX8_basin := goodIn_r _ [34, 15, 16, 17, 5, 18, 19, 20, 21, 22, 23, 24, 25, 26, 27, 28, 29, 30, 10, 11, 12, 13, 14, 7, 8, 9, 68, 69, 70, 71, 72, 73, 74, 75, 76, 77, 78, 79, 80, 81, 82, 83, 84, 85, 86, 87, 88, 89, 90, 91, 92, 93, 94, 95, 96, 97, 98, 99, 100] (by decide +kernel) (by decide +kernel)
set_option maxRecDepth 20000 in
theorem gX8_point_X8_basin : GoodIn wsX8_point (wsV RX8 223 RX8 yX8_basin wsX8_basin) := goodIn_app (goodIn_of _ (by decide +kernel)) ggX8_point_X8_basin
set_option maxRecDepth 20000 in
theorem ggX8_point_X8_streamOf : GoodIn wsX8_point wsX8_streamOf := goodIn_r _ [38, 39, 14, 15, 16, 17, 5, 18, 19, 20, 21, 22, 23, 24, 25, 26, 27, 28, 29, 30, 10, 11, 12, 13, 7, 8, 9, 68, 69, 70, 71, 72, 73, 74, 75, 76, 77, 78, 79, 80, 81, 82, 83, 84, 85, 86, 87, 88, 89, 90, 91, 92, 93, 94, 95, 96, 97, 98, 99, 100] (by decide +kernel) (by decide +kernel)
set_option maxRecDepth 20000 in
theorem gX8_point_X8_streamOf : GoodIn wsX8_point (wsV RX8 226 RX8 yX8_streamOf wsX8_streamOf) := goodIn_app (goodIn_of _ (by decide +kernel)) ggX8_point_X8_streamOf
set_option maxRecDepth 20000 in
theorem ggX8_point_X8_filledOf : GoodIn wsX8_point wsX8_filledOf := goodIn_r _ [43, 44, 14, 45, 19, 46, 47, 48, 49, 5, 50, 21, 22, 23, 24, 25, 26, 27, 28, 29, 30, 10, 11, 12, 13, 7, 8, 9, 68, 69, 70, 71, 72, 73, 74, 75, 76, 77, 78, 79, 80, 81, 82, 83, 84, 85, 86, 87, 88, 89, 90, 91, 92, 93, 94, 95, 96, 97, 98, 99, 100] (by decide +kernel) (by decide +kernel)
set_option maxRecDepth 20000 in
theorem gX8_point_X8_filledOf : GoodIn wsX8_point (wsV RX8 229 RX8 yX8_filledOf wsX8_filledOf) := goodIn_app (goodIn_of _ (by decide +kernel)) ggX8_point_X8_filledOf
set_option maxRecDepth 20000 in
theorem ggX8_point_X8_kindOf : GoodIn wsX8_point wsX8_kindOf := goodIn_r _ [54, 47, 48, 49, 5, 50, 21, 22, 23, 24, 25, 26, 27, 28, 29, 30, 10, 11, 12, 13, 14, 7, 8, 9, 55, 56, 57, 58, 19, 68, 69, 70, 71, 72, 73, 74, 75, 76, 77, 78, 79, 80, 81, 82, 83, 84, 85, 86, 87, 88, 89, 90, 91, 92, 93, 94, 95, 96, 97, 98, 99, 100] (by decide +kernel) (by decide +kernel)
set_option maxRecDepth 20000 in
theorem gX8_point_X8_kindOf : GoodIn wsX8_point (wsV RX8 232 RX8 yX8_kindOf wsX8_kindOf) := goodIn_app (goodIn_of _ (by decide +kernel)) ggX8_point_X8_kindOf
set_option maxRecDepth 20000 in
theorem ggX8_point_X8_isPeak : GoodIn wsX8_point wsX8_isPeak := goodIn_r _ [62, 21, 22, 23, 5, 24, 25, 26, 27, 28, 29, 30, 10, 11, 12, 13, 14, 7, 8, 9, 55, 56, 57, 58, 19, 68, 69, 70, 71, 72, 73, 74, 75, 76, 77, 78, 79, 80, 81, 82, 83, 84, 85, 86, 87, 88, 89, 90, 91, 92, 93, 94, 95, 96, 97, 98, 99, 100] (by decide +kernel) (by decide +kernel)
set_option maxRecDepth 20000 in
theorem gX8_point_X8_isPeak : GoodIn wsX8_point (wsV RX8 235 RX8 yX8_isPeak wsX8_isPeak) := goodIn_app (goodIn_of _ (by decide +kernel)) ggX8_point_X8_isPeak
set_option maxRecDepth 20000 in
theorem ggX8_point_X8_saddle : GoodIn wsX8_point wsX8_saddle := goodIn_r _ [66, 44, 67, 19, 2, 55, 56, 57, 5, 58, 21, 22, 23, 24, 25, 26, 27, 28, 29, 30, 10, 11, 12, 13, 14, 7, 8, 9, 68, 69, 70, 71, 72, 73, 74, 75, 76, 77, 78, 79, 80, 81, 82, 83, 84, 85, 86, 87, 88, 89, 90, 91, 92, 93, 94, 95, 96, 97, 98, 99, 100] (by decide +kernel) (by decide +kernel)
set_option maxRecDepth 20000 in
theorem gX8_point_X8_saddle : GoodIn wsX8_point (wsV RX8 238 RX8 yX8_saddle wsX8_saddle) := goodIn_app (goodIn_of _ (by decide +kernel)) ggX8_point_X8_saddle
set_option maxRecDepth 20000 in
theorem ggX8_point_X8_neighbours : GoodIn wsX8_point wsX8_neighbours := goodIn_r _ [50, 21, 22, 23, 5, 24, 25, 26, 27, 28, 29, 30, 10, 11, 12, 13, 14, 7, 8, 9, 68, 69, 70, 71, 72, 73, 74, 75, 76, 77, 78, 79, 80, 81, 82, 83, 84, 85, 86, 87, 88, 89, 90, 91, 92, 93, 94, 95, 96, 97, 98, 99, 100] (by decide +kernel) (by decide +kernel)
set_option maxRecDepth 20000 in
theorem gX8_point_X8_neighbours : GoodIn wsX8_point (wsV RX8 215 RX8 yX8_neighbours wsX8_neighbours) := goodIn_app (goodIn_of _ (by decide +kernel)) ggX8_point_X8_neighbours
theorem dX8_point_0 : decode cX8_point 0 = .ok (.iload_n 1, 1) := by decide +kernel
theorem dX8_point_1 : decode cX8_point 1 = .ok (.invokestatic 103, 3) := by decide +kernel
theorem dX8_point_4 : decode cX8_point 4 = .ok (.ifCond .eq 13, 3) := by decide +kernel
theorem dX8_point_7 : decode cX8_point 7 = .ok (.aload_n 0, 1) := by decide +kernel
theorem dX8_point_8 : decode cX8_point 8 = .ok (.iload_n 1, 1) := by decide +kernel
theorem dX8_point_9 : decode cX8_point 9 = .ok (.iload_n 2, 1) := by decide +kernel
theorem dX8_point_10 : decode cX8_point 10 = .ok (.iload_n 3, 1) := by decide +kernel
theorem dX8_point_11 : decode cX8_point 11 = .ok (.invokevirtual 124, 3) := by decide +kernel
theorem dX8_point_14 : decode cX8_point 14 = .ok (.ifCond .ne 6, 3) := by decide +kernel
theorem dX8_point_17 : decode cX8_point 17 = .ok (.ldc 222, 2) := by decide +kernel
theorem dX8_point_19 : decode cX8_point 19 = .ok (.ireturn, 1) := by decide +kernel
theorem dX8_point_20 : decode cX8_point 20 = .ok (.bipush 40, 2) := by decide +kernel
theorem dX8_point_22 : decode cX8_point 22 = .ok (.iload_n 2, 1) := by decide +kernel
theorem dX8_point_23 : decode cX8_point 23 = .ok (.imul, 1) := by decide +kernel
theorem dX8_point_24 : decode cX8_point 24 = .ok (.iload_n 3, 1) := by decide +kernel
theorem dX8_point_25 : decode cX8_point 25 = .ok (.iadd, 1) := by decide +kernel
theorem dX8_point_26 : decode cX8_point 26 = .ok (.istore 5, 2) := by decide +kernel
theorem dX8_point_28 : decode cX8_point 28 = .ok (.iload 4, 2) := by decide +kernel
theorem dX8_point_30 : decode cX8_point 30 = .ok (.tableswitch 113 0 6 #[42, 50, 58, 66, 74, 82, 105], 42) := by decide +kernel
theorem dX8_point_72 : decode cX8_point 72 = .ok (.aload_n 0, 1) := by decide +kernel
theorem dX8_point_73 : decode cX8_point 73 = .ok (.iload_n 1, 1) := by decide +kernel
theorem dX8_point_74 : decode cX8_point 74 = .ok (.iload 5, 2) := by decide +kernel
theorem dX8_point_76 : decode cX8_point 76 = .ok (.invokevirtual 211, 3) := by decide +kernel
theorem dX8_point_79 : decode cX8_point 79 = .ok (.ireturn, 1) := by decide +kernel
theorem dX8_point_80 : decode cX8_point 80 = .ok (.aload_n 0, 1) := by decide +kernel
theorem dX8_point_81 : decode cX8_point 81 = .ok (.iload_n 1, 1) := by decide +kernel
theorem dX8_point_82 : decode cX8_point 82 = .ok (.iload 5, 2) := by decide +kernel
theorem dX8_point_84 : decode cX8_point 84 = .ok (.invokevirtual 223, 3) := by decide +kernel
theorem dX8_point_87 : decode cX8_point 87 = .ok (.ireturn, 1) := by decide +kernel
theorem dX8_point_88 : decode cX8_point 88 = .ok (.aload_n 0, 1) := by decide +kernel
theorem dX8_point_89 : decode cX8_point 89 = .ok (.iload_n 1, 1) := by decide +kernel
theorem dX8_point_90 : decode cX8_point 90 = .ok (.iload 5, 2) := by decide +kernel
theorem dX8_point_92 : decode cX8_point 92 = .ok (.invokevirtual 226, 3) := by decide +kernel
theorem dX8_point_95 : decode cX8_point 95 = .ok (.ireturn, 1) := by decide +kernel
theorem dX8_point_96 : decode cX8_point 96 = .ok (.aload_n 0, 1) := by decide +kernel
theorem dX8_point_97 : decode cX8_point 97 = .ok (.iload_n 1, 1) := by decide +kernel
theorem dX8_point_98 : decode cX8_point 98 = .ok (.iload 5, 2) := by decide +kernel
theorem dX8_point_100 : decode cX8_point 100 = .ok (.invokevirtual 229, 3) := by decide +kernel
theorem dX8_point_103 : decode cX8_point 103 = .ok (.ireturn, 1) := by decide +kernel
theorem dX8_point_104 : decode cX8_point 104 = .ok (.aload_n 0, 1) := by decide +kernel
theorem dX8_point_105 : decode cX8_point 105 = .ok (.iload_n 1, 1) := by decide +kernel
theorem dX8_point_106 : decode cX8_point 106 = .ok (.iload 5, 2) := by decide +kernel
theorem dX8_point_108 : decode cX8_point 108 = .ok (.invokevirtual 232, 3) := by decide +kernel
theorem dX8_point_111 : decode cX8_point 111 = .ok (.ireturn, 1) := by decide +kernel
theorem dX8_point_112 : decode cX8_point 112 = .ok (.aload_n 0, 1) := by decide +kernel
theorem dX8_point_113 : decode cX8_point 113 = .ok (.iload_n 1, 1) := by decide +kernel
theorem dX8_point_114 : decode cX8_point 114 = .ok (.iload 5, 2) := by decide +kernel
theorem dX8_point_116 : decode cX8_point 116 = .ok (.invokevirtual 235, 3) := by decide +kernel
theorem dX8_point_119 : decode cX8_point 119 = .ok (.ifCond .eq 13, 3) := by decide +kernel
theorem dX8_point_122 : decode cX8_point 122 = .ok (.aload_n 0, 1) := by decide +kernel
theorem dX8_point_123 : decode cX8_point 123 = .ok (.iload_n 1, 1) := by decide +kernel
theorem dX8_point_124 : decode cX8_point 124 = .ok (.iload 5, 2) := by decide +kernel
theorem dX8_point_126 : decode cX8_point 126 = .ok (.invokevirtual 238, 3) := by decide +kernel
theorem dX8_point_129 : decode cX8_point 129 = .ok (.goto 5, 3) := by decide +kernel
theorem dX8_point_132 : decode cX8_point 132 = .ok (.ldc 221, 2) := by decide +kernel
theorem dX8_point_134 : decode cX8_point 134 = .ok (.ireturn, 1) := by decide +kernel
theorem dX8_point_135 : decode cX8_point 135 = .ok (.aload_n 0, 1) := by decide +kernel
theorem dX8_point_136 : decode cX8_point 136 = .ok (.iload_n 1, 1) := by decide +kernel
theorem dX8_point_137 : decode cX8_point 137 = .ok (.iload 5, 2) := by decide +kernel
theorem dX8_point_139 : decode cX8_point 139 = .ok (.invokevirtual 215, 3) := by decide +kernel
theorem dX8_point_142 : decode cX8_point 142 = .ok (.ireturn, 1) := by decide +kernel
theorem dX8_point_143 : decode cX8_point 143 = .ok (.ldc 222, 2) := by decide +kernel
theorem dX8_point_145 : decode cX8_point 145 = .ok (.ireturn, 1) := by decide +kernel
set_option maxRecDepth 20000 in
theorem ggX8_count_X8_isGrid : GoodIn wsX8_count wsX8_isGrid := goodIn_r _ [4, 5, 6, 3, 7] (by decide +kernel) (by decide +kernel)
set_option maxRecDepth 20000 in
theorem gX8_count_X8_isGrid : GoodIn wsX8_count (va_wsS RX8 103 yX8_isGrid wsX8_isGrid) := goodIn_app (goodIn_of _ (by decide +kernel)) ggX8_count_X8_isGrid
set_option maxRecDepth 20000 in
theorem ggX8_count_X8_in : GoodIn wsX8_count wsX8_in := goodIn_r _ [7] (by decide +kernel) (by decide +kernel)
set_option maxRecDepth 20000 in
theorem gX8_count_X8_in : GoodIn wsX8_count (va_wsS RX8 99 yX8_in wsX8_in) := goodIn_app (goodIn_of _ (by decide +kernel)) ggX8_count_X8_in
set_option maxRecDepth 20000 in
theorem ggX8_count_X8_has : GoodIn wsX8_count wsX8_has := goodIn_r _ [11, 12, 5, 6, 3, 7, 49, 50, 51, 52, 53, 54, 55, 56, 57, 58, 59, 60, 61, 62, 63, 64, 65, 66, 67, 68, 69, 70, 71, 72, 73, 74, 75, 76, 77, 78, 79, 80, 81] (by decide +kernel) (by decide +kernel)
set_option maxRecDepth 20000 in
theorem gX8_count_X8_has : GoodIn wsX8_count (wsV RX8 124 RX8 yX8_has wsX8_has) := goodIn_app (goodIn_of _ (by decide +kernel)) ggX8_count_X8_has
set_option maxRecDepth 20000 in
theorem ggX8_count_X8_counts : GoodIn wsX8_count wsX8_counts := goodIn_r _ [16, 17, 18, 19, 3, 20, 8, 9, 10, 11, 12, 5, 6, 7, 21, 22, 23, 24, 25, 26, 27, 28, 29, 30, 31, 32, 33, 34, 35, 36, 37, 38, 39, 40, 41, 42, 43, 44, 45, 46, 47, 48, 49, 50, 51, 52, 53, 54, 55, 56, 57, 58, 59, 60, 61, 62, 63, 64, 65, 66, 67, 68, 69, 70, 71, 72, 73, 74, 75, 76, 77, 78, 79, 80, 81] (by decide +kernel) (by decide +kernel)
set_option maxRecDepth 20000 in
theorem gX8_count_X8_counts : GoodIn wsX8_count (wsV RX8 241 RX8 yX8_counts wsX8_counts) := goodIn_app (goodIn_of _ (by decide +kernel)) ggX8_count_X8_counts
theorem dX8_count_0 : decode cX8_count 0 = .ok (.iload_n 1, 1) := by decide +kernel
theorem dX8_count_1 : decode cX8_count 1 = .ok (.invokestatic 103, 3) := by decide +kernel
theorem dX8_count_4 : decode cX8_count 4 = .ok (.ifCond .eq 12, 3) := by decide +kernel
theorem dX8_count_7 : decode cX8_count 7 = .ok (.iload_n 2, 1) := by decide +kernel
theorem dX8_count_8 : decode cX8_count 8 = .ok (.iconst 0, 1) := by decide +kernel
theorem dX8_count_9 : decode cX8_count 9 = .ok (.iconst 5, 1) := by decide +kernel
theorem dX8_count_10 : decode cX8_count 10 = .ok (.invokestatic 99, 3) := by decide +kernel
theorem dX8_count_13 : decode cX8_count 13 = .ok (.ifCond .ne 5, 3) := by decide +kernel
theorem dX8_count_16 : decode cX8_count 16 = .ok (.iconst (-1), 1) := by decide +kernel
theorem dX8_count_17 : decode cX8_count 17 = .ok (.ireturn, 1) := by decide +kernel
theorem dX8_count_18 : decode cX8_count 18 = .ok (.iconst 0, 1) := by decide +kernel
theorem dX8_count_19 : decode cX8_count 19 = .ok (.istore_n 3, 1) := by decide +kernel
theorem dX8_count_20 : decode cX8_count 20 = .ok (.iconst 0, 1) := by decide +kernel
theorem dX8_count_21 : decode cX8_count 21 = .ok (.istore 4, 2) := by decide +kernel
theorem dX8_count_23 : decode cX8_count 23 = .ok (.iload 4, 2) := by decide +kernel
theorem dX8_count_25 : decode cX8_count 25 = .ok (.bipush 32, 2) := by decide +kernel
theorem dX8_count_27 : decode cX8_count 27 = .ok (.if_icmp .ge 53, 3) := by decide +kernel
theorem dX8_count_30 : decode cX8_count 30 = .ok (.iconst 0, 1) := by decide +kernel
theorem dX8_count_31 : decode cX8_count 31 = .ok (.istore 5, 2) := by decide +kernel
theorem dX8_count_33 : decode cX8_count 33 = .ok (.iload 5, 2) := by decide +kernel
theorem dX8_count_35 : decode cX8_count 35 = .ok (.bipush 40, 2) := by decide +kernel
theorem dX8_count_37 : decode cX8_count 37 = .ok (.if_icmp .ge 37, 3) := by decide +kernel
theorem dX8_count_40 : decode cX8_count 40 = .ok (.aload_n 0, 1) := by decide +kernel
theorem dX8_count_41 : decode cX8_count 41 = .ok (.iload_n 1, 1) := by decide +kernel
theorem dX8_count_42 : decode cX8_count 42 = .ok (.iload 4, 2) := by decide +kernel
theorem dX8_count_44 : decode cX8_count 44 = .ok (.iload 5, 2) := by decide +kernel
theorem dX8_count_46 : decode cX8_count 46 = .ok (.invokevirtual 124, 3) := by decide +kernel
theorem dX8_count_49 : decode cX8_count 49 = .ok (.ifCond .eq 19, 3) := by decide +kernel
theorem dX8_count_52 : decode cX8_count 52 = .ok (.aload_n 0, 1) := by decide +kernel
theorem dX8_count_53 : decode cX8_count 53 = .ok (.iload_n 1, 1) := by decide +kernel
theorem dX8_count_54 : decode cX8_count 54 = .ok (.iload 4, 2) := by decide +kernel
theorem dX8_count_56 : decode cX8_count 56 = .ok (.iload 5, 2) := by decide +kernel
theorem dX8_count_58 : decode cX8_count 58 = .ok (.iload_n 2, 1) := by decide +kernel
theorem dX8_count_59 : decode cX8_count 59 = .ok (.invokevirtual 241, 3) := by decide +kernel
theorem dX8_count_62 : decode cX8_count 62 = .ok (.ifCond .eq 6, 3) := by decide +kernel
theorem dX8_count_65 : decode cX8_count 65 = .ok (.iinc 3 1, 3) := by decide +kernel
theorem dX8_count_68 : decode cX8_count 68 = .ok (.iinc 5 1, 3) := by decide +kernel
theorem dX8_count_71 : decode cX8_count 71 = .ok (.goto (-38), 3) := by decide +kernel
theorem dX8_count_74 : decode cX8_count 74 = .ok (.iinc 4 1, 3) := by decide +kernel
theorem dX8_count_77 : decode cX8_count 77 = .ok (.goto (-54), 3) := by decide +kernel
theorem dX8_count_80 : decode cX8_count 80 = .ok (.iload_n 3, 1) := by decide +kernel
theorem dX8_count_81 : decode cX8_count 81 = .ok (.ireturn, 1) := by decide +kernel
set_option maxRecDepth 20000 in
theorem ggX8_counts_X8_isWhole : GoodIn wsX8_counts wsX8_isWhole := goodIn_r _ [5, 6, 7, 8, 4, 9, 10, 11, 12, 13, 42, 43, 44, 45, 46, 47, 48, 49, 50, 51, 52, 53, 54, 55, 56, 57, 58, 59, 60, 61, 62, 63, 64, 65, 66, 67, 68, 69, 70, 71, 72, 73, 74] (by decide +kernel) (by decide +kernel)
set_option maxRecDepth 20000 in
theorem gX8_counts_X8_isWhole : GoodIn wsX8_counts (wsV RX8 176 RX8 yX8_isWhole wsX8_isWhole) := goodIn_app (goodIn_of _ (by decide +kernel)) ggX8_counts_X8_isWhole
set_option maxRecDepth 20000 in
theorem ggX8_counts_X8_flow : GoodIn wsX8_counts wsX8_flow := goodIn_r _ [17, 18, 19, 20, 21, 22, 4, 23, 24, 25, 26, 27, 28, 29, 6, 7, 8, 9, 10, 11, 12, 13, 42, 43, 44, 45, 46, 47, 48, 49, 50, 51, 52, 53, 54, 55, 56, 57, 58, 59, 60, 61, 62, 63, 64, 65, 66, 67, 68, 69, 70, 71, 72, 73, 74] (by decide +kernel) (by decide +kernel)
set_option maxRecDepth 20000 in
theorem gX8_counts_X8_flow : GoodIn wsX8_counts (wsV RX8 211 RX8 yX8_flow wsX8_flow) := goodIn_app (goodIn_of _ (by decide +kernel)) ggX8_counts_X8_flow
set_option maxRecDepth 20000 in
theorem ggX8_counts_X8_kindOf : GoodIn wsX8_counts wsX8_kindOf := goodIn_r _ [33, 34, 35, 36, 4, 37, 20, 21, 22, 23, 24, 25, 26, 27, 28, 29, 6, 7, 8, 9, 10, 11, 12, 13, 38, 39, 40, 41, 18, 42, 43, 44, 45, 46, 47, 48, 49, 50, 51, 52, 53, 54, 55, 56, 57, 58, 59, 60, 61, 62, 63, 64, 65, 66, 67, 68, 69, 70, 71, 72, 73, 74] (by decide +kernel) (by decide +kernel)
set_option maxRecDepth 20000 in
theorem gX8_counts_X8_kindOf : GoodIn wsX8_counts (wsV RX8 232 RX8 yX8_kindOf wsX8_kindOf) := goodIn_app (goodIn_of _ (by decide +kernel)) ggX8_counts_X8_kindOf
set_option maxRecDepth 20000 in
theorem ggX8_counts_X8_neighbours : GoodIn wsX8_counts wsX8_neighbours := goodIn_r _ [37, 20, 21, 22, 4, 23, 24, 25, 26, 27, 28, 29, 6, 7, 8, 9, 10, 11, 12, 13, 42, 43, 44, 45, 46, 47, 48, 49, 50, 51, 52, 53, 54, 55, 56, 57, 58, 59, 60, 61, 62, 63, 64, 65, 66, 67, 68, 69, 70, 71, 72, 73, 74] (by decide +kernel) (by decide +kernel)
set_option maxRecDepth 20000 in
theorem gX8_counts_X8_neighbours : GoodIn wsX8_counts (wsV RX8 215 RX8 yX8_neighbours wsX8_neighbours) := goodIn_app (goodIn_of _ (by decide +kernel)) ggX8_counts_X8_neighbours
theorem dX8_counts_0 : decode cX8_counts 0 = .ok (.bipush 40, 2) := by decide +kernel
theorem dX8_counts_2 : decode cX8_counts 2 = .ok (.iload_n 2, 1) := by decide +kernel
theorem dX8_counts_3 : decode cX8_counts 3 = .ok (.imul, 1) := by decide +kernel
theorem dX8_counts_4 : decode cX8_counts 4 = .ok (.iload_n 3, 1) := by decide +kernel
theorem dX8_counts_5 : decode cX8_counts 5 = .ok (.iadd, 1) := by decide +kernel
theorem dX8_counts_6 : decode cX8_counts 6 = .ok (.istore 5, 2) := by decide +kernel
theorem dX8_counts_8 : decode cX8_counts 8 = .ok (.iload 4, 2) := by decide +kernel
theorem dX8_counts_10 : decode cX8_counts 10 = .ok (.tableswitch 94 0 4 #[34, 36, 44, 60, 77], 34) := by decide +kernel
theorem dX8_counts_44 : decode cX8_counts 44 = .ok (.iconst 1, 1) := by decide +kernel
theorem dX8_counts_45 : decode cX8_counts 45 = .ok (.ireturn, 1) := by decide +kernel
theorem dX8_counts_46 : decode cX8_counts 46 = .ok (.aload_n 0, 1) := by decide +kernel
theorem dX8_counts_47 : decode cX8_counts 47 = .ok (.iload_n 1, 1) := by decide +kernel
theorem dX8_counts_48 : decode cX8_counts 48 = .ok (.iload_n 2, 1) := by decide +kernel
theorem dX8_counts_49 : decode cX8_counts 49 = .ok (.iload_n 3, 1) := by decide +kernel
theorem dX8_counts_50 : decode cX8_counts 50 = .ok (.invokevirtual 176, 3) := by decide +kernel
theorem dX8_counts_53 : decode cX8_counts 53 = .ok (.ireturn, 1) := by decide +kernel
theorem dX8_counts_54 : decode cX8_counts 54 = .ok (.aload_n 0, 1) := by decide +kernel
theorem dX8_counts_55 : decode cX8_counts 55 = .ok (.iload_n 1, 1) := by decide +kernel
theorem dX8_counts_56 : decode cX8_counts 56 = .ok (.iload 5, 2) := by decide +kernel
theorem dX8_counts_58 : decode cX8_counts 58 = .ok (.invokevirtual 211, 3) := by decide +kernel
theorem dX8_counts_61 : decode cX8_counts 61 = .ok (.ifCond .ge 7, 3) := by decide +kernel
theorem dX8_counts_64 : decode cX8_counts 64 = .ok (.iconst 1, 1) := by decide +kernel
theorem dX8_counts_65 : decode cX8_counts 65 = .ok (.goto 4, 3) := by decide +kernel
theorem dX8_counts_68 : decode cX8_counts 68 = .ok (.iconst 0, 1) := by decide +kernel
theorem dX8_counts_69 : decode cX8_counts 69 = .ok (.ireturn, 1) := by decide +kernel
theorem dX8_counts_70 : decode cX8_counts 70 = .ok (.aload_n 0, 1) := by decide +kernel
theorem dX8_counts_71 : decode cX8_counts 71 = .ok (.iload_n 1, 1) := by decide +kernel
theorem dX8_counts_72 : decode cX8_counts 72 = .ok (.iload 5, 2) := by decide +kernel
theorem dX8_counts_74 : decode cX8_counts 74 = .ok (.invokevirtual 232, 3) := by decide +kernel
theorem dX8_counts_77 : decode cX8_counts 77 = .ok (.iconst 1, 1) := by decide +kernel
theorem dX8_counts_78 : decode cX8_counts 78 = .ok (.if_icmp .ne 7, 3) := by decide +kernel
theorem dX8_counts_81 : decode cX8_counts 81 = .ok (.iconst 1, 1) := by decide +kernel
theorem dX8_counts_82 : decode cX8_counts 82 = .ok (.goto 4, 3) := by decide +kernel
theorem dX8_counts_85 : decode cX8_counts 85 = .ok (.iconst 0, 1) := by decide +kernel
theorem dX8_counts_86 : decode cX8_counts 86 = .ok (.ireturn, 1) := by decide +kernel
theorem dX8_counts_87 : decode cX8_counts 87 = .ok (.aload_n 0, 1) := by decide +kernel
theorem dX8_counts_88 : decode cX8_counts 88 = .ok (.iload_n 1, 1) := by decide +kernel
theorem dX8_counts_89 : decode cX8_counts 89 = .ok (.iload 5, 2) := by decide +kernel
theorem dX8_counts_91 : decode cX8_counts 91 = .ok (.invokevirtual 232, 3) := by decide +kernel
theorem dX8_counts_94 : decode cX8_counts 94 = .ok (.iconst 3, 1) := by decide +kernel
theorem dX8_counts_95 : decode cX8_counts 95 = .ok (.if_icmp .ne 7, 3) := by decide +kernel
theorem dX8_counts_98 : decode cX8_counts 98 = .ok (.iconst 1, 1) := by decide +kernel
theorem dX8_counts_99 : decode cX8_counts 99 = .ok (.goto 4, 3) := by decide +kernel
theorem dX8_counts_102 : decode cX8_counts 102 = .ok (.iconst 0, 1) := by decide +kernel
theorem dX8_counts_103 : decode cX8_counts 103 = .ok (.ireturn, 1) := by decide +kernel
theorem dX8_counts_104 : decode cX8_counts 104 = .ok (.aload_n 0, 1) := by decide +kernel
theorem dX8_counts_105 : decode cX8_counts 105 = .ok (.iload_n 1, 1) := by decide +kernel
theorem dX8_counts_106 : decode cX8_counts 106 = .ok (.iload 5, 2) := by decide +kernel
theorem dX8_counts_108 : decode cX8_counts 108 = .ok (.invokevirtual 215, 3) := by decide +kernel
theorem dX8_counts_111 : decode cX8_counts 111 = .ok (.bipush 8, 2) := by decide +kernel
theorem dX8_counts_113 : decode cX8_counts 113 = .ok (.if_icmp .ge 7, 3) := by decide +kernel
theorem dX8_counts_116 : decode cX8_counts 116 = .ok (.iconst 1, 1) := by decide +kernel
theorem dX8_counts_117 : decode cX8_counts 117 = .ok (.goto 4, 3) := by decide +kernel
theorem dX8_counts_120 : decode cX8_counts 120 = .ok (.iconst 0, 1) := by decide +kernel
theorem dX8_counts_121 : decode cX8_counts 121 = .ok (.ireturn, 1) := by decide +kernel
set_option maxRecDepth 20000 in
theorem ggX8_volume_X8_isGrid : GoodIn wsX8_volume wsX8_isGrid := goodIn_r _ [6, 7, 8, 5, 9] (by decide +kernel) (by decide +kernel)
set_option maxRecDepth 20000 in
theorem gX8_volume_X8_isGrid : GoodIn wsX8_volume (va_wsS RX8 103 yX8_isGrid wsX8_isGrid) := goodIn_app (goodIn_of _ (by decide +kernel)) ggX8_volume_X8_isGrid
set_option maxRecDepth 20000 in
theorem ggX8_volume_X8_in : GoodIn wsX8_volume wsX8_in := goodIn_r _ [9] (by decide +kernel) (by decide +kernel)
set_option maxRecDepth 20000 in
theorem gX8_volume_X8_in : GoodIn wsX8_volume (va_wsS RX8 99 yX8_in wsX8_in) := goodIn_app (goodIn_of _ (by decide +kernel)) ggX8_volume_X8_in
set_option maxRecDepth 20000 in
theorem ggX8_volume_X8_isWhole : GoodIn wsX8_volume wsX8_isWhole := goodIn_r _ [13, 14, 15, 16, 5, 17, 18, 7, 8, 9, 24, 25, 26, 27, 28, 29, 30, 31, 32, 33, 34, 35, 36, 37, 38, 39, 40, 41, 42, 43, 44, 45, 46, 47, 48, 49, 50, 51, 52, 53, 54, 55, 56] (by decide +kernel) (by decide +kernel)
set_option maxRecDepth 20000 in
theorem gX8_volume_X8_isWhole : GoodIn wsX8_volume (wsV RX8 176 RX8 yX8_isWhole wsX8_isWhole) := goodIn_app (goodIn_of _ (by decide +kernel)) ggX8_volume_X8_isWhole
set_option maxRecDepth 20000 in
theorem ggX8_volume_X8_h : GoodIn wsX8_volume wsX8_h := goodIn_r _ [22, 23, 24, 25, 26, 27, 28, 29, 30, 31, 32, 33, 34, 35, 36, 37, 38, 39, 40, 41, 42, 43, 44, 45, 46, 47, 48, 49, 50, 51, 52, 53, 54, 55, 56] (by decide +kernel) (by decide +kernel)
set_option maxRecDepth 20000 in
theorem gX8_volume_X8_h : GoodIn wsX8_volume (wsV RX8 127 RX8 yX8_h wsX8_h) := goodIn_app (goodIn_of _ (by decide +kernel)) ggX8_volume_X8_h
theorem dX8_volume_0 : decode cX8_volume 0 = .ok (.iload_n 1, 1) := by decide +kernel
theorem dX8_volume_1 : decode cX8_volume 1 = .ok (.invokestatic 103, 3) := by decide +kernel
theorem dX8_volume_4 : decode cX8_volume 4 = .ok (.ifCond .eq 25, 3) := by decide +kernel
theorem dX8_volume_7 : decode cX8_volume 7 = .ok (.iload_n 2, 1) := by decide +kernel
theorem dX8_volume_8 : decode cX8_volume 8 = .ok (.sipush (-8192), 3) := by decide +kernel
theorem dX8_volume_11 : decode cX8_volume 11 = .ok (.sipush 8192, 3) := by decide +kernel
theorem dX8_volume_14 : decode cX8_volume 14 = .ok (.invokestatic 99, 3) := by decide +kernel
theorem dX8_volume_17 : decode cX8_volume 17 = .ok (.ifCond .eq 12, 3) := by decide +kernel
theorem dX8_volume_20 : decode cX8_volume 20 = .ok (.iload_n 3, 1) := by decide +kernel
theorem dX8_volume_21 : decode cX8_volume 21 = .ok (.iconst 0, 1) := by decide +kernel
theorem dX8_volume_22 : decode cX8_volume 22 = .ok (.iconst 1, 1) := by decide +kernel
theorem dX8_volume_23 : decode cX8_volume 23 = .ok (.invokestatic 99, 3) := by decide +kernel
theorem dX8_volume_26 : decode cX8_volume 26 = .ok (.ifCond .ne 7, 3) := by decide +kernel
theorem dX8_volume_29 : decode cX8_volume 29 = .ok (.ldc2_w 189, 3) := by decide +kernel
theorem dX8_volume_32 : decode cX8_volume 32 = .ok (.lreturn, 1) := by decide +kernel
theorem dX8_volume_33 : decode cX8_volume 33 = .ok (.lconst 0, 1) := by decide +kernel
theorem dX8_volume_34 : decode cX8_volume 34 = .ok (.lstore 4, 2) := by decide +kernel
theorem dX8_volume_36 : decode cX8_volume 36 = .ok (.iconst 0, 1) := by decide +kernel
theorem dX8_volume_37 : decode cX8_volume 37 = .ok (.istore 6, 2) := by decide +kernel
theorem dX8_volume_39 : decode cX8_volume 39 = .ok (.iload 6, 2) := by decide +kernel
theorem dX8_volume_41 : decode cX8_volume 41 = .ok (.bipush 31, 2) := by decide +kernel
theorem dX8_volume_43 : decode cX8_volume 43 = .ok (.if_icmp .ge 136, 3) := by decide +kernel
theorem dX8_volume_46 : decode cX8_volume 46 = .ok (.iconst 0, 1) := by decide +kernel
theorem dX8_volume_47 : decode cX8_volume 47 = .ok (.istore 7, 2) := by decide +kernel
theorem dX8_volume_49 : decode cX8_volume 49 = .ok (.iload 7, 2) := by decide +kernel
theorem dX8_volume_51 : decode cX8_volume 51 = .ok (.bipush 39, 2) := by decide +kernel
theorem dX8_volume_53 : decode cX8_volume 53 = .ok (.if_icmp .ge 120, 3) := by decide +kernel
theorem dX8_volume_56 : decode cX8_volume 56 = .ok (.aload_n 0, 1) := by decide +kernel
theorem dX8_volume_57 : decode cX8_volume 57 = .ok (.iload_n 1, 1) := by decide +kernel
theorem dX8_volume_58 : decode cX8_volume 58 = .ok (.iload 6, 2) := by decide +kernel
theorem dX8_volume_60 : decode cX8_volume 60 = .ok (.iload 7, 2) := by decide +kernel
theorem dX8_volume_62 : decode cX8_volume 62 = .ok (.invokevirtual 176, 3) := by decide +kernel
theorem dX8_volume_65 : decode cX8_volume 65 = .ok (.ifCond .eq 102, 3) := by decide +kernel
theorem dX8_volume_68 : decode cX8_volume 68 = .ok (.aload_n 0, 1) := by decide +kernel
theorem dX8_volume_69 : decode cX8_volume 69 = .ok (.iload_n 1, 1) := by decide +kernel
theorem dX8_volume_70 : decode cX8_volume 70 = .ok (.iload 6, 2) := by decide +kernel
theorem dX8_volume_72 : decode cX8_volume 72 = .ok (.iload 7, 2) := by decide +kernel
theorem dX8_volume_74 : decode cX8_volume 74 = .ok (.invokevirtual 127, 3) := by decide +kernel
theorem dX8_volume_77 : decode cX8_volume 77 = .ok (.i2l, 1) := by decide +kernel
theorem dX8_volume_78 : decode cX8_volume 78 = .ok (.aload_n 0, 1) := by decide +kernel
theorem dX8_volume_79 : decode cX8_volume 79 = .ok (.iload_n 1, 1) := by decide +kernel
theorem dX8_volume_80 : decode cX8_volume 80 = .ok (.iload 6, 2) := by decide +kernel
theorem dX8_volume_82 : decode cX8_volume 82 = .ok (.iload 7, 2) := by decide +kernel
theorem dX8_volume_84 : decode cX8_volume 84 = .ok (.iconst 1, 1) := by decide +kernel
theorem dX8_volume_85 : decode cX8_volume 85 = .ok (.iadd, 1) := by decide +kernel
theorem dX8_volume_86 : decode cX8_volume 86 = .ok (.invokevirtual 127, 3) := by decide +kernel
theorem dX8_volume_89 : decode cX8_volume 89 = .ok (.i2l, 1) := by decide +kernel
theorem dX8_volume_90 : decode cX8_volume 90 = .ok (.ladd, 1) := by decide +kernel
theorem dX8_volume_91 : decode cX8_volume 91 = .ok (.aload_n 0, 1) := by decide +kernel
theorem dX8_volume_92 : decode cX8_volume 92 = .ok (.iload_n 1, 1) := by decide +kernel
theorem dX8_volume_93 : decode cX8_volume 93 = .ok (.iload 6, 2) := by decide +kernel
theorem dX8_volume_95 : decode cX8_volume 95 = .ok (.iconst 1, 1) := by decide +kernel
theorem dX8_volume_96 : decode cX8_volume 96 = .ok (.iadd, 1) := by decide +kernel
theorem dX8_volume_97 : decode cX8_volume 97 = .ok (.iload 7, 2) := by decide +kernel
theorem dX8_volume_99 : decode cX8_volume 99 = .ok (.invokevirtual 127, 3) := by decide +kernel
theorem dX8_volume_102 : decode cX8_volume 102 = .ok (.i2l, 1) := by decide +kernel
theorem dX8_volume_103 : decode cX8_volume 103 = .ok (.ladd, 1) := by decide +kernel
theorem dX8_volume_104 : decode cX8_volume 104 = .ok (.aload_n 0, 1) := by decide +kernel
theorem dX8_volume_105 : decode cX8_volume 105 = .ok (.iload_n 1, 1) := by decide +kernel
theorem dX8_volume_106 : decode cX8_volume 106 = .ok (.iload 6, 2) := by decide +kernel
theorem dX8_volume_108 : decode cX8_volume 108 = .ok (.iconst 1, 1) := by decide +kernel
theorem dX8_volume_109 : decode cX8_volume 109 = .ok (.iadd, 1) := by decide +kernel
theorem dX8_volume_110 : decode cX8_volume 110 = .ok (.iload 7, 2) := by decide +kernel
theorem dX8_volume_112 : decode cX8_volume 112 = .ok (.iconst 1, 1) := by decide +kernel
theorem dX8_volume_113 : decode cX8_volume 113 = .ok (.iadd, 1) := by decide +kernel
theorem dX8_volume_114 : decode cX8_volume 114 = .ok (.invokevirtual 127, 3) := by decide +kernel
theorem dX8_volume_117 : decode cX8_volume 117 = .ok (.i2l, 1) := by decide +kernel
theorem dX8_volume_118 : decode cX8_volume 118 = .ok (.ladd, 1) := by decide +kernel
theorem dX8_volume_119 : decode cX8_volume 119 = .ok (.ldc2_w 244, 3) := by decide +kernel
theorem dX8_volume_122 : decode cX8_volume 122 = .ok (.iload_n 2, 1) := by decide +kernel
theorem dX8_volume_123 : decode cX8_volume 123 = .ok (.i2l, 1) := by decide +kernel
theorem dX8_volume_124 : decode cX8_volume 124 = .ok (.lmul, 1) := by decide +kernel
theorem dX8_volume_125 : decode cX8_volume 125 = .ok (.lsub, 1) := by decide +kernel
theorem dX8_volume_126 : decode cX8_volume 126 = .ok (.lstore 8, 2) := by decide +kernel
theorem dX8_volume_128 : decode cX8_volume 128 = .ok (.lload 4, 2) := by decide +kernel
theorem dX8_volume_130 : decode cX8_volume 130 = .ok (.iload_n 3, 1) := by decide +kernel
theorem dX8_volume_131 : decode cX8_volume 131 = .ok (.ifCond .ne 19, 3) := by decide +kernel
theorem dX8_volume_134 : decode cX8_volume 134 = .ok (.lload 8, 2) := by decide +kernel
theorem dX8_volume_136 : decode cX8_volume 136 = .ok (.lconst 0, 1) := by decide +kernel
theorem dX8_volume_137 : decode cX8_volume 137 = .ok (.lcmp, 1) := by decide +kernel
theorem dX8_volume_138 : decode cX8_volume 138 = .ok (.ifCond .le 8, 3) := by decide +kernel
theorem dX8_volume_141 : decode cX8_volume 141 = .ok (.lload 8, 2) := by decide +kernel
theorem dX8_volume_143 : decode cX8_volume 143 = .ok (.goto 21, 3) := by decide +kernel
theorem dX8_volume_146 : decode cX8_volume 146 = .ok (.lconst 0, 1) := by decide +kernel
theorem dX8_volume_147 : decode cX8_volume 147 = .ok (.goto 17, 3) := by decide +kernel
theorem dX8_volume_150 : decode cX8_volume 150 = .ok (.lload 8, 2) := by decide +kernel
theorem dX8_volume_152 : decode cX8_volume 152 = .ok (.lconst 0, 1) := by decide +kernel
theorem dX8_volume_153 : decode cX8_volume 153 = .ok (.lcmp, 1) := by decide +kernel
theorem dX8_volume_154 : decode cX8_volume 154 = .ok (.ifCond .ge 9, 3) := by decide +kernel
theorem dX8_volume_157 : decode cX8_volume 157 = .ok (.lload 8, 2) := by decide +kernel
theorem dX8_volume_159 : decode cX8_volume 159 = .ok (.lneg, 1) := by decide +kernel
theorem dX8_volume_160 : decode cX8_volume 160 = .ok (.goto 4, 3) := by decide +kernel
theorem dX8_volume_163 : decode cX8_volume 163 = .ok (.lconst 0, 1) := by decide +kernel
theorem dX8_volume_164 : decode cX8_volume 164 = .ok (.ladd, 1) := by decide +kernel
theorem dX8_volume_165 : decode cX8_volume 165 = .ok (.lstore 4, 2) := by decide +kernel
theorem dX8_volume_167 : decode cX8_volume 167 = .ok (.iinc 7 1, 3) := by decide +kernel
theorem dX8_volume_170 : decode cX8_volume 170 = .ok (.goto (-121), 3) := by decide +kernel
theorem dX8_volume_173 : decode cX8_volume 173 = .ok (.iinc 6 1, 3) := by decide +kernel
theorem dX8_volume_176 : decode cX8_volume 176 = .ok (.goto (-137), 3) := by decide +kernel
theorem dX8_volume_179 : decode cX8_volume 179 = .ok (.lload 4, 2) := by decide +kernel
theorem dX8_volume_181 : decode cX8_volume 181 = .ok (.lreturn, 1) := by decide +kernel
theorem dX8_sign_0 : decode cX8_sign 0 = .ok (.iload_n 0, 1) := by decide +kernel
theorem dX8_sign_1 : decode cX8_sign 1 = .ok (.ifCond .le 7, 3) := by decide +kernel
theorem dX8_sign_4 : decode cX8_sign 4 = .ok (.iconst 1, 1) := by decide +kernel
theorem dX8_sign_5 : decode cX8_sign 5 = .ok (.goto 12, 3) := by decide +kernel
theorem dX8_sign_8 : decode cX8_sign 8 = .ok (.iload_n 0, 1) := by decide +kernel
theorem dX8_sign_9 : decode cX8_sign 9 = .ok (.ifCond .ge 7, 3) := by decide +kernel
theorem dX8_sign_12 : decode cX8_sign 12 = .ok (.iconst (-1), 1) := by decide +kernel
theorem dX8_sign_13 : decode cX8_sign 13 = .ok (.goto 4, 3) := by decide +kernel
theorem dX8_sign_16 : decode cX8_sign 16 = .ok (.iconst 0, 1) := by decide +kernel
theorem dX8_sign_17 : decode cX8_sign 17 = .ok (.ireturn, 1) := by decide +kernel
set_option maxRecDepth 20000 in
theorem ggX8_isLow_X8_ground : GoodIn wsX8_isLow wsX8_ground := goodIn_r _ [5, 6, 7, 8, 4, 9, 10, 11, 12, 13, 23, 24, 25, 26, 27, 28, 29, 30, 31, 32, 33, 34, 35, 36, 37, 38, 39, 40, 41, 42, 43, 44, 45, 46, 47, 48, 49, 50, 51, 52, 53, 54, 55] (by decide +kernel) (by decide +kernel)
set_option maxRecDepth 20000 in
theorem gX8_isLow_X8_ground : GoodIn wsX8_isLow (wsV RX8 246 RX8 yX8_ground wsX8_ground) := goodIn_app (goodIn_of _ (by decide +kernel)) ggX8_isLow_X8_ground
set_option maxRecDepth 20000 in
theorem ggX8_isLow_X8_groundAt : GoodIn wsX8_isLow wsX8_groundAt := goodIn_r _ [17, 18, 19, 20, 4, 21, 22, 23, 24, 25, 26, 27, 28, 29, 30, 31, 32, 33, 34, 35, 36, 37, 38, 39, 40, 41, 42, 43, 44, 45, 46, 47, 48, 49, 50, 51, 52, 53, 54, 55] (by decide +kernel) (by decide +kernel)
set_option maxRecDepth 20000 in
theorem gX8_isLow_X8_groundAt : GoodIn wsX8_isLow (wsV RX8 249 RX8 yX8_groundAt wsX8_groundAt) := goodIn_app (goodIn_of _ (by decide +kernel)) ggX8_isLow_X8_groundAt
theorem dX8_isLow_0 : decode cX8_isLow 0 = .ok (.lload_n 3, 1) := by decide +kernel
theorem dX8_isLow_1 : decode cX8_isLow 1 = .ok (.iload 5, 2) := by decide +kernel
theorem dX8_isLow_3 : decode cX8_isLow 3 = .ok (.i2l, 1) := by decide +kernel
theorem dX8_isLow_4 : decode cX8_isLow 4 = .ok (.ldiv, 1) := by decide +kernel
theorem dX8_isLow_5 : decode cX8_isLow 5 = .ok (.l2i, 1) := by decide +kernel
theorem dX8_isLow_6 : decode cX8_isLow 6 = .ok (.istore 9, 2) := by decide +kernel
theorem dX8_isLow_8 : decode cX8_isLow 8 = .ok (.lload_n 3, 1) := by decide +kernel
theorem dX8_isLow_9 : decode cX8_isLow 9 = .ok (.iload 5, 2) := by decide +kernel
theorem dX8_isLow_11 : decode cX8_isLow 11 = .ok (.i2l, 1) := by decide +kernel
theorem dX8_isLow_12 : decode cX8_isLow 12 = .ok (.lrem, 1) := by decide +kernel
theorem dX8_isLow_13 : decode cX8_isLow 13 = .ok (.l2i, 1) := by decide +kernel
theorem dX8_isLow_14 : decode cX8_isLow 14 = .ok (.istore 10, 2) := by decide +kernel
theorem dX8_isLow_16 : decode cX8_isLow 16 = .ok (.aload_n 0, 1) := by decide +kernel
theorem dX8_isLow_17 : decode cX8_isLow 17 = .ok (.iload_n 1, 1) := by decide +kernel
theorem dX8_isLow_18 : decode cX8_isLow 18 = .ok (.iload_n 2, 1) := by decide +kernel
theorem dX8_isLow_19 : decode cX8_isLow 19 = .ok (.iload 9, 2) := by decide +kernel
theorem dX8_isLow_21 : decode cX8_isLow 21 = .ok (.iload 6, 2) := by decide +kernel
theorem dX8_isLow_23 : decode cX8_isLow 23 = .ok (.invokevirtual 246, 3) := by decide +kernel
theorem dX8_isLow_26 : decode cX8_isLow 26 = .ok (.ifCond .eq 23, 3) := by decide +kernel
theorem dX8_isLow_29 : decode cX8_isLow 29 = .ok (.iload 10, 2) := by decide +kernel
theorem dX8_isLow_31 : decode cX8_isLow 31 = .ok (.ifCond .le 20, 3) := by decide +kernel
theorem dX8_isLow_34 : decode cX8_isLow 34 = .ok (.aload_n 0, 1) := by decide +kernel
theorem dX8_isLow_35 : decode cX8_isLow 35 = .ok (.iload_n 1, 1) := by decide +kernel
theorem dX8_isLow_36 : decode cX8_isLow 36 = .ok (.iload_n 2, 1) := by decide +kernel
theorem dX8_isLow_37 : decode cX8_isLow 37 = .ok (.iload 9, 2) := by decide +kernel
theorem dX8_isLow_39 : decode cX8_isLow 39 = .ok (.iconst 1, 1) := by decide +kernel
theorem dX8_isLow_40 : decode cX8_isLow 40 = .ok (.iadd, 1) := by decide +kernel
theorem dX8_isLow_41 : decode cX8_isLow 41 = .ok (.iload 6, 2) := by decide +kernel
theorem dX8_isLow_43 : decode cX8_isLow 43 = .ok (.invokevirtual 246, 3) := by decide +kernel
theorem dX8_isLow_46 : decode cX8_isLow 46 = .ok (.ifCond .ne 5, 3) := by decide +kernel
theorem dX8_isLow_49 : decode cX8_isLow 49 = .ok (.iconst 1, 1) := by decide +kernel
theorem dX8_isLow_50 : decode cX8_isLow 50 = .ok (.ireturn, 1) := by decide +kernel
theorem dX8_isLow_51 : decode cX8_isLow 51 = .ok (.aload_n 0, 1) := by decide +kernel
theorem dX8_isLow_52 : decode cX8_isLow 52 = .ok (.iload_n 1, 1) := by decide +kernel
theorem dX8_isLow_53 : decode cX8_isLow 53 = .ok (.iload_n 2, 1) := by decide +kernel
theorem dX8_isLow_54 : decode cX8_isLow 54 = .ok (.iload 9, 2) := by decide +kernel
theorem dX8_isLow_56 : decode cX8_isLow 56 = .ok (.iload 6, 2) := by decide +kernel
theorem dX8_isLow_58 : decode cX8_isLow 58 = .ok (.invokevirtual 249, 3) := by decide +kernel
theorem dX8_isLow_61 : decode cX8_isLow 61 = .ok (.i2l, 1) := by decide +kernel
theorem dX8_isLow_62 : decode cX8_isLow 62 = .ok (.iload 5, 2) := by decide +kernel
theorem dX8_isLow_64 : decode cX8_isLow 64 = .ok (.iload 10, 2) := by decide +kernel
theorem dX8_isLow_66 : decode cX8_isLow 66 = .ok (.isub, 1) := by decide +kernel
theorem dX8_isLow_67 : decode cX8_isLow 67 = .ok (.i2l, 1) := by decide +kernel
theorem dX8_isLow_68 : decode cX8_isLow 68 = .ok (.lmul, 1) := by decide +kernel
theorem dX8_isLow_69 : decode cX8_isLow 69 = .ok (.iload 10, 2) := by decide +kernel
theorem dX8_isLow_71 : decode cX8_isLow 71 = .ok (.ifCond .le 23, 3) := by decide +kernel
theorem dX8_isLow_74 : decode cX8_isLow 74 = .ok (.aload_n 0, 1) := by decide +kernel
theorem dX8_isLow_75 : decode cX8_isLow 75 = .ok (.iload_n 1, 1) := by decide +kernel
theorem dX8_isLow_76 : decode cX8_isLow 76 = .ok (.iload_n 2, 1) := by decide +kernel
theorem dX8_isLow_77 : decode cX8_isLow 77 = .ok (.iload 9, 2) := by decide +kernel
theorem dX8_isLow_79 : decode cX8_isLow 79 = .ok (.iconst 1, 1) := by decide +kernel
theorem dX8_isLow_80 : decode cX8_isLow 80 = .ok (.iadd, 1) := by decide +kernel
theorem dX8_isLow_81 : decode cX8_isLow 81 = .ok (.iload 6, 2) := by decide +kernel
theorem dX8_isLow_83 : decode cX8_isLow 83 = .ok (.invokevirtual 249, 3) := by decide +kernel
theorem dX8_isLow_86 : decode cX8_isLow 86 = .ok (.i2l, 1) := by decide +kernel
theorem dX8_isLow_87 : decode cX8_isLow 87 = .ok (.iload 10, 2) := by decide +kernel
theorem dX8_isLow_89 : decode cX8_isLow 89 = .ok (.i2l, 1) := by decide +kernel
theorem dX8_isLow_90 : decode cX8_isLow 90 = .ok (.lmul, 1) := by decide +kernel
theorem dX8_isLow_91 : decode cX8_isLow 91 = .ok (.goto 4, 3) := by decide +kernel
theorem dX8_isLow_94 : decode cX8_isLow 94 = .ok (.lconst 0, 1) := by decide +kernel
theorem dX8_isLow_95 : decode cX8_isLow 95 = .ok (.ladd, 1) := by decide +kernel
theorem dX8_isLow_96 : decode cX8_isLow 96 = .ok (.lstore 11, 2) := by decide +kernel
theorem dX8_isLow_98 : decode cX8_isLow 98 = .ok (.lload 11, 2) := by decide +kernel
theorem dX8_isLow_100 : decode cX8_isLow 100 = .ok (.lload 7, 2) := by decide +kernel
theorem dX8_isLow_102 : decode cX8_isLow 102 = .ok (.lcmp, 1) := by decide +kernel
theorem dX8_isLow_103 : decode cX8_isLow 103 = .ok (.ifCond .gt 7, 3) := by decide +kernel
theorem dX8_isLow_106 : decode cX8_isLow 106 = .ok (.iconst 1, 1) := by decide +kernel
theorem dX8_isLow_107 : decode cX8_isLow 107 = .ok (.goto 4, 3) := by decide +kernel
theorem dX8_isLow_110 : decode cX8_isLow 110 = .ok (.iconst 0, 1) := by decide +kernel
theorem dX8_isLow_111 : decode cX8_isLow 111 = .ok (.ireturn, 1) := by decide +kernel
set_option maxRecDepth 20000 in
theorem ggX8_ground_X8_has : GoodIn wsX8_ground wsX8_has := goodIn_r _ [5, 6, 7, 8, 4, 9, 10, 11, 12, 13, 14, 15, 16, 17, 18, 19, 20, 21, 22, 23, 24, 25, 26, 27, 28, 29, 30, 31, 32, 33, 34, 35, 36, 37, 38, 39, 40, 41, 42] (by decide +kernel) (by decide +kernel)
set_option maxRecDepth 20000 in
theorem gX8_ground_X8_has : GoodIn wsX8_ground (wsV RX8 124 RX8 yX8_has wsX8_has) := goodIn_app (goodIn_of _ (by decide +kernel)) ggX8_ground_X8_has
theorem dX8_ground_0 : decode cX8_ground 0 = .ok (.iload 4, 2) := by decide +kernel
theorem dX8_ground_2 : decode cX8_ground 2 = .ok (.ifCond .eq 13, 3) := by decide +kernel
theorem dX8_ground_5 : decode cX8_ground 5 = .ok (.aload_n 0, 1) := by decide +kernel
theorem dX8_ground_6 : decode cX8_ground 6 = .ok (.iload_n 1, 1) := by decide +kernel
theorem dX8_ground_7 : decode cX8_ground 7 = .ok (.iload_n 2, 1) := by decide +kernel
theorem dX8_ground_8 : decode cX8_ground 8 = .ok (.iload_n 3, 1) := by decide +kernel
theorem dX8_ground_9 : decode cX8_ground 9 = .ok (.invokevirtual 124, 3) := by decide +kernel
theorem dX8_ground_12 : decode cX8_ground 12 = .ok (.goto 10, 3) := by decide +kernel
theorem dX8_ground_15 : decode cX8_ground 15 = .ok (.aload_n 0, 1) := by decide +kernel
theorem dX8_ground_16 : decode cX8_ground 16 = .ok (.iload_n 1, 1) := by decide +kernel
theorem dX8_ground_17 : decode cX8_ground 17 = .ok (.iload_n 3, 1) := by decide +kernel
theorem dX8_ground_18 : decode cX8_ground 18 = .ok (.iload_n 2, 1) := by decide +kernel
theorem dX8_ground_19 : decode cX8_ground 19 = .ok (.invokevirtual 124, 3) := by decide +kernel
theorem dX8_ground_22 : decode cX8_ground 22 = .ok (.ireturn, 1) := by decide +kernel
set_option maxRecDepth 20000 in
theorem ggX8_groundAt_X8_h : GoodIn wsX8_groundAt wsX8_h := goodIn_r _ [5, 6, 7, 8, 9, 10, 11, 12, 13, 14, 15, 16, 17, 18, 19, 20, 21, 22, 23, 24, 25, 26, 27, 28, 29, 30, 31, 32, 33, 34, 35, 36, 37, 38, 39] (by decide +kernel) (by decide +kernel)
set_option maxRecDepth 20000 in
theorem gX8_groundAt_X8_h : GoodIn wsX8_groundAt (wsV RX8 127 RX8 yX8_h wsX8_h) := goodIn_app (goodIn_of _ (by decide +kernel)) ggX8_groundAt_X8_h
theorem dX8_groundAt_0 : decode cX8_groundAt 0 = .ok (.iload 4, 2) := by decide +kernel
theorem dX8_groundAt_2 : decode cX8_groundAt 2 = .ok (.ifCond .eq 13, 3) := by decide +kernel
theorem dX8_groundAt_5 : decode cX8_groundAt 5 = .ok (.aload_n 0, 1) := by decide +kernel
theorem dX8_groundAt_6 : decode cX8_groundAt 6 = .ok (.iload_n 1, 1) := by decide +kernel
theorem dX8_groundAt_7 : decode cX8_groundAt 7 = .ok (.iload_n 2, 1) := by decide +kernel
theorem dX8_groundAt_8 : decode cX8_groundAt 8 = .ok (.iload_n 3, 1) := by decide +kernel
theorem dX8_groundAt_9 : decode cX8_groundAt 9 = .ok (.invokevirtual 127, 3) := by decide +kernel
theorem dX8_groundAt_12 : decode cX8_groundAt 12 = .ok (.goto 10, 3) := by decide +kernel
theorem dX8_groundAt_15 : decode cX8_groundAt 15 = .ok (.aload_n 0, 1) := by decide +kernel
theorem dX8_groundAt_16 : decode cX8_groundAt 16 = .ok (.iload_n 1, 1) := by decide +kernel
theorem dX8_groundAt_17 : decode cX8_groundAt 17 = .ok (.iload_n 3, 1) := by decide +kernel
theorem dX8_groundAt_18 : decode cX8_groundAt 18 = .ok (.iload_n 2, 1) := by decide +kernel
theorem dX8_groundAt_19 : decode cX8_groundAt 19 = .ok (.invokevirtual 127, 3) := by decide +kernel
theorem dX8_groundAt_22 : decode cX8_groundAt 22 = .ok (.ireturn, 1) := by decide +kernel
set_option maxRecDepth 20000 in
theorem ggX8_seen_X8_isGrid : GoodIn wsX8_seen wsX8_isGrid := goodIn_r _ [5, 6, 7, 4, 8] (by decide +kernel) (by decide +kernel)
set_option maxRecDepth 20000 in
theorem gX8_seen_X8_isGrid : GoodIn wsX8_seen (va_wsS RX8 103 yX8_isGrid wsX8_isGrid) := goodIn_app (goodIn_of _ (by decide +kernel)) ggX8_seen_X8_isGrid
set_option maxRecDepth 20000 in
theorem ggX8_seen_X8_in : GoodIn wsX8_seen wsX8_in := goodIn_r _ [8] (by decide +kernel) (by decide +kernel)
set_option maxRecDepth 20000 in
theorem gX8_seen_X8_in : GoodIn wsX8_seen (va_wsS RX8 99 yX8_in wsX8_in) := goodIn_app (goodIn_of _ (by decide +kernel)) ggX8_seen_X8_in
set_option maxRecDepth 20000 in
theorem ggX8_seen_X8_has : GoodIn wsX8_seen wsX8_has := goodIn_r _ [12, 13, 6, 7, 4, 8, 34, 35, 36, 37, 38, 39, 40, 41, 42, 43, 44, 45, 46, 47, 48, 49, 50, 51, 52, 53, 54, 55, 56, 57, 58, 59, 60, 61, 62, 63, 64, 65, 66] (by decide +kernel) (by decide +kernel)
set_option maxRecDepth 20000 in
theorem gX8_seen_X8_has : GoodIn wsX8_seen (wsV RX8 124 RX8 yX8_has wsX8_has) := goodIn_app (goodIn_of _ (by decide +kernel)) ggX8_seen_X8_has
set_option maxRecDepth 20000 in
theorem ggX8_seen_X8_h : GoodIn wsX8_seen wsX8_h := goodIn_r _ [17, 18, 34, 35, 36, 37, 38, 39, 40, 41, 42, 43, 44, 45, 46, 47, 48, 49, 50, 51, 52, 53, 54, 55, 56, 57, 58, 59, 60, 61, 62, 63, 64, 65, 66] (by decide +kernel) (by decide +kernel)
set_option maxRecDepth 20000 in
theorem gX8_seen_X8_h : GoodIn wsX8_seen (wsV RX8 127 RX8 yX8_h wsX8_h) := goodIn_app (goodIn_of _ (by decide +kernel)) ggX8_seen_X8_h
set_option maxRecDepth 20000 in
theorem ggX8_seen_X8_sign : GoodIn wsX8_seen wsX8_sign := goodIn_r _ [21] (by decide +kernel) (by decide +kernel)
set_option maxRecDepth 20000 in
theorem gX8_seen_X8_sign : GoodIn wsX8_seen (va_wsS RX8 255 yX8_sign wsX8_sign) := goodIn_app (goodIn_of _ (by decide +kernel)) ggX8_seen_X8_sign
set_option maxRecDepth 20000 in
theorem ggX8_seen_X8_isLow : GoodIn wsX8_seen wsX8_isLow := goodIn_r _ [25, 26, 27, 28, 4, 29, 9, 10, 11, 12, 13, 6, 7, 8, 30, 31, 32, 33, 14, 15, 16, 17, 18, 34, 35, 36, 37, 38, 39, 40, 41, 42, 43, 44, 45, 46, 47, 48, 49, 50, 51, 52, 53, 54, 55, 56, 57, 58, 59, 60, 61, 62, 63, 64, 65, 66] (by decide +kernel) (by decide +kernel)
set_option maxRecDepth 20000 in
theorem gX8_seen_X8_isLow : GoodIn wsX8_seen (wsV RX8 258 RX8 yX8_isLow wsX8_isLow) := goodIn_app (goodIn_of _ (by decide +kernel)) ggX8_seen_X8_isLow
theorem dX8_seen_0 : decode cX8_seen 0 = .ok (.iload_n 1, 1) := by decide +kernel
theorem dX8_seen_1 : decode cX8_seen 1 = .ok (.invokestatic 103, 3) := by decide +kernel
theorem dX8_seen_4 : decode cX8_seen 4 = .ok (.ifCond .eq 37, 3) := by decide +kernel
theorem dX8_seen_7 : decode cX8_seen 7 = .ok (.iload 6, 2) := by decide +kernel
theorem dX8_seen_9 : decode cX8_seen 9 = .ok (.iconst 0, 1) := by decide +kernel
theorem dX8_seen_10 : decode cX8_seen 10 = .ok (.sipush 8192, 3) := by decide +kernel
theorem dX8_seen_13 : decode cX8_seen 13 = .ok (.invokestatic 99, 3) := by decide +kernel
theorem dX8_seen_16 : decode cX8_seen 16 = .ok (.ifCond .eq 25, 3) := by decide +kernel
theorem dX8_seen_19 : decode cX8_seen 19 = .ok (.aload_n 0, 1) := by decide +kernel
theorem dX8_seen_20 : decode cX8_seen 20 = .ok (.iload_n 1, 1) := by decide +kernel
theorem dX8_seen_21 : decode cX8_seen 21 = .ok (.iload_n 2, 1) := by decide +kernel
theorem dX8_seen_22 : decode cX8_seen 22 = .ok (.iload_n 3, 1) := by decide +kernel
theorem dX8_seen_23 : decode cX8_seen 23 = .ok (.invokevirtual 124, 3) := by decide +kernel
theorem dX8_seen_26 : decode cX8_seen 26 = .ok (.ifCond .eq 15, 3) := by decide +kernel
theorem dX8_seen_29 : decode cX8_seen 29 = .ok (.aload_n 0, 1) := by decide +kernel
theorem dX8_seen_30 : decode cX8_seen 30 = .ok (.iload_n 1, 1) := by decide +kernel
theorem dX8_seen_31 : decode cX8_seen 31 = .ok (.iload 4, 2) := by decide +kernel
theorem dX8_seen_33 : decode cX8_seen 33 = .ok (.iload 5, 2) := by decide +kernel
theorem dX8_seen_35 : decode cX8_seen 35 = .ok (.invokevirtual 124, 3) := by decide +kernel
theorem dX8_seen_38 : decode cX8_seen 38 = .ok (.ifCond .ne 5, 3) := by decide +kernel
theorem dX8_seen_41 : decode cX8_seen 41 = .ok (.iconst (-1), 1) := by decide +kernel
theorem dX8_seen_42 : decode cX8_seen 42 = .ok (.ireturn, 1) := by decide +kernel
theorem dX8_seen_43 : decode cX8_seen 43 = .ok (.aload_n 0, 1) := by decide +kernel
theorem dX8_seen_44 : decode cX8_seen 44 = .ok (.iload_n 1, 1) := by decide +kernel
theorem dX8_seen_45 : decode cX8_seen 45 = .ok (.iload_n 2, 1) := by decide +kernel
theorem dX8_seen_46 : decode cX8_seen 46 = .ok (.iload_n 3, 1) := by decide +kernel
theorem dX8_seen_47 : decode cX8_seen 47 = .ok (.invokevirtual 127, 3) := by decide +kernel
theorem dX8_seen_50 : decode cX8_seen 50 = .ok (.i2l, 1) := by decide +kernel
theorem dX8_seen_51 : decode cX8_seen 51 = .ok (.ldc2_w 253, 3) := by decide +kernel
theorem dX8_seen_54 : decode cX8_seen 54 = .ok (.iload 6, 2) := by decide +kernel
theorem dX8_seen_56 : decode cX8_seen 56 = .ok (.i2l, 1) := by decide +kernel
theorem dX8_seen_57 : decode cX8_seen 57 = .ok (.lmul, 1) := by decide +kernel
theorem dX8_seen_58 : decode cX8_seen 58 = .ok (.ladd, 1) := by decide +kernel
theorem dX8_seen_59 : decode cX8_seen 59 = .ok (.lstore 7, 2) := by decide +kernel
theorem dX8_seen_61 : decode cX8_seen 61 = .ok (.aload_n 0, 1) := by decide +kernel
theorem dX8_seen_62 : decode cX8_seen 62 = .ok (.iload_n 1, 1) := by decide +kernel
theorem dX8_seen_63 : decode cX8_seen 63 = .ok (.iload 4, 2) := by decide +kernel
theorem dX8_seen_65 : decode cX8_seen 65 = .ok (.iload 5, 2) := by decide +kernel
theorem dX8_seen_67 : decode cX8_seen 67 = .ok (.invokevirtual 127, 3) := by decide +kernel
theorem dX8_seen_70 : decode cX8_seen 70 = .ok (.i2l, 1) := by decide +kernel
theorem dX8_seen_71 : decode cX8_seen 71 = .ok (.lstore 9, 2) := by decide +kernel
theorem dX8_seen_73 : decode cX8_seen 73 = .ok (.iload 4, 2) := by decide +kernel
theorem dX8_seen_75 : decode cX8_seen 75 = .ok (.iload_n 2, 1) := by decide +kernel
theorem dX8_seen_76 : decode cX8_seen 76 = .ok (.if_icmp .le 10, 3) := by decide +kernel
theorem dX8_seen_79 : decode cX8_seen 79 = .ok (.iload 4, 2) := by decide +kernel
theorem dX8_seen_81 : decode cX8_seen 81 = .ok (.iload_n 2, 1) := by decide +kernel
theorem dX8_seen_82 : decode cX8_seen 82 = .ok (.isub, 1) := by decide +kernel
theorem dX8_seen_83 : decode cX8_seen 83 = .ok (.goto 7, 3) := by decide +kernel
theorem dX8_seen_86 : decode cX8_seen 86 = .ok (.iload_n 2, 1) := by decide +kernel
theorem dX8_seen_87 : decode cX8_seen 87 = .ok (.iload 4, 2) := by decide +kernel
theorem dX8_seen_89 : decode cX8_seen 89 = .ok (.isub, 1) := by decide +kernel
theorem dX8_seen_90 : decode cX8_seen 90 = .ok (.istore 11, 2) := by decide +kernel
theorem dX8_seen_92 : decode cX8_seen 92 = .ok (.iload 5, 2) := by decide +kernel
theorem dX8_seen_94 : decode cX8_seen 94 = .ok (.iload_n 3, 1) := by decide +kernel
theorem dX8_seen_95 : decode cX8_seen 95 = .ok (.if_icmp .le 10, 3) := by decide +kernel
theorem dX8_seen_98 : decode cX8_seen 98 = .ok (.iload 5, 2) := by decide +kernel
theorem dX8_seen_100 : decode cX8_seen 100 = .ok (.iload_n 3, 1) := by decide +kernel
theorem dX8_seen_101 : decode cX8_seen 101 = .ok (.isub, 1) := by decide +kernel
theorem dX8_seen_102 : decode cX8_seen 102 = .ok (.goto 7, 3) := by decide +kernel
theorem dX8_seen_105 : decode cX8_seen 105 = .ok (.iload_n 3, 1) := by decide +kernel
theorem dX8_seen_106 : decode cX8_seen 106 = .ok (.iload 5, 2) := by decide +kernel
theorem dX8_seen_108 : decode cX8_seen 108 = .ok (.isub, 1) := by decide +kernel
theorem dX8_seen_109 : decode cX8_seen 109 = .ok (.istore 12, 2) := by decide +kernel
theorem dX8_seen_111 : decode cX8_seen 111 = .ok (.iconst 1, 1) := by decide +kernel
theorem dX8_seen_112 : decode cX8_seen 112 = .ok (.istore 13, 2) := by decide +kernel
theorem dX8_seen_114 : decode cX8_seen 114 = .ok (.iconst 1, 1) := by decide +kernel
theorem dX8_seen_115 : decode cX8_seen 115 = .ok (.istore 14, 2) := by decide +kernel
theorem dX8_seen_117 : decode cX8_seen 117 = .ok (.iload 14, 2) := by decide +kernel
theorem dX8_seen_119 : decode cX8_seen 119 = .ok (.iload 11, 2) := by decide +kernel
theorem dX8_seen_121 : decode cX8_seen 121 = .ok (.if_icmp .ge 76, 3) := by decide +kernel
theorem dX8_seen_124 : decode cX8_seen 124 = .ok (.iload 13, 2) := by decide +kernel
theorem dX8_seen_126 : decode cX8_seen 126 = .ok (.ifCond .eq 62, 3) := by decide +kernel
theorem dX8_seen_129 : decode cX8_seen 129 = .ok (.aload_n 0, 1) := by decide +kernel
theorem dX8_seen_130 : decode cX8_seen 130 = .ok (.iload_n 1, 1) := by decide +kernel
theorem dX8_seen_131 : decode cX8_seen 131 = .ok (.iload_n 2, 1) := by decide +kernel
theorem dX8_seen_132 : decode cX8_seen 132 = .ok (.iload 4, 2) := by decide +kernel
theorem dX8_seen_134 : decode cX8_seen 134 = .ok (.iload_n 2, 1) := by decide +kernel
theorem dX8_seen_135 : decode cX8_seen 135 = .ok (.isub, 1) := by decide +kernel
theorem dX8_seen_136 : decode cX8_seen 136 = .ok (.invokestatic 255, 3) := by decide +kernel
theorem dX8_seen_139 : decode cX8_seen 139 = .ok (.iload 14, 2) := by decide +kernel
theorem dX8_seen_141 : decode cX8_seen 141 = .ok (.imul, 1) := by decide +kernel
theorem dX8_seen_142 : decode cX8_seen 142 = .ok (.iadd, 1) := by decide +kernel
theorem dX8_seen_143 : decode cX8_seen 143 = .ok (.iload_n 3, 1) := by decide +kernel
theorem dX8_seen_144 : decode cX8_seen 144 = .ok (.i2l, 1) := by decide +kernel
theorem dX8_seen_145 : decode cX8_seen 145 = .ok (.iload 11, 2) := by decide +kernel
theorem dX8_seen_147 : decode cX8_seen 147 = .ok (.i2l, 1) := by decide +kernel
theorem dX8_seen_148 : decode cX8_seen 148 = .ok (.lmul, 1) := by decide +kernel
theorem dX8_seen_149 : decode cX8_seen 149 = .ok (.iload 5, 2) := by decide +kernel
theorem dX8_seen_151 : decode cX8_seen 151 = .ok (.iload_n 3, 1) := by decide +kernel
theorem dX8_seen_152 : decode cX8_seen 152 = .ok (.isub, 1) := by decide +kernel
theorem dX8_seen_153 : decode cX8_seen 153 = .ok (.i2l, 1) := by decide +kernel
theorem dX8_seen_154 : decode cX8_seen 154 = .ok (.iload 14, 2) := by decide +kernel
theorem dX8_seen_156 : decode cX8_seen 156 = .ok (.i2l, 1) := by decide +kernel
theorem dX8_seen_157 : decode cX8_seen 157 = .ok (.lmul, 1) := by decide +kernel
theorem dX8_seen_158 : decode cX8_seen 158 = .ok (.ladd, 1) := by decide +kernel
theorem dX8_seen_159 : decode cX8_seen 159 = .ok (.iload 11, 2) := by decide +kernel
theorem dX8_seen_161 : decode cX8_seen 161 = .ok (.iconst 1, 1) := by decide +kernel
theorem dX8_seen_162 : decode cX8_seen 162 = .ok (.lload 7, 2) := by decide +kernel
theorem dX8_seen_164 : decode cX8_seen 164 = .ok (.iload 11, 2) := by decide +kernel
theorem dX8_seen_166 : decode cX8_seen 166 = .ok (.iload 14, 2) := by decide +kernel
theorem dX8_seen_168 : decode cX8_seen 168 = .ok (.isub, 1) := by decide +kernel
theorem dX8_seen_169 : decode cX8_seen 169 = .ok (.i2l, 1) := by decide +kernel
theorem dX8_seen_170 : decode cX8_seen 170 = .ok (.lmul, 1) := by decide +kernel
theorem dX8_seen_171 : decode cX8_seen 171 = .ok (.lload 9, 2) := by decide +kernel
theorem dX8_seen_173 : decode cX8_seen 173 = .ok (.iload 14, 2) := by decide +kernel
theorem dX8_seen_175 : decode cX8_seen 175 = .ok (.i2l, 1) := by decide +kernel
theorem dX8_seen_176 : decode cX8_seen 176 = .ok (.lmul, 1) := by decide +kernel
theorem dX8_seen_177 : decode cX8_seen 177 = .ok (.ladd, 1) := by decide +kernel
theorem dX8_seen_178 : decode cX8_seen 178 = .ok (.invokevirtual 258, 3) := by decide +kernel
theorem dX8_seen_181 : decode cX8_seen 181 = .ok (.ifCond .eq 7, 3) := by decide +kernel
theorem dX8_seen_184 : decode cX8_seen 184 = .ok (.iconst 1, 1) := by decide +kernel
theorem dX8_seen_185 : decode cX8_seen 185 = .ok (.goto 4, 3) := by decide +kernel
theorem dX8_seen_188 : decode cX8_seen 188 = .ok (.iconst 0, 1) := by decide +kernel
theorem dX8_seen_189 : decode cX8_seen 189 = .ok (.istore 13, 2) := by decide +kernel
theorem dX8_seen_191 : decode cX8_seen 191 = .ok (.iinc 14 1, 3) := by decide +kernel
theorem dX8_seen_194 : decode cX8_seen 194 = .ok (.goto (-77), 3) := by decide +kernel
theorem dX8_seen_197 : decode cX8_seen 197 = .ok (.iconst 1, 1) := by decide +kernel
theorem dX8_seen_198 : decode cX8_seen 198 = .ok (.istore 14, 2) := by decide +kernel
theorem dX8_seen_200 : decode cX8_seen 200 = .ok (.iload 14, 2) := by decide +kernel
theorem dX8_seen_202 : decode cX8_seen 202 = .ok (.iload 12, 2) := by decide +kernel
theorem dX8_seen_204 : decode cX8_seen 204 = .ok (.if_icmp .ge 76, 3) := by decide +kernel
theorem dX8_seen_207 : decode cX8_seen 207 = .ok (.iload 13, 2) := by decide +kernel
theorem dX8_seen_209 : decode cX8_seen 209 = .ok (.ifCond .eq 62, 3) := by decide +kernel
theorem dX8_seen_212 : decode cX8_seen 212 = .ok (.aload_n 0, 1) := by decide +kernel
theorem dX8_seen_213 : decode cX8_seen 213 = .ok (.iload_n 1, 1) := by decide +kernel
theorem dX8_seen_214 : decode cX8_seen 214 = .ok (.iload_n 3, 1) := by decide +kernel
theorem dX8_seen_215 : decode cX8_seen 215 = .ok (.iload 5, 2) := by decide +kernel
theorem dX8_seen_217 : decode cX8_seen 217 = .ok (.iload_n 3, 1) := by decide +kernel
theorem dX8_seen_218 : decode cX8_seen 218 = .ok (.isub, 1) := by decide +kernel
theorem dX8_seen_219 : decode cX8_seen 219 = .ok (.invokestatic 255, 3) := by decide +kernel
theorem dX8_seen_222 : decode cX8_seen 222 = .ok (.iload 14, 2) := by decide +kernel
theorem dX8_seen_224 : decode cX8_seen 224 = .ok (.imul, 1) := by decide +kernel
theorem dX8_seen_225 : decode cX8_seen 225 = .ok (.iadd, 1) := by decide +kernel
theorem dX8_seen_226 : decode cX8_seen 226 = .ok (.iload_n 2, 1) := by decide +kernel
theorem dX8_seen_227 : decode cX8_seen 227 = .ok (.i2l, 1) := by decide +kernel
theorem dX8_seen_228 : decode cX8_seen 228 = .ok (.iload 12, 2) := by decide +kernel
theorem dX8_seen_230 : decode cX8_seen 230 = .ok (.i2l, 1) := by decide +kernel
theorem dX8_seen_231 : decode cX8_seen 231 = .ok (.lmul, 1) := by decide +kernel
theorem dX8_seen_232 : decode cX8_seen 232 = .ok (.iload 4, 2) := by decide +kernel
theorem dX8_seen_234 : decode cX8_seen 234 = .ok (.iload_n 2, 1) := by decide +kernel
theorem dX8_seen_235 : decode cX8_seen 235 = .ok (.isub, 1) := by decide +kernel
theorem dX8_seen_236 : decode cX8_seen 236 = .ok (.i2l, 1) := by decide +kernel
theorem dX8_seen_237 : decode cX8_seen 237 = .ok (.iload 14, 2) := by decide +kernel
theorem dX8_seen_239 : decode cX8_seen 239 = .ok (.i2l, 1) := by decide +kernel
theorem dX8_seen_240 : decode cX8_seen 240 = .ok (.lmul, 1) := by decide +kernel
theorem dX8_seen_241 : decode cX8_seen 241 = .ok (.ladd, 1) := by decide +kernel
theorem dX8_seen_242 : decode cX8_seen 242 = .ok (.iload 12, 2) := by decide +kernel
theorem dX8_seen_244 : decode cX8_seen 244 = .ok (.iconst 0, 1) := by decide +kernel
theorem dX8_seen_245 : decode cX8_seen 245 = .ok (.lload 7, 2) := by decide +kernel
theorem dX8_seen_247 : decode cX8_seen 247 = .ok (.iload 12, 2) := by decide +kernel
theorem dX8_seen_249 : decode cX8_seen 249 = .ok (.iload 14, 2) := by decide +kernel
theorem dX8_seen_251 : decode cX8_seen 251 = .ok (.isub, 1) := by decide +kernel
theorem dX8_seen_252 : decode cX8_seen 252 = .ok (.i2l, 1) := by decide +kernel
theorem dX8_seen_253 : decode cX8_seen 253 = .ok (.lmul, 1) := by decide +kernel
theorem dX8_seen_254 : decode cX8_seen 254 = .ok (.lload 9, 2) := by decide +kernel
theorem dX8_seen_256 : decode cX8_seen 256 = .ok (.iload 14, 2) := by decide +kernel
theorem dX8_seen_258 : decode cX8_seen 258 = .ok (.i2l, 1) := by decide +kernel
theorem dX8_seen_259 : decode cX8_seen 259 = .ok (.lmul, 1) := by decide +kernel
theorem dX8_seen_260 : decode cX8_seen 260 = .ok (.ladd, 1) := by decide +kernel
theorem dX8_seen_261 : decode cX8_seen 261 = .ok (.invokevirtual 258, 3) := by decide +kernel
theorem dX8_seen_264 : decode cX8_seen 264 = .ok (.ifCond .eq 7, 3) := by decide +kernel
theorem dX8_seen_267 : decode cX8_seen 267 = .ok (.iconst 1, 1) := by decide +kernel
theorem dX8_seen_268 : decode cX8_seen 268 = .ok (.goto 4, 3) := by decide +kernel
theorem dX8_seen_271 : decode cX8_seen 271 = .ok (.iconst 0, 1) := by decide +kernel
theorem dX8_seen_272 : decode cX8_seen 272 = .ok (.istore 13, 2) := by decide +kernel
theorem dX8_seen_274 : decode cX8_seen 274 = .ok (.iinc 14 1, 3) := by decide +kernel
theorem dX8_seen_277 : decode cX8_seen 277 = .ok (.goto (-77), 3) := by decide +kernel
theorem dX8_seen_280 : decode cX8_seen 280 = .ok (.iload 13, 2) := by decide +kernel
theorem dX8_seen_282 : decode cX8_seen 282 = .ok (.ifCond .eq 7, 3) := by decide +kernel
theorem dX8_seen_285 : decode cX8_seen 285 = .ok (.iconst 1, 1) := by decide +kernel
theorem dX8_seen_286 : decode cX8_seen 286 = .ok (.goto 4, 3) := by decide +kernel
theorem dX8_seen_289 : decode cX8_seen 289 = .ok (.iconst 0, 1) := by decide +kernel
theorem dX8_seen_290 : decode cX8_seen 290 = .ok (.ireturn, 1) := by decide +kernel
theorem dX8_takes_0 : decode cX8_takes 0 = .ok (.aload_n 0, 1) := by decide +kernel
theorem dX8_takes_1 : decode cX8_takes 1 = .ok (.getfield 7, 3) := by decide +kernel
theorem dX8_takes_4 : decode cX8_takes 4 = .ok (.iload_n 2, 1) := by decide +kernel
theorem dX8_takes_5 : decode cX8_takes 5 = .ok (.aload_n 0, 1) := by decide +kernel
theorem dX8_takes_6 : decode cX8_takes 6 = .ok (.getfield 7, 3) := by decide +kernel
theorem dX8_takes_9 : decode cX8_takes 9 = .ok (.iload_n 1, 1) := by decide +kernel
theorem dX8_takes_10 : decode cX8_takes 10 = .ok (.iaload, 1) := by decide +kernel
theorem dX8_takes_11 : decode cX8_takes 11 = .ok (.iastore, 1) := by decide +kernel
theorem dX8_takes_12 : decode cX8_takes 12 = .ok (.iconst 0, 1) := by decide +kernel
theorem dX8_takes_13 : decode cX8_takes 13 = .ok (.istore_n 3, 1) := by decide +kernel
theorem dX8_takes_14 : decode cX8_takes 14 = .ok (.iload_n 3, 1) := by decide +kernel
theorem dX8_takes_15 : decode cX8_takes 15 = .ok (.bipush 32, 2) := by decide +kernel
theorem dX8_takes_17 : decode cX8_takes 17 = .ok (.if_icmp .ge 53, 3) := by decide +kernel
theorem dX8_takes_20 : decode cX8_takes 20 = .ok (.aload_n 0, 1) := by decide +kernel
theorem dX8_takes_21 : decode cX8_takes 21 = .ok (.getfield 13, 3) := by decide +kernel
theorem dX8_takes_24 : decode cX8_takes 24 = .ok (.bipush 32, 2) := by decide +kernel
theorem dX8_takes_26 : decode cX8_takes 26 = .ok (.iload_n 2, 1) := by decide +kernel
theorem dX8_takes_27 : decode cX8_takes 27 = .ok (.imul, 1) := by decide +kernel
theorem dX8_takes_28 : decode cX8_takes 28 = .ok (.iload_n 3, 1) := by decide +kernel
theorem dX8_takes_29 : decode cX8_takes 29 = .ok (.iadd, 1) := by decide +kernel
theorem dX8_takes_30 : decode cX8_takes 30 = .ok (.aload_n 0, 1) := by decide +kernel
theorem dX8_takes_31 : decode cX8_takes 31 = .ok (.getfield 13, 3) := by decide +kernel
theorem dX8_takes_34 : decode cX8_takes 34 = .ok (.bipush 32, 2) := by decide +kernel
theorem dX8_takes_36 : decode cX8_takes 36 = .ok (.iload_n 1, 1) := by decide +kernel
theorem dX8_takes_37 : decode cX8_takes 37 = .ok (.imul, 1) := by decide +kernel
theorem dX8_takes_38 : decode cX8_takes 38 = .ok (.iload_n 3, 1) := by decide +kernel
theorem dX8_takes_39 : decode cX8_takes 39 = .ok (.iadd, 1) := by decide +kernel
theorem dX8_takes_40 : decode cX8_takes 40 = .ok (.iaload, 1) := by decide +kernel
theorem dX8_takes_41 : decode cX8_takes 41 = .ok (.iastore, 1) := by decide +kernel
theorem dX8_takes_42 : decode cX8_takes 42 = .ok (.aload_n 0, 1) := by decide +kernel
theorem dX8_takes_43 : decode cX8_takes 43 = .ok (.getfield 16, 3) := by decide +kernel
theorem dX8_takes_46 : decode cX8_takes 46 = .ok (.bipush 32, 2) := by decide +kernel
theorem dX8_takes_48 : decode cX8_takes 48 = .ok (.iload_n 2, 1) := by decide +kernel
theorem dX8_takes_49 : decode cX8_takes 49 = .ok (.imul, 1) := by decide +kernel
theorem dX8_takes_50 : decode cX8_takes 50 = .ok (.iload_n 3, 1) := by decide +kernel
theorem dX8_takes_51 : decode cX8_takes 51 = .ok (.iadd, 1) := by decide +kernel
theorem dX8_takes_52 : decode cX8_takes 52 = .ok (.aload_n 0, 1) := by decide +kernel
theorem dX8_takes_53 : decode cX8_takes 53 = .ok (.getfield 16, 3) := by decide +kernel
theorem dX8_takes_56 : decode cX8_takes 56 = .ok (.bipush 32, 2) := by decide +kernel
theorem dX8_takes_58 : decode cX8_takes 58 = .ok (.iload_n 1, 1) := by decide +kernel
theorem dX8_takes_59 : decode cX8_takes 59 = .ok (.imul, 1) := by decide +kernel
theorem dX8_takes_60 : decode cX8_takes 60 = .ok (.iload_n 3, 1) := by decide +kernel
theorem dX8_takes_61 : decode cX8_takes 61 = .ok (.iadd, 1) := by decide +kernel
theorem dX8_takes_62 : decode cX8_takes 62 = .ok (.iaload, 1) := by decide +kernel
theorem dX8_takes_63 : decode cX8_takes 63 = .ok (.iastore, 1) := by decide +kernel
theorem dX8_takes_64 : decode cX8_takes 64 = .ok (.iinc 3 1, 3) := by decide +kernel
theorem dX8_takes_67 : decode cX8_takes 67 = .ok (.goto (-53), 3) := by decide +kernel
theorem dX8_takes_70 : decode cX8_takes 70 = .ok (.iconst 0, 1) := by decide +kernel
theorem dX8_takes_71 : decode cX8_takes 71 = .ok (.istore_n 3, 1) := by decide +kernel
theorem dX8_takes_72 : decode cX8_takes 72 = .ok (.iload_n 3, 1) := by decide +kernel
theorem dX8_takes_73 : decode cX8_takes 73 = .ok (.sipush 1280, 3) := by decide +kernel
theorem dX8_takes_76 : decode cX8_takes 76 = .ok (.if_icmp .ge 45, 3) := by decide +kernel
theorem dX8_takes_79 : decode cX8_takes 79 = .ok (.aload_n 0, 1) := by decide +kernel
theorem dX8_takes_80 : decode cX8_takes 80 = .ok (.getfield 19, 3) := by decide +kernel
theorem dX8_takes_83 : decode cX8_takes 83 = .ok (.sipush 1280, 3) := by decide +kernel
theorem dX8_takes_86 : decode cX8_takes 86 = .ok (.iload_n 2, 1) := by decide +kernel
theorem dX8_takes_87 : decode cX8_takes 87 = .ok (.imul, 1) := by decide +kernel
