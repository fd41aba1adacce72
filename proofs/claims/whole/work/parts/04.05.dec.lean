theorem dX7_smooth_97 : decode cX7_smooth 97 = .ok (.sipush 1280, 3) := by decide +kernel
theorem dX7_smooth_100 : decode cX7_smooth 100 = .ok (.if_icmp .ge 23, 3) := by decide +kernel
theorem dX7_smooth_103 : decode cX7_smooth 103 = .ok (.aload 5, 2) := by decide +kernel
theorem dX7_smooth_105 : decode cX7_smooth 105 = .ok (.iload 6, 2) := by decide +kernel
theorem dX7_smooth_107 : decode cX7_smooth 107 = .ok (.aload_n 0, 1) := by decide +kernel
theorem dX7_smooth_108 : decode cX7_smooth 108 = .ok (.getfield 33, 3) := by decide +kernel
theorem dX7_smooth_111 : decode cX7_smooth 111 = .ok (.iload 6, 2) := by decide +kernel
theorem dX7_smooth_113 : decode cX7_smooth 113 = .ok (.iaload, 1) := by decide +kernel
theorem dX7_smooth_114 : decode cX7_smooth 114 = .ok (.invokevirtual 66, 3) := by decide +kernel
theorem dX7_smooth_117 : decode cX7_smooth 117 = .ok (.iinc 6 1, 3) := by decide +kernel
theorem dX7_smooth_120 : decode cX7_smooth 120 = .ok (.goto (-25), 3) := by decide +kernel
theorem dX7_smooth_123 : decode cX7_smooth 123 = .ok (.iconst 1, 1) := by decide +kernel
theorem dX7_smooth_124 : decode cX7_smooth 124 = .ok (.ireturn, 1) := by decide +kernel
set_option maxRecDepth 20000 in
theorem ggX7_difference_X7_gridOf : GoodIn wsX7_difference wsX7_gridOf := goodIn_r _ [8, 9, 36, 37, 38, 39, 40, 41] (by decide +kernel) (by decide +kernel)
set_option maxRecDepth 20000 in
theorem gX7_difference_X7_gridOf : GoodIn wsX7_difference (wsV RX7 43 RX7 yX7_gridOf wsX7_gridOf) := goodIn_app (goodIn_of _ (by decide +kernel)) ggX7_difference_X7_gridOf
set_option maxRecDepth 20000 in
theorem ggX7_difference_X2_isThere : GoodIn wsX7_difference wsX2_isThere := goodIn_r _ [14, 15, 16, 42, 43, 44, 45] (by decide +kernel) (by decide +kernel)
set_option maxRecDepth 20000 in
theorem gX7_difference_X2_isThere : GoodIn wsX7_difference (wsV RX7 150 RX2 yX2_isThere wsX2_isThere) := goodIn_app (goodIn_of _ (by decide +kernel)) ggX7_difference_X2_isThere
set_option maxRecDepth 20000 in
theorem ggX7_difference_X2_unitsOf : GoodIn wsX7_difference wsX2_unitsOf := goodIn_r _ [20, 16, 15, 42, 43, 44, 45] (by decide +kernel) (by decide +kernel)
set_option maxRecDepth 20000 in
theorem gX7_difference_X2_unitsOf : GoodIn wsX7_difference (wsV RX7 74 RX2 yX2_unitsOf wsX2_unitsOf) := goodIn_app (goodIn_of _ (by decide +kernel)) ggX7_difference_X2_unitsOf
set_option maxRecDepth 20000 in
theorem ggX7_difference_X2_put : GoodIn wsX7_difference wsX2_put := goodIn_r _ [24, 15, 42, 43, 44, 45] (by decide +kernel) (by decide +kernel)
set_option maxRecDepth 20000 in
theorem gX7_difference_X2_put : GoodIn wsX7_difference (wsV RX7 66 RX2 yX2_put wsX2_put) := goodIn_app (goodIn_of _ (by decide +kernel)) ggX7_difference_X2_put
set_option maxRecDepth 20000 in
theorem ggX7_difference_X2_takeShape : GoodIn wsX7_difference wsX2_takeShape := goodIn_r _ [28, 29, 30, 31, 32, 33, 34, 35, 42, 43, 44, 45] (by decide +kernel) (by decide +kernel)
set_option maxRecDepth 20000 in
theorem gX7_difference_X2_takeShape : GoodIn wsX7_difference (wsV RX7 176 RX2 yX2_takeShape wsX2_takeShape) := goodIn_app (goodIn_of _ (by decide +kernel)) ggX7_difference_X2_takeShape
theorem dX7_difference_0 : decode cX7_difference 0 = .ok (.aload_n 0, 1) := by decide +kernel
theorem dX7_difference_1 : decode cX7_difference 1 = .ok (.iload_n 1, 1) := by decide +kernel
theorem dX7_difference_2 : decode cX7_difference 2 = .ok (.invokevirtual 43, 3) := by decide +kernel
theorem dX7_difference_5 : decode cX7_difference 5 = .ok (.astore 4, 2) := by decide +kernel
theorem dX7_difference_7 : decode cX7_difference 7 = .ok (.aload_n 0, 1) := by decide +kernel
theorem dX7_difference_8 : decode cX7_difference 8 = .ok (.iload_n 2, 1) := by decide +kernel
theorem dX7_difference_9 : decode cX7_difference 9 = .ok (.invokevirtual 43, 3) := by decide +kernel
theorem dX7_difference_12 : decode cX7_difference 12 = .ok (.astore 5, 2) := by decide +kernel
theorem dX7_difference_14 : decode cX7_difference 14 = .ok (.aload_n 0, 1) := by decide +kernel
theorem dX7_difference_15 : decode cX7_difference 15 = .ok (.iload_n 3, 1) := by decide +kernel
theorem dX7_difference_16 : decode cX7_difference 16 = .ok (.invokevirtual 43, 3) := by decide +kernel
theorem dX7_difference_19 : decode cX7_difference 19 = .ok (.astore 6, 2) := by decide +kernel
theorem dX7_difference_21 : decode cX7_difference 21 = .ok (.aload 4, 2) := by decide +kernel
theorem dX7_difference_23 : decode cX7_difference 23 = .ok (.ifnull 13, 3) := by decide +kernel
theorem dX7_difference_26 : decode cX7_difference 26 = .ok (.aload 5, 2) := by decide +kernel
theorem dX7_difference_28 : decode cX7_difference 28 = .ok (.ifnull 8, 3) := by decide +kernel
theorem dX7_difference_31 : decode cX7_difference 31 = .ok (.aload 6, 2) := by decide +kernel
theorem dX7_difference_33 : decode cX7_difference 33 = .ok (.ifnonnull 5, 3) := by decide +kernel
theorem dX7_difference_36 : decode cX7_difference 36 = .ok (.iconst (-1), 1) := by decide +kernel
theorem dX7_difference_37 : decode cX7_difference 37 = .ok (.ireturn, 1) := by decide +kernel
theorem dX7_difference_38 : decode cX7_difference 38 = .ok (.iconst 0, 1) := by decide +kernel
theorem dX7_difference_39 : decode cX7_difference 39 = .ok (.istore 7, 2) := by decide +kernel
theorem dX7_difference_41 : decode cX7_difference 41 = .ok (.iconst 0, 1) := by decide +kernel
theorem dX7_difference_42 : decode cX7_difference 42 = .ok (.istore 8, 2) := by decide +kernel
theorem dX7_difference_44 : decode cX7_difference 44 = .ok (.iload 8, 2) := by decide +kernel
theorem dX7_difference_46 : decode cX7_difference 46 = .ok (.sipush 1280, 3) := by decide +kernel
theorem dX7_difference_49 : decode cX7_difference 49 = .ok (.if_icmp .ge 98, 3) := by decide +kernel
theorem dX7_difference_52 : decode cX7_difference 52 = .ok (.aload 4, 2) := by decide +kernel
theorem dX7_difference_54 : decode cX7_difference 54 = .ok (.iload 8, 2) := by decide +kernel
theorem dX7_difference_56 : decode cX7_difference 56 = .ok (.invokevirtual 150, 3) := by decide +kernel
theorem dX7_difference_59 : decode cX7_difference 59 = .ok (.ifCond .eq 17, 3) := by decide +kernel
theorem dX7_difference_62 : decode cX7_difference 62 = .ok (.aload 5, 2) := by decide +kernel
theorem dX7_difference_64 : decode cX7_difference 64 = .ok (.iload 8, 2) := by decide +kernel
theorem dX7_difference_66 : decode cX7_difference 66 = .ok (.invokevirtual 150, 3) := by decide +kernel
theorem dX7_difference_69 : decode cX7_difference 69 = .ok (.ifCond .eq 7, 3) := by decide +kernel
theorem dX7_difference_72 : decode cX7_difference 72 = .ok (.iconst 1, 1) := by decide +kernel
theorem dX7_difference_73 : decode cX7_difference 73 = .ok (.goto 4, 3) := by decide +kernel
theorem dX7_difference_76 : decode cX7_difference 76 = .ok (.iconst 0, 1) := by decide +kernel
theorem dX7_difference_77 : decode cX7_difference 77 = .ok (.istore 9, 2) := by decide +kernel
theorem dX7_difference_79 : decode cX7_difference 79 = .ok (.iload 9, 2) := by decide +kernel
theorem dX7_difference_81 : decode cX7_difference 81 = .ok (.ifCond .eq 21, 3) := by decide +kernel
theorem dX7_difference_84 : decode cX7_difference 84 = .ok (.aload 4, 2) := by decide +kernel
theorem dX7_difference_86 : decode cX7_difference 86 = .ok (.iload 8, 2) := by decide +kernel
theorem dX7_difference_88 : decode cX7_difference 88 = .ok (.invokevirtual 74, 3) := by decide +kernel
theorem dX7_difference_91 : decode cX7_difference 91 = .ok (.aload 5, 2) := by decide +kernel
theorem dX7_difference_93 : decode cX7_difference 93 = .ok (.iload 8, 2) := by decide +kernel
theorem dX7_difference_95 : decode cX7_difference 95 = .ok (.invokevirtual 74, 3) := by decide +kernel
theorem dX7_difference_98 : decode cX7_difference 98 = .ok (.isub, 1) := by decide +kernel
theorem dX7_difference_99 : decode cX7_difference 99 = .ok (.goto 5, 3) := by decide +kernel
theorem dX7_difference_102 : decode cX7_difference 102 = .ok (.ldc 61, 2) := by decide +kernel
theorem dX7_difference_104 : decode cX7_difference 104 = .ok (.istore 10, 2) := by decide +kernel
theorem dX7_difference_106 : decode cX7_difference 106 = .ok (.iload 9, 2) := by decide +kernel
theorem dX7_difference_108 : decode cX7_difference 108 = .ok (.ifCond .eq 24, 3) := by decide +kernel
theorem dX7_difference_111 : decode cX7_difference 111 = .ok (.iload 10, 2) := by decide +kernel
theorem dX7_difference_113 : decode cX7_difference 113 = .ok (.ldc 180, 2) := by decide +kernel
theorem dX7_difference_115 : decode cX7_difference 115 = .ok (.if_icmp .lt 10, 3) := by decide +kernel
theorem dX7_difference_118 : decode cX7_difference 118 = .ok (.iload 10, 2) := by decide +kernel
theorem dX7_difference_120 : decode cX7_difference 120 = .ok (.ldc 181, 2) := by decide +kernel
theorem dX7_difference_122 : decode cX7_difference 122 = .ok (.if_icmp .le 10, 3) := by decide +kernel
theorem dX7_difference_125 : decode cX7_difference 125 = .ok (.iinc 7 1, 3) := by decide +kernel
theorem dX7_difference_128 : decode cX7_difference 128 = .ok (.ldc 61, 2) := by decide +kernel
theorem dX7_difference_130 : decode cX7_difference 130 = .ok (.istore 10, 2) := by decide +kernel
theorem dX7_difference_132 : decode cX7_difference 132 = .ok (.aload 6, 2) := by decide +kernel
theorem dX7_difference_134 : decode cX7_difference 134 = .ok (.iload 8, 2) := by decide +kernel
theorem dX7_difference_136 : decode cX7_difference 136 = .ok (.iload 10, 2) := by decide +kernel
theorem dX7_difference_138 : decode cX7_difference 138 = .ok (.invokevirtual 66, 3) := by decide +kernel
theorem dX7_difference_141 : decode cX7_difference 141 = .ok (.iinc 8 1, 3) := by decide +kernel
theorem dX7_difference_144 : decode cX7_difference 144 = .ok (.goto (-100), 3) := by decide +kernel
theorem dX7_difference_147 : decode cX7_difference 147 = .ok (.aload 6, 2) := by decide +kernel
theorem dX7_difference_149 : decode cX7_difference 149 = .ok (.aload 4, 2) := by decide +kernel
theorem dX7_difference_151 : decode cX7_difference 151 = .ok (.invokevirtual 176, 3) := by decide +kernel
theorem dX7_difference_154 : decode cX7_difference 154 = .ok (.iload 7, 2) := by decide +kernel
theorem dX7_difference_156 : decode cX7_difference 156 = .ok (.ireturn, 1) := by decide +kernel
theorem dX7_gridOf_0 : decode cX7_gridOf 0 = .ok (.iload_n 1, 1) := by decide +kernel
theorem dX7_gridOf_1 : decode cX7_gridOf 1 = .ok (.ifCond .lt 8, 3) := by decide +kernel
theorem dX7_gridOf_4 : decode cX7_gridOf 4 = .ok (.iload_n 1, 1) := by decide +kernel
theorem dX7_gridOf_5 : decode cX7_gridOf 5 = .ok (.iconst 4, 1) := by decide +kernel
theorem dX7_gridOf_6 : decode cX7_gridOf 6 = .ok (.if_icmp .lt 7, 3) := by decide +kernel
theorem dX7_gridOf_9 : decode cX7_gridOf 9 = .ok (.aconst_null, 1) := by decide +kernel
theorem dX7_gridOf_10 : decode cX7_gridOf 10 = .ok (.goto 9, 3) := by decide +kernel
theorem dX7_gridOf_13 : decode cX7_gridOf 13 = .ok (.aload_n 0, 1) := by decide +kernel
theorem dX7_gridOf_14 : decode cX7_gridOf 14 = .ok (.getfield 13, 3) := by decide +kernel
theorem dX7_gridOf_17 : decode cX7_gridOf 17 = .ok (.iload_n 1, 1) := by decide +kernel
theorem dX7_gridOf_18 : decode cX7_gridOf 18 = .ok (.aaload, 1) := by decide +kernel
theorem dX7_gridOf_19 : decode cX7_gridOf 19 = .ok (.areturn, 1) := by decide +kernel
set_option maxRecDepth 20000 in
theorem ggX7_isCounted_X2_isWhole : GoodIn wsX7_isCounted wsX2_isWhole := goodIn_r _ [5, 6, 7, 8, 4, 9, 10, 11, 12, 13, 14, 15, 16, 17, 18, 19, 59, 60, 61, 62] (by decide +kernel) (by decide +kernel)
set_option maxRecDepth 20000 in
theorem gX7_isCounted_X2_isWhole : GoodIn wsX7_isCounted (wsV RX7 159 RX2 yX2_isWhole wsX2_isWhole) := goodIn_app (goodIn_of _ (by decide +kernel)) ggX7_isCounted_X2_isWhole
set_option maxRecDepth 20000 in
theorem ggX7_isCounted_X6_downFrom : GoodIn wsX7_isCounted wsX6_downFrom := goodIn_r _ [23, 24, 25, 13, 14, 4, 15, 16, 17, 18, 19, 6, 7, 8, 9, 10, 11, 26, 27, 28, 29, 59, 60, 61, 62] (by decide +kernel) (by decide +kernel)
set_option maxRecDepth 20000 in
theorem gX7_isCounted_X6_downFrom : GoodIn wsX7_isCounted (va_wsS RX7 124 yX6_downFrom wsX6_downFrom) := goodIn_app (goodIn_of _ (by decide +kernel)) ggX7_isCounted_X6_downFrom
set_option maxRecDepth 20000 in
theorem ggX7_isCounted_X2_kindOf : GoodIn wsX7_isCounted wsX2_kindOf := goodIn_r _ [33, 34, 35, 36, 4, 37, 38, 39, 40, 41, 12, 13, 14, 15, 16, 17, 18, 19, 6, 7, 8, 9, 10, 11, 42, 43, 44, 45, 46, 47, 48, 49, 50, 27, 28, 29, 51, 52, 53, 54, 55, 56, 57, 59, 60, 61, 62] (by decide +kernel) (by decide +kernel)
set_option maxRecDepth 20000 in
theorem gX7_isCounted_X2_kindOf : GoodIn wsX7_isCounted (wsV RX7 137 RX2 yX2_kindOf wsX2_kindOf) := goodIn_app (goodIn_of _ (by decide +kernel)) ggX7_isCounted_X2_kindOf
set_option maxRecDepth 20000 in
theorem ggX7_isCounted_X2_isRim : GoodIn wsX7_isCounted wsX2_isRim := goodIn_r _ [37, 38, 39, 40, 4, 41, 12, 13, 14, 15, 16, 17, 18, 19, 6, 7, 8, 9, 10, 11, 59, 60, 61, 62] (by decide +kernel) (by decide +kernel)
set_option maxRecDepth 20000 in
theorem gX7_isCounted_X2_isRim : GoodIn wsX7_isCounted (wsV RX7 182 RX2 yX2_isRim wsX2_isRim) := goodIn_app (goodIn_of _ (by decide +kernel)) ggX7_isCounted_X2_isRim
theorem dX7_isCounted_0 : decode cX7_isCounted 0 = .ok (.iload_n 2, 1) := by decide +kernel
theorem dX7_isCounted_1 : decode cX7_isCounted 1 = .ok (.tableswitch 98 0 5 #[39, 41, 47, 62, 77, 92], 39) := by decide +kernel
theorem dX7_isCounted_40 : decode cX7_isCounted 40 = .ok (.iconst 1, 1) := by decide +kernel
theorem dX7_isCounted_41 : decode cX7_isCounted 41 = .ok (.ireturn, 1) := by decide +kernel
theorem dX7_isCounted_42 : decode cX7_isCounted 42 = .ok (.aload_n 0, 1) := by decide +kernel
theorem dX7_isCounted_43 : decode cX7_isCounted 43 = .ok (.iload_n 1, 1) := by decide +kernel
theorem dX7_isCounted_44 : decode cX7_isCounted 44 = .ok (.invokevirtual 159, 3) := by decide +kernel
theorem dX7_isCounted_47 : decode cX7_isCounted 47 = .ok (.ireturn, 1) := by decide +kernel
theorem dX7_isCounted_48 : decode cX7_isCounted 48 = .ok (.aload_n 0, 1) := by decide +kernel
theorem dX7_isCounted_49 : decode cX7_isCounted 49 = .ok (.iload_n 1, 1) := by decide +kernel
theorem dX7_isCounted_50 : decode cX7_isCounted 50 = .ok (.invokestatic 124, 3) := by decide +kernel
theorem dX7_isCounted_53 : decode cX7_isCounted 53 = .ok (.iconst (-1), 1) := by decide +kernel
theorem dX7_isCounted_54 : decode cX7_isCounted 54 = .ok (.if_icmp .ne 7, 3) := by decide +kernel
theorem dX7_isCounted_57 : decode cX7_isCounted 57 = .ok (.iconst 1, 1) := by decide +kernel
theorem dX7_isCounted_58 : decode cX7_isCounted 58 = .ok (.goto 4, 3) := by decide +kernel
theorem dX7_isCounted_61 : decode cX7_isCounted 61 = .ok (.iconst 0, 1) := by decide +kernel
theorem dX7_isCounted_62 : decode cX7_isCounted 62 = .ok (.ireturn, 1) := by decide +kernel
theorem dX7_isCounted_63 : decode cX7_isCounted 63 = .ok (.aload_n 0, 1) := by decide +kernel
theorem dX7_isCounted_64 : decode cX7_isCounted 64 = .ok (.iload_n 1, 1) := by decide +kernel
theorem dX7_isCounted_65 : decode cX7_isCounted 65 = .ok (.invokevirtual 137, 3) := by decide +kernel
theorem dX7_isCounted_68 : decode cX7_isCounted 68 = .ok (.iconst 1, 1) := by decide +kernel
theorem dX7_isCounted_69 : decode cX7_isCounted 69 = .ok (.if_icmp .ne 7, 3) := by decide +kernel
theorem dX7_isCounted_72 : decode cX7_isCounted 72 = .ok (.iconst 1, 1) := by decide +kernel
theorem dX7_isCounted_73 : decode cX7_isCounted 73 = .ok (.goto 4, 3) := by decide +kernel
theorem dX7_isCounted_76 : decode cX7_isCounted 76 = .ok (.iconst 0, 1) := by decide +kernel
theorem dX7_isCounted_77 : decode cX7_isCounted 77 = .ok (.ireturn, 1) := by decide +kernel
theorem dX7_isCounted_78 : decode cX7_isCounted 78 = .ok (.aload_n 0, 1) := by decide +kernel
theorem dX7_isCounted_79 : decode cX7_isCounted 79 = .ok (.iload_n 1, 1) := by decide +kernel
theorem dX7_isCounted_80 : decode cX7_isCounted 80 = .ok (.invokevirtual 137, 3) := by decide +kernel
theorem dX7_isCounted_83 : decode cX7_isCounted 83 = .ok (.iconst 3, 1) := by decide +kernel
theorem dX7_isCounted_84 : decode cX7_isCounted 84 = .ok (.if_icmp .ne 7, 3) := by decide +kernel
theorem dX7_isCounted_87 : decode cX7_isCounted 87 = .ok (.iconst 1, 1) := by decide +kernel
theorem dX7_isCounted_88 : decode cX7_isCounted 88 = .ok (.goto 4, 3) := by decide +kernel
theorem dX7_isCounted_91 : decode cX7_isCounted 91 = .ok (.iconst 0, 1) := by decide +kernel
theorem dX7_isCounted_92 : decode cX7_isCounted 92 = .ok (.ireturn, 1) := by decide +kernel
theorem dX7_isCounted_93 : decode cX7_isCounted 93 = .ok (.aload_n 0, 1) := by decide +kernel
theorem dX7_isCounted_94 : decode cX7_isCounted 94 = .ok (.iload_n 1, 1) := by decide +kernel
theorem dX7_isCounted_95 : decode cX7_isCounted 95 = .ok (.invokevirtual 182, 3) := by decide +kernel
theorem dX7_isCounted_98 : decode cX7_isCounted 98 = .ok (.ireturn, 1) := by decide +kernel
theorem dX7_isCounted_99 : decode cX7_isCounted 99 = .ok (.iconst 0, 1) := by decide +kernel
theorem dX7_isCounted_100 : decode cX7_isCounted 100 = .ok (.ireturn, 1) := by decide +kernel
theorem dX8_init_0 : decode cX8_init 0 = .ok (.aload_n 0, 1) := by decide +kernel
theorem dX8_init_1 : decode cX8_init 1 = .ok (.invokespecial 1, 3) := by decide +kernel
theorem dX8_init_4 : decode cX8_init 4 = .ok (.aload_n 0, 1) := by decide +kernel
theorem dX8_init_5 : decode cX8_init 5 = .ok (.iconst 4, 1) := by decide +kernel
theorem dX8_init_6 : decode cX8_init 6 = .ok (.newarray .int, 2) := by decide +kernel
theorem dX8_init_8 : decode cX8_init 8 = .ok (.putfield 7, 3) := by decide +kernel
theorem dX8_init_11 : decode cX8_init 11 = .ok (.aload_n 0, 1) := by decide +kernel
theorem dX8_init_12 : decode cX8_init 12 = .ok (.sipush 128, 3) := by decide +kernel
theorem dX8_init_15 : decode cX8_init 15 = .ok (.newarray .int, 2) := by decide +kernel
theorem dX8_init_17 : decode cX8_init 17 = .ok (.putfield 13, 3) := by decide +kernel
theorem dX8_init_20 : decode cX8_init 20 = .ok (.aload_n 0, 1) := by decide +kernel
theorem dX8_init_21 : decode cX8_init 21 = .ok (.sipush 128, 3) := by decide +kernel
theorem dX8_init_24 : decode cX8_init 24 = .ok (.newarray .int, 2) := by decide +kernel
theorem dX8_init_26 : decode cX8_init 26 = .ok (.putfield 16, 3) := by decide +kernel
theorem dX8_init_29 : decode cX8_init 29 = .ok (.aload_n 0, 1) := by decide +kernel
theorem dX8_init_30 : decode cX8_init 30 = .ok (.sipush 5120, 3) := by decide +kernel
theorem dX8_init_33 : decode cX8_init 33 = .ok (.newarray .int, 2) := by decide +kernel
theorem dX8_init_35 : decode cX8_init 35 = .ok (.putfield 19, 3) := by decide +kernel
theorem dX8_init_38 : decode cX8_init 38 = .ok (.aload_n 0, 1) := by decide +kernel
theorem dX8_init_39 : decode cX8_init 39 = .ok (.sipush 5120, 3) := by decide +kernel
theorem dX8_init_42 : decode cX8_init 42 = .ok (.newarray .boolean, 2) := by decide +kernel
theorem dX8_init_44 : decode cX8_init 44 = .ok (.putfield 22, 3) := by decide +kernel
theorem dX8_init_47 : decode cX8_init 47 = .ok (.aload_n 0, 1) := by decide +kernel
theorem dX8_init_48 : decode cX8_init 48 = .ok (.bipush 16, 2) := by decide +kernel
theorem dX8_init_50 : decode cX8_init 50 = .ok (.newarray .int, 2) := by decide +kernel
theorem dX8_init_52 : decode cX8_init 52 = .ok (.putfield 26, 3) := by decide +kernel
theorem dX8_init_55 : decode cX8_init 55 = .ok (.aload_n 0, 1) := by decide +kernel
theorem dX8_init_56 : decode cX8_init 56 = .ok (.sipush 400, 3) := by decide +kernel
theorem dX8_init_59 : decode cX8_init 59 = .ok (.newarray .int, 2) := by decide +kernel
theorem dX8_init_61 : decode cX8_init 61 = .ok (.putfield 29, 3) := by decide +kernel
theorem dX8_init_64 : decode cX8_init 64 = .ok (.aload_n 0, 1) := by decide +kernel
theorem dX8_init_65 : decode cX8_init 65 = .ok (.sipush 400, 3) := by decide +kernel
theorem dX8_init_68 : decode cX8_init 68 = .ok (.newarray .int, 2) := by decide +kernel
theorem dX8_init_70 : decode cX8_init 70 = .ok (.putfield 32, 3) := by decide +kernel
theorem dX8_init_73 : decode cX8_init 73 = .ok (.aload_n 0, 1) := by decide +kernel
theorem dX8_init_74 : decode cX8_init 74 = .ok (.sipush 400, 3) := by decide +kernel
theorem dX8_init_77 : decode cX8_init 77 = .ok (.newarray .int, 2) := by decide +kernel
theorem dX8_init_79 : decode cX8_init 79 = .ok (.putfield 35, 3) := by decide +kernel
theorem dX8_init_82 : decode cX8_init 82 = .ok (.aload_n 0, 1) := by decide +kernel
theorem dX8_init_83 : decode cX8_init 83 = .ok (.sipush 400, 3) := by decide +kernel
theorem dX8_init_86 : decode cX8_init 86 = .ok (.newarray .int, 2) := by decide +kernel
theorem dX8_init_88 : decode cX8_init 88 = .ok (.putfield 38, 3) := by decide +kernel
theorem dX8_init_91 : decode cX8_init 91 = .ok (.aload_n 0, 1) := by decide +kernel
theorem dX8_init_92 : decode cX8_init 92 = .ok (.sipush 400, 3) := by decide +kernel
theorem dX8_init_95 : decode cX8_init 95 = .ok (.newarray .boolean, 2) := by decide +kernel
theorem dX8_init_97 : decode cX8_init 97 = .ok (.putfield 41, 3) := by decide +kernel
theorem dX8_init_100 : decode cX8_init 100 = .ok (.aload_n 0, 1) := by decide +kernel
theorem dX8_init_101 : decode cX8_init 101 = .ok (.sipush 400, 3) := by decide +kernel
theorem dX8_init_104 : decode cX8_init 104 = .ok (.newarray .int, 2) := by decide +kernel
theorem dX8_init_106 : decode cX8_init 106 = .ok (.putfield 44, 3) := by decide +kernel
theorem dX8_init_109 : decode cX8_init 109 = .ok (.aload_n 0, 1) := by decide +kernel
theorem dX8_init_110 : decode cX8_init 110 = .ok (.sipush 400, 3) := by decide +kernel
theorem dX8_init_113 : decode cX8_init 113 = .ok (.newarray .int, 2) := by decide +kernel
theorem dX8_init_115 : decode cX8_init 115 = .ok (.putfield 47, 3) := by decide +kernel
theorem dX8_init_118 : decode cX8_init 118 = .ok (.aload_n 0, 1) := by decide +kernel
theorem dX8_init_119 : decode cX8_init 119 = .ok (.sipush 400, 3) := by decide +kernel
theorem dX8_init_122 : decode cX8_init 122 = .ok (.newarray .boolean, 2) := by decide +kernel
theorem dX8_init_124 : decode cX8_init 124 = .ok (.putfield 50, 3) := by decide +kernel
theorem dX8_init_127 : decode cX8_init 127 = .ok (.aload_n 0, 1) := by decide +kernel
theorem dX8_init_128 : decode cX8_init 128 = .ok (.sipush 8000, 3) := by decide +kernel
theorem dX8_init_131 : decode cX8_init 131 = .ok (.newarray .long, 2) := by decide +kernel
theorem dX8_init_133 : decode cX8_init 133 = .ok (.putfield 53, 3) := by decide +kernel
theorem dX8_init_136 : decode cX8_init 136 = .ok (.aload_n 0, 1) := by decide +kernel
theorem dX8_init_137 : decode cX8_init 137 = .ok (.sipush 8000, 3) := by decide +kernel
theorem dX8_init_140 : decode cX8_init 140 = .ok (.newarray .int, 2) := by decide +kernel
theorem dX8_init_142 : decode cX8_init 142 = .ok (.putfield 57, 3) := by decide +kernel
theorem dX8_init_145 : decode cX8_init 145 = .ok (.aload_n 0, 1) := by decide +kernel
theorem dX8_init_146 : decode cX8_init 146 = .ok (.sipush 8000, 3) := by decide +kernel
theorem dX8_init_149 : decode cX8_init 149 = .ok (.newarray .int, 2) := by decide +kernel
theorem dX8_init_151 : decode cX8_init 151 = .ok (.putfield 60, 3) := by decide +kernel
theorem dX8_init_154 : decode cX8_init 154 = .ok (.aload_n 0, 1) := by decide +kernel
theorem dX8_init_155 : decode cX8_init 155 = .ok (.sipush 8000, 3) := by decide +kernel
theorem dX8_init_158 : decode cX8_init 158 = .ok (.newarray .int, 2) := by decide +kernel
theorem dX8_init_160 : decode cX8_init 160 = .ok (.putfield 63, 3) := by decide +kernel
theorem dX8_init_163 : decode cX8_init 163 = .ok (.aload_n 0, 1) := by decide +kernel
theorem dX8_init_164 : decode cX8_init 164 = .ok (.sipush 1280, 3) := by decide +kernel
theorem dX8_init_167 : decode cX8_init 167 = .ok (.newarray .boolean, 2) := by decide +kernel
theorem dX8_init_169 : decode cX8_init 169 = .ok (.putfield 66, 3) := by decide +kernel
theorem dX8_init_172 : decode cX8_init 172 = .ok (.aload_n 0, 1) := by decide +kernel
theorem dX8_init_173 : decode cX8_init 173 = .ok (.sipush 2560, 3) := by decide +kernel
theorem dX8_init_176 : decode cX8_init 176 = .ok (.newarray .int, 2) := by decide +kernel
theorem dX8_init_178 : decode cX8_init 178 = .ok (.putfield 69, 3) := by decide +kernel
theorem dX8_init_181 : decode cX8_init 181 = .ok (.aload_n 0, 1) := by decide +kernel
theorem dX8_init_182 : decode cX8_init 182 = .ok (.sipush 2560, 3) := by decide +kernel
theorem dX8_init_185 : decode cX8_init 185 = .ok (.newarray .boolean, 2) := by decide +kernel
theorem dX8_init_187 : decode cX8_init 187 = .ok (.putfield 72, 3) := by decide +kernel
theorem dX8_init_190 : decode cX8_init 190 = .ok (.aload_n 0, 1) := by decide +kernel
theorem dX8_init_191 : decode cX8_init 191 = .ok (.sipush 2560, 3) := by decide +kernel
theorem dX8_init_194 : decode cX8_init 194 = .ok (.newarray .boolean, 2) := by decide +kernel
theorem dX8_init_196 : decode cX8_init 196 = .ok (.putfield 75, 3) := by decide +kernel
theorem dX8_init_199 : decode cX8_init 199 = .ok (.aload_n 0, 1) := by decide +kernel
theorem dX8_init_200 : decode cX8_init 200 = .ok (.sipush 1280, 3) := by decide +kernel
theorem dX8_init_203 : decode cX8_init 203 = .ok (.newarray .int, 2) := by decide +kernel
theorem dX8_init_205 : decode cX8_init 205 = .ok (.putfield 78, 3) := by decide +kernel
theorem dX8_init_208 : decode cX8_init 208 = .ok (.aload_n 0, 1) := by decide +kernel
theorem dX8_init_209 : decode cX8_init 209 = .ok (.sipush 1280, 3) := by decide +kernel
theorem dX8_init_212 : decode cX8_init 212 = .ok (.newarray .int, 2) := by decide +kernel
theorem dX8_init_214 : decode cX8_init 214 = .ok (.putfield 81, 3) := by decide +kernel
theorem dX8_init_217 : decode cX8_init 217 = .ok (.aload_n 0, 1) := by decide +kernel
theorem dX8_init_218 : decode cX8_init 218 = .ok (.sipush 1280, 3) := by decide +kernel
theorem dX8_init_221 : decode cX8_init 221 = .ok (.newarray .int, 2) := by decide +kernel
theorem dX8_init_223 : decode cX8_init 223 = .ok (.putfield 84, 3) := by decide +kernel
theorem dX8_init_226 : decode cX8_init 226 = .ok (.aload_n 0, 1) := by decide +kernel
theorem dX8_init_227 : decode cX8_init 227 = .ok (.sipush 1280, 3) := by decide +kernel
theorem dX8_init_230 : decode cX8_init 230 = .ok (.newarray .boolean, 2) := by decide +kernel
theorem dX8_init_232 : decode cX8_init 232 = .ok (.putfield 87, 3) := by decide +kernel
theorem dX8_init_235 : decode cX8_init 235 = .ok (.aload_n 0, 1) := by decide +kernel
theorem dX8_init_236 : decode cX8_init 236 = .ok (.sipush 1280, 3) := by decide +kernel
theorem dX8_init_239 : decode cX8_init 239 = .ok (.newarray .boolean, 2) := by decide +kernel
theorem dX8_init_241 : decode cX8_init 241 = .ok (.putfield 90, 3) := by decide +kernel
theorem dX8_init_244 : decode cX8_init 244 = .ok (.aload_n 0, 1) := by decide +kernel
theorem dX8_init_245 : decode cX8_init 245 = .ok (.sipush 1280, 3) := by decide +kernel
theorem dX8_init_248 : decode cX8_init 248 = .ok (.newarray .int, 2) := by decide +kernel
theorem dX8_init_250 : decode cX8_init 250 = .ok (.putfield 93, 3) := by decide +kernel
theorem dX8_init_253 : decode cX8_init 253 = .ok (.aload_n 0, 1) := by decide +kernel
theorem dX8_init_254 : decode cX8_init 254 = .ok (.sipush 1280, 3) := by decide +kernel
theorem dX8_init_257 : decode cX8_init 257 = .ok (.newarray .boolean, 2) := by decide +kernel
theorem dX8_init_259 : decode cX8_init 259 = .ok (.putfield 96, 3) := by decide +kernel
theorem dX8_init_262 : decode cX8_init 262 = .ok (.iconst 0, 1) := by decide +kernel
theorem dX8_init_263 : decode cX8_init 263 = .ok (.istore_n 1, 1) := by decide +kernel
theorem dX8_init_264 : decode cX8_init 264 = .ok (.iload_n 1, 1) := by decide +kernel
theorem dX8_init_265 : decode cX8_init 265 = .ok (.iconst 4, 1) := by decide +kernel
theorem dX8_init_266 : decode cX8_init 266 = .ok (.if_icmp .ge 18, 3) := by decide +kernel
theorem dX8_init_269 : decode cX8_init 269 = .ok (.aload_n 0, 1) := by decide +kernel
theorem dX8_init_270 : decode cX8_init 270 = .ok (.getfield 7, 3) := by decide +kernel
theorem dX8_init_273 : decode cX8_init 273 = .ok (.iload_n 1, 1) := by decide +kernel
theorem dX8_init_274 : decode cX8_init 274 = .ok (.sipush 1000, 3) := by decide +kernel
theorem dX8_init_277 : decode cX8_init 277 = .ok (.iastore, 1) := by decide +kernel
theorem dX8_init_278 : decode cX8_init 278 = .ok (.iinc 1 1, 3) := by decide +kernel
theorem dX8_init_281 : decode cX8_init 281 = .ok (.goto (-17), 3) := by decide +kernel
theorem dX8_init_284 : decode cX8_init 284 = .ok (.return_, 1) := by decide +kernel
theorem dX8_in_0 : decode cX8_in 0 = .ok (.iload_n 0, 1) := by decide +kernel
theorem dX8_in_1 : decode cX8_in 1 = .ok (.iload_n 1, 1) := by decide +kernel
theorem dX8_in_2 : decode cX8_in 2 = .ok (.if_icmp .lt 12, 3) := by decide +kernel
theorem dX8_in_5 : decode cX8_in 5 = .ok (.iload_n 0, 1) := by decide +kernel
theorem dX8_in_6 : decode cX8_in 6 = .ok (.iload_n 2, 1) := by decide +kernel
theorem dX8_in_7 : decode cX8_in 7 = .ok (.if_icmp .gt 7, 3) := by decide +kernel
theorem dX8_in_10 : decode cX8_in 10 = .ok (.iconst 1, 1) := by decide +kernel
theorem dX8_in_11 : decode cX8_in 11 = .ok (.goto 4, 3) := by decide +kernel
theorem dX8_in_14 : decode cX8_in 14 = .ok (.iconst 0, 1) := by decide +kernel
theorem dX8_in_15 : decode cX8_in 15 = .ok (.ireturn, 1) := by decide +kernel
set_option maxRecDepth 20000 in
theorem ggX8_isGrid_X8_in : GoodIn wsX8_isGrid wsX8_in := goodIn_r _ [4] (by decide +kernel) (by decide +kernel)
set_option maxRecDepth 20000 in
theorem gX8_isGrid_X8_in : GoodIn wsX8_isGrid (va_wsS RX8 99 yX8_in wsX8_in) := goodIn_app (goodIn_of _ (by decide +kernel)) ggX8_isGrid_X8_in
theorem dX8_isGrid_0 : decode cX8_isGrid 0 = .ok (.iload_n 0, 1) := by decide +kernel
theorem dX8_isGrid_1 : decode cX8_isGrid 1 = .ok (.iconst 0, 1) := by decide +kernel
theorem dX8_isGrid_2 : decode cX8_isGrid 2 = .ok (.iconst 3, 1) := by decide +kernel
theorem dX8_isGrid_3 : decode cX8_isGrid 3 = .ok (.invokestatic 99, 3) := by decide +kernel
theorem dX8_isGrid_6 : decode cX8_isGrid 6 = .ok (.ireturn, 1) := by decide +kernel
set_option maxRecDepth 20000 in
theorem ggX8_spacing_X8_isGrid : GoodIn wsX8_spacing wsX8_isGrid := goodIn_r _ [6, 7, 8, 5, 9] (by decide +kernel) (by decide +kernel)
set_option maxRecDepth 20000 in
theorem gX8_spacing_X8_isGrid : GoodIn wsX8_spacing (va_wsS RX8 103 yX8_isGrid wsX8_isGrid) := goodIn_app (goodIn_of _ (by decide +kernel)) ggX8_spacing_X8_isGrid
set_option maxRecDepth 20000 in
theorem ggX8_spacing_X8_in : GoodIn wsX8_spacing wsX8_in := goodIn_r _ [9] (by decide +kernel) (by decide +kernel)
set_option maxRecDepth 20000 in
theorem gX8_spacing_X8_in : GoodIn wsX8_spacing (va_wsS RX8 99 yX8_in wsX8_in) := goodIn_app (goodIn_of _ (by decide +kernel)) ggX8_spacing_X8_in
theorem dX8_spacing_0 : decode cX8_spacing 0 = .ok (.iload_n 1, 1) := by decide +kernel
theorem dX8_spacing_1 : decode cX8_spacing 1 = .ok (.invokestatic 103, 3) := by decide +kernel
theorem dX8_spacing_4 : decode cX8_spacing 4 = .ok (.ifCond .eq 13, 3) := by decide +kernel
theorem dX8_spacing_7 : decode cX8_spacing 7 = .ok (.iload_n 2, 1) := by decide +kernel
theorem dX8_spacing_8 : decode cX8_spacing 8 = .ok (.iconst 1, 1) := by decide +kernel
theorem dX8_spacing_9 : decode cX8_spacing 9 = .ok (.ldc 107, 2) := by decide +kernel
theorem dX8_spacing_11 : decode cX8_spacing 11 = .ok (.invokestatic 99, 3) := by decide +kernel
theorem dX8_spacing_14 : decode cX8_spacing 14 = .ok (.ifCond .ne 5, 3) := by decide +kernel
theorem dX8_spacing_17 : decode cX8_spacing 17 = .ok (.iconst 0, 1) := by decide +kernel
theorem dX8_spacing_18 : decode cX8_spacing 18 = .ok (.ireturn, 1) := by decide +kernel
theorem dX8_spacing_19 : decode cX8_spacing 19 = .ok (.aload_n 0, 1) := by decide +kernel
theorem dX8_spacing_20 : decode cX8_spacing 20 = .ok (.getfield 7, 3) := by decide +kernel
theorem dX8_spacing_23 : decode cX8_spacing 23 = .ok (.iload_n 1, 1) := by decide +kernel
theorem dX8_spacing_24 : decode cX8_spacing 24 = .ok (.iload_n 2, 1) := by decide +kernel
theorem dX8_spacing_25 : decode cX8_spacing 25 = .ok (.iastore, 1) := by decide +kernel
theorem dX8_spacing_26 : decode cX8_spacing 26 = .ok (.iconst 1, 1) := by decide +kernel
theorem dX8_spacing_27 : decode cX8_spacing 27 = .ok (.ireturn, 1) := by decide +kernel
set_option maxRecDepth 20000 in
theorem ggX8_row_X8_isGrid : GoodIn wsX8_row wsX8_isGrid := goodIn_r _ [7, 8, 9, 6, 10] (by decide +kernel) (by decide +kernel)
set_option maxRecDepth 20000 in
theorem gX8_row_X8_isGrid : GoodIn wsX8_row (va_wsS RX8 103 yX8_isGrid wsX8_isGrid) := goodIn_app (goodIn_of _ (by decide +kernel)) ggX8_row_X8_isGrid
set_option maxRecDepth 20000 in
theorem ggX8_row_X8_in : GoodIn wsX8_row wsX8_in := goodIn_r _ [10] (by decide +kernel) (by decide +kernel)
set_option maxRecDepth 20000 in
theorem gX8_row_X8_in : GoodIn wsX8_row (va_wsS RX8 99 yX8_in wsX8_in) := goodIn_app (goodIn_of _ (by decide +kernel)) ggX8_row_X8_in
theorem dX8_row_0 : decode cX8_row 0 = .ok (.iload_n 1, 1) := by decide +kernel
theorem dX8_row_1 : decode cX8_row 1 = .ok (.invokestatic 103, 3) := by decide +kernel
theorem dX8_row_4 : decode cX8_row 4 = .ok (.ifCond .eq 37, 3) := by decide +kernel
theorem dX8_row_7 : decode cX8_row 7 = .ok (.iload_n 2, 1) := by decide +kernel
theorem dX8_row_8 : decode cX8_row 8 = .ok (.iconst 0, 1) := by decide +kernel
theorem dX8_row_9 : decode cX8_row 9 = .ok (.bipush 31, 2) := by decide +kernel
theorem dX8_row_11 : decode cX8_row 11 = .ok (.invokestatic 99, 3) := by decide +kernel
theorem dX8_row_14 : decode cX8_row 14 = .ok (.ifCond .eq 27, 3) := by decide +kernel
theorem dX8_row_17 : decode cX8_row 17 = .ok (.iload 4, 2) := by decide +kernel
theorem dX8_row_19 : decode cX8_row 19 = .ok (.iconst 0, 1) := by decide +kernel
theorem dX8_row_20 : decode cX8_row 20 = .ok (.bipush 39, 2) := by decide +kernel
theorem dX8_row_22 : decode cX8_row 22 = .ok (.invokestatic 99, 3) := by decide +kernel
theorem dX8_row_25 : decode cX8_row 25 = .ok (.ifCond .eq 16, 3) := by decide +kernel
theorem dX8_row_28 : decode cX8_row 28 = .ok (.iload_n 3, 1) := by decide +kernel
theorem dX8_row_29 : decode cX8_row 29 = .ok (.iconst 0, 1) := by decide +kernel
theorem dX8_row_30 : decode cX8_row 30 = .ok (.bipush 40, 2) := by decide +kernel
theorem dX8_row_32 : decode cX8_row 32 = .ok (.iload 4, 2) := by decide +kernel
theorem dX8_row_34 : decode cX8_row 34 = .ok (.isub, 1) := by decide +kernel
theorem dX8_row_35 : decode cX8_row 35 = .ok (.invokestatic 99, 3) := by decide +kernel
theorem dX8_row_38 : decode cX8_row 38 = .ok (.ifCond .ne 5, 3) := by decide +kernel
theorem dX8_row_41 : decode cX8_row 41 = .ok (.iconst 0, 1) := by decide +kernel
theorem dX8_row_42 : decode cX8_row 42 = .ok (.ireturn, 1) := by decide +kernel
theorem dX8_row_43 : decode cX8_row 43 = .ok (.aload_n 0, 1) := by decide +kernel
theorem dX8_row_44 : decode cX8_row 44 = .ok (.getfield 13, 3) := by decide +kernel
theorem dX8_row_47 : decode cX8_row 47 = .ok (.bipush 32, 2) := by decide +kernel
theorem dX8_row_49 : decode cX8_row 49 = .ok (.iload_n 1, 1) := by decide +kernel
theorem dX8_row_50 : decode cX8_row 50 = .ok (.imul, 1) := by decide +kernel
theorem dX8_row_51 : decode cX8_row 51 = .ok (.iload_n 2, 1) := by decide +kernel
theorem dX8_row_52 : decode cX8_row 52 = .ok (.iadd, 1) := by decide +kernel
theorem dX8_row_53 : decode cX8_row 53 = .ok (.iload 4, 2) := by decide +kernel
theorem dX8_row_55 : decode cX8_row 55 = .ok (.iastore, 1) := by decide +kernel
theorem dX8_row_56 : decode cX8_row 56 = .ok (.aload_n 0, 1) := by decide +kernel
theorem dX8_row_57 : decode cX8_row 57 = .ok (.getfield 16, 3) := by decide +kernel
theorem dX8_row_60 : decode cX8_row 60 = .ok (.bipush 32, 2) := by decide +kernel
theorem dX8_row_62 : decode cX8_row 62 = .ok (.iload_n 1, 1) := by decide +kernel
theorem dX8_row_63 : decode cX8_row 63 = .ok (.imul, 1) := by decide +kernel
theorem dX8_row_64 : decode cX8_row 64 = .ok (.iload_n 2, 1) := by decide +kernel
theorem dX8_row_65 : decode cX8_row 65 = .ok (.iadd, 1) := by decide +kernel
theorem dX8_row_66 : decode cX8_row 66 = .ok (.iload_n 3, 1) := by decide +kernel
theorem dX8_row_67 : decode cX8_row 67 = .ok (.iastore, 1) := by decide +kernel
theorem dX8_row_68 : decode cX8_row 68 = .ok (.iconst 0, 1) := by decide +kernel
theorem dX8_row_69 : decode cX8_row 69 = .ok (.istore 5, 2) := by decide +kernel
theorem dX8_row_71 : decode cX8_row 71 = .ok (.iload 5, 2) := by decide +kernel
theorem dX8_row_73 : decode cX8_row 73 = .ok (.bipush 40, 2) := by decide +kernel
theorem dX8_row_75 : decode cX8_row 75 = .ok (.if_icmp .ge 28, 3) := by decide +kernel
theorem dX8_row_78 : decode cX8_row 78 = .ok (.aload_n 0, 1) := by decide +kernel
theorem dX8_row_79 : decode cX8_row 79 = .ok (.getfield 22, 3) := by decide +kernel
theorem dX8_row_82 : decode cX8_row 82 = .ok (.sipush 1280, 3) := by decide +kernel
theorem dX8_row_85 : decode cX8_row 85 = .ok (.iload_n 1, 1) := by decide +kernel
theorem dX8_row_86 : decode cX8_row 86 = .ok (.imul, 1) := by decide +kernel
theorem dX8_row_87 : decode cX8_row 87 = .ok (.bipush 40, 2) := by decide +kernel
theorem dX8_row_89 : decode cX8_row 89 = .ok (.iload_n 2, 1) := by decide +kernel
theorem dX8_row_90 : decode cX8_row 90 = .ok (.imul, 1) := by decide +kernel
theorem dX8_row_91 : decode cX8_row 91 = .ok (.iadd, 1) := by decide +kernel
theorem dX8_row_92 : decode cX8_row 92 = .ok (.iload 5, 2) := by decide +kernel
theorem dX8_row_94 : decode cX8_row 94 = .ok (.iadd, 1) := by decide +kernel
theorem dX8_row_95 : decode cX8_row 95 = .ok (.iconst 0, 1) := by decide +kernel
theorem dX8_row_96 : decode cX8_row 96 = .ok (.bastore, 1) := by decide +kernel
theorem dX8_row_97 : decode cX8_row 97 = .ok (.iinc 5 1, 3) := by decide +kernel
theorem dX8_row_100 : decode cX8_row 100 = .ok (.goto (-29), 3) := by decide +kernel
theorem dX8_row_103 : decode cX8_row 103 = .ok (.iconst 1, 1) := by decide +kernel
theorem dX8_row_104 : decode cX8_row 104 = .ok (.ireturn, 1) := by decide +kernel
set_option maxRecDepth 20000 in
theorem ggX8_isOf_X8_isGrid : GoodIn wsX8_isOf wsX8_isGrid := goodIn_r _ [6, 7, 8, 5, 9] (by decide +kernel) (by decide +kernel)
set_option maxRecDepth 20000 in
theorem gX8_isOf_X8_isGrid : GoodIn wsX8_isOf (va_wsS RX8 103 yX8_isGrid wsX8_isGrid) := goodIn_app (goodIn_of _ (by decide +kernel)) ggX8_isOf_X8_isGrid
set_option maxRecDepth 20000 in
theorem ggX8_isOf_X8_in : GoodIn wsX8_isOf wsX8_in := goodIn_r _ [9] (by decide +kernel) (by decide +kernel)
set_option maxRecDepth 20000 in
theorem gX8_isOf_X8_in : GoodIn wsX8_isOf (va_wsS RX8 99 yX8_in wsX8_in) := goodIn_app (goodIn_of _ (by decide +kernel)) ggX8_isOf_X8_in
theorem dX8_isOf_0 : decode cX8_isOf 0 = .ok (.iload_n 1, 1) := by decide +kernel
theorem dX8_isOf_1 : decode cX8_isOf 1 = .ok (.invokestatic 103, 3) := by decide +kernel
theorem dX8_isOf_4 : decode cX8_isOf 4 = .ok (.ifCond .eq 50, 3) := by decide +kernel
theorem dX8_isOf_7 : decode cX8_isOf 7 = .ok (.iload_n 2, 1) := by decide +kernel
theorem dX8_isOf_8 : decode cX8_isOf 8 = .ok (.iconst 0, 1) := by decide +kernel
theorem dX8_isOf_9 : decode cX8_isOf 9 = .ok (.bipush 31, 2) := by decide +kernel
theorem dX8_isOf_11 : decode cX8_isOf 11 = .ok (.invokestatic 99, 3) := by decide +kernel
theorem dX8_isOf_14 : decode cX8_isOf 14 = .ok (.ifCond .eq 40, 3) := by decide +kernel
theorem dX8_isOf_17 : decode cX8_isOf 17 = .ok (.iload_n 3, 1) := by decide +kernel
theorem dX8_isOf_18 : decode cX8_isOf 18 = .ok (.aload_n 0, 1) := by decide +kernel
theorem dX8_isOf_19 : decode cX8_isOf 19 = .ok (.getfield 13, 3) := by decide +kernel
theorem dX8_isOf_22 : decode cX8_isOf 22 = .ok (.bipush 32, 2) := by decide +kernel
theorem dX8_isOf_24 : decode cX8_isOf 24 = .ok (.iload_n 1, 1) := by decide +kernel
theorem dX8_isOf_25 : decode cX8_isOf 25 = .ok (.imul, 1) := by decide +kernel
theorem dX8_isOf_26 : decode cX8_isOf 26 = .ok (.iload_n 2, 1) := by decide +kernel
theorem dX8_isOf_27 : decode cX8_isOf 27 = .ok (.iadd, 1) := by decide +kernel
theorem dX8_isOf_28 : decode cX8_isOf 28 = .ok (.iaload, 1) := by decide +kernel
theorem dX8_isOf_29 : decode cX8_isOf 29 = .ok (.isub, 1) := by decide +kernel
theorem dX8_isOf_30 : decode cX8_isOf 30 = .ok (.iconst 0, 1) := by decide +kernel
theorem dX8_isOf_31 : decode cX8_isOf 31 = .ok (.aload_n 0, 1) := by decide +kernel
theorem dX8_isOf_32 : decode cX8_isOf 32 = .ok (.getfield 16, 3) := by decide +kernel
theorem dX8_isOf_35 : decode cX8_isOf 35 = .ok (.bipush 32, 2) := by decide +kernel
theorem dX8_isOf_37 : decode cX8_isOf 37 = .ok (.iload_n 1, 1) := by decide +kernel
theorem dX8_isOf_38 : decode cX8_isOf 38 = .ok (.imul, 1) := by decide +kernel
theorem dX8_isOf_39 : decode cX8_isOf 39 = .ok (.iload_n 2, 1) := by decide +kernel
theorem dX8_isOf_40 : decode cX8_isOf 40 = .ok (.iadd, 1) := by decide +kernel
theorem dX8_isOf_41 : decode cX8_isOf 41 = .ok (.iaload, 1) := by decide +kernel
theorem dX8_isOf_42 : decode cX8_isOf 42 = .ok (.iconst 1, 1) := by decide +kernel
theorem dX8_isOf_43 : decode cX8_isOf 43 = .ok (.isub, 1) := by decide +kernel
theorem dX8_isOf_44 : decode cX8_isOf 44 = .ok (.invokestatic 99, 3) := by decide +kernel
theorem dX8_isOf_47 : decode cX8_isOf 47 = .ok (.ifCond .eq 7, 3) := by decide +kernel
theorem dX8_isOf_50 : decode cX8_isOf 50 = .ok (.iconst 1, 1) := by decide +kernel
theorem dX8_isOf_51 : decode cX8_isOf 51 = .ok (.goto 4, 3) := by decide +kernel
theorem dX8_isOf_54 : decode cX8_isOf 54 = .ok (.iconst 0, 1) := by decide +kernel
theorem dX8_isOf_55 : decode cX8_isOf 55 = .ok (.ireturn, 1) := by decide +kernel
set_option maxRecDepth 20000 in
theorem ggX8_has_X8_in : GoodIn wsX8_has wsX8_in := goodIn_r _ [5] (by decide +kernel) (by decide +kernel)
set_option maxRecDepth 20000 in
theorem gX8_has_X8_in : GoodIn wsX8_has (va_wsS RX8 99 yX8_in wsX8_in) := goodIn_app (goodIn_of _ (by decide +kernel)) ggX8_has_X8_in
theorem dX8_has_0 : decode cX8_has 0 = .ok (.iload_n 2, 1) := by decide +kernel
theorem dX8_has_1 : decode cX8_has 1 = .ok (.iconst 0, 1) := by decide +kernel
theorem dX8_has_2 : decode cX8_has 2 = .ok (.bipush 31, 2) := by decide +kernel
theorem dX8_has_4 : decode cX8_has 4 = .ok (.invokestatic 99, 3) := by decide +kernel
theorem dX8_has_7 : decode cX8_has 7 = .ok (.ifCond .eq 37, 3) := by decide +kernel
theorem dX8_has_10 : decode cX8_has 10 = .ok (.iload_n 3, 1) := by decide +kernel
theorem dX8_has_11 : decode cX8_has 11 = .ok (.iconst 0, 1) := by decide +kernel
theorem dX8_has_12 : decode cX8_has 12 = .ok (.bipush 39, 2) := by decide +kernel
theorem dX8_has_14 : decode cX8_has 14 = .ok (.invokestatic 99, 3) := by decide +kernel
theorem dX8_has_17 : decode cX8_has 17 = .ok (.ifCond .eq 27, 3) := by decide +kernel
theorem dX8_has_20 : decode cX8_has 20 = .ok (.aload_n 0, 1) := by decide +kernel
theorem dX8_has_21 : decode cX8_has 21 = .ok (.getfield 22, 3) := by decide +kernel
theorem dX8_has_24 : decode cX8_has 24 = .ok (.sipush 1280, 3) := by decide +kernel
theorem dX8_has_27 : decode cX8_has 27 = .ok (.iload_n 1, 1) := by decide +kernel
theorem dX8_has_28 : decode cX8_has 28 = .ok (.imul, 1) := by decide +kernel
theorem dX8_has_29 : decode cX8_has 29 = .ok (.bipush 40, 2) := by decide +kernel
theorem dX8_has_31 : decode cX8_has 31 = .ok (.iload_n 2, 1) := by decide +kernel
theorem dX8_has_32 : decode cX8_has 32 = .ok (.imul, 1) := by decide +kernel
theorem dX8_has_33 : decode cX8_has 33 = .ok (.iadd, 1) := by decide +kernel
theorem dX8_has_34 : decode cX8_has 34 = .ok (.iload_n 3, 1) := by decide +kernel
theorem dX8_has_35 : decode cX8_has 35 = .ok (.iadd, 1) := by decide +kernel
theorem dX8_has_36 : decode cX8_has 36 = .ok (.baload, 1) := by decide +kernel
theorem dX8_has_37 : decode cX8_has 37 = .ok (.ifCond .eq 7, 3) := by decide +kernel
theorem dX8_has_40 : decode cX8_has 40 = .ok (.iconst 1, 1) := by decide +kernel
theorem dX8_has_41 : decode cX8_has 41 = .ok (.goto 4, 3) := by decide +kernel
theorem dX8_has_44 : decode cX8_has 44 = .ok (.iconst 0, 1) := by decide +kernel
theorem dX8_has_45 : decode cX8_has 45 = .ok (.ireturn, 1) := by decide +kernel
theorem dX8_h_0 : decode cX8_h 0 = .ok (.aload_n 0, 1) := by decide +kernel
theorem dX8_h_1 : decode cX8_h 1 = .ok (.getfield 19, 3) := by decide +kernel
theorem dX8_h_4 : decode cX8_h 4 = .ok (.sipush 1280, 3) := by decide +kernel
theorem dX8_h_7 : decode cX8_h 7 = .ok (.iload_n 1, 1) := by decide +kernel
theorem dX8_h_8 : decode cX8_h 8 = .ok (.imul, 1) := by decide +kernel
theorem dX8_h_9 : decode cX8_h 9 = .ok (.bipush 40, 2) := by decide +kernel
theorem dX8_h_11 : decode cX8_h 11 = .ok (.iload_n 2, 1) := by decide +kernel
theorem dX8_h_12 : decode cX8_h 12 = .ok (.imul, 1) := by decide +kernel
theorem dX8_h_13 : decode cX8_h 13 = .ok (.iadd, 1) := by decide +kernel
theorem dX8_h_14 : decode cX8_h 14 = .ok (.iload_n 3, 1) := by decide +kernel
theorem dX8_h_15 : decode cX8_h 15 = .ok (.iadd, 1) := by decide +kernel
theorem dX8_h_16 : decode cX8_h 16 = .ok (.iaload, 1) := by decide +kernel
theorem dX8_h_17 : decode cX8_h 17 = .ok (.ireturn, 1) := by decide +kernel
set_option maxRecDepth 20000 in
theorem ggX8_height_X8_isOf : GoodIn wsX8_height wsX8_isOf := goodIn_r _ [18, 19, 20, 21, 22, 17, 23, 24, 25, 26, 27, 28, 29, 30, 31, 32, 33, 34, 35, 36, 37, 38, 39, 40, 41, 42, 43, 44, 45, 46, 47, 48, 49, 50, 51, 52, 53, 54, 55, 56, 57, 58, 59] (by decide +kernel) (by decide +kernel)
set_option maxRecDepth 20000 in
theorem gX8_height_X8_isOf : GoodIn wsX8_height (wsV RX8 121 RX8 yX8_isOf wsX8_isOf) := goodIn_app (goodIn_of _ (by decide +kernel)) ggX8_height_X8_isOf
theorem dX8_height_0 : decode cX8_height 0 = .ok (.iload 4, 2) := by decide +kernel
theorem dX8_height_2 : decode cX8_height 2 = .ok (.ldc 108, 2) := by decide +kernel
theorem dX8_height_4 : decode cX8_height 4 = .ok (.iand, 1) := by decide +kernel
theorem dX8_height_5 : decode cX8_height 5 = .ok (.ldc 109, 2) := by decide +kernel
theorem dX8_height_7 : decode cX8_height 7 = .ok (.if_icmp .le 8, 3) := by decide +kernel
theorem dX8_height_10 : decode cX8_height 10 = .ok (.ldc 110, 2) := by decide +kernel
theorem dX8_height_12 : decode cX8_height 12 = .ok (.goto 5, 3) := by decide +kernel
theorem dX8_height_15 : decode cX8_height 15 = .ok (.iload 4, 2) := by decide +kernel
theorem dX8_height_17 : decode cX8_height 17 = .ok (.invokestatic 111, 3) := by decide +kernel
theorem dX8_height_20 : decode cX8_height 20 = .ok (.fstore 5, 2) := by decide +kernel
theorem dX8_height_22 : decode cX8_height 22 = .ok (.fload 5, 2) := by decide +kernel
theorem dX8_height_24 : decode cX8_height 24 = .ok (.ldc 117, 2) := by decide +kernel
theorem dX8_height_26 : decode cX8_height 26 = .ok (.fcmp .l, 1) := by decide +kernel
theorem dX8_height_27 : decode cX8_height 27 = .ok (.ifCond .lt 15, 3) := by decide +kernel
theorem dX8_height_30 : decode cX8_height 30 = .ok (.fload 5, 2) := by decide +kernel
theorem dX8_height_32 : decode cX8_height 32 = .ok (.ldc 118, 2) := by decide +kernel
theorem dX8_height_34 : decode cX8_height 34 = .ok (.fcmp .g, 1) := by decide +kernel
theorem dX8_height_35 : decode cX8_height 35 = .ok (.ifCond .gt 7, 3) := by decide +kernel
theorem dX8_height_38 : decode cX8_height 38 = .ok (.iconst 1, 1) := by decide +kernel
theorem dX8_height_39 : decode cX8_height 39 = .ok (.goto 4, 3) := by decide +kernel
theorem dX8_height_42 : decode cX8_height 42 = .ok (.iconst 0, 1) := by decide +kernel
theorem dX8_height_43 : decode cX8_height 43 = .ok (.istore 6, 2) := by decide +kernel
theorem dX8_height_45 : decode cX8_height 45 = .ok (.iload 6, 2) := by decide +kernel
theorem dX8_height_47 : decode cX8_height 47 = .ok (.ifCond .eq 11, 3) := by decide +kernel
theorem dX8_height_50 : decode cX8_height 50 = .ok (.fload 5, 2) := by decide +kernel
theorem dX8_height_52 : decode cX8_height 52 = .ok (.ldc 119, 2) := by decide +kernel
theorem dX8_height_54 : decode cX8_height 54 = .ok (.fmul, 1) := by decide +kernel
theorem dX8_height_55 : decode cX8_height 55 = .ok (.goto 5, 3) := by decide +kernel
theorem dX8_height_58 : decode cX8_height 58 = .ok (.ldc 120, 2) := by decide +kernel
theorem dX8_height_60 : decode cX8_height 60 = .ok (.fstore 7, 2) := by decide +kernel
theorem dX8_height_62 : decode cX8_height 62 = .ok (.aload_n 0, 1) := by decide +kernel
theorem dX8_height_63 : decode cX8_height 63 = .ok (.iload_n 1, 1) := by decide +kernel
theorem dX8_height_64 : decode cX8_height 64 = .ok (.iload_n 2, 1) := by decide +kernel
theorem dX8_height_65 : decode cX8_height 65 = .ok (.iload_n 3, 1) := by decide +kernel
theorem dX8_height_66 : decode cX8_height 66 = .ok (.invokevirtual 121, 3) := by decide +kernel
theorem dX8_height_69 : decode cX8_height 69 = .ok (.ifCond .eq 13, 3) := by decide +kernel
theorem dX8_height_72 : decode cX8_height 72 = .ok (.fload 7, 2) := by decide +kernel
theorem dX8_height_74 : decode cX8_height 74 = .ok (.fload 7, 2) := by decide +kernel
theorem dX8_height_76 : decode cX8_height 76 = .ok (.f2i, 1) := by decide +kernel
theorem dX8_height_77 : decode cX8_height 77 = .ok (.i2f, 1) := by decide +kernel
theorem dX8_height_78 : decode cX8_height 78 = .ok (.fcmp .l, 1) := by decide +kernel
theorem dX8_height_79 : decode cX8_height 79 = .ok (.ifCond .eq 5, 3) := by decide +kernel
theorem dX8_height_82 : decode cX8_height 82 = .ok (.iconst 0, 1) := by decide +kernel
theorem dX8_height_83 : decode cX8_height 83 = .ok (.ireturn, 1) := by decide +kernel
theorem dX8_height_84 : decode cX8_height 84 = .ok (.aload_n 0, 1) := by decide +kernel
theorem dX8_height_85 : decode cX8_height 85 = .ok (.getfield 19, 3) := by decide +kernel
theorem dX8_height_88 : decode cX8_height 88 = .ok (.sipush 1280, 3) := by decide +kernel
theorem dX8_height_91 : decode cX8_height 91 = .ok (.iload_n 1, 1) := by decide +kernel
theorem dX8_height_92 : decode cX8_height 92 = .ok (.imul, 1) := by decide +kernel
theorem dX8_height_93 : decode cX8_height 93 = .ok (.bipush 40, 2) := by decide +kernel
theorem dX8_height_95 : decode cX8_height 95 = .ok (.iload_n 2, 1) := by decide +kernel
theorem dX8_height_96 : decode cX8_height 96 = .ok (.imul, 1) := by decide +kernel
theorem dX8_height_97 : decode cX8_height 97 = .ok (.iadd, 1) := by decide +kernel
theorem dX8_height_98 : decode cX8_height 98 = .ok (.iload_n 3, 1) := by decide +kernel
theorem dX8_height_99 : decode cX8_height 99 = .ok (.iadd, 1) := by decide +kernel
theorem dX8_height_100 : decode cX8_height 100 = .ok (.fload 7, 2) := by decide +kernel
theorem dX8_height_102 : decode cX8_height 102 = .ok (.f2i, 1) := by decide +kernel
theorem dX8_height_103 : decode cX8_height 103 = .ok (.iastore, 1) := by decide +kernel
theorem dX8_height_104 : decode cX8_height 104 = .ok (.aload_n 0, 1) := by decide +kernel
theorem dX8_height_105 : decode cX8_height 105 = .ok (.getfield 22, 3) := by decide +kernel
theorem dX8_height_108 : decode cX8_height 108 = .ok (.sipush 1280, 3) := by decide +kernel
theorem dX8_height_111 : decode cX8_height 111 = .ok (.iload_n 1, 1) := by decide +kernel
theorem dX8_height_112 : decode cX8_height 112 = .ok (.imul, 1) := by decide +kernel
theorem dX8_height_113 : decode cX8_height 113 = .ok (.bipush 40, 2) := by decide +kernel
theorem dX8_height_115 : decode cX8_height 115 = .ok (.iload_n 2, 1) := by decide +kernel
theorem dX8_height_116 : decode cX8_height 116 = .ok (.imul, 1) := by decide +kernel
theorem dX8_height_117 : decode cX8_height 117 = .ok (.iadd, 1) := by decide +kernel
theorem dX8_height_118 : decode cX8_height 118 = .ok (.iload_n 3, 1) := by decide +kernel
theorem dX8_height_119 : decode cX8_height 119 = .ok (.iadd, 1) := by decide +kernel
theorem dX8_height_120 : decode cX8_height 120 = .ok (.iconst 1, 1) := by decide +kernel
theorem dX8_height_121 : decode cX8_height 121 = .ok (.bastore, 1) := by decide +kernel
theorem dX8_height_122 : decode cX8_height 122 = .ok (.iconst 1, 1) := by decide +kernel
theorem dX8_height_123 : decode cX8_height 123 = .ok (.ireturn, 1) := by decide +kernel
set_option maxRecDepth 20000 in
theorem ggX8_missing_X8_isGrid : GoodIn wsX8_missing wsX8_isGrid := goodIn_r _ [5, 6, 7, 4, 8] (by decide +kernel) (by decide +kernel)
set_option maxRecDepth 20000 in
theorem gX8_missing_X8_isGrid : GoodIn wsX8_missing (va_wsS RX8 103 yX8_isGrid wsX8_isGrid) := goodIn_app (goodIn_of _ (by decide +kernel)) ggX8_missing_X8_isGrid
set_option maxRecDepth 20000 in
theorem ggX8_missing_X8_has : GoodIn wsX8_missing wsX8_has := goodIn_r _ [12, 1, 6, 7, 4, 8, 13, 14, 15, 16, 17, 18, 19, 20, 21, 22, 23, 24, 25, 26, 27, 28, 29, 30, 31, 32, 33, 34, 35, 36, 37, 38, 39, 40, 41, 42, 43, 44, 45] (by decide +kernel) (by decide +kernel)
set_option maxRecDepth 20000 in
theorem gX8_missing_X8_has : GoodIn wsX8_missing (wsV RX8 124 RX8 yX8_has wsX8_has) := goodIn_app (goodIn_of _ (by decide +kernel)) ggX8_missing_X8_has
theorem dX8_missing_0 : decode cX8_missing 0 = .ok (.iload_n 1, 1) := by decide +kernel
theorem dX8_missing_1 : decode cX8_missing 1 = .ok (.invokestatic 103, 3) := by decide +kernel
theorem dX8_missing_4 : decode cX8_missing 4 = .ok (.ifCond .eq 13, 3) := by decide +kernel
theorem dX8_missing_7 : decode cX8_missing 7 = .ok (.aload_n 0, 1) := by decide +kernel
theorem dX8_missing_8 : decode cX8_missing 8 = .ok (.iload_n 1, 1) := by decide +kernel
theorem dX8_missing_9 : decode cX8_missing 9 = .ok (.iload_n 2, 1) := by decide +kernel
theorem dX8_missing_10 : decode cX8_missing 10 = .ok (.iload_n 3, 1) := by decide +kernel
theorem dX8_missing_11 : decode cX8_missing 11 = .ok (.invokevirtual 124, 3) := by decide +kernel
theorem dX8_missing_14 : decode cX8_missing 14 = .ok (.ifCond .ne 5, 3) := by decide +kernel
theorem dX8_missing_17 : decode cX8_missing 17 = .ok (.iconst 0, 1) := by decide +kernel
theorem dX8_missing_18 : decode cX8_missing 18 = .ok (.ireturn, 1) := by decide +kernel
theorem dX8_missing_19 : decode cX8_missing 19 = .ok (.aload_n 0, 1) := by decide +kernel
theorem dX8_missing_20 : decode cX8_missing 20 = .ok (.getfield 22, 3) := by decide +kernel
theorem dX8_missing_23 : decode cX8_missing 23 = .ok (.sipush 1280, 3) := by decide +kernel
theorem dX8_missing_26 : decode cX8_missing 26 = .ok (.iload_n 1, 1) := by decide +kernel
theorem dX8_missing_27 : decode cX8_missing 27 = .ok (.imul, 1) := by decide +kernel
theorem dX8_missing_28 : decode cX8_missing 28 = .ok (.bipush 40, 2) := by decide +kernel
theorem dX8_missing_30 : decode cX8_missing 30 = .ok (.iload_n 2, 1) := by decide +kernel
theorem dX8_missing_31 : decode cX8_missing 31 = .ok (.imul, 1) := by decide +kernel
theorem dX8_missing_32 : decode cX8_missing 32 = .ok (.iadd, 1) := by decide +kernel
theorem dX8_missing_33 : decode cX8_missing 33 = .ok (.iload_n 3, 1) := by decide +kernel
theorem dX8_missing_34 : decode cX8_missing 34 = .ok (.iadd, 1) := by decide +kernel
theorem dX8_missing_35 : decode cX8_missing 35 = .ok (.iconst 0, 1) := by decide +kernel
theorem dX8_missing_36 : decode cX8_missing 36 = .ok (.bastore, 1) := by decide +kernel
theorem dX8_missing_37 : decode cX8_missing 37 = .ok (.iconst 1, 1) := by decide +kernel
theorem dX8_missing_38 : decode cX8_missing 38 = .ok (.ireturn, 1) := by decide +kernel
set_option maxRecDepth 20000 in
theorem ggX8_at_X8_isGrid : GoodIn wsX8_at wsX8_isGrid := goodIn_r _ [6, 7, 8, 5, 9] (by decide +kernel) (by decide +kernel)
set_option maxRecDepth 20000 in
theorem gX8_at_X8_isGrid : GoodIn wsX8_at (va_wsS RX8 103 yX8_isGrid wsX8_isGrid) := goodIn_app (goodIn_of _ (by decide +kernel)) ggX8_at_X8_isGrid
set_option maxRecDepth 20000 in
theorem ggX8_at_X8_has : GoodIn wsX8_at wsX8_has := goodIn_r _ [13, 14, 7, 8, 5, 9, 32, 33, 34, 35, 36, 37, 38, 39, 40, 41, 42, 43, 44, 45, 46, 47, 48, 49, 50, 51, 52, 53, 54, 55, 56, 57, 58, 59, 60, 61, 62, 63, 64] (by decide +kernel) (by decide +kernel)
set_option maxRecDepth 20000 in
theorem gX8_at_X8_has : GoodIn wsX8_at (wsV RX8 124 RX8 yX8_has wsX8_has) := goodIn_app (goodIn_of _ (by decide +kernel)) ggX8_at_X8_has
set_option maxRecDepth 20000 in
theorem ggX8_at_X8_h : GoodIn wsX8_at wsX8_h := goodIn_r _ [18, 19, 32, 33, 34, 35, 36, 37, 38, 39, 40, 41, 42, 43, 44, 45, 46, 47, 48, 49, 50, 51, 52, 53, 54, 55, 56, 57, 58, 59, 60, 61, 62, 63, 64] (by decide +kernel) (by decide +kernel)
set_option maxRecDepth 20000 in
theorem gX8_at_X8_h : GoodIn wsX8_at (wsV RX8 127 RX8 yX8_h wsX8_h) := goodIn_app (goodIn_of _ (by decide +kernel)) ggX8_at_X8_h
set_option maxRecDepth 20000 in
theorem ggX8_at_Jxf58ca_floatToIntBits_5c35a : GoodIn wsX8_at wsJxf58ca_floatToIntBits_5c35a := goodIn_r _ [23, 24, 25, 26, 27, 28, 29, 30, 22, 31] (by decide +kernel) (by decide +kernel)
set_option maxRecDepth 20000 in
theorem gX8_at_Jxf58ca_floatToIntBits_5c35a : GoodIn wsX8_at (va_wsS RX8 131 yJxf58ca_floatToIntBits_5c35a wsJxf58ca_floatToIntBits_5c35a) := goodIn_app (goodIn_of _ (by decide +kernel)) ggX8_at_Jxf58ca_floatToIntBits_5c35a
theorem dX8_at_0 : decode cX8_at 0 = .ok (.iload_n 1, 1) := by decide +kernel
theorem dX8_at_1 : decode cX8_at 1 = .ok (.invokestatic 103, 3) := by decide +kernel
theorem dX8_at_4 : decode cX8_at 4 = .ok (.ifCond .eq 30, 3) := by decide +kernel
theorem dX8_at_7 : decode cX8_at 7 = .ok (.aload_n 0, 1) := by decide +kernel
theorem dX8_at_8 : decode cX8_at 8 = .ok (.iload_n 1, 1) := by decide +kernel
theorem dX8_at_9 : decode cX8_at 9 = .ok (.iload_n 2, 1) := by decide +kernel
theorem dX8_at_10 : decode cX8_at 10 = .ok (.iload_n 3, 1) := by decide +kernel
theorem dX8_at_11 : decode cX8_at 11 = .ok (.invokevirtual 124, 3) := by decide +kernel
theorem dX8_at_14 : decode cX8_at 14 = .ok (.ifCond .eq 20, 3) := by decide +kernel
theorem dX8_at_17 : decode cX8_at 17 = .ok (.aload_n 0, 1) := by decide +kernel
theorem dX8_at_18 : decode cX8_at 18 = .ok (.iload_n 1, 1) := by decide +kernel
theorem dX8_at_19 : decode cX8_at 19 = .ok (.iload_n 2, 1) := by decide +kernel
theorem dX8_at_20 : decode cX8_at 20 = .ok (.iload_n 3, 1) := by decide +kernel
theorem dX8_at_21 : decode cX8_at 21 = .ok (.invokevirtual 127, 3) := by decide +kernel
theorem dX8_at_24 : decode cX8_at 24 = .ok (.i2f, 1) := by decide +kernel
theorem dX8_at_25 : decode cX8_at 25 = .ok (.ldc 119, 2) := by decide +kernel
theorem dX8_at_27 : decode cX8_at 27 = .ok (.fdiv, 1) := by decide +kernel
theorem dX8_at_28 : decode cX8_at 28 = .ok (.invokestatic 131, 3) := by decide +kernel
theorem dX8_at_31 : decode cX8_at 31 = .ok (.goto 5, 3) := by decide +kernel
theorem dX8_at_34 : decode cX8_at 34 = .ok (.ldc 108, 2) := by decide +kernel
theorem dX8_at_36 : decode cX8_at 36 = .ok (.ireturn, 1) := by decide +kernel
set_option maxRecDepth 20000 in
theorem ggX8_level_X8_in : GoodIn wsX8_level wsX8_in := goodIn_r _ [6] (by decide +kernel) (by decide +kernel)
set_option maxRecDepth 20000 in
theorem gX8_level_X8_in : GoodIn wsX8_level (va_wsS RX8 99 yX8_in wsX8_in) := goodIn_app (goodIn_of _ (by decide +kernel)) ggX8_level_X8_in
theorem dX8_level_0 : decode cX8_level 0 = .ok (.iload_n 1, 1) := by decide +kernel
theorem dX8_level_1 : decode cX8_level 1 = .ok (.sipush (-8192), 3) := by decide +kernel
theorem dX8_level_4 : decode cX8_level 4 = .ok (.sipush 8192, 3) := by decide +kernel
theorem dX8_level_7 : decode cX8_level 7 = .ok (.invokestatic 99, 3) := by decide +kernel
theorem dX8_level_10 : decode cX8_level 10 = .ok (.ifCond .eq 34, 3) := by decide +kernel
theorem dX8_level_13 : decode cX8_level 13 = .ok (.aload_n 0, 1) := by decide +kernel
theorem dX8_level_14 : decode cX8_level 14 = .ok (.getfield 135, 3) := by decide +kernel
theorem dX8_level_17 : decode cX8_level 17 = .ok (.bipush 16, 2) := by decide +kernel
theorem dX8_level_19 : decode cX8_level 19 = .ok (.if_icmp .eq 25, 3) := by decide +kernel
theorem dX8_level_22 : decode cX8_level 22 = .ok (.aload_n 0, 1) := by decide +kernel
theorem dX8_level_23 : decode cX8_level 23 = .ok (.getfield 135, 3) := by decide +kernel
theorem dX8_level_26 : decode cX8_level 26 = .ok (.ifCond .le 20, 3) := by decide +kernel
theorem dX8_level_29 : decode cX8_level 29 = .ok (.iload_n 1, 1) := by decide +kernel
theorem dX8_level_30 : decode cX8_level 30 = .ok (.aload_n 0, 1) := by decide +kernel
theorem dX8_level_31 : decode cX8_level 31 = .ok (.getfield 26, 3) := by decide +kernel
theorem dX8_level_34 : decode cX8_level 34 = .ok (.aload_n 0, 1) := by decide +kernel
theorem dX8_level_35 : decode cX8_level 35 = .ok (.getfield 135, 3) := by decide +kernel
theorem dX8_level_38 : decode cX8_level 38 = .ok (.iconst 1, 1) := by decide +kernel
theorem dX8_level_39 : decode cX8_level 39 = .ok (.isub, 1) := by decide +kernel
theorem dX8_level_40 : decode cX8_level 40 = .ok (.iaload, 1) := by decide +kernel
theorem dX8_level_41 : decode cX8_level 41 = .ok (.if_icmp .gt 5, 3) := by decide +kernel
theorem dX8_level_44 : decode cX8_level 44 = .ok (.iconst (-1), 1) := by decide +kernel
theorem dX8_level_45 : decode cX8_level 45 = .ok (.ireturn, 1) := by decide +kernel
theorem dX8_level_46 : decode cX8_level 46 = .ok (.aload_n 0, 1) := by decide +kernel
theorem dX8_level_47 : decode cX8_level 47 = .ok (.getfield 26, 3) := by decide +kernel
theorem dX8_level_50 : decode cX8_level 50 = .ok (.aload_n 0, 1) := by decide +kernel
theorem dX8_level_51 : decode cX8_level 51 = .ok (.getfield 135, 3) := by decide +kernel
theorem dX8_level_54 : decode cX8_level 54 = .ok (.iload_n 1, 1) := by decide +kernel
theorem dX8_level_55 : decode cX8_level 55 = .ok (.iastore, 1) := by decide +kernel
theorem dX8_level_56 : decode cX8_level 56 = .ok (.aload_n 0, 1) := by decide +kernel
theorem dX8_level_57 : decode cX8_level 57 = .ok (.dup, 1) := by decide +kernel
theorem dX8_level_58 : decode cX8_level 58 = .ok (.getfield 135, 3) := by decide +kernel
theorem dX8_level_61 : decode cX8_level 61 = .ok (.iconst 1, 1) := by decide +kernel
theorem dX8_level_62 : decode cX8_level 62 = .ok (.iadd, 1) := by decide +kernel
theorem dX8_level_63 : decode cX8_level 63 = .ok (.putfield 135, 3) := by decide +kernel
theorem dX8_level_66 : decode cX8_level 66 = .ok (.aload_n 0, 1) := by decide +kernel
theorem dX8_level_67 : decode cX8_level 67 = .ok (.getfield 135, 3) := by decide +kernel
theorem dX8_level_70 : decode cX8_level 70 = .ok (.ireturn, 1) := by decide +kernel
theorem dX8_levels_0 : decode cX8_levels 0 = .ok (.aload_n 0, 1) := by decide +kernel
theorem dX8_levels_1 : decode cX8_levels 1 = .ok (.iconst 0, 1) := by decide +kernel
theorem dX8_levels_2 : decode cX8_levels 2 = .ok (.putfield 135, 3) := by decide +kernel
theorem dX8_levels_5 : decode cX8_levels 5 = .ok (.return_, 1) := by decide +kernel
set_option maxRecDepth 20000 in
theorem ggX8_isWhole_X8_has : GoodIn wsX8_isWhole wsX8_has := goodIn_r _ [5, 6, 7, 8, 4, 9, 10, 11, 12, 13, 14, 15, 16, 17, 18, 19, 20, 21, 22, 23, 24, 25, 26, 27, 28, 29, 30, 31, 32, 33, 34, 35, 36, 37, 38, 39, 40, 41, 42] (by decide +kernel) (by decide +kernel)
set_option maxRecDepth 20000 in
theorem gX8_isWhole_X8_has : GoodIn wsX8_isWhole (wsV RX8 124 RX8 yX8_has wsX8_has) := goodIn_app (goodIn_of _ (by decide +kernel)) ggX8_isWhole_X8_has
theorem dX8_isWhole_0 : decode cX8_isWhole 0 = .ok (.aload_n 0, 1) := by decide +kernel
theorem dX8_isWhole_1 : decode cX8_isWhole 1 = .ok (.iload_n 1, 1) := by decide +kernel
theorem dX8_isWhole_2 : decode cX8_isWhole 2 = .ok (.iload_n 2, 1) := by decide +kernel
theorem dX8_isWhole_3 : decode cX8_isWhole 3 = .ok (.iload_n 3, 1) := by decide +kernel
theorem dX8_isWhole_4 : decode cX8_isWhole 4 = .ok (.invokevirtual 124, 3) := by decide +kernel
theorem dX8_isWhole_7 : decode cX8_isWhole 7 = .ok (.ifCond .eq 45, 3) := by decide +kernel
theorem dX8_isWhole_10 : decode cX8_isWhole 10 = .ok (.aload_n 0, 1) := by decide +kernel
theorem dX8_isWhole_11 : decode cX8_isWhole 11 = .ok (.iload_n 1, 1) := by decide +kernel
theorem dX8_isWhole_12 : decode cX8_isWhole 12 = .ok (.iload_n 2, 1) := by decide +kernel
theorem dX8_isWhole_13 : decode cX8_isWhole 13 = .ok (.iload_n 3, 1) := by decide +kernel
theorem dX8_isWhole_14 : decode cX8_isWhole 14 = .ok (.iconst 1, 1) := by decide +kernel
theorem dX8_isWhole_15 : decode cX8_isWhole 15 = .ok (.iadd, 1) := by decide +kernel
theorem dX8_isWhole_16 : decode cX8_isWhole 16 = .ok (.invokevirtual 124, 3) := by decide +kernel
theorem dX8_isWhole_19 : decode cX8_isWhole 19 = .ok (.ifCond .eq 33, 3) := by decide +kernel
theorem dX8_isWhole_22 : decode cX8_isWhole 22 = .ok (.aload_n 0, 1) := by decide +kernel
theorem dX8_isWhole_23 : decode cX8_isWhole 23 = .ok (.iload_n 1, 1) := by decide +kernel
theorem dX8_isWhole_24 : decode cX8_isWhole 24 = .ok (.iload_n 2, 1) := by decide +kernel
theorem dX8_isWhole_25 : decode cX8_isWhole 25 = .ok (.iconst 1, 1) := by decide +kernel
theorem dX8_isWhole_26 : decode cX8_isWhole 26 = .ok (.iadd, 1) := by decide +kernel
theorem dX8_isWhole_27 : decode cX8_isWhole 27 = .ok (.iload_n 3, 1) := by decide +kernel
theorem dX8_isWhole_28 : decode cX8_isWhole 28 = .ok (.invokevirtual 124, 3) := by decide +kernel
theorem dX8_isWhole_31 : decode cX8_isWhole 31 = .ok (.ifCond .eq 21, 3) := by decide +kernel
theorem dX8_isWhole_34 : decode cX8_isWhole 34 = .ok (.aload_n 0, 1) := by decide +kernel
theorem dX8_isWhole_35 : decode cX8_isWhole 35 = .ok (.iload_n 1, 1) := by decide +kernel
theorem dX8_isWhole_36 : decode cX8_isWhole 36 = .ok (.iload_n 2, 1) := by decide +kernel
theorem dX8_isWhole_37 : decode cX8_isWhole 37 = .ok (.iconst 1, 1) := by decide +kernel
theorem dX8_isWhole_38 : decode cX8_isWhole 38 = .ok (.iadd, 1) := by decide +kernel
theorem dX8_isWhole_39 : decode cX8_isWhole 39 = .ok (.iload_n 3, 1) := by decide +kernel
theorem dX8_isWhole_40 : decode cX8_isWhole 40 = .ok (.iconst 1, 1) := by decide +kernel
theorem dX8_isWhole_41 : decode cX8_isWhole 41 = .ok (.iadd, 1) := by decide +kernel
theorem dX8_isWhole_42 : decode cX8_isWhole 42 = .ok (.invokevirtual 124, 3) := by decide +kernel
theorem dX8_isWhole_45 : decode cX8_isWhole 45 = .ok (.ifCond .eq 7, 3) := by decide +kernel
theorem dX8_isWhole_48 : decode cX8_isWhole 48 = .ok (.iconst 1, 1) := by decide +kernel
theorem dX8_isWhole_49 : decode cX8_isWhole 49 = .ok (.goto 4, 3) := by decide +kernel
theorem dX8_isWhole_52 : decode cX8_isWhole 52 = .ok (.iconst 0, 1) := by decide +kernel
theorem dX8_isWhole_53 : decode cX8_isWhole 53 = .ok (.ireturn, 1) := by decide +kernel
set_option maxRecDepth 20000 in
theorem ggX8_joins_X8_isLeft : GoodIn wsX8_joins wsX8_isLeft := goodIn_r _ [7, 8, 9, 10, 6, 11, 12, 13, 14, 15, 16, 17, 18, 19, 20, 21, 22, 23, 24, 25, 26, 27, 28, 29, 30, 31, 32, 33, 34, 35, 36, 37, 38, 39, 40, 41, 42, 43, 44, 45, 46, 47, 48, 49, 50, 51] (by decide +kernel) (by decide +kernel)
set_option maxRecDepth 20000 in
theorem gX8_joins_X8_isLeft : GoodIn wsX8_joins (wsV RX8 139 RX8 yX8_isLeft wsX8_isLeft) := goodIn_app (goodIn_of _ (by decide +kernel)) ggX8_joins_X8_isLeft
theorem dX8_joins_0 : decode cX8_joins 0 = .ok (.aload_n 0, 1) := by decide +kernel
theorem dX8_joins_1 : decode cX8_joins 1 = .ok (.iload_n 1, 1) := by decide +kernel
theorem dX8_joins_2 : decode cX8_joins 2 = .ok (.iload_n 2, 1) := by decide +kernel
theorem dX8_joins_3 : decode cX8_joins 3 = .ok (.iload_n 3, 1) := by decide +kernel
theorem dX8_joins_4 : decode cX8_joins 4 = .ok (.iload 4, 2) := by decide +kernel
theorem dX8_joins_6 : decode cX8_joins 6 = .ok (.invokevirtual 139, 3) := by decide +kernel
theorem dX8_joins_9 : decode cX8_joins 9 = .ok (.istore 5, 2) := by decide +kernel
theorem dX8_joins_11 : decode cX8_joins 11 = .ok (.iload 5, 2) := by decide +kernel
theorem dX8_joins_13 : decode cX8_joins 13 = .ok (.ifCond .eq 7, 3) := by decide +kernel
theorem dX8_joins_16 : decode cX8_joins 16 = .ok (.iload_n 2, 1) := by decide +kernel
theorem dX8_joins_17 : decode cX8_joins 17 = .ok (.goto 4, 3) := by decide +kernel
theorem dX8_joins_20 : decode cX8_joins 20 = .ok (.iload_n 3, 1) := by decide +kernel
theorem dX8_joins_21 : decode cX8_joins 21 = .ok (.istore 6, 2) := by decide +kernel
theorem dX8_joins_23 : decode cX8_joins 23 = .ok (.iload 5, 2) := by decide +kernel
theorem dX8_joins_25 : decode cX8_joins 25 = .ok (.ifCond .eq 7, 3) := by decide +kernel
theorem dX8_joins_28 : decode cX8_joins 28 = .ok (.iload_n 3, 1) := by decide +kernel
theorem dX8_joins_29 : decode cX8_joins 29 = .ok (.goto 4, 3) := by decide +kernel
theorem dX8_joins_32 : decode cX8_joins 32 = .ok (.iload_n 2, 1) := by decide +kernel
theorem dX8_joins_33 : decode cX8_joins 33 = .ok (.istore 7, 2) := by decide +kernel
theorem dX8_joins_35 : decode cX8_joins 35 = .ok (.aload_n 0, 1) := by decide +kernel
theorem dX8_joins_36 : decode cX8_joins 36 = .ok (.getfield 69, 3) := by decide +kernel
theorem dX8_joins_39 : decode cX8_joins 39 = .ok (.iload 6, 2) := by decide +kernel
theorem dX8_joins_41 : decode cX8_joins 41 = .ok (.iload 7, 2) := by decide +kernel
theorem dX8_joins_43 : decode cX8_joins 43 = .ok (.iastore, 1) := by decide +kernel
theorem dX8_joins_44 : decode cX8_joins 44 = .ok (.aload_n 0, 1) := by decide +kernel
theorem dX8_joins_45 : decode cX8_joins 45 = .ok (.getfield 72, 3) := by decide +kernel
theorem dX8_joins_48 : decode cX8_joins 48 = .ok (.iload 7, 2) := by decide +kernel
theorem dX8_joins_50 : decode cX8_joins 50 = .ok (.iconst 1, 1) := by decide +kernel
theorem dX8_joins_51 : decode cX8_joins 51 = .ok (.bastore, 1) := by decide +kernel
theorem dX8_joins_52 : decode cX8_joins 52 = .ok (.return_, 1) := by decide +kernel
theorem dX8_midX_0 : decode cX8_midX 0 = .ok (.iconst 2, 1) := by decide +kernel
theorem dX8_midX_1 : decode cX8_midX 1 = .ok (.iload_n 0, 1) := by decide +kernel
theorem dX8_midX_2 : decode cX8_midX 2 = .ok (.iconst 2, 1) := by decide +kernel
theorem dX8_midX_3 : decode cX8_midX 3 = .ok (.idiv, 1) := by decide +kernel
theorem dX8_midX_4 : decode cX8_midX 4 = .ok (.bipush 40, 2) := by decide +kernel
theorem dX8_midX_6 : decode cX8_midX 6 = .ok (.irem, 1) := by decide +kernel
theorem dX8_midX_7 : decode cX8_midX 7 = .ok (.imul, 1) := by decide +kernel
theorem dX8_midX_8 : decode cX8_midX 8 = .ok (.iload_n 0, 1) := by decide +kernel
theorem dX8_midX_9 : decode cX8_midX 9 = .ok (.iconst 2, 1) := by decide +kernel
theorem dX8_midX_10 : decode cX8_midX 10 = .ok (.irem, 1) := by decide +kernel
theorem dX8_midX_11 : decode cX8_midX 11 = .ok (.ifCond .ne 7, 3) := by decide +kernel
theorem dX8_midX_14 : decode cX8_midX 14 = .ok (.iconst 1, 1) := by decide +kernel
theorem dX8_midX_15 : decode cX8_midX 15 = .ok (.goto 4, 3) := by decide +kernel
theorem dX8_midX_18 : decode cX8_midX 18 = .ok (.iconst 0, 1) := by decide +kernel
theorem dX8_midX_19 : decode cX8_midX 19 = .ok (.iadd, 1) := by decide +kernel
theorem dX8_midX_20 : decode cX8_midX 20 = .ok (.ireturn, 1) := by decide +kernel
theorem dX8_midY_0 : decode cX8_midY 0 = .ok (.iconst 2, 1) := by decide +kernel
theorem dX8_midY_1 : decode cX8_midY 1 = .ok (.iload_n 0, 1) := by decide +kernel
theorem dX8_midY_2 : decode cX8_midY 2 = .ok (.bipush 80, 2) := by decide +kernel
theorem dX8_midY_4 : decode cX8_midY 4 = .ok (.idiv, 1) := by decide +kernel
theorem dX8_midY_5 : decode cX8_midY 5 = .ok (.imul, 1) := by decide +kernel
theorem dX8_midY_6 : decode cX8_midY 6 = .ok (.iload_n 0, 1) := by decide +kernel
theorem dX8_midY_7 : decode cX8_midY 7 = .ok (.iconst 2, 1) := by decide +kernel
theorem dX8_midY_8 : decode cX8_midY 8 = .ok (.irem, 1) := by decide +kernel
theorem dX8_midY_9 : decode cX8_midY 9 = .ok (.ifCond .ne 7, 3) := by decide +kernel
theorem dX8_midY_12 : decode cX8_midY 12 = .ok (.iconst 0, 1) := by decide +kernel
theorem dX8_midY_13 : decode cX8_midY 13 = .ok (.goto 4, 3) := by decide +kernel
theorem dX8_midY_16 : decode cX8_midY 16 = .ok (.iconst 1, 1) := by decide +kernel
theorem dX8_midY_17 : decode cX8_midY 17 = .ok (.iadd, 1) := by decide +kernel
theorem dX8_midY_18 : decode cX8_midY 18 = .ok (.ireturn, 1) := by decide +kernel
set_option maxRecDepth 20000 in
theorem ggX8_isLeft_X8_h : GoodIn wsX8_isLeft wsX8_h := goodIn_r _ [5, 6, 13, 14, 15, 16, 17, 18, 19, 20, 21, 22, 23, 24, 25, 26, 27, 28, 29, 30, 31, 32, 33, 34, 35, 36, 37, 38, 39, 40, 41, 42, 43, 44, 45] (by decide +kernel) (by decide +kernel)
set_option maxRecDepth 20000 in
theorem gX8_isLeft_X8_h : GoodIn wsX8_isLeft (wsV RX8 127 RX8 yX8_h wsX8_h) := goodIn_app (goodIn_of _ (by decide +kernel)) ggX8_isLeft_X8_h
set_option maxRecDepth 20000 in
theorem ggX8_isLeft_X8_midX : GoodIn wsX8_isLeft wsX8_midX := goodIn_r _ [9] (by decide +kernel) (by decide +kernel)
set_option maxRecDepth 20000 in
theorem gX8_isLeft_X8_midX : GoodIn wsX8_isLeft (va_wsS RX8 143 yX8_midX wsX8_midX) := goodIn_app (goodIn_of _ (by decide +kernel)) ggX8_isLeft_X8_midX
set_option maxRecDepth 20000 in
theorem ggX8_isLeft_X8_midY : GoodIn wsX8_isLeft wsX8_midY := goodIn_r _ [12] (by decide +kernel) (by decide +kernel)
set_option maxRecDepth 20000 in
theorem gX8_isLeft_X8_midY : GoodIn wsX8_isLeft (va_wsS RX8 147 yX8_midY wsX8_midY) := goodIn_app (goodIn_of _ (by decide +kernel)) ggX8_isLeft_X8_midY
theorem dX8_isLeft_0 : decode cX8_isLeft 0 = .ok (.iload_n 2, 1) := by decide +kernel
theorem dX8_isLeft_1 : decode cX8_isLeft 1 = .ok (.bipush 80, 2) := by decide +kernel
theorem dX8_isLeft_3 : decode cX8_isLeft 3 = .ok (.idiv, 1) := by decide +kernel
theorem dX8_isLeft_4 : decode cX8_isLeft 4 = .ok (.istore 5, 2) := by decide +kernel
theorem dX8_isLeft_6 : decode cX8_isLeft 6 = .ok (.iload_n 2, 1) := by decide +kernel
theorem dX8_isLeft_7 : decode cX8_isLeft 7 = .ok (.iconst 2, 1) := by decide +kernel
theorem dX8_isLeft_8 : decode cX8_isLeft 8 = .ok (.idiv, 1) := by decide +kernel
theorem dX8_isLeft_9 : decode cX8_isLeft 9 = .ok (.bipush 40, 2) := by decide +kernel
theorem dX8_isLeft_11 : decode cX8_isLeft 11 = .ok (.irem, 1) := by decide +kernel
theorem dX8_isLeft_12 : decode cX8_isLeft 12 = .ok (.istore 6, 2) := by decide +kernel
theorem dX8_isLeft_14 : decode cX8_isLeft 14 = .ok (.aload_n 0, 1) := by decide +kernel
theorem dX8_isLeft_15 : decode cX8_isLeft 15 = .ok (.iload_n 1, 1) := by decide +kernel
theorem dX8_isLeft_16 : decode cX8_isLeft 16 = .ok (.iload 5, 2) := by decide +kernel
theorem dX8_isLeft_18 : decode cX8_isLeft 18 = .ok (.iload 6, 2) := by decide +kernel
theorem dX8_isLeft_20 : decode cX8_isLeft 20 = .ok (.invokevirtual 127, 3) := by decide +kernel
theorem dX8_isLeft_23 : decode cX8_isLeft 23 = .ok (.iload 4, 2) := by decide +kernel
theorem dX8_isLeft_25 : decode cX8_isLeft 25 = .ok (.if_icmp .lt 7, 3) := by decide +kernel
theorem dX8_isLeft_28 : decode cX8_isLeft 28 = .ok (.iconst 1, 1) := by decide +kernel
theorem dX8_isLeft_29 : decode cX8_isLeft 29 = .ok (.goto 4, 3) := by decide +kernel
theorem dX8_isLeft_32 : decode cX8_isLeft 32 = .ok (.iconst 0, 1) := by decide +kernel
theorem dX8_isLeft_33 : decode cX8_isLeft 33 = .ok (.istore 7, 2) := by decide +kernel
theorem dX8_isLeft_35 : decode cX8_isLeft 35 = .ok (.iconst 2, 1) := by decide +kernel
theorem dX8_isLeft_36 : decode cX8_isLeft 36 = .ok (.iload 7, 2) := by decide +kernel
theorem dX8_isLeft_38 : decode cX8_isLeft 38 = .ok (.ifCond .ne 10, 3) := by decide +kernel
theorem dX8_isLeft_41 : decode cX8_isLeft 41 = .ok (.iload_n 2, 1) := by decide +kernel
theorem dX8_isLeft_42 : decode cX8_isLeft 42 = .ok (.iconst 2, 1) := by decide +kernel
theorem dX8_isLeft_43 : decode cX8_isLeft 43 = .ok (.irem, 1) := by decide +kernel
theorem dX8_isLeft_44 : decode cX8_isLeft 44 = .ok (.iconst 1, 1) := by decide +kernel
theorem dX8_isLeft_45 : decode cX8_isLeft 45 = .ok (.if_icmp .ne 8, 3) := by decide +kernel
theorem dX8_isLeft_48 : decode cX8_isLeft 48 = .ok (.iload 6, 2) := by decide +kernel
theorem dX8_isLeft_50 : decode cX8_isLeft 50 = .ok (.goto 7, 3) := by decide +kernel
theorem dX8_isLeft_53 : decode cX8_isLeft 53 = .ok (.iload 6, 2) := by decide +kernel
theorem dX8_isLeft_55 : decode cX8_isLeft 55 = .ok (.iconst 1, 1) := by decide +kernel
theorem dX8_isLeft_56 : decode cX8_isLeft 56 = .ok (.iadd, 1) := by decide +kernel
theorem dX8_isLeft_57 : decode cX8_isLeft 57 = .ok (.imul, 1) := by decide +kernel
theorem dX8_isLeft_58 : decode cX8_isLeft 58 = .ok (.istore 8, 2) := by decide +kernel
theorem dX8_isLeft_60 : decode cX8_isLeft 60 = .ok (.iconst 2, 1) := by decide +kernel
theorem dX8_isLeft_61 : decode cX8_isLeft 61 = .ok (.iload 7, 2) := by decide +kernel
theorem dX8_isLeft_63 : decode cX8_isLeft 63 = .ok (.ifCond .ne 9, 3) := by decide +kernel
theorem dX8_isLeft_66 : decode cX8_isLeft 66 = .ok (.iload_n 2, 1) := by decide +kernel
theorem dX8_isLeft_67 : decode cX8_isLeft 67 = .ok (.iconst 2, 1) := by decide +kernel
theorem dX8_isLeft_68 : decode cX8_isLeft 68 = .ok (.irem, 1) := by decide +kernel
theorem dX8_isLeft_69 : decode cX8_isLeft 69 = .ok (.ifCond .ne 8, 3) := by decide +kernel
theorem dX8_isLeft_72 : decode cX8_isLeft 72 = .ok (.iload 5, 2) := by decide +kernel
theorem dX8_isLeft_74 : decode cX8_isLeft 74 = .ok (.goto 7, 3) := by decide +kernel
theorem dX8_isLeft_77 : decode cX8_isLeft 77 = .ok (.iload 5, 2) := by decide +kernel
theorem dX8_isLeft_79 : decode cX8_isLeft 79 = .ok (.iconst 1, 1) := by decide +kernel
theorem dX8_isLeft_80 : decode cX8_isLeft 80 = .ok (.iadd, 1) := by decide +kernel
theorem dX8_isLeft_81 : decode cX8_isLeft 81 = .ok (.imul, 1) := by decide +kernel
theorem dX8_isLeft_82 : decode cX8_isLeft 82 = .ok (.istore 9, 2) := by decide +kernel
theorem dX8_isLeft_84 : decode cX8_isLeft 84 = .ok (.iload_n 3, 1) := by decide +kernel
theorem dX8_isLeft_85 : decode cX8_isLeft 85 = .ok (.invokestatic 143, 3) := by decide +kernel
theorem dX8_isLeft_88 : decode cX8_isLeft 88 = .ok (.iload_n 2, 1) := by decide +kernel
theorem dX8_isLeft_89 : decode cX8_isLeft 89 = .ok (.invokestatic 143, 3) := by decide +kernel
theorem dX8_isLeft_92 : decode cX8_isLeft 92 = .ok (.isub, 1) := by decide +kernel
theorem dX8_isLeft_93 : decode cX8_isLeft 93 = .ok (.istore 10, 2) := by decide +kernel
theorem dX8_isLeft_95 : decode cX8_isLeft 95 = .ok (.iload_n 3, 1) := by decide +kernel
theorem dX8_isLeft_96 : decode cX8_isLeft 96 = .ok (.invokestatic 147, 3) := by decide +kernel
theorem dX8_isLeft_99 : decode cX8_isLeft 99 = .ok (.iload_n 2, 1) := by decide +kernel
theorem dX8_isLeft_100 : decode cX8_isLeft 100 = .ok (.invokestatic 147, 3) := by decide +kernel
theorem dX8_isLeft_103 : decode cX8_isLeft 103 = .ok (.isub, 1) := by decide +kernel
theorem dX8_isLeft_104 : decode cX8_isLeft 104 = .ok (.istore 11, 2) := by decide +kernel
theorem dX8_isLeft_106 : decode cX8_isLeft 106 = .ok (.iload 10, 2) := by decide +kernel
theorem dX8_isLeft_108 : decode cX8_isLeft 108 = .ok (.iload 9, 2) := by decide +kernel
theorem dX8_isLeft_110 : decode cX8_isLeft 110 = .ok (.iload_n 2, 1) := by decide +kernel
theorem dX8_isLeft_111 : decode cX8_isLeft 111 = .ok (.invokestatic 147, 3) := by decide +kernel
theorem dX8_isLeft_114 : decode cX8_isLeft 114 = .ok (.isub, 1) := by decide +kernel
theorem dX8_isLeft_115 : decode cX8_isLeft 115 = .ok (.imul, 1) := by decide +kernel
theorem dX8_isLeft_116 : decode cX8_isLeft 116 = .ok (.iload 11, 2) := by decide +kernel
theorem dX8_isLeft_118 : decode cX8_isLeft 118 = .ok (.iload 8, 2) := by decide +kernel
theorem dX8_isLeft_120 : decode cX8_isLeft 120 = .ok (.iload_n 2, 1) := by decide +kernel
theorem dX8_isLeft_121 : decode cX8_isLeft 121 = .ok (.invokestatic 143, 3) := by decide +kernel
theorem dX8_isLeft_124 : decode cX8_isLeft 124 = .ok (.isub, 1) := by decide +kernel
theorem dX8_isLeft_125 : decode cX8_isLeft 125 = .ok (.imul, 1) := by decide +kernel
theorem dX8_isLeft_126 : decode cX8_isLeft 126 = .ok (.isub, 1) := by decide +kernel
theorem dX8_isLeft_127 : decode cX8_isLeft 127 = .ok (.ifCond .le 7, 3) := by decide +kernel
theorem dX8_isLeft_130 : decode cX8_isLeft 130 = .ok (.iconst 1, 1) := by decide +kernel
theorem dX8_isLeft_131 : decode cX8_isLeft 131 = .ok (.goto 4, 3) := by decide +kernel
theorem dX8_isLeft_134 : decode cX8_isLeft 134 = .ok (.iconst 0, 1) := by decide +kernel
theorem dX8_isLeft_135 : decode cX8_isLeft 135 = .ok (.ireturn, 1) := by decide +kernel
set_option maxRecDepth 20000 in
theorem ggX8_cell_X8_h : GoodIn wsX8_cell wsX8_h := goodIn_r _ [6, 7, 24, 25, 26, 27, 28, 29, 30, 31, 32, 33, 34, 35, 36, 37, 38, 39, 40, 41, 42, 43, 44, 45, 46, 47, 48, 49, 50, 51, 52, 53, 54, 55, 56] (by decide +kernel) (by decide +kernel)
set_option maxRecDepth 20000 in
theorem gX8_cell_X8_h : GoodIn wsX8_cell (wsV RX8 127 RX8 yX8_h wsX8_h) := goodIn_app (goodIn_of _ (by decide +kernel)) ggX8_cell_X8_h
set_option maxRecDepth 20000 in
theorem ggX8_cell_X8_joins : GoodIn wsX8_cell wsX8_joins := goodIn_r _ [11, 12, 13, 14, 15, 16, 5, 17, 2, 3, 4, 6, 7, 18, 19, 20, 21, 22, 23, 24, 25, 26, 27, 28, 29, 30, 31, 32, 33, 34, 35, 36, 37, 38, 39, 40, 41, 42, 43, 44, 45, 46, 47, 48, 49, 50, 51, 52, 53, 54, 55, 56] (by decide +kernel) (by decide +kernel)
set_option maxRecDepth 20000 in
theorem gX8_cell_X8_joins : GoodIn wsX8_cell (wsV RX8 152 RX8 yX8_joins wsX8_joins) := goodIn_app (goodIn_of _ (by decide +kernel)) ggX8_cell_X8_joins
theorem dX8_cell_0 : decode cX8_cell 0 = .ok (.iconst 2, 1) := by decide +kernel
