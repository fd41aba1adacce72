theorem dX8_parentOf_33 : decode cX8_parentOf 33 = .ok (.iaload, 1) := by decide +kernel
theorem dX8_parentOf_34 : decode cX8_parentOf 34 = .ok (.aload_n 0, 1) := by decide +kernel
theorem dX8_parentOf_35 : decode cX8_parentOf 35 = .ok (.getfield 44, 3) := by decide +kernel
theorem dX8_parentOf_38 : decode cX8_parentOf 38 = .ok (.iload_n 2, 1) := by decide +kernel
theorem dX8_parentOf_39 : decode cX8_parentOf 39 = .ok (.iaload, 1) := by decide +kernel
theorem dX8_parentOf_40 : decode cX8_parentOf 40 = .ok (.if_icmp .ge 7, 3) := by decide +kernel
theorem dX8_parentOf_43 : decode cX8_parentOf 43 = .ok (.iconst 1, 1) := by decide +kernel
theorem dX8_parentOf_44 : decode cX8_parentOf 44 = .ok (.goto 4, 3) := by decide +kernel
theorem dX8_parentOf_47 : decode cX8_parentOf 47 = .ok (.iconst 0, 1) := by decide +kernel
theorem dX8_parentOf_48 : decode cX8_parentOf 48 = .ok (.istore 4, 2) := by decide +kernel
theorem dX8_parentOf_50 : decode cX8_parentOf 50 = .ok (.iload 4, 2) := by decide +kernel
theorem dX8_parentOf_52 : decode cX8_parentOf 52 = .ok (.ifCond .ne 84, 3) := by decide +kernel
theorem dX8_parentOf_55 : decode cX8_parentOf 55 = .ok (.aload_n 0, 1) := by decide +kernel
theorem dX8_parentOf_56 : decode cX8_parentOf 56 = .ok (.getfield 44, 3) := by decide +kernel
theorem dX8_parentOf_59 : decode cX8_parentOf 59 = .ok (.iload_n 3, 1) := by decide +kernel
theorem dX8_parentOf_60 : decode cX8_parentOf 60 = .ok (.iaload, 1) := by decide +kernel
theorem dX8_parentOf_61 : decode cX8_parentOf 61 = .ok (.aload_n 0, 1) := by decide +kernel
theorem dX8_parentOf_62 : decode cX8_parentOf 62 = .ok (.getfield 44, 3) := by decide +kernel
theorem dX8_parentOf_65 : decode cX8_parentOf 65 = .ok (.iload_n 2, 1) := by decide +kernel
theorem dX8_parentOf_66 : decode cX8_parentOf 66 = .ok (.iaload, 1) := by decide +kernel
theorem dX8_parentOf_67 : decode cX8_parentOf 67 = .ok (.if_icmp .ne 69, 3) := by decide +kernel
theorem dX8_parentOf_70 : decode cX8_parentOf 70 = .ok (.aload_n 0, 1) := by decide +kernel
theorem dX8_parentOf_71 : decode cX8_parentOf 71 = .ok (.getfield 32, 3) := by decide +kernel
theorem dX8_parentOf_74 : decode cX8_parentOf 74 = .ok (.iload_n 3, 1) := by decide +kernel
theorem dX8_parentOf_75 : decode cX8_parentOf 75 = .ok (.iaload, 1) := by decide +kernel
theorem dX8_parentOf_76 : decode cX8_parentOf 76 = .ok (.aload_n 0, 1) := by decide +kernel
theorem dX8_parentOf_77 : decode cX8_parentOf 77 = .ok (.getfield 32, 3) := by decide +kernel
theorem dX8_parentOf_80 : decode cX8_parentOf 80 = .ok (.iload_n 1, 1) := by decide +kernel
theorem dX8_parentOf_81 : decode cX8_parentOf 81 = .ok (.iaload, 1) := by decide +kernel
theorem dX8_parentOf_82 : decode cX8_parentOf 82 = .ok (.isub, 1) := by decide +kernel
theorem dX8_parentOf_83 : decode cX8_parentOf 83 = .ok (.istore 5, 2) := by decide +kernel
theorem dX8_parentOf_85 : decode cX8_parentOf 85 = .ok (.aload_n 0, 1) := by decide +kernel
theorem dX8_parentOf_86 : decode cX8_parentOf 86 = .ok (.getfield 32, 3) := by decide +kernel
theorem dX8_parentOf_89 : decode cX8_parentOf 89 = .ok (.iload_n 2, 1) := by decide +kernel
theorem dX8_parentOf_90 : decode cX8_parentOf 90 = .ok (.iaload, 1) := by decide +kernel
theorem dX8_parentOf_91 : decode cX8_parentOf 91 = .ok (.aload_n 0, 1) := by decide +kernel
theorem dX8_parentOf_92 : decode cX8_parentOf 92 = .ok (.getfield 32, 3) := by decide +kernel
theorem dX8_parentOf_95 : decode cX8_parentOf 95 = .ok (.iload_n 1, 1) := by decide +kernel
theorem dX8_parentOf_96 : decode cX8_parentOf 96 = .ok (.iaload, 1) := by decide +kernel
theorem dX8_parentOf_97 : decode cX8_parentOf 97 = .ok (.isub, 1) := by decide +kernel
theorem dX8_parentOf_98 : decode cX8_parentOf 98 = .ok (.istore 6, 2) := by decide +kernel
theorem dX8_parentOf_100 : decode cX8_parentOf 100 = .ok (.iload 5, 2) := by decide +kernel
theorem dX8_parentOf_102 : decode cX8_parentOf 102 = .ok (.ifCond .ge 9, 3) := by decide +kernel
theorem dX8_parentOf_105 : decode cX8_parentOf 105 = .ok (.iload 5, 2) := by decide +kernel
theorem dX8_parentOf_107 : decode cX8_parentOf 107 = .ok (.ineg, 1) := by decide +kernel
theorem dX8_parentOf_108 : decode cX8_parentOf 108 = .ok (.goto 5, 3) := by decide +kernel
theorem dX8_parentOf_111 : decode cX8_parentOf 111 = .ok (.iload 5, 2) := by decide +kernel
theorem dX8_parentOf_113 : decode cX8_parentOf 113 = .ok (.iload 6, 2) := by decide +kernel
theorem dX8_parentOf_115 : decode cX8_parentOf 115 = .ok (.ifCond .ge 9, 3) := by decide +kernel
theorem dX8_parentOf_118 : decode cX8_parentOf 118 = .ok (.iload 6, 2) := by decide +kernel
theorem dX8_parentOf_120 : decode cX8_parentOf 120 = .ok (.ineg, 1) := by decide +kernel
theorem dX8_parentOf_121 : decode cX8_parentOf 121 = .ok (.goto 5, 3) := by decide +kernel
theorem dX8_parentOf_124 : decode cX8_parentOf 124 = .ok (.iload 6, 2) := by decide +kernel
theorem dX8_parentOf_126 : decode cX8_parentOf 126 = .ok (.if_icmp .ge 7, 3) := by decide +kernel
theorem dX8_parentOf_129 : decode cX8_parentOf 129 = .ok (.iconst 1, 1) := by decide +kernel
theorem dX8_parentOf_130 : decode cX8_parentOf 130 = .ok (.goto 4, 3) := by decide +kernel
theorem dX8_parentOf_133 : decode cX8_parentOf 133 = .ok (.iconst 0, 1) := by decide +kernel
theorem dX8_parentOf_134 : decode cX8_parentOf 134 = .ok (.istore 4, 2) := by decide +kernel
theorem dX8_parentOf_136 : decode cX8_parentOf 136 = .ok (.iload 4, 2) := by decide +kernel
theorem dX8_parentOf_138 : decode cX8_parentOf 138 = .ok (.ifCond .eq 7, 3) := by decide +kernel
theorem dX8_parentOf_141 : decode cX8_parentOf 141 = .ok (.iload_n 3, 1) := by decide +kernel
theorem dX8_parentOf_142 : decode cX8_parentOf 142 = .ok (.goto 4, 3) := by decide +kernel
theorem dX8_parentOf_145 : decode cX8_parentOf 145 = .ok (.iload_n 2, 1) := by decide +kernel
theorem dX8_parentOf_146 : decode cX8_parentOf 146 = .ok (.istore_n 2, 1) := by decide +kernel
theorem dX8_parentOf_147 : decode cX8_parentOf 147 = .ok (.iinc 3 1, 3) := by decide +kernel
theorem dX8_parentOf_150 : decode cX8_parentOf 150 = .ok (.goto (-146), 3) := by decide +kernel
theorem dX8_parentOf_153 : decode cX8_parentOf 153 = .ok (.iload_n 2, 1) := by decide +kernel
theorem dX8_parentOf_154 : decode cX8_parentOf 154 = .ok (.ireturn, 1) := by decide +kernel
set_option maxRecDepth 20000 in
theorem ggX8_line_X8_in : GoodIn wsX8_line wsX8_in := goodIn_r _ [11] (by decide +kernel) (by decide +kernel)
set_option maxRecDepth 20000 in
theorem gX8_line_X8_in : GoodIn wsX8_line (va_wsS RX8 99 yX8_in wsX8_in) := goodIn_app (goodIn_of _ (by decide +kernel)) ggX8_line_X8_in
theorem dX8_line_0 : decode cX8_line 0 = .ok (.iload_n 1, 1) := by decide +kernel
theorem dX8_line_1 : decode cX8_line 1 = .ok (.iconst 0, 1) := by decide +kernel
theorem dX8_line_2 : decode cX8_line 2 = .ok (.aload_n 0, 1) := by decide +kernel
theorem dX8_line_3 : decode cX8_line 3 = .ok (.getfield 156, 3) := by decide +kernel
theorem dX8_line_6 : decode cX8_line 6 = .ok (.iconst 1, 1) := by decide +kernel
theorem dX8_line_7 : decode cX8_line 7 = .ok (.isub, 1) := by decide +kernel
theorem dX8_line_8 : decode cX8_line 8 = .ok (.invokestatic 99, 3) := by decide +kernel
theorem dX8_line_11 : decode cX8_line 11 = .ok (.ifCond .ne 5, 3) := by decide +kernel
theorem dX8_line_14 : decode cX8_line 14 = .ok (.iconst (-1), 1) := by decide +kernel
theorem dX8_line_15 : decode cX8_line 15 = .ok (.ireturn, 1) := by decide +kernel
theorem dX8_line_16 : decode cX8_line 16 = .ok (.iload_n 2, 1) := by decide +kernel
theorem dX8_line_17 : decode cX8_line 17 = .ok (.tableswitch 123 0 5 #[39, 46, 53, 68, 75, 95], 39) := by decide +kernel
theorem dX8_line_56 : decode cX8_line 56 = .ok (.aload_n 0, 1) := by decide +kernel
theorem dX8_line_57 : decode cX8_line 57 = .ok (.getfield 29, 3) := by decide +kernel
theorem dX8_line_60 : decode cX8_line 60 = .ok (.iload_n 1, 1) := by decide +kernel
theorem dX8_line_61 : decode cX8_line 61 = .ok (.iaload, 1) := by decide +kernel
theorem dX8_line_62 : decode cX8_line 62 = .ok (.ireturn, 1) := by decide +kernel
theorem dX8_line_63 : decode cX8_line 63 = .ok (.aload_n 0, 1) := by decide +kernel
theorem dX8_line_64 : decode cX8_line 64 = .ok (.getfield 38, 3) := by decide +kernel
theorem dX8_line_67 : decode cX8_line 67 = .ok (.iload_n 1, 1) := by decide +kernel
theorem dX8_line_68 : decode cX8_line 68 = .ok (.iaload, 1) := by decide +kernel
theorem dX8_line_69 : decode cX8_line 69 = .ok (.ireturn, 1) := by decide +kernel
theorem dX8_line_70 : decode cX8_line 70 = .ok (.aload_n 0, 1) := by decide +kernel
theorem dX8_line_71 : decode cX8_line 71 = .ok (.getfield 41, 3) := by decide +kernel
theorem dX8_line_74 : decode cX8_line 74 = .ok (.iload_n 1, 1) := by decide +kernel
theorem dX8_line_75 : decode cX8_line 75 = .ok (.baload, 1) := by decide +kernel
theorem dX8_line_76 : decode cX8_line 76 = .ok (.ifCond .eq 7, 3) := by decide +kernel
theorem dX8_line_79 : decode cX8_line 79 = .ok (.iconst 1, 1) := by decide +kernel
theorem dX8_line_80 : decode cX8_line 80 = .ok (.goto 4, 3) := by decide +kernel
theorem dX8_line_83 : decode cX8_line 83 = .ok (.iconst 0, 1) := by decide +kernel
theorem dX8_line_84 : decode cX8_line 84 = .ok (.ireturn, 1) := by decide +kernel
theorem dX8_line_85 : decode cX8_line 85 = .ok (.aload_n 0, 1) := by decide +kernel
theorem dX8_line_86 : decode cX8_line 86 = .ok (.getfield 47, 3) := by decide +kernel
theorem dX8_line_89 : decode cX8_line 89 = .ok (.iload_n 1, 1) := by decide +kernel
theorem dX8_line_90 : decode cX8_line 90 = .ok (.iaload, 1) := by decide +kernel
theorem dX8_line_91 : decode cX8_line 91 = .ok (.ireturn, 1) := by decide +kernel
theorem dX8_line_92 : decode cX8_line 92 = .ok (.aload_n 0, 1) := by decide +kernel
theorem dX8_line_93 : decode cX8_line 93 = .ok (.getfield 41, 3) := by decide +kernel
theorem dX8_line_96 : decode cX8_line 96 = .ok (.iload_n 1, 1) := by decide +kernel
theorem dX8_line_97 : decode cX8_line 97 = .ok (.baload, 1) := by decide +kernel
theorem dX8_line_98 : decode cX8_line 98 = .ok (.ifCond .eq 12, 3) := by decide +kernel
theorem dX8_line_101 : decode cX8_line 101 = .ok (.aload_n 0, 1) := by decide +kernel
theorem dX8_line_102 : decode cX8_line 102 = .ok (.getfield 44, 3) := by decide +kernel
theorem dX8_line_105 : decode cX8_line 105 = .ok (.iload_n 1, 1) := by decide +kernel
theorem dX8_line_106 : decode cX8_line 106 = .ok (.iaload, 1) := by decide +kernel
theorem dX8_line_107 : decode cX8_line 107 = .ok (.goto 4, 3) := by decide +kernel
theorem dX8_line_110 : decode cX8_line 110 = .ok (.iconst (-1), 1) := by decide +kernel
theorem dX8_line_111 : decode cX8_line 111 = .ok (.ireturn, 1) := by decide +kernel
theorem dX8_line_112 : decode cX8_line 112 = .ok (.aload_n 0, 1) := by decide +kernel
theorem dX8_line_113 : decode cX8_line 113 = .ok (.getfield 41, 3) := by decide +kernel
theorem dX8_line_116 : decode cX8_line 116 = .ok (.iload_n 1, 1) := by decide +kernel
theorem dX8_line_117 : decode cX8_line 117 = .ok (.baload, 1) := by decide +kernel
theorem dX8_line_118 : decode cX8_line 118 = .ok (.ifCond .ne 7, 3) := by decide +kernel
theorem dX8_line_121 : decode cX8_line 121 = .ok (.iconst (-1), 1) := by decide +kernel
theorem dX8_line_122 : decode cX8_line 122 = .ok (.goto 17, 3) := by decide +kernel
theorem dX8_line_125 : decode cX8_line 125 = .ok (.aload_n 0, 1) := by decide +kernel
theorem dX8_line_126 : decode cX8_line 126 = .ok (.getfield 50, 3) := by decide +kernel
theorem dX8_line_129 : decode cX8_line 129 = .ok (.iload_n 1, 1) := by decide +kernel
theorem dX8_line_130 : decode cX8_line 130 = .ok (.baload, 1) := by decide +kernel
theorem dX8_line_131 : decode cX8_line 131 = .ok (.ifCond .eq 7, 3) := by decide +kernel
theorem dX8_line_134 : decode cX8_line 134 = .ok (.iconst 1, 1) := by decide +kernel
theorem dX8_line_135 : decode cX8_line 135 = .ok (.goto 4, 3) := by decide +kernel
theorem dX8_line_138 : decode cX8_line 138 = .ok (.iconst 0, 1) := by decide +kernel
theorem dX8_line_139 : decode cX8_line 139 = .ok (.ireturn, 1) := by decide +kernel
theorem dX8_line_140 : decode cX8_line 140 = .ok (.iconst (-1), 1) := by decide +kernel
theorem dX8_line_141 : decode cX8_line 141 = .ok (.ireturn, 1) := by decide +kernel
set_option maxRecDepth 20000 in
theorem ggX8_side_X8_in : GoodIn wsX8_side wsX8_in := goodIn_r _ [8] (by decide +kernel) (by decide +kernel)
set_option maxRecDepth 20000 in
theorem gX8_side_X8_in : GoodIn wsX8_side (va_wsS RX8 99 yX8_in wsX8_in) := goodIn_app (goodIn_of _ (by decide +kernel)) ggX8_side_X8_in
theorem dX8_side_0 : decode cX8_side 0 = .ok (.iload_n 1, 1) := by decide +kernel
theorem dX8_side_1 : decode cX8_side 1 = .ok (.iconst 0, 1) := by decide +kernel
theorem dX8_side_2 : decode cX8_side 2 = .ok (.aload_n 0, 1) := by decide +kernel
theorem dX8_side_3 : decode cX8_side 3 = .ok (.getfield 156, 3) := by decide +kernel
theorem dX8_side_6 : decode cX8_side 6 = .ok (.iconst 1, 1) := by decide +kernel
theorem dX8_side_7 : decode cX8_side 7 = .ok (.isub, 1) := by decide +kernel
theorem dX8_side_8 : decode cX8_side 8 = .ok (.invokestatic 99, 3) := by decide +kernel
theorem dX8_side_11 : decode cX8_side 11 = .ok (.ifCond .eq 35, 3) := by decide +kernel
theorem dX8_side_14 : decode cX8_side 14 = .ok (.iload_n 2, 1) := by decide +kernel
theorem dX8_side_15 : decode cX8_side 15 = .ok (.iconst 0, 1) := by decide +kernel
theorem dX8_side_16 : decode cX8_side 16 = .ok (.aload_n 0, 1) := by decide +kernel
theorem dX8_side_17 : decode cX8_side 17 = .ok (.getfield 38, 3) := by decide +kernel
theorem dX8_side_20 : decode cX8_side 20 = .ok (.iload_n 1, 1) := by decide +kernel
theorem dX8_side_21 : decode cX8_side 21 = .ok (.iaload, 1) := by decide +kernel
theorem dX8_side_22 : decode cX8_side 22 = .ok (.iconst 1, 1) := by decide +kernel
theorem dX8_side_23 : decode cX8_side 23 = .ok (.isub, 1) := by decide +kernel
theorem dX8_side_24 : decode cX8_side 24 = .ok (.invokestatic 99, 3) := by decide +kernel
theorem dX8_side_27 : decode cX8_side 27 = .ok (.ifCond .eq 19, 3) := by decide +kernel
theorem dX8_side_30 : decode cX8_side 30 = .ok (.aload_n 0, 1) := by decide +kernel
theorem dX8_side_31 : decode cX8_side 31 = .ok (.getfield 57, 3) := by decide +kernel
theorem dX8_side_34 : decode cX8_side 34 = .ok (.aload_n 0, 1) := by decide +kernel
theorem dX8_side_35 : decode cX8_side 35 = .ok (.getfield 35, 3) := by decide +kernel
theorem dX8_side_38 : decode cX8_side 38 = .ok (.iload_n 1, 1) := by decide +kernel
theorem dX8_side_39 : decode cX8_side 39 = .ok (.iaload, 1) := by decide +kernel
theorem dX8_side_40 : decode cX8_side 40 = .ok (.iload_n 2, 1) := by decide +kernel
theorem dX8_side_41 : decode cX8_side 41 = .ok (.iadd, 1) := by decide +kernel
theorem dX8_side_42 : decode cX8_side 42 = .ok (.iaload, 1) := by decide +kernel
theorem dX8_side_43 : decode cX8_side 43 = .ok (.goto 4, 3) := by decide +kernel
theorem dX8_side_46 : decode cX8_side 46 = .ok (.iconst (-1), 1) := by decide +kernel
theorem dX8_side_47 : decode cX8_side 47 = .ok (.ireturn, 1) := by decide +kernel
set_option maxRecDepth 20000 in
theorem ggX8_place_X8_in : GoodIn wsX8_place wsX8_in := goodIn_r _ [12] (by decide +kernel) (by decide +kernel)
set_option maxRecDepth 20000 in
theorem gX8_place_X8_in : GoodIn wsX8_place (va_wsS RX8 99 yX8_in wsX8_in) := goodIn_app (goodIn_of _ (by decide +kernel)) ggX8_place_X8_in
set_option maxRecDepth 20000 in
theorem ggX8_place_Jxe99ae_doubleToLongBits_ccdee : GoodIn wsX8_place wsJxe99ae_doubleToLongBits_ccdee := goodIn_r _ [16, 17, 18, 19, 20, 21, 22, 23, 15, 24] (by decide +kernel) (by decide +kernel)
set_option maxRecDepth 20000 in
theorem gX8_place_Jxe99ae_doubleToLongBits_ccdee : GoodIn wsX8_place (va_wsS RX8 194 yJxe99ae_doubleToLongBits_ccdee wsJxe99ae_doubleToLongBits_ccdee) := goodIn_app (goodIn_of _ (by decide +kernel)) ggX8_place_Jxe99ae_doubleToLongBits_ccdee
theorem dX8_place_0 : decode cX8_place 0 = .ok (.iload_n 1, 1) := by decide +kernel
theorem dX8_place_1 : decode cX8_place 1 = .ok (.iconst 0, 1) := by decide +kernel
theorem dX8_place_2 : decode cX8_place 2 = .ok (.aload_n 0, 1) := by decide +kernel
theorem dX8_place_3 : decode cX8_place 3 = .ok (.getfield 156, 3) := by decide +kernel
theorem dX8_place_6 : decode cX8_place 6 = .ok (.iconst 1, 1) := by decide +kernel
theorem dX8_place_7 : decode cX8_place 7 = .ok (.isub, 1) := by decide +kernel
theorem dX8_place_8 : decode cX8_place 8 = .ok (.invokestatic 99, 3) := by decide +kernel
theorem dX8_place_11 : decode cX8_place 11 = .ok (.ifCond .eq 28, 3) := by decide +kernel
theorem dX8_place_14 : decode cX8_place 14 = .ok (.iload_n 2, 1) := by decide +kernel
theorem dX8_place_15 : decode cX8_place 15 = .ok (.iconst 0, 1) := by decide +kernel
theorem dX8_place_16 : decode cX8_place 16 = .ok (.aload_n 0, 1) := by decide +kernel
theorem dX8_place_17 : decode cX8_place 17 = .ok (.getfield 38, 3) := by decide +kernel
theorem dX8_place_20 : decode cX8_place 20 = .ok (.iload_n 1, 1) := by decide +kernel
theorem dX8_place_21 : decode cX8_place 21 = .ok (.iaload, 1) := by decide +kernel
theorem dX8_place_22 : decode cX8_place 22 = .ok (.iconst 1, 1) := by decide +kernel
theorem dX8_place_23 : decode cX8_place 23 = .ok (.isub, 1) := by decide +kernel
theorem dX8_place_24 : decode cX8_place 24 = .ok (.invokestatic 99, 3) := by decide +kernel
theorem dX8_place_27 : decode cX8_place 27 = .ok (.ifCond .eq 12, 3) := by decide +kernel
theorem dX8_place_30 : decode cX8_place 30 = .ok (.iload_n 3, 1) := by decide +kernel
theorem dX8_place_31 : decode cX8_place 31 = .ok (.iconst 0, 1) := by decide +kernel
theorem dX8_place_32 : decode cX8_place 32 = .ok (.iconst 1, 1) := by decide +kernel
theorem dX8_place_33 : decode cX8_place 33 = .ok (.invokestatic 99, 3) := by decide +kernel
theorem dX8_place_36 : decode cX8_place 36 = .ok (.ifCond .ne 5, 3) := by decide +kernel
theorem dX8_place_39 : decode cX8_place 39 = .ok (.lconst 0, 1) := by decide +kernel
theorem dX8_place_40 : decode cX8_place 40 = .ok (.lreturn, 1) := by decide +kernel
theorem dX8_place_41 : decode cX8_place 41 = .ok (.aload_n 0, 1) := by decide +kernel
theorem dX8_place_42 : decode cX8_place 42 = .ok (.getfield 35, 3) := by decide +kernel
theorem dX8_place_45 : decode cX8_place 45 = .ok (.iload_n 1, 1) := by decide +kernel
theorem dX8_place_46 : decode cX8_place 46 = .ok (.iaload, 1) := by decide +kernel
theorem dX8_place_47 : decode cX8_place 47 = .ok (.iload_n 2, 1) := by decide +kernel
theorem dX8_place_48 : decode cX8_place 48 = .ok (.iadd, 1) := by decide +kernel
theorem dX8_place_49 : decode cX8_place 49 = .ok (.istore 4, 2) := by decide +kernel
theorem dX8_place_51 : decode cX8_place 51 = .ok (.aload_n 0, 1) := by decide +kernel
theorem dX8_place_52 : decode cX8_place 52 = .ok (.getfield 57, 3) := by decide +kernel
theorem dX8_place_55 : decode cX8_place 55 = .ok (.iload 4, 2) := by decide +kernel
theorem dX8_place_57 : decode cX8_place 57 = .ok (.iaload, 1) := by decide +kernel
theorem dX8_place_58 : decode cX8_place 58 = .ok (.iconst 2, 1) := by decide +kernel
theorem dX8_place_59 : decode cX8_place 59 = .ok (.idiv, 1) := by decide +kernel
theorem dX8_place_60 : decode cX8_place 60 = .ok (.istore 5, 2) := by decide +kernel
theorem dX8_place_62 : decode cX8_place 62 = .ok (.iload_n 3, 1) := by decide +kernel
theorem dX8_place_63 : decode cX8_place 63 = .ok (.ifCond .ne 12, 3) := by decide +kernel
theorem dX8_place_66 : decode cX8_place 66 = .ok (.iload 5, 2) := by decide +kernel
theorem dX8_place_68 : decode cX8_place 68 = .ok (.bipush 40, 2) := by decide +kernel
theorem dX8_place_70 : decode cX8_place 70 = .ok (.irem, 1) := by decide +kernel
theorem dX8_place_71 : decode cX8_place 71 = .ok (.i2l, 1) := by decide +kernel
theorem dX8_place_72 : decode cX8_place 72 = .ok (.goto 9, 3) := by decide +kernel
theorem dX8_place_75 : decode cX8_place 75 = .ok (.iload 5, 2) := by decide +kernel
theorem dX8_place_77 : decode cX8_place 77 = .ok (.bipush 40, 2) := by decide +kernel
theorem dX8_place_79 : decode cX8_place 79 = .ok (.idiv, 1) := by decide +kernel
theorem dX8_place_80 : decode cX8_place 80 = .ok (.i2l, 1) := by decide +kernel
theorem dX8_place_81 : decode cX8_place 81 = .ok (.lstore 6, 2) := by decide +kernel
theorem dX8_place_83 : decode cX8_place 83 = .ok (.aload_n 0, 1) := by decide +kernel
theorem dX8_place_84 : decode cX8_place 84 = .ok (.getfield 57, 3) := by decide +kernel
theorem dX8_place_87 : decode cX8_place 87 = .ok (.iload 4, 2) := by decide +kernel
theorem dX8_place_89 : decode cX8_place 89 = .ok (.iaload, 1) := by decide +kernel
theorem dX8_place_90 : decode cX8_place 90 = .ok (.iconst 2, 1) := by decide +kernel
theorem dX8_place_91 : decode cX8_place 91 = .ok (.irem, 1) := by decide +kernel
theorem dX8_place_92 : decode cX8_place 92 = .ok (.iload_n 3, 1) := by decide +kernel
theorem dX8_place_93 : decode cX8_place 93 = .ok (.if_icmp .eq 16, 3) := by decide +kernel
theorem dX8_place_96 : decode cX8_place 96 = .ok (.aload_n 0, 1) := by decide +kernel
theorem dX8_place_97 : decode cX8_place 97 = .ok (.getfield 162, 3) := by decide +kernel
theorem dX8_place_100 : decode cX8_place 100 = .ok (.i2l, 1) := by decide +kernel
theorem dX8_place_101 : decode cX8_place 101 = .ok (.lload 6, 2) := by decide +kernel
theorem dX8_place_103 : decode cX8_place 103 = .ok (.lmul, 1) := by decide +kernel
theorem dX8_place_104 : decode cX8_place 104 = .ok (.l2d, 1) := by decide +kernel
theorem dX8_place_105 : decode cX8_place 105 = .ok (.invokestatic 194, 3) := by decide +kernel
theorem dX8_place_108 : decode cX8_place 108 = .ok (.lreturn, 1) := by decide +kernel
theorem dX8_place_109 : decode cX8_place 109 = .ok (.aload_n 0, 1) := by decide +kernel
theorem dX8_place_110 : decode cX8_place 110 = .ok (.getfield 63, 3) := by decide +kernel
theorem dX8_place_113 : decode cX8_place 113 = .ok (.iload 4, 2) := by decide +kernel
theorem dX8_place_115 : decode cX8_place 115 = .ok (.iaload, 1) := by decide +kernel
theorem dX8_place_116 : decode cX8_place 116 = .ok (.i2l, 1) := by decide +kernel
theorem dX8_place_117 : decode cX8_place 117 = .ok (.aload_n 0, 1) := by decide +kernel
theorem dX8_place_118 : decode cX8_place 118 = .ok (.getfield 60, 3) := by decide +kernel
theorem dX8_place_121 : decode cX8_place 121 = .ok (.iload 4, 2) := by decide +kernel
theorem dX8_place_123 : decode cX8_place 123 = .ok (.iaload, 1) := by decide +kernel
theorem dX8_place_124 : decode cX8_place 124 = .ok (.i2l, 1) := by decide +kernel
theorem dX8_place_125 : decode cX8_place 125 = .ok (.lsub, 1) := by decide +kernel
theorem dX8_place_126 : decode cX8_place 126 = .ok (.lstore 8, 2) := by decide +kernel
theorem dX8_place_128 : decode cX8_place 128 = .ok (.aload_n 0, 1) := by decide +kernel
theorem dX8_place_129 : decode cX8_place 129 = .ok (.getfield 162, 3) := by decide +kernel
theorem dX8_place_132 : decode cX8_place 132 = .ok (.i2l, 1) := by decide +kernel
theorem dX8_place_133 : decode cX8_place 133 = .ok (.lload 6, 2) := by decide +kernel
theorem dX8_place_135 : decode cX8_place 135 = .ok (.lload 8, 2) := by decide +kernel
theorem dX8_place_137 : decode cX8_place 137 = .ok (.lmul, 1) := by decide +kernel
theorem dX8_place_138 : decode cX8_place 138 = .ok (.aload_n 0, 1) := by decide +kernel
theorem dX8_place_139 : decode cX8_place 139 = .ok (.getfield 32, 3) := by decide +kernel
theorem dX8_place_142 : decode cX8_place 142 = .ok (.iload_n 1, 1) := by decide +kernel
theorem dX8_place_143 : decode cX8_place 143 = .ok (.iaload, 1) := by decide +kernel
theorem dX8_place_144 : decode cX8_place 144 = .ok (.i2l, 1) := by decide +kernel
theorem dX8_place_145 : decode cX8_place 145 = .ok (.ladd, 1) := by decide +kernel
theorem dX8_place_146 : decode cX8_place 146 = .ok (.aload_n 0, 1) := by decide +kernel
theorem dX8_place_147 : decode cX8_place 147 = .ok (.getfield 60, 3) := by decide +kernel
theorem dX8_place_150 : decode cX8_place 150 = .ok (.iload 4, 2) := by decide +kernel
theorem dX8_place_152 : decode cX8_place 152 = .ok (.iaload, 1) := by decide +kernel
theorem dX8_place_153 : decode cX8_place 153 = .ok (.i2l, 1) := by decide +kernel
theorem dX8_place_154 : decode cX8_place 154 = .ok (.lsub, 1) := by decide +kernel
theorem dX8_place_155 : decode cX8_place 155 = .ok (.lmul, 1) := by decide +kernel
theorem dX8_place_156 : decode cX8_place 156 = .ok (.lstore 10, 2) := by decide +kernel
theorem dX8_place_158 : decode cX8_place 158 = .ok (.lload 10, 2) := by decide +kernel
theorem dX8_place_160 : decode cX8_place 160 = .ok (.lconst 0, 1) := by decide +kernel
theorem dX8_place_161 : decode cX8_place 161 = .ok (.lcmp, 1) := by decide +kernel
theorem dX8_place_162 : decode cX8_place 162 = .ok (.ifCond .ne 7, 3) := by decide +kernel
theorem dX8_place_165 : decode cX8_place 165 = .ok (.lconst 0, 1) := by decide +kernel
theorem dX8_place_166 : decode cX8_place 166 = .ok (.goto 13, 3) := by decide +kernel
theorem dX8_place_169 : decode cX8_place 169 = .ok (.lload 10, 2) := by decide +kernel
theorem dX8_place_171 : decode cX8_place 171 = .ok (.l2d, 1) := by decide +kernel
theorem dX8_place_172 : decode cX8_place 172 = .ok (.lload 8, 2) := by decide +kernel
theorem dX8_place_174 : decode cX8_place 174 = .ok (.l2d, 1) := by decide +kernel
theorem dX8_place_175 : decode cX8_place 175 = .ok (.ddiv, 1) := by decide +kernel
theorem dX8_place_176 : decode cX8_place 176 = .ok (.invokestatic 194, 3) := by decide +kernel
theorem dX8_place_179 : decode cX8_place 179 = .ok (.lreturn, 1) := by decide +kernel
set_option maxRecDepth 20000 in
theorem ggX8_inside_X8_in : GoodIn wsX8_inside wsX8_in := goodIn_r _ [6] (by decide +kernel) (by decide +kernel)
set_option maxRecDepth 20000 in
theorem gX8_inside_X8_in : GoodIn wsX8_inside (va_wsS RX8 99 yX8_in wsX8_in) := goodIn_app (goodIn_of _ (by decide +kernel)) ggX8_inside_X8_in
set_option maxRecDepth 20000 in
theorem ggX8_inside_X8_isIn : GoodIn wsX8_inside wsX8_isIn := goodIn_r _ [10, 11, 12, 13, 14, 15, 16, 17, 18, 19, 20, 21, 22, 23, 24, 25, 26, 27, 28, 29, 30, 31, 32, 33, 34, 35, 36, 37, 38, 39, 40, 41, 42, 43, 44] (by decide +kernel) (by decide +kernel)
set_option maxRecDepth 20000 in
theorem gX8_inside_X8_isIn : GoodIn wsX8_inside (wsV RX8 186 RX8 yX8_isIn wsX8_isIn) := goodIn_app (goodIn_of _ (by decide +kernel)) ggX8_inside_X8_isIn
theorem dX8_inside_0 : decode cX8_inside 0 = .ok (.iload_n 1, 1) := by decide +kernel
theorem dX8_inside_1 : decode cX8_inside 1 = .ok (.iconst 0, 1) := by decide +kernel
theorem dX8_inside_2 : decode cX8_inside 2 = .ok (.aload_n 0, 1) := by decide +kernel
theorem dX8_inside_3 : decode cX8_inside 3 = .ok (.getfield 156, 3) := by decide +kernel
theorem dX8_inside_6 : decode cX8_inside 6 = .ok (.iconst 1, 1) := by decide +kernel
theorem dX8_inside_7 : decode cX8_inside 7 = .ok (.isub, 1) := by decide +kernel
theorem dX8_inside_8 : decode cX8_inside 8 = .ok (.invokestatic 99, 3) := by decide +kernel
theorem dX8_inside_11 : decode cX8_inside 11 = .ok (.ifCond .eq 32, 3) := by decide +kernel
theorem dX8_inside_14 : decode cX8_inside 14 = .ok (.aload_n 0, 1) := by decide +kernel
theorem dX8_inside_15 : decode cX8_inside 15 = .ok (.getfield 41, 3) := by decide +kernel
theorem dX8_inside_18 : decode cX8_inside 18 = .ok (.iload_n 1, 1) := by decide +kernel
theorem dX8_inside_19 : decode cX8_inside 19 = .ok (.baload, 1) := by decide +kernel
theorem dX8_inside_20 : decode cX8_inside 20 = .ok (.ifCond .eq 23, 3) := by decide +kernel
theorem dX8_inside_23 : decode cX8_inside 23 = .ok (.iload_n 2, 1) := by decide +kernel
theorem dX8_inside_24 : decode cX8_inside 24 = .ok (.iconst 0, 1) := by decide +kernel
theorem dX8_inside_25 : decode cX8_inside 25 = .ok (.bipush 31, 2) := by decide +kernel
theorem dX8_inside_27 : decode cX8_inside 27 = .ok (.invokestatic 99, 3) := by decide +kernel
theorem dX8_inside_30 : decode cX8_inside 30 = .ok (.ifCond .eq 13, 3) := by decide +kernel
theorem dX8_inside_33 : decode cX8_inside 33 = .ok (.iload_n 3, 1) := by decide +kernel
theorem dX8_inside_34 : decode cX8_inside 34 = .ok (.iconst 0, 1) := by decide +kernel
theorem dX8_inside_35 : decode cX8_inside 35 = .ok (.bipush 39, 2) := by decide +kernel
theorem dX8_inside_37 : decode cX8_inside 37 = .ok (.invokestatic 99, 3) := by decide +kernel
theorem dX8_inside_40 : decode cX8_inside 40 = .ok (.ifCond .ne 5, 3) := by decide +kernel
theorem dX8_inside_43 : decode cX8_inside 43 = .ok (.iconst (-1), 1) := by decide +kernel
theorem dX8_inside_44 : decode cX8_inside 44 = .ok (.ireturn, 1) := by decide +kernel
theorem dX8_inside_45 : decode cX8_inside 45 = .ok (.aload_n 0, 1) := by decide +kernel
theorem dX8_inside_46 : decode cX8_inside 46 = .ok (.iload_n 1, 1) := by decide +kernel
theorem dX8_inside_47 : decode cX8_inside 47 = .ok (.bipush 40, 2) := by decide +kernel
theorem dX8_inside_49 : decode cX8_inside 49 = .ok (.iload_n 2, 1) := by decide +kernel
theorem dX8_inside_50 : decode cX8_inside 50 = .ok (.imul, 1) := by decide +kernel
theorem dX8_inside_51 : decode cX8_inside 51 = .ok (.iload_n 3, 1) := by decide +kernel
theorem dX8_inside_52 : decode cX8_inside 52 = .ok (.iadd, 1) := by decide +kernel
theorem dX8_inside_53 : decode cX8_inside 53 = .ok (.invokevirtual 186, 3) := by decide +kernel
theorem dX8_inside_56 : decode cX8_inside 56 = .ok (.ifCond .eq 7, 3) := by decide +kernel
theorem dX8_inside_59 : decode cX8_inside 59 = .ok (.iconst 1, 1) := by decide +kernel
theorem dX8_inside_60 : decode cX8_inside 60 = .ok (.goto 4, 3) := by decide +kernel
theorem dX8_inside_63 : decode cX8_inside 63 = .ok (.iconst 0, 1) := by decide +kernel
theorem dX8_inside_64 : decode cX8_inside 64 = .ok (.ireturn, 1) := by decide +kernel
theorem dX8_downOf_0 : decode cX8_downOf 0 = .ok (.iload_n 0, 1) := by decide +kernel
theorem dX8_downOf_1 : decode cX8_downOf 1 = .ok (.iconst 3, 1) := by decide +kernel
theorem dX8_downOf_2 : decode cX8_downOf 2 = .ok (.if_icmp .ge 7, 3) := by decide +kernel
theorem dX8_downOf_5 : decode cX8_downOf 5 = .ok (.iconst (-1), 1) := by decide +kernel
theorem dX8_downOf_6 : decode cX8_downOf 6 = .ok (.goto 19, 3) := by decide +kernel
theorem dX8_downOf_9 : decode cX8_downOf 9 = .ok (.iload_n 0, 1) := by decide +kernel
theorem dX8_downOf_10 : decode cX8_downOf 10 = .ok (.iconst 3, 1) := by decide +kernel
theorem dX8_downOf_11 : decode cX8_downOf 11 = .ok (.if_icmp .eq 9, 3) := by decide +kernel
theorem dX8_downOf_14 : decode cX8_downOf 14 = .ok (.iload_n 0, 1) := by decide +kernel
theorem dX8_downOf_15 : decode cX8_downOf 15 = .ok (.bipush 7, 2) := by decide +kernel
theorem dX8_downOf_17 : decode cX8_downOf 17 = .ok (.if_icmp .ne 7, 3) := by decide +kernel
theorem dX8_downOf_20 : decode cX8_downOf 20 = .ok (.iconst 0, 1) := by decide +kernel
theorem dX8_downOf_21 : decode cX8_downOf 21 = .ok (.goto 4, 3) := by decide +kernel
theorem dX8_downOf_24 : decode cX8_downOf 24 = .ok (.iconst 1, 1) := by decide +kernel
theorem dX8_downOf_25 : decode cX8_downOf 25 = .ok (.ireturn, 1) := by decide +kernel
theorem dX8_alongOf_0 : decode cX8_alongOf 0 = .ok (.iload_n 0, 1) := by decide +kernel
theorem dX8_alongOf_1 : decode cX8_alongOf 1 = .ok (.ifCond .eq 8, 3) := by decide +kernel
theorem dX8_alongOf_4 : decode cX8_alongOf 4 = .ok (.iload_n 0, 1) := by decide +kernel
theorem dX8_alongOf_5 : decode cX8_alongOf 5 = .ok (.iconst 5, 1) := by decide +kernel
theorem dX8_alongOf_6 : decode cX8_alongOf 6 = .ok (.if_icmp .le 7, 3) := by decide +kernel
theorem dX8_alongOf_9 : decode cX8_alongOf 9 = .ok (.iconst (-1), 1) := by decide +kernel
theorem dX8_alongOf_10 : decode cX8_alongOf 10 = .ok (.goto 18, 3) := by decide +kernel
theorem dX8_alongOf_13 : decode cX8_alongOf 13 = .ok (.iload_n 0, 1) := by decide +kernel
theorem dX8_alongOf_14 : decode cX8_alongOf 14 = .ok (.iconst 1, 1) := by decide +kernel
theorem dX8_alongOf_15 : decode cX8_alongOf 15 = .ok (.if_icmp .eq 8, 3) := by decide +kernel
theorem dX8_alongOf_18 : decode cX8_alongOf 18 = .ok (.iload_n 0, 1) := by decide +kernel
theorem dX8_alongOf_19 : decode cX8_alongOf 19 = .ok (.iconst 5, 1) := by decide +kernel
theorem dX8_alongOf_20 : decode cX8_alongOf 20 = .ok (.if_icmp .ne 7, 3) := by decide +kernel
theorem dX8_alongOf_23 : decode cX8_alongOf 23 = .ok (.iconst 0, 1) := by decide +kernel
theorem dX8_alongOf_24 : decode cX8_alongOf 24 = .ok (.goto 4, 3) := by decide +kernel
theorem dX8_alongOf_27 : decode cX8_alongOf 27 = .ok (.iconst 1, 1) := by decide +kernel
theorem dX8_alongOf_28 : decode cX8_alongOf 28 = .ok (.ireturn, 1) := by decide +kernel
set_option maxRecDepth 20000 in
theorem ggX8_neighbour_X8_downOf : GoodIn wsX8_neighbour wsX8_downOf := goodIn_r _ [4] (by decide +kernel) (by decide +kernel)
set_option maxRecDepth 20000 in
theorem gX8_neighbour_X8_downOf : GoodIn wsX8_neighbour (va_wsS RX8 200 yX8_downOf wsX8_downOf) := goodIn_app (goodIn_of _ (by decide +kernel)) ggX8_neighbour_X8_downOf
set_option maxRecDepth 20000 in
theorem ggX8_neighbour_X8_alongOf : GoodIn wsX8_neighbour wsX8_alongOf := goodIn_r _ [7] (by decide +kernel) (by decide +kernel)
set_option maxRecDepth 20000 in
theorem gX8_neighbour_X8_alongOf : GoodIn wsX8_neighbour (va_wsS RX8 203 yX8_alongOf wsX8_alongOf) := goodIn_app (goodIn_of _ (by decide +kernel)) ggX8_neighbour_X8_alongOf
set_option maxRecDepth 20000 in
theorem ggX8_neighbour_X8_has : GoodIn wsX8_neighbour wsX8_has := goodIn_r _ [11, 12, 13, 14, 3, 15, 16, 17, 18, 19, 20, 21, 22, 23, 24, 25, 26, 27, 28, 29, 30, 31, 32, 33, 34, 35, 36, 37, 38, 39, 40, 41, 42, 43, 44, 45, 46, 47, 48] (by decide +kernel) (by decide +kernel)
set_option maxRecDepth 20000 in
theorem gX8_neighbour_X8_has : GoodIn wsX8_neighbour (wsV RX8 124 RX8 yX8_has wsX8_has) := goodIn_app (goodIn_of _ (by decide +kernel)) ggX8_neighbour_X8_has
theorem dX8_neighbour_0 : decode cX8_neighbour 0 = .ok (.iload_n 2, 1) := by decide +kernel
theorem dX8_neighbour_1 : decode cX8_neighbour 1 = .ok (.bipush 40, 2) := by decide +kernel
theorem dX8_neighbour_3 : decode cX8_neighbour 3 = .ok (.idiv, 1) := by decide +kernel
theorem dX8_neighbour_4 : decode cX8_neighbour 4 = .ok (.iload_n 3, 1) := by decide +kernel
theorem dX8_neighbour_5 : decode cX8_neighbour 5 = .ok (.invokestatic 200, 3) := by decide +kernel
theorem dX8_neighbour_8 : decode cX8_neighbour 8 = .ok (.iadd, 1) := by decide +kernel
theorem dX8_neighbour_9 : decode cX8_neighbour 9 = .ok (.istore 4, 2) := by decide +kernel
theorem dX8_neighbour_11 : decode cX8_neighbour 11 = .ok (.iload_n 2, 1) := by decide +kernel
theorem dX8_neighbour_12 : decode cX8_neighbour 12 = .ok (.bipush 40, 2) := by decide +kernel
theorem dX8_neighbour_14 : decode cX8_neighbour 14 = .ok (.irem, 1) := by decide +kernel
theorem dX8_neighbour_15 : decode cX8_neighbour 15 = .ok (.iload_n 3, 1) := by decide +kernel
theorem dX8_neighbour_16 : decode cX8_neighbour 16 = .ok (.invokestatic 203, 3) := by decide +kernel
theorem dX8_neighbour_19 : decode cX8_neighbour 19 = .ok (.iadd, 1) := by decide +kernel
theorem dX8_neighbour_20 : decode cX8_neighbour 20 = .ok (.istore 5, 2) := by decide +kernel
theorem dX8_neighbour_22 : decode cX8_neighbour 22 = .ok (.aload_n 0, 1) := by decide +kernel
theorem dX8_neighbour_23 : decode cX8_neighbour 23 = .ok (.iload_n 1, 1) := by decide +kernel
theorem dX8_neighbour_24 : decode cX8_neighbour 24 = .ok (.iload 4, 2) := by decide +kernel
theorem dX8_neighbour_26 : decode cX8_neighbour 26 = .ok (.iload 5, 2) := by decide +kernel
theorem dX8_neighbour_28 : decode cX8_neighbour 28 = .ok (.invokevirtual 124, 3) := by decide +kernel
theorem dX8_neighbour_31 : decode cX8_neighbour 31 = .ok (.ifCond .eq 14, 3) := by decide +kernel
theorem dX8_neighbour_34 : decode cX8_neighbour 34 = .ok (.bipush 40, 2) := by decide +kernel
theorem dX8_neighbour_36 : decode cX8_neighbour 36 = .ok (.iload 4, 2) := by decide +kernel
theorem dX8_neighbour_38 : decode cX8_neighbour 38 = .ok (.imul, 1) := by decide +kernel
theorem dX8_neighbour_39 : decode cX8_neighbour 39 = .ok (.iload 5, 2) := by decide +kernel
theorem dX8_neighbour_41 : decode cX8_neighbour 41 = .ok (.iadd, 1) := by decide +kernel
theorem dX8_neighbour_42 : decode cX8_neighbour 42 = .ok (.goto 4, 3) := by decide +kernel
theorem dX8_neighbour_45 : decode cX8_neighbour 45 = .ok (.iconst (-1), 1) := by decide +kernel
theorem dX8_neighbour_46 : decode cX8_neighbour 46 = .ok (.ireturn, 1) := by decide +kernel
set_option maxRecDepth 20000 in
theorem ggX8_neighbours_X8_neighbour : GoodIn wsX8_neighbours wsX8_neighbour := goodIn_r _ [5, 6, 7, 4, 8, 9, 10, 11, 12, 13, 14, 15, 16, 17, 18, 19, 20, 21, 22, 23, 24, 25, 26, 27, 28, 29, 30, 31, 32, 33, 34, 35, 36, 37, 38, 39, 40, 41, 42, 43, 44, 45, 46, 47, 48, 49, 50, 51, 52] (by decide +kernel) (by decide +kernel)
set_option maxRecDepth 20000 in
theorem gX8_neighbours_X8_neighbour : GoodIn wsX8_neighbours (wsV RX8 206 RX8 yX8_neighbour wsX8_neighbour) := goodIn_app (goodIn_of _ (by decide +kernel)) ggX8_neighbours_X8_neighbour
theorem dX8_neighbours_0 : decode cX8_neighbours 0 = .ok (.iconst 0, 1) := by decide +kernel
theorem dX8_neighbours_1 : decode cX8_neighbours 1 = .ok (.istore_n 3, 1) := by decide +kernel
theorem dX8_neighbours_2 : decode cX8_neighbours 2 = .ok (.iconst 0, 1) := by decide +kernel
theorem dX8_neighbours_3 : decode cX8_neighbours 3 = .ok (.istore 4, 2) := by decide +kernel
theorem dX8_neighbours_5 : decode cX8_neighbours 5 = .ok (.iload 4, 2) := by decide +kernel
theorem dX8_neighbours_7 : decode cX8_neighbours 7 = .ok (.bipush 8, 2) := by decide +kernel
theorem dX8_neighbours_9 : decode cX8_neighbours 9 = .ok (.if_icmp .ge 28, 3) := by decide +kernel
theorem dX8_neighbours_12 : decode cX8_neighbours 12 = .ok (.iload_n 3, 1) := by decide +kernel
theorem dX8_neighbours_13 : decode cX8_neighbours 13 = .ok (.aload_n 0, 1) := by decide +kernel
theorem dX8_neighbours_14 : decode cX8_neighbours 14 = .ok (.iload_n 1, 1) := by decide +kernel
theorem dX8_neighbours_15 : decode cX8_neighbours 15 = .ok (.iload_n 2, 1) := by decide +kernel
theorem dX8_neighbours_16 : decode cX8_neighbours 16 = .ok (.iload 4, 2) := by decide +kernel
theorem dX8_neighbours_18 : decode cX8_neighbours 18 = .ok (.invokevirtual 206, 3) := by decide +kernel
theorem dX8_neighbours_21 : decode cX8_neighbours 21 = .ok (.ifCond .lt 7, 3) := by decide +kernel
theorem dX8_neighbours_24 : decode cX8_neighbours 24 = .ok (.iconst 1, 1) := by decide +kernel
theorem dX8_neighbours_25 : decode cX8_neighbours 25 = .ok (.goto 4, 3) := by decide +kernel
theorem dX8_neighbours_28 : decode cX8_neighbours 28 = .ok (.iconst 0, 1) := by decide +kernel
theorem dX8_neighbours_29 : decode cX8_neighbours 29 = .ok (.iadd, 1) := by decide +kernel
theorem dX8_neighbours_30 : decode cX8_neighbours 30 = .ok (.istore_n 3, 1) := by decide +kernel
theorem dX8_neighbours_31 : decode cX8_neighbours 31 = .ok (.iinc 4 1, 3) := by decide +kernel
theorem dX8_neighbours_34 : decode cX8_neighbours 34 = .ok (.goto (-29), 3) := by decide +kernel
theorem dX8_neighbours_37 : decode cX8_neighbours 37 = .ok (.iload_n 3, 1) := by decide +kernel
theorem dX8_neighbours_38 : decode cX8_neighbours 38 = .ok (.ireturn, 1) := by decide +kernel
theorem dX8_isAbove_0 : decode cX8_isAbove 0 = .ok (.aload_n 0, 1) := by decide +kernel
theorem dX8_isAbove_1 : decode cX8_isAbove 1 = .ok (.getfield 19, 3) := by decide +kernel
theorem dX8_isAbove_4 : decode cX8_isAbove 4 = .ok (.sipush 1280, 3) := by decide +kernel
theorem dX8_isAbove_7 : decode cX8_isAbove 7 = .ok (.iload_n 1, 1) := by decide +kernel
theorem dX8_isAbove_8 : decode cX8_isAbove 8 = .ok (.imul, 1) := by decide +kernel
theorem dX8_isAbove_9 : decode cX8_isAbove 9 = .ok (.iload_n 2, 1) := by decide +kernel
theorem dX8_isAbove_10 : decode cX8_isAbove 10 = .ok (.iadd, 1) := by decide +kernel
theorem dX8_isAbove_11 : decode cX8_isAbove 11 = .ok (.iaload, 1) := by decide +kernel
theorem dX8_isAbove_12 : decode cX8_isAbove 12 = .ok (.istore 4, 2) := by decide +kernel
theorem dX8_isAbove_14 : decode cX8_isAbove 14 = .ok (.aload_n 0, 1) := by decide +kernel
theorem dX8_isAbove_15 : decode cX8_isAbove 15 = .ok (.getfield 19, 3) := by decide +kernel
theorem dX8_isAbove_18 : decode cX8_isAbove 18 = .ok (.sipush 1280, 3) := by decide +kernel
theorem dX8_isAbove_21 : decode cX8_isAbove 21 = .ok (.iload_n 1, 1) := by decide +kernel
theorem dX8_isAbove_22 : decode cX8_isAbove 22 = .ok (.imul, 1) := by decide +kernel
theorem dX8_isAbove_23 : decode cX8_isAbove 23 = .ok (.iload_n 3, 1) := by decide +kernel
theorem dX8_isAbove_24 : decode cX8_isAbove 24 = .ok (.iadd, 1) := by decide +kernel
theorem dX8_isAbove_25 : decode cX8_isAbove 25 = .ok (.iaload, 1) := by decide +kernel
theorem dX8_isAbove_26 : decode cX8_isAbove 26 = .ok (.istore 5, 2) := by decide +kernel
theorem dX8_isAbove_28 : decode cX8_isAbove 28 = .ok (.iload 4, 2) := by decide +kernel
theorem dX8_isAbove_30 : decode cX8_isAbove 30 = .ok (.iload 5, 2) := by decide +kernel
theorem dX8_isAbove_32 : decode cX8_isAbove 32 = .ok (.if_icmp .gt 15, 3) := by decide +kernel
theorem dX8_isAbove_35 : decode cX8_isAbove 35 = .ok (.iload 4, 2) := by decide +kernel
theorem dX8_isAbove_37 : decode cX8_isAbove 37 = .ok (.iload 5, 2) := by decide +kernel
theorem dX8_isAbove_39 : decode cX8_isAbove 39 = .ok (.if_icmp .ne 12, 3) := by decide +kernel
theorem dX8_isAbove_42 : decode cX8_isAbove 42 = .ok (.iload_n 2, 1) := by decide +kernel
theorem dX8_isAbove_43 : decode cX8_isAbove 43 = .ok (.iload_n 3, 1) := by decide +kernel
theorem dX8_isAbove_44 : decode cX8_isAbove 44 = .ok (.if_icmp .le 7, 3) := by decide +kernel
theorem dX8_isAbove_47 : decode cX8_isAbove 47 = .ok (.iconst 1, 1) := by decide +kernel
theorem dX8_isAbove_48 : decode cX8_isAbove 48 = .ok (.goto 4, 3) := by decide +kernel
theorem dX8_isAbove_51 : decode cX8_isAbove 51 = .ok (.iconst 0, 1) := by decide +kernel
theorem dX8_isAbove_52 : decode cX8_isAbove 52 = .ok (.ireturn, 1) := by decide +kernel
set_option maxRecDepth 20000 in
theorem ggX8_flow_X8_neighbour : GoodIn wsX8_flow wsX8_neighbour := goodIn_r _ [7, 8, 9, 6, 10, 11, 12, 13, 14, 15, 16, 17, 18, 19, 20, 21, 22, 23, 24, 25, 26, 27, 28, 29, 30, 31, 32, 33, 34, 35, 36, 37, 38, 39, 40, 41, 42, 43, 44, 45, 46, 47, 48, 49, 50, 51, 52, 53, 54] (by decide +kernel) (by decide +kernel)
set_option maxRecDepth 20000 in
theorem gX8_flow_X8_neighbour : GoodIn wsX8_flow (wsV RX8 206 RX8 yX8_neighbour wsX8_neighbour) := goodIn_app (goodIn_of _ (by decide +kernel)) ggX8_flow_X8_neighbour
set_option maxRecDepth 20000 in
theorem ggX8_flow_X8_downOf : GoodIn wsX8_flow wsX8_downOf := goodIn_r _ [10] (by decide +kernel) (by decide +kernel)
set_option maxRecDepth 20000 in
theorem gX8_flow_X8_downOf : GoodIn wsX8_flow (va_wsS RX8 200 yX8_downOf wsX8_downOf) := goodIn_app (goodIn_of _ (by decide +kernel)) ggX8_flow_X8_downOf
set_option maxRecDepth 20000 in
theorem ggX8_flow_X8_alongOf : GoodIn wsX8_flow wsX8_alongOf := goodIn_r _ [13] (by decide +kernel) (by decide +kernel)
set_option maxRecDepth 20000 in
theorem gX8_flow_X8_alongOf : GoodIn wsX8_flow (va_wsS RX8 203 yX8_alongOf wsX8_alongOf) := goodIn_app (goodIn_of _ (by decide +kernel)) ggX8_flow_X8_alongOf
theorem dX8_flow_0 : decode cX8_flow 0 = .ok (.iconst (-1), 1) := by decide +kernel
theorem dX8_flow_1 : decode cX8_flow 1 = .ok (.istore_n 3, 1) := by decide +kernel
theorem dX8_flow_2 : decode cX8_flow 2 = .ok (.lconst 0, 1) := by decide +kernel
theorem dX8_flow_3 : decode cX8_flow 3 = .ok (.lstore 4, 2) := by decide +kernel
theorem dX8_flow_5 : decode cX8_flow 5 = .ok (.iconst 0, 1) := by decide +kernel
theorem dX8_flow_6 : decode cX8_flow 6 = .ok (.istore 6, 2) := by decide +kernel
theorem dX8_flow_8 : decode cX8_flow 8 = .ok (.iload 6, 2) := by decide +kernel
theorem dX8_flow_10 : decode cX8_flow 10 = .ok (.bipush 8, 2) := by decide +kernel
theorem dX8_flow_12 : decode cX8_flow 12 = .ok (.if_icmp .ge 132, 3) := by decide +kernel
theorem dX8_flow_15 : decode cX8_flow 15 = .ok (.aload_n 0, 1) := by decide +kernel
theorem dX8_flow_16 : decode cX8_flow 16 = .ok (.iload_n 1, 1) := by decide +kernel
theorem dX8_flow_17 : decode cX8_flow 17 = .ok (.iload_n 2, 1) := by decide +kernel
theorem dX8_flow_18 : decode cX8_flow 18 = .ok (.iload 6, 2) := by decide +kernel
theorem dX8_flow_20 : decode cX8_flow 20 = .ok (.invokevirtual 206, 3) := by decide +kernel
theorem dX8_flow_23 : decode cX8_flow 23 = .ok (.istore 7, 2) := by decide +kernel
theorem dX8_flow_25 : decode cX8_flow 25 = .ok (.iload 7, 2) := by decide +kernel
theorem dX8_flow_27 : decode cX8_flow 27 = .ok (.ifCond .ge 7, 3) := by decide +kernel
theorem dX8_flow_30 : decode cX8_flow 30 = .ok (.lconst 0, 1) := by decide +kernel
theorem dX8_flow_31 : decode cX8_flow 31 = .ok (.goto 31, 3) := by decide +kernel
theorem dX8_flow_34 : decode cX8_flow 34 = .ok (.aload_n 0, 1) := by decide +kernel
theorem dX8_flow_35 : decode cX8_flow 35 = .ok (.getfield 19, 3) := by decide +kernel
theorem dX8_flow_38 : decode cX8_flow 38 = .ok (.sipush 1280, 3) := by decide +kernel
theorem dX8_flow_41 : decode cX8_flow 41 = .ok (.iload_n 1, 1) := by decide +kernel
theorem dX8_flow_42 : decode cX8_flow 42 = .ok (.imul, 1) := by decide +kernel
theorem dX8_flow_43 : decode cX8_flow 43 = .ok (.iload_n 2, 1) := by decide +kernel
theorem dX8_flow_44 : decode cX8_flow 44 = .ok (.iadd, 1) := by decide +kernel
theorem dX8_flow_45 : decode cX8_flow 45 = .ok (.iaload, 1) := by decide +kernel
theorem dX8_flow_46 : decode cX8_flow 46 = .ok (.i2l, 1) := by decide +kernel
theorem dX8_flow_47 : decode cX8_flow 47 = .ok (.aload_n 0, 1) := by decide +kernel
theorem dX8_flow_48 : decode cX8_flow 48 = .ok (.getfield 19, 3) := by decide +kernel
theorem dX8_flow_51 : decode cX8_flow 51 = .ok (.sipush 1280, 3) := by decide +kernel
theorem dX8_flow_54 : decode cX8_flow 54 = .ok (.iload_n 1, 1) := by decide +kernel
theorem dX8_flow_55 : decode cX8_flow 55 = .ok (.imul, 1) := by decide +kernel
theorem dX8_flow_56 : decode cX8_flow 56 = .ok (.iload 7, 2) := by decide +kernel
theorem dX8_flow_58 : decode cX8_flow 58 = .ok (.iadd, 1) := by decide +kernel
theorem dX8_flow_59 : decode cX8_flow 59 = .ok (.iaload, 1) := by decide +kernel
theorem dX8_flow_60 : decode cX8_flow 60 = .ok (.i2l, 1) := by decide +kernel
theorem dX8_flow_61 : decode cX8_flow 61 = .ok (.lsub, 1) := by decide +kernel
theorem dX8_flow_62 : decode cX8_flow 62 = .ok (.lstore 8, 2) := by decide +kernel
theorem dX8_flow_64 : decode cX8_flow 64 = .ok (.lload 8, 2) := by decide +kernel
theorem dX8_flow_66 : decode cX8_flow 66 = .ok (.lconst 0, 1) := by decide +kernel
theorem dX8_flow_67 : decode cX8_flow 67 = .ok (.lcmp, 1) := by decide +kernel
theorem dX8_flow_68 : decode cX8_flow 68 = .ok (.ifCond .gt 6, 3) := by decide +kernel
theorem dX8_flow_71 : decode cX8_flow 71 = .ok (.goto 67, 3) := by decide +kernel
theorem dX8_flow_74 : decode cX8_flow 74 = .ok (.iload 6, 2) := by decide +kernel
theorem dX8_flow_76 : decode cX8_flow 76 = .ok (.invokestatic 200, 3) := by decide +kernel
theorem dX8_flow_79 : decode cX8_flow 79 = .ok (.ifCond .eq 11, 3) := by decide +kernel
theorem dX8_flow_82 : decode cX8_flow 82 = .ok (.iload 6, 2) := by decide +kernel
theorem dX8_flow_84 : decode cX8_flow 84 = .ok (.invokestatic 203, 3) := by decide +kernel
theorem dX8_flow_87 : decode cX8_flow 87 = .ok (.ifCond .ne 15, 3) := by decide +kernel
theorem dX8_flow_90 : decode cX8_flow 90 = .ok (.ldc2_w 209, 3) := by decide +kernel
theorem dX8_flow_93 : decode cX8_flow 93 = .ok (.lload 8, 2) := by decide +kernel
theorem dX8_flow_95 : decode cX8_flow 95 = .ok (.lmul, 1) := by decide +kernel
theorem dX8_flow_96 : decode cX8_flow 96 = .ok (.lload 8, 2) := by decide +kernel
theorem dX8_flow_98 : decode cX8_flow 98 = .ok (.lmul, 1) := by decide +kernel
theorem dX8_flow_99 : decode cX8_flow 99 = .ok (.goto 8, 3) := by decide +kernel
theorem dX8_flow_102 : decode cX8_flow 102 = .ok (.lload 8, 2) := by decide +kernel
theorem dX8_flow_104 : decode cX8_flow 104 = .ok (.lload 8, 2) := by decide +kernel
theorem dX8_flow_106 : decode cX8_flow 106 = .ok (.lmul, 1) := by decide +kernel
theorem dX8_flow_107 : decode cX8_flow 107 = .ok (.lstore 10, 2) := by decide +kernel
theorem dX8_flow_109 : decode cX8_flow 109 = .ok (.lload 10, 2) := by decide +kernel
theorem dX8_flow_111 : decode cX8_flow 111 = .ok (.lload 4, 2) := by decide +kernel
theorem dX8_flow_113 : decode cX8_flow 113 = .ok (.lcmp, 1) := by decide +kernel
theorem dX8_flow_114 : decode cX8_flow 114 = .ok (.ifCond .gt 17, 3) := by decide +kernel
theorem dX8_flow_117 : decode cX8_flow 117 = .ok (.lload 10, 2) := by decide +kernel
theorem dX8_flow_119 : decode cX8_flow 119 = .ok (.lload 4, 2) := by decide +kernel
theorem dX8_flow_121 : decode cX8_flow 121 = .ok (.lcmp, 1) := by decide +kernel
theorem dX8_flow_122 : decode cX8_flow 122 = .ok (.ifCond .ne 16, 3) := by decide +kernel
theorem dX8_flow_125 : decode cX8_flow 125 = .ok (.iload 7, 2) := by decide +kernel
theorem dX8_flow_127 : decode cX8_flow 127 = .ok (.iload_n 3, 1) := by decide +kernel
theorem dX8_flow_128 : decode cX8_flow 128 = .ok (.if_icmp .ge 10, 3) := by decide +kernel
theorem dX8_flow_131 : decode cX8_flow 131 = .ok (.lload 10, 2) := by decide +kernel
theorem dX8_flow_133 : decode cX8_flow 133 = .ok (.lstore 4, 2) := by decide +kernel
theorem dX8_flow_135 : decode cX8_flow 135 = .ok (.iload 7, 2) := by decide +kernel
theorem dX8_flow_137 : decode cX8_flow 137 = .ok (.istore_n 3, 1) := by decide +kernel
theorem dX8_flow_138 : decode cX8_flow 138 = .ok (.iinc 6 1, 3) := by decide +kernel
theorem dX8_flow_141 : decode cX8_flow 141 = .ok (.goto (-133), 3) := by decide +kernel
theorem dX8_flow_144 : decode cX8_flow 144 = .ok (.iload_n 3, 1) := by decide +kernel
theorem dX8_flow_145 : decode cX8_flow 145 = .ok (.ireturn, 1) := by decide +kernel
set_option maxRecDepth 20000 in
theorem ggX8_basin_X8_flow : GoodIn wsX8_basin wsX8_flow := goodIn_r _ [5, 6, 7, 8, 9, 10, 4, 11, 12, 13, 14, 15, 16, 17, 18, 19, 20, 21, 22, 23, 24, 25, 26, 27, 28, 29, 30, 31, 32, 33, 34, 35, 36, 37, 38, 39, 40, 41, 42, 43, 44, 45, 46, 47, 48, 49, 50, 51, 52, 53, 54, 55, 56, 57, 58] (by decide +kernel) (by decide +kernel)
set_option maxRecDepth 20000 in
theorem gX8_basin_X8_flow : GoodIn wsX8_basin (wsV RX8 211 RX8 yX8_flow wsX8_flow) := goodIn_app (goodIn_of _ (by decide +kernel)) ggX8_basin_X8_flow
theorem dX8_basin_0 : decode cX8_basin 0 = .ok (.iload_n 2, 1) := by decide +kernel
theorem dX8_basin_1 : decode cX8_basin 1 = .ok (.istore_n 3, 1) := by decide +kernel
theorem dX8_basin_2 : decode cX8_basin 2 = .ok (.aload_n 0, 1) := by decide +kernel
theorem dX8_basin_3 : decode cX8_basin 3 = .ok (.iload_n 1, 1) := by decide +kernel
theorem dX8_basin_4 : decode cX8_basin 4 = .ok (.iload_n 3, 1) := by decide +kernel
theorem dX8_basin_5 : decode cX8_basin 5 = .ok (.invokevirtual 211, 3) := by decide +kernel
theorem dX8_basin_8 : decode cX8_basin 8 = .ok (.istore 4, 2) := by decide +kernel
theorem dX8_basin_10 : decode cX8_basin 10 = .ok (.iload 4, 2) := by decide +kernel
theorem dX8_basin_12 : decode cX8_basin 12 = .ok (.ifCond .lt 17, 3) := by decide +kernel
theorem dX8_basin_15 : decode cX8_basin 15 = .ok (.iload 4, 2) := by decide +kernel
theorem dX8_basin_17 : decode cX8_basin 17 = .ok (.istore_n 3, 1) := by decide +kernel
theorem dX8_basin_18 : decode cX8_basin 18 = .ok (.aload_n 0, 1) := by decide +kernel
theorem dX8_basin_19 : decode cX8_basin 19 = .ok (.iload_n 1, 1) := by decide +kernel
theorem dX8_basin_20 : decode cX8_basin 20 = .ok (.iload_n 3, 1) := by decide +kernel
theorem dX8_basin_21 : decode cX8_basin 21 = .ok (.invokevirtual 211, 3) := by decide +kernel
theorem dX8_basin_24 : decode cX8_basin 24 = .ok (.istore 4, 2) := by decide +kernel
theorem dX8_basin_26 : decode cX8_basin 26 = .ok (.goto (-16), 3) := by decide +kernel
theorem dX8_basin_29 : decode cX8_basin 29 = .ok (.iload_n 3, 1) := by decide +kernel
theorem dX8_basin_30 : decode cX8_basin 30 = .ok (.ireturn, 1) := by decide +kernel
set_option maxRecDepth 20000 in
theorem ggX8_streamOf_X8_flow : GoodIn wsX8_streamOf wsX8_flow := goodIn_r _ [7, 8, 9, 10, 11, 12, 6, 13, 14, 15, 16, 17, 18, 19, 20, 21, 22, 23, 2, 24, 25, 26, 27, 28, 29, 30, 31, 32, 33, 34, 35, 36, 37, 38, 39, 40, 41, 42, 43, 44, 45, 46, 47, 48, 49, 50, 51, 52, 53, 54, 55, 56, 57, 58, 59] (by decide +kernel) (by decide +kernel)
set_option maxRecDepth 20000 in
theorem gX8_streamOf_X8_flow : GoodIn wsX8_streamOf (wsV RX8 211 RX8 yX8_flow wsX8_flow) := goodIn_app (goodIn_of _ (by decide +kernel)) ggX8_streamOf_X8_flow
theorem dX8_streamOf_0 : decode cX8_streamOf 0 = .ok (.iconst 0, 1) := by decide +kernel
theorem dX8_streamOf_1 : decode cX8_streamOf 1 = .ok (.istore_n 3, 1) := by decide +kernel
theorem dX8_streamOf_2 : decode cX8_streamOf 2 = .ok (.iload_n 3, 1) := by decide +kernel
theorem dX8_streamOf_3 : decode cX8_streamOf 3 = .ok (.sipush 1280, 3) := by decide +kernel
theorem dX8_streamOf_6 : decode cX8_streamOf 6 = .ok (.if_icmp .ge 40, 3) := by decide +kernel
theorem dX8_streamOf_9 : decode cX8_streamOf 9 = .ok (.aload_n 0, 1) := by decide +kernel
theorem dX8_streamOf_10 : decode cX8_streamOf 10 = .ok (.getfield 78, 3) := by decide +kernel
theorem dX8_streamOf_13 : decode cX8_streamOf 13 = .ok (.iload_n 3, 1) := by decide +kernel
theorem dX8_streamOf_14 : decode cX8_streamOf 14 = .ok (.aload_n 0, 1) := by decide +kernel
theorem dX8_streamOf_15 : decode cX8_streamOf 15 = .ok (.getfield 22, 3) := by decide +kernel
theorem dX8_streamOf_18 : decode cX8_streamOf 18 = .ok (.sipush 1280, 3) := by decide +kernel
theorem dX8_streamOf_21 : decode cX8_streamOf 21 = .ok (.iload_n 1, 1) := by decide +kernel
theorem dX8_streamOf_22 : decode cX8_streamOf 22 = .ok (.imul, 1) := by decide +kernel
theorem dX8_streamOf_23 : decode cX8_streamOf 23 = .ok (.iload_n 3, 1) := by decide +kernel
theorem dX8_streamOf_24 : decode cX8_streamOf 24 = .ok (.iadd, 1) := by decide +kernel
theorem dX8_streamOf_25 : decode cX8_streamOf 25 = .ok (.baload, 1) := by decide +kernel
theorem dX8_streamOf_26 : decode cX8_streamOf 26 = .ok (.ifCond .eq 12, 3) := by decide +kernel
theorem dX8_streamOf_29 : decode cX8_streamOf 29 = .ok (.aload_n 0, 1) := by decide +kernel
theorem dX8_streamOf_30 : decode cX8_streamOf 30 = .ok (.iload_n 1, 1) := by decide +kernel
theorem dX8_streamOf_31 : decode cX8_streamOf 31 = .ok (.iload_n 3, 1) := by decide +kernel
theorem dX8_streamOf_32 : decode cX8_streamOf 32 = .ok (.invokevirtual 211, 3) := by decide +kernel
theorem dX8_streamOf_35 : decode cX8_streamOf 35 = .ok (.goto 4, 3) := by decide +kernel
theorem dX8_streamOf_38 : decode cX8_streamOf 38 = .ok (.iconst (-1), 1) := by decide +kernel
theorem dX8_streamOf_39 : decode cX8_streamOf 39 = .ok (.iastore, 1) := by decide +kernel
theorem dX8_streamOf_40 : decode cX8_streamOf 40 = .ok (.iinc 3 1, 3) := by decide +kernel
theorem dX8_streamOf_43 : decode cX8_streamOf 43 = .ok (.goto (-41), 3) := by decide +kernel
theorem dX8_streamOf_46 : decode cX8_streamOf 46 = .ok (.iconst 0, 1) := by decide +kernel
theorem dX8_streamOf_47 : decode cX8_streamOf 47 = .ok (.istore_n 3, 1) := by decide +kernel
theorem dX8_streamOf_48 : decode cX8_streamOf 48 = .ok (.iconst 0, 1) := by decide +kernel
theorem dX8_streamOf_49 : decode cX8_streamOf 49 = .ok (.istore 4, 2) := by decide +kernel
theorem dX8_streamOf_51 : decode cX8_streamOf 51 = .ok (.iload 4, 2) := by decide +kernel
theorem dX8_streamOf_53 : decode cX8_streamOf 53 = .ok (.sipush 1280, 3) := by decide +kernel
theorem dX8_streamOf_56 : decode cX8_streamOf 56 = .ok (.if_icmp .ge 70, 3) := by decide +kernel
theorem dX8_streamOf_59 : decode cX8_streamOf 59 = .ok (.aload_n 0, 1) := by decide +kernel
theorem dX8_streamOf_60 : decode cX8_streamOf 60 = .ok (.getfield 22, 3) := by decide +kernel
theorem dX8_streamOf_63 : decode cX8_streamOf 63 = .ok (.sipush 1280, 3) := by decide +kernel
theorem dX8_streamOf_66 : decode cX8_streamOf 66 = .ok (.iload_n 1, 1) := by decide +kernel
theorem dX8_streamOf_67 : decode cX8_streamOf 67 = .ok (.imul, 1) := by decide +kernel
theorem dX8_streamOf_68 : decode cX8_streamOf 68 = .ok (.iload 4, 2) := by decide +kernel
theorem dX8_streamOf_70 : decode cX8_streamOf 70 = .ok (.iadd, 1) := by decide +kernel
theorem dX8_streamOf_71 : decode cX8_streamOf 71 = .ok (.baload, 1) := by decide +kernel
theorem dX8_streamOf_72 : decode cX8_streamOf 72 = .ok (.ifCond .eq 8, 3) := by decide +kernel
theorem dX8_streamOf_75 : decode cX8_streamOf 75 = .ok (.iload 4, 2) := by decide +kernel
theorem dX8_streamOf_77 : decode cX8_streamOf 77 = .ok (.goto 4, 3) := by decide +kernel
theorem dX8_streamOf_80 : decode cX8_streamOf 80 = .ok (.iconst (-1), 1) := by decide +kernel
theorem dX8_streamOf_81 : decode cX8_streamOf 81 = .ok (.istore 5, 2) := by decide +kernel
theorem dX8_streamOf_83 : decode cX8_streamOf 83 = .ok (.iload 5, 2) := by decide +kernel
theorem dX8_streamOf_85 : decode cX8_streamOf 85 = .ok (.ifCond .lt 21, 3) := by decide +kernel
theorem dX8_streamOf_88 : decode cX8_streamOf 88 = .ok (.iload 5, 2) := by decide +kernel
theorem dX8_streamOf_90 : decode cX8_streamOf 90 = .ok (.iload_n 2, 1) := by decide +kernel
theorem dX8_streamOf_91 : decode cX8_streamOf 91 = .ok (.if_icmp .eq 15, 3) := by decide +kernel
theorem dX8_streamOf_94 : decode cX8_streamOf 94 = .ok (.aload_n 0, 1) := by decide +kernel
theorem dX8_streamOf_95 : decode cX8_streamOf 95 = .ok (.getfield 78, 3) := by decide +kernel
theorem dX8_streamOf_98 : decode cX8_streamOf 98 = .ok (.iload 5, 2) := by decide +kernel
theorem dX8_streamOf_100 : decode cX8_streamOf 100 = .ok (.iaload, 1) := by decide +kernel
theorem dX8_streamOf_101 : decode cX8_streamOf 101 = .ok (.istore 5, 2) := by decide +kernel
theorem dX8_streamOf_103 : decode cX8_streamOf 103 = .ok (.goto (-20), 3) := by decide +kernel
theorem dX8_streamOf_106 : decode cX8_streamOf 106 = .ok (.iload_n 3, 1) := by decide +kernel
theorem dX8_streamOf_107 : decode cX8_streamOf 107 = .ok (.iload 5, 2) := by decide +kernel
theorem dX8_streamOf_109 : decode cX8_streamOf 109 = .ok (.iload_n 2, 1) := by decide +kernel
theorem dX8_streamOf_110 : decode cX8_streamOf 110 = .ok (.if_icmp .ne 7, 3) := by decide +kernel
theorem dX8_streamOf_113 : decode cX8_streamOf 113 = .ok (.iconst 1, 1) := by decide +kernel
theorem dX8_streamOf_114 : decode cX8_streamOf 114 = .ok (.goto 4, 3) := by decide +kernel
theorem dX8_streamOf_117 : decode cX8_streamOf 117 = .ok (.iconst 0, 1) := by decide +kernel
theorem dX8_streamOf_118 : decode cX8_streamOf 118 = .ok (.iadd, 1) := by decide +kernel
theorem dX8_streamOf_119 : decode cX8_streamOf 119 = .ok (.istore_n 3, 1) := by decide +kernel
theorem dX8_streamOf_120 : decode cX8_streamOf 120 = .ok (.iinc 4 1, 3) := by decide +kernel
theorem dX8_streamOf_123 : decode cX8_streamOf 123 = .ok (.goto (-72), 3) := by decide +kernel
theorem dX8_streamOf_126 : decode cX8_streamOf 126 = .ok (.iload_n 3, 1) := by decide +kernel
theorem dX8_streamOf_127 : decode cX8_streamOf 127 = .ok (.ireturn, 1) := by decide +kernel
set_option maxRecDepth 20000 in
theorem ggX8_filledOf_X8_neighbours : GoodIn wsX8_filledOf wsX8_neighbours := goodIn_r _ [10, 11, 12, 13, 9, 14, 15, 16, 17, 18, 19, 20, 21, 22, 23, 24, 2, 25, 26, 27, 28, 29, 30, 31, 32, 33, 34, 35, 36, 37, 38, 39, 40, 41, 42, 43, 44, 45, 46, 47, 48, 49, 50, 51, 52, 53, 54, 55, 56, 57, 58, 59, 60] (by decide +kernel) (by decide +kernel)
set_option maxRecDepth 20000 in
theorem gX8_filledOf_X8_neighbours : GoodIn wsX8_filledOf (wsV RX8 215 RX8 yX8_neighbours wsX8_neighbours) := goodIn_app (goodIn_of _ (by decide +kernel)) ggX8_filledOf_X8_neighbours
set_option maxRecDepth 20000 in
theorem ggX8_filledOf_X8_neighbour : GoodIn wsX8_filledOf wsX8_neighbour := goodIn_r _ [14, 15, 16, 9, 17, 18, 19, 20, 21, 22, 23, 24, 2, 25, 26, 27, 28, 29, 30, 31, 32, 33, 34, 35, 36, 37, 38, 39, 40, 41, 42, 43, 44, 45, 46, 47, 48, 49, 50, 51, 52, 53, 54, 55, 56, 57, 58, 59, 60] (by decide +kernel) (by decide +kernel)
set_option maxRecDepth 20000 in
theorem gX8_filledOf_X8_neighbour : GoodIn wsX8_filledOf (wsV RX8 206 RX8 yX8_neighbour wsX8_neighbour) := goodIn_app (goodIn_of _ (by decide +kernel)) ggX8_filledOf_X8_neighbour
theorem dX8_filledOf_0 : decode cX8_filledOf 0 = .ok (.iconst 0, 1) := by decide +kernel
theorem dX8_filledOf_1 : decode cX8_filledOf 1 = .ok (.istore_n 3, 1) := by decide +kernel
theorem dX8_filledOf_2 : decode cX8_filledOf 2 = .ok (.iload_n 3, 1) := by decide +kernel
theorem dX8_filledOf_3 : decode cX8_filledOf 3 = .ok (.sipush 1280, 3) := by decide +kernel
theorem dX8_filledOf_6 : decode cX8_filledOf 6 = .ok (.if_icmp .ge 78, 3) := by decide +kernel
theorem dX8_filledOf_9 : decode cX8_filledOf 9 = .ok (.aload_n 0, 1) := by decide +kernel
theorem dX8_filledOf_10 : decode cX8_filledOf 10 = .ok (.getfield 87, 3) := by decide +kernel
theorem dX8_filledOf_13 : decode cX8_filledOf 13 = .ok (.iload_n 3, 1) := by decide +kernel
theorem dX8_filledOf_14 : decode cX8_filledOf 14 = .ok (.aload_n 0, 1) := by decide +kernel
theorem dX8_filledOf_15 : decode cX8_filledOf 15 = .ok (.getfield 22, 3) := by decide +kernel
theorem dX8_filledOf_18 : decode cX8_filledOf 18 = .ok (.sipush 1280, 3) := by decide +kernel
theorem dX8_filledOf_21 : decode cX8_filledOf 21 = .ok (.iload_n 1, 1) := by decide +kernel
theorem dX8_filledOf_22 : decode cX8_filledOf 22 = .ok (.imul, 1) := by decide +kernel
theorem dX8_filledOf_23 : decode cX8_filledOf 23 = .ok (.iload_n 3, 1) := by decide +kernel
theorem dX8_filledOf_24 : decode cX8_filledOf 24 = .ok (.iadd, 1) := by decide +kernel
theorem dX8_filledOf_25 : decode cX8_filledOf 25 = .ok (.baload, 1) := by decide +kernel
theorem dX8_filledOf_26 : decode cX8_filledOf 26 = .ok (.ifCond .ne 7, 3) := by decide +kernel
theorem dX8_filledOf_29 : decode cX8_filledOf 29 = .ok (.iconst 1, 1) := by decide +kernel
theorem dX8_filledOf_30 : decode cX8_filledOf 30 = .ok (.goto 4, 3) := by decide +kernel
theorem dX8_filledOf_33 : decode cX8_filledOf 33 = .ok (.iconst 0, 1) := by decide +kernel
theorem dX8_filledOf_34 : decode cX8_filledOf 34 = .ok (.bastore, 1) := by decide +kernel
theorem dX8_filledOf_35 : decode cX8_filledOf 35 = .ok (.aload_n 0, 1) := by decide +kernel
theorem dX8_filledOf_36 : decode cX8_filledOf 36 = .ok (.getfield 84, 3) := by decide +kernel
theorem dX8_filledOf_39 : decode cX8_filledOf 39 = .ok (.iload_n 3, 1) := by decide +kernel
theorem dX8_filledOf_40 : decode cX8_filledOf 40 = .ok (.aload_n 0, 1) := by decide +kernel
theorem dX8_filledOf_41 : decode cX8_filledOf 41 = .ok (.getfield 87, 3) := by decide +kernel
theorem dX8_filledOf_44 : decode cX8_filledOf 44 = .ok (.iload_n 3, 1) := by decide +kernel
theorem dX8_filledOf_45 : decode cX8_filledOf 45 = .ok (.baload, 1) := by decide +kernel
theorem dX8_filledOf_46 : decode cX8_filledOf 46 = .ok (.ifCond .ne 29, 3) := by decide +kernel
theorem dX8_filledOf_49 : decode cX8_filledOf 49 = .ok (.aload_n 0, 1) := by decide +kernel
theorem dX8_filledOf_50 : decode cX8_filledOf 50 = .ok (.iload_n 1, 1) := by decide +kernel
theorem dX8_filledOf_51 : decode cX8_filledOf 51 = .ok (.iload_n 3, 1) := by decide +kernel
theorem dX8_filledOf_52 : decode cX8_filledOf 52 = .ok (.invokevirtual 215, 3) := by decide +kernel
theorem dX8_filledOf_55 : decode cX8_filledOf 55 = .ok (.bipush 8, 2) := by decide +kernel
theorem dX8_filledOf_57 : decode cX8_filledOf 57 = .ok (.if_icmp .ge 18, 3) := by decide +kernel
theorem dX8_filledOf_60 : decode cX8_filledOf 60 = .ok (.aload_n 0, 1) := by decide +kernel
theorem dX8_filledOf_61 : decode cX8_filledOf 61 = .ok (.getfield 19, 3) := by decide +kernel
theorem dX8_filledOf_64 : decode cX8_filledOf 64 = .ok (.sipush 1280, 3) := by decide +kernel
theorem dX8_filledOf_67 : decode cX8_filledOf 67 = .ok (.iload_n 1, 1) := by decide +kernel
theorem dX8_filledOf_68 : decode cX8_filledOf 68 = .ok (.imul, 1) := by decide +kernel
theorem dX8_filledOf_69 : decode cX8_filledOf 69 = .ok (.iload_n 3, 1) := by decide +kernel
theorem dX8_filledOf_70 : decode cX8_filledOf 70 = .ok (.iadd, 1) := by decide +kernel
theorem dX8_filledOf_71 : decode cX8_filledOf 71 = .ok (.iaload, 1) := by decide +kernel
theorem dX8_filledOf_72 : decode cX8_filledOf 72 = .ok (.goto 5, 3) := by decide +kernel
theorem dX8_filledOf_75 : decode cX8_filledOf 75 = .ok (.ldc 108, 2) := by decide +kernel
theorem dX8_filledOf_77 : decode cX8_filledOf 77 = .ok (.iastore, 1) := by decide +kernel
theorem dX8_filledOf_78 : decode cX8_filledOf 78 = .ok (.iinc 3 1, 3) := by decide +kernel
theorem dX8_filledOf_81 : decode cX8_filledOf 81 = .ok (.goto (-79), 3) := by decide +kernel
theorem dX8_filledOf_84 : decode cX8_filledOf 84 = .ok (.aload_n 0, 1) := by decide +kernel
theorem dX8_filledOf_85 : decode cX8_filledOf 85 = .ok (.getfield 87, 3) := by decide +kernel
theorem dX8_filledOf_88 : decode cX8_filledOf 88 = .ok (.iload_n 2, 1) := by decide +kernel
theorem dX8_filledOf_89 : decode cX8_filledOf 89 = .ok (.baload, 1) := by decide +kernel
theorem dX8_filledOf_90 : decode cX8_filledOf 90 = .ok (.ifCond .ne 176, 3) := by decide +kernel
theorem dX8_filledOf_93 : decode cX8_filledOf 93 = .ok (.iconst (-1), 1) := by decide +kernel
theorem dX8_filledOf_94 : decode cX8_filledOf 94 = .ok (.istore_n 3, 1) := by decide +kernel
theorem dX8_filledOf_95 : decode cX8_filledOf 95 = .ok (.iconst 0, 1) := by decide +kernel
theorem dX8_filledOf_96 : decode cX8_filledOf 96 = .ok (.istore 4, 2) := by decide +kernel
theorem dX8_filledOf_98 : decode cX8_filledOf 98 = .ok (.iload 4, 2) := by decide +kernel
theorem dX8_filledOf_100 : decode cX8_filledOf 100 = .ok (.sipush 1280, 3) := by decide +kernel
theorem dX8_filledOf_103 : decode cX8_filledOf 103 = .ok (.if_icmp .ge 42, 3) := by decide +kernel
theorem dX8_filledOf_106 : decode cX8_filledOf 106 = .ok (.aload_n 0, 1) := by decide +kernel
theorem dX8_filledOf_107 : decode cX8_filledOf 107 = .ok (.getfield 87, 3) := by decide +kernel
theorem dX8_filledOf_110 : decode cX8_filledOf 110 = .ok (.iload 4, 2) := by decide +kernel
theorem dX8_filledOf_112 : decode cX8_filledOf 112 = .ok (.baload, 1) := by decide +kernel
theorem dX8_filledOf_113 : decode cX8_filledOf 113 = .ok (.ifCond .ne 26, 3) := by decide +kernel
theorem dX8_filledOf_116 : decode cX8_filledOf 116 = .ok (.iload_n 3, 1) := by decide +kernel
theorem dX8_filledOf_117 : decode cX8_filledOf 117 = .ok (.ifCond .lt 19, 3) := by decide +kernel
theorem dX8_filledOf_120 : decode cX8_filledOf 120 = .ok (.aload_n 0, 1) := by decide +kernel
theorem dX8_filledOf_121 : decode cX8_filledOf 121 = .ok (.getfield 84, 3) := by decide +kernel
theorem dX8_filledOf_124 : decode cX8_filledOf 124 = .ok (.iload 4, 2) := by decide +kernel
theorem dX8_filledOf_126 : decode cX8_filledOf 126 = .ok (.iaload, 1) := by decide +kernel
theorem dX8_filledOf_127 : decode cX8_filledOf 127 = .ok (.aload_n 0, 1) := by decide +kernel
theorem dX8_filledOf_128 : decode cX8_filledOf 128 = .ok (.getfield 84, 3) := by decide +kernel
theorem dX8_filledOf_131 : decode cX8_filledOf 131 = .ok (.iload_n 3, 1) := by decide +kernel
theorem dX8_filledOf_132 : decode cX8_filledOf 132 = .ok (.iaload, 1) := by decide +kernel
theorem dX8_filledOf_133 : decode cX8_filledOf 133 = .ok (.if_icmp .ge 6, 3) := by decide +kernel
theorem dX8_filledOf_136 : decode cX8_filledOf 136 = .ok (.iload 4, 2) := by decide +kernel
theorem dX8_filledOf_138 : decode cX8_filledOf 138 = .ok (.istore_n 3, 1) := by decide +kernel
theorem dX8_filledOf_139 : decode cX8_filledOf 139 = .ok (.iinc 4 1, 3) := by decide +kernel
theorem dX8_filledOf_142 : decode cX8_filledOf 142 = .ok (.goto (-44), 3) := by decide +kernel
theorem dX8_filledOf_145 : decode cX8_filledOf 145 = .ok (.aload_n 0, 1) := by decide +kernel
theorem dX8_filledOf_146 : decode cX8_filledOf 146 = .ok (.getfield 87, 3) := by decide +kernel
theorem dX8_filledOf_149 : decode cX8_filledOf 149 = .ok (.iload_n 3, 1) := by decide +kernel
theorem dX8_filledOf_150 : decode cX8_filledOf 150 = .ok (.iconst 1, 1) := by decide +kernel
theorem dX8_filledOf_151 : decode cX8_filledOf 151 = .ok (.bastore, 1) := by decide +kernel
theorem dX8_filledOf_152 : decode cX8_filledOf 152 = .ok (.iconst 0, 1) := by decide +kernel
theorem dX8_filledOf_153 : decode cX8_filledOf 153 = .ok (.istore 4, 2) := by decide +kernel
theorem dX8_filledOf_155 : decode cX8_filledOf 155 = .ok (.iload 4, 2) := by decide +kernel
theorem dX8_filledOf_157 : decode cX8_filledOf 157 = .ok (.bipush 8, 2) := by decide +kernel
theorem dX8_filledOf_159 : decode cX8_filledOf 159 = .ok (.if_icmp .ge 104, 3) := by decide +kernel
theorem dX8_filledOf_162 : decode cX8_filledOf 162 = .ok (.aload_n 0, 1) := by decide +kernel
theorem dX8_filledOf_163 : decode cX8_filledOf 163 = .ok (.iload_n 1, 1) := by decide +kernel
theorem dX8_filledOf_164 : decode cX8_filledOf 164 = .ok (.iload_n 3, 1) := by decide +kernel
theorem dX8_filledOf_165 : decode cX8_filledOf 165 = .ok (.iload 4, 2) := by decide +kernel
theorem dX8_filledOf_167 : decode cX8_filledOf 167 = .ok (.invokevirtual 206, 3) := by decide +kernel
theorem dX8_filledOf_170 : decode cX8_filledOf 170 = .ok (.istore 5, 2) := by decide +kernel
theorem dX8_filledOf_172 : decode cX8_filledOf 172 = .ok (.iload 5, 2) := by decide +kernel
theorem dX8_filledOf_174 : decode cX8_filledOf 174 = .ok (.ifCond .lt 83, 3) := by decide +kernel
theorem dX8_filledOf_177 : decode cX8_filledOf 177 = .ok (.aload_n 0, 1) := by decide +kernel
theorem dX8_filledOf_178 : decode cX8_filledOf 178 = .ok (.getfield 87, 3) := by decide +kernel
theorem dX8_filledOf_181 : decode cX8_filledOf 181 = .ok (.iload 5, 2) := by decide +kernel
theorem dX8_filledOf_183 : decode cX8_filledOf 183 = .ok (.baload, 1) := by decide +kernel
theorem dX8_filledOf_184 : decode cX8_filledOf 184 = .ok (.ifCond .ne 73, 3) := by decide +kernel
theorem dX8_filledOf_187 : decode cX8_filledOf 187 = .ok (.aload_n 0, 1) := by decide +kernel
theorem dX8_filledOf_188 : decode cX8_filledOf 188 = .ok (.getfield 19, 3) := by decide +kernel
theorem dX8_filledOf_191 : decode cX8_filledOf 191 = .ok (.sipush 1280, 3) := by decide +kernel
theorem dX8_filledOf_194 : decode cX8_filledOf 194 = .ok (.iload_n 1, 1) := by decide +kernel
theorem dX8_filledOf_195 : decode cX8_filledOf 195 = .ok (.imul, 1) := by decide +kernel
theorem dX8_filledOf_196 : decode cX8_filledOf 196 = .ok (.iload 5, 2) := by decide +kernel
theorem dX8_filledOf_198 : decode cX8_filledOf 198 = .ok (.iadd, 1) := by decide +kernel
theorem dX8_filledOf_199 : decode cX8_filledOf 199 = .ok (.iaload, 1) := by decide +kernel
theorem dX8_filledOf_200 : decode cX8_filledOf 200 = .ok (.istore 6, 2) := by decide +kernel
theorem dX8_filledOf_202 : decode cX8_filledOf 202 = .ok (.iload 6, 2) := by decide +kernel
theorem dX8_filledOf_204 : decode cX8_filledOf 204 = .ok (.aload_n 0, 1) := by decide +kernel
theorem dX8_filledOf_205 : decode cX8_filledOf 205 = .ok (.getfield 84, 3) := by decide +kernel
theorem dX8_filledOf_208 : decode cX8_filledOf 208 = .ok (.iload_n 3, 1) := by decide +kernel
theorem dX8_filledOf_209 : decode cX8_filledOf 209 = .ok (.iaload, 1) := by decide +kernel
theorem dX8_filledOf_210 : decode cX8_filledOf 210 = .ok (.if_icmp .le 8, 3) := by decide +kernel
theorem dX8_filledOf_213 : decode cX8_filledOf 213 = .ok (.iload 6, 2) := by decide +kernel
theorem dX8_filledOf_215 : decode cX8_filledOf 215 = .ok (.goto 9, 3) := by decide +kernel
theorem dX8_filledOf_218 : decode cX8_filledOf 218 = .ok (.aload_n 0, 1) := by decide +kernel
theorem dX8_filledOf_219 : decode cX8_filledOf 219 = .ok (.getfield 84, 3) := by decide +kernel
theorem dX8_filledOf_222 : decode cX8_filledOf 222 = .ok (.iload_n 3, 1) := by decide +kernel
theorem dX8_filledOf_223 : decode cX8_filledOf 223 = .ok (.iaload, 1) := by decide +kernel
theorem dX8_filledOf_224 : decode cX8_filledOf 224 = .ok (.istore 7, 2) := by decide +kernel
theorem dX8_filledOf_226 : decode cX8_filledOf 226 = .ok (.aload_n 0, 1) := by decide +kernel
theorem dX8_filledOf_227 : decode cX8_filledOf 227 = .ok (.getfield 84, 3) := by decide +kernel
theorem dX8_filledOf_230 : decode cX8_filledOf 230 = .ok (.iload 5, 2) := by decide +kernel
theorem dX8_filledOf_232 : decode cX8_filledOf 232 = .ok (.iload 7, 2) := by decide +kernel
theorem dX8_filledOf_234 : decode cX8_filledOf 234 = .ok (.aload_n 0, 1) := by decide +kernel
theorem dX8_filledOf_235 : decode cX8_filledOf 235 = .ok (.getfield 84, 3) := by decide +kernel
theorem dX8_filledOf_238 : decode cX8_filledOf 238 = .ok (.iload 5, 2) := by decide +kernel
theorem dX8_filledOf_240 : decode cX8_filledOf 240 = .ok (.iaload, 1) := by decide +kernel
theorem dX8_filledOf_241 : decode cX8_filledOf 241 = .ok (.if_icmp .ge 8, 3) := by decide +kernel
theorem dX8_filledOf_244 : decode cX8_filledOf 244 = .ok (.iload 7, 2) := by decide +kernel
theorem dX8_filledOf_246 : decode cX8_filledOf 246 = .ok (.goto 10, 3) := by decide +kernel
theorem dX8_filledOf_249 : decode cX8_filledOf 249 = .ok (.aload_n 0, 1) := by decide +kernel
theorem dX8_filledOf_250 : decode cX8_filledOf 250 = .ok (.getfield 84, 3) := by decide +kernel
theorem dX8_filledOf_253 : decode cX8_filledOf 253 = .ok (.iload 5, 2) := by decide +kernel
theorem dX8_filledOf_255 : decode cX8_filledOf 255 = .ok (.iaload, 1) := by decide +kernel
theorem dX8_filledOf_256 : decode cX8_filledOf 256 = .ok (.iastore, 1) := by decide +kernel
theorem dX8_filledOf_257 : decode cX8_filledOf 257 = .ok (.iinc 4 1, 3) := by decide +kernel
theorem dX8_filledOf_260 : decode cX8_filledOf 260 = .ok (.goto (-105), 3) := by decide +kernel
theorem dX8_filledOf_263 : decode cX8_filledOf 263 = .ok (.goto (-179), 3) := by decide +kernel
theorem dX8_filledOf_266 : decode cX8_filledOf 266 = .ok (.aload_n 0, 1) := by decide +kernel
theorem dX8_filledOf_267 : decode cX8_filledOf 267 = .ok (.getfield 84, 3) := by decide +kernel
theorem dX8_filledOf_270 : decode cX8_filledOf 270 = .ok (.iload_n 2, 1) := by decide +kernel
theorem dX8_filledOf_271 : decode cX8_filledOf 271 = .ok (.iaload, 1) := by decide +kernel
theorem dX8_filledOf_272 : decode cX8_filledOf 272 = .ok (.ireturn, 1) := by decide +kernel
set_option maxRecDepth 20000 in
theorem ggX8_isPeak_X8_neighbour : GoodIn wsX8_isPeak wsX8_neighbour := goodIn_r _ [5, 6, 7, 4, 8, 9, 10, 11, 12, 13, 14, 15, 16, 17, 18, 19, 25, 26, 27, 28, 29, 30, 31, 32, 33, 34, 35, 36, 37, 38, 39, 40, 41, 42, 43, 44, 45, 46, 47, 48, 49, 50, 51, 52, 53, 54, 55, 56, 57] (by decide +kernel) (by decide +kernel)
set_option maxRecDepth 20000 in
theorem gX8_isPeak_X8_neighbour : GoodIn wsX8_isPeak (wsV RX8 206 RX8 yX8_neighbour wsX8_neighbour) := goodIn_app (goodIn_of _ (by decide +kernel)) ggX8_isPeak_X8_neighbour
set_option maxRecDepth 20000 in
theorem ggX8_isPeak_X8_isAbove : GoodIn wsX8_isPeak wsX8_isAbove := goodIn_r _ [23, 24, 25, 26, 27, 28, 29, 30, 31, 32, 33, 34, 35, 36, 37, 38, 39, 40, 41, 42, 43, 44, 45, 46, 47, 48, 49, 50, 51, 52, 53, 54, 55, 56, 57] (by decide +kernel) (by decide +kernel)
set_option maxRecDepth 20000 in
theorem gX8_isPeak_X8_isAbove : GoodIn wsX8_isPeak (wsV RX8 218 RX8 yX8_isAbove wsX8_isAbove) := goodIn_app (goodIn_of _ (by decide +kernel)) ggX8_isPeak_X8_isAbove
theorem dX8_isPeak_0 : decode cX8_isPeak 0 = .ok (.iconst 1, 1) := by decide +kernel
theorem dX8_isPeak_1 : decode cX8_isPeak 1 = .ok (.istore_n 3, 1) := by decide +kernel
theorem dX8_isPeak_2 : decode cX8_isPeak 2 = .ok (.iconst 0, 1) := by decide +kernel
theorem dX8_isPeak_3 : decode cX8_isPeak 3 = .ok (.istore 4, 2) := by decide +kernel
theorem dX8_isPeak_5 : decode cX8_isPeak 5 = .ok (.iload 4, 2) := by decide +kernel
theorem dX8_isPeak_7 : decode cX8_isPeak 7 = .ok (.bipush 8, 2) := by decide +kernel
theorem dX8_isPeak_9 : decode cX8_isPeak 9 = .ok (.if_icmp .ge 45, 3) := by decide +kernel
theorem dX8_isPeak_12 : decode cX8_isPeak 12 = .ok (.aload_n 0, 1) := by decide +kernel
theorem dX8_isPeak_13 : decode cX8_isPeak 13 = .ok (.iload_n 1, 1) := by decide +kernel
theorem dX8_isPeak_14 : decode cX8_isPeak 14 = .ok (.iload_n 2, 1) := by decide +kernel
theorem dX8_isPeak_15 : decode cX8_isPeak 15 = .ok (.iload 4, 2) := by decide +kernel
theorem dX8_isPeak_17 : decode cX8_isPeak 17 = .ok (.invokevirtual 206, 3) := by decide +kernel
theorem dX8_isPeak_20 : decode cX8_isPeak 20 = .ok (.istore 5, 2) := by decide +kernel
theorem dX8_isPeak_22 : decode cX8_isPeak 22 = .ok (.iload_n 3, 1) := by decide +kernel
theorem dX8_isPeak_23 : decode cX8_isPeak 23 = .ok (.ifCond .eq 23, 3) := by decide +kernel
theorem dX8_isPeak_26 : decode cX8_isPeak 26 = .ok (.iload 5, 2) := by decide +kernel
theorem dX8_isPeak_28 : decode cX8_isPeak 28 = .ok (.ifCond .lt 14, 3) := by decide +kernel
theorem dX8_isPeak_31 : decode cX8_isPeak 31 = .ok (.aload_n 0, 1) := by decide +kernel
theorem dX8_isPeak_32 : decode cX8_isPeak 32 = .ok (.iload_n 1, 1) := by decide +kernel
theorem dX8_isPeak_33 : decode cX8_isPeak 33 = .ok (.iload 5, 2) := by decide +kernel
theorem dX8_isPeak_35 : decode cX8_isPeak 35 = .ok (.iload_n 2, 1) := by decide +kernel
theorem dX8_isPeak_36 : decode cX8_isPeak 36 = .ok (.invokevirtual 218, 3) := by decide +kernel
theorem dX8_isPeak_39 : decode cX8_isPeak 39 = .ok (.ifCond .ne 7, 3) := by decide +kernel
theorem dX8_isPeak_42 : decode cX8_isPeak 42 = .ok (.iconst 1, 1) := by decide +kernel
theorem dX8_isPeak_43 : decode cX8_isPeak 43 = .ok (.goto 4, 3) := by decide +kernel
theorem dX8_isPeak_46 : decode cX8_isPeak 46 = .ok (.iconst 0, 1) := by decide +kernel
theorem dX8_isPeak_47 : decode cX8_isPeak 47 = .ok (.istore_n 3, 1) := by decide +kernel
theorem dX8_isPeak_48 : decode cX8_isPeak 48 = .ok (.iinc 4 1, 3) := by decide +kernel
theorem dX8_isPeak_51 : decode cX8_isPeak 51 = .ok (.goto (-46), 3) := by decide +kernel
theorem dX8_isPeak_54 : decode cX8_isPeak 54 = .ok (.iload_n 3, 1) := by decide +kernel
theorem dX8_isPeak_55 : decode cX8_isPeak 55 = .ok (.ireturn, 1) := by decide +kernel
set_option maxRecDepth 20000 in
theorem ggX8_saddle_X8_isAbove : GoodIn wsX8_saddle wsX8_isAbove := goodIn_r _ [9, 3, 28, 29, 30, 31, 32, 33, 34, 35, 36, 37, 38, 39, 40, 41, 42, 43, 44, 45, 46, 47, 48, 49, 50, 51, 52, 53, 54, 55, 56, 57, 58, 59, 60] (by decide +kernel) (by decide +kernel)
set_option maxRecDepth 20000 in
theorem gX8_saddle_X8_isAbove : GoodIn wsX8_saddle (wsV RX8 218 RX8 yX8_isAbove wsX8_isAbove) := goodIn_app (goodIn_of _ (by decide +kernel)) ggX8_saddle_X8_isAbove
set_option maxRecDepth 20000 in
theorem ggX8_saddle_X8_neighbour : GoodIn wsX8_saddle wsX8_neighbour := goodIn_r _ [13, 14, 15, 8, 16, 17, 18, 19, 20, 21, 22, 23, 24, 25, 26, 27, 28, 29, 30, 31, 32, 33, 34, 35, 36, 37, 38, 39, 40, 41, 42, 43, 44, 45, 46, 47, 48, 49, 50, 51, 52, 53, 54, 55, 56, 57, 58, 59, 60] (by decide +kernel) (by decide +kernel)
set_option maxRecDepth 20000 in
theorem gX8_saddle_X8_neighbour : GoodIn wsX8_saddle (wsV RX8 206 RX8 yX8_neighbour wsX8_neighbour) := goodIn_app (goodIn_of _ (by decide +kernel)) ggX8_saddle_X8_neighbour
theorem dX8_saddle_0 : decode cX8_saddle 0 = .ok (.iconst 0, 1) := by decide +kernel
theorem dX8_saddle_1 : decode cX8_saddle 1 = .ok (.istore_n 3, 1) := by decide +kernel
theorem dX8_saddle_2 : decode cX8_saddle 2 = .ok (.iload_n 3, 1) := by decide +kernel
theorem dX8_saddle_3 : decode cX8_saddle 3 = .ok (.sipush 1280, 3) := by decide +kernel
theorem dX8_saddle_6 : decode cX8_saddle 6 = .ok (.if_icmp .ge 32, 3) := by decide +kernel
theorem dX8_saddle_9 : decode cX8_saddle 9 = .ok (.aload_n 0, 1) := by decide +kernel
theorem dX8_saddle_10 : decode cX8_saddle 10 = .ok (.getfield 87, 3) := by decide +kernel
theorem dX8_saddle_13 : decode cX8_saddle 13 = .ok (.iload_n 3, 1) := by decide +kernel
theorem dX8_saddle_14 : decode cX8_saddle 14 = .ok (.iconst 0, 1) := by decide +kernel
theorem dX8_saddle_15 : decode cX8_saddle 15 = .ok (.bastore, 1) := by decide +kernel
theorem dX8_saddle_16 : decode cX8_saddle 16 = .ok (.aload_n 0, 1) := by decide +kernel
theorem dX8_saddle_17 : decode cX8_saddle 17 = .ok (.getfield 90, 3) := by decide +kernel
theorem dX8_saddle_20 : decode cX8_saddle 20 = .ok (.iload_n 3, 1) := by decide +kernel
theorem dX8_saddle_21 : decode cX8_saddle 21 = .ok (.iload_n 3, 1) := by decide +kernel
theorem dX8_saddle_22 : decode cX8_saddle 22 = .ok (.iload_n 2, 1) := by decide +kernel
theorem dX8_saddle_23 : decode cX8_saddle 23 = .ok (.if_icmp .ne 7, 3) := by decide +kernel
theorem dX8_saddle_26 : decode cX8_saddle 26 = .ok (.iconst 1, 1) := by decide +kernel
theorem dX8_saddle_27 : decode cX8_saddle 27 = .ok (.goto 4, 3) := by decide +kernel
theorem dX8_saddle_30 : decode cX8_saddle 30 = .ok (.iconst 0, 1) := by decide +kernel
theorem dX8_saddle_31 : decode cX8_saddle 31 = .ok (.bastore, 1) := by decide +kernel
theorem dX8_saddle_32 : decode cX8_saddle 32 = .ok (.iinc 3 1, 3) := by decide +kernel
theorem dX8_saddle_35 : decode cX8_saddle 35 = .ok (.goto (-33), 3) := by decide +kernel
theorem dX8_saddle_38 : decode cX8_saddle 38 = .ok (.aload_n 0, 1) := by decide +kernel
theorem dX8_saddle_39 : decode cX8_saddle 39 = .ok (.getfield 19, 3) := by decide +kernel
theorem dX8_saddle_42 : decode cX8_saddle 42 = .ok (.sipush 1280, 3) := by decide +kernel
theorem dX8_saddle_45 : decode cX8_saddle 45 = .ok (.iload_n 1, 1) := by decide +kernel
theorem dX8_saddle_46 : decode cX8_saddle 46 = .ok (.imul, 1) := by decide +kernel
theorem dX8_saddle_47 : decode cX8_saddle 47 = .ok (.iload_n 2, 1) := by decide +kernel
theorem dX8_saddle_48 : decode cX8_saddle 48 = .ok (.iadd, 1) := by decide +kernel
theorem dX8_saddle_49 : decode cX8_saddle 49 = .ok (.iaload, 1) := by decide +kernel
theorem dX8_saddle_50 : decode cX8_saddle 50 = .ok (.istore_n 3, 1) := by decide +kernel
theorem dX8_saddle_51 : decode cX8_saddle 51 = .ok (.iload_n 2, 1) := by decide +kernel
theorem dX8_saddle_52 : decode cX8_saddle 52 = .ok (.istore 4, 2) := by decide +kernel
theorem dX8_saddle_54 : decode cX8_saddle 54 = .ok (.iload 4, 2) := by decide +kernel
theorem dX8_saddle_56 : decode cX8_saddle 56 = .ok (.ifCond .lt 173, 3) := by decide +kernel
theorem dX8_saddle_59 : decode cX8_saddle 59 = .ok (.aload_n 0, 1) := by decide +kernel
theorem dX8_saddle_60 : decode cX8_saddle 60 = .ok (.getfield 19, 3) := by decide +kernel
theorem dX8_saddle_63 : decode cX8_saddle 63 = .ok (.sipush 1280, 3) := by decide +kernel
theorem dX8_saddle_66 : decode cX8_saddle 66 = .ok (.iload_n 1, 1) := by decide +kernel
theorem dX8_saddle_67 : decode cX8_saddle 67 = .ok (.imul, 1) := by decide +kernel
