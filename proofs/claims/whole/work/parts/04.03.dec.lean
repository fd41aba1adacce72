theorem dX4_placeOf_96 : decode cX4_placeOf 96 = .ok (.ladd, 1) := by decide +kernel
theorem dX4_placeOf_97 : decode cX4_placeOf 97 = .ok (.lmul, 1) := by decide +kernel
theorem dX4_placeOf_98 : decode cX4_placeOf 98 = .ok (.lstore 11, 2) := by decide +kernel
theorem dX4_placeOf_100 : decode cX4_placeOf 100 = .ok (.lload 9, 2) := by decide +kernel
theorem dX4_placeOf_102 : decode cX4_placeOf 102 = .ok (.lconst 0, 1) := by decide +kernel
theorem dX4_placeOf_103 : decode cX4_placeOf 103 = .ok (.lcmp, 1) := by decide +kernel
theorem dX4_placeOf_104 : decode cX4_placeOf 104 = .ok (.ifCond .ge 15, 3) := by decide +kernel
theorem dX4_placeOf_107 : decode cX4_placeOf 107 = .ok (.lload 11, 2) := by decide +kernel
theorem dX4_placeOf_109 : decode cX4_placeOf 109 = .ok (.lneg, 1) := by decide +kernel
theorem dX4_placeOf_110 : decode cX4_placeOf 110 = .ok (.lload 9, 2) := by decide +kernel
theorem dX4_placeOf_112 : decode cX4_placeOf 112 = .ok (.lneg, 1) := by decide +kernel
theorem dX4_placeOf_113 : decode cX4_placeOf 113 = .ok (.invokestatic 109, 3) := by decide +kernel
theorem dX4_placeOf_116 : decode cX4_placeOf 116 = .ok (.goto 10, 3) := by decide +kernel
theorem dX4_placeOf_119 : decode cX4_placeOf 119 = .ok (.lload 11, 2) := by decide +kernel
theorem dX4_placeOf_121 : decode cX4_placeOf 121 = .ok (.lload 9, 2) := by decide +kernel
theorem dX4_placeOf_123 : decode cX4_placeOf 123 = .ok (.invokestatic 109, 3) := by decide +kernel
theorem dX4_placeOf_126 : decode cX4_placeOf 126 = .ok (.lreturn, 1) := by decide +kernel
set_option maxRecDepth 20000 in
theorem ggX4_holds_X0_outline : GoodIn wsX4_holds wsX0_outline := goodIn_r _ [6, 7, 8, 9, 10, 11, 12, 13, 14, 15, 16, 17, 18, 19, 20, 21, 22, 23, 24, 25, 26, 27, 28, 29, 30, 31, 5, 32, 33, 34, 35, 36, 37, 38, 39, 40, 41, 42, 43, 44, 45, 46, 63, 64, 51, 52, 53, 54, 55, 56, 57, 58, 59, 60, 61, 62] (by decide +kernel) (by decide +kernel)
set_option maxRecDepth 20000 in
theorem gX4_holds_X0_outline : GoodIn wsX4_holds (wsV RX4 121 RX0 yX0_outline wsX0_outline) := goodIn_app (goodIn_of _ (by decide +kernel)) ggX4_holds_X0_outline
set_option maxRecDepth 20000 in
theorem ggX4_holds_X0_has : GoodIn wsX4_holds wsX0_has := goodIn_r _ [50, 7, 63, 64] (by decide +kernel) (by decide +kernel)
set_option maxRecDepth 20000 in
theorem gX4_holds_X0_has : GoodIn wsX4_holds (wsV RX4 125 RX0 yX0_has wsX0_has) := goodIn_app (goodIn_of _ (by decide +kernel)) ggX4_holds_X0_has
theorem dX4_holds_0 : decode cX4_holds 0 = .ok (.aload_n 0, 1) := by decide +kernel
theorem dX4_holds_1 : decode cX4_holds 1 = .ok (.getfield 49, 3) := by decide +kernel
theorem dX4_holds_4 : decode cX4_holds 4 = .ok (.aload_n 0, 1) := by decide +kernel
theorem dX4_holds_5 : decode cX4_holds 5 = .ok (.iload_n 1, 1) := by decide +kernel
theorem dX4_holds_6 : decode cX4_holds 6 = .ok (.invokevirtual 121, 3) := by decide +kernel
theorem dX4_holds_9 : decode cX4_holds 9 = .ok (.aload_n 0, 1) := by decide +kernel
theorem dX4_holds_10 : decode cX4_holds 10 = .ok (.getfield 49, 3) := by decide +kernel
theorem dX4_holds_13 : decode cX4_holds 13 = .ok (.iload_n 2, 1) := by decide +kernel
theorem dX4_holds_14 : decode cX4_holds 14 = .ok (.iload_n 3, 1) := by decide +kernel
theorem dX4_holds_15 : decode cX4_holds 15 = .ok (.invokevirtual 125, 3) := by decide +kernel
theorem dX4_holds_18 : decode cX4_holds 18 = .ok (.ireturn, 1) := by decide +kernel
set_option maxRecDepth 20000 in
theorem ggX4_pointsInside_X4_isClosed : GoodIn wsX4_pointsInside wsX4_isClosed := goodIn_r _ [7, 8, 9, 10, 11, 6, 12, 13, 53, 54, 55, 56, 57, 58, 59, 60, 61, 62, 63, 64] (by decide +kernel) (by decide +kernel)
set_option maxRecDepth 20000 in
theorem gX4_pointsInside_X4_isClosed : GoodIn wsX4_pointsInside (wsV RX4 128 RX4 yX4_isClosed wsX4_isClosed) := goodIn_app (goodIn_of _ (by decide +kernel)) ggX4_pointsInside_X4_isClosed
set_option maxRecDepth 20000 in
theorem ggX4_pointsInside_X0_outline : GoodIn wsX4_pointsInside wsX0_outline := goodIn_r _ [18, 19, 20, 21, 22, 23, 24, 25, 26, 6, 27, 28, 9, 10, 11, 12, 13, 29, 30, 31, 32, 33, 34, 35, 36, 37, 17, 38, 39, 40, 41, 42, 43, 44, 45, 46, 47, 48, 49, 50, 51, 52, 65, 66, 53, 54, 55, 56, 57, 58, 59, 60, 61, 62, 63, 64] (by decide +kernel) (by decide +kernel)
set_option maxRecDepth 20000 in
theorem gX4_pointsInside_X0_outline : GoodIn wsX4_pointsInside (wsV RX4 121 RX0 yX0_outline wsX0_outline) := goodIn_app (goodIn_of _ (by decide +kernel)) ggX4_pointsInside_X0_outline
theorem dX4_pointsInside_0 : decode cX4_pointsInside 0 = .ok (.aload_n 0, 1) := by decide +kernel
theorem dX4_pointsInside_1 : decode cX4_pointsInside 1 = .ok (.iload_n 1, 1) := by decide +kernel
theorem dX4_pointsInside_2 : decode cX4_pointsInside 2 = .ok (.invokevirtual 128, 3) := by decide +kernel
theorem dX4_pointsInside_5 : decode cX4_pointsInside 5 = .ok (.ifCond .ne 5, 3) := by decide +kernel
theorem dX4_pointsInside_8 : decode cX4_pointsInside 8 = .ok (.iconst (-1), 1) := by decide +kernel
theorem dX4_pointsInside_9 : decode cX4_pointsInside 9 = .ok (.ireturn, 1) := by decide +kernel
theorem dX4_pointsInside_10 : decode cX4_pointsInside 10 = .ok (.aload_n 0, 1) := by decide +kernel
theorem dX4_pointsInside_11 : decode cX4_pointsInside 11 = .ok (.getfield 49, 3) := by decide +kernel
theorem dX4_pointsInside_14 : decode cX4_pointsInside 14 = .ok (.aload_n 0, 1) := by decide +kernel
theorem dX4_pointsInside_15 : decode cX4_pointsInside 15 = .ok (.iload_n 1, 1) := by decide +kernel
theorem dX4_pointsInside_16 : decode cX4_pointsInside 16 = .ok (.invokevirtual 121, 3) := by decide +kernel
theorem dX4_pointsInside_19 : decode cX4_pointsInside 19 = .ok (.aload_n 0, 1) := by decide +kernel
theorem dX4_pointsInside_20 : decode cX4_pointsInside 20 = .ok (.getfield 49, 3) := by decide +kernel
theorem dX4_pointsInside_23 : decode cX4_pointsInside 23 = .ok (.getfield 131, 3) := by decide +kernel
theorem dX4_pointsInside_26 : decode cX4_pointsInside 26 = .ok (.ireturn, 1) := by decide +kernel
set_option maxRecDepth 20000 in
theorem ggX4_highInside_X4_isClosed : GoodIn wsX4_highInside wsX4_isClosed := goodIn_r _ [6, 7, 8, 9, 10, 5, 11, 12, 82, 83, 84, 85, 86, 87, 88, 89, 90, 91, 92, 93] (by decide +kernel) (by decide +kernel)
set_option maxRecDepth 20000 in
theorem gX4_highInside_X4_isClosed : GoodIn wsX4_highInside (wsV RX4 128 RX4 yX4_isClosed wsX4_isClosed) := goodIn_app (goodIn_of _ (by decide +kernel)) ggX4_highInside_X4_isClosed
set_option maxRecDepth 20000 in
theorem ggX4_highInside_X0_outline : GoodIn wsX4_highInside wsX0_outline := goodIn_r _ [17, 18, 19, 20, 21, 22, 23, 24, 25, 5, 26, 27, 8, 9, 10, 11, 12, 28, 29, 30, 31, 32, 33, 34, 35, 36, 16, 37, 38, 39, 40, 41, 42, 43, 44, 45, 46, 47, 48, 49, 50, 51, 94, 95, 82, 83, 84, 85, 86, 87, 88, 89, 90, 91, 92, 93] (by decide +kernel) (by decide +kernel)
set_option maxRecDepth 20000 in
theorem gX4_highInside_X0_outline : GoodIn wsX4_highInside (wsV RX4 121 RX0 yX0_outline wsX0_outline) := goodIn_app (goodIn_of _ (by decide +kernel)) ggX4_highInside_X0_outline
set_option maxRecDepth 20000 in
theorem ggX4_highInside_X4_isHighIn : GoodIn wsX4_highInside wsX4_isHighIn := goodIn_r _ [55, 56, 57, 29, 30, 5, 31, 27, 32, 8, 9, 10, 11, 12, 33, 24, 25, 26, 58, 59, 60, 61, 62, 63, 64, 65, 66, 67, 68, 69, 70, 71, 72, 73, 74, 75, 76, 77, 78, 79, 80, 16, 81, 18, 82, 83, 84, 85, 86, 87, 88, 89, 90, 91, 92, 93, 96, 97, 98, 99, 94, 95] (by decide +kernel) (by decide +kernel)
set_option maxRecDepth 20000 in
theorem gX4_highInside_X4_isHighIn : GoodIn wsX4_highInside (wsV RX4 132 RX4 yX4_isHighIn wsX4_isHighIn) := goodIn_app (goodIn_of _ (by decide +kernel)) ggX4_highInside_X4_isHighIn
theorem dX4_highInside_0 : decode cX4_highInside 0 = .ok (.aload_n 0, 1) := by decide +kernel
theorem dX4_highInside_1 : decode cX4_highInside 1 = .ok (.iload_n 1, 1) := by decide +kernel
theorem dX4_highInside_2 : decode cX4_highInside 2 = .ok (.invokevirtual 128, 3) := by decide +kernel
theorem dX4_highInside_5 : decode cX4_highInside 5 = .ok (.ifCond .ne 5, 3) := by decide +kernel
theorem dX4_highInside_8 : decode cX4_highInside 8 = .ok (.iconst (-1), 1) := by decide +kernel
theorem dX4_highInside_9 : decode cX4_highInside 9 = .ok (.ireturn, 1) := by decide +kernel
theorem dX4_highInside_10 : decode cX4_highInside 10 = .ok (.aload_n 0, 1) := by decide +kernel
theorem dX4_highInside_11 : decode cX4_highInside 11 = .ok (.getfield 49, 3) := by decide +kernel
theorem dX4_highInside_14 : decode cX4_highInside 14 = .ok (.aload_n 0, 1) := by decide +kernel
theorem dX4_highInside_15 : decode cX4_highInside 15 = .ok (.iload_n 1, 1) := by decide +kernel
theorem dX4_highInside_16 : decode cX4_highInside 16 = .ok (.invokevirtual 121, 3) := by decide +kernel
theorem dX4_highInside_19 : decode cX4_highInside 19 = .ok (.aload_n 0, 1) := by decide +kernel
theorem dX4_highInside_20 : decode cX4_highInside 20 = .ok (.aload_n 0, 1) := by decide +kernel
theorem dX4_highInside_21 : decode cX4_highInside 21 = .ok (.getfield 49, 3) := by decide +kernel
theorem dX4_highInside_24 : decode cX4_highInside 24 = .ok (.iload_n 1, 1) := by decide +kernel
theorem dX4_highInside_25 : decode cX4_highInside 25 = .ok (.invokevirtual 132, 3) := by decide +kernel
theorem dX4_highInside_28 : decode cX4_highInside 28 = .ok (.ifCond .eq 7, 3) := by decide +kernel
theorem dX4_highInside_31 : decode cX4_highInside 31 = .ok (.iconst 1, 1) := by decide +kernel
theorem dX4_highInside_32 : decode cX4_highInside 32 = .ok (.goto 4, 3) := by decide +kernel
theorem dX4_highInside_35 : decode cX4_highInside 35 = .ok (.iconst 0, 1) := by decide +kernel
theorem dX4_highInside_36 : decode cX4_highInside 36 = .ok (.ireturn, 1) := by decide +kernel
set_option maxRecDepth 20000 in
theorem ggX4_isHighIn_X4_sideOf : GoodIn wsX4_isHighIn wsX4_sideOf := goodIn_r _ [6, 7, 8, 9, 10, 11, 5, 12, 13, 14, 15, 16, 17, 44, 45, 46, 47, 48, 49, 50, 51, 52, 53, 54, 55] (by decide +kernel) (by decide +kernel)
set_option maxRecDepth 20000 in
theorem gX4_isHighIn_X4_sideOf : GoodIn wsX4_isHighIn (wsV RX4 136 RX4 yX4_sideOf wsX4_sideOf) := goodIn_app (goodIn_of _ (by decide +kernel)) ggX4_isHighIn_X4_sideOf
set_option maxRecDepth 20000 in
theorem ggX4_isHighIn_X2_unitsOf : GoodIn wsX4_isHighIn wsX2_unitsOf := goodIn_r _ [22, 23, 24, 56, 57, 58, 59] (by decide +kernel) (by decide +kernel)
set_option maxRecDepth 20000 in
theorem gX4_isHighIn_X2_unitsOf : GoodIn wsX4_isHighIn (wsV RX4 115 RX2 yX2_unitsOf wsX2_unitsOf) := goodIn_app (goodIn_of _ (by decide +kernel)) ggX4_isHighIn_X2_unitsOf
set_option maxRecDepth 20000 in
theorem ggX4_isHighIn_X4_levelUnits : GoodIn wsX4_isHighIn wsX4_levelUnits := goodIn_r _ [28, 29, 30, 31, 32, 5, 33, 34, 9, 10, 11, 12, 13, 44, 45, 46, 47, 48, 49, 50, 51, 52, 53, 54, 55] (by decide +kernel) (by decide +kernel)
set_option maxRecDepth 20000 in
theorem gX4_isHighIn_X4_levelUnits : GoodIn wsX4_isHighIn (wsV RX4 140 RX4 yX4_levelUnits wsX4_levelUnits) := goodIn_app (goodIn_of _ (by decide +kernel)) ggX4_isHighIn_X4_levelUnits
set_option maxRecDepth 20000 in
theorem ggX4_isHighIn_X4_otherEnd : GoodIn wsX4_isHighIn wsX4_otherEnd := goodIn_r _ [37] (by decide +kernel) (by decide +kernel)
set_option maxRecDepth 20000 in
theorem gX4_isHighIn_X4_otherEnd : GoodIn wsX4_isHighIn (va_wsS RX4 118 yX4_otherEnd wsX4_otherEnd) := goodIn_app (goodIn_of _ (by decide +kernel)) ggX4_isHighIn_X4_otherEnd
set_option maxRecDepth 20000 in
theorem ggX4_isHighIn_X0_has : GoodIn wsX4_isHighIn wsX0_has := goodIn_r _ [42, 43, 60, 61] (by decide +kernel) (by decide +kernel)
set_option maxRecDepth 20000 in
theorem gX4_isHighIn_X0_has : GoodIn wsX4_isHighIn (wsV RX4 125 RX0 yX0_has wsX0_has) := goodIn_app (goodIn_of _ (by decide +kernel)) ggX4_isHighIn_X0_has
theorem dX4_isHighIn_0 : decode cX4_isHighIn 0 = .ok (.aload_n 0, 1) := by decide +kernel
theorem dX4_isHighIn_1 : decode cX4_isHighIn 1 = .ok (.iload_n 2, 1) := by decide +kernel
theorem dX4_isHighIn_2 : decode cX4_isHighIn 2 = .ok (.iconst 0, 1) := by decide +kernel
theorem dX4_isHighIn_3 : decode cX4_isHighIn 3 = .ok (.invokevirtual 136, 3) := by decide +kernel
theorem dX4_isHighIn_6 : decode cX4_isHighIn 6 = .ok (.istore_n 3, 1) := by decide +kernel
theorem dX4_isHighIn_7 : decode cX4_isHighIn 7 = .ok (.iload_n 3, 1) := by decide +kernel
theorem dX4_isHighIn_8 : decode cX4_isHighIn 8 = .ok (.iconst 2, 1) := by decide +kernel
theorem dX4_isHighIn_9 : decode cX4_isHighIn 9 = .ok (.idiv, 1) := by decide +kernel
theorem dX4_isHighIn_10 : decode cX4_isHighIn 10 = .ok (.istore 4, 2) := by decide +kernel
theorem dX4_isHighIn_12 : decode cX4_isHighIn 12 = .ok (.aload_n 0, 1) := by decide +kernel
theorem dX4_isHighIn_13 : decode cX4_isHighIn 13 = .ok (.getfield 12, 3) := by decide +kernel
theorem dX4_isHighIn_16 : decode cX4_isHighIn 16 = .ok (.iload 4, 2) := by decide +kernel
theorem dX4_isHighIn_18 : decode cX4_isHighIn 18 = .ok (.invokevirtual 115, 3) := by decide +kernel
theorem dX4_isHighIn_21 : decode cX4_isHighIn 21 = .ok (.aload_n 0, 1) := by decide +kernel
theorem dX4_isHighIn_22 : decode cX4_isHighIn 22 = .ok (.iload_n 2, 1) := by decide +kernel
theorem dX4_isHighIn_23 : decode cX4_isHighIn 23 = .ok (.invokevirtual 140, 3) := by decide +kernel
theorem dX4_isHighIn_26 : decode cX4_isHighIn 26 = .ok (.if_icmp .lt 8, 3) := by decide +kernel
theorem dX4_isHighIn_29 : decode cX4_isHighIn 29 = .ok (.iload 4, 2) := by decide +kernel
theorem dX4_isHighIn_31 : decode cX4_isHighIn 31 = .ok (.goto 7, 3) := by decide +kernel
theorem dX4_isHighIn_34 : decode cX4_isHighIn 34 = .ok (.iload_n 3, 1) := by decide +kernel
theorem dX4_isHighIn_35 : decode cX4_isHighIn 35 = .ok (.invokestatic 118, 3) := by decide +kernel
theorem dX4_isHighIn_38 : decode cX4_isHighIn 38 = .ok (.istore 5, 2) := by decide +kernel
theorem dX4_isHighIn_40 : decode cX4_isHighIn 40 = .ok (.aload_n 1, 1) := by decide +kernel
theorem dX4_isHighIn_41 : decode cX4_isHighIn 41 = .ok (.iload 5, 2) := by decide +kernel
theorem dX4_isHighIn_43 : decode cX4_isHighIn 43 = .ok (.bipush 40, 2) := by decide +kernel
theorem dX4_isHighIn_45 : decode cX4_isHighIn 45 = .ok (.idiv, 1) := by decide +kernel
theorem dX4_isHighIn_46 : decode cX4_isHighIn 46 = .ok (.iload 5, 2) := by decide +kernel
theorem dX4_isHighIn_48 : decode cX4_isHighIn 48 = .ok (.bipush 40, 2) := by decide +kernel
theorem dX4_isHighIn_50 : decode cX4_isHighIn 50 = .ok (.irem, 1) := by decide +kernel
theorem dX4_isHighIn_51 : decode cX4_isHighIn 51 = .ok (.invokevirtual 125, 3) := by decide +kernel
theorem dX4_isHighIn_54 : decode cX4_isHighIn 54 = .ok (.ireturn, 1) := by decide +kernel
set_option maxRecDepth 20000 in
theorem ggX4_parentOf_X4_isClosed : GoodIn wsX4_parentOf wsX4_isClosed := goodIn_r _ [13, 14, 15, 16, 17, 12, 18, 2, 97, 98, 99, 100, 101, 102, 103, 104, 105, 106, 107, 108] (by decide +kernel) (by decide +kernel)
set_option maxRecDepth 20000 in
theorem gX4_parentOf_X4_isClosed : GoodIn wsX4_parentOf (wsV RX4 128 RX4 yX4_isClosed wsX4_isClosed) := goodIn_app (goodIn_of _ (by decide +kernel)) ggX4_parentOf_X4_isClosed
set_option maxRecDepth 20000 in
theorem ggX4_parentOf_X0_outline : GoodIn wsX4_parentOf wsX0_outline := goodIn_r _ [23, 24, 25, 26, 27, 28, 29, 30, 31, 12, 32, 33, 15, 16, 17, 18, 2, 34, 35, 36, 37, 38, 39, 40, 41, 42, 22, 43, 44, 45, 46, 47, 48, 49, 50, 51, 52, 53, 54, 55, 56, 57, 109, 110, 97, 98, 99, 100, 101, 102, 103, 104, 105, 106, 107, 108] (by decide +kernel) (by decide +kernel)
set_option maxRecDepth 20000 in
theorem gX4_parentOf_X0_outline : GoodIn wsX4_parentOf (wsV RX4 121 RX0 yX0_outline wsX0_outline) := goodIn_app (goodIn_of _ (by decide +kernel)) ggX4_parentOf_X0_outline
set_option maxRecDepth 20000 in
theorem ggX4_parentOf_X4_levelUnits : GoodIn wsX4_parentOf wsX4_levelUnits := goodIn_r _ [61, 62, 63, 64, 65, 12, 66, 67, 15, 16, 17, 18, 2, 97, 98, 99, 100, 101, 102, 103, 104, 105, 106, 107, 108] (by decide +kernel) (by decide +kernel)
set_option maxRecDepth 20000 in
theorem gX4_parentOf_X4_levelUnits : GoodIn wsX4_parentOf (wsV RX4 140 RX4 yX4_levelUnits wsX4_levelUnits) := goodIn_app (goodIn_of _ (by decide +kernel)) ggX4_parentOf_X4_levelUnits
set_option maxRecDepth 20000 in
theorem ggX4_parentOf_X4_isAround : GoodIn wsX4_parentOf wsX4_isAround := goodIn_r _ [71, 3, 1, 8, 72, 73, 74, 22, 75, 24, 76, 58, 59, 60, 12, 61, 62, 63, 64, 65, 66, 67, 15, 16, 17, 18, 2, 77, 78, 79, 80, 81, 82, 35, 36, 37, 33, 38, 39, 30, 31, 32, 83, 84, 85, 86, 87, 88, 89, 90, 91, 92, 93, 94, 95, 96, 97, 98, 99, 100, 101, 102, 103, 104, 105, 106, 107, 108, 109, 110, 111, 112, 113, 114] (by decide +kernel) (by decide +kernel)
set_option maxRecDepth 20000 in
theorem gX4_parentOf_X4_isAround : GoodIn wsX4_parentOf (wsV RX4 148 RX4 yX4_isAround wsX4_isAround) := goodIn_app (goodIn_of _ (by decide +kernel)) ggX4_parentOf_X4_isAround
theorem dX4_parentOf_0 : decode cX4_parentOf 0 = .ok (.aload_n 0, 1) := by decide +kernel
theorem dX4_parentOf_1 : decode cX4_parentOf 1 = .ok (.iload_n 1, 1) := by decide +kernel
theorem dX4_parentOf_2 : decode cX4_parentOf 2 = .ok (.invokevirtual 128, 3) := by decide +kernel
theorem dX4_parentOf_5 : decode cX4_parentOf 5 = .ok (.ifCond .ne 5, 3) := by decide +kernel
theorem dX4_parentOf_8 : decode cX4_parentOf 8 = .ok (.iconst (-1), 1) := by decide +kernel
theorem dX4_parentOf_9 : decode cX4_parentOf 9 = .ok (.ireturn, 1) := by decide +kernel
theorem dX4_parentOf_10 : decode cX4_parentOf 10 = .ok (.aload_n 0, 1) := by decide +kernel
theorem dX4_parentOf_11 : decode cX4_parentOf 11 = .ok (.getfield 49, 3) := by decide +kernel
theorem dX4_parentOf_14 : decode cX4_parentOf 14 = .ok (.aload_n 0, 1) := by decide +kernel
theorem dX4_parentOf_15 : decode cX4_parentOf 15 = .ok (.iload_n 1, 1) := by decide +kernel
theorem dX4_parentOf_16 : decode cX4_parentOf 16 = .ok (.invokevirtual 121, 3) := by decide +kernel
theorem dX4_parentOf_19 : decode cX4_parentOf 19 = .ok (.iconst (-1), 1) := by decide +kernel
theorem dX4_parentOf_20 : decode cX4_parentOf 20 = .ok (.istore_n 2, 1) := by decide +kernel
theorem dX4_parentOf_21 : decode cX4_parentOf 21 = .ok (.iconst 0, 1) := by decide +kernel
theorem dX4_parentOf_22 : decode cX4_parentOf 22 = .ok (.istore_n 3, 1) := by decide +kernel
theorem dX4_parentOf_23 : decode cX4_parentOf 23 = .ok (.iconst 0, 1) := by decide +kernel
theorem dX4_parentOf_24 : decode cX4_parentOf 24 = .ok (.istore 4, 2) := by decide +kernel
theorem dX4_parentOf_26 : decode cX4_parentOf 26 = .ok (.iconst 0, 1) := by decide +kernel
theorem dX4_parentOf_27 : decode cX4_parentOf 27 = .ok (.istore 5, 2) := by decide +kernel
theorem dX4_parentOf_29 : decode cX4_parentOf 29 = .ok (.iload 5, 2) := by decide +kernel
theorem dX4_parentOf_31 : decode cX4_parentOf 31 = .ok (.aload_n 0, 1) := by decide +kernel
theorem dX4_parentOf_32 : decode cX4_parentOf 32 = .ok (.getfield 55, 3) := by decide +kernel
theorem dX4_parentOf_35 : decode cX4_parentOf 35 = .ok (.if_icmp .ge 122, 3) := by decide +kernel
theorem dX4_parentOf_38 : decode cX4_parentOf 38 = .ok (.iload 5, 2) := by decide +kernel
theorem dX4_parentOf_40 : decode cX4_parentOf 40 = .ok (.iload_n 1, 1) := by decide +kernel
theorem dX4_parentOf_41 : decode cX4_parentOf 41 = .ok (.if_icmp .eq 110, 3) := by decide +kernel
theorem dX4_parentOf_44 : decode cX4_parentOf 44 = .ok (.aload_n 0, 1) := by decide +kernel
theorem dX4_parentOf_45 : decode cX4_parentOf 45 = .ok (.iload 5, 2) := by decide +kernel
theorem dX4_parentOf_47 : decode cX4_parentOf 47 = .ok (.invokevirtual 128, 3) := by decide +kernel
theorem dX4_parentOf_50 : decode cX4_parentOf 50 = .ok (.ifCond .eq 101, 3) := by decide +kernel
theorem dX4_parentOf_53 : decode cX4_parentOf 53 = .ok (.aload_n 0, 1) := by decide +kernel
theorem dX4_parentOf_54 : decode cX4_parentOf 54 = .ok (.getfield 52, 3) := by decide +kernel
theorem dX4_parentOf_57 : decode cX4_parentOf 57 = .ok (.aload_n 0, 1) := by decide +kernel
theorem dX4_parentOf_58 : decode cX4_parentOf 58 = .ok (.iload 5, 2) := by decide +kernel
theorem dX4_parentOf_60 : decode cX4_parentOf 60 = .ok (.invokevirtual 121, 3) := by decide +kernel
theorem dX4_parentOf_63 : decode cX4_parentOf 63 = .ok (.aload_n 0, 1) := by decide +kernel
theorem dX4_parentOf_64 : decode cX4_parentOf 64 = .ok (.iload 5, 2) := by decide +kernel
theorem dX4_parentOf_66 : decode cX4_parentOf 66 = .ok (.invokevirtual 140, 3) := by decide +kernel
theorem dX4_parentOf_69 : decode cX4_parentOf 69 = .ok (.aload_n 0, 1) := by decide +kernel
theorem dX4_parentOf_70 : decode cX4_parentOf 70 = .ok (.iload_n 1, 1) := by decide +kernel
theorem dX4_parentOf_71 : decode cX4_parentOf 71 = .ok (.invokevirtual 140, 3) := by decide +kernel
theorem dX4_parentOf_74 : decode cX4_parentOf 74 = .ok (.isub, 1) := by decide +kernel
theorem dX4_parentOf_75 : decode cX4_parentOf 75 = .ok (.invokestatic 143, 3) := by decide +kernel
theorem dX4_parentOf_78 : decode cX4_parentOf 78 = .ok (.istore 6, 2) := by decide +kernel
theorem dX4_parentOf_80 : decode cX4_parentOf 80 = .ok (.aload_n 0, 1) := by decide +kernel
theorem dX4_parentOf_81 : decode cX4_parentOf 81 = .ok (.getfield 52, 3) := by decide +kernel
theorem dX4_parentOf_84 : decode cX4_parentOf 84 = .ok (.getfield 131, 3) := by decide +kernel
theorem dX4_parentOf_87 : decode cX4_parentOf 87 = .ok (.iload_n 3, 1) := by decide +kernel
theorem dX4_parentOf_88 : decode cX4_parentOf 88 = .ok (.if_icmp .lt 21, 3) := by decide +kernel
theorem dX4_parentOf_91 : decode cX4_parentOf 91 = .ok (.aload_n 0, 1) := by decide +kernel
theorem dX4_parentOf_92 : decode cX4_parentOf 92 = .ok (.getfield 52, 3) := by decide +kernel
theorem dX4_parentOf_95 : decode cX4_parentOf 95 = .ok (.getfield 131, 3) := by decide +kernel
theorem dX4_parentOf_98 : decode cX4_parentOf 98 = .ok (.iload_n 3, 1) := by decide +kernel
theorem dX4_parentOf_99 : decode cX4_parentOf 99 = .ok (.if_icmp .ne 14, 3) := by decide +kernel
theorem dX4_parentOf_102 : decode cX4_parentOf 102 = .ok (.iload 6, 2) := by decide +kernel
theorem dX4_parentOf_104 : decode cX4_parentOf 104 = .ok (.iload 4, 2) := by decide +kernel
theorem dX4_parentOf_106 : decode cX4_parentOf 106 = .ok (.if_icmp .ge 7, 3) := by decide +kernel
theorem dX4_parentOf_109 : decode cX4_parentOf 109 = .ok (.iconst 1, 1) := by decide +kernel
theorem dX4_parentOf_110 : decode cX4_parentOf 110 = .ok (.goto 4, 3) := by decide +kernel
theorem dX4_parentOf_113 : decode cX4_parentOf 113 = .ok (.iconst 0, 1) := by decide +kernel
theorem dX4_parentOf_114 : decode cX4_parentOf 114 = .ok (.istore 7, 2) := by decide +kernel
theorem dX4_parentOf_116 : decode cX4_parentOf 116 = .ok (.iload_n 2, 1) := by decide +kernel
theorem dX4_parentOf_117 : decode cX4_parentOf 117 = .ok (.iconst (-1), 1) := by decide +kernel
theorem dX4_parentOf_118 : decode cX4_parentOf 118 = .ok (.if_icmp .eq 8, 3) := by decide +kernel
theorem dX4_parentOf_121 : decode cX4_parentOf 121 = .ok (.iload 7, 2) := by decide +kernel
theorem dX4_parentOf_123 : decode cX4_parentOf 123 = .ok (.ifCond .eq 28, 3) := by decide +kernel
theorem dX4_parentOf_126 : decode cX4_parentOf 126 = .ok (.aload_n 0, 1) := by decide +kernel
theorem dX4_parentOf_127 : decode cX4_parentOf 127 = .ok (.iload 5, 2) := by decide +kernel
theorem dX4_parentOf_129 : decode cX4_parentOf 129 = .ok (.iload_n 1, 1) := by decide +kernel
theorem dX4_parentOf_130 : decode cX4_parentOf 130 = .ok (.invokevirtual 148, 3) := by decide +kernel
theorem dX4_parentOf_133 : decode cX4_parentOf 133 = .ok (.ifCond .eq 18, 3) := by decide +kernel
theorem dX4_parentOf_136 : decode cX4_parentOf 136 = .ok (.iload 5, 2) := by decide +kernel
theorem dX4_parentOf_138 : decode cX4_parentOf 138 = .ok (.istore_n 2, 1) := by decide +kernel
theorem dX4_parentOf_139 : decode cX4_parentOf 139 = .ok (.aload_n 0, 1) := by decide +kernel
theorem dX4_parentOf_140 : decode cX4_parentOf 140 = .ok (.getfield 52, 3) := by decide +kernel
theorem dX4_parentOf_143 : decode cX4_parentOf 143 = .ok (.getfield 131, 3) := by decide +kernel
theorem dX4_parentOf_146 : decode cX4_parentOf 146 = .ok (.istore_n 3, 1) := by decide +kernel
theorem dX4_parentOf_147 : decode cX4_parentOf 147 = .ok (.iload 6, 2) := by decide +kernel
theorem dX4_parentOf_149 : decode cX4_parentOf 149 = .ok (.istore 4, 2) := by decide +kernel
theorem dX4_parentOf_151 : decode cX4_parentOf 151 = .ok (.iinc 5 1, 3) := by decide +kernel
theorem dX4_parentOf_154 : decode cX4_parentOf 154 = .ok (.goto (-125), 3) := by decide +kernel
theorem dX4_parentOf_157 : decode cX4_parentOf 157 = .ok (.iload_n 2, 1) := by decide +kernel
theorem dX4_parentOf_158 : decode cX4_parentOf 158 = .ok (.ireturn, 1) := by decide +kernel
set_option maxRecDepth 20000 in
theorem ggX4_isAround_X0_covers : GoodIn wsX4_isAround wsX0_covers := goodIn_r _ [8, 9, 10, 68, 69] (by decide +kernel) (by decide +kernel)
set_option maxRecDepth 20000 in
theorem gX4_isAround_X0_covers : GoodIn wsX4_isAround (wsV RX4 151 RX0 yX0_covers wsX0_covers) := goodIn_app (goodIn_of _ (by decide +kernel)) ggX4_isAround_X0_covers
set_option maxRecDepth 20000 in
theorem ggX4_isAround_X4_levelUnits : GoodIn wsX4_isAround wsX4_levelUnits := goodIn_r _ [15, 16, 17, 18, 19, 14, 20, 21, 22, 23, 24, 25, 26, 56, 57, 58, 59, 60, 61, 62, 63, 64, 65, 66, 67] (by decide +kernel) (by decide +kernel)
set_option maxRecDepth 20000 in
theorem gX4_isAround_X4_levelUnits : GoodIn wsX4_isAround (wsV RX4 140 RX4 yX4_levelUnits wsX4_levelUnits) := goodIn_app (goodIn_of _ (by decide +kernel)) ggX4_isAround_X4_levelUnits
set_option maxRecDepth 20000 in
theorem ggX4_isAround_X4_isHighIn : GoodIn wsX4_isAround wsX4_isHighIn := goodIn_r _ [30, 31, 32, 33, 34, 14, 35, 36, 37, 22, 23, 24, 25, 26, 38, 39, 40, 41, 42, 43, 44, 45, 46, 47, 48, 11, 12, 13, 15, 16, 17, 18, 19, 20, 21, 49, 50, 51, 52, 53, 54, 7, 55, 9, 56, 57, 58, 59, 60, 61, 62, 63, 64, 65, 66, 67, 70, 71, 72, 73, 68, 69] (by decide +kernel) (by decide +kernel)
set_option maxRecDepth 20000 in
theorem gX4_isAround_X4_isHighIn : GoodIn wsX4_isAround (wsV RX4 132 RX4 yX4_isHighIn wsX4_isHighIn) := goodIn_app (goodIn_of _ (by decide +kernel)) ggX4_isAround_X4_isHighIn
theorem dX4_isAround_0 : decode cX4_isAround 0 = .ok (.aload_n 0, 1) := by decide +kernel
theorem dX4_isAround_1 : decode cX4_isAround 1 = .ok (.getfield 52, 3) := by decide +kernel
theorem dX4_isAround_4 : decode cX4_isAround 4 = .ok (.aload_n 0, 1) := by decide +kernel
theorem dX4_isAround_5 : decode cX4_isAround 5 = .ok (.getfield 49, 3) := by decide +kernel
theorem dX4_isAround_8 : decode cX4_isAround 8 = .ok (.invokevirtual 151, 3) := by decide +kernel
theorem dX4_isAround_11 : decode cX4_isAround 11 = .ok (.ifCond .ne 5, 3) := by decide +kernel
theorem dX4_isAround_14 : decode cX4_isAround 14 = .ok (.iconst 0, 1) := by decide +kernel
theorem dX4_isAround_15 : decode cX4_isAround 15 = .ok (.ireturn, 1) := by decide +kernel
theorem dX4_isAround_16 : decode cX4_isAround 16 = .ok (.aload_n 0, 1) := by decide +kernel
theorem dX4_isAround_17 : decode cX4_isAround 17 = .ok (.getfield 52, 3) := by decide +kernel
theorem dX4_isAround_20 : decode cX4_isAround 20 = .ok (.getfield 131, 3) := by decide +kernel
theorem dX4_isAround_23 : decode cX4_isAround 23 = .ok (.aload_n 0, 1) := by decide +kernel
theorem dX4_isAround_24 : decode cX4_isAround 24 = .ok (.getfield 49, 3) := by decide +kernel
theorem dX4_isAround_27 : decode cX4_isAround 27 = .ok (.getfield 131, 3) := by decide +kernel
theorem dX4_isAround_30 : decode cX4_isAround 30 = .ok (.if_icmp .eq 5, 3) := by decide +kernel
theorem dX4_isAround_33 : decode cX4_isAround 33 = .ok (.iconst 1, 1) := by decide +kernel
theorem dX4_isAround_34 : decode cX4_isAround 34 = .ok (.ireturn, 1) := by decide +kernel
theorem dX4_isAround_35 : decode cX4_isAround 35 = .ok (.aload_n 0, 1) := by decide +kernel
theorem dX4_isAround_36 : decode cX4_isAround 36 = .ok (.iload_n 1, 1) := by decide +kernel
theorem dX4_isAround_37 : decode cX4_isAround 37 = .ok (.invokevirtual 140, 3) := by decide +kernel
theorem dX4_isAround_40 : decode cX4_isAround 40 = .ok (.istore_n 3, 1) := by decide +kernel
theorem dX4_isAround_41 : decode cX4_isAround 41 = .ok (.aload_n 0, 1) := by decide +kernel
theorem dX4_isAround_42 : decode cX4_isAround 42 = .ok (.iload_n 2, 1) := by decide +kernel
theorem dX4_isAround_43 : decode cX4_isAround 43 = .ok (.invokevirtual 140, 3) := by decide +kernel
theorem dX4_isAround_46 : decode cX4_isAround 46 = .ok (.istore 4, 2) := by decide +kernel
theorem dX4_isAround_48 : decode cX4_isAround 48 = .ok (.aload_n 0, 1) := by decide +kernel
theorem dX4_isAround_49 : decode cX4_isAround 49 = .ok (.aload_n 0, 1) := by decide +kernel
theorem dX4_isAround_50 : decode cX4_isAround 50 = .ok (.getfield 52, 3) := by decide +kernel
theorem dX4_isAround_53 : decode cX4_isAround 53 = .ok (.iload_n 1, 1) := by decide +kernel
theorem dX4_isAround_54 : decode cX4_isAround 54 = .ok (.invokevirtual 132, 3) := by decide +kernel
theorem dX4_isAround_57 : decode cX4_isAround 57 = .ok (.ifCond .eq 17, 3) := by decide +kernel
theorem dX4_isAround_60 : decode cX4_isAround 60 = .ok (.iload_n 3, 1) := by decide +kernel
theorem dX4_isAround_61 : decode cX4_isAround 61 = .ok (.iload 4, 2) := by decide +kernel
theorem dX4_isAround_63 : decode cX4_isAround 63 = .ok (.if_icmp .ge 7, 3) := by decide +kernel
theorem dX4_isAround_66 : decode cX4_isAround 66 = .ok (.iconst 1, 1) := by decide +kernel
theorem dX4_isAround_67 : decode cX4_isAround 67 = .ok (.goto 18, 3) := by decide +kernel
theorem dX4_isAround_70 : decode cX4_isAround 70 = .ok (.iconst 0, 1) := by decide +kernel
theorem dX4_isAround_71 : decode cX4_isAround 71 = .ok (.goto 14, 3) := by decide +kernel
theorem dX4_isAround_74 : decode cX4_isAround 74 = .ok (.iload_n 3, 1) := by decide +kernel
theorem dX4_isAround_75 : decode cX4_isAround 75 = .ok (.iload 4, 2) := by decide +kernel
theorem dX4_isAround_77 : decode cX4_isAround 77 = .ok (.if_icmp .le 7, 3) := by decide +kernel
theorem dX4_isAround_80 : decode cX4_isAround 80 = .ok (.iconst 1, 1) := by decide +kernel
theorem dX4_isAround_81 : decode cX4_isAround 81 = .ok (.goto 4, 3) := by decide +kernel
theorem dX4_isAround_84 : decode cX4_isAround 84 = .ok (.iconst 0, 1) := by decide +kernel
theorem dX4_isAround_85 : decode cX4_isAround 85 = .ok (.ireturn, 1) := by decide +kernel
set_option maxRecDepth 20000 in
theorem ggX5_isHidden_X5_alongOf : GoodIn wsX5_isHidden wsX5_alongOf := goodIn_r _ [9] (by decide +kernel) (by decide +kernel)
set_option maxRecDepth 20000 in
theorem gX5_isHidden_X5_alongOf : GoodIn wsX5_isHidden (va_wsS RX5 9 yX5_alongOf wsX5_alongOf) := goodIn_app (goodIn_of _ (by decide +kernel)) ggX5_isHidden_X5_alongOf
set_option maxRecDepth 20000 in
theorem ggX5_isHidden_X2_unitsOf : GoodIn wsX5_isHidden wsX2_unitsOf := goodIn_r _ [14, 15, 16, 28, 29, 30, 31] (by decide +kernel) (by decide +kernel)
set_option maxRecDepth 20000 in
theorem gX5_isHidden_X2_unitsOf : GoodIn wsX5_isHidden (wsV RX5 21 RX2 yX2_unitsOf wsX2_unitsOf) := goodIn_app (goodIn_of _ (by decide +kernel)) ggX5_isHidden_X2_unitsOf
set_option maxRecDepth 20000 in
theorem ggX5_isHidden_X5_numberAt : GoodIn wsX5_isHidden wsX5_numberAt := goodIn_r _ [19, 20, 21, 22, 13, 23, 24, 25, 26, 27, 16, 15, 28, 29, 30, 31] (by decide +kernel) (by decide +kernel)
set_option maxRecDepth 20000 in
theorem gX5_isHidden_X5_numberAt : GoodIn wsX5_isHidden (va_wsS RX5 28 yX5_numberAt wsX5_numberAt) := goodIn_app (goodIn_of _ (by decide +kernel)) ggX5_isHidden_X5_numberAt
theorem dX5_isHidden_0 : decode cX5_isHidden 0 = .ok (.iload_n 1, 1) := by decide +kernel
theorem dX5_isHidden_1 : decode cX5_isHidden 1 = .ok (.iload 4, 2) := by decide +kernel
theorem dX5_isHidden_3 : decode cX5_isHidden 3 = .ok (.invokestatic 9, 3) := by decide +kernel
theorem dX5_isHidden_6 : decode cX5_isHidden 6 = .ok (.istore 5, 2) := by decide +kernel
theorem dX5_isHidden_8 : decode cX5_isHidden 8 = .ok (.iload_n 1, 1) := by decide +kernel
theorem dX5_isHidden_9 : decode cX5_isHidden 9 = .ok (.iload 4, 2) := by decide +kernel
theorem dX5_isHidden_11 : decode cX5_isHidden 11 = .ok (.ifCond .ne 7, 3) := by decide +kernel
theorem dX5_isHidden_14 : decode cX5_isHidden 14 = .ok (.iconst 1, 1) := by decide +kernel
theorem dX5_isHidden_15 : decode cX5_isHidden 15 = .ok (.goto 4, 3) := by decide +kernel
theorem dX5_isHidden_18 : decode cX5_isHidden 18 = .ok (.iconst 0, 1) := by decide +kernel
theorem dX5_isHidden_19 : decode cX5_isHidden 19 = .ok (.invokestatic 9, 3) := by decide +kernel
theorem dX5_isHidden_22 : decode cX5_isHidden 22 = .ok (.istore 6, 2) := by decide +kernel
theorem dX5_isHidden_24 : decode cX5_isHidden 24 = .ok (.iload_n 2, 1) := by decide +kernel
theorem dX5_isHidden_25 : decode cX5_isHidden 25 = .ok (.iload 4, 2) := by decide +kernel
theorem dX5_isHidden_27 : decode cX5_isHidden 27 = .ok (.invokestatic 9, 3) := by decide +kernel
theorem dX5_isHidden_30 : decode cX5_isHidden 30 = .ok (.iload 5, 2) := by decide +kernel
theorem dX5_isHidden_32 : decode cX5_isHidden 32 = .ok (.isub, 1) := by decide +kernel
theorem dX5_isHidden_33 : decode cX5_isHidden 33 = .ok (.istore 7, 2) := by decide +kernel
theorem dX5_isHidden_35 : decode cX5_isHidden 35 = .ok (.iload_n 2, 1) := by decide +kernel
theorem dX5_isHidden_36 : decode cX5_isHidden 36 = .ok (.iload 4, 2) := by decide +kernel
theorem dX5_isHidden_38 : decode cX5_isHidden 38 = .ok (.ifCond .ne 7, 3) := by decide +kernel
theorem dX5_isHidden_41 : decode cX5_isHidden 41 = .ok (.iconst 1, 1) := by decide +kernel
theorem dX5_isHidden_42 : decode cX5_isHidden 42 = .ok (.goto 4, 3) := by decide +kernel
theorem dX5_isHidden_45 : decode cX5_isHidden 45 = .ok (.iconst 0, 1) := by decide +kernel
theorem dX5_isHidden_46 : decode cX5_isHidden 46 = .ok (.invokestatic 9, 3) := by decide +kernel
theorem dX5_isHidden_49 : decode cX5_isHidden 49 = .ok (.iload 6, 2) := by decide +kernel
theorem dX5_isHidden_51 : decode cX5_isHidden 51 = .ok (.isub, 1) := by decide +kernel
theorem dX5_isHidden_52 : decode cX5_isHidden 52 = .ok (.istore 8, 2) := by decide +kernel
theorem dX5_isHidden_54 : decode cX5_isHidden 54 = .ok (.iload 7, 2) := by decide +kernel
theorem dX5_isHidden_56 : decode cX5_isHidden 56 = .ok (.invokestatic 15, 3) := by decide +kernel
theorem dX5_isHidden_59 : decode cX5_isHidden 59 = .ok (.istore 9, 2) := by decide +kernel
theorem dX5_isHidden_61 : decode cX5_isHidden 61 = .ok (.aload_n 0, 1) := by decide +kernel
theorem dX5_isHidden_62 : decode cX5_isHidden 62 = .ok (.iload_n 1, 1) := by decide +kernel
theorem dX5_isHidden_63 : decode cX5_isHidden 63 = .ok (.invokevirtual 21, 3) := by decide +kernel
theorem dX5_isHidden_66 : decode cX5_isHidden 66 = .ok (.i2l, 1) := by decide +kernel
theorem dX5_isHidden_67 : decode cX5_isHidden 67 = .ok (.ldc2_w 26, 3) := by decide +kernel
theorem dX5_isHidden_70 : decode cX5_isHidden 70 = .ok (.iload_n 3, 1) := by decide +kernel
theorem dX5_isHidden_71 : decode cX5_isHidden 71 = .ok (.i2l, 1) := by decide +kernel
theorem dX5_isHidden_72 : decode cX5_isHidden 72 = .ok (.lmul, 1) := by decide +kernel
theorem dX5_isHidden_73 : decode cX5_isHidden 73 = .ok (.ladd, 1) := by decide +kernel
theorem dX5_isHidden_74 : decode cX5_isHidden 74 = .ok (.lstore 10, 2) := by decide +kernel
theorem dX5_isHidden_76 : decode cX5_isHidden 76 = .ok (.iconst 1, 1) := by decide +kernel
theorem dX5_isHidden_77 : decode cX5_isHidden 77 = .ok (.istore 12, 2) := by decide +kernel
theorem dX5_isHidden_79 : decode cX5_isHidden 79 = .ok (.iload 12, 2) := by decide +kernel
theorem dX5_isHidden_81 : decode cX5_isHidden 81 = .ok (.iload 9, 2) := by decide +kernel
theorem dX5_isHidden_83 : decode cX5_isHidden 83 = .ok (.if_icmp .ge 154, 3) := by decide +kernel
theorem dX5_isHidden_86 : decode cX5_isHidden 86 = .ok (.lload 10, 2) := by decide +kernel
theorem dX5_isHidden_88 : decode cX5_isHidden 88 = .ok (.iload 9, 2) := by decide +kernel
theorem dX5_isHidden_90 : decode cX5_isHidden 90 = .ok (.iload 12, 2) := by decide +kernel
theorem dX5_isHidden_92 : decode cX5_isHidden 92 = .ok (.isub, 1) := by decide +kernel
theorem dX5_isHidden_93 : decode cX5_isHidden 93 = .ok (.i2l, 1) := by decide +kernel
theorem dX5_isHidden_94 : decode cX5_isHidden 94 = .ok (.lmul, 1) := by decide +kernel
theorem dX5_isHidden_95 : decode cX5_isHidden 95 = .ok (.aload_n 0, 1) := by decide +kernel
theorem dX5_isHidden_96 : decode cX5_isHidden 96 = .ok (.iload_n 2, 1) := by decide +kernel
theorem dX5_isHidden_97 : decode cX5_isHidden 97 = .ok (.invokevirtual 21, 3) := by decide +kernel
theorem dX5_isHidden_100 : decode cX5_isHidden 100 = .ok (.i2l, 1) := by decide +kernel
theorem dX5_isHidden_101 : decode cX5_isHidden 101 = .ok (.iload 12, 2) := by decide +kernel
theorem dX5_isHidden_103 : decode cX5_isHidden 103 = .ok (.i2l, 1) := by decide +kernel
theorem dX5_isHidden_104 : decode cX5_isHidden 104 = .ok (.lmul, 1) := by decide +kernel
theorem dX5_isHidden_105 : decode cX5_isHidden 105 = .ok (.ladd, 1) := by decide +kernel
theorem dX5_isHidden_106 : decode cX5_isHidden 106 = .ok (.lstore 13, 2) := by decide +kernel
theorem dX5_isHidden_108 : decode cX5_isHidden 108 = .ok (.iload 5, 2) := by decide +kernel
theorem dX5_isHidden_110 : decode cX5_isHidden 110 = .ok (.iload 7, 2) := by decide +kernel
theorem dX5_isHidden_112 : decode cX5_isHidden 112 = .ok (.ifCond .le 8, 3) := by decide +kernel
theorem dX5_isHidden_115 : decode cX5_isHidden 115 = .ok (.iload 12, 2) := by decide +kernel
theorem dX5_isHidden_117 : decode cX5_isHidden 117 = .ok (.goto 6, 3) := by decide +kernel
theorem dX5_isHidden_120 : decode cX5_isHidden 120 = .ok (.iload 12, 2) := by decide +kernel
theorem dX5_isHidden_122 : decode cX5_isHidden 122 = .ok (.ineg, 1) := by decide +kernel
theorem dX5_isHidden_123 : decode cX5_isHidden 123 = .ok (.iadd, 1) := by decide +kernel
theorem dX5_isHidden_124 : decode cX5_isHidden 124 = .ok (.istore 15, 2) := by decide +kernel
theorem dX5_isHidden_126 : decode cX5_isHidden 126 = .ok (.iload 6, 2) := by decide +kernel
theorem dX5_isHidden_128 : decode cX5_isHidden 128 = .ok (.iload 9, 2) := by decide +kernel
theorem dX5_isHidden_130 : decode cX5_isHidden 130 = .ok (.imul, 1) := by decide +kernel
theorem dX5_isHidden_131 : decode cX5_isHidden 131 = .ok (.iload 8, 2) := by decide +kernel
theorem dX5_isHidden_133 : decode cX5_isHidden 133 = .ok (.iload 12, 2) := by decide +kernel
theorem dX5_isHidden_135 : decode cX5_isHidden 135 = .ok (.imul, 1) := by decide +kernel
theorem dX5_isHidden_136 : decode cX5_isHidden 136 = .ok (.iadd, 1) := by decide +kernel
theorem dX5_isHidden_137 : decode cX5_isHidden 137 = .ok (.istore 16, 2) := by decide +kernel
theorem dX5_isHidden_139 : decode cX5_isHidden 139 = .ok (.aload_n 0, 1) := by decide +kernel
theorem dX5_isHidden_140 : decode cX5_isHidden 140 = .ok (.iload 15, 2) := by decide +kernel
theorem dX5_isHidden_142 : decode cX5_isHidden 142 = .ok (.iload 16, 2) := by decide +kernel
theorem dX5_isHidden_144 : decode cX5_isHidden 144 = .ok (.iload 9, 2) := by decide +kernel
theorem dX5_isHidden_146 : decode cX5_isHidden 146 = .ok (.idiv, 1) := by decide +kernel
theorem dX5_isHidden_147 : decode cX5_isHidden 147 = .ok (.iload 4, 2) := by decide +kernel
theorem dX5_isHidden_149 : decode cX5_isHidden 149 = .ok (.invokestatic 28, 3) := by decide +kernel
theorem dX5_isHidden_152 : decode cX5_isHidden 152 = .ok (.istore 17, 2) := by decide +kernel
theorem dX5_isHidden_154 : decode cX5_isHidden 154 = .ok (.aload_n 0, 1) := by decide +kernel
theorem dX5_isHidden_155 : decode cX5_isHidden 155 = .ok (.iload 15, 2) := by decide +kernel
theorem dX5_isHidden_157 : decode cX5_isHidden 157 = .ok (.iload 16, 2) := by decide +kernel
theorem dX5_isHidden_159 : decode cX5_isHidden 159 = .ok (.iload 9, 2) := by decide +kernel
theorem dX5_isHidden_161 : decode cX5_isHidden 161 = .ok (.iadd, 1) := by decide +kernel
theorem dX5_isHidden_162 : decode cX5_isHidden 162 = .ok (.iconst 1, 1) := by decide +kernel
theorem dX5_isHidden_163 : decode cX5_isHidden 163 = .ok (.isub, 1) := by decide +kernel
theorem dX5_isHidden_164 : decode cX5_isHidden 164 = .ok (.iload 9, 2) := by decide +kernel
theorem dX5_isHidden_166 : decode cX5_isHidden 166 = .ok (.idiv, 1) := by decide +kernel
theorem dX5_isHidden_167 : decode cX5_isHidden 167 = .ok (.iload 4, 2) := by decide +kernel
theorem dX5_isHidden_169 : decode cX5_isHidden 169 = .ok (.invokestatic 28, 3) := by decide +kernel
theorem dX5_isHidden_172 : decode cX5_isHidden 172 = .ok (.istore 18, 2) := by decide +kernel
theorem dX5_isHidden_174 : decode cX5_isHidden 174 = .ok (.iload 16, 2) := by decide +kernel
theorem dX5_isHidden_176 : decode cX5_isHidden 176 = .ok (.iload 9, 2) := by decide +kernel
theorem dX5_isHidden_178 : decode cX5_isHidden 178 = .ok (.irem, 1) := by decide +kernel
theorem dX5_isHidden_179 : decode cX5_isHidden 179 = .ok (.istore 19, 2) := by decide +kernel
theorem dX5_isHidden_181 : decode cX5_isHidden 181 = .ok (.iload 17, 2) := by decide +kernel
theorem dX5_isHidden_183 : decode cX5_isHidden 183 = .ok (.iconst (-1), 1) := by decide +kernel
theorem dX5_isHidden_184 : decode cX5_isHidden 184 = .ok (.if_icmp .eq 47, 3) := by decide +kernel
theorem dX5_isHidden_187 : decode cX5_isHidden 187 = .ok (.iload 18, 2) := by decide +kernel
theorem dX5_isHidden_189 : decode cX5_isHidden 189 = .ok (.iconst (-1), 1) := by decide +kernel
theorem dX5_isHidden_190 : decode cX5_isHidden 190 = .ok (.if_icmp .eq 41, 3) := by decide +kernel
theorem dX5_isHidden_193 : decode cX5_isHidden 193 = .ok (.aload_n 0, 1) := by decide +kernel
theorem dX5_isHidden_194 : decode cX5_isHidden 194 = .ok (.iload 17, 2) := by decide +kernel
theorem dX5_isHidden_196 : decode cX5_isHidden 196 = .ok (.invokevirtual 21, 3) := by decide +kernel
theorem dX5_isHidden_199 : decode cX5_isHidden 199 = .ok (.i2l, 1) := by decide +kernel
theorem dX5_isHidden_200 : decode cX5_isHidden 200 = .ok (.iload 9, 2) := by decide +kernel
theorem dX5_isHidden_202 : decode cX5_isHidden 202 = .ok (.iload 19, 2) := by decide +kernel
theorem dX5_isHidden_204 : decode cX5_isHidden 204 = .ok (.isub, 1) := by decide +kernel
theorem dX5_isHidden_205 : decode cX5_isHidden 205 = .ok (.i2l, 1) := by decide +kernel
theorem dX5_isHidden_206 : decode cX5_isHidden 206 = .ok (.lmul, 1) := by decide +kernel
theorem dX5_isHidden_207 : decode cX5_isHidden 207 = .ok (.aload_n 0, 1) := by decide +kernel
theorem dX5_isHidden_208 : decode cX5_isHidden 208 = .ok (.iload 18, 2) := by decide +kernel
theorem dX5_isHidden_210 : decode cX5_isHidden 210 = .ok (.invokevirtual 21, 3) := by decide +kernel
theorem dX5_isHidden_213 : decode cX5_isHidden 213 = .ok (.i2l, 1) := by decide +kernel
theorem dX5_isHidden_214 : decode cX5_isHidden 214 = .ok (.iload 19, 2) := by decide +kernel
theorem dX5_isHidden_216 : decode cX5_isHidden 216 = .ok (.i2l, 1) := by decide +kernel
theorem dX5_isHidden_217 : decode cX5_isHidden 217 = .ok (.lmul, 1) := by decide +kernel
theorem dX5_isHidden_218 : decode cX5_isHidden 218 = .ok (.ladd, 1) := by decide +kernel
theorem dX5_isHidden_219 : decode cX5_isHidden 219 = .ok (.lstore 20, 2) := by decide +kernel
theorem dX5_isHidden_221 : decode cX5_isHidden 221 = .ok (.lload 20, 2) := by decide +kernel
theorem dX5_isHidden_223 : decode cX5_isHidden 223 = .ok (.lload 13, 2) := by decide +kernel
theorem dX5_isHidden_225 : decode cX5_isHidden 225 = .ok (.lcmp, 1) := by decide +kernel
theorem dX5_isHidden_226 : decode cX5_isHidden 226 = .ok (.ifCond .le 5, 3) := by decide +kernel
theorem dX5_isHidden_229 : decode cX5_isHidden 229 = .ok (.iconst 1, 1) := by decide +kernel
theorem dX5_isHidden_230 : decode cX5_isHidden 230 = .ok (.ireturn, 1) := by decide +kernel
theorem dX5_isHidden_231 : decode cX5_isHidden 231 = .ok (.iinc 12 1, 3) := by decide +kernel
theorem dX5_isHidden_234 : decode cX5_isHidden 234 = .ok (.goto (-155), 3) := by decide +kernel
theorem dX5_isHidden_237 : decode cX5_isHidden 237 = .ok (.iconst 0, 1) := by decide +kernel
theorem dX5_isHidden_238 : decode cX5_isHidden 238 = .ok (.ireturn, 1) := by decide +kernel
theorem dX5_alongOf_0 : decode cX5_alongOf 0 = .ok (.iload_n 1, 1) := by decide +kernel
theorem dX5_alongOf_1 : decode cX5_alongOf 1 = .ok (.ifCond .eq 10, 3) := by decide +kernel
theorem dX5_alongOf_4 : decode cX5_alongOf 4 = .ok (.iload_n 0, 1) := by decide +kernel
theorem dX5_alongOf_5 : decode cX5_alongOf 5 = .ok (.bipush 40, 2) := by decide +kernel
theorem dX5_alongOf_7 : decode cX5_alongOf 7 = .ok (.idiv, 1) := by decide +kernel
theorem dX5_alongOf_8 : decode cX5_alongOf 8 = .ok (.goto 7, 3) := by decide +kernel
theorem dX5_alongOf_11 : decode cX5_alongOf 11 = .ok (.iload_n 0, 1) := by decide +kernel
theorem dX5_alongOf_12 : decode cX5_alongOf 12 = .ok (.bipush 40, 2) := by decide +kernel
theorem dX5_alongOf_14 : decode cX5_alongOf 14 = .ok (.irem, 1) := by decide +kernel
theorem dX5_alongOf_15 : decode cX5_alongOf 15 = .ok (.ireturn, 1) := by decide +kernel
set_option maxRecDepth 20000 in
theorem ggX5_numberAt_X2_numberOf : GoodIn wsX5_numberAt wsX2_numberOf := goodIn_r _ [5, 6, 7, 8, 4, 9, 10, 11, 12, 13, 14, 15] (by decide +kernel) (by decide +kernel)
set_option maxRecDepth 20000 in
theorem gX5_numberAt_X2_numberOf : GoodIn wsX5_numberAt (wsV RX5 32 RX2 yX2_numberOf wsX2_numberOf) := goodIn_app (goodIn_of _ (by decide +kernel)) ggX5_numberAt_X2_numberOf
theorem dX5_numberAt_0 : decode cX5_numberAt 0 = .ok (.iload_n 3, 1) := by decide +kernel
theorem dX5_numberAt_1 : decode cX5_numberAt 1 = .ok (.ifCond .eq 12, 3) := by decide +kernel
theorem dX5_numberAt_4 : decode cX5_numberAt 4 = .ok (.aload_n 0, 1) := by decide +kernel
theorem dX5_numberAt_5 : decode cX5_numberAt 5 = .ok (.iload_n 1, 1) := by decide +kernel
theorem dX5_numberAt_6 : decode cX5_numberAt 6 = .ok (.iload_n 2, 1) := by decide +kernel
theorem dX5_numberAt_7 : decode cX5_numberAt 7 = .ok (.invokevirtual 32, 3) := by decide +kernel
theorem dX5_numberAt_10 : decode cX5_numberAt 10 = .ok (.goto 9, 3) := by decide +kernel
theorem dX5_numberAt_13 : decode cX5_numberAt 13 = .ok (.aload_n 0, 1) := by decide +kernel
theorem dX5_numberAt_14 : decode cX5_numberAt 14 = .ok (.iload_n 2, 1) := by decide +kernel
theorem dX5_numberAt_15 : decode cX5_numberAt 15 = .ok (.iload_n 1, 1) := by decide +kernel
theorem dX5_numberAt_16 : decode cX5_numberAt 16 = .ok (.invokevirtual 32, 3) := by decide +kernel
theorem dX5_numberAt_19 : decode cX5_numberAt 19 = .ok (.ireturn, 1) := by decide +kernel
theorem dX6_init_0 : decode cX6_init 0 = .ok (.aload_n 0, 1) := by decide +kernel
theorem dX6_init_1 : decode cX6_init 1 = .ok (.invokespecial 3, 3) := by decide +kernel
theorem dX6_init_4 : decode cX6_init 4 = .ok (.aload_n 0, 1) := by decide +kernel
theorem dX6_init_5 : decode cX6_init 5 = .ok (.sipush 1280, 3) := by decide +kernel
theorem dX6_init_8 : decode cX6_init 8 = .ok (.newarray .int, 2) := by decide +kernel
theorem dX6_init_10 : decode cX6_init 10 = .ok (.putfield 9, 3) := by decide +kernel
theorem dX6_init_13 : decode cX6_init 13 = .ok (.aload_n 0, 1) := by decide +kernel
theorem dX6_init_14 : decode cX6_init 14 = .ok (.sipush 1280, 3) := by decide +kernel
theorem dX6_init_17 : decode cX6_init 17 = .ok (.newarray .long, 2) := by decide +kernel
theorem dX6_init_19 : decode cX6_init 19 = .ok (.putfield 15, 3) := by decide +kernel
theorem dX6_init_22 : decode cX6_init 22 = .ok (.aload_n 0, 1) := by decide +kernel
theorem dX6_init_23 : decode cX6_init 23 = .ok (.sipush 1280, 3) := by decide +kernel
theorem dX6_init_26 : decode cX6_init 26 = .ok (.newarray .byte, 2) := by decide +kernel
theorem dX6_init_28 : decode cX6_init 28 = .ok (.putfield 19, 3) := by decide +kernel
theorem dX6_init_31 : decode cX6_init 31 = .ok (.return_, 1) := by decide +kernel
set_option maxRecDepth 20000 in
theorem ggX6_downFrom_X2_neighbour : GoodIn wsX6_downFrom wsX2_neighbour := goodIn_r _ [6, 7, 8, 9, 5, 10, 11, 12, 13, 14, 15, 16, 21, 22, 23, 24] (by decide +kernel) (by decide +kernel)
set_option maxRecDepth 20000 in
theorem gX6_downFrom_X2_neighbour : GoodIn wsX6_downFrom (wsV RX6 23 RX2 yX2_neighbour wsX2_neighbour) := goodIn_app (goodIn_of _ (by decide +kernel)) ggX6_downFrom_X2_neighbour
set_option maxRecDepth 20000 in
theorem ggX6_downFrom_X2_unitsOf : GoodIn wsX6_downFrom wsX2_unitsOf := goodIn_r _ [20, 16, 15, 21, 22, 23, 24] (by decide +kernel) (by decide +kernel)
set_option maxRecDepth 20000 in
theorem gX6_downFrom_X2_unitsOf : GoodIn wsX6_downFrom (wsV RX6 29 RX2 yX2_unitsOf wsX2_unitsOf) := goodIn_app (goodIn_of _ (by decide +kernel)) ggX6_downFrom_X2_unitsOf
theorem dX6_downFrom_0 : decode cX6_downFrom 0 = .ok (.iconst (-1), 1) := by decide +kernel
theorem dX6_downFrom_1 : decode cX6_downFrom 1 = .ok (.istore_n 2, 1) := by decide +kernel
theorem dX6_downFrom_2 : decode cX6_downFrom 2 = .ok (.lconst 0, 1) := by decide +kernel
theorem dX6_downFrom_3 : decode cX6_downFrom 3 = .ok (.lstore_n 3, 1) := by decide +kernel
theorem dX6_downFrom_4 : decode cX6_downFrom 4 = .ok (.iconst 0, 1) := by decide +kernel
theorem dX6_downFrom_5 : decode cX6_downFrom 5 = .ok (.istore 5, 2) := by decide +kernel
theorem dX6_downFrom_7 : decode cX6_downFrom 7 = .ok (.iload 5, 2) := by decide +kernel
theorem dX6_downFrom_9 : decode cX6_downFrom 9 = .ok (.bipush 8, 2) := by decide +kernel
theorem dX6_downFrom_11 : decode cX6_downFrom 11 = .ok (.if_icmp .ge 104, 3) := by decide +kernel
theorem dX6_downFrom_14 : decode cX6_downFrom 14 = .ok (.aload_n 0, 1) := by decide +kernel
theorem dX6_downFrom_15 : decode cX6_downFrom 15 = .ok (.iload_n 1, 1) := by decide +kernel
theorem dX6_downFrom_16 : decode cX6_downFrom 16 = .ok (.iload 5, 2) := by decide +kernel
theorem dX6_downFrom_18 : decode cX6_downFrom 18 = .ok (.invokevirtual 23, 3) := by decide +kernel
theorem dX6_downFrom_21 : decode cX6_downFrom 21 = .ok (.istore 6, 2) := by decide +kernel
theorem dX6_downFrom_23 : decode cX6_downFrom 23 = .ok (.iload 6, 2) := by decide +kernel
theorem dX6_downFrom_25 : decode cX6_downFrom 25 = .ok (.iconst (-1), 1) := by decide +kernel
theorem dX6_downFrom_26 : decode cX6_downFrom 26 = .ok (.if_icmp .ne 7, 3) := by decide +kernel
theorem dX6_downFrom_29 : decode cX6_downFrom 29 = .ok (.lconst 0, 1) := by decide +kernel
theorem dX6_downFrom_30 : decode cX6_downFrom 30 = .ok (.goto 17, 3) := by decide +kernel
theorem dX6_downFrom_33 : decode cX6_downFrom 33 = .ok (.aload_n 0, 1) := by decide +kernel
theorem dX6_downFrom_34 : decode cX6_downFrom 34 = .ok (.iload_n 1, 1) := by decide +kernel
theorem dX6_downFrom_35 : decode cX6_downFrom 35 = .ok (.invokevirtual 29, 3) := by decide +kernel
theorem dX6_downFrom_38 : decode cX6_downFrom 38 = .ok (.i2l, 1) := by decide +kernel
theorem dX6_downFrom_39 : decode cX6_downFrom 39 = .ok (.aload_n 0, 1) := by decide +kernel
theorem dX6_downFrom_40 : decode cX6_downFrom 40 = .ok (.iload 6, 2) := by decide +kernel
theorem dX6_downFrom_42 : decode cX6_downFrom 42 = .ok (.invokevirtual 29, 3) := by decide +kernel
theorem dX6_downFrom_45 : decode cX6_downFrom 45 = .ok (.i2l, 1) := by decide +kernel
theorem dX6_downFrom_46 : decode cX6_downFrom 46 = .ok (.lsub, 1) := by decide +kernel
theorem dX6_downFrom_47 : decode cX6_downFrom 47 = .ok (.lstore 7, 2) := by decide +kernel
theorem dX6_downFrom_49 : decode cX6_downFrom 49 = .ok (.lload 7, 2) := by decide +kernel
theorem dX6_downFrom_51 : decode cX6_downFrom 51 = .ok (.lconst 0, 1) := by decide +kernel
theorem dX6_downFrom_52 : decode cX6_downFrom 52 = .ok (.lcmp, 1) := by decide +kernel
theorem dX6_downFrom_53 : decode cX6_downFrom 53 = .ok (.ifCond .le 56, 3) := by decide +kernel
theorem dX6_downFrom_56 : decode cX6_downFrom 56 = .ok (.iload 5, 2) := by decide +kernel
theorem dX6_downFrom_58 : decode cX6_downFrom 58 = .ok (.iconst 1, 1) := by decide +kernel
theorem dX6_downFrom_59 : decode cX6_downFrom 59 = .ok (.iand, 1) := by decide +kernel
theorem dX6_downFrom_60 : decode cX6_downFrom 60 = .ok (.iconst 1, 1) := by decide +kernel
theorem dX6_downFrom_61 : decode cX6_downFrom 61 = .ok (.if_icmp .ne 15, 3) := by decide +kernel
theorem dX6_downFrom_64 : decode cX6_downFrom 64 = .ok (.ldc2_w 33, 3) := by decide +kernel
theorem dX6_downFrom_67 : decode cX6_downFrom 67 = .ok (.lload 7, 2) := by decide +kernel
theorem dX6_downFrom_69 : decode cX6_downFrom 69 = .ok (.lmul, 1) := by decide +kernel
theorem dX6_downFrom_70 : decode cX6_downFrom 70 = .ok (.lload 7, 2) := by decide +kernel
theorem dX6_downFrom_72 : decode cX6_downFrom 72 = .ok (.lmul, 1) := by decide +kernel
theorem dX6_downFrom_73 : decode cX6_downFrom 73 = .ok (.goto 8, 3) := by decide +kernel
theorem dX6_downFrom_76 : decode cX6_downFrom 76 = .ok (.lload 7, 2) := by decide +kernel
theorem dX6_downFrom_78 : decode cX6_downFrom 78 = .ok (.lload 7, 2) := by decide +kernel
theorem dX6_downFrom_80 : decode cX6_downFrom 80 = .ok (.lmul, 1) := by decide +kernel
theorem dX6_downFrom_81 : decode cX6_downFrom 81 = .ok (.lstore 9, 2) := by decide +kernel
theorem dX6_downFrom_83 : decode cX6_downFrom 83 = .ok (.lload 9, 2) := by decide +kernel
theorem dX6_downFrom_85 : decode cX6_downFrom 85 = .ok (.lload_n 3, 1) := by decide +kernel
theorem dX6_downFrom_86 : decode cX6_downFrom 86 = .ok (.lcmp, 1) := by decide +kernel
theorem dX6_downFrom_87 : decode cX6_downFrom 87 = .ok (.ifCond .gt 16, 3) := by decide +kernel
theorem dX6_downFrom_90 : decode cX6_downFrom 90 = .ok (.lload 9, 2) := by decide +kernel
theorem dX6_downFrom_92 : decode cX6_downFrom 92 = .ok (.lload_n 3, 1) := by decide +kernel
theorem dX6_downFrom_93 : decode cX6_downFrom 93 = .ok (.lcmp, 1) := by decide +kernel
theorem dX6_downFrom_94 : decode cX6_downFrom 94 = .ok (.ifCond .ne 15, 3) := by decide +kernel
theorem dX6_downFrom_97 : decode cX6_downFrom 97 = .ok (.iload 6, 2) := by decide +kernel
theorem dX6_downFrom_99 : decode cX6_downFrom 99 = .ok (.iload_n 2, 1) := by decide +kernel
theorem dX6_downFrom_100 : decode cX6_downFrom 100 = .ok (.if_icmp .ge 9, 3) := by decide +kernel
theorem dX6_downFrom_103 : decode cX6_downFrom 103 = .ok (.iload 6, 2) := by decide +kernel
theorem dX6_downFrom_105 : decode cX6_downFrom 105 = .ok (.istore_n 2, 1) := by decide +kernel
theorem dX6_downFrom_106 : decode cX6_downFrom 106 = .ok (.lload 9, 2) := by decide +kernel
theorem dX6_downFrom_108 : decode cX6_downFrom 108 = .ok (.lstore_n 3, 1) := by decide +kernel
theorem dX6_downFrom_109 : decode cX6_downFrom 109 = .ok (.iinc 5 1, 3) := by decide +kernel
theorem dX6_downFrom_112 : decode cX6_downFrom 112 = .ok (.goto (-105), 3) := by decide +kernel
theorem dX6_downFrom_115 : decode cX6_downFrom 115 = .ok (.iload_n 2, 1) := by decide +kernel
theorem dX6_downFrom_116 : decode cX6_downFrom 116 = .ok (.ireturn, 1) := by decide +kernel
set_option maxRecDepth 20000 in
theorem ggX6_basinOf_X6_downFrom : GoodIn wsX6_basinOf wsX6_downFrom := goodIn_r _ [4, 5, 6, 7, 8, 9, 10, 11, 12, 13, 14, 15, 16, 17, 18, 19, 20, 21, 22, 23, 24, 25, 26, 27, 28] (by decide +kernel) (by decide +kernel)
set_option maxRecDepth 20000 in
theorem gX6_basinOf_X6_downFrom : GoodIn wsX6_basinOf (va_wsS RX6 35 yX6_downFrom wsX6_downFrom) := goodIn_app (goodIn_of _ (by decide +kernel)) ggX6_basinOf_X6_downFrom
theorem dX6_basinOf_0 : decode cX6_basinOf 0 = .ok (.iload_n 1, 1) := by decide +kernel
theorem dX6_basinOf_1 : decode cX6_basinOf 1 = .ok (.istore_n 2, 1) := by decide +kernel
theorem dX6_basinOf_2 : decode cX6_basinOf 2 = .ok (.iconst 0, 1) := by decide +kernel
theorem dX6_basinOf_3 : decode cX6_basinOf 3 = .ok (.istore_n 3, 1) := by decide +kernel
theorem dX6_basinOf_4 : decode cX6_basinOf 4 = .ok (.iload_n 3, 1) := by decide +kernel
theorem dX6_basinOf_5 : decode cX6_basinOf 5 = .ok (.sipush 1280, 3) := by decide +kernel
theorem dX6_basinOf_8 : decode cX6_basinOf 8 = .ok (.if_icmp .ge 27, 3) := by decide +kernel
theorem dX6_basinOf_11 : decode cX6_basinOf 11 = .ok (.aload_n 0, 1) := by decide +kernel
theorem dX6_basinOf_12 : decode cX6_basinOf 12 = .ok (.iload_n 2, 1) := by decide +kernel
theorem dX6_basinOf_13 : decode cX6_basinOf 13 = .ok (.invokestatic 35, 3) := by decide +kernel
theorem dX6_basinOf_16 : decode cX6_basinOf 16 = .ok (.istore 4, 2) := by decide +kernel
theorem dX6_basinOf_18 : decode cX6_basinOf 18 = .ok (.iload 4, 2) := by decide +kernel
theorem dX6_basinOf_20 : decode cX6_basinOf 20 = .ok (.iconst (-1), 1) := by decide +kernel
theorem dX6_basinOf_21 : decode cX6_basinOf 21 = .ok (.if_icmp .ne 5, 3) := by decide +kernel
theorem dX6_basinOf_24 : decode cX6_basinOf 24 = .ok (.iload_n 2, 1) := by decide +kernel
theorem dX6_basinOf_25 : decode cX6_basinOf 25 = .ok (.ireturn, 1) := by decide +kernel
theorem dX6_basinOf_26 : decode cX6_basinOf 26 = .ok (.iload 4, 2) := by decide +kernel
theorem dX6_basinOf_28 : decode cX6_basinOf 28 = .ok (.istore_n 2, 1) := by decide +kernel
theorem dX6_basinOf_29 : decode cX6_basinOf 29 = .ok (.iinc 3 1, 3) := by decide +kernel
theorem dX6_basinOf_32 : decode cX6_basinOf 32 = .ok (.goto (-28), 3) := by decide +kernel
theorem dX6_basinOf_35 : decode cX6_basinOf 35 = .ok (.iload_n 2, 1) := by decide +kernel
theorem dX6_basinOf_36 : decode cX6_basinOf 36 = .ok (.ireturn, 1) := by decide +kernel
set_option maxRecDepth 20000 in
theorem ggX6_streamAt_X2_neighbour : GoodIn wsX6_streamAt wsX2_neighbour := goodIn_r _ [6, 7, 8, 9, 5, 10, 11, 12, 13, 14, 15, 16, 30, 31, 32, 33] (by decide +kernel) (by decide +kernel)
set_option maxRecDepth 20000 in
theorem gX6_streamAt_X2_neighbour : GoodIn wsX6_streamAt (wsV RX6 23 RX2 yX2_neighbour wsX2_neighbour) := goodIn_app (goodIn_of _ (by decide +kernel)) ggX6_streamAt_X2_neighbour
set_option maxRecDepth 20000 in
theorem ggX6_streamAt_X6_downFrom : GoodIn wsX6_streamAt wsX6_downFrom := goodIn_r _ [20, 21, 2, 3, 4, 5, 6, 7, 8, 9, 10, 11, 12, 13, 14, 15, 16, 22, 23, 24, 25, 30, 31, 32, 33] (by decide +kernel) (by decide +kernel)
set_option maxRecDepth 20000 in
theorem gX6_streamAt_X6_downFrom : GoodIn wsX6_streamAt (va_wsS RX6 35 yX6_downFrom wsX6_downFrom) := goodIn_app (goodIn_of _ (by decide +kernel)) ggX6_streamAt_X6_downFrom
theorem dX6_streamAt_0 : decode cX6_streamAt 0 = .ok (.aload_n 0, 1) := by decide +kernel
theorem dX6_streamAt_1 : decode cX6_streamAt 1 = .ok (.getfield 9, 3) := by decide +kernel
theorem dX6_streamAt_4 : decode cX6_streamAt 4 = .ok (.iconst 0, 1) := by decide +kernel
theorem dX6_streamAt_5 : decode cX6_streamAt 5 = .ok (.iload_n 2, 1) := by decide +kernel
theorem dX6_streamAt_6 : decode cX6_streamAt 6 = .ok (.iastore, 1) := by decide +kernel
theorem dX6_streamAt_7 : decode cX6_streamAt 7 = .ok (.iconst 1, 1) := by decide +kernel
theorem dX6_streamAt_8 : decode cX6_streamAt 8 = .ok (.istore_n 3, 1) := by decide +kernel
theorem dX6_streamAt_9 : decode cX6_streamAt 9 = .ok (.iconst 0, 1) := by decide +kernel
theorem dX6_streamAt_10 : decode cX6_streamAt 10 = .ok (.istore 4, 2) := by decide +kernel
theorem dX6_streamAt_12 : decode cX6_streamAt 12 = .ok (.iload 4, 2) := by decide +kernel
theorem dX6_streamAt_14 : decode cX6_streamAt 14 = .ok (.iload_n 3, 1) := by decide +kernel
theorem dX6_streamAt_15 : decode cX6_streamAt 15 = .ok (.if_icmp .ge 88, 3) := by decide +kernel
theorem dX6_streamAt_18 : decode cX6_streamAt 18 = .ok (.iload 4, 2) := by decide +kernel
theorem dX6_streamAt_20 : decode cX6_streamAt 20 = .ok (.sipush 1280, 3) := by decide +kernel
theorem dX6_streamAt_23 : decode cX6_streamAt 23 = .ok (.if_icmp .ge 80, 3) := by decide +kernel
theorem dX6_streamAt_26 : decode cX6_streamAt 26 = .ok (.iconst 0, 1) := by decide +kernel
theorem dX6_streamAt_27 : decode cX6_streamAt 27 = .ok (.istore 5, 2) := by decide +kernel
theorem dX6_streamAt_29 : decode cX6_streamAt 29 = .ok (.iload 5, 2) := by decide +kernel
theorem dX6_streamAt_31 : decode cX6_streamAt 31 = .ok (.bipush 8, 2) := by decide +kernel
theorem dX6_streamAt_33 : decode cX6_streamAt 33 = .ok (.if_icmp .ge 64, 3) := by decide +kernel
theorem dX6_streamAt_36 : decode cX6_streamAt 36 = .ok (.aload_n 1, 1) := by decide +kernel
theorem dX6_streamAt_37 : decode cX6_streamAt 37 = .ok (.aload_n 0, 1) := by decide +kernel
theorem dX6_streamAt_38 : decode cX6_streamAt 38 = .ok (.getfield 9, 3) := by decide +kernel
theorem dX6_streamAt_41 : decode cX6_streamAt 41 = .ok (.iload 4, 2) := by decide +kernel
theorem dX6_streamAt_43 : decode cX6_streamAt 43 = .ok (.iaload, 1) := by decide +kernel
theorem dX6_streamAt_44 : decode cX6_streamAt 44 = .ok (.iload 5, 2) := by decide +kernel
theorem dX6_streamAt_46 : decode cX6_streamAt 46 = .ok (.invokevirtual 23, 3) := by decide +kernel
theorem dX6_streamAt_49 : decode cX6_streamAt 49 = .ok (.istore 6, 2) := by decide +kernel
theorem dX6_streamAt_51 : decode cX6_streamAt 51 = .ok (.iload 6, 2) := by decide +kernel
theorem dX6_streamAt_53 : decode cX6_streamAt 53 = .ok (.iconst (-1), 1) := by decide +kernel
theorem dX6_streamAt_54 : decode cX6_streamAt 54 = .ok (.if_icmp .eq 37, 3) := by decide +kernel
theorem dX6_streamAt_57 : decode cX6_streamAt 57 = .ok (.iload_n 3, 1) := by decide +kernel
theorem dX6_streamAt_58 : decode cX6_streamAt 58 = .ok (.sipush 1280, 3) := by decide +kernel
theorem dX6_streamAt_61 : decode cX6_streamAt 61 = .ok (.if_icmp .ge 30, 3) := by decide +kernel
theorem dX6_streamAt_64 : decode cX6_streamAt 64 = .ok (.aload_n 1, 1) := by decide +kernel
theorem dX6_streamAt_65 : decode cX6_streamAt 65 = .ok (.iload 6, 2) := by decide +kernel
theorem dX6_streamAt_67 : decode cX6_streamAt 67 = .ok (.invokestatic 35, 3) := by decide +kernel
theorem dX6_streamAt_70 : decode cX6_streamAt 70 = .ok (.aload_n 0, 1) := by decide +kernel
theorem dX6_streamAt_71 : decode cX6_streamAt 71 = .ok (.getfield 9, 3) := by decide +kernel
theorem dX6_streamAt_74 : decode cX6_streamAt 74 = .ok (.iload 4, 2) := by decide +kernel
theorem dX6_streamAt_76 : decode cX6_streamAt 76 = .ok (.iaload, 1) := by decide +kernel
theorem dX6_streamAt_77 : decode cX6_streamAt 77 = .ok (.if_icmp .ne 14, 3) := by decide +kernel
theorem dX6_streamAt_80 : decode cX6_streamAt 80 = .ok (.aload_n 0, 1) := by decide +kernel
theorem dX6_streamAt_81 : decode cX6_streamAt 81 = .ok (.getfield 9, 3) := by decide +kernel
theorem dX6_streamAt_84 : decode cX6_streamAt 84 = .ok (.iload_n 3, 1) := by decide +kernel
theorem dX6_streamAt_85 : decode cX6_streamAt 85 = .ok (.iload 6, 2) := by decide +kernel
theorem dX6_streamAt_87 : decode cX6_streamAt 87 = .ok (.iastore, 1) := by decide +kernel
theorem dX6_streamAt_88 : decode cX6_streamAt 88 = .ok (.iinc 3 1, 3) := by decide +kernel
theorem dX6_streamAt_91 : decode cX6_streamAt 91 = .ok (.iinc 5 1, 3) := by decide +kernel
theorem dX6_streamAt_94 : decode cX6_streamAt 94 = .ok (.goto (-65), 3) := by decide +kernel
theorem dX6_streamAt_97 : decode cX6_streamAt 97 = .ok (.iinc 4 1, 3) := by decide +kernel
theorem dX6_streamAt_100 : decode cX6_streamAt 100 = .ok (.goto (-88), 3) := by decide +kernel
theorem dX6_streamAt_103 : decode cX6_streamAt 103 = .ok (.iload_n 3, 1) := by decide +kernel
theorem dX6_streamAt_104 : decode cX6_streamAt 104 = .ok (.ireturn, 1) := by decide +kernel
set_option maxRecDepth 20000 in
theorem ggX6_filled_X6_flood : GoodIn wsX6_filled wsX6_flood := goodIn_r _ [5, 6, 7, 8, 9, 10, 11, 12, 13, 14, 15, 16, 4, 17, 18, 19, 20, 21, 22, 23, 24, 25, 26, 27, 28, 29, 30, 31, 32, 33, 34, 35, 36, 37, 38, 39, 40, 41, 42, 43, 44, 45, 46, 47, 48, 49, 50, 51, 52, 53, 54, 55, 56, 57, 58, 59, 60, 61, 62, 63, 64, 65, 66, 67, 68, 69, 70, 71, 72, 73, 74, 75, 76] (by decide +kernel) (by decide +kernel)
set_option maxRecDepth 20000 in
theorem gX6_filled_X6_flood : GoodIn wsX6_filled (wsV RX6 39 RX6 yX6_flood wsX6_flood) := goodIn_app (goodIn_of _ (by decide +kernel)) ggX6_filled_X6_flood
theorem dX6_filled_0 : decode cX6_filled 0 = .ok (.aload_n 0, 1) := by decide +kernel
theorem dX6_filled_1 : decode cX6_filled 1 = .ok (.aload_n 1, 1) := by decide +kernel
theorem dX6_filled_2 : decode cX6_filled 2 = .ok (.iload_n 2, 1) := by decide +kernel
theorem dX6_filled_3 : decode cX6_filled 3 = .ok (.iconst 1, 1) := by decide +kernel
theorem dX6_filled_4 : decode cX6_filled 4 = .ok (.invokevirtual 39, 3) := by decide +kernel
theorem dX6_filled_7 : decode cX6_filled 7 = .ok (.ireturn, 1) := by decide +kernel
set_option maxRecDepth 20000 in
theorem ggX6_saddle_X6_flood : GoodIn wsX6_saddle wsX6_flood := goodIn_r _ [5, 6, 7, 8, 9, 10, 11, 12, 13, 14, 15, 16, 4, 17, 18, 19, 20, 21, 22, 23, 24, 25, 26, 27, 28, 29, 30, 31, 32, 33, 34, 35, 36, 37, 38, 39, 40, 41, 42, 43, 44, 45, 46, 47, 48, 49, 50, 51, 52, 53, 54, 55, 56, 57, 58, 59, 60, 61, 62, 63, 64, 65, 66, 67, 68, 69, 70, 71, 72, 73, 74, 75, 76] (by decide +kernel) (by decide +kernel)
set_option maxRecDepth 20000 in
theorem gX6_saddle_X6_flood : GoodIn wsX6_saddle (wsV RX6 39 RX6 yX6_flood wsX6_flood) := goodIn_app (goodIn_of _ (by decide +kernel)) ggX6_saddle_X6_flood
theorem dX6_saddle_0 : decode cX6_saddle 0 = .ok (.aload_n 0, 1) := by decide +kernel
theorem dX6_saddle_1 : decode cX6_saddle 1 = .ok (.aload_n 1, 1) := by decide +kernel
theorem dX6_saddle_2 : decode cX6_saddle 2 = .ok (.iload_n 2, 1) := by decide +kernel
theorem dX6_saddle_3 : decode cX6_saddle 3 = .ok (.iconst (-1), 1) := by decide +kernel
theorem dX6_saddle_4 : decode cX6_saddle 4 = .ok (.invokevirtual 39, 3) := by decide +kernel
theorem dX6_saddle_7 : decode cX6_saddle 7 = .ok (.ireturn, 1) := by decide +kernel
set_option maxRecDepth 20000 in
theorem ggX6_flood_J7_fill_031fb : GoodIn wsX6_flood wsJ7_fill_031fb := goodIn_r _ [8] (by decide +kernel) (by decide +kernel)
set_option maxRecDepth 20000 in
theorem gX6_flood_J7_fill_031fb : GoodIn wsX6_flood (va_wsS RX6 43 yJ7_fill_031fb wsJ7_fill_031fb) := goodIn_app (goodIn_of _ (by decide +kernel)) ggX6_flood_J7_fill_031fb
set_option maxRecDepth 20000 in
theorem ggX6_flood_X6_reach : GoodIn wsX6_flood wsX6_reach := goodIn_r _ [13, 1, 2, 14, 15, 16, 17, 18, 19, 20, 21, 22, 65, 66, 67, 68, 69, 70, 71, 72] (by decide +kernel) (by decide +kernel)
set_option maxRecDepth 20000 in
theorem gX6_flood_X6_reach : GoodIn wsX6_flood (wsV RX6 53 RX6 yX6_reach wsX6_reach) := goodIn_app (goodIn_of _ (by decide +kernel)) ggX6_flood_X6_reach
set_option maxRecDepth 20000 in
theorem ggX6_flood_X6_takeLeast : GoodIn wsX6_flood wsX6_takeLeast := goodIn_r _ [26, 2, 15, 14, 27, 28, 29, 12, 30, 31, 32, 33, 34, 35, 36, 37, 38, 65, 66, 67, 68] (by decide +kernel) (by decide +kernel)
set_option maxRecDepth 20000 in
theorem gX6_flood_X6_takeLeast : GoodIn wsX6_flood (wsV RX6 58 RX6 yX6_takeLeast wsX6_takeLeast) := goodIn_app (goodIn_of _ (by decide +kernel)) ggX6_flood_X6_takeLeast
set_option maxRecDepth 20000 in
theorem ggX6_flood_X2_unitsOf : GoodIn wsX6_flood wsX2_unitsOf := goodIn_r _ [20, 21, 22, 69, 70, 71, 72] (by decide +kernel) (by decide +kernel)
set_option maxRecDepth 20000 in
theorem gX6_flood_X2_unitsOf : GoodIn wsX6_flood (wsV RX6 29 RX2 yX2_unitsOf wsX2_unitsOf) := goodIn_app (goodIn_of _ (by decide +kernel)) ggX6_flood_X2_unitsOf
set_option maxRecDepth 20000 in
theorem ggX6_flood_X2_isRim : GoodIn wsX6_flood wsX2_isRim := goodIn_r _ [42, 43, 44, 45, 19, 46, 47, 48, 49, 50, 51, 52, 53, 54, 55, 56, 57, 58, 22, 21, 69, 70, 71, 72] (by decide +kernel) (by decide +kernel)
set_option maxRecDepth 20000 in
theorem gX6_flood_X2_isRim : GoodIn wsX6_flood (wsV RX6 62 RX2 yX2_isRim wsX2_isRim) := goodIn_app (goodIn_of _ (by decide +kernel)) ggX6_flood_X2_isRim
set_option maxRecDepth 20000 in
theorem ggX6_flood_X2_isAbove : GoodIn wsX6_flood wsX2_isAbove := goodIn_r _ [62, 63, 17, 18, 19, 20, 21, 22, 69, 70, 71, 72] (by decide +kernel) (by decide +kernel)
set_option maxRecDepth 20000 in
theorem gX6_flood_X2_isAbove : GoodIn wsX6_flood (wsV RX6 66 RX2 yX2_isAbove wsX2_isAbove) := goodIn_app (goodIn_of _ (by decide +kernel)) ggX6_flood_X2_isAbove
set_option maxRecDepth 20000 in
theorem ggX6_flood_X2_neighbour : GoodIn wsX6_flood wsX2_neighbour := goodIn_r _ [50, 51, 52, 53, 19, 54, 55, 56, 57, 58, 22, 21, 69, 70, 71, 72] (by decide +kernel) (by decide +kernel)
set_option maxRecDepth 20000 in
theorem gX6_flood_X2_neighbour : GoodIn wsX6_flood (wsV RX6 23 RX2 yX2_neighbour wsX2_neighbour) := goodIn_app (goodIn_of _ (by decide +kernel)) ggX6_flood_X2_neighbour
theorem dX6_flood_0 : decode cX6_flood 0 = .ok (.aload_n 0, 1) := by decide +kernel
theorem dX6_flood_1 : decode cX6_flood 1 = .ok (.getfield 19, 3) := by decide +kernel
theorem dX6_flood_4 : decode cX6_flood 4 = .ok (.iconst 0, 1) := by decide +kernel
theorem dX6_flood_5 : decode cX6_flood 5 = .ok (.invokestatic 43, 3) := by decide +kernel
theorem dX6_flood_8 : decode cX6_flood 8 = .ok (.aload_n 0, 1) := by decide +kernel
theorem dX6_flood_9 : decode cX6_flood 9 = .ok (.iconst 0, 1) := by decide +kernel
theorem dX6_flood_10 : decode cX6_flood 10 = .ok (.putfield 49, 3) := by decide +kernel
theorem dX6_flood_13 : decode cX6_flood 13 = .ok (.aload_n 0, 1) := by decide +kernel
theorem dX6_flood_14 : decode cX6_flood 14 = .ok (.aload_n 1, 1) := by decide +kernel
theorem dX6_flood_15 : decode cX6_flood 15 = .ok (.iload_n 2, 1) := by decide +kernel
theorem dX6_flood_16 : decode cX6_flood 16 = .ok (.iload_n 3, 1) := by decide +kernel
theorem dX6_flood_17 : decode cX6_flood 17 = .ok (.invokevirtual 53, 3) := by decide +kernel
theorem dX6_flood_20 : decode cX6_flood 20 = .ok (.ldc 57, 2) := by decide +kernel
theorem dX6_flood_22 : decode cX6_flood 22 = .ok (.istore 4, 2) := by decide +kernel
theorem dX6_flood_24 : decode cX6_flood 24 = .ok (.iconst 0, 1) := by decide +kernel
theorem dX6_flood_25 : decode cX6_flood 25 = .ok (.istore 5, 2) := by decide +kernel
theorem dX6_flood_27 : decode cX6_flood 27 = .ok (.iload 5, 2) := by decide +kernel
theorem dX6_flood_29 : decode cX6_flood 29 = .ok (.sipush 1280, 3) := by decide +kernel
theorem dX6_flood_32 : decode cX6_flood 32 = .ok (.if_icmp .ge 109, 3) := by decide +kernel
theorem dX6_flood_35 : decode cX6_flood 35 = .ok (.aload_n 0, 1) := by decide +kernel
theorem dX6_flood_36 : decode cX6_flood 36 = .ok (.getfield 49, 3) := by decide +kernel
theorem dX6_flood_39 : decode cX6_flood 39 = .ok (.ifCond .le 102, 3) := by decide +kernel
theorem dX6_flood_42 : decode cX6_flood 42 = .ok (.aload_n 0, 1) := by decide +kernel
theorem dX6_flood_43 : decode cX6_flood 43 = .ok (.invokevirtual 58, 3) := by decide +kernel
theorem dX6_flood_46 : decode cX6_flood 46 = .ok (.istore 6, 2) := by decide +kernel
theorem dX6_flood_48 : decode cX6_flood 48 = .ok (.iload_n 3, 1) := by decide +kernel
theorem dX6_flood_49 : decode cX6_flood 49 = .ok (.aload_n 1, 1) := by decide +kernel
theorem dX6_flood_50 : decode cX6_flood 50 = .ok (.iload 6, 2) := by decide +kernel
theorem dX6_flood_52 : decode cX6_flood 52 = .ok (.invokevirtual 29, 3) := by decide +kernel
theorem dX6_flood_55 : decode cX6_flood 55 = .ok (.imul, 1) := by decide +kernel
theorem dX6_flood_56 : decode cX6_flood 56 = .ok (.istore 7, 2) := by decide +kernel
theorem dX6_flood_58 : decode cX6_flood 58 = .ok (.iload 7, 2) := by decide +kernel
theorem dX6_flood_60 : decode cX6_flood 60 = .ok (.iload 4, 2) := by decide +kernel
theorem dX6_flood_62 : decode cX6_flood 62 = .ok (.if_icmp .le 8, 3) := by decide +kernel
theorem dX6_flood_65 : decode cX6_flood 65 = .ok (.iload 7, 2) := by decide +kernel
theorem dX6_flood_67 : decode cX6_flood 67 = .ok (.goto 5, 3) := by decide +kernel
theorem dX6_flood_70 : decode cX6_flood 70 = .ok (.iload 4, 2) := by decide +kernel
theorem dX6_flood_72 : decode cX6_flood 72 = .ok (.istore 4, 2) := by decide +kernel
theorem dX6_flood_74 : decode cX6_flood 74 = .ok (.iload_n 3, 1) := by decide +kernel
theorem dX6_flood_75 : decode cX6_flood 75 = .ok (.ifCond .le 15, 3) := by decide +kernel
theorem dX6_flood_78 : decode cX6_flood 78 = .ok (.aload_n 1, 1) := by decide +kernel
theorem dX6_flood_79 : decode cX6_flood 79 = .ok (.iload 6, 2) := by decide +kernel
theorem dX6_flood_81 : decode cX6_flood 81 = .ok (.invokevirtual 62, 3) := by decide +kernel
theorem dX6_flood_84 : decode cX6_flood 84 = .ok (.ifCond .eq 21, 3) := by decide +kernel
theorem dX6_flood_87 : decode cX6_flood 87 = .ok (.goto 13, 3) := by decide +kernel
theorem dX6_flood_90 : decode cX6_flood 90 = .ok (.aload_n 1, 1) := by decide +kernel
theorem dX6_flood_91 : decode cX6_flood 91 = .ok (.iload 6, 2) := by decide +kernel
theorem dX6_flood_93 : decode cX6_flood 93 = .ok (.iload_n 2, 1) := by decide +kernel
theorem dX6_flood_94 : decode cX6_flood 94 = .ok (.invokevirtual 66, 3) := by decide +kernel
theorem dX6_flood_97 : decode cX6_flood 97 = .ok (.ifCond .eq 8, 3) := by decide +kernel
theorem dX6_flood_100 : decode cX6_flood 100 = .ok (.iload_n 3, 1) := by decide +kernel
theorem dX6_flood_101 : decode cX6_flood 101 = .ok (.iload 4, 2) := by decide +kernel
theorem dX6_flood_103 : decode cX6_flood 103 = .ok (.imul, 1) := by decide +kernel
theorem dX6_flood_104 : decode cX6_flood 104 = .ok (.ireturn, 1) := by decide +kernel
theorem dX6_flood_105 : decode cX6_flood 105 = .ok (.iconst 0, 1) := by decide +kernel
theorem dX6_flood_106 : decode cX6_flood 106 = .ok (.istore 8, 2) := by decide +kernel
theorem dX6_flood_108 : decode cX6_flood 108 = .ok (.iload 8, 2) := by decide +kernel
theorem dX6_flood_110 : decode cX6_flood 110 = .ok (.bipush 8, 2) := by decide +kernel
theorem dX6_flood_112 : decode cX6_flood 112 = .ok (.if_icmp .ge 23, 3) := by decide +kernel
theorem dX6_flood_115 : decode cX6_flood 115 = .ok (.aload_n 0, 1) := by decide +kernel
theorem dX6_flood_116 : decode cX6_flood 116 = .ok (.aload_n 1, 1) := by decide +kernel
theorem dX6_flood_117 : decode cX6_flood 117 = .ok (.aload_n 1, 1) := by decide +kernel
theorem dX6_flood_118 : decode cX6_flood 118 = .ok (.iload 6, 2) := by decide +kernel
theorem dX6_flood_120 : decode cX6_flood 120 = .ok (.iload 8, 2) := by decide +kernel
theorem dX6_flood_122 : decode cX6_flood 122 = .ok (.invokevirtual 23, 3) := by decide +kernel
theorem dX6_flood_125 : decode cX6_flood 125 = .ok (.iload_n 3, 1) := by decide +kernel
theorem dX6_flood_126 : decode cX6_flood 126 = .ok (.invokevirtual 53, 3) := by decide +kernel
theorem dX6_flood_129 : decode cX6_flood 129 = .ok (.iinc 8 1, 3) := by decide +kernel
theorem dX6_flood_132 : decode cX6_flood 132 = .ok (.goto (-24), 3) := by decide +kernel
theorem dX6_flood_135 : decode cX6_flood 135 = .ok (.iinc 5 1, 3) := by decide +kernel
theorem dX6_flood_138 : decode cX6_flood 138 = .ok (.goto (-111), 3) := by decide +kernel
theorem dX6_flood_141 : decode cX6_flood 141 = .ok (.ldc 70, 2) := by decide +kernel
theorem dX6_flood_143 : decode cX6_flood 143 = .ok (.ireturn, 1) := by decide +kernel
set_option maxRecDepth 20000 in
theorem ggX6_reach_X2_unitsOf : GoodIn wsX6_reach wsX2_unitsOf := goodIn_r _ [9, 10, 11, 16, 17, 18, 19] (by decide +kernel) (by decide +kernel)
set_option maxRecDepth 20000 in
theorem gX6_reach_X2_unitsOf : GoodIn wsX6_reach (wsV RX6 29 RX2 yX2_unitsOf wsX2_unitsOf) := goodIn_app (goodIn_of _ (by decide +kernel)) ggX6_reach_X2_unitsOf
theorem dX6_reach_0 : decode cX6_reach 0 = .ok (.iload_n 2, 1) := by decide +kernel
theorem dX6_reach_1 : decode cX6_reach 1 = .ok (.ifCond .lt 36, 3) := by decide +kernel
theorem dX6_reach_4 : decode cX6_reach 4 = .ok (.iload_n 2, 1) := by decide +kernel
theorem dX6_reach_5 : decode cX6_reach 5 = .ok (.sipush 1280, 3) := by decide +kernel
theorem dX6_reach_8 : decode cX6_reach 8 = .ok (.if_icmp .ge 29, 3) := by decide +kernel
theorem dX6_reach_11 : decode cX6_reach 11 = .ok (.aload_n 0, 1) := by decide +kernel
theorem dX6_reach_12 : decode cX6_reach 12 = .ok (.getfield 19, 3) := by decide +kernel
theorem dX6_reach_15 : decode cX6_reach 15 = .ok (.iload_n 2, 1) := by decide +kernel
theorem dX6_reach_16 : decode cX6_reach 16 = .ok (.baload, 1) := by decide +kernel
theorem dX6_reach_17 : decode cX6_reach 17 = .ok (.ifCond .ne 20, 3) := by decide +kernel
theorem dX6_reach_20 : decode cX6_reach 20 = .ok (.aload_n 0, 1) := by decide +kernel
theorem dX6_reach_21 : decode cX6_reach 21 = .ok (.getfield 49, 3) := by decide +kernel
theorem dX6_reach_24 : decode cX6_reach 24 = .ok (.ifCond .lt 13, 3) := by decide +kernel
theorem dX6_reach_27 : decode cX6_reach 27 = .ok (.aload_n 0, 1) := by decide +kernel
theorem dX6_reach_28 : decode cX6_reach 28 = .ok (.getfield 49, 3) := by decide +kernel
theorem dX6_reach_31 : decode cX6_reach 31 = .ok (.sipush 1280, 3) := by decide +kernel
theorem dX6_reach_34 : decode cX6_reach 34 = .ok (.if_icmp .lt 4, 3) := by decide +kernel
theorem dX6_reach_37 : decode cX6_reach 37 = .ok (.return_, 1) := by decide +kernel
theorem dX6_reach_38 : decode cX6_reach 38 = .ok (.aload_n 0, 1) := by decide +kernel
theorem dX6_reach_39 : decode cX6_reach 39 = .ok (.getfield 19, 3) := by decide +kernel
theorem dX6_reach_42 : decode cX6_reach 42 = .ok (.iload_n 2, 1) := by decide +kernel
theorem dX6_reach_43 : decode cX6_reach 43 = .ok (.iconst 1, 1) := by decide +kernel
theorem dX6_reach_44 : decode cX6_reach 44 = .ok (.bastore, 1) := by decide +kernel
theorem dX6_reach_45 : decode cX6_reach 45 = .ok (.iload_n 3, 1) := by decide +kernel
theorem dX6_reach_46 : decode cX6_reach 46 = .ok (.aload_n 1, 1) := by decide +kernel
theorem dX6_reach_47 : decode cX6_reach 47 = .ok (.iload_n 2, 1) := by decide +kernel
theorem dX6_reach_48 : decode cX6_reach 48 = .ok (.invokevirtual 29, 3) := by decide +kernel
theorem dX6_reach_51 : decode cX6_reach 51 = .ok (.imul, 1) := by decide +kernel
theorem dX6_reach_52 : decode cX6_reach 52 = .ok (.i2l, 1) := by decide +kernel
theorem dX6_reach_53 : decode cX6_reach 53 = .ok (.ldc2_w 71, 3) := by decide +kernel
theorem dX6_reach_56 : decode cX6_reach 56 = .ok (.lmul, 1) := by decide +kernel
theorem dX6_reach_57 : decode cX6_reach 57 = .ok (.iload_n 2, 1) := by decide +kernel
theorem dX6_reach_58 : decode cX6_reach 58 = .ok (.i2l, 1) := by decide +kernel
theorem dX6_reach_59 : decode cX6_reach 59 = .ok (.ladd, 1) := by decide +kernel
theorem dX6_reach_60 : decode cX6_reach 60 = .ok (.lstore 4, 2) := by decide +kernel
theorem dX6_reach_62 : decode cX6_reach 62 = .ok (.aload_n 0, 1) := by decide +kernel
theorem dX6_reach_63 : decode cX6_reach 63 = .ok (.getfield 49, 3) := by decide +kernel
theorem dX6_reach_66 : decode cX6_reach 66 = .ok (.istore 6, 2) := by decide +kernel
theorem dX6_reach_68 : decode cX6_reach 68 = .ok (.aload_n 0, 1) := by decide +kernel
theorem dX6_reach_69 : decode cX6_reach 69 = .ok (.dup, 1) := by decide +kernel
theorem dX6_reach_70 : decode cX6_reach 70 = .ok (.getfield 49, 3) := by decide +kernel
theorem dX6_reach_73 : decode cX6_reach 73 = .ok (.iconst 1, 1) := by decide +kernel
theorem dX6_reach_74 : decode cX6_reach 74 = .ok (.iadd, 1) := by decide +kernel
theorem dX6_reach_75 : decode cX6_reach 75 = .ok (.putfield 49, 3) := by decide +kernel
theorem dX6_reach_78 : decode cX6_reach 78 = .ok (.iload 6, 2) := by decide +kernel
theorem dX6_reach_80 : decode cX6_reach 80 = .ok (.ifCond .le 49, 3) := by decide +kernel
theorem dX6_reach_83 : decode cX6_reach 83 = .ok (.aload_n 0, 1) := by decide +kernel
theorem dX6_reach_84 : decode cX6_reach 84 = .ok (.getfield 15, 3) := by decide +kernel
theorem dX6_reach_87 : decode cX6_reach 87 = .ok (.iload 6, 2) := by decide +kernel
theorem dX6_reach_89 : decode cX6_reach 89 = .ok (.iconst 1, 1) := by decide +kernel
theorem dX6_reach_90 : decode cX6_reach 90 = .ok (.isub, 1) := by decide +kernel
theorem dX6_reach_91 : decode cX6_reach 91 = .ok (.iconst 2, 1) := by decide +kernel
theorem dX6_reach_92 : decode cX6_reach 92 = .ok (.idiv, 1) := by decide +kernel
theorem dX6_reach_93 : decode cX6_reach 93 = .ok (.laload, 1) := by decide +kernel
theorem dX6_reach_94 : decode cX6_reach 94 = .ok (.lload 4, 2) := by decide +kernel
theorem dX6_reach_96 : decode cX6_reach 96 = .ok (.lcmp, 1) := by decide +kernel
theorem dX6_reach_97 : decode cX6_reach 97 = .ok (.ifCond .le 32, 3) := by decide +kernel
theorem dX6_reach_100 : decode cX6_reach 100 = .ok (.aload_n 0, 1) := by decide +kernel
theorem dX6_reach_101 : decode cX6_reach 101 = .ok (.getfield 15, 3) := by decide +kernel
theorem dX6_reach_104 : decode cX6_reach 104 = .ok (.iload 6, 2) := by decide +kernel
theorem dX6_reach_106 : decode cX6_reach 106 = .ok (.aload_n 0, 1) := by decide +kernel
theorem dX6_reach_107 : decode cX6_reach 107 = .ok (.getfield 15, 3) := by decide +kernel
theorem dX6_reach_110 : decode cX6_reach 110 = .ok (.iload 6, 2) := by decide +kernel
theorem dX6_reach_112 : decode cX6_reach 112 = .ok (.iconst 1, 1) := by decide +kernel
theorem dX6_reach_113 : decode cX6_reach 113 = .ok (.isub, 1) := by decide +kernel
theorem dX6_reach_114 : decode cX6_reach 114 = .ok (.iconst 2, 1) := by decide +kernel
theorem dX6_reach_115 : decode cX6_reach 115 = .ok (.idiv, 1) := by decide +kernel
theorem dX6_reach_116 : decode cX6_reach 116 = .ok (.laload, 1) := by decide +kernel
theorem dX6_reach_117 : decode cX6_reach 117 = .ok (.lastore, 1) := by decide +kernel
theorem dX6_reach_118 : decode cX6_reach 118 = .ok (.iload 6, 2) := by decide +kernel
theorem dX6_reach_120 : decode cX6_reach 120 = .ok (.iconst 1, 1) := by decide +kernel
theorem dX6_reach_121 : decode cX6_reach 121 = .ok (.isub, 1) := by decide +kernel
theorem dX6_reach_122 : decode cX6_reach 122 = .ok (.iconst 2, 1) := by decide +kernel
theorem dX6_reach_123 : decode cX6_reach 123 = .ok (.idiv, 1) := by decide +kernel
theorem dX6_reach_124 : decode cX6_reach 124 = .ok (.istore 6, 2) := by decide +kernel
theorem dX6_reach_126 : decode cX6_reach 126 = .ok (.goto (-48), 3) := by decide +kernel
theorem dX6_reach_129 : decode cX6_reach 129 = .ok (.aload_n 0, 1) := by decide +kernel
theorem dX6_reach_130 : decode cX6_reach 130 = .ok (.getfield 15, 3) := by decide +kernel
theorem dX6_reach_133 : decode cX6_reach 133 = .ok (.iload 6, 2) := by decide +kernel
theorem dX6_reach_135 : decode cX6_reach 135 = .ok (.lload 4, 2) := by decide +kernel
theorem dX6_reach_137 : decode cX6_reach 137 = .ok (.lastore, 1) := by decide +kernel
theorem dX6_reach_138 : decode cX6_reach 138 = .ok (.return_, 1) := by decide +kernel
set_option maxRecDepth 20000 in
theorem ggX6_takeLeast_X6_sink : GoodIn wsX6_takeLeast wsX6_sink := goodIn_r _ [8, 1, 2, 9, 10, 11, 7, 12, 17, 18, 19, 20] (by decide +kernel) (by decide +kernel)
set_option maxRecDepth 20000 in
theorem gX6_takeLeast_X6_sink : GoodIn wsX6_takeLeast (wsV RX6 73 RX6 yX6_sink wsX6_sink) := goodIn_app (goodIn_of _ (by decide +kernel)) ggX6_takeLeast_X6_sink
set_option maxRecDepth 20000 in
theorem ggX6_takeLeast_J9_floorMod_f86c9 : GoodIn wsX6_takeLeast wsJ9_floorMod_f86c9 := goodIn_r _ [16] (by decide +kernel) (by decide +kernel)
set_option maxRecDepth 20000 in
theorem gX6_takeLeast_J9_floorMod_f86c9 : GoodIn wsX6_takeLeast (va_wsS RX6 77 yJ9_floorMod_f86c9 wsJ9_floorMod_f86c9) := goodIn_app (goodIn_of _ (by decide +kernel)) ggX6_takeLeast_J9_floorMod_f86c9
theorem dX6_takeLeast_0 : decode cX6_takeLeast 0 = .ok (.aload_n 0, 1) := by decide +kernel
theorem dX6_takeLeast_1 : decode cX6_takeLeast 1 = .ok (.getfield 49, 3) := by decide +kernel
theorem dX6_takeLeast_4 : decode cX6_takeLeast 4 = .ok (.iconst 1, 1) := by decide +kernel
theorem dX6_takeLeast_5 : decode cX6_takeLeast 5 = .ok (.if_icmp .lt 13, 3) := by decide +kernel
theorem dX6_takeLeast_8 : decode cX6_takeLeast 8 = .ok (.aload_n 0, 1) := by decide +kernel
theorem dX6_takeLeast_9 : decode cX6_takeLeast 9 = .ok (.getfield 49, 3) := by decide +kernel
theorem dX6_takeLeast_12 : decode cX6_takeLeast 12 = .ok (.sipush 1280, 3) := by decide +kernel
theorem dX6_takeLeast_15 : decode cX6_takeLeast 15 = .ok (.if_icmp .le 5, 3) := by decide +kernel
theorem dX6_takeLeast_18 : decode cX6_takeLeast 18 = .ok (.iconst (-1), 1) := by decide +kernel
theorem dX6_takeLeast_19 : decode cX6_takeLeast 19 = .ok (.ireturn, 1) := by decide +kernel
theorem dX6_takeLeast_20 : decode cX6_takeLeast 20 = .ok (.aload_n 0, 1) := by decide +kernel
theorem dX6_takeLeast_21 : decode cX6_takeLeast 21 = .ok (.getfield 15, 3) := by decide +kernel
theorem dX6_takeLeast_24 : decode cX6_takeLeast 24 = .ok (.iconst 0, 1) := by decide +kernel
theorem dX6_takeLeast_25 : decode cX6_takeLeast 25 = .ok (.laload, 1) := by decide +kernel
theorem dX6_takeLeast_26 : decode cX6_takeLeast 26 = .ok (.lstore_n 1, 1) := by decide +kernel
theorem dX6_takeLeast_27 : decode cX6_takeLeast 27 = .ok (.aload_n 0, 1) := by decide +kernel
theorem dX6_takeLeast_28 : decode cX6_takeLeast 28 = .ok (.dup, 1) := by decide +kernel
theorem dX6_takeLeast_29 : decode cX6_takeLeast 29 = .ok (.getfield 49, 3) := by decide +kernel
theorem dX6_takeLeast_32 : decode cX6_takeLeast 32 = .ok (.iconst 1, 1) := by decide +kernel
theorem dX6_takeLeast_33 : decode cX6_takeLeast 33 = .ok (.isub, 1) := by decide +kernel
theorem dX6_takeLeast_34 : decode cX6_takeLeast 34 = .ok (.putfield 49, 3) := by decide +kernel
theorem dX6_takeLeast_37 : decode cX6_takeLeast 37 = .ok (.aload_n 0, 1) := by decide +kernel
theorem dX6_takeLeast_38 : decode cX6_takeLeast 38 = .ok (.aload_n 0, 1) := by decide +kernel
theorem dX6_takeLeast_39 : decode cX6_takeLeast 39 = .ok (.getfield 15, 3) := by decide +kernel
theorem dX6_takeLeast_42 : decode cX6_takeLeast 42 = .ok (.aload_n 0, 1) := by decide +kernel
theorem dX6_takeLeast_43 : decode cX6_takeLeast 43 = .ok (.getfield 49, 3) := by decide +kernel
theorem dX6_takeLeast_46 : decode cX6_takeLeast 46 = .ok (.laload, 1) := by decide +kernel
theorem dX6_takeLeast_47 : decode cX6_takeLeast 47 = .ok (.invokevirtual 73, 3) := by decide +kernel
theorem dX6_takeLeast_50 : decode cX6_takeLeast 50 = .ok (.lload_n 1, 1) := by decide +kernel
theorem dX6_takeLeast_51 : decode cX6_takeLeast 51 = .ok (.ldc2_w 71, 3) := by decide +kernel
theorem dX6_takeLeast_54 : decode cX6_takeLeast 54 = .ok (.invokestatic 77, 3) := by decide +kernel
theorem dX6_takeLeast_57 : decode cX6_takeLeast 57 = .ok (.l2i, 1) := by decide +kernel
theorem dX6_takeLeast_58 : decode cX6_takeLeast 58 = .ok (.ireturn, 1) := by decide +kernel
set_option maxRecDepth 20000 in
theorem ggX6_sink_X6_lesserChild : GoodIn wsX6_sink wsX6_lesserChild := goodIn_r _ [7, 1, 2, 8, 9, 10, 11] (by decide +kernel) (by decide +kernel)
set_option maxRecDepth 20000 in
theorem gX6_sink_X6_lesserChild : GoodIn wsX6_sink (wsV RX6 83 RX6 yX6_lesserChild wsX6_lesserChild) := goodIn_app (goodIn_of _ (by decide +kernel)) ggX6_sink_X6_lesserChild
theorem dX6_sink_0 : decode cX6_sink 0 = .ok (.iconst 0, 1) := by decide +kernel
