theorem dX2_smoothed_25 : decode cX2_smoothed 25 = .ok (.iload 6, 2) := by decide +kernel
theorem dX2_smoothed_27 : decode cX2_smoothed 27 = .ok (.invokevirtual 56, 3) := by decide +kernel
theorem dX2_smoothed_30 : decode cX2_smoothed 30 = .ok (.istore 7, 2) := by decide +kernel
theorem dX2_smoothed_32 : decode cX2_smoothed 32 = .ok (.iload 7, 2) := by decide +kernel
theorem dX2_smoothed_34 : decode cX2_smoothed 34 = .ok (.iconst (-1), 1) := by decide +kernel
theorem dX2_smoothed_35 : decode cX2_smoothed 35 = .ok (.if_icmp .eq 16, 3) := by decide +kernel
theorem dX2_smoothed_38 : decode cX2_smoothed 38 = .ok (.lload_n 3, 1) := by decide +kernel
theorem dX2_smoothed_39 : decode cX2_smoothed 39 = .ok (.aload_n 0, 1) := by decide +kernel
theorem dX2_smoothed_40 : decode cX2_smoothed 40 = .ok (.iload 7, 2) := by decide +kernel
theorem dX2_smoothed_42 : decode cX2_smoothed 42 = .ok (.invokevirtual 63, 3) := by decide +kernel
theorem dX2_smoothed_45 : decode cX2_smoothed 45 = .ok (.i2l, 1) := by decide +kernel
theorem dX2_smoothed_46 : decode cX2_smoothed 46 = .ok (.ladd, 1) := by decide +kernel
theorem dX2_smoothed_47 : decode cX2_smoothed 47 = .ok (.lstore_n 3, 1) := by decide +kernel
theorem dX2_smoothed_48 : decode cX2_smoothed 48 = .ok (.iinc 5 1, 3) := by decide +kernel
theorem dX2_smoothed_51 : decode cX2_smoothed 51 = .ok (.iinc 6 2, 3) := by decide +kernel
theorem dX2_smoothed_54 : decode cX2_smoothed 54 = .ok (.goto (-38), 3) := by decide +kernel
theorem dX2_smoothed_57 : decode cX2_smoothed 57 = .ok (.lload_n 3, 1) := by decide +kernel
theorem dX2_smoothed_58 : decode cX2_smoothed 58 = .ok (.iload 5, 2) := by decide +kernel
theorem dX2_smoothed_60 : decode cX2_smoothed 60 = .ok (.i2l, 1) := by decide +kernel
theorem dX2_smoothed_61 : decode cX2_smoothed 61 = .ok (.invokestatic 81, 3) := by decide +kernel
theorem dX2_smoothed_64 : decode cX2_smoothed 64 = .ok (.l2i, 1) := by decide +kernel
theorem dX2_smoothed_65 : decode cX2_smoothed 65 = .ok (.ireturn, 1) := by decide +kernel
set_option maxRecDepth 20000 in
theorem ggX2_nearestEven_J9_floorDiv_f86c9 : GoodIn wsX2_nearestEven wsJ9_floorDiv_f86c9 := goodIn_r _ [5] (by decide +kernel) (by decide +kernel)
set_option maxRecDepth 20000 in
theorem gX2_nearestEven_J9_floorDiv_f86c9 : GoodIn wsX2_nearestEven (va_wsS RX2 85 yJ9_floorDiv_f86c9 wsJ9_floorDiv_f86c9) := goodIn_app (goodIn_of _ (by decide +kernel)) ggX2_nearestEven_J9_floorDiv_f86c9
set_option maxRecDepth 20000 in
theorem ggX2_nearestEven_J9_floorMod_f86c9 : GoodIn wsX2_nearestEven wsJ9_floorMod_f86c9 := goodIn_r _ [8] (by decide +kernel) (by decide +kernel)
set_option maxRecDepth 20000 in
theorem gX2_nearestEven_J9_floorMod_f86c9 : GoodIn wsX2_nearestEven (va_wsS RX2 90 yJ9_floorMod_f86c9 wsJ9_floorMod_f86c9) := goodIn_app (goodIn_of _ (by decide +kernel)) ggX2_nearestEven_J9_floorMod_f86c9
theorem dX2_nearestEven_0 : decode cX2_nearestEven 0 = .ok (.lload_n 2, 1) := by decide +kernel
theorem dX2_nearestEven_1 : decode cX2_nearestEven 1 = .ok (.lconst 0, 1) := by decide +kernel
theorem dX2_nearestEven_2 : decode cX2_nearestEven 2 = .ok (.lcmp, 1) := by decide +kernel
theorem dX2_nearestEven_3 : decode cX2_nearestEven 3 = .ok (.ifCond .gt 5, 3) := by decide +kernel
theorem dX2_nearestEven_6 : decode cX2_nearestEven 6 = .ok (.lconst 0, 1) := by decide +kernel
theorem dX2_nearestEven_7 : decode cX2_nearestEven 7 = .ok (.lreturn, 1) := by decide +kernel
theorem dX2_nearestEven_8 : decode cX2_nearestEven 8 = .ok (.lload_n 0, 1) := by decide +kernel
theorem dX2_nearestEven_9 : decode cX2_nearestEven 9 = .ok (.lload_n 2, 1) := by decide +kernel
theorem dX2_nearestEven_10 : decode cX2_nearestEven 10 = .ok (.invokestatic 85, 3) := by decide +kernel
theorem dX2_nearestEven_13 : decode cX2_nearestEven 13 = .ok (.lstore 4, 2) := by decide +kernel
theorem dX2_nearestEven_15 : decode cX2_nearestEven 15 = .ok (.lload_n 0, 1) := by decide +kernel
theorem dX2_nearestEven_16 : decode cX2_nearestEven 16 = .ok (.lload_n 2, 1) := by decide +kernel
theorem dX2_nearestEven_17 : decode cX2_nearestEven 17 = .ok (.invokestatic 90, 3) := by decide +kernel
theorem dX2_nearestEven_20 : decode cX2_nearestEven 20 = .ok (.lstore 6, 2) := by decide +kernel
theorem dX2_nearestEven_22 : decode cX2_nearestEven 22 = .ok (.ldc2_w 93, 3) := by decide +kernel
theorem dX2_nearestEven_25 : decode cX2_nearestEven 25 = .ok (.lload 6, 2) := by decide +kernel
theorem dX2_nearestEven_27 : decode cX2_nearestEven 27 = .ok (.lmul, 1) := by decide +kernel
theorem dX2_nearestEven_28 : decode cX2_nearestEven 28 = .ok (.lload_n 2, 1) := by decide +kernel
theorem dX2_nearestEven_29 : decode cX2_nearestEven 29 = .ok (.lcmp, 1) := by decide +kernel
theorem dX2_nearestEven_30 : decode cX2_nearestEven 30 = .ok (.ifCond .gt 23, 3) := by decide +kernel
theorem dX2_nearestEven_33 : decode cX2_nearestEven 33 = .ok (.ldc2_w 93, 3) := by decide +kernel
theorem dX2_nearestEven_36 : decode cX2_nearestEven 36 = .ok (.lload 6, 2) := by decide +kernel
theorem dX2_nearestEven_38 : decode cX2_nearestEven 38 = .ok (.lmul, 1) := by decide +kernel
theorem dX2_nearestEven_39 : decode cX2_nearestEven 39 = .ok (.lload_n 2, 1) := by decide +kernel
theorem dX2_nearestEven_40 : decode cX2_nearestEven 40 = .ok (.lcmp, 1) := by decide +kernel
theorem dX2_nearestEven_41 : decode cX2_nearestEven 41 = .ok (.ifCond .ne 16, 3) := by decide +kernel
theorem dX2_nearestEven_44 : decode cX2_nearestEven 44 = .ok (.lload 4, 2) := by decide +kernel
theorem dX2_nearestEven_46 : decode cX2_nearestEven 46 = .ok (.lconst 1, 1) := by decide +kernel
theorem dX2_nearestEven_47 : decode cX2_nearestEven 47 = .ok (.land, 1) := by decide +kernel
theorem dX2_nearestEven_48 : decode cX2_nearestEven 48 = .ok (.lconst 1, 1) := by decide +kernel
theorem dX2_nearestEven_49 : decode cX2_nearestEven 49 = .ok (.lcmp, 1) := by decide +kernel
theorem dX2_nearestEven_50 : decode cX2_nearestEven 50 = .ok (.ifCond .ne 7, 3) := by decide +kernel
theorem dX2_nearestEven_53 : decode cX2_nearestEven 53 = .ok (.iconst 1, 1) := by decide +kernel
theorem dX2_nearestEven_54 : decode cX2_nearestEven 54 = .ok (.goto 4, 3) := by decide +kernel
theorem dX2_nearestEven_57 : decode cX2_nearestEven 57 = .ok (.iconst 0, 1) := by decide +kernel
theorem dX2_nearestEven_58 : decode cX2_nearestEven 58 = .ok (.istore 8, 2) := by decide +kernel
theorem dX2_nearestEven_60 : decode cX2_nearestEven 60 = .ok (.iload 8, 2) := by decide +kernel
theorem dX2_nearestEven_62 : decode cX2_nearestEven 62 = .ok (.ifCond .eq 10, 3) := by decide +kernel
theorem dX2_nearestEven_65 : decode cX2_nearestEven 65 = .ok (.lload 4, 2) := by decide +kernel
theorem dX2_nearestEven_67 : decode cX2_nearestEven 67 = .ok (.lconst 1, 1) := by decide +kernel
theorem dX2_nearestEven_68 : decode cX2_nearestEven 68 = .ok (.ladd, 1) := by decide +kernel
theorem dX2_nearestEven_69 : decode cX2_nearestEven 69 = .ok (.goto 5, 3) := by decide +kernel
theorem dX2_nearestEven_72 : decode cX2_nearestEven 72 = .ok (.lload 4, 2) := by decide +kernel
theorem dX2_nearestEven_74 : decode cX2_nearestEven 74 = .ok (.lreturn, 1) := by decide +kernel
theorem dX3_init_0 : decode cX3_init 0 = .ok (.aload_n 0, 1) := by decide +kernel
theorem dX3_init_1 : decode cX3_init 1 = .ok (.invokespecial 3, 3) := by decide +kernel
theorem dX3_init_4 : decode cX3_init 4 = .ok (.aload_n 0, 1) := by decide +kernel
theorem dX3_init_5 : decode cX3_init 5 = .ok (.sipush 2560, 3) := by decide +kernel
theorem dX3_init_8 : decode cX3_init 8 = .ok (.newarray .int, 2) := by decide +kernel
theorem dX3_init_10 : decode cX3_init 10 = .ok (.putfield 9, 3) := by decide +kernel
theorem dX3_init_13 : decode cX3_init 13 = .ok (.aload_n 0, 1) := by decide +kernel
theorem dX3_init_14 : decode cX3_init 14 = .ok (.sipush 2560, 3) := by decide +kernel
theorem dX3_init_17 : decode cX3_init 17 = .ok (.newarray .int, 2) := by decide +kernel
theorem dX3_init_19 : decode cX3_init 19 = .ok (.putfield 15, 3) := by decide +kernel
theorem dX3_init_22 : decode cX3_init 22 = .ok (.return_, 1) := by decide +kernel
set_option maxRecDepth 20000 in
theorem ggX3_join_J7_fill_53178 : GoodIn wsX3_join wsJ7_fill_53178 := goodIn_r _ [8] (by decide +kernel) (by decide +kernel)
set_option maxRecDepth 20000 in
theorem gX3_join_J7_fill_53178 : GoodIn wsX3_join (va_wsS RX3 18 yJ7_fill_53178 wsJ7_fill_53178) := goodIn_app (goodIn_of _ (by decide +kernel)) ggX3_join_J7_fill_53178
set_option maxRecDepth 20000 in
theorem ggX3_join_X2_isWhole : GoodIn wsX3_join wsX2_isWhole := goodIn_r _ [13, 14, 15, 16, 12, 17, 18, 19, 20, 21, 22, 23, 24, 25, 26, 27, 69, 70, 71, 72] (by decide +kernel) (by decide +kernel)
set_option maxRecDepth 20000 in
theorem gX3_join_X2_isWhole : GoodIn wsX3_join (wsV RX3 31 RX2 yX2_isWhole wsX2_isWhole) := goodIn_app (goodIn_of _ (by decide +kernel)) ggX3_join_X2_isWhole
set_option maxRecDepth 20000 in
theorem ggX3_join_X3_joinCell : GoodIn wsX3_join wsX3_joinCell := goodIn_r _ [32, 33, 34, 31, 35, 36, 37, 38, 12, 39, 19, 18, 40, 41, 42, 43, 44, 45, 46, 47, 48, 49, 50, 51, 52, 53, 54, 55, 56, 57, 1, 2, 3, 58, 59, 60, 61, 4, 62, 63, 64, 69, 70, 71, 72, 65, 66, 67, 68] (by decide +kernel) (by decide +kernel)
set_option maxRecDepth 20000 in
theorem gX3_join_X3_joinCell : GoodIn wsX3_join (wsV RX3 37 RX3 yX3_joinCell wsX3_joinCell) := goodIn_app (goodIn_of _ (by decide +kernel)) ggX3_join_X3_joinCell
theorem dX3_join_0 : decode cX3_join 0 = .ok (.aload_n 0, 1) := by decide +kernel
theorem dX3_join_1 : decode cX3_join 1 = .ok (.getfield 9, 3) := by decide +kernel
theorem dX3_join_4 : decode cX3_join 4 = .ok (.iconst (-1), 1) := by decide +kernel
theorem dX3_join_5 : decode cX3_join 5 = .ok (.invokestatic 18, 3) := by decide +kernel
theorem dX3_join_8 : decode cX3_join 8 = .ok (.aload_n 0, 1) := by decide +kernel
theorem dX3_join_9 : decode cX3_join 9 = .ok (.getfield 15, 3) := by decide +kernel
theorem dX3_join_12 : decode cX3_join 12 = .ok (.iconst (-1), 1) := by decide +kernel
theorem dX3_join_13 : decode cX3_join 13 = .ok (.invokestatic 18, 3) := by decide +kernel
theorem dX3_join_16 : decode cX3_join 16 = .ok (.aload_n 0, 1) := by decide +kernel
theorem dX3_join_17 : decode cX3_join 17 = .ok (.sipush 2560, 3) := by decide +kernel
theorem dX3_join_20 : decode cX3_join 20 = .ok (.putfield 24, 3) := by decide +kernel
theorem dX3_join_23 : decode cX3_join 23 = .ok (.aload_n 0, 1) := by decide +kernel
theorem dX3_join_24 : decode cX3_join 24 = .ok (.iconst (-1), 1) := by decide +kernel
theorem dX3_join_25 : decode cX3_join 25 = .ok (.putfield 28, 3) := by decide +kernel
theorem dX3_join_28 : decode cX3_join 28 = .ok (.iconst 0, 1) := by decide +kernel
theorem dX3_join_29 : decode cX3_join 29 = .ok (.istore_n 3, 1) := by decide +kernel
theorem dX3_join_30 : decode cX3_join 30 = .ok (.iload_n 3, 1) := by decide +kernel
theorem dX3_join_31 : decode cX3_join 31 = .ok (.sipush 1280, 3) := by decide +kernel
theorem dX3_join_34 : decode cX3_join 34 = .ok (.if_icmp .ge 24, 3) := by decide +kernel
theorem dX3_join_37 : decode cX3_join 37 = .ok (.aload_n 1, 1) := by decide +kernel
theorem dX3_join_38 : decode cX3_join 38 = .ok (.iload_n 3, 1) := by decide +kernel
theorem dX3_join_39 : decode cX3_join 39 = .ok (.invokevirtual 31, 3) := by decide +kernel
theorem dX3_join_42 : decode cX3_join 42 = .ok (.ifCond .eq 10, 3) := by decide +kernel
theorem dX3_join_45 : decode cX3_join 45 = .ok (.aload_n 0, 1) := by decide +kernel
theorem dX3_join_46 : decode cX3_join 46 = .ok (.aload_n 1, 1) := by decide +kernel
theorem dX3_join_47 : decode cX3_join 47 = .ok (.iload_n 3, 1) := by decide +kernel
theorem dX3_join_48 : decode cX3_join 48 = .ok (.iload_n 2, 1) := by decide +kernel
theorem dX3_join_49 : decode cX3_join 49 = .ok (.invokevirtual 37, 3) := by decide +kernel
theorem dX3_join_52 : decode cX3_join 52 = .ok (.iinc 3 1, 3) := by decide +kernel
theorem dX3_join_55 : decode cX3_join 55 = .ok (.goto (-25), 3) := by decide +kernel
theorem dX3_join_58 : decode cX3_join 58 = .ok (.return_, 1) := by decide +kernel
set_option maxRecDepth 20000 in
theorem ggX3_joinCell_X3_cornerOf : GoodIn wsX3_joinCell wsX3_cornerOf := goodIn_r _ [4] (by decide +kernel) (by decide +kernel)
set_option maxRecDepth 20000 in
theorem gX3_joinCell_X3_cornerOf : GoodIn wsX3_joinCell (va_wsS RX3 41 yX3_cornerOf wsX3_cornerOf) := goodIn_app (goodIn_of _ (by decide +kernel)) ggX3_joinCell_X3_cornerOf
set_option maxRecDepth 20000 in
theorem ggX3_joinCell_X2_unitsOf : GoodIn wsX3_joinCell wsX2_unitsOf := goodIn_r _ [9, 10, 11, 41, 42, 43, 44] (by decide +kernel) (by decide +kernel)
set_option maxRecDepth 20000 in
theorem gX3_joinCell_X2_unitsOf : GoodIn wsX3_joinCell (wsV RX3 45 RX2 yX2_unitsOf wsX2_unitsOf) := goodIn_app (goodIn_of _ (by decide +kernel)) ggX3_joinCell_X2_unitsOf
set_option maxRecDepth 20000 in
theorem ggX3_joinCell_X2_cellSum : GoodIn wsX3_joinCell wsX2_cellSum := goodIn_r _ [15, 16, 6, 7, 8, 9, 10, 11, 41, 42, 43, 44] (by decide +kernel) (by decide +kernel)
set_option maxRecDepth 20000 in
theorem gX3_joinCell_X2_cellSum : GoodIn wsX3_joinCell (wsV RX3 49 RX2 yX2_cellSum wsX2_cellSum) := goodIn_app (goodIn_of _ (by decide +kernel)) ggX3_joinCell_X2_cellSum
set_option maxRecDepth 20000 in
theorem ggX3_joinCell_X3_isHigh : GoodIn wsX3_joinCell wsX3_isHigh := goodIn_r _ [19] (by decide +kernel) (by decide +kernel)
set_option maxRecDepth 20000 in
theorem gX3_joinCell_X3_isHigh : GoodIn wsX3_joinCell (va_wsS RX3 52 yX3_isHigh wsX3_isHigh) := goodIn_app (goodIn_of _ (by decide +kernel)) ggX3_joinCell_X3_isHigh
set_option maxRecDepth 20000 in
theorem ggX3_joinCell_X3_sideOfCell : GoodIn wsX3_joinCell wsX3_sideOfCell := goodIn_r _ [22] (by decide +kernel) (by decide +kernel)
set_option maxRecDepth 20000 in
theorem gX3_joinCell_X3_sideOfCell : GoodIn wsX3_joinCell (va_wsS RX3 56 yX3_sideOfCell wsX3_sideOfCell) := goodIn_app (goodIn_of _ (by decide +kernel)) ggX3_joinCell_X3_sideOfCell
set_option maxRecDepth 20000 in
theorem ggX3_joinCell_X3_wayOut : GoodIn wsX3_joinCell wsX3_wayOut := goodIn_r _ [25, 17, 18, 3, 19] (by decide +kernel) (by decide +kernel)
set_option maxRecDepth 20000 in
theorem gX3_joinCell_X3_wayOut : GoodIn wsX3_joinCell (va_wsS RX3 59 yX3_wayOut wsX3_wayOut) := goodIn_app (goodIn_of _ (by decide +kernel)) ggX3_joinCell_X3_wayOut
set_option maxRecDepth 20000 in
theorem ggX3_joinCell_X3_link : GoodIn wsX3_joinCell wsX3_link := goodIn_r _ [29, 30, 31, 32, 33, 34, 35, 36, 37, 38, 39, 40, 45, 46, 47, 48] (by decide +kernel) (by decide +kernel)
set_option maxRecDepth 20000 in
theorem gX3_joinCell_X3_link : GoodIn wsX3_joinCell (wsV RX3 63 RX3 yX3_link wsX3_link) := goodIn_app (goodIn_of _ (by decide +kernel)) ggX3_joinCell_X3_link
theorem dX3_joinCell_0 : decode cX3_joinCell 0 = .ok (.iconst 0, 1) := by decide +kernel
theorem dX3_joinCell_1 : decode cX3_joinCell 1 = .ok (.istore 4, 2) := by decide +kernel
theorem dX3_joinCell_3 : decode cX3_joinCell 3 = .ok (.iconst 0, 1) := by decide +kernel
theorem dX3_joinCell_4 : decode cX3_joinCell 4 = .ok (.istore 5, 2) := by decide +kernel
theorem dX3_joinCell_6 : decode cX3_joinCell 6 = .ok (.iload 5, 2) := by decide +kernel
theorem dX3_joinCell_8 : decode cX3_joinCell 8 = .ok (.iconst 4, 1) := by decide +kernel
theorem dX3_joinCell_9 : decode cX3_joinCell 9 = .ok (.if_icmp .ge 32, 3) := by decide +kernel
theorem dX3_joinCell_12 : decode cX3_joinCell 12 = .ok (.aload_n 1, 1) := by decide +kernel
theorem dX3_joinCell_13 : decode cX3_joinCell 13 = .ok (.iload_n 2, 1) := by decide +kernel
theorem dX3_joinCell_14 : decode cX3_joinCell 14 = .ok (.iload 5, 2) := by decide +kernel
theorem dX3_joinCell_16 : decode cX3_joinCell 16 = .ok (.invokestatic 41, 3) := by decide +kernel
theorem dX3_joinCell_19 : decode cX3_joinCell 19 = .ok (.invokevirtual 45, 3) := by decide +kernel
theorem dX3_joinCell_22 : decode cX3_joinCell 22 = .ok (.iload_n 3, 1) := by decide +kernel
theorem dX3_joinCell_23 : decode cX3_joinCell 23 = .ok (.if_icmp .lt 12, 3) := by decide +kernel
theorem dX3_joinCell_26 : decode cX3_joinCell 26 = .ok (.iload 4, 2) := by decide +kernel
theorem dX3_joinCell_28 : decode cX3_joinCell 28 = .ok (.iconst 1, 1) := by decide +kernel
theorem dX3_joinCell_29 : decode cX3_joinCell 29 = .ok (.iload 5, 2) := by decide +kernel
theorem dX3_joinCell_31 : decode cX3_joinCell 31 = .ok (.ishl, 1) := by decide +kernel
theorem dX3_joinCell_32 : decode cX3_joinCell 32 = .ok (.ior, 1) := by decide +kernel
theorem dX3_joinCell_33 : decode cX3_joinCell 33 = .ok (.istore 4, 2) := by decide +kernel
theorem dX3_joinCell_35 : decode cX3_joinCell 35 = .ok (.iinc 5 1, 3) := by decide +kernel
theorem dX3_joinCell_38 : decode cX3_joinCell 38 = .ok (.goto (-32), 3) := by decide +kernel
theorem dX3_joinCell_41 : decode cX3_joinCell 41 = .ok (.aload_n 1, 1) := by decide +kernel
theorem dX3_joinCell_42 : decode cX3_joinCell 42 = .ok (.iload_n 2, 1) := by decide +kernel
theorem dX3_joinCell_43 : decode cX3_joinCell 43 = .ok (.invokevirtual 49, 3) := by decide +kernel
theorem dX3_joinCell_46 : decode cX3_joinCell 46 = .ok (.iconst 4, 1) := by decide +kernel
theorem dX3_joinCell_47 : decode cX3_joinCell 47 = .ok (.iload_n 3, 1) := by decide +kernel
theorem dX3_joinCell_48 : decode cX3_joinCell 48 = .ok (.imul, 1) := by decide +kernel
theorem dX3_joinCell_49 : decode cX3_joinCell 49 = .ok (.if_icmp .lt 7, 3) := by decide +kernel
theorem dX3_joinCell_52 : decode cX3_joinCell 52 = .ok (.iconst 1, 1) := by decide +kernel
theorem dX3_joinCell_53 : decode cX3_joinCell 53 = .ok (.goto 4, 3) := by decide +kernel
theorem dX3_joinCell_56 : decode cX3_joinCell 56 = .ok (.iconst 0, 1) := by decide +kernel
theorem dX3_joinCell_57 : decode cX3_joinCell 57 = .ok (.istore 5, 2) := by decide +kernel
theorem dX3_joinCell_59 : decode cX3_joinCell 59 = .ok (.iconst 0, 1) := by decide +kernel
theorem dX3_joinCell_60 : decode cX3_joinCell 60 = .ok (.istore 6, 2) := by decide +kernel
theorem dX3_joinCell_62 : decode cX3_joinCell 62 = .ok (.iload 6, 2) := by decide +kernel
theorem dX3_joinCell_64 : decode cX3_joinCell 64 = .ok (.iconst 4, 1) := by decide +kernel
theorem dX3_joinCell_65 : decode cX3_joinCell 65 = .ok (.if_icmp .ge 54, 3) := by decide +kernel
theorem dX3_joinCell_68 : decode cX3_joinCell 68 = .ok (.iload 4, 2) := by decide +kernel
theorem dX3_joinCell_70 : decode cX3_joinCell 70 = .ok (.iload 6, 2) := by decide +kernel
theorem dX3_joinCell_72 : decode cX3_joinCell 72 = .ok (.invokestatic 52, 3) := by decide +kernel
theorem dX3_joinCell_75 : decode cX3_joinCell 75 = .ok (.ifCond .eq 38, 3) := by decide +kernel
theorem dX3_joinCell_78 : decode cX3_joinCell 78 = .ok (.iload 4, 2) := by decide +kernel
theorem dX3_joinCell_80 : decode cX3_joinCell 80 = .ok (.iload 6, 2) := by decide +kernel
theorem dX3_joinCell_82 : decode cX3_joinCell 82 = .ok (.iconst 1, 1) := by decide +kernel
theorem dX3_joinCell_83 : decode cX3_joinCell 83 = .ok (.iadd, 1) := by decide +kernel
theorem dX3_joinCell_84 : decode cX3_joinCell 84 = .ok (.invokestatic 52, 3) := by decide +kernel
theorem dX3_joinCell_87 : decode cX3_joinCell 87 = .ok (.ifCond .ne 26, 3) := by decide +kernel
theorem dX3_joinCell_90 : decode cX3_joinCell 90 = .ok (.aload_n 0, 1) := by decide +kernel
theorem dX3_joinCell_91 : decode cX3_joinCell 91 = .ok (.iload_n 2, 1) := by decide +kernel
theorem dX3_joinCell_92 : decode cX3_joinCell 92 = .ok (.iload 6, 2) := by decide +kernel
theorem dX3_joinCell_94 : decode cX3_joinCell 94 = .ok (.invokestatic 56, 3) := by decide +kernel
theorem dX3_joinCell_97 : decode cX3_joinCell 97 = .ok (.iload_n 2, 1) := by decide +kernel
theorem dX3_joinCell_98 : decode cX3_joinCell 98 = .ok (.iload 4, 2) := by decide +kernel
theorem dX3_joinCell_100 : decode cX3_joinCell 100 = .ok (.iload 6, 2) := by decide +kernel
theorem dX3_joinCell_102 : decode cX3_joinCell 102 = .ok (.iload 5, 2) := by decide +kernel
theorem dX3_joinCell_104 : decode cX3_joinCell 104 = .ok (.invokestatic 59, 3) := by decide +kernel
theorem dX3_joinCell_107 : decode cX3_joinCell 107 = .ok (.invokestatic 56, 3) := by decide +kernel
theorem dX3_joinCell_110 : decode cX3_joinCell 110 = .ok (.invokevirtual 63, 3) := by decide +kernel
theorem dX3_joinCell_113 : decode cX3_joinCell 113 = .ok (.iinc 6 1, 3) := by decide +kernel
theorem dX3_joinCell_116 : decode cX3_joinCell 116 = .ok (.goto (-54), 3) := by decide +kernel
theorem dX3_joinCell_119 : decode cX3_joinCell 119 = .ok (.return_, 1) := by decide +kernel
set_option maxRecDepth 20000 in
theorem ggX3_wayOut_X3_isHigh : GoodIn wsX3_wayOut wsX3_isHigh := goodIn_r _ [4] (by decide +kernel) (by decide +kernel)
set_option maxRecDepth 20000 in
theorem gX3_wayOut_X3_isHigh : GoodIn wsX3_wayOut (va_wsS RX3 52 yX3_isHigh wsX3_isHigh) := goodIn_app (goodIn_of _ (by decide +kernel)) ggX3_wayOut_X3_isHigh
theorem dX3_wayOut_0 : decode cX3_wayOut 0 = .ok (.iload_n 2, 1) := by decide +kernel
theorem dX3_wayOut_1 : decode cX3_wayOut 1 = .ok (.ifCond .eq 7, 3) := by decide +kernel
theorem dX3_wayOut_4 : decode cX3_wayOut 4 = .ok (.iconst 1, 1) := by decide +kernel
theorem dX3_wayOut_5 : decode cX3_wayOut 5 = .ok (.goto 4, 3) := by decide +kernel
theorem dX3_wayOut_8 : decode cX3_wayOut 8 = .ok (.iconst 3, 1) := by decide +kernel
theorem dX3_wayOut_9 : decode cX3_wayOut 9 = .ok (.istore_n 3, 1) := by decide +kernel
theorem dX3_wayOut_10 : decode cX3_wayOut 10 = .ok (.iconst 1, 1) := by decide +kernel
theorem dX3_wayOut_11 : decode cX3_wayOut 11 = .ok (.istore 4, 2) := by decide +kernel
theorem dX3_wayOut_13 : decode cX3_wayOut 13 = .ok (.iload 4, 2) := by decide +kernel
theorem dX3_wayOut_15 : decode cX3_wayOut 15 = .ok (.iconst 4, 1) := by decide +kernel
theorem dX3_wayOut_16 : decode cX3_wayOut 16 = .ok (.if_icmp .ge 42, 3) := by decide +kernel
theorem dX3_wayOut_19 : decode cX3_wayOut 19 = .ok (.iload_n 1, 1) := by decide +kernel
theorem dX3_wayOut_20 : decode cX3_wayOut 20 = .ok (.iload_n 3, 1) := by decide +kernel
theorem dX3_wayOut_21 : decode cX3_wayOut 21 = .ok (.iload 4, 2) := by decide +kernel
theorem dX3_wayOut_23 : decode cX3_wayOut 23 = .ok (.imul, 1) := by decide +kernel
theorem dX3_wayOut_24 : decode cX3_wayOut 24 = .ok (.iadd, 1) := by decide +kernel
theorem dX3_wayOut_25 : decode cX3_wayOut 25 = .ok (.istore 5, 2) := by decide +kernel
theorem dX3_wayOut_27 : decode cX3_wayOut 27 = .ok (.iload_n 0, 1) := by decide +kernel
theorem dX3_wayOut_28 : decode cX3_wayOut 28 = .ok (.iload 5, 2) := by decide +kernel
theorem dX3_wayOut_30 : decode cX3_wayOut 30 = .ok (.invokestatic 52, 3) := by decide +kernel
theorem dX3_wayOut_33 : decode cX3_wayOut 33 = .ok (.ifCond .ne 19, 3) := by decide +kernel
theorem dX3_wayOut_36 : decode cX3_wayOut 36 = .ok (.iload_n 0, 1) := by decide +kernel
theorem dX3_wayOut_37 : decode cX3_wayOut 37 = .ok (.iload 5, 2) := by decide +kernel
theorem dX3_wayOut_39 : decode cX3_wayOut 39 = .ok (.iconst 1, 1) := by decide +kernel
theorem dX3_wayOut_40 : decode cX3_wayOut 40 = .ok (.iadd, 1) := by decide +kernel
theorem dX3_wayOut_41 : decode cX3_wayOut 41 = .ok (.invokestatic 52, 3) := by decide +kernel
theorem dX3_wayOut_44 : decode cX3_wayOut 44 = .ok (.ifCond .eq 8, 3) := by decide +kernel
theorem dX3_wayOut_47 : decode cX3_wayOut 47 = .ok (.iload 5, 2) := by decide +kernel
theorem dX3_wayOut_49 : decode cX3_wayOut 49 = .ok (.iconst 3, 1) := by decide +kernel
theorem dX3_wayOut_50 : decode cX3_wayOut 50 = .ok (.iand, 1) := by decide +kernel
theorem dX3_wayOut_51 : decode cX3_wayOut 51 = .ok (.ireturn, 1) := by decide +kernel
theorem dX3_wayOut_52 : decode cX3_wayOut 52 = .ok (.iinc 4 1, 3) := by decide +kernel
theorem dX3_wayOut_55 : decode cX3_wayOut 55 = .ok (.goto (-42), 3) := by decide +kernel
theorem dX3_wayOut_58 : decode cX3_wayOut 58 = .ok (.iload_n 1, 1) := by decide +kernel
theorem dX3_wayOut_59 : decode cX3_wayOut 59 = .ok (.ireturn, 1) := by decide +kernel
theorem dX3_isHigh_0 : decode cX3_isHigh 0 = .ok (.iload_n 0, 1) := by decide +kernel
theorem dX3_isHigh_1 : decode cX3_isHigh 1 = .ok (.iload_n 1, 1) := by decide +kernel
theorem dX3_isHigh_2 : decode cX3_isHigh 2 = .ok (.iconst 3, 1) := by decide +kernel
theorem dX3_isHigh_3 : decode cX3_isHigh 3 = .ok (.iand, 1) := by decide +kernel
theorem dX3_isHigh_4 : decode cX3_isHigh 4 = .ok (.ishr, 1) := by decide +kernel
theorem dX3_isHigh_5 : decode cX3_isHigh 5 = .ok (.iconst 1, 1) := by decide +kernel
theorem dX3_isHigh_6 : decode cX3_isHigh 6 = .ok (.iand, 1) := by decide +kernel
theorem dX3_isHigh_7 : decode cX3_isHigh 7 = .ok (.iconst 1, 1) := by decide +kernel
theorem dX3_isHigh_8 : decode cX3_isHigh 8 = .ok (.if_icmp .ne 7, 3) := by decide +kernel
theorem dX3_isHigh_11 : decode cX3_isHigh 11 = .ok (.iconst 1, 1) := by decide +kernel
theorem dX3_isHigh_12 : decode cX3_isHigh 12 = .ok (.goto 4, 3) := by decide +kernel
theorem dX3_isHigh_15 : decode cX3_isHigh 15 = .ok (.iconst 0, 1) := by decide +kernel
theorem dX3_isHigh_16 : decode cX3_isHigh 16 = .ok (.ireturn, 1) := by decide +kernel
theorem dX3_cornerOf_0 : decode cX3_cornerOf 0 = .ok (.iload_n 0, 1) := by decide +kernel
theorem dX3_cornerOf_1 : decode cX3_cornerOf 1 = .ok (.iload_n 1, 1) := by decide +kernel
theorem dX3_cornerOf_2 : decode cX3_cornerOf 2 = .ok (.iconst 1, 1) := by decide +kernel
theorem dX3_cornerOf_3 : decode cX3_cornerOf 3 = .ok (.if_icmp .eq 8, 3) := by decide +kernel
theorem dX3_cornerOf_6 : decode cX3_cornerOf 6 = .ok (.iload_n 1, 1) := by decide +kernel
theorem dX3_cornerOf_7 : decode cX3_cornerOf 7 = .ok (.iconst 2, 1) := by decide +kernel
theorem dX3_cornerOf_8 : decode cX3_cornerOf 8 = .ok (.if_icmp .ne 7, 3) := by decide +kernel
theorem dX3_cornerOf_11 : decode cX3_cornerOf 11 = .ok (.iconst 1, 1) := by decide +kernel
theorem dX3_cornerOf_12 : decode cX3_cornerOf 12 = .ok (.goto 4, 3) := by decide +kernel
theorem dX3_cornerOf_15 : decode cX3_cornerOf 15 = .ok (.iconst 0, 1) := by decide +kernel
theorem dX3_cornerOf_16 : decode cX3_cornerOf 16 = .ok (.iadd, 1) := by decide +kernel
theorem dX3_cornerOf_17 : decode cX3_cornerOf 17 = .ok (.iload_n 1, 1) := by decide +kernel
theorem dX3_cornerOf_18 : decode cX3_cornerOf 18 = .ok (.iconst 2, 1) := by decide +kernel
theorem dX3_cornerOf_19 : decode cX3_cornerOf 19 = .ok (.if_icmp .lt 8, 3) := by decide +kernel
theorem dX3_cornerOf_22 : decode cX3_cornerOf 22 = .ok (.bipush 40, 2) := by decide +kernel
theorem dX3_cornerOf_24 : decode cX3_cornerOf 24 = .ok (.goto 4, 3) := by decide +kernel
theorem dX3_cornerOf_27 : decode cX3_cornerOf 27 = .ok (.iconst 0, 1) := by decide +kernel
theorem dX3_cornerOf_28 : decode cX3_cornerOf 28 = .ok (.iadd, 1) := by decide +kernel
theorem dX3_cornerOf_29 : decode cX3_cornerOf 29 = .ok (.ireturn, 1) := by decide +kernel
theorem dX3_sideOfCell_0 : decode cX3_sideOfCell 0 = .ok (.iload_n 1, 1) := by decide +kernel
theorem dX3_sideOfCell_1 : decode cX3_sideOfCell 1 = .ok (.tableswitch 46 0 2 #[27, 31, 39], 27) := by decide +kernel
theorem dX3_sideOfCell_28 : decode cX3_sideOfCell 28 = .ok (.iconst 2, 1) := by decide +kernel
theorem dX3_sideOfCell_29 : decode cX3_sideOfCell 29 = .ok (.iload_n 0, 1) := by decide +kernel
theorem dX3_sideOfCell_30 : decode cX3_sideOfCell 30 = .ok (.imul, 1) := by decide +kernel
theorem dX3_sideOfCell_31 : decode cX3_sideOfCell 31 = .ok (.ireturn, 1) := by decide +kernel
theorem dX3_sideOfCell_32 : decode cX3_sideOfCell 32 = .ok (.iconst 2, 1) := by decide +kernel
theorem dX3_sideOfCell_33 : decode cX3_sideOfCell 33 = .ok (.iload_n 0, 1) := by decide +kernel
theorem dX3_sideOfCell_34 : decode cX3_sideOfCell 34 = .ok (.iconst 1, 1) := by decide +kernel
theorem dX3_sideOfCell_35 : decode cX3_sideOfCell 35 = .ok (.iadd, 1) := by decide +kernel
theorem dX3_sideOfCell_36 : decode cX3_sideOfCell 36 = .ok (.imul, 1) := by decide +kernel
theorem dX3_sideOfCell_37 : decode cX3_sideOfCell 37 = .ok (.iconst 1, 1) := by decide +kernel
theorem dX3_sideOfCell_38 : decode cX3_sideOfCell 38 = .ok (.iadd, 1) := by decide +kernel
theorem dX3_sideOfCell_39 : decode cX3_sideOfCell 39 = .ok (.ireturn, 1) := by decide +kernel
theorem dX3_sideOfCell_40 : decode cX3_sideOfCell 40 = .ok (.iconst 2, 1) := by decide +kernel
theorem dX3_sideOfCell_41 : decode cX3_sideOfCell 41 = .ok (.iload_n 0, 1) := by decide +kernel
theorem dX3_sideOfCell_42 : decode cX3_sideOfCell 42 = .ok (.bipush 40, 2) := by decide +kernel
theorem dX3_sideOfCell_44 : decode cX3_sideOfCell 44 = .ok (.iadd, 1) := by decide +kernel
theorem dX3_sideOfCell_45 : decode cX3_sideOfCell 45 = .ok (.imul, 1) := by decide +kernel
theorem dX3_sideOfCell_46 : decode cX3_sideOfCell 46 = .ok (.ireturn, 1) := by decide +kernel
theorem dX3_sideOfCell_47 : decode cX3_sideOfCell 47 = .ok (.iconst 2, 1) := by decide +kernel
theorem dX3_sideOfCell_48 : decode cX3_sideOfCell 48 = .ok (.iload_n 0, 1) := by decide +kernel
theorem dX3_sideOfCell_49 : decode cX3_sideOfCell 49 = .ok (.imul, 1) := by decide +kernel
theorem dX3_sideOfCell_50 : decode cX3_sideOfCell 50 = .ok (.iconst 1, 1) := by decide +kernel
theorem dX3_sideOfCell_51 : decode cX3_sideOfCell 51 = .ok (.iadd, 1) := by decide +kernel
theorem dX3_sideOfCell_52 : decode cX3_sideOfCell 52 = .ok (.ireturn, 1) := by decide +kernel
theorem dX3_link_0 : decode cX3_link 0 = .ok (.iload_n 1, 1) := by decide +kernel
theorem dX3_link_1 : decode cX3_link 1 = .ok (.ifCond .lt 59, 3) := by decide +kernel
theorem dX3_link_4 : decode cX3_link 4 = .ok (.iload_n 1, 1) := by decide +kernel
theorem dX3_link_5 : decode cX3_link 5 = .ok (.sipush 2560, 3) := by decide +kernel
theorem dX3_link_8 : decode cX3_link 8 = .ok (.if_icmp .ge 52, 3) := by decide +kernel
theorem dX3_link_11 : decode cX3_link 11 = .ok (.iload_n 2, 1) := by decide +kernel
theorem dX3_link_12 : decode cX3_link 12 = .ok (.ifCond .lt 48, 3) := by decide +kernel
theorem dX3_link_15 : decode cX3_link 15 = .ok (.iload_n 2, 1) := by decide +kernel
theorem dX3_link_16 : decode cX3_link 16 = .ok (.sipush 2560, 3) := by decide +kernel
theorem dX3_link_19 : decode cX3_link 19 = .ok (.if_icmp .ge 41, 3) := by decide +kernel
theorem dX3_link_22 : decode cX3_link 22 = .ok (.aload_n 0, 1) := by decide +kernel
theorem dX3_link_23 : decode cX3_link 23 = .ok (.getfield 9, 3) := by decide +kernel
theorem dX3_link_26 : decode cX3_link 26 = .ok (.iload_n 1, 1) := by decide +kernel
theorem dX3_link_27 : decode cX3_link 27 = .ok (.iload_n 2, 1) := by decide +kernel
theorem dX3_link_28 : decode cX3_link 28 = .ok (.iastore, 1) := by decide +kernel
theorem dX3_link_29 : decode cX3_link 29 = .ok (.aload_n 0, 1) := by decide +kernel
theorem dX3_link_30 : decode cX3_link 30 = .ok (.getfield 15, 3) := by decide +kernel
theorem dX3_link_33 : decode cX3_link 33 = .ok (.iload_n 2, 1) := by decide +kernel
theorem dX3_link_34 : decode cX3_link 34 = .ok (.iload_n 1, 1) := by decide +kernel
theorem dX3_link_35 : decode cX3_link 35 = .ok (.iastore, 1) := by decide +kernel
theorem dX3_link_36 : decode cX3_link 36 = .ok (.aload_n 0, 1) := by decide +kernel
theorem dX3_link_37 : decode cX3_link 37 = .ok (.aload_n 0, 1) := by decide +kernel
theorem dX3_link_38 : decode cX3_link 38 = .ok (.getfield 24, 3) := by decide +kernel
theorem dX3_link_41 : decode cX3_link 41 = .ok (.iload_n 1, 1) := by decide +kernel
theorem dX3_link_42 : decode cX3_link 42 = .ok (.invokestatic 67, 3) := by decide +kernel
theorem dX3_link_45 : decode cX3_link 45 = .ok (.putfield 24, 3) := by decide +kernel
theorem dX3_link_48 : decode cX3_link 48 = .ok (.aload_n 0, 1) := by decide +kernel
theorem dX3_link_49 : decode cX3_link 49 = .ok (.aload_n 0, 1) := by decide +kernel
theorem dX3_link_50 : decode cX3_link 50 = .ok (.getfield 28, 3) := by decide +kernel
theorem dX3_link_53 : decode cX3_link 53 = .ok (.iload_n 1, 1) := by decide +kernel
theorem dX3_link_54 : decode cX3_link 54 = .ok (.invokestatic 72, 3) := by decide +kernel
theorem dX3_link_57 : decode cX3_link 57 = .ok (.putfield 28, 3) := by decide +kernel
theorem dX3_link_60 : decode cX3_link 60 = .ok (.return_, 1) := by decide +kernel
theorem dX3_leadsOn_0 : decode cX3_leadsOn 0 = .ok (.iload_n 1, 1) := by decide +kernel
theorem dX3_leadsOn_1 : decode cX3_leadsOn 1 = .ok (.ifCond .lt 24, 3) := by decide +kernel
theorem dX3_leadsOn_4 : decode cX3_leadsOn 4 = .ok (.iload_n 1, 1) := by decide +kernel
theorem dX3_leadsOn_5 : decode cX3_leadsOn 5 = .ok (.sipush 2560, 3) := by decide +kernel
theorem dX3_leadsOn_8 : decode cX3_leadsOn 8 = .ok (.if_icmp .ge 17, 3) := by decide +kernel
theorem dX3_leadsOn_11 : decode cX3_leadsOn 11 = .ok (.aload_n 0, 1) := by decide +kernel
theorem dX3_leadsOn_12 : decode cX3_leadsOn 12 = .ok (.getfield 9, 3) := by decide +kernel
theorem dX3_leadsOn_15 : decode cX3_leadsOn 15 = .ok (.iload_n 1, 1) := by decide +kernel
theorem dX3_leadsOn_16 : decode cX3_leadsOn 16 = .ok (.iaload, 1) := by decide +kernel
theorem dX3_leadsOn_17 : decode cX3_leadsOn 17 = .ok (.iconst (-1), 1) := by decide +kernel
theorem dX3_leadsOn_18 : decode cX3_leadsOn 18 = .ok (.if_icmp .eq 7, 3) := by decide +kernel
theorem dX3_leadsOn_21 : decode cX3_leadsOn 21 = .ok (.iconst 1, 1) := by decide +kernel
theorem dX3_leadsOn_22 : decode cX3_leadsOn 22 = .ok (.goto 4, 3) := by decide +kernel
theorem dX3_leadsOn_25 : decode cX3_leadsOn 25 = .ok (.iconst 0, 1) := by decide +kernel
theorem dX3_leadsOn_26 : decode cX3_leadsOn 26 = .ok (.ireturn, 1) := by decide +kernel
set_option maxRecDepth 20000 in
theorem ggX3_beginsAt_X3_leadsOn : GoodIn wsX3_beginsAt wsX3_leadsOn := goodIn_r _ [6, 7, 8, 9, 10, 11] (by decide +kernel) (by decide +kernel)
set_option maxRecDepth 20000 in
theorem gX3_beginsAt_X3_leadsOn : GoodIn wsX3_beginsAt (wsV RX3 75 RX3 yX3_leadsOn wsX3_leadsOn) := goodIn_app (goodIn_of _ (by decide +kernel)) ggX3_beginsAt_X3_leadsOn
theorem dX3_beginsAt_0 : decode cX3_beginsAt 0 = .ok (.aload_n 0, 1) := by decide +kernel
theorem dX3_beginsAt_1 : decode cX3_beginsAt 1 = .ok (.iload_n 1, 1) := by decide +kernel
theorem dX3_beginsAt_2 : decode cX3_beginsAt 2 = .ok (.invokevirtual 75, 3) := by decide +kernel
theorem dX3_beginsAt_5 : decode cX3_beginsAt 5 = .ok (.ifCond .eq 17, 3) := by decide +kernel
theorem dX3_beginsAt_8 : decode cX3_beginsAt 8 = .ok (.aload_n 0, 1) := by decide +kernel
theorem dX3_beginsAt_9 : decode cX3_beginsAt 9 = .ok (.getfield 15, 3) := by decide +kernel
theorem dX3_beginsAt_12 : decode cX3_beginsAt 12 = .ok (.iload_n 1, 1) := by decide +kernel
theorem dX3_beginsAt_13 : decode cX3_beginsAt 13 = .ok (.iaload, 1) := by decide +kernel
theorem dX3_beginsAt_14 : decode cX3_beginsAt 14 = .ok (.iconst (-1), 1) := by decide +kernel
theorem dX3_beginsAt_15 : decode cX3_beginsAt 15 = .ok (.if_icmp .ne 7, 3) := by decide +kernel
theorem dX3_beginsAt_18 : decode cX3_beginsAt 18 = .ok (.iconst 1, 1) := by decide +kernel
theorem dX3_beginsAt_19 : decode cX3_beginsAt 19 = .ok (.goto 4, 3) := by decide +kernel
theorem dX3_beginsAt_22 : decode cX3_beginsAt 22 = .ok (.iconst 0, 1) := by decide +kernel
theorem dX3_beginsAt_23 : decode cX3_beginsAt 23 = .ok (.ireturn, 1) := by decide +kernel
set_option maxRecDepth 20000 in
theorem ggX3_leave_X3_leadsOn : GoodIn wsX3_leave wsX3_leadsOn := goodIn_r _ [6, 1, 7, 8, 9, 10] (by decide +kernel) (by decide +kernel)
set_option maxRecDepth 20000 in
theorem gX3_leave_X3_leadsOn : GoodIn wsX3_leave (wsV RX3 75 RX3 yX3_leadsOn wsX3_leadsOn) := goodIn_app (goodIn_of _ (by decide +kernel)) ggX3_leave_X3_leadsOn
theorem dX3_leave_0 : decode cX3_leave 0 = .ok (.aload_n 0, 1) := by decide +kernel
theorem dX3_leave_1 : decode cX3_leave 1 = .ok (.iload_n 1, 1) := by decide +kernel
theorem dX3_leave_2 : decode cX3_leave 2 = .ok (.invokevirtual 75, 3) := by decide +kernel
theorem dX3_leave_5 : decode cX3_leave 5 = .ok (.ifCond .ne 5, 3) := by decide +kernel
theorem dX3_leave_8 : decode cX3_leave 8 = .ok (.iconst (-1), 1) := by decide +kernel
theorem dX3_leave_9 : decode cX3_leave 9 = .ok (.ireturn, 1) := by decide +kernel
theorem dX3_leave_10 : decode cX3_leave 10 = .ok (.aload_n 0, 1) := by decide +kernel
theorem dX3_leave_11 : decode cX3_leave 11 = .ok (.getfield 9, 3) := by decide +kernel
theorem dX3_leave_14 : decode cX3_leave 14 = .ok (.iload_n 1, 1) := by decide +kernel
theorem dX3_leave_15 : decode cX3_leave 15 = .ok (.iaload, 1) := by decide +kernel
theorem dX3_leave_16 : decode cX3_leave 16 = .ok (.istore_n 2, 1) := by decide +kernel
theorem dX3_leave_17 : decode cX3_leave 17 = .ok (.aload_n 0, 1) := by decide +kernel
theorem dX3_leave_18 : decode cX3_leave 18 = .ok (.getfield 9, 3) := by decide +kernel
theorem dX3_leave_21 : decode cX3_leave 21 = .ok (.iload_n 1, 1) := by decide +kernel
theorem dX3_leave_22 : decode cX3_leave 22 = .ok (.iconst (-1), 1) := by decide +kernel
theorem dX3_leave_23 : decode cX3_leave 23 = .ok (.iastore, 1) := by decide +kernel
theorem dX3_leave_24 : decode cX3_leave 24 = .ok (.iload_n 2, 1) := by decide +kernel
theorem dX3_leave_25 : decode cX3_leave 25 = .ok (.ireturn, 1) := by decide +kernel
set_option maxRecDepth 20000 in
theorem ggX4_init_X2_init : GoodIn wsX4_init wsX2_init := goodIn_r _ [29, 30, 2, 3, 12, 31, 32, 33, 34, 35, 36, 37, 38, 39, 52, 53, 54, 55] (by decide +kernel) (by decide +kernel)
set_option maxRecDepth 20000 in
theorem gX4_init_X2_init : GoodIn wsX4_init (wsX2_init) := ggX4_init_X2_init
set_option maxRecDepth 20000 in
theorem ggX4_init_X3_init : GoodIn wsX4_init wsX3_init := goodIn_r _ [42, 43, 2, 3, 12, 44, 45, 68, 69, 70, 71] (by decide +kernel) (by decide +kernel)
set_option maxRecDepth 20000 in
theorem gX4_init_X3_init : GoodIn wsX4_init (wsX3_init) := ggX4_init_X3_init
set_option maxRecDepth 20000 in
theorem ggX4_init_X0_init : GoodIn wsX4_init wsX0_init := goodIn_r _ [48, 49, 2, 3, 50, 51, 72, 73] (by decide +kernel) (by decide +kernel)
set_option maxRecDepth 20000 in
theorem gX4_init_X0_init : GoodIn wsX4_init (wsX0_init) := ggX4_init_X0_init
theorem dX4_init_0 : decode cX4_init 0 = .ok (.aload_n 0, 1) := by decide +kernel
theorem dX4_init_1 : decode cX4_init 1 = .ok (.invokespecial 3, 3) := by decide +kernel
theorem dX4_init_4 : decode cX4_init 4 = .ok (.aload_n 0, 1) := by decide +kernel
theorem dX4_init_5 : decode cX4_init 5 = .ok (.new 9, 3) := by decide +kernel
theorem dX4_init_8 : decode cX4_init 8 = .ok (.dup, 1) := by decide +kernel
theorem dX4_init_9 : decode cX4_init 9 = .ok (.invokespecial 11, 3) := by decide +kernel
theorem dX4_init_12 : decode cX4_init 12 = .ok (.putfield 12, 3) := by decide +kernel
theorem dX4_init_15 : decode cX4_init 15 = .ok (.aload_n 0, 1) := by decide +kernel
theorem dX4_init_16 : decode cX4_init 16 = .ok (.new 18, 3) := by decide +kernel
theorem dX4_init_19 : decode cX4_init 19 = .ok (.dup, 1) := by decide +kernel
theorem dX4_init_20 : decode cX4_init 20 = .ok (.invokespecial 20, 3) := by decide +kernel
theorem dX4_init_23 : decode cX4_init 23 = .ok (.putfield 21, 3) := by decide +kernel
theorem dX4_init_26 : decode cX4_init 26 = .ok (.aload_n 0, 1) := by decide +kernel
theorem dX4_init_27 : decode cX4_init 27 = .ok (.bipush 16, 2) := by decide +kernel
theorem dX4_init_29 : decode cX4_init 29 = .ok (.newarray .int, 2) := by decide +kernel
theorem dX4_init_31 : decode cX4_init 31 = .ok (.putfield 25, 3) := by decide +kernel
theorem dX4_init_34 : decode cX4_init 34 = .ok (.aload_n 0, 1) := by decide +kernel
theorem dX4_init_35 : decode cX4_init 35 = .ok (.sipush 8000, 3) := by decide +kernel
theorem dX4_init_38 : decode cX4_init 38 = .ok (.newarray .int, 2) := by decide +kernel
theorem dX4_init_40 : decode cX4_init 40 = .ok (.putfield 29, 3) := by decide +kernel
theorem dX4_init_43 : decode cX4_init 43 = .ok (.aload_n 0, 1) := by decide +kernel
theorem dX4_init_44 : decode cX4_init 44 = .ok (.sipush 401, 3) := by decide +kernel
theorem dX4_init_47 : decode cX4_init 47 = .ok (.newarray .int, 2) := by decide +kernel
theorem dX4_init_49 : decode cX4_init 49 = .ok (.putfield 32, 3) := by decide +kernel
theorem dX4_init_52 : decode cX4_init 52 = .ok (.aload_n 0, 1) := by decide +kernel
theorem dX4_init_53 : decode cX4_init 53 = .ok (.sipush 400, 3) := by decide +kernel
theorem dX4_init_56 : decode cX4_init 56 = .ok (.newarray .int, 2) := by decide +kernel
theorem dX4_init_58 : decode cX4_init 58 = .ok (.putfield 35, 3) := by decide +kernel
theorem dX4_init_61 : decode cX4_init 61 = .ok (.aload_n 0, 1) := by decide +kernel
theorem dX4_init_62 : decode cX4_init 62 = .ok (.sipush 400, 3) := by decide +kernel
theorem dX4_init_65 : decode cX4_init 65 = .ok (.newarray .byte, 2) := by decide +kernel
theorem dX4_init_67 : decode cX4_init 67 = .ok (.putfield 38, 3) := by decide +kernel
theorem dX4_init_70 : decode cX4_init 70 = .ok (.aload_n 0, 1) := by decide +kernel
theorem dX4_init_71 : decode cX4_init 71 = .ok (.new 42, 3) := by decide +kernel
theorem dX4_init_74 : decode cX4_init 74 = .ok (.dup, 1) := by decide +kernel
theorem dX4_init_75 : decode cX4_init 75 = .ok (.invokespecial 44, 3) := by decide +kernel
theorem dX4_init_78 : decode cX4_init 78 = .ok (.putfield 45, 3) := by decide +kernel
theorem dX4_init_81 : decode cX4_init 81 = .ok (.aload_n 0, 1) := by decide +kernel
theorem dX4_init_82 : decode cX4_init 82 = .ok (.new 42, 3) := by decide +kernel
theorem dX4_init_85 : decode cX4_init 85 = .ok (.dup, 1) := by decide +kernel
theorem dX4_init_86 : decode cX4_init 86 = .ok (.invokespecial 44, 3) := by decide +kernel
theorem dX4_init_89 : decode cX4_init 89 = .ok (.putfield 49, 3) := by decide +kernel
theorem dX4_init_92 : decode cX4_init 92 = .ok (.aload_n 0, 1) := by decide +kernel
theorem dX4_init_93 : decode cX4_init 93 = .ok (.new 42, 3) := by decide +kernel
theorem dX4_init_96 : decode cX4_init 96 = .ok (.dup, 1) := by decide +kernel
theorem dX4_init_97 : decode cX4_init 97 = .ok (.invokespecial 44, 3) := by decide +kernel
theorem dX4_init_100 : decode cX4_init 100 = .ok (.putfield 52, 3) := by decide +kernel
theorem dX4_init_103 : decode cX4_init 103 = .ok (.aload_n 0, 1) := by decide +kernel
theorem dX4_init_104 : decode cX4_init 104 = .ok (.iconst 0, 1) := by decide +kernel
theorem dX4_init_105 : decode cX4_init 105 = .ok (.putfield 55, 3) := by decide +kernel
theorem dX4_init_108 : decode cX4_init 108 = .ok (.aload_n 0, 1) := by decide +kernel
theorem dX4_init_109 : decode cX4_init 109 = .ok (.iconst 0, 1) := by decide +kernel
theorem dX4_init_110 : decode cX4_init 110 = .ok (.putfield 59, 3) := by decide +kernel
theorem dX4_init_113 : decode cX4_init 113 = .ok (.return_, 1) := by decide +kernel
set_option maxRecDepth 20000 in
theorem ggX4_draw_X2_takeAll : GoodIn wsX4_draw wsX2_takeAll := goodIn_r _ [10, 11, 12, 13, 14, 15, 16, 17, 18, 9, 19, 20, 21, 22, 140, 141, 142, 143] (by decide +kernel) (by decide +kernel)
set_option maxRecDepth 20000 in
theorem gX4_draw_X2_takeAll : GoodIn wsX4_draw (wsV RX4 63 RX2 yX2_takeAll wsX2_takeAll) := goodIn_app (goodIn_of _ (by decide +kernel)) ggX4_draw_X2_takeAll
set_option maxRecDepth 20000 in
theorem ggX4_draw_X0_takeAll : GoodIn wsX4_draw wsX0_takeAll := goodIn_r _ [27, 28, 29, 30, 31, 32, 33, 34, 35, 9, 36, 11, 37, 144, 145, 140, 141, 142, 143] (by decide +kernel) (by decide +kernel)
set_option maxRecDepth 20000 in
theorem gX4_draw_X0_takeAll : GoodIn wsX4_draw (wsV RX4 67 RX0 yX0_takeAll wsX0_takeAll) := goodIn_app (goodIn_of _ (by decide +kernel)) ggX4_draw_X0_takeAll
set_option maxRecDepth 20000 in
theorem ggX4_draw_X4_drawLevel : GoodIn wsX4_draw wsX4_drawLevel := goodIn_r _ [42, 43, 1, 5, 44, 45, 4, 46, 47, 48, 49, 50, 51, 52, 53, 54, 55, 56, 31, 57, 58, 59, 60, 9, 61, 62, 34, 35, 36, 11, 37, 63, 64, 65, 66, 67, 68, 69, 70, 71, 72, 73, 74, 75, 76, 77, 78, 79, 80, 81, 82, 83, 84, 85, 86, 87, 88, 89, 90, 91, 92, 93, 94, 95, 96, 97, 98, 99, 100, 101, 102, 103, 104, 105, 106, 107, 108, 109, 110, 111, 112, 113, 114, 115, 116, 117, 41, 118, 3, 119, 120, 121, 122, 123, 124, 125, 126, 127, 128, 129, 130, 131, 132, 133, 134, 135, 136, 137, 138, 139, 146, 147, 148, 149, 140, 141, 142, 143] (by decide +kernel) (by decide +kernel)
set_option maxRecDepth 20000 in
theorem gX4_draw_X4_drawLevel : GoodIn wsX4_draw (wsV RX4 68 RX4 yX4_drawLevel wsX4_drawLevel) := goodIn_app (goodIn_of _ (by decide +kernel)) ggX4_draw_X4_drawLevel
theorem dX4_draw_0 : decode cX4_draw 0 = .ok (.aload_n 0, 1) := by decide +kernel
theorem dX4_draw_1 : decode cX4_draw 1 = .ok (.getfield 12, 3) := by decide +kernel
theorem dX4_draw_4 : decode cX4_draw 4 = .ok (.aload_n 1, 1) := by decide +kernel
theorem dX4_draw_5 : decode cX4_draw 5 = .ok (.invokevirtual 63, 3) := by decide +kernel
theorem dX4_draw_8 : decode cX4_draw 8 = .ok (.aload_n 0, 1) := by decide +kernel
theorem dX4_draw_9 : decode cX4_draw 9 = .ok (.getfield 45, 3) := by decide +kernel
theorem dX4_draw_12 : decode cX4_draw 12 = .ok (.aload_n 0, 1) := by decide +kernel
theorem dX4_draw_13 : decode cX4_draw 13 = .ok (.getfield 12, 3) := by decide +kernel
theorem dX4_draw_16 : decode cX4_draw 16 = .ok (.invokevirtual 67, 3) := by decide +kernel
theorem dX4_draw_19 : decode cX4_draw 19 = .ok (.aload_n 0, 1) := by decide +kernel
theorem dX4_draw_20 : decode cX4_draw 20 = .ok (.iconst 0, 1) := by decide +kernel
theorem dX4_draw_21 : decode cX4_draw 21 = .ok (.putfield 55, 3) := by decide +kernel
theorem dX4_draw_24 : decode cX4_draw 24 = .ok (.aload_n 0, 1) := by decide +kernel
theorem dX4_draw_25 : decode cX4_draw 25 = .ok (.iconst 0, 1) := by decide +kernel
theorem dX4_draw_26 : decode cX4_draw 26 = .ok (.putfield 59, 3) := by decide +kernel
theorem dX4_draw_29 : decode cX4_draw 29 = .ok (.iconst 0, 1) := by decide +kernel
theorem dX4_draw_30 : decode cX4_draw 30 = .ok (.istore 4, 2) := by decide +kernel
theorem dX4_draw_32 : decode cX4_draw 32 = .ok (.iload 4, 2) := by decide +kernel
theorem dX4_draw_34 : decode cX4_draw 34 = .ok (.iload_n 3, 1) := by decide +kernel
theorem dX4_draw_35 : decode cX4_draw 35 = .ok (.if_icmp .ge 51, 3) := by decide +kernel
theorem dX4_draw_38 : decode cX4_draw 38 = .ok (.iload 4, 2) := by decide +kernel
theorem dX4_draw_40 : decode cX4_draw 40 = .ok (.bipush 16, 2) := by decide +kernel
theorem dX4_draw_42 : decode cX4_draw 42 = .ok (.if_icmp .ge 44, 3) := by decide +kernel
theorem dX4_draw_45 : decode cX4_draw 45 = .ok (.iload 4, 2) := by decide +kernel
theorem dX4_draw_47 : decode cX4_draw 47 = .ok (.aload_n 2, 1) := by decide +kernel
theorem dX4_draw_48 : decode cX4_draw 48 = .ok (.arraylength, 1) := by decide +kernel
theorem dX4_draw_49 : decode cX4_draw 49 = .ok (.if_icmp .ge 37, 3) := by decide +kernel
theorem dX4_draw_52 : decode cX4_draw 52 = .ok (.aload_n 0, 1) := by decide +kernel
theorem dX4_draw_53 : decode cX4_draw 53 = .ok (.getfield 25, 3) := by decide +kernel
theorem dX4_draw_56 : decode cX4_draw 56 = .ok (.iload 4, 2) := by decide +kernel
theorem dX4_draw_58 : decode cX4_draw 58 = .ok (.sipush 1024, 3) := by decide +kernel
theorem dX4_draw_61 : decode cX4_draw 61 = .ok (.aload_n 2, 1) := by decide +kernel
theorem dX4_draw_62 : decode cX4_draw 62 = .ok (.iload 4, 2) := by decide +kernel
theorem dX4_draw_64 : decode cX4_draw 64 = .ok (.iaload, 1) := by decide +kernel
theorem dX4_draw_65 : decode cX4_draw 65 = .ok (.imul, 1) := by decide +kernel
theorem dX4_draw_66 : decode cX4_draw 66 = .ok (.iastore, 1) := by decide +kernel
theorem dX4_draw_67 : decode cX4_draw 67 = .ok (.aload_n 0, 1) := by decide +kernel
theorem dX4_draw_68 : decode cX4_draw 68 = .ok (.getfield 59, 3) := by decide +kernel
theorem dX4_draw_71 : decode cX4_draw 71 = .ok (.ifCond .ne 9, 3) := by decide +kernel
theorem dX4_draw_74 : decode cX4_draw 74 = .ok (.aload_n 0, 1) := by decide +kernel
theorem dX4_draw_75 : decode cX4_draw 75 = .ok (.iload 4, 2) := by decide +kernel
theorem dX4_draw_77 : decode cX4_draw 77 = .ok (.invokevirtual 68, 3) := by decide +kernel
theorem dX4_draw_80 : decode cX4_draw 80 = .ok (.iinc 4 1, 3) := by decide +kernel
theorem dX4_draw_83 : decode cX4_draw 83 = .ok (.goto (-51), 3) := by decide +kernel
theorem dX4_draw_86 : decode cX4_draw 86 = .ok (.return_, 1) := by decide +kernel
set_option maxRecDepth 20000 in
theorem ggX4_drawLevel_X3_join : GoodIn wsX4_drawLevel wsX3_join := goodIn_r _ [11, 12, 13, 14, 15, 16, 17, 18, 19, 20, 21, 22, 23, 24, 25, 26, 27, 28, 29, 30, 31, 32, 33, 34, 35, 36, 37, 38, 39, 40, 41, 10, 42, 43, 44, 45, 46, 47, 48, 49, 50, 51, 52, 53, 54, 55, 56, 57, 58, 59, 60, 61, 62, 63, 64, 65, 66, 67, 68, 69, 70, 71, 72, 73, 74, 110, 111, 112, 113, 114, 115, 116, 117] (by decide +kernel) (by decide +kernel)
set_option maxRecDepth 20000 in
theorem gX4_drawLevel_X3_join : GoodIn wsX4_drawLevel (wsV RX4 72 RX3 yX3_join wsX3_join) := goodIn_app (goodIn_of _ (by decide +kernel)) ggX4_drawLevel_X3_join
set_option maxRecDepth 20000 in
theorem ggX4_drawLevel_X3_beginsAt : GoodIn wsX4_drawLevel wsX3_beginsAt := goodIn_r _ [78, 13, 79, 80, 81, 10, 82, 12, 110, 111, 112, 113] (by decide +kernel) (by decide +kernel)
set_option maxRecDepth 20000 in
theorem gX4_drawLevel_X3_beginsAt : GoodIn wsX4_drawLevel (wsV RX4 82 RX3 yX3_beginsAt wsX3_beginsAt) := goodIn_app (goodIn_of _ (by decide +kernel)) ggX4_drawLevel_X3_beginsAt
set_option maxRecDepth 20000 in
theorem ggX4_drawLevel_X4_drawLine : GoodIn wsX4_drawLevel wsX4_drawLine := goodIn_r _ [87, 88, 6, 89, 90, 1, 91, 92, 93, 94, 95, 10, 96, 12, 79, 80, 81, 82, 98, 99, 100, 101, 102, 103, 104, 105, 106, 107, 108, 109, 110, 111, 112, 113] (by decide +kernel) (by decide +kernel)
set_option maxRecDepth 20000 in
theorem gX4_drawLevel_X4_drawLine : GoodIn wsX4_drawLevel (wsV RX4 86 RX4 yX4_drawLine wsX4_drawLine) := goodIn_app (goodIn_of _ (by decide +kernel)) ggX4_drawLevel_X4_drawLine
set_option maxRecDepth 20000 in
theorem ggX4_drawLevel_X3_leadsOn : GoodIn wsX4_drawLevel wsX3_leadsOn := goodIn_r _ [82, 12, 110, 111, 112, 113] (by decide +kernel) (by decide +kernel)
set_option maxRecDepth 20000 in
theorem gX4_drawLevel_X3_leadsOn : GoodIn wsX4_drawLevel (wsV RX4 90 RX3 yX3_leadsOn wsX3_leadsOn) := goodIn_app (goodIn_of _ (by decide +kernel)) ggX4_drawLevel_X3_leadsOn
theorem dX4_drawLevel_0 : decode cX4_drawLevel 0 = .ok (.aload_n 0, 1) := by decide +kernel
theorem dX4_drawLevel_1 : decode cX4_drawLevel 1 = .ok (.getfield 21, 3) := by decide +kernel
theorem dX4_drawLevel_4 : decode cX4_drawLevel 4 = .ok (.aload_n 0, 1) := by decide +kernel
theorem dX4_drawLevel_5 : decode cX4_drawLevel 5 = .ok (.getfield 12, 3) := by decide +kernel
theorem dX4_drawLevel_8 : decode cX4_drawLevel 8 = .ok (.aload_n 0, 1) := by decide +kernel
theorem dX4_drawLevel_9 : decode cX4_drawLevel 9 = .ok (.getfield 25, 3) := by decide +kernel
theorem dX4_drawLevel_12 : decode cX4_drawLevel 12 = .ok (.iload_n 1, 1) := by decide +kernel
theorem dX4_drawLevel_13 : decode cX4_drawLevel 13 = .ok (.iaload, 1) := by decide +kernel
theorem dX4_drawLevel_14 : decode cX4_drawLevel 14 = .ok (.invokevirtual 72, 3) := by decide +kernel
theorem dX4_drawLevel_17 : decode cX4_drawLevel 17 = .ok (.aload_n 0, 1) := by decide +kernel
theorem dX4_drawLevel_18 : decode cX4_drawLevel 18 = .ok (.getfield 21, 3) := by decide +kernel
theorem dX4_drawLevel_21 : decode cX4_drawLevel 21 = .ok (.getfield 76, 3) := by decide +kernel
theorem dX4_drawLevel_24 : decode cX4_drawLevel 24 = .ok (.istore_n 2, 1) := by decide +kernel
theorem dX4_drawLevel_25 : decode cX4_drawLevel 25 = .ok (.iload_n 2, 1) := by decide +kernel
theorem dX4_drawLevel_26 : decode cX4_drawLevel 26 = .ok (.aload_n 0, 1) := by decide +kernel
theorem dX4_drawLevel_27 : decode cX4_drawLevel 27 = .ok (.getfield 21, 3) := by decide +kernel
theorem dX4_drawLevel_30 : decode cX4_drawLevel 30 = .ok (.getfield 79, 3) := by decide +kernel
theorem dX4_drawLevel_33 : decode cX4_drawLevel 33 = .ok (.if_icmp .gt 33, 3) := by decide +kernel
theorem dX4_drawLevel_36 : decode cX4_drawLevel 36 = .ok (.aload_n 0, 1) := by decide +kernel
theorem dX4_drawLevel_37 : decode cX4_drawLevel 37 = .ok (.getfield 59, 3) := by decide +kernel
theorem dX4_drawLevel_40 : decode cX4_drawLevel 40 = .ok (.ifCond .ne 26, 3) := by decide +kernel
theorem dX4_drawLevel_43 : decode cX4_drawLevel 43 = .ok (.aload_n 0, 1) := by decide +kernel
theorem dX4_drawLevel_44 : decode cX4_drawLevel 44 = .ok (.getfield 21, 3) := by decide +kernel
theorem dX4_drawLevel_47 : decode cX4_drawLevel 47 = .ok (.iload_n 2, 1) := by decide +kernel
theorem dX4_drawLevel_48 : decode cX4_drawLevel 48 = .ok (.invokevirtual 82, 3) := by decide +kernel
theorem dX4_drawLevel_51 : decode cX4_drawLevel 51 = .ok (.ifCond .eq 9, 3) := by decide +kernel
theorem dX4_drawLevel_54 : decode cX4_drawLevel 54 = .ok (.aload_n 0, 1) := by decide +kernel
theorem dX4_drawLevel_55 : decode cX4_drawLevel 55 = .ok (.iload_n 2, 1) := by decide +kernel
theorem dX4_drawLevel_56 : decode cX4_drawLevel 56 = .ok (.iload_n 1, 1) := by decide +kernel
theorem dX4_drawLevel_57 : decode cX4_drawLevel 57 = .ok (.invokevirtual 86, 3) := by decide +kernel
theorem dX4_drawLevel_60 : decode cX4_drawLevel 60 = .ok (.iinc 2 1, 3) := by decide +kernel
theorem dX4_drawLevel_63 : decode cX4_drawLevel 63 = .ok (.goto (-38), 3) := by decide +kernel
theorem dX4_drawLevel_66 : decode cX4_drawLevel 66 = .ok (.aload_n 0, 1) := by decide +kernel
theorem dX4_drawLevel_67 : decode cX4_drawLevel 67 = .ok (.getfield 21, 3) := by decide +kernel
theorem dX4_drawLevel_70 : decode cX4_drawLevel 70 = .ok (.getfield 76, 3) := by decide +kernel
theorem dX4_drawLevel_73 : decode cX4_drawLevel 73 = .ok (.istore_n 2, 1) := by decide +kernel
theorem dX4_drawLevel_74 : decode cX4_drawLevel 74 = .ok (.iload_n 2, 1) := by decide +kernel
theorem dX4_drawLevel_75 : decode cX4_drawLevel 75 = .ok (.aload_n 0, 1) := by decide +kernel
theorem dX4_drawLevel_76 : decode cX4_drawLevel 76 = .ok (.getfield 21, 3) := by decide +kernel
theorem dX4_drawLevel_79 : decode cX4_drawLevel 79 = .ok (.getfield 79, 3) := by decide +kernel
theorem dX4_drawLevel_82 : decode cX4_drawLevel 82 = .ok (.if_icmp .gt 33, 3) := by decide +kernel
theorem dX4_drawLevel_85 : decode cX4_drawLevel 85 = .ok (.aload_n 0, 1) := by decide +kernel
theorem dX4_drawLevel_86 : decode cX4_drawLevel 86 = .ok (.getfield 59, 3) := by decide +kernel
theorem dX4_drawLevel_89 : decode cX4_drawLevel 89 = .ok (.ifCond .ne 26, 3) := by decide +kernel
theorem dX4_drawLevel_92 : decode cX4_drawLevel 92 = .ok (.aload_n 0, 1) := by decide +kernel
theorem dX4_drawLevel_93 : decode cX4_drawLevel 93 = .ok (.getfield 21, 3) := by decide +kernel
theorem dX4_drawLevel_96 : decode cX4_drawLevel 96 = .ok (.iload_n 2, 1) := by decide +kernel
theorem dX4_drawLevel_97 : decode cX4_drawLevel 97 = .ok (.invokevirtual 90, 3) := by decide +kernel
theorem dX4_drawLevel_100 : decode cX4_drawLevel 100 = .ok (.ifCond .eq 9, 3) := by decide +kernel
theorem dX4_drawLevel_103 : decode cX4_drawLevel 103 = .ok (.aload_n 0, 1) := by decide +kernel
theorem dX4_drawLevel_104 : decode cX4_drawLevel 104 = .ok (.iload_n 2, 1) := by decide +kernel
theorem dX4_drawLevel_105 : decode cX4_drawLevel 105 = .ok (.iload_n 1, 1) := by decide +kernel
theorem dX4_drawLevel_106 : decode cX4_drawLevel 106 = .ok (.invokevirtual 86, 3) := by decide +kernel
theorem dX4_drawLevel_109 : decode cX4_drawLevel 109 = .ok (.iinc 2 1, 3) := by decide +kernel
theorem dX4_drawLevel_112 : decode cX4_drawLevel 112 = .ok (.goto (-38), 3) := by decide +kernel
theorem dX4_drawLevel_115 : decode cX4_drawLevel 115 = .ok (.return_, 1) := by decide +kernel
set_option maxRecDepth 20000 in
theorem ggX4_drawLine_X3_leave : GoodIn wsX4_drawLine wsX3_leave := goodIn_r _ [12, 13, 14, 15, 16, 11, 17, 30, 31, 32, 33] (by decide +kernel) (by decide +kernel)
set_option maxRecDepth 20000 in
theorem gX4_drawLine_X3_leave : GoodIn wsX4_drawLine (wsV RX4 93 RX3 yX3_leave wsX3_leave) := goodIn_app (goodIn_of _ (by decide +kernel)) ggX4_drawLine_X3_leave
theorem dX4_drawLine_0 : decode cX4_drawLine 0 = .ok (.aload_n 0, 1) := by decide +kernel
theorem dX4_drawLine_1 : decode cX4_drawLine 1 = .ok (.aload_n 0, 1) := by decide +kernel
theorem dX4_drawLine_2 : decode cX4_drawLine 2 = .ok (.getfield 55, 3) := by decide +kernel
theorem dX4_drawLine_5 : decode cX4_drawLine 5 = .ok (.ifCond .lt 13, 3) := by decide +kernel
theorem dX4_drawLine_8 : decode cX4_drawLine 8 = .ok (.aload_n 0, 1) := by decide +kernel
theorem dX4_drawLine_9 : decode cX4_drawLine 9 = .ok (.getfield 55, 3) := by decide +kernel
theorem dX4_drawLine_12 : decode cX4_drawLine 12 = .ok (.sipush 400, 3) := by decide +kernel
theorem dX4_drawLine_15 : decode cX4_drawLine 15 = .ok (.if_icmp .lt 7, 3) := by decide +kernel
theorem dX4_drawLine_18 : decode cX4_drawLine 18 = .ok (.iconst 1, 1) := by decide +kernel
theorem dX4_drawLine_19 : decode cX4_drawLine 19 = .ok (.goto 4, 3) := by decide +kernel
theorem dX4_drawLine_22 : decode cX4_drawLine 22 = .ok (.iconst 0, 1) := by decide +kernel
theorem dX4_drawLine_23 : decode cX4_drawLine 23 = .ok (.putfield 59, 3) := by decide +kernel
theorem dX4_drawLine_26 : decode cX4_drawLine 26 = .ok (.aload_n 0, 1) := by decide +kernel
theorem dX4_drawLine_27 : decode cX4_drawLine 27 = .ok (.getfield 59, 3) := by decide +kernel
theorem dX4_drawLine_30 : decode cX4_drawLine 30 = .ok (.ifCond .eq 7, 3) := by decide +kernel
theorem dX4_drawLine_33 : decode cX4_drawLine 33 = .ok (.iconst 0, 1) := by decide +kernel
theorem dX4_drawLine_34 : decode cX4_drawLine 34 = .ok (.goto 12, 3) := by decide +kernel
theorem dX4_drawLine_37 : decode cX4_drawLine 37 = .ok (.aload_n 0, 1) := by decide +kernel
theorem dX4_drawLine_38 : decode cX4_drawLine 38 = .ok (.getfield 32, 3) := by decide +kernel
theorem dX4_drawLine_41 : decode cX4_drawLine 41 = .ok (.aload_n 0, 1) := by decide +kernel
theorem dX4_drawLine_42 : decode cX4_drawLine 42 = .ok (.getfield 55, 3) := by decide +kernel
theorem dX4_drawLine_45 : decode cX4_drawLine 45 = .ok (.iaload, 1) := by decide +kernel
theorem dX4_drawLine_46 : decode cX4_drawLine 46 = .ok (.istore_n 3, 1) := by decide +kernel
theorem dX4_drawLine_47 : decode cX4_drawLine 47 = .ok (.iload_n 1, 1) := by decide +kernel
theorem dX4_drawLine_48 : decode cX4_drawLine 48 = .ok (.istore 4, 2) := by decide +kernel
theorem dX4_drawLine_50 : decode cX4_drawLine 50 = .ok (.aload_n 0, 1) := by decide +kernel
theorem dX4_drawLine_51 : decode cX4_drawLine 51 = .ok (.aload_n 0, 1) := by decide +kernel
theorem dX4_drawLine_52 : decode cX4_drawLine 52 = .ok (.getfield 59, 3) := by decide +kernel
theorem dX4_drawLine_55 : decode cX4_drawLine 55 = .ok (.ifCond .ne 14, 3) := by decide +kernel
theorem dX4_drawLine_58 : decode cX4_drawLine 58 = .ok (.iload_n 3, 1) := by decide +kernel
theorem dX4_drawLine_59 : decode cX4_drawLine 59 = .ok (.ifCond .lt 10, 3) := by decide +kernel
theorem dX4_drawLine_62 : decode cX4_drawLine 62 = .ok (.iload_n 3, 1) := by decide +kernel
theorem dX4_drawLine_63 : decode cX4_drawLine 63 = .ok (.sipush 8000, 3) := by decide +kernel
theorem dX4_drawLine_66 : decode cX4_drawLine 66 = .ok (.if_icmp .lt 7, 3) := by decide +kernel
theorem dX4_drawLine_69 : decode cX4_drawLine 69 = .ok (.iconst 1, 1) := by decide +kernel
theorem dX4_drawLine_70 : decode cX4_drawLine 70 = .ok (.goto 4, 3) := by decide +kernel
theorem dX4_drawLine_73 : decode cX4_drawLine 73 = .ok (.iconst 0, 1) := by decide +kernel
theorem dX4_drawLine_74 : decode cX4_drawLine 74 = .ok (.putfield 59, 3) := by decide +kernel
theorem dX4_drawLine_77 : decode cX4_drawLine 77 = .ok (.aload_n 0, 1) := by decide +kernel
theorem dX4_drawLine_78 : decode cX4_drawLine 78 = .ok (.getfield 59, 3) := by decide +kernel
theorem dX4_drawLine_81 : decode cX4_drawLine 81 = .ok (.ifCond .eq 4, 3) := by decide +kernel
theorem dX4_drawLine_84 : decode cX4_drawLine 84 = .ok (.return_, 1) := by decide +kernel
theorem dX4_drawLine_85 : decode cX4_drawLine 85 = .ok (.aload_n 0, 1) := by decide +kernel
theorem dX4_drawLine_86 : decode cX4_drawLine 86 = .ok (.getfield 29, 3) := by decide +kernel
theorem dX4_drawLine_89 : decode cX4_drawLine 89 = .ok (.iload_n 3, 1) := by decide +kernel
theorem dX4_drawLine_90 : decode cX4_drawLine 90 = .ok (.iload 4, 2) := by decide +kernel
theorem dX4_drawLine_92 : decode cX4_drawLine 92 = .ok (.iastore, 1) := by decide +kernel
theorem dX4_drawLine_93 : decode cX4_drawLine 93 = .ok (.iinc 3 1, 3) := by decide +kernel
theorem dX4_drawLine_96 : decode cX4_drawLine 96 = .ok (.aload_n 0, 1) := by decide +kernel
theorem dX4_drawLine_97 : decode cX4_drawLine 97 = .ok (.getfield 21, 3) := by decide +kernel
theorem dX4_drawLine_100 : decode cX4_drawLine 100 = .ok (.iload 4, 2) := by decide +kernel
theorem dX4_drawLine_102 : decode cX4_drawLine 102 = .ok (.invokevirtual 93, 3) := by decide +kernel
theorem dX4_drawLine_105 : decode cX4_drawLine 105 = .ok (.istore 4, 2) := by decide +kernel
theorem dX4_drawLine_107 : decode cX4_drawLine 107 = .ok (.iload 4, 2) := by decide +kernel
theorem dX4_drawLine_109 : decode cX4_drawLine 109 = .ok (.iconst (-1), 1) := by decide +kernel
theorem dX4_drawLine_110 : decode cX4_drawLine 110 = .ok (.if_icmp .eq 9, 3) := by decide +kernel
theorem dX4_drawLine_113 : decode cX4_drawLine 113 = .ok (.iload 4, 2) := by decide +kernel
theorem dX4_drawLine_115 : decode cX4_drawLine 115 = .ok (.iload_n 1, 1) := by decide +kernel
theorem dX4_drawLine_116 : decode cX4_drawLine 116 = .ok (.if_icmp .ne (-66), 3) := by decide +kernel
theorem dX4_drawLine_119 : decode cX4_drawLine 119 = .ok (.aload_n 0, 1) := by decide +kernel
theorem dX4_drawLine_120 : decode cX4_drawLine 120 = .ok (.getfield 35, 3) := by decide +kernel
theorem dX4_drawLine_123 : decode cX4_drawLine 123 = .ok (.aload_n 0, 1) := by decide +kernel
theorem dX4_drawLine_124 : decode cX4_drawLine 124 = .ok (.getfield 55, 3) := by decide +kernel
theorem dX4_drawLine_127 : decode cX4_drawLine 127 = .ok (.iload_n 2, 1) := by decide +kernel
theorem dX4_drawLine_128 : decode cX4_drawLine 128 = .ok (.iastore, 1) := by decide +kernel
theorem dX4_drawLine_129 : decode cX4_drawLine 129 = .ok (.aload_n 0, 1) := by decide +kernel
theorem dX4_drawLine_130 : decode cX4_drawLine 130 = .ok (.getfield 38, 3) := by decide +kernel
theorem dX4_drawLine_133 : decode cX4_drawLine 133 = .ok (.aload_n 0, 1) := by decide +kernel
theorem dX4_drawLine_134 : decode cX4_drawLine 134 = .ok (.getfield 55, 3) := by decide +kernel
theorem dX4_drawLine_137 : decode cX4_drawLine 137 = .ok (.iload 4, 2) := by decide +kernel
theorem dX4_drawLine_139 : decode cX4_drawLine 139 = .ok (.iload_n 1, 1) := by decide +kernel
theorem dX4_drawLine_140 : decode cX4_drawLine 140 = .ok (.if_icmp .ne 7, 3) := by decide +kernel
theorem dX4_drawLine_143 : decode cX4_drawLine 143 = .ok (.iconst 1, 1) := by decide +kernel
theorem dX4_drawLine_144 : decode cX4_drawLine 144 = .ok (.goto 4, 3) := by decide +kernel
theorem dX4_drawLine_147 : decode cX4_drawLine 147 = .ok (.iconst 0, 1) := by decide +kernel
theorem dX4_drawLine_148 : decode cX4_drawLine 148 = .ok (.i2b, 1) := by decide +kernel
theorem dX4_drawLine_149 : decode cX4_drawLine 149 = .ok (.bastore, 1) := by decide +kernel
theorem dX4_drawLine_150 : decode cX4_drawLine 150 = .ok (.aload_n 0, 1) := by decide +kernel
theorem dX4_drawLine_151 : decode cX4_drawLine 151 = .ok (.dup, 1) := by decide +kernel
theorem dX4_drawLine_152 : decode cX4_drawLine 152 = .ok (.getfield 55, 3) := by decide +kernel
theorem dX4_drawLine_155 : decode cX4_drawLine 155 = .ok (.iconst 1, 1) := by decide +kernel
theorem dX4_drawLine_156 : decode cX4_drawLine 156 = .ok (.iadd, 1) := by decide +kernel
theorem dX4_drawLine_157 : decode cX4_drawLine 157 = .ok (.putfield 55, 3) := by decide +kernel
theorem dX4_drawLine_160 : decode cX4_drawLine 160 = .ok (.aload_n 0, 1) := by decide +kernel
theorem dX4_drawLine_161 : decode cX4_drawLine 161 = .ok (.getfield 32, 3) := by decide +kernel
theorem dX4_drawLine_164 : decode cX4_drawLine 164 = .ok (.aload_n 0, 1) := by decide +kernel
theorem dX4_drawLine_165 : decode cX4_drawLine 165 = .ok (.getfield 55, 3) := by decide +kernel
theorem dX4_drawLine_168 : decode cX4_drawLine 168 = .ok (.iload_n 3, 1) := by decide +kernel
theorem dX4_drawLine_169 : decode cX4_drawLine 169 = .ok (.iastore, 1) := by decide +kernel
theorem dX4_drawLine_170 : decode cX4_drawLine 170 = .ok (.return_, 1) := by decide +kernel
theorem dX4_has_0 : decode cX4_has 0 = .ok (.iload_n 1, 1) := by decide +kernel
theorem dX4_has_1 : decode cX4_has 1 = .ok (.ifCond .lt 22, 3) := by decide +kernel
theorem dX4_has_4 : decode cX4_has 4 = .ok (.iload_n 1, 1) := by decide +kernel
theorem dX4_has_5 : decode cX4_has 5 = .ok (.aload_n 0, 1) := by decide +kernel
theorem dX4_has_6 : decode cX4_has 6 = .ok (.getfield 55, 3) := by decide +kernel
theorem dX4_has_9 : decode cX4_has 9 = .ok (.if_icmp .ge 14, 3) := by decide +kernel
theorem dX4_has_12 : decode cX4_has 12 = .ok (.iload_n 1, 1) := by decide +kernel
theorem dX4_has_13 : decode cX4_has 13 = .ok (.sipush 400, 3) := by decide +kernel
theorem dX4_has_16 : decode cX4_has 16 = .ok (.if_icmp .ge 7, 3) := by decide +kernel
theorem dX4_has_19 : decode cX4_has 19 = .ok (.iconst 1, 1) := by decide +kernel
theorem dX4_has_20 : decode cX4_has 20 = .ok (.goto 4, 3) := by decide +kernel
theorem dX4_has_23 : decode cX4_has 23 = .ok (.iconst 0, 1) := by decide +kernel
theorem dX4_has_24 : decode cX4_has 24 = .ok (.ireturn, 1) := by decide +kernel
set_option maxRecDepth 20000 in
theorem ggX4_isClosed_X4_has : GoodIn wsX4_isClosed wsX4_has := goodIn_r _ [6, 7, 8, 9, 10, 11, 12, 13, 14, 15, 16, 17, 18, 19] (by decide +kernel) (by decide +kernel)
set_option maxRecDepth 20000 in
theorem gX4_isClosed_X4_has : GoodIn wsX4_isClosed (wsV RX4 97 RX4 yX4_has wsX4_has) := goodIn_app (goodIn_of _ (by decide +kernel)) ggX4_isClosed_X4_has
theorem dX4_isClosed_0 : decode cX4_isClosed 0 = .ok (.aload_n 0, 1) := by decide +kernel
theorem dX4_isClosed_1 : decode cX4_isClosed 1 = .ok (.iload_n 1, 1) := by decide +kernel
theorem dX4_isClosed_2 : decode cX4_isClosed 2 = .ok (.invokevirtual 97, 3) := by decide +kernel
theorem dX4_isClosed_5 : decode cX4_isClosed 5 = .ok (.ifCond .eq 17, 3) := by decide +kernel
theorem dX4_isClosed_8 : decode cX4_isClosed 8 = .ok (.aload_n 0, 1) := by decide +kernel
theorem dX4_isClosed_9 : decode cX4_isClosed 9 = .ok (.getfield 38, 3) := by decide +kernel
theorem dX4_isClosed_12 : decode cX4_isClosed 12 = .ok (.iload_n 1, 1) := by decide +kernel
theorem dX4_isClosed_13 : decode cX4_isClosed 13 = .ok (.baload, 1) := by decide +kernel
theorem dX4_isClosed_14 : decode cX4_isClosed 14 = .ok (.iconst 1, 1) := by decide +kernel
theorem dX4_isClosed_15 : decode cX4_isClosed 15 = .ok (.if_icmp .ne 7, 3) := by decide +kernel
theorem dX4_isClosed_18 : decode cX4_isClosed 18 = .ok (.iconst 1, 1) := by decide +kernel
theorem dX4_isClosed_19 : decode cX4_isClosed 19 = .ok (.goto 4, 3) := by decide +kernel
theorem dX4_isClosed_22 : decode cX4_isClosed 22 = .ok (.iconst 0, 1) := by decide +kernel
theorem dX4_isClosed_23 : decode cX4_isClosed 23 = .ok (.ireturn, 1) := by decide +kernel
set_option maxRecDepth 20000 in
theorem ggX4_lengthOf_X4_has : GoodIn wsX4_lengthOf wsX4_has := goodIn_r _ [6, 7, 8, 9, 10, 11, 12, 13, 14, 15, 16, 17, 18, 19] (by decide +kernel) (by decide +kernel)
set_option maxRecDepth 20000 in
theorem gX4_lengthOf_X4_has : GoodIn wsX4_lengthOf (wsV RX4 97 RX4 yX4_has wsX4_has) := goodIn_app (goodIn_of _ (by decide +kernel)) ggX4_lengthOf_X4_has
theorem dX4_lengthOf_0 : decode cX4_lengthOf 0 = .ok (.aload_n 0, 1) := by decide +kernel
theorem dX4_lengthOf_1 : decode cX4_lengthOf 1 = .ok (.iload_n 1, 1) := by decide +kernel
theorem dX4_lengthOf_2 : decode cX4_lengthOf 2 = .ok (.invokevirtual 97, 3) := by decide +kernel
theorem dX4_lengthOf_5 : decode cX4_lengthOf 5 = .ok (.ifCond .eq 21, 3) := by decide +kernel
theorem dX4_lengthOf_8 : decode cX4_lengthOf 8 = .ok (.aload_n 0, 1) := by decide +kernel
theorem dX4_lengthOf_9 : decode cX4_lengthOf 9 = .ok (.getfield 32, 3) := by decide +kernel
theorem dX4_lengthOf_12 : decode cX4_lengthOf 12 = .ok (.iload_n 1, 1) := by decide +kernel
theorem dX4_lengthOf_13 : decode cX4_lengthOf 13 = .ok (.iconst 1, 1) := by decide +kernel
theorem dX4_lengthOf_14 : decode cX4_lengthOf 14 = .ok (.iadd, 1) := by decide +kernel
theorem dX4_lengthOf_15 : decode cX4_lengthOf 15 = .ok (.iaload, 1) := by decide +kernel
theorem dX4_lengthOf_16 : decode cX4_lengthOf 16 = .ok (.aload_n 0, 1) := by decide +kernel
theorem dX4_lengthOf_17 : decode cX4_lengthOf 17 = .ok (.getfield 32, 3) := by decide +kernel
theorem dX4_lengthOf_20 : decode cX4_lengthOf 20 = .ok (.iload_n 1, 1) := by decide +kernel
theorem dX4_lengthOf_21 : decode cX4_lengthOf 21 = .ok (.iaload, 1) := by decide +kernel
theorem dX4_lengthOf_22 : decode cX4_lengthOf 22 = .ok (.isub, 1) := by decide +kernel
theorem dX4_lengthOf_23 : decode cX4_lengthOf 23 = .ok (.goto 4, 3) := by decide +kernel
theorem dX4_lengthOf_26 : decode cX4_lengthOf 26 = .ok (.iconst 0, 1) := by decide +kernel
theorem dX4_lengthOf_27 : decode cX4_lengthOf 27 = .ok (.ireturn, 1) := by decide +kernel
set_option maxRecDepth 20000 in
theorem ggX4_sideOf_X4_has : GoodIn wsX4_sideOf wsX4_has := goodIn_r _ [7, 8, 13, 14, 15, 16, 17, 18, 19, 20, 21, 22, 23, 24] (by decide +kernel) (by decide +kernel)
set_option maxRecDepth 20000 in
theorem gX4_sideOf_X4_has : GoodIn wsX4_sideOf (wsV RX4 97 RX4 yX4_has wsX4_has) := goodIn_app (goodIn_of _ (by decide +kernel)) ggX4_sideOf_X4_has
set_option maxRecDepth 20000 in
theorem ggX4_sideOf_X4_lengthOf : GoodIn wsX4_sideOf wsX4_lengthOf := goodIn_r _ [12, 1, 3, 4, 5, 6, 7, 8, 13, 14, 15, 16, 17, 18, 19, 20, 21, 22, 23, 24] (by decide +kernel) (by decide +kernel)
set_option maxRecDepth 20000 in
theorem gX4_sideOf_X4_lengthOf : GoodIn wsX4_sideOf (wsV RX4 100 RX4 yX4_lengthOf wsX4_lengthOf) := goodIn_app (goodIn_of _ (by decide +kernel)) ggX4_sideOf_X4_lengthOf
theorem dX4_sideOf_0 : decode cX4_sideOf 0 = .ok (.aload_n 0, 1) := by decide +kernel
theorem dX4_sideOf_1 : decode cX4_sideOf 1 = .ok (.iload_n 1, 1) := by decide +kernel
theorem dX4_sideOf_2 : decode cX4_sideOf 2 = .ok (.invokevirtual 97, 3) := by decide +kernel
theorem dX4_sideOf_5 : decode cX4_sideOf 5 = .ok (.ifCond .eq 16, 3) := by decide +kernel
theorem dX4_sideOf_8 : decode cX4_sideOf 8 = .ok (.iload_n 2, 1) := by decide +kernel
theorem dX4_sideOf_9 : decode cX4_sideOf 9 = .ok (.ifCond .lt 12, 3) := by decide +kernel
theorem dX4_sideOf_12 : decode cX4_sideOf 12 = .ok (.iload_n 2, 1) := by decide +kernel
theorem dX4_sideOf_13 : decode cX4_sideOf 13 = .ok (.aload_n 0, 1) := by decide +kernel
theorem dX4_sideOf_14 : decode cX4_sideOf 14 = .ok (.iload_n 1, 1) := by decide +kernel
theorem dX4_sideOf_15 : decode cX4_sideOf 15 = .ok (.invokevirtual 100, 3) := by decide +kernel
theorem dX4_sideOf_18 : decode cX4_sideOf 18 = .ok (.if_icmp .lt 5, 3) := by decide +kernel
theorem dX4_sideOf_21 : decode cX4_sideOf 21 = .ok (.iconst (-1), 1) := by decide +kernel
theorem dX4_sideOf_22 : decode cX4_sideOf 22 = .ok (.ireturn, 1) := by decide +kernel
theorem dX4_sideOf_23 : decode cX4_sideOf 23 = .ok (.aload_n 0, 1) := by decide +kernel
theorem dX4_sideOf_24 : decode cX4_sideOf 24 = .ok (.getfield 32, 3) := by decide +kernel
theorem dX4_sideOf_27 : decode cX4_sideOf 27 = .ok (.iload_n 1, 1) := by decide +kernel
theorem dX4_sideOf_28 : decode cX4_sideOf 28 = .ok (.iaload, 1) := by decide +kernel
theorem dX4_sideOf_29 : decode cX4_sideOf 29 = .ok (.iload_n 2, 1) := by decide +kernel
theorem dX4_sideOf_30 : decode cX4_sideOf 30 = .ok (.iadd, 1) := by decide +kernel
theorem dX4_sideOf_31 : decode cX4_sideOf 31 = .ok (.istore_n 3, 1) := by decide +kernel
theorem dX4_sideOf_32 : decode cX4_sideOf 32 = .ok (.iload_n 3, 1) := by decide +kernel
theorem dX4_sideOf_33 : decode cX4_sideOf 33 = .ok (.ifCond .lt 10, 3) := by decide +kernel
theorem dX4_sideOf_36 : decode cX4_sideOf 36 = .ok (.iload_n 3, 1) := by decide +kernel
theorem dX4_sideOf_37 : decode cX4_sideOf 37 = .ok (.sipush 8000, 3) := by decide +kernel
theorem dX4_sideOf_40 : decode cX4_sideOf 40 = .ok (.if_icmp .lt 7, 3) := by decide +kernel
theorem dX4_sideOf_43 : decode cX4_sideOf 43 = .ok (.iconst (-1), 1) := by decide +kernel
theorem dX4_sideOf_44 : decode cX4_sideOf 44 = .ok (.goto 9, 3) := by decide +kernel
theorem dX4_sideOf_47 : decode cX4_sideOf 47 = .ok (.aload_n 0, 1) := by decide +kernel
theorem dX4_sideOf_48 : decode cX4_sideOf 48 = .ok (.getfield 29, 3) := by decide +kernel
theorem dX4_sideOf_51 : decode cX4_sideOf 51 = .ok (.iload_n 3, 1) := by decide +kernel
theorem dX4_sideOf_52 : decode cX4_sideOf 52 = .ok (.iaload, 1) := by decide +kernel
theorem dX4_sideOf_53 : decode cX4_sideOf 53 = .ok (.ireturn, 1) := by decide +kernel
set_option maxRecDepth 20000 in
theorem ggX4_levelOf_X4_has : GoodIn wsX4_levelOf wsX4_has := goodIn_r _ [6, 7, 8, 9, 10, 11, 12, 13, 14, 15, 16, 17, 18, 19] (by decide +kernel) (by decide +kernel)
set_option maxRecDepth 20000 in
theorem gX4_levelOf_X4_has : GoodIn wsX4_levelOf (wsV RX4 97 RX4 yX4_has wsX4_has) := goodIn_app (goodIn_of _ (by decide +kernel)) ggX4_levelOf_X4_has
theorem dX4_levelOf_0 : decode cX4_levelOf 0 = .ok (.aload_n 0, 1) := by decide +kernel
theorem dX4_levelOf_1 : decode cX4_levelOf 1 = .ok (.iload_n 1, 1) := by decide +kernel
theorem dX4_levelOf_2 : decode cX4_levelOf 2 = .ok (.invokevirtual 97, 3) := by decide +kernel
theorem dX4_levelOf_5 : decode cX4_levelOf 5 = .ok (.ifCond .eq 12, 3) := by decide +kernel
theorem dX4_levelOf_8 : decode cX4_levelOf 8 = .ok (.aload_n 0, 1) := by decide +kernel
theorem dX4_levelOf_9 : decode cX4_levelOf 9 = .ok (.getfield 35, 3) := by decide +kernel
theorem dX4_levelOf_12 : decode cX4_levelOf 12 = .ok (.iload_n 1, 1) := by decide +kernel
theorem dX4_levelOf_13 : decode cX4_levelOf 13 = .ok (.iaload, 1) := by decide +kernel
theorem dX4_levelOf_14 : decode cX4_levelOf 14 = .ok (.goto 4, 3) := by decide +kernel
theorem dX4_levelOf_17 : decode cX4_levelOf 17 = .ok (.iconst (-1), 1) := by decide +kernel
theorem dX4_levelOf_18 : decode cX4_levelOf 18 = .ok (.ireturn, 1) := by decide +kernel
set_option maxRecDepth 20000 in
theorem ggX4_levelUnits_X4_levelOf : GoodIn wsX4_levelUnits wsX4_levelOf := goodIn_r _ [6, 7, 8, 9, 10, 5, 11, 12, 13, 14, 15, 16, 17, 18, 19, 20, 21, 22, 23, 24] (by decide +kernel) (by decide +kernel)
set_option maxRecDepth 20000 in
theorem gX4_levelUnits_X4_levelOf : GoodIn wsX4_levelUnits (wsV RX4 103 RX4 yX4_levelOf wsX4_levelOf) := goodIn_app (goodIn_of _ (by decide +kernel)) ggX4_levelUnits_X4_levelOf
theorem dX4_levelUnits_0 : decode cX4_levelUnits 0 = .ok (.aload_n 0, 1) := by decide +kernel
theorem dX4_levelUnits_1 : decode cX4_levelUnits 1 = .ok (.iload_n 1, 1) := by decide +kernel
theorem dX4_levelUnits_2 : decode cX4_levelUnits 2 = .ok (.invokevirtual 103, 3) := by decide +kernel
theorem dX4_levelUnits_5 : decode cX4_levelUnits 5 = .ok (.istore_n 2, 1) := by decide +kernel
theorem dX4_levelUnits_6 : decode cX4_levelUnits 6 = .ok (.iload_n 2, 1) := by decide +kernel
theorem dX4_levelUnits_7 : decode cX4_levelUnits 7 = .ok (.ifCond .lt 9, 3) := by decide +kernel
theorem dX4_levelUnits_10 : decode cX4_levelUnits 10 = .ok (.iload_n 2, 1) := by decide +kernel
theorem dX4_levelUnits_11 : decode cX4_levelUnits 11 = .ok (.bipush 16, 2) := by decide +kernel
theorem dX4_levelUnits_13 : decode cX4_levelUnits 13 = .ok (.if_icmp .lt 7, 3) := by decide +kernel
theorem dX4_levelUnits_16 : decode cX4_levelUnits 16 = .ok (.iconst 0, 1) := by decide +kernel
theorem dX4_levelUnits_17 : decode cX4_levelUnits 17 = .ok (.goto 9, 3) := by decide +kernel
theorem dX4_levelUnits_20 : decode cX4_levelUnits 20 = .ok (.aload_n 0, 1) := by decide +kernel
theorem dX4_levelUnits_21 : decode cX4_levelUnits 21 = .ok (.getfield 25, 3) := by decide +kernel
theorem dX4_levelUnits_24 : decode cX4_levelUnits 24 = .ok (.iload_n 2, 1) := by decide +kernel
theorem dX4_levelUnits_25 : decode cX4_levelUnits 25 = .ok (.iaload, 1) := by decide +kernel
theorem dX4_levelUnits_26 : decode cX4_levelUnits 26 = .ok (.ireturn, 1) := by decide +kernel
theorem dX4_otherEnd_0 : decode cX4_otherEnd 0 = .ok (.iload_n 0, 1) := by decide +kernel
theorem dX4_otherEnd_1 : decode cX4_otherEnd 1 = .ok (.iconst 2, 1) := by decide +kernel
theorem dX4_otherEnd_2 : decode cX4_otherEnd 2 = .ok (.idiv, 1) := by decide +kernel
theorem dX4_otherEnd_3 : decode cX4_otherEnd 3 = .ok (.iload_n 0, 1) := by decide +kernel
theorem dX4_otherEnd_4 : decode cX4_otherEnd 4 = .ok (.iconst 1, 1) := by decide +kernel
theorem dX4_otherEnd_5 : decode cX4_otherEnd 5 = .ok (.iand, 1) := by decide +kernel
theorem dX4_otherEnd_6 : decode cX4_otherEnd 6 = .ok (.ifCond .ne 7, 3) := by decide +kernel
theorem dX4_otherEnd_9 : decode cX4_otherEnd 9 = .ok (.iconst 1, 1) := by decide +kernel
theorem dX4_otherEnd_10 : decode cX4_otherEnd 10 = .ok (.goto 5, 3) := by decide +kernel
theorem dX4_otherEnd_13 : decode cX4_otherEnd 13 = .ok (.bipush 40, 2) := by decide +kernel
theorem dX4_otherEnd_15 : decode cX4_otherEnd 15 = .ok (.iadd, 1) := by decide +kernel
theorem dX4_otherEnd_16 : decode cX4_otherEnd 16 = .ok (.ireturn, 1) := by decide +kernel
set_option maxRecDepth 20000 in
theorem ggX4_placeOf_X1_doubleOfRatio : GoodIn wsX4_placeOf wsX1_doubleOfRatio := goodIn_r _ [6, 7, 8] (by decide +kernel) (by decide +kernel)
set_option maxRecDepth 20000 in
theorem gX4_placeOf_X1_doubleOfRatio : GoodIn wsX4_placeOf (va_wsS RX4 109 yX1_doubleOfRatio wsX1_doubleOfRatio) := goodIn_app (goodIn_of _ (by decide +kernel)) ggX4_placeOf_X1_doubleOfRatio
set_option maxRecDepth 20000 in
theorem ggX4_placeOf_X2_unitsOf : GoodIn wsX4_placeOf wsX2_unitsOf := goodIn_r _ [13, 14, 15, 32, 33, 34, 35] (by decide +kernel) (by decide +kernel)
set_option maxRecDepth 20000 in
theorem gX4_placeOf_X2_unitsOf : GoodIn wsX4_placeOf (wsV RX4 115 RX2 yX2_unitsOf wsX2_unitsOf) := goodIn_app (goodIn_of _ (by decide +kernel)) ggX4_placeOf_X2_unitsOf
set_option maxRecDepth 20000 in
theorem ggX4_placeOf_X4_otherEnd : GoodIn wsX4_placeOf wsX4_otherEnd := goodIn_r _ [19] (by decide +kernel) (by decide +kernel)
set_option maxRecDepth 20000 in
theorem gX4_placeOf_X4_otherEnd : GoodIn wsX4_placeOf (va_wsS RX4 118 yX4_otherEnd wsX4_otherEnd) := goodIn_app (goodIn_of _ (by decide +kernel)) ggX4_placeOf_X4_otherEnd
theorem dX4_placeOf_0 : decode cX4_placeOf 0 = .ok (.iload_n 1, 1) := by decide +kernel
theorem dX4_placeOf_1 : decode cX4_placeOf 1 = .ok (.iconst 2, 1) := by decide +kernel
theorem dX4_placeOf_2 : decode cX4_placeOf 2 = .ok (.idiv, 1) := by decide +kernel
theorem dX4_placeOf_3 : decode cX4_placeOf 3 = .ok (.istore 4, 2) := by decide +kernel
theorem dX4_placeOf_5 : decode cX4_placeOf 5 = .ok (.iload_n 3, 1) := by decide +kernel
theorem dX4_placeOf_6 : decode cX4_placeOf 6 = .ok (.ifCond .ne 12, 3) := by decide +kernel
theorem dX4_placeOf_9 : decode cX4_placeOf 9 = .ok (.iload 4, 2) := by decide +kernel
theorem dX4_placeOf_11 : decode cX4_placeOf 11 = .ok (.bipush 40, 2) := by decide +kernel
theorem dX4_placeOf_13 : decode cX4_placeOf 13 = .ok (.irem, 1) := by decide +kernel
theorem dX4_placeOf_14 : decode cX4_placeOf 14 = .ok (.i2l, 1) := by decide +kernel
theorem dX4_placeOf_15 : decode cX4_placeOf 15 = .ok (.goto 9, 3) := by decide +kernel
theorem dX4_placeOf_18 : decode cX4_placeOf 18 = .ok (.iload 4, 2) := by decide +kernel
theorem dX4_placeOf_20 : decode cX4_placeOf 20 = .ok (.bipush 40, 2) := by decide +kernel
theorem dX4_placeOf_22 : decode cX4_placeOf 22 = .ok (.idiv, 1) := by decide +kernel
theorem dX4_placeOf_23 : decode cX4_placeOf 23 = .ok (.i2l, 1) := by decide +kernel
theorem dX4_placeOf_24 : decode cX4_placeOf 24 = .ok (.lstore 5, 2) := by decide +kernel
theorem dX4_placeOf_26 : decode cX4_placeOf 26 = .ok (.iload_n 1, 1) := by decide +kernel
theorem dX4_placeOf_27 : decode cX4_placeOf 27 = .ok (.iconst 1, 1) := by decide +kernel
theorem dX4_placeOf_28 : decode cX4_placeOf 28 = .ok (.iand, 1) := by decide +kernel
theorem dX4_placeOf_29 : decode cX4_placeOf 29 = .ok (.iload_n 3, 1) := by decide +kernel
theorem dX4_placeOf_30 : decode cX4_placeOf 30 = .ok (.if_icmp .eq 19, 3) := by decide +kernel
theorem dX4_placeOf_33 : decode cX4_placeOf 33 = .ok (.aload_n 0, 1) := by decide +kernel
theorem dX4_placeOf_34 : decode cX4_placeOf 34 = .ok (.getfield 12, 3) := by decide +kernel
theorem dX4_placeOf_37 : decode cX4_placeOf 37 = .ok (.getfield 106, 3) := by decide +kernel
theorem dX4_placeOf_40 : decode cX4_placeOf 40 = .ok (.i2l, 1) := by decide +kernel
theorem dX4_placeOf_41 : decode cX4_placeOf 41 = .ok (.lload 5, 2) := by decide +kernel
theorem dX4_placeOf_43 : decode cX4_placeOf 43 = .ok (.lmul, 1) := by decide +kernel
theorem dX4_placeOf_44 : decode cX4_placeOf 44 = .ok (.lconst 1, 1) := by decide +kernel
theorem dX4_placeOf_45 : decode cX4_placeOf 45 = .ok (.invokestatic 109, 3) := by decide +kernel
theorem dX4_placeOf_48 : decode cX4_placeOf 48 = .ok (.lreturn, 1) := by decide +kernel
theorem dX4_placeOf_49 : decode cX4_placeOf 49 = .ok (.aload_n 0, 1) := by decide +kernel
theorem dX4_placeOf_50 : decode cX4_placeOf 50 = .ok (.getfield 12, 3) := by decide +kernel
theorem dX4_placeOf_53 : decode cX4_placeOf 53 = .ok (.iload 4, 2) := by decide +kernel
theorem dX4_placeOf_55 : decode cX4_placeOf 55 = .ok (.invokevirtual 115, 3) := by decide +kernel
theorem dX4_placeOf_58 : decode cX4_placeOf 58 = .ok (.i2l, 1) := by decide +kernel
theorem dX4_placeOf_59 : decode cX4_placeOf 59 = .ok (.lstore 7, 2) := by decide +kernel
theorem dX4_placeOf_61 : decode cX4_placeOf 61 = .ok (.aload_n 0, 1) := by decide +kernel
theorem dX4_placeOf_62 : decode cX4_placeOf 62 = .ok (.getfield 12, 3) := by decide +kernel
theorem dX4_placeOf_65 : decode cX4_placeOf 65 = .ok (.iload_n 1, 1) := by decide +kernel
theorem dX4_placeOf_66 : decode cX4_placeOf 66 = .ok (.invokestatic 118, 3) := by decide +kernel
theorem dX4_placeOf_69 : decode cX4_placeOf 69 = .ok (.invokevirtual 115, 3) := by decide +kernel
theorem dX4_placeOf_72 : decode cX4_placeOf 72 = .ok (.i2l, 1) := by decide +kernel
theorem dX4_placeOf_73 : decode cX4_placeOf 73 = .ok (.lload 7, 2) := by decide +kernel
theorem dX4_placeOf_75 : decode cX4_placeOf 75 = .ok (.lsub, 1) := by decide +kernel
theorem dX4_placeOf_76 : decode cX4_placeOf 76 = .ok (.lstore 9, 2) := by decide +kernel
theorem dX4_placeOf_78 : decode cX4_placeOf 78 = .ok (.aload_n 0, 1) := by decide +kernel
theorem dX4_placeOf_79 : decode cX4_placeOf 79 = .ok (.getfield 12, 3) := by decide +kernel
theorem dX4_placeOf_82 : decode cX4_placeOf 82 = .ok (.getfield 106, 3) := by decide +kernel
theorem dX4_placeOf_85 : decode cX4_placeOf 85 = .ok (.i2l, 1) := by decide +kernel
theorem dX4_placeOf_86 : decode cX4_placeOf 86 = .ok (.lload 5, 2) := by decide +kernel
theorem dX4_placeOf_88 : decode cX4_placeOf 88 = .ok (.lload 9, 2) := by decide +kernel
theorem dX4_placeOf_90 : decode cX4_placeOf 90 = .ok (.lmul, 1) := by decide +kernel
theorem dX4_placeOf_91 : decode cX4_placeOf 91 = .ok (.iload_n 2, 1) := by decide +kernel
theorem dX4_placeOf_92 : decode cX4_placeOf 92 = .ok (.i2l, 1) := by decide +kernel
theorem dX4_placeOf_93 : decode cX4_placeOf 93 = .ok (.lload 7, 2) := by decide +kernel
theorem dX4_placeOf_95 : decode cX4_placeOf 95 = .ok (.lsub, 1) := by decide +kernel
