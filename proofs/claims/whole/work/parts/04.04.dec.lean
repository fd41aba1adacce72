theorem dX6_sink_1 : decode cX6_sink 1 = .ok (.istore_n 3, 1) := by decide +kernel
theorem dX6_sink_2 : decode cX6_sink 2 = .ok (.aload_n 0, 1) := by decide +kernel
theorem dX6_sink_3 : decode cX6_sink 3 = .ok (.iload_n 3, 1) := by decide +kernel
theorem dX6_sink_4 : decode cX6_sink 4 = .ok (.invokevirtual 83, 3) := by decide +kernel
theorem dX6_sink_7 : decode cX6_sink 7 = .ok (.istore 4, 2) := by decide +kernel
theorem dX6_sink_9 : decode cX6_sink 9 = .ok (.iload 4, 2) := by decide +kernel
theorem dX6_sink_11 : decode cX6_sink 11 = .ok (.aload_n 0, 1) := by decide +kernel
theorem dX6_sink_12 : decode cX6_sink 12 = .ok (.getfield 49, 3) := by decide +kernel
theorem dX6_sink_15 : decode cX6_sink 15 = .ok (.if_icmp .ge 41, 3) := by decide +kernel
theorem dX6_sink_18 : decode cX6_sink 18 = .ok (.aload_n 0, 1) := by decide +kernel
theorem dX6_sink_19 : decode cX6_sink 19 = .ok (.getfield 15, 3) := by decide +kernel
theorem dX6_sink_22 : decode cX6_sink 22 = .ok (.iload 4, 2) := by decide +kernel
theorem dX6_sink_24 : decode cX6_sink 24 = .ok (.laload, 1) := by decide +kernel
theorem dX6_sink_25 : decode cX6_sink 25 = .ok (.lload_n 1, 1) := by decide +kernel
theorem dX6_sink_26 : decode cX6_sink 26 = .ok (.lcmp, 1) := by decide +kernel
theorem dX6_sink_27 : decode cX6_sink 27 = .ok (.ifCond .ge 29, 3) := by decide +kernel
theorem dX6_sink_30 : decode cX6_sink 30 = .ok (.aload_n 0, 1) := by decide +kernel
theorem dX6_sink_31 : decode cX6_sink 31 = .ok (.getfield 15, 3) := by decide +kernel
theorem dX6_sink_34 : decode cX6_sink 34 = .ok (.iload_n 3, 1) := by decide +kernel
theorem dX6_sink_35 : decode cX6_sink 35 = .ok (.aload_n 0, 1) := by decide +kernel
theorem dX6_sink_36 : decode cX6_sink 36 = .ok (.getfield 15, 3) := by decide +kernel
theorem dX6_sink_39 : decode cX6_sink 39 = .ok (.iload 4, 2) := by decide +kernel
theorem dX6_sink_41 : decode cX6_sink 41 = .ok (.laload, 1) := by decide +kernel
theorem dX6_sink_42 : decode cX6_sink 42 = .ok (.lastore, 1) := by decide +kernel
theorem dX6_sink_43 : decode cX6_sink 43 = .ok (.iload 4, 2) := by decide +kernel
theorem dX6_sink_45 : decode cX6_sink 45 = .ok (.istore_n 3, 1) := by decide +kernel
theorem dX6_sink_46 : decode cX6_sink 46 = .ok (.aload_n 0, 1) := by decide +kernel
theorem dX6_sink_47 : decode cX6_sink 47 = .ok (.iload_n 3, 1) := by decide +kernel
theorem dX6_sink_48 : decode cX6_sink 48 = .ok (.invokevirtual 83, 3) := by decide +kernel
theorem dX6_sink_51 : decode cX6_sink 51 = .ok (.istore 4, 2) := by decide +kernel
theorem dX6_sink_53 : decode cX6_sink 53 = .ok (.goto (-44), 3) := by decide +kernel
theorem dX6_sink_56 : decode cX6_sink 56 = .ok (.aload_n 0, 1) := by decide +kernel
theorem dX6_sink_57 : decode cX6_sink 57 = .ok (.getfield 15, 3) := by decide +kernel
theorem dX6_sink_60 : decode cX6_sink 60 = .ok (.iload_n 3, 1) := by decide +kernel
theorem dX6_sink_61 : decode cX6_sink 61 = .ok (.lload_n 1, 1) := by decide +kernel
theorem dX6_sink_62 : decode cX6_sink 62 = .ok (.lastore, 1) := by decide +kernel
theorem dX6_sink_63 : decode cX6_sink 63 = .ok (.return_, 1) := by decide +kernel
theorem dX6_lesserChild_0 : decode cX6_lesserChild 0 = .ok (.iconst 2, 1) := by decide +kernel
theorem dX6_lesserChild_1 : decode cX6_lesserChild 1 = .ok (.iload_n 1, 1) := by decide +kernel
theorem dX6_lesserChild_2 : decode cX6_lesserChild 2 = .ok (.imul, 1) := by decide +kernel
theorem dX6_lesserChild_3 : decode cX6_lesserChild 3 = .ok (.iconst 1, 1) := by decide +kernel
theorem dX6_lesserChild_4 : decode cX6_lesserChild 4 = .ok (.iadd, 1) := by decide +kernel
theorem dX6_lesserChild_5 : decode cX6_lesserChild 5 = .ok (.istore_n 2, 1) := by decide +kernel
theorem dX6_lesserChild_6 : decode cX6_lesserChild 6 = .ok (.iload_n 2, 1) := by decide +kernel
theorem dX6_lesserChild_7 : decode cX6_lesserChild 7 = .ok (.iconst 1, 1) := by decide +kernel
theorem dX6_lesserChild_8 : decode cX6_lesserChild 8 = .ok (.iadd, 1) := by decide +kernel
theorem dX6_lesserChild_9 : decode cX6_lesserChild 9 = .ok (.aload_n 0, 1) := by decide +kernel
theorem dX6_lesserChild_10 : decode cX6_lesserChild 10 = .ok (.getfield 49, 3) := by decide +kernel
theorem dX6_lesserChild_13 : decode cX6_lesserChild 13 = .ok (.if_icmp .ge 27, 3) := by decide +kernel
theorem dX6_lesserChild_16 : decode cX6_lesserChild 16 = .ok (.aload_n 0, 1) := by decide +kernel
theorem dX6_lesserChild_17 : decode cX6_lesserChild 17 = .ok (.getfield 15, 3) := by decide +kernel
theorem dX6_lesserChild_20 : decode cX6_lesserChild 20 = .ok (.iload_n 2, 1) := by decide +kernel
theorem dX6_lesserChild_21 : decode cX6_lesserChild 21 = .ok (.iconst 1, 1) := by decide +kernel
theorem dX6_lesserChild_22 : decode cX6_lesserChild 22 = .ok (.iadd, 1) := by decide +kernel
theorem dX6_lesserChild_23 : decode cX6_lesserChild 23 = .ok (.laload, 1) := by decide +kernel
theorem dX6_lesserChild_24 : decode cX6_lesserChild 24 = .ok (.aload_n 0, 1) := by decide +kernel
theorem dX6_lesserChild_25 : decode cX6_lesserChild 25 = .ok (.getfield 15, 3) := by decide +kernel
theorem dX6_lesserChild_28 : decode cX6_lesserChild 28 = .ok (.iload_n 2, 1) := by decide +kernel
theorem dX6_lesserChild_29 : decode cX6_lesserChild 29 = .ok (.laload, 1) := by decide +kernel
theorem dX6_lesserChild_30 : decode cX6_lesserChild 30 = .ok (.lcmp, 1) := by decide +kernel
theorem dX6_lesserChild_31 : decode cX6_lesserChild 31 = .ok (.ifCond .ge 9, 3) := by decide +kernel
theorem dX6_lesserChild_34 : decode cX6_lesserChild 34 = .ok (.iload_n 2, 1) := by decide +kernel
theorem dX6_lesserChild_35 : decode cX6_lesserChild 35 = .ok (.iconst 1, 1) := by decide +kernel
theorem dX6_lesserChild_36 : decode cX6_lesserChild 36 = .ok (.iadd, 1) := by decide +kernel
theorem dX6_lesserChild_37 : decode cX6_lesserChild 37 = .ok (.goto 4, 3) := by decide +kernel
theorem dX6_lesserChild_40 : decode cX6_lesserChild 40 = .ok (.iload_n 2, 1) := by decide +kernel
theorem dX6_lesserChild_41 : decode cX6_lesserChild 41 = .ok (.ireturn, 1) := by decide +kernel
set_option maxRecDepth 20000 in
theorem ggX7_init_X2_init : GoodIn wsX7_init wsX2_init := goodIn_r _ [22, 23, 2, 3, 8, 24, 25, 26, 27, 28, 29, 30, 31, 32, 83, 84, 85, 86] (by decide +kernel) (by decide +kernel)
set_option maxRecDepth 20000 in
theorem gX7_init_X2_init : GoodIn wsX7_init (wsX2_init) := ggX7_init_X2_init
set_option maxRecDepth 20000 in
theorem ggX7_init_X6_init : GoodIn wsX7_init wsX6_init := goodIn_r _ [35, 36, 2, 3, 8, 37, 38, 39, 40, 41, 87, 88, 89, 90] (by decide +kernel) (by decide +kernel)
set_option maxRecDepth 20000 in
theorem gX7_init_X6_init : GoodIn wsX7_init (wsX6_init) := ggX7_init_X6_init
set_option maxRecDepth 20000 in
theorem ggX7_init_X4_init : GoodIn wsX7_init wsX4_init := goodIn_r _ [44, 45, 2, 3, 46, 6, 7, 47, 48, 49, 50, 51, 8, 52, 53, 54, 55, 40, 56, 57, 58, 59, 60, 61, 62, 63, 64, 65, 21, 22, 23, 24, 25, 26, 27, 28, 29, 30, 31, 32, 66, 67, 68, 69, 70, 71, 72, 73, 74, 75, 38, 76, 83, 84, 85, 86, 91, 92, 93, 94, 95, 96, 97, 98, 99, 100, 101, 102, 103, 104, 105, 106, 107, 108] (by decide +kernel) (by decide +kernel)
set_option maxRecDepth 20000 in
theorem gX7_init_X4_init : GoodIn wsX7_init (wsX4_init) := ggX7_init_X4_init
theorem dX7_init_0 : decode cX7_init 0 = .ok (.aload_n 0, 1) := by decide +kernel
theorem dX7_init_1 : decode cX7_init 1 = .ok (.invokespecial 5, 3) := by decide +kernel
theorem dX7_init_4 : decode cX7_init 4 = .ok (.aload_n 0, 1) := by decide +kernel
theorem dX7_init_5 : decode cX7_init 5 = .ok (.iconst 4, 1) := by decide +kernel
theorem dX7_init_6 : decode cX7_init 6 = .ok (.anewarray 11, 3) := by decide +kernel
theorem dX7_init_9 : decode cX7_init 9 = .ok (.putfield 13, 3) := by decide +kernel
theorem dX7_init_12 : decode cX7_init 12 = .ok (.iconst 0, 1) := by decide +kernel
theorem dX7_init_13 : decode cX7_init 13 = .ok (.istore_n 1, 1) := by decide +kernel
theorem dX7_init_14 : decode cX7_init 14 = .ok (.iload_n 1, 1) := by decide +kernel
theorem dX7_init_15 : decode cX7_init 15 = .ok (.iconst 4, 1) := by decide +kernel
theorem dX7_init_16 : decode cX7_init 16 = .ok (.if_icmp .ge 22, 3) := by decide +kernel
theorem dX7_init_19 : decode cX7_init 19 = .ok (.aload_n 0, 1) := by decide +kernel
theorem dX7_init_20 : decode cX7_init 20 = .ok (.getfield 13, 3) := by decide +kernel
theorem dX7_init_23 : decode cX7_init 23 = .ok (.iload_n 1, 1) := by decide +kernel
theorem dX7_init_24 : decode cX7_init 24 = .ok (.new 11, 3) := by decide +kernel
theorem dX7_init_27 : decode cX7_init 27 = .ok (.dup, 1) := by decide +kernel
theorem dX7_init_28 : decode cX7_init 28 = .ok (.invokespecial 17, 3) := by decide +kernel
theorem dX7_init_31 : decode cX7_init 31 = .ok (.aastore, 1) := by decide +kernel
theorem dX7_init_32 : decode cX7_init 32 = .ok (.iinc 1 1, 3) := by decide +kernel
theorem dX7_init_35 : decode cX7_init 35 = .ok (.goto (-21), 3) := by decide +kernel
theorem dX7_init_38 : decode cX7_init 38 = .ok (.aload_n 0, 1) := by decide +kernel
theorem dX7_init_39 : decode cX7_init 39 = .ok (.bipush 16, 2) := by decide +kernel
theorem dX7_init_41 : decode cX7_init 41 = .ok (.newarray .int, 2) := by decide +kernel
theorem dX7_init_43 : decode cX7_init 43 = .ok (.putfield 18, 3) := by decide +kernel
theorem dX7_init_46 : decode cX7_init 46 = .ok (.aload_n 0, 1) := by decide +kernel
theorem dX7_init_47 : decode cX7_init 47 = .ok (.iconst 0, 1) := by decide +kernel
theorem dX7_init_48 : decode cX7_init 48 = .ok (.putfield 22, 3) := by decide +kernel
theorem dX7_init_51 : decode cX7_init 51 = .ok (.aload_n 0, 1) := by decide +kernel
theorem dX7_init_52 : decode cX7_init 52 = .ok (.new 26, 3) := by decide +kernel
theorem dX7_init_55 : decode cX7_init 55 = .ok (.dup, 1) := by decide +kernel
theorem dX7_init_56 : decode cX7_init 56 = .ok (.invokespecial 28, 3) := by decide +kernel
theorem dX7_init_59 : decode cX7_init 59 = .ok (.putfield 29, 3) := by decide +kernel
theorem dX7_init_62 : decode cX7_init 62 = .ok (.aload_n 0, 1) := by decide +kernel
theorem dX7_init_63 : decode cX7_init 63 = .ok (.sipush 1280, 3) := by decide +kernel
theorem dX7_init_66 : decode cX7_init 66 = .ok (.newarray .int, 2) := by decide +kernel
theorem dX7_init_68 : decode cX7_init 68 = .ok (.putfield 33, 3) := by decide +kernel
theorem dX7_init_71 : decode cX7_init 71 = .ok (.aload_n 0, 1) := by decide +kernel
theorem dX7_init_72 : decode cX7_init 72 = .ok (.new 36, 3) := by decide +kernel
theorem dX7_init_75 : decode cX7_init 75 = .ok (.dup, 1) := by decide +kernel
theorem dX7_init_76 : decode cX7_init 76 = .ok (.invokespecial 38, 3) := by decide +kernel
theorem dX7_init_79 : decode cX7_init 79 = .ok (.putfield 39, 3) := by decide +kernel
theorem dX7_init_82 : decode cX7_init 82 = .ok (.return_, 1) := by decide +kernel
set_option maxRecDepth 20000 in
theorem ggX7_spacing_X7_gridOf : GoodIn wsX7_spacing wsX7_gridOf := goodIn_r _ [7, 8, 13, 14, 15, 16, 17, 18] (by decide +kernel) (by decide +kernel)
set_option maxRecDepth 20000 in
theorem gX7_spacing_X7_gridOf : GoodIn wsX7_spacing (wsV RX7 43 RX7 yX7_gridOf wsX7_gridOf) := goodIn_app (goodIn_of _ (by decide +kernel)) ggX7_spacing_X7_gridOf
theorem dX7_spacing_0 : decode cX7_spacing 0 = .ok (.aload_n 0, 1) := by decide +kernel
theorem dX7_spacing_1 : decode cX7_spacing 1 = .ok (.iload_n 1, 1) := by decide +kernel
theorem dX7_spacing_2 : decode cX7_spacing 2 = .ok (.invokevirtual 43, 3) := by decide +kernel
theorem dX7_spacing_5 : decode cX7_spacing 5 = .ok (.astore_n 3, 1) := by decide +kernel
theorem dX7_spacing_6 : decode cX7_spacing 6 = .ok (.aload_n 3, 1) := by decide +kernel
theorem dX7_spacing_7 : decode cX7_spacing 7 = .ok (.ifnull 14, 3) := by decide +kernel
theorem dX7_spacing_10 : decode cX7_spacing 10 = .ok (.iload_n 2, 1) := by decide +kernel
theorem dX7_spacing_11 : decode cX7_spacing 11 = .ok (.iconst 1, 1) := by decide +kernel
theorem dX7_spacing_12 : decode cX7_spacing 12 = .ok (.if_icmp .lt 9, 3) := by decide +kernel
theorem dX7_spacing_15 : decode cX7_spacing 15 = .ok (.iload_n 2, 1) := by decide +kernel
theorem dX7_spacing_16 : decode cX7_spacing 16 = .ok (.ldc 47, 2) := by decide +kernel
theorem dX7_spacing_18 : decode cX7_spacing 18 = .ok (.if_icmp .le 5, 3) := by decide +kernel
theorem dX7_spacing_21 : decode cX7_spacing 21 = .ok (.iconst 0, 1) := by decide +kernel
theorem dX7_spacing_22 : decode cX7_spacing 22 = .ok (.ireturn, 1) := by decide +kernel
theorem dX7_spacing_23 : decode cX7_spacing 23 = .ok (.aload_n 3, 1) := by decide +kernel
theorem dX7_spacing_24 : decode cX7_spacing 24 = .ok (.iload_n 2, 1) := by decide +kernel
theorem dX7_spacing_25 : decode cX7_spacing 25 = .ok (.putfield 48, 3) := by decide +kernel
theorem dX7_spacing_28 : decode cX7_spacing 28 = .ok (.iconst 1, 1) := by decide +kernel
theorem dX7_spacing_29 : decode cX7_spacing 29 = .ok (.ireturn, 1) := by decide +kernel
set_option maxRecDepth 20000 in
theorem ggX7_row_X7_gridOf : GoodIn wsX7_row wsX7_gridOf := goodIn_r _ [5, 6, 16, 17, 18, 19, 20, 21] (by decide +kernel) (by decide +kernel)
set_option maxRecDepth 20000 in
theorem gX7_row_X7_gridOf : GoodIn wsX7_row (wsV RX7 43 RX7 yX7_gridOf wsX7_gridOf) := goodIn_app (goodIn_of _ (by decide +kernel)) ggX7_row_X7_gridOf
set_option maxRecDepth 20000 in
theorem ggX7_row_X2_setRow : GoodIn wsX7_row wsX2_setRow := goodIn_r _ [11, 12, 13, 14, 15, 22, 23, 24, 25] (by decide +kernel) (by decide +kernel)
set_option maxRecDepth 20000 in
theorem gX7_row_X2_setRow : GoodIn wsX7_row (wsV RX7 51 RX2 yX2_setRow wsX2_setRow) := goodIn_app (goodIn_of _ (by decide +kernel)) ggX7_row_X2_setRow
theorem dX7_row_0 : decode cX7_row 0 = .ok (.aload_n 0, 1) := by decide +kernel
theorem dX7_row_1 : decode cX7_row 1 = .ok (.iload_n 1, 1) := by decide +kernel
theorem dX7_row_2 : decode cX7_row 2 = .ok (.invokevirtual 43, 3) := by decide +kernel
theorem dX7_row_5 : decode cX7_row 5 = .ok (.astore 5, 2) := by decide +kernel
theorem dX7_row_7 : decode cX7_row 7 = .ok (.aload 5, 2) := by decide +kernel
theorem dX7_row_9 : decode cX7_row 9 = .ok (.ifnull 25, 3) := by decide +kernel
theorem dX7_row_12 : decode cX7_row 12 = .ok (.iload_n 2, 1) := by decide +kernel
theorem dX7_row_13 : decode cX7_row 13 = .ok (.ifCond .lt 21, 3) := by decide +kernel
theorem dX7_row_16 : decode cX7_row 16 = .ok (.iload_n 2, 1) := by decide +kernel
theorem dX7_row_17 : decode cX7_row 17 = .ok (.bipush 32, 2) := by decide +kernel
theorem dX7_row_19 : decode cX7_row 19 = .ok (.if_icmp .ge 15, 3) := by decide +kernel
theorem dX7_row_22 : decode cX7_row 22 = .ok (.iload 4, 2) := by decide +kernel
theorem dX7_row_24 : decode cX7_row 24 = .ok (.ifCond .lt 10, 3) := by decide +kernel
theorem dX7_row_27 : decode cX7_row 27 = .ok (.iload 4, 2) := by decide +kernel
theorem dX7_row_29 : decode cX7_row 29 = .ok (.bipush 40, 2) := by decide +kernel
theorem dX7_row_31 : decode cX7_row 31 = .ok (.if_icmp .lt 5, 3) := by decide +kernel
theorem dX7_row_34 : decode cX7_row 34 = .ok (.iconst 0, 1) := by decide +kernel
theorem dX7_row_35 : decode cX7_row 35 = .ok (.ireturn, 1) := by decide +kernel
theorem dX7_row_36 : decode cX7_row 36 = .ok (.iload_n 3, 1) := by decide +kernel
theorem dX7_row_37 : decode cX7_row 37 = .ok (.ifCond .lt 12, 3) := by decide +kernel
theorem dX7_row_40 : decode cX7_row 40 = .ok (.iload_n 3, 1) := by decide +kernel
theorem dX7_row_41 : decode cX7_row 41 = .ok (.bipush 40, 2) := by decide +kernel
theorem dX7_row_43 : decode cX7_row 43 = .ok (.iload 4, 2) := by decide +kernel
theorem dX7_row_45 : decode cX7_row 45 = .ok (.isub, 1) := by decide +kernel
theorem dX7_row_46 : decode cX7_row 46 = .ok (.if_icmp .le 5, 3) := by decide +kernel
theorem dX7_row_49 : decode cX7_row 49 = .ok (.iconst 0, 1) := by decide +kernel
theorem dX7_row_50 : decode cX7_row 50 = .ok (.ireturn, 1) := by decide +kernel
theorem dX7_row_51 : decode cX7_row 51 = .ok (.aload 5, 2) := by decide +kernel
theorem dX7_row_53 : decode cX7_row 53 = .ok (.iload_n 2, 1) := by decide +kernel
theorem dX7_row_54 : decode cX7_row 54 = .ok (.iload_n 3, 1) := by decide +kernel
theorem dX7_row_55 : decode cX7_row 55 = .ok (.iload 4, 2) := by decide +kernel
theorem dX7_row_57 : decode cX7_row 57 = .ok (.invokevirtual 51, 3) := by decide +kernel
theorem dX7_row_60 : decode cX7_row 60 = .ok (.iconst 1, 1) := by decide +kernel
theorem dX7_row_61 : decode cX7_row 61 = .ok (.ireturn, 1) := by decide +kernel
set_option maxRecDepth 20000 in
theorem ggX7_height_X7_gridOf : GoodIn wsX7_height wsX7_gridOf := goodIn_r _ [6, 7, 27, 28, 29, 30, 31, 32] (by decide +kernel) (by decide +kernel)
set_option maxRecDepth 20000 in
theorem gX7_height_X7_gridOf : GoodIn wsX7_height (wsV RX7 43 RX7 yX7_gridOf wsX7_gridOf) := goodIn_app (goodIn_of _ (by decide +kernel)) ggX7_height_X7_gridOf
set_option maxRecDepth 20000 in
theorem ggX7_height_X1_unitsOfFloat : GoodIn wsX7_height wsX1_unitsOfFloat := goodIn_r _ [11, 12, 13, 14] (by decide +kernel) (by decide +kernel)
set_option maxRecDepth 20000 in
theorem gX7_height_X1_unitsOfFloat : GoodIn wsX7_height (va_wsS RX7 55 yX1_unitsOfFloat wsX1_unitsOfFloat) := goodIn_app (goodIn_of _ (by decide +kernel)) ggX7_height_X1_unitsOfFloat
set_option maxRecDepth 20000 in
theorem ggX7_height_X2_isInRow : GoodIn wsX7_height wsX2_isInRow := goodIn_r _ [19, 20, 21, 33, 34, 35, 36] (by decide +kernel) (by decide +kernel)
set_option maxRecDepth 20000 in
theorem gX7_height_X2_isInRow : GoodIn wsX7_height (wsV RX7 62 RX2 yX2_isInRow wsX2_isInRow) := goodIn_app (goodIn_of _ (by decide +kernel)) ggX7_height_X2_isInRow
set_option maxRecDepth 20000 in
theorem ggX7_height_X2_put : GoodIn wsX7_height wsX2_put := goodIn_r _ [25, 26, 33, 34, 35, 36] (by decide +kernel) (by decide +kernel)
set_option maxRecDepth 20000 in
theorem gX7_height_X2_put : GoodIn wsX7_height (wsV RX7 66 RX2 yX2_put wsX2_put) := goodIn_app (goodIn_of _ (by decide +kernel)) ggX7_height_X2_put
theorem dX7_height_0 : decode cX7_height 0 = .ok (.aload_n 0, 1) := by decide +kernel
theorem dX7_height_1 : decode cX7_height 1 = .ok (.iload_n 1, 1) := by decide +kernel
theorem dX7_height_2 : decode cX7_height 2 = .ok (.invokevirtual 43, 3) := by decide +kernel
theorem dX7_height_5 : decode cX7_height 5 = .ok (.astore 5, 2) := by decide +kernel
theorem dX7_height_7 : decode cX7_height 7 = .ok (.iload 4, 2) := by decide +kernel
theorem dX7_height_9 : decode cX7_height 9 = .ok (.invokestatic 55, 3) := by decide +kernel
theorem dX7_height_12 : decode cX7_height 12 = .ok (.istore 6, 2) := by decide +kernel
theorem dX7_height_14 : decode cX7_height 14 = .ok (.aload 5, 2) := by decide +kernel
theorem dX7_height_16 : decode cX7_height 16 = .ok (.ifnull 20, 3) := by decide +kernel
theorem dX7_height_19 : decode cX7_height 19 = .ok (.iload 6, 2) := by decide +kernel
theorem dX7_height_21 : decode cX7_height 21 = .ok (.ldc 61, 2) := by decide +kernel
theorem dX7_height_23 : decode cX7_height 23 = .ok (.if_icmp .eq 13, 3) := by decide +kernel
theorem dX7_height_26 : decode cX7_height 26 = .ok (.aload 5, 2) := by decide +kernel
theorem dX7_height_28 : decode cX7_height 28 = .ok (.iload_n 2, 1) := by decide +kernel
theorem dX7_height_29 : decode cX7_height 29 = .ok (.iload_n 3, 1) := by decide +kernel
theorem dX7_height_30 : decode cX7_height 30 = .ok (.invokevirtual 62, 3) := by decide +kernel
theorem dX7_height_33 : decode cX7_height 33 = .ok (.ifCond .ne 5, 3) := by decide +kernel
theorem dX7_height_36 : decode cX7_height 36 = .ok (.iconst 0, 1) := by decide +kernel
theorem dX7_height_37 : decode cX7_height 37 = .ok (.ireturn, 1) := by decide +kernel
theorem dX7_height_38 : decode cX7_height 38 = .ok (.aload 5, 2) := by decide +kernel
theorem dX7_height_40 : decode cX7_height 40 = .ok (.bipush 40, 2) := by decide +kernel
theorem dX7_height_42 : decode cX7_height 42 = .ok (.iload_n 2, 1) := by decide +kernel
theorem dX7_height_43 : decode cX7_height 43 = .ok (.imul, 1) := by decide +kernel
theorem dX7_height_44 : decode cX7_height 44 = .ok (.iload_n 3, 1) := by decide +kernel
theorem dX7_height_45 : decode cX7_height 45 = .ok (.iadd, 1) := by decide +kernel
theorem dX7_height_46 : decode cX7_height 46 = .ok (.iload 6, 2) := by decide +kernel
theorem dX7_height_48 : decode cX7_height 48 = .ok (.invokevirtual 66, 3) := by decide +kernel
theorem dX7_height_51 : decode cX7_height 51 = .ok (.iconst 1, 1) := by decide +kernel
theorem dX7_height_52 : decode cX7_height 52 = .ok (.ireturn, 1) := by decide +kernel
set_option maxRecDepth 20000 in
theorem ggX7_missing_X7_gridOf : GoodIn wsX7_missing wsX7_gridOf := goodIn_r _ [6, 7, 27, 28, 29, 30, 31, 32] (by decide +kernel) (by decide +kernel)
set_option maxRecDepth 20000 in
theorem gX7_missing_X7_gridOf : GoodIn wsX7_missing (wsV RX7 43 RX7 yX7_gridOf wsX7_gridOf) := goodIn_app (goodIn_of _ (by decide +kernel)) ggX7_missing_X7_gridOf
set_option maxRecDepth 20000 in
theorem ggX7_missing_X2_has : GoodIn wsX7_missing wsX2_has := goodIn_r _ [12, 13, 14, 15, 11, 16, 17, 18, 19, 20, 21, 22, 33, 34, 35, 36] (by decide +kernel) (by decide +kernel)
set_option maxRecDepth 20000 in
theorem gX7_missing_X2_has : GoodIn wsX7_missing (wsV RX7 70 RX2 yX2_has wsX2_has) := goodIn_app (goodIn_of _ (by decide +kernel)) ggX7_missing_X2_has
set_option maxRecDepth 20000 in
theorem ggX7_missing_X2_put : GoodIn wsX7_missing wsX2_put := goodIn_r _ [26, 21, 33, 34, 35, 36] (by decide +kernel) (by decide +kernel)
set_option maxRecDepth 20000 in
theorem gX7_missing_X2_put : GoodIn wsX7_missing (wsV RX7 66 RX2 yX2_put wsX2_put) := goodIn_app (goodIn_of _ (by decide +kernel)) ggX7_missing_X2_put
theorem dX7_missing_0 : decode cX7_missing 0 = .ok (.aload_n 0, 1) := by decide +kernel
theorem dX7_missing_1 : decode cX7_missing 1 = .ok (.iload_n 1, 1) := by decide +kernel
theorem dX7_missing_2 : decode cX7_missing 2 = .ok (.invokevirtual 43, 3) := by decide +kernel
theorem dX7_missing_5 : decode cX7_missing 5 = .ok (.astore 4, 2) := by decide +kernel
theorem dX7_missing_7 : decode cX7_missing 7 = .ok (.aload 4, 2) := by decide +kernel
theorem dX7_missing_9 : decode cX7_missing 9 = .ok (.ifnull 13, 3) := by decide +kernel
theorem dX7_missing_12 : decode cX7_missing 12 = .ok (.aload 4, 2) := by decide +kernel
theorem dX7_missing_14 : decode cX7_missing 14 = .ok (.iload_n 2, 1) := by decide +kernel
theorem dX7_missing_15 : decode cX7_missing 15 = .ok (.iload_n 3, 1) := by decide +kernel
theorem dX7_missing_16 : decode cX7_missing 16 = .ok (.invokevirtual 70, 3) := by decide +kernel
theorem dX7_missing_19 : decode cX7_missing 19 = .ok (.ifCond .ne 5, 3) := by decide +kernel
theorem dX7_missing_22 : decode cX7_missing 22 = .ok (.iconst 0, 1) := by decide +kernel
theorem dX7_missing_23 : decode cX7_missing 23 = .ok (.ireturn, 1) := by decide +kernel
theorem dX7_missing_24 : decode cX7_missing 24 = .ok (.aload 4, 2) := by decide +kernel
theorem dX7_missing_26 : decode cX7_missing 26 = .ok (.bipush 40, 2) := by decide +kernel
theorem dX7_missing_28 : decode cX7_missing 28 = .ok (.iload_n 2, 1) := by decide +kernel
theorem dX7_missing_29 : decode cX7_missing 29 = .ok (.imul, 1) := by decide +kernel
theorem dX7_missing_30 : decode cX7_missing 30 = .ok (.iload_n 3, 1) := by decide +kernel
theorem dX7_missing_31 : decode cX7_missing 31 = .ok (.iadd, 1) := by decide +kernel
theorem dX7_missing_32 : decode cX7_missing 32 = .ok (.ldc 61, 2) := by decide +kernel
theorem dX7_missing_34 : decode cX7_missing 34 = .ok (.invokevirtual 66, 3) := by decide +kernel
theorem dX7_missing_37 : decode cX7_missing 37 = .ok (.iconst 1, 1) := by decide +kernel
theorem dX7_missing_38 : decode cX7_missing 38 = .ok (.ireturn, 1) := by decide +kernel
set_option maxRecDepth 20000 in
theorem ggX7_at_X7_gridOf : GoodIn wsX7_at wsX7_gridOf := goodIn_r _ [6, 7, 39, 40, 41, 42, 43, 44] (by decide +kernel) (by decide +kernel)
set_option maxRecDepth 20000 in
theorem gX7_at_X7_gridOf : GoodIn wsX7_at (wsV RX7 43 RX7 yX7_gridOf wsX7_gridOf) := goodIn_app (goodIn_of _ (by decide +kernel)) ggX7_at_X7_gridOf
set_option maxRecDepth 20000 in
theorem ggX7_at_X2_has : GoodIn wsX7_at wsX2_has := goodIn_r _ [12, 13, 14, 15, 11, 16, 17, 18, 19, 20, 21, 22, 45, 46, 47, 48] (by decide +kernel) (by decide +kernel)
set_option maxRecDepth 20000 in
theorem gX7_at_X2_has : GoodIn wsX7_at (wsV RX7 70 RX2 yX2_has wsX2_has) := goodIn_app (goodIn_of _ (by decide +kernel)) ggX7_at_X2_has
set_option maxRecDepth 20000 in
theorem ggX7_at_X2_unitsOf : GoodIn wsX7_at wsX2_unitsOf := goodIn_r _ [26, 22, 21, 45, 46, 47, 48] (by decide +kernel) (by decide +kernel)
set_option maxRecDepth 20000 in
theorem gX7_at_X2_unitsOf : GoodIn wsX7_at (wsV RX7 74 RX2 yX2_unitsOf wsX2_unitsOf) := goodIn_app (goodIn_of _ (by decide +kernel)) ggX7_at_X2_unitsOf
set_option maxRecDepth 20000 in
theorem ggX7_at_X1_floatOfUnits : GoodIn wsX7_at wsX1_floatOfUnits := goodIn_r _ [30, 31, 32, 33, 34, 35, 36, 37, 38] (by decide +kernel) (by decide +kernel)
set_option maxRecDepth 20000 in
theorem gX7_at_X1_floatOfUnits : GoodIn wsX7_at (va_wsS RX7 77 yX1_floatOfUnits wsX1_floatOfUnits) := goodIn_app (goodIn_of _ (by decide +kernel)) ggX7_at_X1_floatOfUnits
theorem dX7_at_0 : decode cX7_at 0 = .ok (.aload_n 0, 1) := by decide +kernel
theorem dX7_at_1 : decode cX7_at 1 = .ok (.iload_n 1, 1) := by decide +kernel
theorem dX7_at_2 : decode cX7_at 2 = .ok (.invokevirtual 43, 3) := by decide +kernel
theorem dX7_at_5 : decode cX7_at 5 = .ok (.astore 4, 2) := by decide +kernel
theorem dX7_at_7 : decode cX7_at 7 = .ok (.aload 4, 2) := by decide +kernel
theorem dX7_at_9 : decode cX7_at 9 = .ok (.ifnull 13, 3) := by decide +kernel
theorem dX7_at_12 : decode cX7_at 12 = .ok (.aload 4, 2) := by decide +kernel
theorem dX7_at_14 : decode cX7_at 14 = .ok (.iload_n 2, 1) := by decide +kernel
theorem dX7_at_15 : decode cX7_at 15 = .ok (.iload_n 3, 1) := by decide +kernel
theorem dX7_at_16 : decode cX7_at 16 = .ok (.invokevirtual 70, 3) := by decide +kernel
theorem dX7_at_19 : decode cX7_at 19 = .ok (.ifCond .ne 6, 3) := by decide +kernel
theorem dX7_at_22 : decode cX7_at 22 = .ok (.ldc 73, 2) := by decide +kernel
theorem dX7_at_24 : decode cX7_at 24 = .ok (.ireturn, 1) := by decide +kernel
theorem dX7_at_25 : decode cX7_at 25 = .ok (.aload 4, 2) := by decide +kernel
theorem dX7_at_27 : decode cX7_at 27 = .ok (.bipush 40, 2) := by decide +kernel
theorem dX7_at_29 : decode cX7_at 29 = .ok (.iload_n 2, 1) := by decide +kernel
theorem dX7_at_30 : decode cX7_at 30 = .ok (.imul, 1) := by decide +kernel
theorem dX7_at_31 : decode cX7_at 31 = .ok (.iload_n 3, 1) := by decide +kernel
theorem dX7_at_32 : decode cX7_at 32 = .ok (.iadd, 1) := by decide +kernel
theorem dX7_at_33 : decode cX7_at 33 = .ok (.invokevirtual 74, 3) := by decide +kernel
theorem dX7_at_36 : decode cX7_at 36 = .ok (.invokestatic 77, 3) := by decide +kernel
theorem dX7_at_39 : decode cX7_at 39 = .ok (.ireturn, 1) := by decide +kernel
theorem dX7_level_0 : decode cX7_level 0 = .ok (.iload_n 1, 1) := by decide +kernel
theorem dX7_level_1 : decode cX7_level 1 = .ok (.sipush (-8192), 3) := by decide +kernel
theorem dX7_level_4 : decode cX7_level 4 = .ok (.if_icmp .lt 26, 3) := by decide +kernel
theorem dX7_level_7 : decode cX7_level 7 = .ok (.iload_n 1, 1) := by decide +kernel
theorem dX7_level_8 : decode cX7_level 8 = .ok (.sipush 8192, 3) := by decide +kernel
theorem dX7_level_11 : decode cX7_level 11 = .ok (.if_icmp .gt 19, 3) := by decide +kernel
theorem dX7_level_14 : decode cX7_level 14 = .ok (.aload_n 0, 1) := by decide +kernel
theorem dX7_level_15 : decode cX7_level 15 = .ok (.getfield 22, 3) := by decide +kernel
theorem dX7_level_18 : decode cX7_level 18 = .ok (.ifCond .lt 12, 3) := by decide +kernel
theorem dX7_level_21 : decode cX7_level 21 = .ok (.aload_n 0, 1) := by decide +kernel
theorem dX7_level_22 : decode cX7_level 22 = .ok (.getfield 22, 3) := by decide +kernel
theorem dX7_level_25 : decode cX7_level 25 = .ok (.bipush 16, 2) := by decide +kernel
theorem dX7_level_27 : decode cX7_level 27 = .ok (.if_icmp .lt 5, 3) := by decide +kernel
theorem dX7_level_30 : decode cX7_level 30 = .ok (.iconst (-1), 1) := by decide +kernel
theorem dX7_level_31 : decode cX7_level 31 = .ok (.ireturn, 1) := by decide +kernel
theorem dX7_level_32 : decode cX7_level 32 = .ok (.aload_n 0, 1) := by decide +kernel
theorem dX7_level_33 : decode cX7_level 33 = .ok (.getfield 22, 3) := by decide +kernel
theorem dX7_level_36 : decode cX7_level 36 = .ok (.ifCond .le 20, 3) := by decide +kernel
theorem dX7_level_39 : decode cX7_level 39 = .ok (.iload_n 1, 1) := by decide +kernel
theorem dX7_level_40 : decode cX7_level 40 = .ok (.aload_n 0, 1) := by decide +kernel
theorem dX7_level_41 : decode cX7_level 41 = .ok (.getfield 18, 3) := by decide +kernel
theorem dX7_level_44 : decode cX7_level 44 = .ok (.aload_n 0, 1) := by decide +kernel
theorem dX7_level_45 : decode cX7_level 45 = .ok (.getfield 22, 3) := by decide +kernel
theorem dX7_level_48 : decode cX7_level 48 = .ok (.iconst 1, 1) := by decide +kernel
theorem dX7_level_49 : decode cX7_level 49 = .ok (.isub, 1) := by decide +kernel
theorem dX7_level_50 : decode cX7_level 50 = .ok (.iaload, 1) := by decide +kernel
theorem dX7_level_51 : decode cX7_level 51 = .ok (.if_icmp .gt 5, 3) := by decide +kernel
theorem dX7_level_54 : decode cX7_level 54 = .ok (.iconst (-1), 1) := by decide +kernel
theorem dX7_level_55 : decode cX7_level 55 = .ok (.ireturn, 1) := by decide +kernel
theorem dX7_level_56 : decode cX7_level 56 = .ok (.aload_n 0, 1) := by decide +kernel
theorem dX7_level_57 : decode cX7_level 57 = .ok (.getfield 18, 3) := by decide +kernel
theorem dX7_level_60 : decode cX7_level 60 = .ok (.aload_n 0, 1) := by decide +kernel
theorem dX7_level_61 : decode cX7_level 61 = .ok (.getfield 22, 3) := by decide +kernel
theorem dX7_level_64 : decode cX7_level 64 = .ok (.iload_n 1, 1) := by decide +kernel
theorem dX7_level_65 : decode cX7_level 65 = .ok (.iastore, 1) := by decide +kernel
theorem dX7_level_66 : decode cX7_level 66 = .ok (.aload_n 0, 1) := by decide +kernel
theorem dX7_level_67 : decode cX7_level 67 = .ok (.dup, 1) := by decide +kernel
theorem dX7_level_68 : decode cX7_level 68 = .ok (.getfield 22, 3) := by decide +kernel
theorem dX7_level_71 : decode cX7_level 71 = .ok (.iconst 1, 1) := by decide +kernel
theorem dX7_level_72 : decode cX7_level 72 = .ok (.iadd, 1) := by decide +kernel
theorem dX7_level_73 : decode cX7_level 73 = .ok (.putfield 22, 3) := by decide +kernel
theorem dX7_level_76 : decode cX7_level 76 = .ok (.aload_n 0, 1) := by decide +kernel
theorem dX7_level_77 : decode cX7_level 77 = .ok (.getfield 22, 3) := by decide +kernel
theorem dX7_level_80 : decode cX7_level 80 = .ok (.ireturn, 1) := by decide +kernel
theorem dX7_levels_0 : decode cX7_levels 0 = .ok (.aload_n 0, 1) := by decide +kernel
theorem dX7_levels_1 : decode cX7_levels 1 = .ok (.iconst 0, 1) := by decide +kernel
theorem dX7_levels_2 : decode cX7_levels 2 = .ok (.putfield 22, 3) := by decide +kernel
theorem dX7_levels_5 : decode cX7_levels 5 = .ok (.return_, 1) := by decide +kernel
set_option maxRecDepth 20000 in
theorem ggX7_contour_X7_gridOf : GoodIn wsX7_contour wsX7_gridOf := goodIn_r _ [9, 10, 142, 143, 144, 145, 146, 147] (by decide +kernel) (by decide +kernel)
set_option maxRecDepth 20000 in
theorem gX7_contour_X7_gridOf : GoodIn wsX7_contour (wsV RX7 43 RX7 yX7_gridOf wsX7_gridOf) := goodIn_app (goodIn_of _ (by decide +kernel)) ggX7_contour_X7_gridOf
set_option maxRecDepth 20000 in
theorem ggX7_contour_X4_draw : GoodIn wsX7_contour wsX4_draw := goodIn_r _ [15, 16, 17, 18, 19, 20, 21, 22, 23, 24, 25, 26, 27, 28, 29, 30, 31, 32, 33, 34, 35, 36, 37, 38, 39, 40, 41, 42, 43, 44, 45, 46, 47, 48, 49, 50, 51, 52, 53, 54, 55, 14, 56, 57, 58, 59, 60, 61, 62, 63, 64, 65, 66, 67, 68, 69, 70, 71, 72, 73, 74, 75, 76, 77, 78, 79, 80, 81, 82, 83, 84, 85, 86, 87, 88, 89, 90, 91, 92, 93, 94, 95, 96, 97, 98, 99, 100, 101, 102, 103, 104, 105, 106, 107, 108, 109, 110, 111, 112, 113, 114, 115, 116, 117, 118, 119, 120, 121, 122, 123, 124, 125, 126, 127, 128, 129, 130, 131, 132, 133, 134, 135, 136, 137, 138, 139, 140, 141, 148, 149, 150, 151, 152, 153, 154, 155, 156, 157, 158, 159, 160, 161, 162, 163, 164, 165, 166, 167, 168, 169] (by decide +kernel) (by decide +kernel)
set_option maxRecDepth 20000 in
theorem gX7_contour_X4_draw : GoodIn wsX7_contour (wsV RX7 80 RX4 yX4_draw wsX4_draw) := goodIn_app (goodIn_of _ (by decide +kernel)) ggX7_contour_X4_draw
theorem dX7_contour_0 : decode cX7_contour 0 = .ok (.aload_n 0, 1) := by decide +kernel
theorem dX7_contour_1 : decode cX7_contour 1 = .ok (.iload_n 1, 1) := by decide +kernel
theorem dX7_contour_2 : decode cX7_contour 2 = .ok (.invokevirtual 43, 3) := by decide +kernel
theorem dX7_contour_5 : decode cX7_contour 5 = .ok (.astore_n 2, 1) := by decide +kernel
theorem dX7_contour_6 : decode cX7_contour 6 = .ok (.aload_n 2, 1) := by decide +kernel
theorem dX7_contour_7 : decode cX7_contour 7 = .ok (.ifnonnull 5, 3) := by decide +kernel
theorem dX7_contour_10 : decode cX7_contour 10 = .ok (.iconst (-1), 1) := by decide +kernel
theorem dX7_contour_11 : decode cX7_contour 11 = .ok (.ireturn, 1) := by decide +kernel
theorem dX7_contour_12 : decode cX7_contour 12 = .ok (.aload_n 0, 1) := by decide +kernel
theorem dX7_contour_13 : decode cX7_contour 13 = .ok (.getfield 39, 3) := by decide +kernel
theorem dX7_contour_16 : decode cX7_contour 16 = .ok (.aload_n 2, 1) := by decide +kernel
theorem dX7_contour_17 : decode cX7_contour 17 = .ok (.aload_n 0, 1) := by decide +kernel
theorem dX7_contour_18 : decode cX7_contour 18 = .ok (.getfield 18, 3) := by decide +kernel
theorem dX7_contour_21 : decode cX7_contour 21 = .ok (.aload_n 0, 1) := by decide +kernel
theorem dX7_contour_22 : decode cX7_contour 22 = .ok (.getfield 22, 3) := by decide +kernel
theorem dX7_contour_25 : decode cX7_contour 25 = .ok (.invokevirtual 80, 3) := by decide +kernel
theorem dX7_contour_28 : decode cX7_contour 28 = .ok (.aload_n 0, 1) := by decide +kernel
theorem dX7_contour_29 : decode cX7_contour 29 = .ok (.getfield 39, 3) := by decide +kernel
theorem dX7_contour_32 : decode cX7_contour 32 = .ok (.getfield 84, 3) := by decide +kernel
theorem dX7_contour_35 : decode cX7_contour 35 = .ok (.ireturn, 1) := by decide +kernel
set_option maxRecDepth 20000 in
theorem ggX7_line_X4_has : GoodIn wsX7_line wsX4_has := goodIn_r _ [6, 7, 120, 121, 122, 123, 124, 125, 126, 127, 128, 129, 130, 131] (by decide +kernel) (by decide +kernel)
set_option maxRecDepth 20000 in
theorem gX7_line_X4_has : GoodIn wsX7_line (wsV RX7 87 RX4 yX4_has wsX4_has) := goodIn_app (goodIn_of _ (by decide +kernel)) ggX7_line_X4_has
set_option maxRecDepth 20000 in
theorem ggX7_line_X4_levelOf : GoodIn wsX7_line wsX4_levelOf := goodIn_r _ [11, 12, 13, 3, 4, 5, 6, 7, 120, 121, 122, 123, 124, 125, 126, 127, 128, 129, 130, 131] (by decide +kernel) (by decide +kernel)
set_option maxRecDepth 20000 in
theorem gX7_line_X4_levelOf : GoodIn wsX7_line (wsV RX7 90 RX4 yX4_levelOf wsX4_levelOf) := goodIn_app (goodIn_of _ (by decide +kernel)) ggX7_line_X4_levelOf
set_option maxRecDepth 20000 in
theorem ggX7_line_X4_lengthOf : GoodIn wsX7_line wsX4_lengthOf := goodIn_r _ [17, 18, 13, 3, 4, 5, 6, 7, 120, 121, 122, 123, 124, 125, 126, 127, 128, 129, 130, 131] (by decide +kernel) (by decide +kernel)
set_option maxRecDepth 20000 in
theorem gX7_line_X4_lengthOf : GoodIn wsX7_line (wsV RX7 93 RX4 yX4_lengthOf wsX4_lengthOf) := goodIn_app (goodIn_of _ (by decide +kernel)) ggX7_line_X4_lengthOf
set_option maxRecDepth 20000 in
theorem ggX7_line_X4_isClosed : GoodIn wsX7_line wsX4_isClosed := goodIn_r _ [22, 23, 13, 3, 4, 5, 6, 7, 120, 121, 122, 123, 124, 125, 126, 127, 128, 129, 130, 131] (by decide +kernel) (by decide +kernel)
set_option maxRecDepth 20000 in
theorem gX7_line_X4_isClosed : GoodIn wsX7_line (wsV RX7 96 RX4 yX4_isClosed wsX4_isClosed) := goodIn_app (goodIn_of _ (by decide +kernel)) ggX7_line_X4_isClosed
set_option maxRecDepth 20000 in
theorem ggX7_line_X4_parentOf : GoodIn wsX7_line wsX4_parentOf := goodIn_r _ [27, 28, 7, 29, 30, 31, 32, 33, 34, 35, 20, 21, 5, 22, 23, 13, 3, 4, 6, 36, 37, 38, 39, 40, 41, 42, 43, 44, 45, 46, 15, 16, 17, 18, 47, 48, 49, 50, 51, 52, 53, 54, 55, 56, 57, 58, 59, 60, 61, 62, 63, 64, 65, 66, 67, 68, 69, 70, 71, 72, 73, 74, 75, 76, 9, 10, 11, 12, 77, 78, 79, 80, 81, 82, 83, 84, 85, 86, 87, 88, 89, 90, 91, 92, 93, 94, 95, 96, 97, 98, 99, 100, 101, 102, 103, 104, 105, 120, 121, 122, 123, 124, 125, 126, 127, 128, 129, 130, 131, 132, 133, 134, 135, 136, 137] (by decide +kernel) (by decide +kernel)
set_option maxRecDepth 20000 in
theorem gX7_line_X4_parentOf : GoodIn wsX7_line (wsV RX7 99 RX4 yX4_parentOf wsX4_parentOf) := goodIn_app (goodIn_of _ (by decide +kernel)) ggX7_line_X4_parentOf
set_option maxRecDepth 20000 in
theorem ggX7_line_X4_pointsInside : GoodIn wsX7_line wsX4_pointsInside := goodIn_r _ [109, 28, 34, 35, 20, 21, 5, 22, 23, 13, 3, 4, 6, 7, 36, 37, 38, 39, 40, 41, 42, 43, 44, 45, 46, 15, 16, 17, 18, 47, 48, 49, 50, 51, 52, 53, 54, 55, 56, 57, 58, 59, 60, 61, 62, 63, 64, 65, 66, 67, 68, 69, 70, 120, 121, 122, 123, 124, 125, 126, 127, 128, 129, 130, 131, 132, 133] (by decide +kernel) (by decide +kernel)
set_option maxRecDepth 20000 in
theorem gX7_line_X4_pointsInside : GoodIn wsX7_line (wsV RX7 102 RX4 yX4_pointsInside wsX4_pointsInside) := goodIn_app (goodIn_of _ (by decide +kernel)) ggX7_line_X4_pointsInside
set_option maxRecDepth 20000 in
theorem ggX7_line_X4_highInside : GoodIn wsX7_line wsX4_highInside := goodIn_r _ [113, 28, 35, 20, 21, 5, 22, 23, 13, 3, 4, 6, 7, 36, 37, 38, 39, 40, 41, 42, 43, 44, 45, 46, 15, 16, 17, 18, 47, 48, 49, 50, 51, 52, 53, 54, 55, 56, 57, 58, 59, 60, 61, 62, 63, 64, 65, 66, 67, 68, 69, 70, 86, 87, 88, 89, 90, 91, 92, 93, 94, 95, 96, 97, 98, 71, 72, 73, 74, 75, 76, 9, 10, 11, 12, 99, 100, 101, 102, 103, 104, 105, 120, 121, 122, 123, 124, 125, 126, 127, 128, 129, 130, 131, 132, 133, 134, 135, 136, 137] (by decide +kernel) (by decide +kernel)
set_option maxRecDepth 20000 in
theorem gX7_line_X4_highInside : GoodIn wsX7_line (wsV RX7 105 RX4 yX4_highInside wsX4_highInside) := goodIn_app (goodIn_of _ (by decide +kernel)) ggX7_line_X4_highInside
theorem dX7_line_0 : decode cX7_line 0 = .ok (.aload_n 0, 1) := by decide +kernel
theorem dX7_line_1 : decode cX7_line 1 = .ok (.getfield 39, 3) := by decide +kernel
theorem dX7_line_4 : decode cX7_line 4 = .ok (.iload_n 1, 1) := by decide +kernel
theorem dX7_line_5 : decode cX7_line 5 = .ok (.invokevirtual 87, 3) := by decide +kernel
theorem dX7_line_8 : decode cX7_line 8 = .ok (.ifCond .ne 5, 3) := by decide +kernel
theorem dX7_line_11 : decode cX7_line 11 = .ok (.iconst (-1), 1) := by decide +kernel
theorem dX7_line_12 : decode cX7_line 12 = .ok (.ireturn, 1) := by decide +kernel
theorem dX7_line_13 : decode cX7_line 13 = .ok (.iload_n 2, 1) := by decide +kernel
theorem dX7_line_14 : decode cX7_line 14 = .ok (.tableswitch 100 0 5 #[38, 47, 56, 73, 82, 91], 38) := by decide +kernel
theorem dX7_line_52 : decode cX7_line 52 = .ok (.aload_n 0, 1) := by decide +kernel
theorem dX7_line_53 : decode cX7_line 53 = .ok (.getfield 39, 3) := by decide +kernel
theorem dX7_line_56 : decode cX7_line 56 = .ok (.iload_n 1, 1) := by decide +kernel
theorem dX7_line_57 : decode cX7_line 57 = .ok (.invokevirtual 90, 3) := by decide +kernel
theorem dX7_line_60 : decode cX7_line 60 = .ok (.ireturn, 1) := by decide +kernel
theorem dX7_line_61 : decode cX7_line 61 = .ok (.aload_n 0, 1) := by decide +kernel
theorem dX7_line_62 : decode cX7_line 62 = .ok (.getfield 39, 3) := by decide +kernel
theorem dX7_line_65 : decode cX7_line 65 = .ok (.iload_n 1, 1) := by decide +kernel
theorem dX7_line_66 : decode cX7_line 66 = .ok (.invokevirtual 93, 3) := by decide +kernel
theorem dX7_line_69 : decode cX7_line 69 = .ok (.ireturn, 1) := by decide +kernel
theorem dX7_line_70 : decode cX7_line 70 = .ok (.aload_n 0, 1) := by decide +kernel
theorem dX7_line_71 : decode cX7_line 71 = .ok (.getfield 39, 3) := by decide +kernel
theorem dX7_line_74 : decode cX7_line 74 = .ok (.iload_n 1, 1) := by decide +kernel
theorem dX7_line_75 : decode cX7_line 75 = .ok (.invokevirtual 96, 3) := by decide +kernel
theorem dX7_line_78 : decode cX7_line 78 = .ok (.ifCond .eq 7, 3) := by decide +kernel
theorem dX7_line_81 : decode cX7_line 81 = .ok (.iconst 1, 1) := by decide +kernel
theorem dX7_line_82 : decode cX7_line 82 = .ok (.goto 4, 3) := by decide +kernel
theorem dX7_line_85 : decode cX7_line 85 = .ok (.iconst 0, 1) := by decide +kernel
theorem dX7_line_86 : decode cX7_line 86 = .ok (.ireturn, 1) := by decide +kernel
theorem dX7_line_87 : decode cX7_line 87 = .ok (.aload_n 0, 1) := by decide +kernel
theorem dX7_line_88 : decode cX7_line 88 = .ok (.getfield 39, 3) := by decide +kernel
theorem dX7_line_91 : decode cX7_line 91 = .ok (.iload_n 1, 1) := by decide +kernel
theorem dX7_line_92 : decode cX7_line 92 = .ok (.invokevirtual 99, 3) := by decide +kernel
theorem dX7_line_95 : decode cX7_line 95 = .ok (.ireturn, 1) := by decide +kernel
theorem dX7_line_96 : decode cX7_line 96 = .ok (.aload_n 0, 1) := by decide +kernel
theorem dX7_line_97 : decode cX7_line 97 = .ok (.getfield 39, 3) := by decide +kernel
theorem dX7_line_100 : decode cX7_line 100 = .ok (.iload_n 1, 1) := by decide +kernel
theorem dX7_line_101 : decode cX7_line 101 = .ok (.invokevirtual 102, 3) := by decide +kernel
theorem dX7_line_104 : decode cX7_line 104 = .ok (.ireturn, 1) := by decide +kernel
theorem dX7_line_105 : decode cX7_line 105 = .ok (.aload_n 0, 1) := by decide +kernel
theorem dX7_line_106 : decode cX7_line 106 = .ok (.getfield 39, 3) := by decide +kernel
theorem dX7_line_109 : decode cX7_line 109 = .ok (.iload_n 1, 1) := by decide +kernel
theorem dX7_line_110 : decode cX7_line 110 = .ok (.invokevirtual 105, 3) := by decide +kernel
theorem dX7_line_113 : decode cX7_line 113 = .ok (.ireturn, 1) := by decide +kernel
theorem dX7_line_114 : decode cX7_line 114 = .ok (.iconst (-1), 1) := by decide +kernel
theorem dX7_line_115 : decode cX7_line 115 = .ok (.ireturn, 1) := by decide +kernel
set_option maxRecDepth 20000 in
theorem ggX7_side_X4_sideOf : GoodIn wsX7_side wsX4_sideOf := goodIn_r _ [6, 7, 8, 9, 10, 11, 5, 12, 13, 14, 15, 16, 17, 24, 25, 26, 27, 28, 29, 30, 31, 32, 33, 34, 35] (by decide +kernel) (by decide +kernel)
set_option maxRecDepth 20000 in
theorem gX7_side_X4_sideOf : GoodIn wsX7_side (wsV RX7 108 RX4 yX4_sideOf wsX4_sideOf) := goodIn_app (goodIn_of _ (by decide +kernel)) ggX7_side_X4_sideOf
theorem dX7_side_0 : decode cX7_side 0 = .ok (.aload_n 0, 1) := by decide +kernel
theorem dX7_side_1 : decode cX7_side 1 = .ok (.getfield 39, 3) := by decide +kernel
theorem dX7_side_4 : decode cX7_side 4 = .ok (.iload_n 1, 1) := by decide +kernel
theorem dX7_side_5 : decode cX7_side 5 = .ok (.iload_n 2, 1) := by decide +kernel
theorem dX7_side_6 : decode cX7_side 6 = .ok (.invokevirtual 108, 3) := by decide +kernel
theorem dX7_side_9 : decode cX7_side 9 = .ok (.ireturn, 1) := by decide +kernel
set_option maxRecDepth 20000 in
theorem ggX7_place_X4_sideOf : GoodIn wsX7_place wsX4_sideOf := goodIn_r _ [6, 7, 8, 9, 10, 11, 5, 12, 13, 14, 15, 16, 17, 56, 57, 58, 59, 60, 61, 62, 63, 64, 65, 66, 67] (by decide +kernel) (by decide +kernel)
set_option maxRecDepth 20000 in
theorem gX7_place_X4_sideOf : GoodIn wsX7_place (wsV RX7 108 RX4 yX4_sideOf wsX4_sideOf) := goodIn_app (goodIn_of _ (by decide +kernel)) ggX7_place_X4_sideOf
set_option maxRecDepth 20000 in
theorem ggX7_place_X4_levelUnits : GoodIn wsX7_place wsX4_levelUnits := goodIn_r _ [21, 22, 23, 24, 25, 5, 26, 27, 9, 10, 11, 12, 13, 56, 57, 58, 59, 60, 61, 62, 63, 64, 65, 66, 67] (by decide +kernel) (by decide +kernel)
set_option maxRecDepth 20000 in
theorem gX7_place_X4_levelUnits : GoodIn wsX7_place (wsV RX7 112 RX4 yX4_levelUnits wsX4_levelUnits) := goodIn_app (goodIn_of _ (by decide +kernel)) ggX7_place_X4_levelUnits
set_option maxRecDepth 20000 in
theorem ggX7_place_X4_placeOf : GoodIn wsX7_place wsX4_placeOf := goodIn_r _ [31, 32, 33, 34, 35, 36, 37, 38, 39, 40, 41, 42, 43, 44, 45, 46, 47, 48, 5, 49, 56, 57, 58, 59, 60, 61, 62, 63, 64, 65, 66, 67, 68, 69, 70, 71] (by decide +kernel) (by decide +kernel)
set_option maxRecDepth 20000 in
theorem gX7_place_X4_placeOf : GoodIn wsX7_place (wsV RX7 115 RX4 yX4_placeOf wsX4_placeOf) := goodIn_app (goodIn_of _ (by decide +kernel)) ggX7_place_X4_placeOf
theorem dX7_place_0 : decode cX7_place 0 = .ok (.iload_n 3, 1) := by decide +kernel
theorem dX7_place_1 : decode cX7_place 1 = .ok (.ifCond .lt 8, 3) := by decide +kernel
theorem dX7_place_4 : decode cX7_place 4 = .ok (.iload_n 3, 1) := by decide +kernel
theorem dX7_place_5 : decode cX7_place 5 = .ok (.iconst 1, 1) := by decide +kernel
theorem dX7_place_6 : decode cX7_place 6 = .ok (.if_icmp .le 5, 3) := by decide +kernel
theorem dX7_place_9 : decode cX7_place 9 = .ok (.lconst 0, 1) := by decide +kernel
theorem dX7_place_10 : decode cX7_place 10 = .ok (.lreturn, 1) := by decide +kernel
theorem dX7_place_11 : decode cX7_place 11 = .ok (.aload_n 0, 1) := by decide +kernel
theorem dX7_place_12 : decode cX7_place 12 = .ok (.getfield 39, 3) := by decide +kernel
theorem dX7_place_15 : decode cX7_place 15 = .ok (.iload_n 1, 1) := by decide +kernel
theorem dX7_place_16 : decode cX7_place 16 = .ok (.iload_n 2, 1) := by decide +kernel
theorem dX7_place_17 : decode cX7_place 17 = .ok (.invokevirtual 108, 3) := by decide +kernel
theorem dX7_place_20 : decode cX7_place 20 = .ok (.istore 4, 2) := by decide +kernel
theorem dX7_place_22 : decode cX7_place 22 = .ok (.iload 4, 2) := by decide +kernel
theorem dX7_place_24 : decode cX7_place 24 = .ok (.iconst (-1), 1) := by decide +kernel
theorem dX7_place_25 : decode cX7_place 25 = .ok (.if_icmp .ne 7, 3) := by decide +kernel
theorem dX7_place_28 : decode cX7_place 28 = .ok (.lconst 0, 1) := by decide +kernel
theorem dX7_place_29 : decode cX7_place 29 = .ok (.goto 21, 3) := by decide +kernel
theorem dX7_place_32 : decode cX7_place 32 = .ok (.aload_n 0, 1) := by decide +kernel
theorem dX7_place_33 : decode cX7_place 33 = .ok (.getfield 39, 3) := by decide +kernel
theorem dX7_place_36 : decode cX7_place 36 = .ok (.iload 4, 2) := by decide +kernel
theorem dX7_place_38 : decode cX7_place 38 = .ok (.aload_n 0, 1) := by decide +kernel
theorem dX7_place_39 : decode cX7_place 39 = .ok (.getfield 39, 3) := by decide +kernel
theorem dX7_place_42 : decode cX7_place 42 = .ok (.iload_n 1, 1) := by decide +kernel
theorem dX7_place_43 : decode cX7_place 43 = .ok (.invokevirtual 112, 3) := by decide +kernel
theorem dX7_place_46 : decode cX7_place 46 = .ok (.iload_n 3, 1) := by decide +kernel
theorem dX7_place_47 : decode cX7_place 47 = .ok (.invokevirtual 115, 3) := by decide +kernel
theorem dX7_place_50 : decode cX7_place 50 = .ok (.lreturn, 1) := by decide +kernel
set_option maxRecDepth 20000 in
theorem ggX7_inside_X4_isClosed : GoodIn wsX7_inside wsX4_isClosed := goodIn_r _ [6, 7, 8, 9, 10, 5, 11, 12, 67, 68, 69, 70, 71, 72, 73, 74, 75, 76, 77, 78] (by decide +kernel) (by decide +kernel)
set_option maxRecDepth 20000 in
theorem gX7_inside_X4_isClosed : GoodIn wsX7_inside (wsV RX7 96 RX4 yX4_isClosed wsX4_isClosed) := goodIn_app (goodIn_of _ (by decide +kernel)) ggX7_inside_X4_isClosed
set_option maxRecDepth 20000 in
theorem ggX7_inside_X4_holds : GoodIn wsX7_inside wsX4_holds := goodIn_r _ [16, 17, 18, 19, 20, 21, 22, 23, 24, 25, 26, 27, 28, 29, 30, 5, 31, 32, 8, 9, 10, 11, 12, 33, 34, 35, 36, 37, 38, 39, 40, 41, 42, 43, 44, 45, 46, 47, 48, 49, 50, 51, 52, 53, 54, 55, 56, 57, 58, 59, 60, 67, 68, 69, 70, 71, 72, 73, 74, 75, 76, 77, 78, 79, 80] (by decide +kernel) (by decide +kernel)
set_option maxRecDepth 20000 in
theorem gX7_inside_X4_holds : GoodIn wsX7_inside (wsV RX7 119 RX4 yX4_holds wsX4_holds) := goodIn_app (goodIn_of _ (by decide +kernel)) ggX7_inside_X4_holds
theorem dX7_inside_0 : decode cX7_inside 0 = .ok (.aload_n 0, 1) := by decide +kernel
theorem dX7_inside_1 : decode cX7_inside 1 = .ok (.getfield 39, 3) := by decide +kernel
theorem dX7_inside_4 : decode cX7_inside 4 = .ok (.iload_n 1, 1) := by decide +kernel
theorem dX7_inside_5 : decode cX7_inside 5 = .ok (.invokevirtual 96, 3) := by decide +kernel
theorem dX7_inside_8 : decode cX7_inside 8 = .ok (.ifCond .eq 23, 3) := by decide +kernel
theorem dX7_inside_11 : decode cX7_inside 11 = .ok (.iload_n 2, 1) := by decide +kernel
theorem dX7_inside_12 : decode cX7_inside 12 = .ok (.ifCond .lt 19, 3) := by decide +kernel
theorem dX7_inside_15 : decode cX7_inside 15 = .ok (.iload_n 2, 1) := by decide +kernel
theorem dX7_inside_16 : decode cX7_inside 16 = .ok (.bipush 32, 2) := by decide +kernel
theorem dX7_inside_18 : decode cX7_inside 18 = .ok (.if_icmp .ge 13, 3) := by decide +kernel
theorem dX7_inside_21 : decode cX7_inside 21 = .ok (.iload_n 3, 1) := by decide +kernel
theorem dX7_inside_22 : decode cX7_inside 22 = .ok (.ifCond .lt 9, 3) := by decide +kernel
theorem dX7_inside_25 : decode cX7_inside 25 = .ok (.iload_n 3, 1) := by decide +kernel
theorem dX7_inside_26 : decode cX7_inside 26 = .ok (.bipush 40, 2) := by decide +kernel
theorem dX7_inside_28 : decode cX7_inside 28 = .ok (.if_icmp .lt 5, 3) := by decide +kernel
theorem dX7_inside_31 : decode cX7_inside 31 = .ok (.iconst (-1), 1) := by decide +kernel
theorem dX7_inside_32 : decode cX7_inside 32 = .ok (.ireturn, 1) := by decide +kernel
theorem dX7_inside_33 : decode cX7_inside 33 = .ok (.aload_n 0, 1) := by decide +kernel
theorem dX7_inside_34 : decode cX7_inside 34 = .ok (.getfield 39, 3) := by decide +kernel
theorem dX7_inside_37 : decode cX7_inside 37 = .ok (.iload_n 1, 1) := by decide +kernel
theorem dX7_inside_38 : decode cX7_inside 38 = .ok (.iload_n 2, 1) := by decide +kernel
theorem dX7_inside_39 : decode cX7_inside 39 = .ok (.iload_n 3, 1) := by decide +kernel
theorem dX7_inside_40 : decode cX7_inside 40 = .ok (.invokevirtual 119, 3) := by decide +kernel
theorem dX7_inside_43 : decode cX7_inside 43 = .ok (.ifCond .eq 7, 3) := by decide +kernel
theorem dX7_inside_46 : decode cX7_inside 46 = .ok (.iconst 1, 1) := by decide +kernel
theorem dX7_inside_47 : decode cX7_inside 47 = .ok (.goto 4, 3) := by decide +kernel
theorem dX7_inside_50 : decode cX7_inside 50 = .ok (.iconst 0, 1) := by decide +kernel
theorem dX7_inside_51 : decode cX7_inside 51 = .ok (.ireturn, 1) := by decide +kernel
set_option maxRecDepth 20000 in
theorem ggX7_point_X7_gridOf : GoodIn wsX7_point wsX7_gridOf := goodIn_r _ [8, 9, 125, 126, 127, 128, 129, 130] (by decide +kernel) (by decide +kernel)
set_option maxRecDepth 20000 in
theorem gX7_point_X7_gridOf : GoodIn wsX7_point (wsV RX7 43 RX7 yX7_gridOf wsX7_gridOf) := goodIn_app (goodIn_of _ (by decide +kernel)) ggX7_point_X7_gridOf
set_option maxRecDepth 20000 in
theorem ggX7_point_X2_has : GoodIn wsX7_point wsX2_has := goodIn_r _ [14, 15, 16, 17, 13, 18, 19, 20, 21, 22, 23, 24, 131, 132, 133, 134] (by decide +kernel) (by decide +kernel)
set_option maxRecDepth 20000 in
theorem gX7_point_X2_has : GoodIn wsX7_point (wsV RX7 70 RX2 yX2_has wsX2_has) := goodIn_app (goodIn_of _ (by decide +kernel)) ggX7_point_X2_has
set_option maxRecDepth 20000 in
theorem ggX7_point_X6_downFrom : GoodIn wsX7_point wsX6_downFrom := goodIn_r _ [28, 29, 30, 31, 32, 13, 33, 15, 16, 17, 18, 19, 20, 21, 22, 23, 24, 34, 35, 36, 37, 131, 132, 133, 134] (by decide +kernel) (by decide +kernel)
set_option maxRecDepth 20000 in
theorem gX7_point_X6_downFrom : GoodIn wsX7_point (va_wsS RX7 124 yX6_downFrom wsX6_downFrom) := goodIn_app (goodIn_of _ (by decide +kernel)) ggX7_point_X6_downFrom
set_option maxRecDepth 20000 in
theorem ggX7_point_X6_basinOf : GoodIn wsX7_point wsX6_basinOf := goodIn_r _ [40, 41, 26, 27, 28, 29, 30, 31, 32, 13, 33, 15, 16, 17, 18, 19, 20, 21, 22, 23, 24, 34, 35, 36, 37, 131, 132, 133, 134] (by decide +kernel) (by decide +kernel)
set_option maxRecDepth 20000 in
theorem gX7_point_X6_basinOf : GoodIn wsX7_point (va_wsS RX7 128 yX6_basinOf wsX6_basinOf) := goodIn_app (goodIn_of _ (by decide +kernel)) ggX7_point_X6_basinOf
set_option maxRecDepth 20000 in
theorem ggX7_point_X6_streamAt : GoodIn wsX7_point wsX6_streamAt := goodIn_r _ [45, 46, 30, 31, 32, 13, 33, 15, 16, 17, 18, 19, 20, 21, 22, 23, 24, 41, 26, 27, 28, 29, 34, 35, 36, 37, 135, 136, 137, 138, 131, 132, 133, 134] (by decide +kernel) (by decide +kernel)
set_option maxRecDepth 20000 in
theorem gX7_point_X6_streamAt : GoodIn wsX7_point (wsV RX7 131 RX6 yX6_streamAt wsX6_streamAt) := goodIn_app (goodIn_of _ (by decide +kernel)) ggX7_point_X6_streamAt
set_option maxRecDepth 20000 in
theorem ggX7_point_X6_filled : GoodIn wsX7_point wsX6_filled := goodIn_r _ [50, 51, 52, 53, 27, 54, 55, 56, 57, 58, 59, 60, 61, 62, 63, 64, 65, 66, 67, 68, 34, 35, 36, 13, 37, 24, 23, 69, 70, 71, 72, 73, 74, 75, 76, 77, 78, 79, 80, 81, 82, 83, 84, 85, 86, 87, 88, 89, 90, 91, 92, 93, 31, 32, 33, 15, 16, 17, 18, 19, 20, 21, 22, 94, 95, 96, 97, 98, 30, 135, 136, 137, 138, 131, 132, 133, 134] (by decide +kernel) (by decide +kernel)
set_option maxRecDepth 20000 in
theorem gX7_point_X6_filled : GoodIn wsX7_point (wsV RX7 134 RX6 yX6_filled wsX6_filled) := goodIn_app (goodIn_of _ (by decide +kernel)) ggX7_point_X6_filled
set_option maxRecDepth 20000 in
theorem ggX7_point_X2_kindOf : GoodIn wsX7_point wsX2_kindOf := goodIn_r _ [102, 103, 86, 87, 13, 88, 89, 90, 91, 92, 93, 31, 32, 33, 15, 16, 17, 18, 19, 20, 21, 22, 23, 24, 104, 105, 106, 107, 108, 95, 96, 97, 98, 35, 36, 37, 109, 110, 111, 112, 113, 114, 115, 131, 132, 133, 134] (by decide +kernel) (by decide +kernel)
set_option maxRecDepth 20000 in
theorem gX7_point_X2_kindOf : GoodIn wsX7_point (wsV RX7 137 RX2 yX2_kindOf wsX2_kindOf) := goodIn_app (goodIn_of _ (by decide +kernel)) ggX7_point_X2_kindOf
set_option maxRecDepth 20000 in
theorem ggX7_point_X2_isPeak : GoodIn wsX7_point wsX2_isPeak := goodIn_r _ [119, 104, 105, 106, 13, 107, 93, 31, 32, 33, 15, 16, 17, 18, 19, 20, 21, 22, 23, 24, 108, 95, 96, 97, 98, 35, 36, 37, 131, 132, 133, 134] (by decide +kernel) (by decide +kernel)
set_option maxRecDepth 20000 in
theorem gX7_point_X2_isPeak : GoodIn wsX7_point (wsV RX7 140 RX2 yX2_isPeak wsX2_isPeak) := goodIn_app (goodIn_of _ (by decide +kernel)) ggX7_point_X2_isPeak
set_option maxRecDepth 20000 in
theorem ggX7_point_X6_saddle : GoodIn wsX7_point wsX6_saddle := goodIn_r _ [123, 51, 52, 53, 27, 54, 55, 56, 57, 58, 59, 60, 61, 62, 63, 64, 65, 66, 67, 68, 34, 35, 36, 13, 37, 24, 23, 69, 70, 71, 72, 73, 74, 75, 76, 77, 78, 79, 80, 81, 82, 83, 84, 85, 86, 87, 88, 89, 90, 91, 92, 93, 31, 32, 33, 15, 16, 17, 18, 19, 20, 21, 22, 94, 95, 96, 97, 98, 30, 135, 136, 137, 138, 131, 132, 133, 134] (by decide +kernel) (by decide +kernel)
set_option maxRecDepth 20000 in
theorem gX7_point_X6_saddle : GoodIn wsX7_point (wsV RX7 143 RX6 yX6_saddle wsX6_saddle) := goodIn_app (goodIn_of _ (by decide +kernel)) ggX7_point_X6_saddle
set_option maxRecDepth 20000 in
theorem ggX7_point_X2_neighbourCount : GoodIn wsX7_point wsX2_neighbourCount := goodIn_r _ [92, 93, 31, 32, 13, 33, 15, 16, 17, 18, 19, 20, 21, 22, 23, 24, 131, 132, 133, 134] (by decide +kernel) (by decide +kernel)
set_option maxRecDepth 20000 in
theorem gX7_point_X2_neighbourCount : GoodIn wsX7_point (wsV RX7 147 RX2 yX2_neighbourCount wsX2_neighbourCount) := goodIn_app (goodIn_of _ (by decide +kernel)) ggX7_point_X2_neighbourCount
theorem dX7_point_0 : decode cX7_point 0 = .ok (.aload_n 0, 1) := by decide +kernel
theorem dX7_point_1 : decode cX7_point 1 = .ok (.iload_n 1, 1) := by decide +kernel
theorem dX7_point_2 : decode cX7_point 2 = .ok (.invokevirtual 43, 3) := by decide +kernel
theorem dX7_point_5 : decode cX7_point 5 = .ok (.astore 5, 2) := by decide +kernel
theorem dX7_point_7 : decode cX7_point 7 = .ok (.aload 5, 2) := by decide +kernel
theorem dX7_point_9 : decode cX7_point 9 = .ok (.ifnull 13, 3) := by decide +kernel
theorem dX7_point_12 : decode cX7_point 12 = .ok (.aload 5, 2) := by decide +kernel
theorem dX7_point_14 : decode cX7_point 14 = .ok (.iload_n 2, 1) := by decide +kernel
theorem dX7_point_15 : decode cX7_point 15 = .ok (.iload_n 3, 1) := by decide +kernel
theorem dX7_point_16 : decode cX7_point 16 = .ok (.invokevirtual 70, 3) := by decide +kernel
theorem dX7_point_19 : decode cX7_point 19 = .ok (.ifCond .ne 6, 3) := by decide +kernel
theorem dX7_point_22 : decode cX7_point 22 = .ok (.ldc 123, 2) := by decide +kernel
theorem dX7_point_24 : decode cX7_point 24 = .ok (.ireturn, 1) := by decide +kernel
theorem dX7_point_25 : decode cX7_point 25 = .ok (.bipush 40, 2) := by decide +kernel
theorem dX7_point_27 : decode cX7_point 27 = .ok (.iload_n 2, 1) := by decide +kernel
theorem dX7_point_28 : decode cX7_point 28 = .ok (.imul, 1) := by decide +kernel
theorem dX7_point_29 : decode cX7_point 29 = .ok (.iload_n 3, 1) := by decide +kernel
theorem dX7_point_30 : decode cX7_point 30 = .ok (.iadd, 1) := by decide +kernel
theorem dX7_point_31 : decode cX7_point 31 = .ok (.istore 6, 2) := by decide +kernel
theorem dX7_point_33 : decode cX7_point 33 = .ok (.iload 4, 2) := by decide +kernel
theorem dX7_point_35 : decode cX7_point 35 = .ok (.tableswitch 124 0 6 #[41, 49, 57, 69, 81, 89, 116], 41) := by decide +kernel
theorem dX7_point_76 : decode cX7_point 76 = .ok (.aload 5, 2) := by decide +kernel
theorem dX7_point_78 : decode cX7_point 78 = .ok (.iload 6, 2) := by decide +kernel
theorem dX7_point_80 : decode cX7_point 80 = .ok (.invokestatic 124, 3) := by decide +kernel
theorem dX7_point_83 : decode cX7_point 83 = .ok (.ireturn, 1) := by decide +kernel
theorem dX7_point_84 : decode cX7_point 84 = .ok (.aload 5, 2) := by decide +kernel
theorem dX7_point_86 : decode cX7_point 86 = .ok (.iload 6, 2) := by decide +kernel
theorem dX7_point_88 : decode cX7_point 88 = .ok (.invokestatic 128, 3) := by decide +kernel
theorem dX7_point_91 : decode cX7_point 91 = .ok (.ireturn, 1) := by decide +kernel
theorem dX7_point_92 : decode cX7_point 92 = .ok (.aload_n 0, 1) := by decide +kernel
theorem dX7_point_93 : decode cX7_point 93 = .ok (.getfield 29, 3) := by decide +kernel
theorem dX7_point_96 : decode cX7_point 96 = .ok (.aload 5, 2) := by decide +kernel
theorem dX7_point_98 : decode cX7_point 98 = .ok (.iload 6, 2) := by decide +kernel
theorem dX7_point_100 : decode cX7_point 100 = .ok (.invokevirtual 131, 3) := by decide +kernel
theorem dX7_point_103 : decode cX7_point 103 = .ok (.ireturn, 1) := by decide +kernel
theorem dX7_point_104 : decode cX7_point 104 = .ok (.aload_n 0, 1) := by decide +kernel
theorem dX7_point_105 : decode cX7_point 105 = .ok (.getfield 29, 3) := by decide +kernel
theorem dX7_point_108 : decode cX7_point 108 = .ok (.aload 5, 2) := by decide +kernel
theorem dX7_point_110 : decode cX7_point 110 = .ok (.iload 6, 2) := by decide +kernel
theorem dX7_point_112 : decode cX7_point 112 = .ok (.invokevirtual 134, 3) := by decide +kernel
theorem dX7_point_115 : decode cX7_point 115 = .ok (.ireturn, 1) := by decide +kernel
theorem dX7_point_116 : decode cX7_point 116 = .ok (.aload 5, 2) := by decide +kernel
theorem dX7_point_118 : decode cX7_point 118 = .ok (.iload 6, 2) := by decide +kernel
theorem dX7_point_120 : decode cX7_point 120 = .ok (.invokevirtual 137, 3) := by decide +kernel
theorem dX7_point_123 : decode cX7_point 123 = .ok (.ireturn, 1) := by decide +kernel
theorem dX7_point_124 : decode cX7_point 124 = .ok (.aload 5, 2) := by decide +kernel
theorem dX7_point_126 : decode cX7_point 126 = .ok (.iload 6, 2) := by decide +kernel
theorem dX7_point_128 : decode cX7_point 128 = .ok (.invokevirtual 140, 3) := by decide +kernel
theorem dX7_point_131 : decode cX7_point 131 = .ok (.ifCond .eq 17, 3) := by decide +kernel
theorem dX7_point_134 : decode cX7_point 134 = .ok (.aload_n 0, 1) := by decide +kernel
theorem dX7_point_135 : decode cX7_point 135 = .ok (.getfield 29, 3) := by decide +kernel
theorem dX7_point_138 : decode cX7_point 138 = .ok (.aload 5, 2) := by decide +kernel
theorem dX7_point_140 : decode cX7_point 140 = .ok (.iload 6, 2) := by decide +kernel
theorem dX7_point_142 : decode cX7_point 142 = .ok (.invokevirtual 143, 3) := by decide +kernel
theorem dX7_point_145 : decode cX7_point 145 = .ok (.goto 5, 3) := by decide +kernel
theorem dX7_point_148 : decode cX7_point 148 = .ok (.ldc 146, 2) := by decide +kernel
theorem dX7_point_150 : decode cX7_point 150 = .ok (.ireturn, 1) := by decide +kernel
theorem dX7_point_151 : decode cX7_point 151 = .ok (.aload 5, 2) := by decide +kernel
theorem dX7_point_153 : decode cX7_point 153 = .ok (.iload 6, 2) := by decide +kernel
theorem dX7_point_155 : decode cX7_point 155 = .ok (.invokevirtual 147, 3) := by decide +kernel
theorem dX7_point_158 : decode cX7_point 158 = .ok (.ireturn, 1) := by decide +kernel
theorem dX7_point_159 : decode cX7_point 159 = .ok (.ldc 123, 2) := by decide +kernel
theorem dX7_point_161 : decode cX7_point 161 = .ok (.ireturn, 1) := by decide +kernel
set_option maxRecDepth 20000 in
theorem ggX7_count_X7_gridOf : GoodIn wsX7_count wsX7_gridOf := goodIn_r _ [5, 6, 69, 70, 71, 72, 73, 74] (by decide +kernel) (by decide +kernel)
set_option maxRecDepth 20000 in
theorem gX7_count_X7_gridOf : GoodIn wsX7_count (wsV RX7 43 RX7 yX7_gridOf wsX7_gridOf) := goodIn_app (goodIn_of _ (by decide +kernel)) ggX7_count_X7_gridOf
set_option maxRecDepth 20000 in
theorem ggX7_count_X2_isThere : GoodIn wsX7_count wsX2_isThere := goodIn_r _ [11, 12, 13, 75, 76, 77, 78] (by decide +kernel) (by decide +kernel)
set_option maxRecDepth 20000 in
theorem gX7_count_X2_isThere : GoodIn wsX7_count (wsV RX7 150 RX2 yX2_isThere wsX2_isThere) := goodIn_app (goodIn_of _ (by decide +kernel)) ggX7_count_X2_isThere
set_option maxRecDepth 20000 in
theorem ggX7_count_X7_isCounted : GoodIn wsX7_count wsX7_isCounted := goodIn_r _ [16, 17, 18, 19, 10, 20, 21, 8, 9, 11, 12, 13, 22, 23, 24, 25, 26, 27, 28, 29, 30, 31, 32, 33, 34, 35, 36, 37, 38, 39, 40, 41, 42, 43, 44, 45, 46, 47, 48, 49, 50, 51, 52, 53, 54, 55, 56, 57, 58, 59, 60, 61, 62, 63, 64, 65, 66, 67, 68, 75, 76, 77, 78] (by decide +kernel) (by decide +kernel)
set_option maxRecDepth 20000 in
theorem gX7_count_X7_isCounted : GoodIn wsX7_count (va_wsS RX7 153 yX7_isCounted wsX7_isCounted) := goodIn_app (goodIn_of _ (by decide +kernel)) ggX7_count_X7_isCounted
theorem dX7_count_0 : decode cX7_count 0 = .ok (.aload_n 0, 1) := by decide +kernel
theorem dX7_count_1 : decode cX7_count 1 = .ok (.iload_n 1, 1) := by decide +kernel
theorem dX7_count_2 : decode cX7_count 2 = .ok (.invokevirtual 43, 3) := by decide +kernel
theorem dX7_count_5 : decode cX7_count 5 = .ok (.astore_n 3, 1) := by decide +kernel
theorem dX7_count_6 : decode cX7_count 6 = .ok (.aload_n 3, 1) := by decide +kernel
theorem dX7_count_7 : decode cX7_count 7 = .ok (.ifnull 12, 3) := by decide +kernel
theorem dX7_count_10 : decode cX7_count 10 = .ok (.iload_n 2, 1) := by decide +kernel
theorem dX7_count_11 : decode cX7_count 11 = .ok (.ifCond .lt 8, 3) := by decide +kernel
theorem dX7_count_14 : decode cX7_count 14 = .ok (.iload_n 2, 1) := by decide +kernel
theorem dX7_count_15 : decode cX7_count 15 = .ok (.iconst 5, 1) := by decide +kernel
theorem dX7_count_16 : decode cX7_count 16 = .ok (.if_icmp .le 5, 3) := by decide +kernel
theorem dX7_count_19 : decode cX7_count 19 = .ok (.iconst (-1), 1) := by decide +kernel
theorem dX7_count_20 : decode cX7_count 20 = .ok (.ireturn, 1) := by decide +kernel
theorem dX7_count_21 : decode cX7_count 21 = .ok (.iconst 0, 1) := by decide +kernel
theorem dX7_count_22 : decode cX7_count 22 = .ok (.istore 4, 2) := by decide +kernel
theorem dX7_count_24 : decode cX7_count 24 = .ok (.iconst 0, 1) := by decide +kernel
theorem dX7_count_25 : decode cX7_count 25 = .ok (.istore 5, 2) := by decide +kernel
theorem dX7_count_27 : decode cX7_count 27 = .ok (.iload 5, 2) := by decide +kernel
theorem dX7_count_29 : decode cX7_count 29 = .ok (.sipush 1280, 3) := by decide +kernel
theorem dX7_count_32 : decode cX7_count 32 = .ok (.if_icmp .ge 31, 3) := by decide +kernel
theorem dX7_count_35 : decode cX7_count 35 = .ok (.aload_n 3, 1) := by decide +kernel
theorem dX7_count_36 : decode cX7_count 36 = .ok (.iload 5, 2) := by decide +kernel
theorem dX7_count_38 : decode cX7_count 38 = .ok (.invokevirtual 150, 3) := by decide +kernel
theorem dX7_count_41 : decode cX7_count 41 = .ok (.ifCond .eq 16, 3) := by decide +kernel
theorem dX7_count_44 : decode cX7_count 44 = .ok (.aload_n 3, 1) := by decide +kernel
theorem dX7_count_45 : decode cX7_count 45 = .ok (.iload 5, 2) := by decide +kernel
theorem dX7_count_47 : decode cX7_count 47 = .ok (.iload_n 2, 1) := by decide +kernel
theorem dX7_count_48 : decode cX7_count 48 = .ok (.invokestatic 153, 3) := by decide +kernel
theorem dX7_count_51 : decode cX7_count 51 = .ok (.ifCond .eq 6, 3) := by decide +kernel
theorem dX7_count_54 : decode cX7_count 54 = .ok (.iinc 4 1, 3) := by decide +kernel
theorem dX7_count_57 : decode cX7_count 57 = .ok (.iinc 5 1, 3) := by decide +kernel
theorem dX7_count_60 : decode cX7_count 60 = .ok (.goto (-33), 3) := by decide +kernel
theorem dX7_count_63 : decode cX7_count 63 = .ok (.iload 4, 2) := by decide +kernel
theorem dX7_count_65 : decode cX7_count 65 = .ok (.ireturn, 1) := by decide +kernel
set_option maxRecDepth 20000 in
theorem ggX7_volume_X7_gridOf : GoodIn wsX7_volume wsX7_gridOf := goodIn_r _ [7, 8, 36, 37, 38, 39, 40, 41] (by decide +kernel) (by decide +kernel)
set_option maxRecDepth 20000 in
theorem gX7_volume_X7_gridOf : GoodIn wsX7_volume (wsV RX7 43 RX7 yX7_gridOf wsX7_gridOf) := goodIn_app (goodIn_of _ (by decide +kernel)) ggX7_volume_X7_gridOf
set_option maxRecDepth 20000 in
theorem ggX7_volume_X2_isWhole : GoodIn wsX7_volume wsX2_isWhole := goodIn_r _ [13, 14, 15, 16, 12, 17, 18, 19, 20, 21, 22, 23, 24, 25, 26, 27, 42, 43, 44, 45] (by decide +kernel) (by decide +kernel)
set_option maxRecDepth 20000 in
theorem gX7_volume_X2_isWhole : GoodIn wsX7_volume (wsV RX7 159 RX2 yX2_isWhole wsX2_isWhole) := goodIn_app (goodIn_of _ (by decide +kernel)) ggX7_volume_X2_isWhole
set_option maxRecDepth 20000 in
theorem ggX7_volume_X2_cellSum : GoodIn wsX7_volume wsX2_cellSum := goodIn_r _ [31, 32, 33, 34, 12, 35, 19, 18, 42, 43, 44, 45] (by decide +kernel) (by decide +kernel)
set_option maxRecDepth 20000 in
theorem gX7_volume_X2_cellSum : GoodIn wsX7_volume (wsV RX7 162 RX2 yX2_cellSum wsX2_cellSum) := goodIn_app (goodIn_of _ (by decide +kernel)) ggX7_volume_X2_cellSum
theorem dX7_volume_0 : decode cX7_volume 0 = .ok (.aload_n 0, 1) := by decide +kernel
theorem dX7_volume_1 : decode cX7_volume 1 = .ok (.iload_n 1, 1) := by decide +kernel
theorem dX7_volume_2 : decode cX7_volume 2 = .ok (.invokevirtual 43, 3) := by decide +kernel
theorem dX7_volume_5 : decode cX7_volume 5 = .ok (.astore 4, 2) := by decide +kernel
theorem dX7_volume_7 : decode cX7_volume 7 = .ok (.aload 4, 2) := by decide +kernel
theorem dX7_volume_9 : decode cX7_volume 9 = .ok (.ifnull 26, 3) := by decide +kernel
theorem dX7_volume_12 : decode cX7_volume 12 = .ok (.iload_n 2, 1) := by decide +kernel
theorem dX7_volume_13 : decode cX7_volume 13 = .ok (.sipush (-8192), 3) := by decide +kernel
theorem dX7_volume_16 : decode cX7_volume 16 = .ok (.if_icmp .lt 19, 3) := by decide +kernel
theorem dX7_volume_19 : decode cX7_volume 19 = .ok (.iload_n 2, 1) := by decide +kernel
theorem dX7_volume_20 : decode cX7_volume 20 = .ok (.sipush 8192, 3) := by decide +kernel
theorem dX7_volume_23 : decode cX7_volume 23 = .ok (.if_icmp .gt 12, 3) := by decide +kernel
theorem dX7_volume_26 : decode cX7_volume 26 = .ok (.iload_n 3, 1) := by decide +kernel
theorem dX7_volume_27 : decode cX7_volume 27 = .ok (.ifCond .lt 8, 3) := by decide +kernel
theorem dX7_volume_30 : decode cX7_volume 30 = .ok (.iload_n 3, 1) := by decide +kernel
theorem dX7_volume_31 : decode cX7_volume 31 = .ok (.iconst 1, 1) := by decide +kernel
theorem dX7_volume_32 : decode cX7_volume 32 = .ok (.if_icmp .le 7, 3) := by decide +kernel
theorem dX7_volume_35 : decode cX7_volume 35 = .ok (.ldc2_w 157, 3) := by decide +kernel
theorem dX7_volume_38 : decode cX7_volume 38 = .ok (.lreturn, 1) := by decide +kernel
theorem dX7_volume_39 : decode cX7_volume 39 = .ok (.iload_n 3, 1) := by decide +kernel
theorem dX7_volume_40 : decode cX7_volume 40 = .ok (.ifCond .ne 7, 3) := by decide +kernel
theorem dX7_volume_43 : decode cX7_volume 43 = .ok (.lconst 1, 1) := by decide +kernel
theorem dX7_volume_44 : decode cX7_volume 44 = .ok (.goto 6, 3) := by decide +kernel
theorem dX7_volume_47 : decode cX7_volume 47 = .ok (.ldc2_w 157, 3) := by decide +kernel
theorem dX7_volume_50 : decode cX7_volume 50 = .ok (.lstore 5, 2) := by decide +kernel
theorem dX7_volume_52 : decode cX7_volume 52 = .ok (.lconst 0, 1) := by decide +kernel
theorem dX7_volume_53 : decode cX7_volume 53 = .ok (.lstore 7, 2) := by decide +kernel
theorem dX7_volume_55 : decode cX7_volume 55 = .ok (.iconst 0, 1) := by decide +kernel
theorem dX7_volume_56 : decode cX7_volume 56 = .ok (.istore 9, 2) := by decide +kernel
theorem dX7_volume_58 : decode cX7_volume 58 = .ok (.iload 9, 2) := by decide +kernel
theorem dX7_volume_60 : decode cX7_volume 60 = .ok (.sipush 1280, 3) := by decide +kernel
theorem dX7_volume_63 : decode cX7_volume 63 = .ok (.if_icmp .ge 57, 3) := by decide +kernel
theorem dX7_volume_66 : decode cX7_volume 66 = .ok (.aload 4, 2) := by decide +kernel
theorem dX7_volume_68 : decode cX7_volume 68 = .ok (.iload 9, 2) := by decide +kernel
theorem dX7_volume_70 : decode cX7_volume 70 = .ok (.invokevirtual 159, 3) := by decide +kernel
theorem dX7_volume_73 : decode cX7_volume 73 = .ok (.ifCond .eq 41, 3) := by decide +kernel
theorem dX7_volume_76 : decode cX7_volume 76 = .ok (.lload 5, 2) := by decide +kernel
theorem dX7_volume_78 : decode cX7_volume 78 = .ok (.aload 4, 2) := by decide +kernel
theorem dX7_volume_80 : decode cX7_volume 80 = .ok (.iload 9, 2) := by decide +kernel
theorem dX7_volume_82 : decode cX7_volume 82 = .ok (.invokevirtual 162, 3) := by decide +kernel
theorem dX7_volume_85 : decode cX7_volume 85 = .ok (.i2l, 1) := by decide +kernel
theorem dX7_volume_86 : decode cX7_volume 86 = .ok (.ldc2_w 165, 3) := by decide +kernel
theorem dX7_volume_89 : decode cX7_volume 89 = .ok (.iload_n 2, 1) := by decide +kernel
theorem dX7_volume_90 : decode cX7_volume 90 = .ok (.i2l, 1) := by decide +kernel
theorem dX7_volume_91 : decode cX7_volume 91 = .ok (.lmul, 1) := by decide +kernel
theorem dX7_volume_92 : decode cX7_volume 92 = .ok (.lsub, 1) := by decide +kernel
theorem dX7_volume_93 : decode cX7_volume 93 = .ok (.lmul, 1) := by decide +kernel
theorem dX7_volume_94 : decode cX7_volume 94 = .ok (.lstore 10, 2) := by decide +kernel
theorem dX7_volume_96 : decode cX7_volume 96 = .ok (.lload 7, 2) := by decide +kernel
theorem dX7_volume_98 : decode cX7_volume 98 = .ok (.lload 10, 2) := by decide +kernel
theorem dX7_volume_100 : decode cX7_volume 100 = .ok (.lconst 0, 1) := by decide +kernel
theorem dX7_volume_101 : decode cX7_volume 101 = .ok (.lcmp, 1) := by decide +kernel
theorem dX7_volume_102 : decode cX7_volume 102 = .ok (.ifCond .le 8, 3) := by decide +kernel
theorem dX7_volume_105 : decode cX7_volume 105 = .ok (.lload 10, 2) := by decide +kernel
theorem dX7_volume_107 : decode cX7_volume 107 = .ok (.goto 4, 3) := by decide +kernel
theorem dX7_volume_110 : decode cX7_volume 110 = .ok (.lconst 0, 1) := by decide +kernel
theorem dX7_volume_111 : decode cX7_volume 111 = .ok (.ladd, 1) := by decide +kernel
theorem dX7_volume_112 : decode cX7_volume 112 = .ok (.lstore 7, 2) := by decide +kernel
theorem dX7_volume_114 : decode cX7_volume 114 = .ok (.iinc 9 1, 3) := by decide +kernel
theorem dX7_volume_117 : decode cX7_volume 117 = .ok (.goto (-59), 3) := by decide +kernel
theorem dX7_volume_120 : decode cX7_volume 120 = .ok (.lload 7, 2) := by decide +kernel
theorem dX7_volume_122 : decode cX7_volume 122 = .ok (.lreturn, 1) := by decide +kernel
set_option maxRecDepth 20000 in
theorem ggX7_seen_X7_gridOf : GoodIn wsX7_seen wsX7_gridOf := goodIn_r _ [5, 6, 42, 43, 44, 45, 46, 47] (by decide +kernel) (by decide +kernel)
set_option maxRecDepth 20000 in
theorem gX7_seen_X7_gridOf : GoodIn wsX7_seen (wsV RX7 43 RX7 yX7_gridOf wsX7_gridOf) := goodIn_app (goodIn_of _ (by decide +kernel)) ggX7_seen_X7_gridOf
set_option maxRecDepth 20000 in
theorem ggX7_seen_X2_has : GoodIn wsX7_seen wsX2_has := goodIn_r _ [11, 12, 13, 14, 10, 15, 16, 17, 18, 19, 20, 21, 48, 49, 50, 51] (by decide +kernel) (by decide +kernel)
set_option maxRecDepth 20000 in
theorem gX7_seen_X2_has : GoodIn wsX7_seen (wsV RX7 70 RX2 yX2_has wsX2_has) := goodIn_app (goodIn_of _ (by decide +kernel)) ggX7_seen_X2_has
set_option maxRecDepth 20000 in
theorem ggX7_seen_X5_isHidden : GoodIn wsX7_seen wsX5_isHidden := goodIn_r _ [25, 26, 27, 28, 29, 30, 31, 32, 24, 33, 34, 35, 36, 10, 37, 21, 20, 38, 39, 40, 41, 13, 14, 15, 16, 17, 18, 19, 48, 49, 50, 51] (by decide +kernel) (by decide +kernel)
set_option maxRecDepth 20000 in
theorem gX7_seen_X5_isHidden : GoodIn wsX7_seen (va_wsS RX7 167 yX5_isHidden wsX5_isHidden) := goodIn_app (goodIn_of _ (by decide +kernel)) ggX7_seen_X5_isHidden
theorem dX7_seen_0 : decode cX7_seen 0 = .ok (.aload_n 0, 1) := by decide +kernel
theorem dX7_seen_1 : decode cX7_seen 1 = .ok (.iload_n 1, 1) := by decide +kernel
theorem dX7_seen_2 : decode cX7_seen 2 = .ok (.invokevirtual 43, 3) := by decide +kernel
theorem dX7_seen_5 : decode cX7_seen 5 = .ok (.astore 7, 2) := by decide +kernel
theorem dX7_seen_7 : decode cX7_seen 7 = .ok (.aload 7, 2) := by decide +kernel
theorem dX7_seen_9 : decode cX7_seen 9 = .ok (.ifnull 38, 3) := by decide +kernel
theorem dX7_seen_12 : decode cX7_seen 12 = .ok (.iload 6, 2) := by decide +kernel
theorem dX7_seen_14 : decode cX7_seen 14 = .ok (.ifCond .lt 33, 3) := by decide +kernel
theorem dX7_seen_17 : decode cX7_seen 17 = .ok (.iload 6, 2) := by decide +kernel
theorem dX7_seen_19 : decode cX7_seen 19 = .ok (.sipush 8192, 3) := by decide +kernel
theorem dX7_seen_22 : decode cX7_seen 22 = .ok (.if_icmp .gt 25, 3) := by decide +kernel
theorem dX7_seen_25 : decode cX7_seen 25 = .ok (.aload 7, 2) := by decide +kernel
theorem dX7_seen_27 : decode cX7_seen 27 = .ok (.iload_n 2, 1) := by decide +kernel
theorem dX7_seen_28 : decode cX7_seen 28 = .ok (.iload_n 3, 1) := by decide +kernel
theorem dX7_seen_29 : decode cX7_seen 29 = .ok (.invokevirtual 70, 3) := by decide +kernel
theorem dX7_seen_32 : decode cX7_seen 32 = .ok (.ifCond .eq 15, 3) := by decide +kernel
theorem dX7_seen_35 : decode cX7_seen 35 = .ok (.aload 7, 2) := by decide +kernel
theorem dX7_seen_37 : decode cX7_seen 37 = .ok (.iload 4, 2) := by decide +kernel
theorem dX7_seen_39 : decode cX7_seen 39 = .ok (.iload 5, 2) := by decide +kernel
theorem dX7_seen_41 : decode cX7_seen 41 = .ok (.invokevirtual 70, 3) := by decide +kernel
theorem dX7_seen_44 : decode cX7_seen 44 = .ok (.ifCond .ne 5, 3) := by decide +kernel
theorem dX7_seen_47 : decode cX7_seen 47 = .ok (.iconst (-1), 1) := by decide +kernel
theorem dX7_seen_48 : decode cX7_seen 48 = .ok (.ireturn, 1) := by decide +kernel
theorem dX7_seen_49 : decode cX7_seen 49 = .ok (.bipush 40, 2) := by decide +kernel
theorem dX7_seen_51 : decode cX7_seen 51 = .ok (.iload_n 2, 1) := by decide +kernel
theorem dX7_seen_52 : decode cX7_seen 52 = .ok (.imul, 1) := by decide +kernel
theorem dX7_seen_53 : decode cX7_seen 53 = .ok (.iload_n 3, 1) := by decide +kernel
theorem dX7_seen_54 : decode cX7_seen 54 = .ok (.iadd, 1) := by decide +kernel
theorem dX7_seen_55 : decode cX7_seen 55 = .ok (.istore 8, 2) := by decide +kernel
theorem dX7_seen_57 : decode cX7_seen 57 = .ok (.bipush 40, 2) := by decide +kernel
theorem dX7_seen_59 : decode cX7_seen 59 = .ok (.iload 4, 2) := by decide +kernel
theorem dX7_seen_61 : decode cX7_seen 61 = .ok (.imul, 1) := by decide +kernel
theorem dX7_seen_62 : decode cX7_seen 62 = .ok (.iload 5, 2) := by decide +kernel
theorem dX7_seen_64 : decode cX7_seen 64 = .ok (.iadd, 1) := by decide +kernel
theorem dX7_seen_65 : decode cX7_seen 65 = .ok (.istore 9, 2) := by decide +kernel
theorem dX7_seen_67 : decode cX7_seen 67 = .ok (.aload 7, 2) := by decide +kernel
theorem dX7_seen_69 : decode cX7_seen 69 = .ok (.iload 8, 2) := by decide +kernel
theorem dX7_seen_71 : decode cX7_seen 71 = .ok (.iload 9, 2) := by decide +kernel
theorem dX7_seen_73 : decode cX7_seen 73 = .ok (.iload 6, 2) := by decide +kernel
theorem dX7_seen_75 : decode cX7_seen 75 = .ok (.iconst 1, 1) := by decide +kernel
theorem dX7_seen_76 : decode cX7_seen 76 = .ok (.invokestatic 167, 3) := by decide +kernel
theorem dX7_seen_79 : decode cX7_seen 79 = .ok (.ifCond .ne 18, 3) := by decide +kernel
theorem dX7_seen_82 : decode cX7_seen 82 = .ok (.aload 7, 2) := by decide +kernel
theorem dX7_seen_84 : decode cX7_seen 84 = .ok (.iload 8, 2) := by decide +kernel
theorem dX7_seen_86 : decode cX7_seen 86 = .ok (.iload 9, 2) := by decide +kernel
theorem dX7_seen_88 : decode cX7_seen 88 = .ok (.iload 6, 2) := by decide +kernel
theorem dX7_seen_90 : decode cX7_seen 90 = .ok (.iconst 0, 1) := by decide +kernel
theorem dX7_seen_91 : decode cX7_seen 91 = .ok (.invokestatic 167, 3) := by decide +kernel
theorem dX7_seen_94 : decode cX7_seen 94 = .ok (.ifCond .eq 7, 3) := by decide +kernel
theorem dX7_seen_97 : decode cX7_seen 97 = .ok (.iconst 1, 1) := by decide +kernel
theorem dX7_seen_98 : decode cX7_seen 98 = .ok (.goto 4, 3) := by decide +kernel
theorem dX7_seen_101 : decode cX7_seen 101 = .ok (.iconst 0, 1) := by decide +kernel
theorem dX7_seen_102 : decode cX7_seen 102 = .ok (.istore 10, 2) := by decide +kernel
theorem dX7_seen_104 : decode cX7_seen 104 = .ok (.iload 10, 2) := by decide +kernel
theorem dX7_seen_106 : decode cX7_seen 106 = .ok (.ifCond .eq 7, 3) := by decide +kernel
theorem dX7_seen_109 : decode cX7_seen 109 = .ok (.iconst 0, 1) := by decide +kernel
theorem dX7_seen_110 : decode cX7_seen 110 = .ok (.goto 4, 3) := by decide +kernel
theorem dX7_seen_113 : decode cX7_seen 113 = .ok (.iconst 1, 1) := by decide +kernel
theorem dX7_seen_114 : decode cX7_seen 114 = .ok (.ireturn, 1) := by decide +kernel
set_option maxRecDepth 20000 in
theorem ggX7_smooth_X7_gridOf : GoodIn wsX7_smooth wsX7_gridOf := goodIn_r _ [7, 8, 59, 60, 61, 62, 63, 64] (by decide +kernel) (by decide +kernel)
set_option maxRecDepth 20000 in
theorem gX7_smooth_X7_gridOf : GoodIn wsX7_smooth (wsV RX7 43 RX7 yX7_gridOf wsX7_gridOf) := goodIn_app (goodIn_of _ (by decide +kernel)) ggX7_smooth_X7_gridOf
set_option maxRecDepth 20000 in
theorem ggX7_smooth_X2_isThere : GoodIn wsX7_smooth wsX2_isThere := goodIn_r _ [13, 14, 15, 65, 66, 67, 68] (by decide +kernel) (by decide +kernel)
set_option maxRecDepth 20000 in
theorem gX7_smooth_X2_isThere : GoodIn wsX7_smooth (wsV RX7 150 RX2 yX2_isThere wsX2_isThere) := goodIn_app (goodIn_of _ (by decide +kernel)) ggX7_smooth_X2_isThere
set_option maxRecDepth 20000 in
theorem ggX7_smooth_X2_smoothed : GoodIn wsX7_smooth wsX2_smoothed := goodIn_r _ [19, 20, 21, 22, 12, 23, 15, 14, 24, 25, 26, 27, 28, 29, 30, 31, 32, 10, 11, 13, 33, 34, 35, 36, 37, 38, 39, 40, 41, 42, 43, 65, 66, 67, 68] (by decide +kernel) (by decide +kernel)
set_option maxRecDepth 20000 in
theorem gX7_smooth_X2_smoothed : GoodIn wsX7_smooth (wsV RX7 173 RX2 yX2_smoothed wsX2_smoothed) := goodIn_app (goodIn_of _ (by decide +kernel)) ggX7_smooth_X2_smoothed
set_option maxRecDepth 20000 in
theorem ggX7_smooth_X2_takeShape : GoodIn wsX7_smooth wsX2_takeShape := goodIn_r _ [47, 48, 49, 50, 51, 52, 53, 54, 65, 66, 67, 68] (by decide +kernel) (by decide +kernel)
set_option maxRecDepth 20000 in
theorem gX7_smooth_X2_takeShape : GoodIn wsX7_smooth (wsV RX7 176 RX2 yX2_takeShape wsX2_takeShape) := goodIn_app (goodIn_of _ (by decide +kernel)) ggX7_smooth_X2_takeShape
set_option maxRecDepth 20000 in
theorem ggX7_smooth_X2_put : GoodIn wsX7_smooth wsX2_put := goodIn_r _ [58, 14, 65, 66, 67, 68] (by decide +kernel) (by decide +kernel)
set_option maxRecDepth 20000 in
theorem gX7_smooth_X2_put : GoodIn wsX7_smooth (wsV RX7 66 RX2 yX2_put wsX2_put) := goodIn_app (goodIn_of _ (by decide +kernel)) ggX7_smooth_X2_put
theorem dX7_smooth_0 : decode cX7_smooth 0 = .ok (.aload_n 0, 1) := by decide +kernel
theorem dX7_smooth_1 : decode cX7_smooth 1 = .ok (.iload_n 1, 1) := by decide +kernel
theorem dX7_smooth_2 : decode cX7_smooth 2 = .ok (.invokevirtual 43, 3) := by decide +kernel
theorem dX7_smooth_5 : decode cX7_smooth 5 = .ok (.astore 4, 2) := by decide +kernel
theorem dX7_smooth_7 : decode cX7_smooth 7 = .ok (.aload_n 0, 1) := by decide +kernel
theorem dX7_smooth_8 : decode cX7_smooth 8 = .ok (.iload_n 2, 1) := by decide +kernel
theorem dX7_smooth_9 : decode cX7_smooth 9 = .ok (.invokevirtual 43, 3) := by decide +kernel
theorem dX7_smooth_12 : decode cX7_smooth 12 = .ok (.astore 5, 2) := by decide +kernel
theorem dX7_smooth_14 : decode cX7_smooth 14 = .ok (.aload 4, 2) := by decide +kernel
theorem dX7_smooth_16 : decode cX7_smooth 16 = .ok (.ifnull 20, 3) := by decide +kernel
theorem dX7_smooth_19 : decode cX7_smooth 19 = .ok (.aload 5, 2) := by decide +kernel
theorem dX7_smooth_21 : decode cX7_smooth 21 = .ok (.ifnull 15, 3) := by decide +kernel
theorem dX7_smooth_24 : decode cX7_smooth 24 = .ok (.iload_n 3, 1) := by decide +kernel
theorem dX7_smooth_25 : decode cX7_smooth 25 = .ok (.iconst 1, 1) := by decide +kernel
theorem dX7_smooth_26 : decode cX7_smooth 26 = .ok (.if_icmp .lt 10, 3) := by decide +kernel
theorem dX7_smooth_29 : decode cX7_smooth 29 = .ok (.iload_n 3, 1) := by decide +kernel
theorem dX7_smooth_30 : decode cX7_smooth 30 = .ok (.sipush 1000, 3) := by decide +kernel
theorem dX7_smooth_33 : decode cX7_smooth 33 = .ok (.if_icmp .le 5, 3) := by decide +kernel
theorem dX7_smooth_36 : decode cX7_smooth 36 = .ok (.iconst 0, 1) := by decide +kernel
theorem dX7_smooth_37 : decode cX7_smooth 37 = .ok (.ireturn, 1) := by decide +kernel
theorem dX7_smooth_38 : decode cX7_smooth 38 = .ok (.iconst 0, 1) := by decide +kernel
theorem dX7_smooth_39 : decode cX7_smooth 39 = .ok (.istore 6, 2) := by decide +kernel
theorem dX7_smooth_41 : decode cX7_smooth 41 = .ok (.iload 6, 2) := by decide +kernel
theorem dX7_smooth_43 : decode cX7_smooth 43 = .ok (.sipush 1280, 3) := by decide +kernel
theorem dX7_smooth_46 : decode cX7_smooth 46 = .ok (.if_icmp .ge 39, 3) := by decide +kernel
theorem dX7_smooth_49 : decode cX7_smooth 49 = .ok (.aload_n 0, 1) := by decide +kernel
theorem dX7_smooth_50 : decode cX7_smooth 50 = .ok (.getfield 33, 3) := by decide +kernel
theorem dX7_smooth_53 : decode cX7_smooth 53 = .ok (.iload 6, 2) := by decide +kernel
theorem dX7_smooth_55 : decode cX7_smooth 55 = .ok (.aload 4, 2) := by decide +kernel
theorem dX7_smooth_57 : decode cX7_smooth 57 = .ok (.iload 6, 2) := by decide +kernel
theorem dX7_smooth_59 : decode cX7_smooth 59 = .ok (.invokevirtual 150, 3) := by decide +kernel
theorem dX7_smooth_62 : decode cX7_smooth 62 = .ok (.ifCond .eq 14, 3) := by decide +kernel
theorem dX7_smooth_65 : decode cX7_smooth 65 = .ok (.aload 4, 2) := by decide +kernel
theorem dX7_smooth_67 : decode cX7_smooth 67 = .ok (.iload 6, 2) := by decide +kernel
theorem dX7_smooth_69 : decode cX7_smooth 69 = .ok (.iload_n 3, 1) := by decide +kernel
theorem dX7_smooth_70 : decode cX7_smooth 70 = .ok (.invokevirtual 173, 3) := by decide +kernel
theorem dX7_smooth_73 : decode cX7_smooth 73 = .ok (.goto 5, 3) := by decide +kernel
theorem dX7_smooth_76 : decode cX7_smooth 76 = .ok (.ldc 61, 2) := by decide +kernel
theorem dX7_smooth_78 : decode cX7_smooth 78 = .ok (.iastore, 1) := by decide +kernel
theorem dX7_smooth_79 : decode cX7_smooth 79 = .ok (.iinc 6 1, 3) := by decide +kernel
theorem dX7_smooth_82 : decode cX7_smooth 82 = .ok (.goto (-41), 3) := by decide +kernel
theorem dX7_smooth_85 : decode cX7_smooth 85 = .ok (.aload 5, 2) := by decide +kernel
theorem dX7_smooth_87 : decode cX7_smooth 87 = .ok (.aload 4, 2) := by decide +kernel
theorem dX7_smooth_89 : decode cX7_smooth 89 = .ok (.invokevirtual 176, 3) := by decide +kernel
theorem dX7_smooth_92 : decode cX7_smooth 92 = .ok (.iconst 0, 1) := by decide +kernel
theorem dX7_smooth_93 : decode cX7_smooth 93 = .ok (.istore 6, 2) := by decide +kernel
theorem dX7_smooth_95 : decode cX7_smooth 95 = .ok (.iload 6, 2) := by decide +kernel
