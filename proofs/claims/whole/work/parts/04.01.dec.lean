theorem dX0_init_0 : decode cX0_init 0 = .ok (.aload_n 0, 1) := by decide +kernel
theorem dX0_init_1 : decode cX0_init 1 = .ok (.invokespecial 3, 3) := by decide +kernel
theorem dX0_init_4 : decode cX0_init 4 = .ok (.aload_n 0, 1) := by decide +kernel
theorem dX0_init_5 : decode cX0_init 5 = .ok (.bipush 32, 2) := by decide +kernel
theorem dX0_init_7 : decode cX0_init 7 = .ok (.newarray .long, 2) := by decide +kernel
theorem dX0_init_9 : decode cX0_init 9 = .ok (.putfield 9, 3) := by decide +kernel
theorem dX0_init_12 : decode cX0_init 12 = .ok (.return_, 1) := by decide +kernel
set_option maxRecDepth 20000 in
theorem ggX0_takeAll_J7_fill_d0a16 : GoodIn wsX0_takeAll wsJ7_fill_d0a16 := goodIn_r _ [5] (by decide +kernel) (by decide +kernel)
set_option maxRecDepth 20000 in
theorem gX0_takeAll_J7_fill_d0a16 : GoodIn wsX0_takeAll (va_wsS RX0 15 yJ7_fill_d0a16 wsJ7_fill_d0a16) := goodIn_app (goodIn_of _ (by decide +kernel)) ggX0_takeAll_J7_fill_d0a16
set_option maxRecDepth 20000 in
theorem ggX0_takeAll_X2_isThere : GoodIn wsX0_takeAll wsX2_isThere := goodIn_r _ [10, 11, 12, 15, 16, 17, 18] (by decide +kernel) (by decide +kernel)
set_option maxRecDepth 20000 in
theorem gX0_takeAll_X2_isThere : GoodIn wsX0_takeAll (wsV RX0 21 RX2 yX2_isThere wsX2_isThere) := goodIn_app (goodIn_of _ (by decide +kernel)) ggX0_takeAll_X2_isThere
theorem dX0_takeAll_0 : decode cX0_takeAll 0 = .ok (.aload_n 0, 1) := by decide +kernel
theorem dX0_takeAll_1 : decode cX0_takeAll 1 = .ok (.getfield 9, 3) := by decide +kernel
theorem dX0_takeAll_4 : decode cX0_takeAll 4 = .ok (.lconst 0, 1) := by decide +kernel
theorem dX0_takeAll_5 : decode cX0_takeAll 5 = .ok (.invokestatic 15, 3) := by decide +kernel
theorem dX0_takeAll_8 : decode cX0_takeAll 8 = .ok (.iconst 0, 1) := by decide +kernel
theorem dX0_takeAll_9 : decode cX0_takeAll 9 = .ok (.istore_n 2, 1) := by decide +kernel
theorem dX0_takeAll_10 : decode cX0_takeAll 10 = .ok (.iload_n 2, 1) := by decide +kernel
theorem dX0_takeAll_11 : decode cX0_takeAll 11 = .ok (.sipush 1280, 3) := by decide +kernel
theorem dX0_takeAll_14 : decode cX0_takeAll 14 = .ok (.if_icmp .ge 35, 3) := by decide +kernel
theorem dX0_takeAll_17 : decode cX0_takeAll 17 = .ok (.aload_n 1, 1) := by decide +kernel
theorem dX0_takeAll_18 : decode cX0_takeAll 18 = .ok (.iload_n 2, 1) := by decide +kernel
theorem dX0_takeAll_19 : decode cX0_takeAll 19 = .ok (.invokevirtual 21, 3) := by decide +kernel
theorem dX0_takeAll_22 : decode cX0_takeAll 22 = .ok (.ifCond .eq 21, 3) := by decide +kernel
theorem dX0_takeAll_25 : decode cX0_takeAll 25 = .ok (.aload_n 0, 1) := by decide +kernel
theorem dX0_takeAll_26 : decode cX0_takeAll 26 = .ok (.getfield 9, 3) := by decide +kernel
theorem dX0_takeAll_29 : decode cX0_takeAll 29 = .ok (.iload_n 2, 1) := by decide +kernel
theorem dX0_takeAll_30 : decode cX0_takeAll 30 = .ok (.bipush 40, 2) := by decide +kernel
theorem dX0_takeAll_32 : decode cX0_takeAll 32 = .ok (.idiv, 1) := by decide +kernel
theorem dX0_takeAll_33 : decode cX0_takeAll 33 = .ok (.dup2, 1) := by decide +kernel
theorem dX0_takeAll_34 : decode cX0_takeAll 34 = .ok (.laload, 1) := by decide +kernel
theorem dX0_takeAll_35 : decode cX0_takeAll 35 = .ok (.lconst 1, 1) := by decide +kernel
theorem dX0_takeAll_36 : decode cX0_takeAll 36 = .ok (.iload_n 2, 1) := by decide +kernel
theorem dX0_takeAll_37 : decode cX0_takeAll 37 = .ok (.bipush 40, 2) := by decide +kernel
theorem dX0_takeAll_39 : decode cX0_takeAll 39 = .ok (.irem, 1) := by decide +kernel
theorem dX0_takeAll_40 : decode cX0_takeAll 40 = .ok (.lshl, 1) := by decide +kernel
theorem dX0_takeAll_41 : decode cX0_takeAll 41 = .ok (.lor, 1) := by decide +kernel
theorem dX0_takeAll_42 : decode cX0_takeAll 42 = .ok (.lastore, 1) := by decide +kernel
theorem dX0_takeAll_43 : decode cX0_takeAll 43 = .ok (.iinc 2 1, 3) := by decide +kernel
theorem dX0_takeAll_46 : decode cX0_takeAll 46 = .ok (.goto (-36), 3) := by decide +kernel
theorem dX0_takeAll_49 : decode cX0_takeAll 49 = .ok (.return_, 1) := by decide +kernel
set_option maxRecDepth 20000 in
theorem ggX0_outline_J7_fill_d0a16 : GoodIn wsX0_outline wsJ7_fill_d0a16 := goodIn_r _ [5] (by decide +kernel) (by decide +kernel)
set_option maxRecDepth 20000 in
theorem gX0_outline_J7_fill_d0a16 : GoodIn wsX0_outline (va_wsS RX0 15 yJ7_fill_d0a16 wsJ7_fill_d0a16) := goodIn_app (goodIn_of _ (by decide +kernel)) ggX0_outline_J7_fill_d0a16
set_option maxRecDepth 20000 in
theorem ggX0_outline_X4_lengthOf : GoodIn wsX0_outline wsX4_lengthOf := goodIn_r _ [10, 11, 12, 13, 14, 9, 15, 16, 44, 45, 46, 47, 48, 49, 50, 51, 52, 53, 54, 55] (by decide +kernel) (by decide +kernel)
set_option maxRecDepth 20000 in
theorem gX0_outline_X4_lengthOf : GoodIn wsX0_outline (wsV RX0 27 RX4 yX4_lengthOf wsX4_lengthOf) := goodIn_app (goodIn_of _ (by decide +kernel)) ggX0_outline_X4_lengthOf
set_option maxRecDepth 20000 in
theorem ggX0_outline_X4_sideOf : GoodIn wsX0_outline wsX4_sideOf := goodIn_r _ [20, 11, 21, 12, 13, 14, 9, 15, 16, 22, 7, 8, 10, 44, 45, 46, 47, 48, 49, 50, 51, 52, 53, 54, 55] (by decide +kernel) (by decide +kernel)
set_option maxRecDepth 20000 in
theorem gX0_outline_X4_sideOf : GoodIn wsX0_outline (wsV RX0 33 RX4 yX4_sideOf wsX4_sideOf) := goodIn_app (goodIn_of _ (by decide +kernel)) ggX0_outline_X4_sideOf
set_option maxRecDepth 20000 in
theorem ggX0_outline_X0_turnBehind : GoodIn wsX0_outline wsX0_turnBehind := goodIn_r _ [27, 1, 28, 29, 42, 43] (by decide +kernel) (by decide +kernel)
set_option maxRecDepth 20000 in
theorem gX0_outline_X0_turnBehind : GoodIn wsX0_outline (wsV RX0 37 RX0 yX0_turnBehind wsX0_turnBehind) := goodIn_app (goodIn_of _ (by decide +kernel)) ggX0_outline_X0_turnBehind
set_option maxRecDepth 20000 in
theorem ggX0_outline_X0_keep : GoodIn wsX0_outline wsX0_keep := goodIn_r _ [33, 34, 1, 35, 36, 37, 38, 39, 40, 41, 42, 43] (by decide +kernel) (by decide +kernel)
set_option maxRecDepth 20000 in
theorem gX0_outline_X0_keep : GoodIn wsX0_outline (wsV RX0 45 RX0 yX0_keep wsX0_keep) := goodIn_app (goodIn_of _ (by decide +kernel)) ggX0_outline_X0_keep
theorem dX0_outline_0 : decode cX0_outline 0 = .ok (.aload_n 0, 1) := by decide +kernel
theorem dX0_outline_1 : decode cX0_outline 1 = .ok (.getfield 9, 3) := by decide +kernel
theorem dX0_outline_4 : decode cX0_outline 4 = .ok (.lconst 0, 1) := by decide +kernel
theorem dX0_outline_5 : decode cX0_outline 5 = .ok (.invokestatic 15, 3) := by decide +kernel
theorem dX0_outline_8 : decode cX0_outline 8 = .ok (.aload_n 1, 1) := by decide +kernel
theorem dX0_outline_9 : decode cX0_outline 9 = .ok (.iload_n 2, 1) := by decide +kernel
theorem dX0_outline_10 : decode cX0_outline 10 = .ok (.invokevirtual 27, 3) := by decide +kernel
theorem dX0_outline_13 : decode cX0_outline 13 = .ok (.istore_n 3, 1) := by decide +kernel
theorem dX0_outline_14 : decode cX0_outline 14 = .ok (.iconst 0, 1) := by decide +kernel
theorem dX0_outline_15 : decode cX0_outline 15 = .ok (.istore 4, 2) := by decide +kernel
theorem dX0_outline_17 : decode cX0_outline 17 = .ok (.iload 4, 2) := by decide +kernel
theorem dX0_outline_19 : decode cX0_outline 19 = .ok (.iload_n 3, 1) := by decide +kernel
theorem dX0_outline_20 : decode cX0_outline 20 = .ok (.if_icmp .ge 46, 3) := by decide +kernel
theorem dX0_outline_23 : decode cX0_outline 23 = .ok (.aload_n 1, 1) := by decide +kernel
theorem dX0_outline_24 : decode cX0_outline 24 = .ok (.iload_n 2, 1) := by decide +kernel
theorem dX0_outline_25 : decode cX0_outline 25 = .ok (.iload 4, 2) := by decide +kernel
theorem dX0_outline_27 : decode cX0_outline 27 = .ok (.invokevirtual 33, 3) := by decide +kernel
theorem dX0_outline_30 : decode cX0_outline 30 = .ok (.istore 5, 2) := by decide +kernel
theorem dX0_outline_32 : decode cX0_outline 32 = .ok (.iload 5, 2) := by decide +kernel
theorem dX0_outline_34 : decode cX0_outline 34 = .ok (.ifCond .lt 26, 3) := by decide +kernel
theorem dX0_outline_37 : decode cX0_outline 37 = .ok (.iload 5, 2) := by decide +kernel
theorem dX0_outline_39 : decode cX0_outline 39 = .ok (.sipush 2560, 3) := by decide +kernel
theorem dX0_outline_42 : decode cX0_outline 42 = .ok (.if_icmp .ge 18, 3) := by decide +kernel
theorem dX0_outline_45 : decode cX0_outline 45 = .ok (.iload 5, 2) := by decide +kernel
theorem dX0_outline_47 : decode cX0_outline 47 = .ok (.iconst 1, 1) := by decide +kernel
theorem dX0_outline_48 : decode cX0_outline 48 = .ok (.iand, 1) := by decide +kernel
theorem dX0_outline_49 : decode cX0_outline 49 = .ok (.ifCond .ne 11, 3) := by decide +kernel
theorem dX0_outline_52 : decode cX0_outline 52 = .ok (.aload_n 0, 1) := by decide +kernel
theorem dX0_outline_53 : decode cX0_outline 53 = .ok (.iload 5, 2) := by decide +kernel
theorem dX0_outline_55 : decode cX0_outline 55 = .ok (.iconst 2, 1) := by decide +kernel
theorem dX0_outline_56 : decode cX0_outline 56 = .ok (.idiv, 1) := by decide +kernel
theorem dX0_outline_57 : decode cX0_outline 57 = .ok (.invokevirtual 37, 3) := by decide +kernel
theorem dX0_outline_60 : decode cX0_outline 60 = .ok (.iinc 4 1, 3) := by decide +kernel
theorem dX0_outline_63 : decode cX0_outline 63 = .ok (.goto (-46), 3) := by decide +kernel
theorem dX0_outline_66 : decode cX0_outline 66 = .ok (.aload_n 0, 1) := by decide +kernel
theorem dX0_outline_67 : decode cX0_outline 67 = .ok (.aload_n 1, 1) := by decide +kernel
theorem dX0_outline_68 : decode cX0_outline 68 = .ok (.getfield 41, 3) := by decide +kernel
theorem dX0_outline_71 : decode cX0_outline 71 = .ok (.invokevirtual 45, 3) := by decide +kernel
theorem dX0_outline_74 : decode cX0_outline 74 = .ok (.return_, 1) := by decide +kernel
theorem dX0_turnBehind_0 : decode cX0_turnBehind 0 = .ok (.aload_n 0, 1) := by decide +kernel
theorem dX0_turnBehind_1 : decode cX0_turnBehind 1 = .ok (.getfield 9, 3) := by decide +kernel
theorem dX0_turnBehind_4 : decode cX0_turnBehind 4 = .ok (.iload_n 1, 1) := by decide +kernel
theorem dX0_turnBehind_5 : decode cX0_turnBehind 5 = .ok (.bipush 40, 2) := by decide +kernel
theorem dX0_turnBehind_7 : decode cX0_turnBehind 7 = .ok (.idiv, 1) := by decide +kernel
theorem dX0_turnBehind_8 : decode cX0_turnBehind 8 = .ok (.dup2, 1) := by decide +kernel
theorem dX0_turnBehind_9 : decode cX0_turnBehind 9 = .ok (.laload, 1) := by decide +kernel
theorem dX0_turnBehind_10 : decode cX0_turnBehind 10 = .ok (.ldc2_w 49, 3) := by decide +kernel
theorem dX0_turnBehind_13 : decode cX0_turnBehind 13 = .ok (.ldc2_w 51, 3) := by decide +kernel
theorem dX0_turnBehind_16 : decode cX0_turnBehind 16 = .ok (.iload_n 1, 1) := by decide +kernel
theorem dX0_turnBehind_17 : decode cX0_turnBehind 17 = .ok (.bipush 40, 2) := by decide +kernel
theorem dX0_turnBehind_19 : decode cX0_turnBehind 19 = .ok (.irem, 1) := by decide +kernel
theorem dX0_turnBehind_20 : decode cX0_turnBehind 20 = .ok (.lshl, 1) := by decide +kernel
theorem dX0_turnBehind_21 : decode cX0_turnBehind 21 = .ok (.lneg, 1) := by decide +kernel
theorem dX0_turnBehind_22 : decode cX0_turnBehind 22 = .ok (.land, 1) := by decide +kernel
theorem dX0_turnBehind_23 : decode cX0_turnBehind 23 = .ok (.lxor, 1) := by decide +kernel
theorem dX0_turnBehind_24 : decode cX0_turnBehind 24 = .ok (.lastore, 1) := by decide +kernel
theorem dX0_turnBehind_25 : decode cX0_turnBehind 25 = .ok (.return_, 1) := by decide +kernel
set_option maxRecDepth 20000 in
theorem ggX0_keep_J13_bitCount_95d88 : GoodIn wsX0_keep wsJ13_bitCount_95d88 := goodIn_r _ [6, 7, 8, 9] (by decide +kernel) (by decide +kernel)
set_option maxRecDepth 20000 in
theorem gX0_keep_J13_bitCount_95d88 : GoodIn wsX0_keep (va_wsS RX0 57 yJ13_bitCount_95d88 wsJ13_bitCount_95d88) := goodIn_app (goodIn_of _ (by decide +kernel)) ggX0_keep_J13_bitCount_95d88
theorem dX0_keep_0 : decode cX0_keep 0 = .ok (.aload_n 0, 1) := by decide +kernel
theorem dX0_keep_1 : decode cX0_keep 1 = .ok (.iconst 0, 1) := by decide +kernel
theorem dX0_keep_2 : decode cX0_keep 2 = .ok (.putfield 53, 3) := by decide +kernel
theorem dX0_keep_5 : decode cX0_keep 5 = .ok (.iconst 0, 1) := by decide +kernel
theorem dX0_keep_6 : decode cX0_keep 6 = .ok (.istore_n 2, 1) := by decide +kernel
theorem dX0_keep_7 : decode cX0_keep 7 = .ok (.iload_n 2, 1) := by decide +kernel
theorem dX0_keep_8 : decode cX0_keep 8 = .ok (.bipush 32, 2) := by decide +kernel
theorem dX0_keep_10 : decode cX0_keep 10 = .ok (.if_icmp .ge 42, 3) := by decide +kernel
theorem dX0_keep_13 : decode cX0_keep 13 = .ok (.aload_n 0, 1) := by decide +kernel
theorem dX0_keep_14 : decode cX0_keep 14 = .ok (.getfield 9, 3) := by decide +kernel
theorem dX0_keep_17 : decode cX0_keep 17 = .ok (.iload_n 2, 1) := by decide +kernel
theorem dX0_keep_18 : decode cX0_keep 18 = .ok (.dup2, 1) := by decide +kernel
theorem dX0_keep_19 : decode cX0_keep 19 = .ok (.laload, 1) := by decide +kernel
theorem dX0_keep_20 : decode cX0_keep 20 = .ok (.aload_n 1, 1) := by decide +kernel
theorem dX0_keep_21 : decode cX0_keep 21 = .ok (.getfield 9, 3) := by decide +kernel
theorem dX0_keep_24 : decode cX0_keep 24 = .ok (.iload_n 2, 1) := by decide +kernel
theorem dX0_keep_25 : decode cX0_keep 25 = .ok (.laload, 1) := by decide +kernel
theorem dX0_keep_26 : decode cX0_keep 26 = .ok (.land, 1) := by decide +kernel
theorem dX0_keep_27 : decode cX0_keep 27 = .ok (.lastore, 1) := by decide +kernel
theorem dX0_keep_28 : decode cX0_keep 28 = .ok (.aload_n 0, 1) := by decide +kernel
theorem dX0_keep_29 : decode cX0_keep 29 = .ok (.dup, 1) := by decide +kernel
theorem dX0_keep_30 : decode cX0_keep 30 = .ok (.getfield 53, 3) := by decide +kernel
theorem dX0_keep_33 : decode cX0_keep 33 = .ok (.aload_n 0, 1) := by decide +kernel
theorem dX0_keep_34 : decode cX0_keep 34 = .ok (.getfield 9, 3) := by decide +kernel
theorem dX0_keep_37 : decode cX0_keep 37 = .ok (.iload_n 2, 1) := by decide +kernel
theorem dX0_keep_38 : decode cX0_keep 38 = .ok (.laload, 1) := by decide +kernel
theorem dX0_keep_39 : decode cX0_keep 39 = .ok (.invokestatic 57, 3) := by decide +kernel
theorem dX0_keep_42 : decode cX0_keep 42 = .ok (.iadd, 1) := by decide +kernel
theorem dX0_keep_43 : decode cX0_keep 43 = .ok (.putfield 53, 3) := by decide +kernel
theorem dX0_keep_46 : decode cX0_keep 46 = .ok (.iinc 2 1, 3) := by decide +kernel
theorem dX0_keep_49 : decode cX0_keep 49 = .ok (.goto (-42), 3) := by decide +kernel
theorem dX0_keep_52 : decode cX0_keep 52 = .ok (.return_, 1) := by decide +kernel
theorem dX0_has_0 : decode cX0_has 0 = .ok (.iload_n 1, 1) := by decide +kernel
theorem dX0_has_1 : decode cX0_has 1 = .ok (.ifCond .lt 38, 3) := by decide +kernel
theorem dX0_has_4 : decode cX0_has 4 = .ok (.iload_n 1, 1) := by decide +kernel
theorem dX0_has_5 : decode cX0_has 5 = .ok (.bipush 32, 2) := by decide +kernel
theorem dX0_has_7 : decode cX0_has 7 = .ok (.if_icmp .ge 32, 3) := by decide +kernel
theorem dX0_has_10 : decode cX0_has 10 = .ok (.iload_n 2, 1) := by decide +kernel
theorem dX0_has_11 : decode cX0_has 11 = .ok (.ifCond .lt 28, 3) := by decide +kernel
theorem dX0_has_14 : decode cX0_has 14 = .ok (.iload_n 2, 1) := by decide +kernel
theorem dX0_has_15 : decode cX0_has 15 = .ok (.bipush 40, 2) := by decide +kernel
theorem dX0_has_17 : decode cX0_has 17 = .ok (.if_icmp .ge 22, 3) := by decide +kernel
theorem dX0_has_20 : decode cX0_has 20 = .ok (.aload_n 0, 1) := by decide +kernel
theorem dX0_has_21 : decode cX0_has 21 = .ok (.getfield 9, 3) := by decide +kernel
theorem dX0_has_24 : decode cX0_has 24 = .ok (.iload_n 1, 1) := by decide +kernel
theorem dX0_has_25 : decode cX0_has 25 = .ok (.laload, 1) := by decide +kernel
theorem dX0_has_26 : decode cX0_has 26 = .ok (.iload_n 2, 1) := by decide +kernel
theorem dX0_has_27 : decode cX0_has 27 = .ok (.lshr, 1) := by decide +kernel
theorem dX0_has_28 : decode cX0_has 28 = .ok (.lconst 1, 1) := by decide +kernel
theorem dX0_has_29 : decode cX0_has 29 = .ok (.land, 1) := by decide +kernel
theorem dX0_has_30 : decode cX0_has 30 = .ok (.lconst 1, 1) := by decide +kernel
theorem dX0_has_31 : decode cX0_has 31 = .ok (.lcmp, 1) := by decide +kernel
theorem dX0_has_32 : decode cX0_has 32 = .ok (.ifCond .ne 7, 3) := by decide +kernel
theorem dX0_has_35 : decode cX0_has 35 = .ok (.iconst 1, 1) := by decide +kernel
theorem dX0_has_36 : decode cX0_has 36 = .ok (.goto 4, 3) := by decide +kernel
theorem dX0_has_39 : decode cX0_has 39 = .ok (.iconst 0, 1) := by decide +kernel
theorem dX0_has_40 : decode cX0_has 40 = .ok (.ireturn, 1) := by decide +kernel
theorem dX0_covers_0 : decode cX0_covers 0 = .ok (.iconst 0, 1) := by decide +kernel
theorem dX0_covers_1 : decode cX0_covers 1 = .ok (.istore_n 2, 1) := by decide +kernel
theorem dX0_covers_2 : decode cX0_covers 2 = .ok (.iload_n 2, 1) := by decide +kernel
theorem dX0_covers_3 : decode cX0_covers 3 = .ok (.bipush 32, 2) := by decide +kernel
theorem dX0_covers_5 : decode cX0_covers 5 = .ok (.if_icmp .ge 33, 3) := by decide +kernel
theorem dX0_covers_8 : decode cX0_covers 8 = .ok (.aload_n 1, 1) := by decide +kernel
theorem dX0_covers_9 : decode cX0_covers 9 = .ok (.getfield 9, 3) := by decide +kernel
theorem dX0_covers_12 : decode cX0_covers 12 = .ok (.iload_n 2, 1) := by decide +kernel
theorem dX0_covers_13 : decode cX0_covers 13 = .ok (.laload, 1) := by decide +kernel
theorem dX0_covers_14 : decode cX0_covers 14 = .ok (.aload_n 0, 1) := by decide +kernel
theorem dX0_covers_15 : decode cX0_covers 15 = .ok (.getfield 9, 3) := by decide +kernel
theorem dX0_covers_18 : decode cX0_covers 18 = .ok (.iload_n 2, 1) := by decide +kernel
theorem dX0_covers_19 : decode cX0_covers 19 = .ok (.laload, 1) := by decide +kernel
theorem dX0_covers_20 : decode cX0_covers 20 = .ok (.ldc2_w 63, 3) := by decide +kernel
theorem dX0_covers_23 : decode cX0_covers 23 = .ok (.lxor, 1) := by decide +kernel
theorem dX0_covers_24 : decode cX0_covers 24 = .ok (.land, 1) := by decide +kernel
theorem dX0_covers_25 : decode cX0_covers 25 = .ok (.lconst 0, 1) := by decide +kernel
theorem dX0_covers_26 : decode cX0_covers 26 = .ok (.lcmp, 1) := by decide +kernel
theorem dX0_covers_27 : decode cX0_covers 27 = .ok (.ifCond .eq 5, 3) := by decide +kernel
theorem dX0_covers_30 : decode cX0_covers 30 = .ok (.iconst 0, 1) := by decide +kernel
theorem dX0_covers_31 : decode cX0_covers 31 = .ok (.ireturn, 1) := by decide +kernel
theorem dX0_covers_32 : decode cX0_covers 32 = .ok (.iinc 2 1, 3) := by decide +kernel
theorem dX0_covers_35 : decode cX0_covers 35 = .ok (.goto (-33), 3) := by decide +kernel
theorem dX0_covers_38 : decode cX0_covers 38 = .ok (.iconst 1, 1) := by decide +kernel
theorem dX0_covers_39 : decode cX0_covers 39 = .ok (.ireturn, 1) := by decide +kernel
theorem dX1_unitsOfFloat_0 : decode cX1_unitsOfFloat 0 = .ok (.iload_n 0, 1) := by decide +kernel
theorem dX1_unitsOfFloat_1 : decode cX1_unitsOfFloat 1 = .ok (.ldc 11, 2) := by decide +kernel
theorem dX1_unitsOfFloat_3 : decode cX1_unitsOfFloat 3 = .ok (.iand, 1) := by decide +kernel
theorem dX1_unitsOfFloat_4 : decode cX1_unitsOfFloat 4 = .ok (.istore_n 1, 1) := by decide +kernel
theorem dX1_unitsOfFloat_5 : decode cX1_unitsOfFloat 5 = .ok (.iload_n 0, 1) := by decide +kernel
theorem dX1_unitsOfFloat_6 : decode cX1_unitsOfFloat 6 = .ok (.bipush 23, 2) := by decide +kernel
theorem dX1_unitsOfFloat_8 : decode cX1_unitsOfFloat 8 = .ok (.ishr, 1) := by decide +kernel
theorem dX1_unitsOfFloat_9 : decode cX1_unitsOfFloat 9 = .ok (.sipush 255, 3) := by decide +kernel
theorem dX1_unitsOfFloat_12 : decode cX1_unitsOfFloat 12 = .ok (.iand, 1) := by decide +kernel
theorem dX1_unitsOfFloat_13 : decode cX1_unitsOfFloat 13 = .ok (.istore_n 2, 1) := by decide +kernel
theorem dX1_unitsOfFloat_14 : decode cX1_unitsOfFloat 14 = .ok (.iload_n 2, 1) := by decide +kernel
theorem dX1_unitsOfFloat_15 : decode cX1_unitsOfFloat 15 = .ok (.ifCond .ne 9, 3) := by decide +kernel
theorem dX1_unitsOfFloat_18 : decode cX1_unitsOfFloat 18 = .ok (.iload_n 1, 1) := by decide +kernel
theorem dX1_unitsOfFloat_19 : decode cX1_unitsOfFloat 19 = .ok (.ifCond .ne 5, 3) := by decide +kernel
theorem dX1_unitsOfFloat_22 : decode cX1_unitsOfFloat 22 = .ok (.iconst 0, 1) := by decide +kernel
theorem dX1_unitsOfFloat_23 : decode cX1_unitsOfFloat 23 = .ok (.ireturn, 1) := by decide +kernel
theorem dX1_unitsOfFloat_24 : decode cX1_unitsOfFloat 24 = .ok (.sipush 140, 3) := by decide +kernel
theorem dX1_unitsOfFloat_27 : decode cX1_unitsOfFloat 27 = .ok (.iload_n 2, 1) := by decide +kernel
theorem dX1_unitsOfFloat_28 : decode cX1_unitsOfFloat 28 = .ok (.isub, 1) := by decide +kernel
theorem dX1_unitsOfFloat_29 : decode cX1_unitsOfFloat 29 = .ok (.istore_n 3, 1) := by decide +kernel
theorem dX1_unitsOfFloat_30 : decode cX1_unitsOfFloat 30 = .ok (.iload_n 2, 1) := by decide +kernel
theorem dX1_unitsOfFloat_31 : decode cX1_unitsOfFloat 31 = .ok (.ifCond .eq 13, 3) := by decide +kernel
theorem dX1_unitsOfFloat_34 : decode cX1_unitsOfFloat 34 = .ok (.iload_n 3, 1) := by decide +kernel
theorem dX1_unitsOfFloat_35 : decode cX1_unitsOfFloat 35 = .ok (.ifCond .lt 9, 3) := by decide +kernel
theorem dX1_unitsOfFloat_38 : decode cX1_unitsOfFloat 38 = .ok (.iload_n 3, 1) := by decide +kernel
theorem dX1_unitsOfFloat_39 : decode cX1_unitsOfFloat 39 = .ok (.bipush 23, 2) := by decide +kernel
theorem dX1_unitsOfFloat_41 : decode cX1_unitsOfFloat 41 = .ok (.if_icmp .le 6, 3) := by decide +kernel
theorem dX1_unitsOfFloat_44 : decode cX1_unitsOfFloat 44 = .ok (.ldc 12, 2) := by decide +kernel
theorem dX1_unitsOfFloat_46 : decode cX1_unitsOfFloat 46 = .ok (.ireturn, 1) := by decide +kernel
theorem dX1_unitsOfFloat_47 : decode cX1_unitsOfFloat 47 = .ok (.iload_n 1, 1) := by decide +kernel
theorem dX1_unitsOfFloat_48 : decode cX1_unitsOfFloat 48 = .ok (.ldc 13, 2) := by decide +kernel
theorem dX1_unitsOfFloat_50 : decode cX1_unitsOfFloat 50 = .ok (.ior, 1) := by decide +kernel
theorem dX1_unitsOfFloat_51 : decode cX1_unitsOfFloat 51 = .ok (.istore 4, 2) := by decide +kernel
theorem dX1_unitsOfFloat_53 : decode cX1_unitsOfFloat 53 = .ok (.iload 4, 2) := by decide +kernel
theorem dX1_unitsOfFloat_55 : decode cX1_unitsOfFloat 55 = .ok (.iload_n 3, 1) := by decide +kernel
theorem dX1_unitsOfFloat_56 : decode cX1_unitsOfFloat 56 = .ok (.ishr, 1) := by decide +kernel
theorem dX1_unitsOfFloat_57 : decode cX1_unitsOfFloat 57 = .ok (.istore 5, 2) := by decide +kernel
theorem dX1_unitsOfFloat_59 : decode cX1_unitsOfFloat 59 = .ok (.iload 5, 2) := by decide +kernel
theorem dX1_unitsOfFloat_61 : decode cX1_unitsOfFloat 61 = .ok (.iload_n 3, 1) := by decide +kernel
theorem dX1_unitsOfFloat_62 : decode cX1_unitsOfFloat 62 = .ok (.ishl, 1) := by decide +kernel
theorem dX1_unitsOfFloat_63 : decode cX1_unitsOfFloat 63 = .ok (.iload 4, 2) := by decide +kernel
theorem dX1_unitsOfFloat_65 : decode cX1_unitsOfFloat 65 = .ok (.if_icmp .ne 10, 3) := by decide +kernel
theorem dX1_unitsOfFloat_68 : decode cX1_unitsOfFloat 68 = .ok (.iload 5, 2) := by decide +kernel
theorem dX1_unitsOfFloat_70 : decode cX1_unitsOfFloat 70 = .ok (.ldc 13, 2) := by decide +kernel
theorem dX1_unitsOfFloat_72 : decode cX1_unitsOfFloat 72 = .ok (.if_icmp .le 6, 3) := by decide +kernel
theorem dX1_unitsOfFloat_75 : decode cX1_unitsOfFloat 75 = .ok (.ldc 12, 2) := by decide +kernel
theorem dX1_unitsOfFloat_77 : decode cX1_unitsOfFloat 77 = .ok (.ireturn, 1) := by decide +kernel
theorem dX1_unitsOfFloat_78 : decode cX1_unitsOfFloat 78 = .ok (.iload_n 0, 1) := by decide +kernel
theorem dX1_unitsOfFloat_79 : decode cX1_unitsOfFloat 79 = .ok (.ifCond .ge 9, 3) := by decide +kernel
theorem dX1_unitsOfFloat_82 : decode cX1_unitsOfFloat 82 = .ok (.iload 5, 2) := by decide +kernel
theorem dX1_unitsOfFloat_84 : decode cX1_unitsOfFloat 84 = .ok (.ineg, 1) := by decide +kernel
theorem dX1_unitsOfFloat_85 : decode cX1_unitsOfFloat 85 = .ok (.goto 5, 3) := by decide +kernel
theorem dX1_unitsOfFloat_88 : decode cX1_unitsOfFloat 88 = .ok (.iload 5, 2) := by decide +kernel
theorem dX1_unitsOfFloat_90 : decode cX1_unitsOfFloat 90 = .ok (.ireturn, 1) := by decide +kernel
set_option maxRecDepth 20000 in
theorem ggX1_floatOfUnits_J6_numberOfLeadingZeros_0f7a4 : GoodIn wsX1_floatOfUnits wsJ6_numberOfLeadingZeros_0f7a4 := goodIn_r _ [7, 8] (by decide +kernel) (by decide +kernel)
set_option maxRecDepth 20000 in
theorem gX1_floatOfUnits_J6_numberOfLeadingZeros_0f7a4 : GoodIn wsX1_floatOfUnits (va_wsS RX1 14 yJ6_numberOfLeadingZeros_0f7a4 wsJ6_numberOfLeadingZeros_0f7a4) := goodIn_app (goodIn_of _ (by decide +kernel)) ggX1_floatOfUnits_J6_numberOfLeadingZeros_0f7a4
theorem dX1_floatOfUnits_0 : decode cX1_floatOfUnits 0 = .ok (.iload_n 0, 1) := by decide +kernel
theorem dX1_floatOfUnits_1 : decode cX1_floatOfUnits 1 = .ok (.ifCond .ge 8, 3) := by decide +kernel
theorem dX1_floatOfUnits_4 : decode cX1_floatOfUnits 4 = .ok (.iload_n 0, 1) := by decide +kernel
theorem dX1_floatOfUnits_5 : decode cX1_floatOfUnits 5 = .ok (.ineg, 1) := by decide +kernel
theorem dX1_floatOfUnits_6 : decode cX1_floatOfUnits 6 = .ok (.goto 4, 3) := by decide +kernel
theorem dX1_floatOfUnits_9 : decode cX1_floatOfUnits 9 = .ok (.iload_n 0, 1) := by decide +kernel
theorem dX1_floatOfUnits_10 : decode cX1_floatOfUnits 10 = .ok (.istore_n 1, 1) := by decide +kernel
theorem dX1_floatOfUnits_11 : decode cX1_floatOfUnits 11 = .ok (.iload_n 1, 1) := by decide +kernel
theorem dX1_floatOfUnits_12 : decode cX1_floatOfUnits 12 = .ok (.iconst 1, 1) := by decide +kernel
theorem dX1_floatOfUnits_13 : decode cX1_floatOfUnits 13 = .ok (.if_icmp .lt 9, 3) := by decide +kernel
theorem dX1_floatOfUnits_16 : decode cX1_floatOfUnits 16 = .ok (.iload_n 1, 1) := by decide +kernel
theorem dX1_floatOfUnits_17 : decode cX1_floatOfUnits 17 = .ok (.ldc 13, 2) := by decide +kernel
theorem dX1_floatOfUnits_19 : decode cX1_floatOfUnits 19 = .ok (.if_icmp .le 5, 3) := by decide +kernel
theorem dX1_floatOfUnits_22 : decode cX1_floatOfUnits 22 = .ok (.iconst 0, 1) := by decide +kernel
theorem dX1_floatOfUnits_23 : decode cX1_floatOfUnits 23 = .ok (.ireturn, 1) := by decide +kernel
theorem dX1_floatOfUnits_24 : decode cX1_floatOfUnits 24 = .ok (.bipush 31, 2) := by decide +kernel
theorem dX1_floatOfUnits_26 : decode cX1_floatOfUnits 26 = .ok (.iload_n 1, 1) := by decide +kernel
theorem dX1_floatOfUnits_27 : decode cX1_floatOfUnits 27 = .ok (.invokestatic 14, 3) := by decide +kernel
theorem dX1_floatOfUnits_30 : decode cX1_floatOfUnits 30 = .ok (.isub, 1) := by decide +kernel
theorem dX1_floatOfUnits_31 : decode cX1_floatOfUnits 31 = .ok (.istore_n 2, 1) := by decide +kernel
theorem dX1_floatOfUnits_32 : decode cX1_floatOfUnits 32 = .ok (.iload_n 1, 1) := by decide +kernel
theorem dX1_floatOfUnits_33 : decode cX1_floatOfUnits 33 = .ok (.bipush 23, 2) := by decide +kernel
theorem dX1_floatOfUnits_35 : decode cX1_floatOfUnits 35 = .ok (.iload_n 2, 1) := by decide +kernel
theorem dX1_floatOfUnits_36 : decode cX1_floatOfUnits 36 = .ok (.isub, 1) := by decide +kernel
theorem dX1_floatOfUnits_37 : decode cX1_floatOfUnits 37 = .ok (.ishl, 1) := by decide +kernel
theorem dX1_floatOfUnits_38 : decode cX1_floatOfUnits 38 = .ok (.ldc 11, 2) := by decide +kernel
theorem dX1_floatOfUnits_40 : decode cX1_floatOfUnits 40 = .ok (.iand, 1) := by decide +kernel
theorem dX1_floatOfUnits_41 : decode cX1_floatOfUnits 41 = .ok (.istore_n 3, 1) := by decide +kernel
theorem dX1_floatOfUnits_42 : decode cX1_floatOfUnits 42 = .ok (.iload_n 0, 1) := by decide +kernel
theorem dX1_floatOfUnits_43 : decode cX1_floatOfUnits 43 = .ok (.ifCond .ge 8, 3) := by decide +kernel
theorem dX1_floatOfUnits_46 : decode cX1_floatOfUnits 46 = .ok (.ldc 12, 2) := by decide +kernel
theorem dX1_floatOfUnits_48 : decode cX1_floatOfUnits 48 = .ok (.goto 4, 3) := by decide +kernel
theorem dX1_floatOfUnits_51 : decode cX1_floatOfUnits 51 = .ok (.iconst 0, 1) := by decide +kernel
theorem dX1_floatOfUnits_52 : decode cX1_floatOfUnits 52 = .ok (.istore 4, 2) := by decide +kernel
theorem dX1_floatOfUnits_54 : decode cX1_floatOfUnits 54 = .ok (.iload 4, 2) := by decide +kernel
theorem dX1_floatOfUnits_56 : decode cX1_floatOfUnits 56 = .ok (.iload_n 2, 1) := by decide +kernel
theorem dX1_floatOfUnits_57 : decode cX1_floatOfUnits 57 = .ok (.bipush 10, 2) := by decide +kernel
theorem dX1_floatOfUnits_59 : decode cX1_floatOfUnits 59 = .ok (.isub, 1) := by decide +kernel
theorem dX1_floatOfUnits_60 : decode cX1_floatOfUnits 60 = .ok (.bipush 127, 2) := by decide +kernel
theorem dX1_floatOfUnits_62 : decode cX1_floatOfUnits 62 = .ok (.iadd, 1) := by decide +kernel
theorem dX1_floatOfUnits_63 : decode cX1_floatOfUnits 63 = .ok (.bipush 23, 2) := by decide +kernel
theorem dX1_floatOfUnits_65 : decode cX1_floatOfUnits 65 = .ok (.ishl, 1) := by decide +kernel
theorem dX1_floatOfUnits_66 : decode cX1_floatOfUnits 66 = .ok (.ior, 1) := by decide +kernel
theorem dX1_floatOfUnits_67 : decode cX1_floatOfUnits 67 = .ok (.iload_n 3, 1) := by decide +kernel
theorem dX1_floatOfUnits_68 : decode cX1_floatOfUnits 68 = .ok (.ior, 1) := by decide +kernel
theorem dX1_floatOfUnits_69 : decode cX1_floatOfUnits 69 = .ok (.ireturn, 1) := by decide +kernel
theorem dX1_doubleOfRatio_0 : decode cX1_doubleOfRatio 0 = .ok (.lload_n 0, 1) := by decide +kernel
theorem dX1_doubleOfRatio_1 : decode cX1_doubleOfRatio 1 = .ok (.lconst 0, 1) := by decide +kernel
theorem dX1_doubleOfRatio_2 : decode cX1_doubleOfRatio 2 = .ok (.lcmp, 1) := by decide +kernel
theorem dX1_doubleOfRatio_3 : decode cX1_doubleOfRatio 3 = .ok (.ifCond .le 9, 3) := by decide +kernel
theorem dX1_doubleOfRatio_6 : decode cX1_doubleOfRatio 6 = .ok (.lload_n 2, 1) := by decide +kernel
theorem dX1_doubleOfRatio_7 : decode cX1_doubleOfRatio 7 = .ok (.lconst 0, 1) := by decide +kernel
theorem dX1_doubleOfRatio_8 : decode cX1_doubleOfRatio 8 = .ok (.lcmp, 1) := by decide +kernel
theorem dX1_doubleOfRatio_9 : decode cX1_doubleOfRatio 9 = .ok (.ifCond .gt 5, 3) := by decide +kernel
theorem dX1_doubleOfRatio_12 : decode cX1_doubleOfRatio 12 = .ok (.lconst 0, 1) := by decide +kernel
theorem dX1_doubleOfRatio_13 : decode cX1_doubleOfRatio 13 = .ok (.lreturn, 1) := by decide +kernel
theorem dX1_doubleOfRatio_14 : decode cX1_doubleOfRatio 14 = .ok (.lload_n 0, 1) := by decide +kernel
theorem dX1_doubleOfRatio_15 : decode cX1_doubleOfRatio 15 = .ok (.lload_n 2, 1) := by decide +kernel
theorem dX1_doubleOfRatio_16 : decode cX1_doubleOfRatio 16 = .ok (.ldiv, 1) := by decide +kernel
theorem dX1_doubleOfRatio_17 : decode cX1_doubleOfRatio 17 = .ok (.lstore 4, 2) := by decide +kernel
theorem dX1_doubleOfRatio_19 : decode cX1_doubleOfRatio 19 = .ok (.lload_n 0, 1) := by decide +kernel
theorem dX1_doubleOfRatio_20 : decode cX1_doubleOfRatio 20 = .ok (.lload_n 2, 1) := by decide +kernel
theorem dX1_doubleOfRatio_21 : decode cX1_doubleOfRatio 21 = .ok (.lrem, 1) := by decide +kernel
theorem dX1_doubleOfRatio_22 : decode cX1_doubleOfRatio 22 = .ok (.lstore 6, 2) := by decide +kernel
theorem dX1_doubleOfRatio_24 : decode cX1_doubleOfRatio 24 = .ok (.iconst 0, 1) := by decide +kernel
theorem dX1_doubleOfRatio_25 : decode cX1_doubleOfRatio 25 = .ok (.istore 8, 2) := by decide +kernel
theorem dX1_doubleOfRatio_27 : decode cX1_doubleOfRatio 27 = .ok (.iload 8, 2) := by decide +kernel
theorem dX1_doubleOfRatio_29 : decode cX1_doubleOfRatio 29 = .ok (.sipush 1000, 3) := by decide +kernel
theorem dX1_doubleOfRatio_32 : decode cX1_doubleOfRatio 32 = .ok (.if_icmp .ge 60, 3) := by decide +kernel
theorem dX1_doubleOfRatio_35 : decode cX1_doubleOfRatio 35 = .ok (.lload 4, 2) := by decide +kernel
theorem dX1_doubleOfRatio_37 : decode cX1_doubleOfRatio 37 = .ok (.ldc2_w 20, 3) := by decide +kernel
theorem dX1_doubleOfRatio_40 : decode cX1_doubleOfRatio 40 = .ok (.lcmp, 1) := by decide +kernel
theorem dX1_doubleOfRatio_41 : decode cX1_doubleOfRatio 41 = .ok (.ifCond .ge 51, 3) := by decide +kernel
theorem dX1_doubleOfRatio_44 : decode cX1_doubleOfRatio 44 = .ok (.ldc2_w 22, 3) := by decide +kernel
theorem dX1_doubleOfRatio_47 : decode cX1_doubleOfRatio 47 = .ok (.lload 6, 2) := by decide +kernel
theorem dX1_doubleOfRatio_49 : decode cX1_doubleOfRatio 49 = .ok (.lmul, 1) := by decide +kernel
theorem dX1_doubleOfRatio_50 : decode cX1_doubleOfRatio 50 = .ok (.lstore 6, 2) := by decide +kernel
theorem dX1_doubleOfRatio_52 : decode cX1_doubleOfRatio 52 = .ok (.lload 6, 2) := by decide +kernel
theorem dX1_doubleOfRatio_54 : decode cX1_doubleOfRatio 54 = .ok (.lload_n 2, 1) := by decide +kernel
theorem dX1_doubleOfRatio_55 : decode cX1_doubleOfRatio 55 = .ok (.lcmp, 1) := by decide +kernel
theorem dX1_doubleOfRatio_56 : decode cX1_doubleOfRatio 56 = .ok (.ifCond .lt 7, 3) := by decide +kernel
theorem dX1_doubleOfRatio_59 : decode cX1_doubleOfRatio 59 = .ok (.lconst 1, 1) := by decide +kernel
theorem dX1_doubleOfRatio_60 : decode cX1_doubleOfRatio 60 = .ok (.goto 4, 3) := by decide +kernel
theorem dX1_doubleOfRatio_63 : decode cX1_doubleOfRatio 63 = .ok (.lconst 0, 1) := by decide +kernel
theorem dX1_doubleOfRatio_64 : decode cX1_doubleOfRatio 64 = .ok (.lstore 9, 2) := by decide +kernel
theorem dX1_doubleOfRatio_66 : decode cX1_doubleOfRatio 66 = .ok (.lload 6, 2) := by decide +kernel
theorem dX1_doubleOfRatio_68 : decode cX1_doubleOfRatio 68 = .ok (.lload 9, 2) := by decide +kernel
theorem dX1_doubleOfRatio_70 : decode cX1_doubleOfRatio 70 = .ok (.lload_n 2, 1) := by decide +kernel
theorem dX1_doubleOfRatio_71 : decode cX1_doubleOfRatio 71 = .ok (.lmul, 1) := by decide +kernel
theorem dX1_doubleOfRatio_72 : decode cX1_doubleOfRatio 72 = .ok (.lsub, 1) := by decide +kernel
theorem dX1_doubleOfRatio_73 : decode cX1_doubleOfRatio 73 = .ok (.lstore 6, 2) := by decide +kernel
theorem dX1_doubleOfRatio_75 : decode cX1_doubleOfRatio 75 = .ok (.ldc2_w 22, 3) := by decide +kernel
theorem dX1_doubleOfRatio_78 : decode cX1_doubleOfRatio 78 = .ok (.lload 4, 2) := by decide +kernel
theorem dX1_doubleOfRatio_80 : decode cX1_doubleOfRatio 80 = .ok (.lmul, 1) := by decide +kernel
theorem dX1_doubleOfRatio_81 : decode cX1_doubleOfRatio 81 = .ok (.lload 9, 2) := by decide +kernel
theorem dX1_doubleOfRatio_83 : decode cX1_doubleOfRatio 83 = .ok (.ladd, 1) := by decide +kernel
theorem dX1_doubleOfRatio_84 : decode cX1_doubleOfRatio 84 = .ok (.lstore 4, 2) := by decide +kernel
theorem dX1_doubleOfRatio_86 : decode cX1_doubleOfRatio 86 = .ok (.iinc 8 1, 3) := by decide +kernel
theorem dX1_doubleOfRatio_89 : decode cX1_doubleOfRatio 89 = .ok (.goto (-62), 3) := by decide +kernel
theorem dX1_doubleOfRatio_92 : decode cX1_doubleOfRatio 92 = .ok (.ldc2_w 22, 3) := by decide +kernel
theorem dX1_doubleOfRatio_95 : decode cX1_doubleOfRatio 95 = .ok (.lload 6, 2) := by decide +kernel
theorem dX1_doubleOfRatio_97 : decode cX1_doubleOfRatio 97 = .ok (.lmul, 1) := by decide +kernel
theorem dX1_doubleOfRatio_98 : decode cX1_doubleOfRatio 98 = .ok (.lload_n 2, 1) := by decide +kernel
theorem dX1_doubleOfRatio_99 : decode cX1_doubleOfRatio 99 = .ok (.lcmp, 1) := by decide +kernel
theorem dX1_doubleOfRatio_100 : decode cX1_doubleOfRatio 100 = .ok (.ifCond .gt 23, 3) := by decide +kernel
theorem dX1_doubleOfRatio_103 : decode cX1_doubleOfRatio 103 = .ok (.ldc2_w 22, 3) := by decide +kernel
theorem dX1_doubleOfRatio_106 : decode cX1_doubleOfRatio 106 = .ok (.lload 6, 2) := by decide +kernel
theorem dX1_doubleOfRatio_108 : decode cX1_doubleOfRatio 108 = .ok (.lmul, 1) := by decide +kernel
theorem dX1_doubleOfRatio_109 : decode cX1_doubleOfRatio 109 = .ok (.lload_n 2, 1) := by decide +kernel
theorem dX1_doubleOfRatio_110 : decode cX1_doubleOfRatio 110 = .ok (.lcmp, 1) := by decide +kernel
theorem dX1_doubleOfRatio_111 : decode cX1_doubleOfRatio 111 = .ok (.ifCond .ne 16, 3) := by decide +kernel
theorem dX1_doubleOfRatio_114 : decode cX1_doubleOfRatio 114 = .ok (.lload 4, 2) := by decide +kernel
theorem dX1_doubleOfRatio_116 : decode cX1_doubleOfRatio 116 = .ok (.lconst 1, 1) := by decide +kernel
theorem dX1_doubleOfRatio_117 : decode cX1_doubleOfRatio 117 = .ok (.land, 1) := by decide +kernel
theorem dX1_doubleOfRatio_118 : decode cX1_doubleOfRatio 118 = .ok (.lconst 1, 1) := by decide +kernel
theorem dX1_doubleOfRatio_119 : decode cX1_doubleOfRatio 119 = .ok (.lcmp, 1) := by decide +kernel
theorem dX1_doubleOfRatio_120 : decode cX1_doubleOfRatio 120 = .ok (.ifCond .ne 7, 3) := by decide +kernel
theorem dX1_doubleOfRatio_123 : decode cX1_doubleOfRatio 123 = .ok (.iconst 1, 1) := by decide +kernel
theorem dX1_doubleOfRatio_124 : decode cX1_doubleOfRatio 124 = .ok (.goto 4, 3) := by decide +kernel
theorem dX1_doubleOfRatio_127 : decode cX1_doubleOfRatio 127 = .ok (.iconst 0, 1) := by decide +kernel
theorem dX1_doubleOfRatio_128 : decode cX1_doubleOfRatio 128 = .ok (.istore 9, 2) := by decide +kernel
theorem dX1_doubleOfRatio_130 : decode cX1_doubleOfRatio 130 = .ok (.sipush 1075, 3) := by decide +kernel
theorem dX1_doubleOfRatio_133 : decode cX1_doubleOfRatio 133 = .ok (.iload 8, 2) := by decide +kernel
theorem dX1_doubleOfRatio_135 : decode cX1_doubleOfRatio 135 = .ok (.isub, 1) := by decide +kernel
theorem dX1_doubleOfRatio_136 : decode cX1_doubleOfRatio 136 = .ok (.i2l, 1) := by decide +kernel
theorem dX1_doubleOfRatio_137 : decode cX1_doubleOfRatio 137 = .ok (.bipush 52, 2) := by decide +kernel
theorem dX1_doubleOfRatio_139 : decode cX1_doubleOfRatio 139 = .ok (.lshl, 1) := by decide +kernel
theorem dX1_doubleOfRatio_140 : decode cX1_doubleOfRatio 140 = .ok (.lload 4, 2) := by decide +kernel
theorem dX1_doubleOfRatio_142 : decode cX1_doubleOfRatio 142 = .ok (.ldc2_w 20, 3) := by decide +kernel
theorem dX1_doubleOfRatio_145 : decode cX1_doubleOfRatio 145 = .ok (.lsub, 1) := by decide +kernel
theorem dX1_doubleOfRatio_146 : decode cX1_doubleOfRatio 146 = .ok (.ladd, 1) := by decide +kernel
theorem dX1_doubleOfRatio_147 : decode cX1_doubleOfRatio 147 = .ok (.iload 9, 2) := by decide +kernel
theorem dX1_doubleOfRatio_149 : decode cX1_doubleOfRatio 149 = .ok (.ifCond .eq 7, 3) := by decide +kernel
theorem dX1_doubleOfRatio_152 : decode cX1_doubleOfRatio 152 = .ok (.lconst 1, 1) := by decide +kernel
theorem dX1_doubleOfRatio_153 : decode cX1_doubleOfRatio 153 = .ok (.goto 4, 3) := by decide +kernel
theorem dX1_doubleOfRatio_156 : decode cX1_doubleOfRatio 156 = .ok (.lconst 0, 1) := by decide +kernel
theorem dX1_doubleOfRatio_157 : decode cX1_doubleOfRatio 157 = .ok (.ladd, 1) := by decide +kernel
theorem dX1_doubleOfRatio_158 : decode cX1_doubleOfRatio 158 = .ok (.lreturn, 1) := by decide +kernel
set_option maxRecDepth 20000 in
theorem ggX2_init_J7_fill_53178 : GoodIn wsX2_init wsJ7_fill_53178 := goodIn_r _ [13] (by decide +kernel) (by decide +kernel)
set_option maxRecDepth 20000 in
theorem gX2_init_J7_fill_53178 : GoodIn wsX2_init (va_wsS RX2 16 yJ7_fill_53178 wsJ7_fill_53178) := goodIn_app (goodIn_of _ (by decide +kernel)) ggX2_init_J7_fill_53178
theorem dX2_init_0 : decode cX2_init 0 = .ok (.aload_n 0, 1) := by decide +kernel
theorem dX2_init_1 : decode cX2_init 1 = .ok (.invokespecial 3, 3) := by decide +kernel
theorem dX2_init_4 : decode cX2_init 4 = .ok (.aload_n 0, 1) := by decide +kernel
theorem dX2_init_5 : decode cX2_init 5 = .ok (.sipush 1280, 3) := by decide +kernel
theorem dX2_init_8 : decode cX2_init 8 = .ok (.newarray .int, 2) := by decide +kernel
theorem dX2_init_10 : decode cX2_init 10 = .ok (.putfield 9, 3) := by decide +kernel
theorem dX2_init_13 : decode cX2_init 13 = .ok (.aload_n 0, 1) := by decide +kernel
theorem dX2_init_14 : decode cX2_init 14 = .ok (.getfield 9, 3) := by decide +kernel
theorem dX2_init_17 : decode cX2_init 17 = .ok (.ldc 15, 2) := by decide +kernel
theorem dX2_init_19 : decode cX2_init 19 = .ok (.invokestatic 16, 3) := by decide +kernel
theorem dX2_init_22 : decode cX2_init 22 = .ok (.aload_n 0, 1) := by decide +kernel
theorem dX2_init_23 : decode cX2_init 23 = .ok (.bipush 32, 2) := by decide +kernel
theorem dX2_init_25 : decode cX2_init 25 = .ok (.newarray .int, 2) := by decide +kernel
theorem dX2_init_27 : decode cX2_init 27 = .ok (.putfield 22, 3) := by decide +kernel
theorem dX2_init_30 : decode cX2_init 30 = .ok (.aload_n 0, 1) := by decide +kernel
theorem dX2_init_31 : decode cX2_init 31 = .ok (.bipush 32, 2) := by decide +kernel
theorem dX2_init_33 : decode cX2_init 33 = .ok (.newarray .int, 2) := by decide +kernel
theorem dX2_init_35 : decode cX2_init 35 = .ok (.putfield 25, 3) := by decide +kernel
theorem dX2_init_38 : decode cX2_init 38 = .ok (.aload_n 0, 1) := by decide +kernel
theorem dX2_init_39 : decode cX2_init 39 = .ok (.sipush 1000, 3) := by decide +kernel
theorem dX2_init_42 : decode cX2_init 42 = .ok (.putfield 28, 3) := by decide +kernel
theorem dX2_init_45 : decode cX2_init 45 = .ok (.return_, 1) := by decide +kernel
theorem dX2_setRow_0 : decode cX2_setRow 0 = .ok (.iload_n 1, 1) := by decide +kernel
theorem dX2_setRow_1 : decode cX2_setRow 1 = .ok (.ifCond .lt 9, 3) := by decide +kernel
theorem dX2_setRow_4 : decode cX2_setRow 4 = .ok (.iload_n 1, 1) := by decide +kernel
theorem dX2_setRow_5 : decode cX2_setRow 5 = .ok (.bipush 32, 2) := by decide +kernel
theorem dX2_setRow_7 : decode cX2_setRow 7 = .ok (.if_icmp .lt 4, 3) := by decide +kernel
theorem dX2_setRow_10 : decode cX2_setRow 10 = .ok (.return_, 1) := by decide +kernel
theorem dX2_setRow_11 : decode cX2_setRow 11 = .ok (.aload_n 0, 1) := by decide +kernel
theorem dX2_setRow_12 : decode cX2_setRow 12 = .ok (.getfield 22, 3) := by decide +kernel
theorem dX2_setRow_15 : decode cX2_setRow 15 = .ok (.iload_n 1, 1) := by decide +kernel
theorem dX2_setRow_16 : decode cX2_setRow 16 = .ok (.iload_n 2, 1) := by decide +kernel
theorem dX2_setRow_17 : decode cX2_setRow 17 = .ok (.iastore, 1) := by decide +kernel
theorem dX2_setRow_18 : decode cX2_setRow 18 = .ok (.aload_n 0, 1) := by decide +kernel
theorem dX2_setRow_19 : decode cX2_setRow 19 = .ok (.getfield 25, 3) := by decide +kernel
theorem dX2_setRow_22 : decode cX2_setRow 22 = .ok (.iload_n 1, 1) := by decide +kernel
theorem dX2_setRow_23 : decode cX2_setRow 23 = .ok (.iload_n 3, 1) := by decide +kernel
theorem dX2_setRow_24 : decode cX2_setRow 24 = .ok (.iastore, 1) := by decide +kernel
theorem dX2_setRow_25 : decode cX2_setRow 25 = .ok (.iconst 0, 1) := by decide +kernel
theorem dX2_setRow_26 : decode cX2_setRow 26 = .ok (.istore 4, 2) := by decide +kernel
theorem dX2_setRow_28 : decode cX2_setRow 28 = .ok (.iload 4, 2) := by decide +kernel
theorem dX2_setRow_30 : decode cX2_setRow 30 = .ok (.bipush 40, 2) := by decide +kernel
theorem dX2_setRow_32 : decode cX2_setRow 32 = .ok (.if_icmp .ge 23, 3) := by decide +kernel
theorem dX2_setRow_35 : decode cX2_setRow 35 = .ok (.aload_n 0, 1) := by decide +kernel
theorem dX2_setRow_36 : decode cX2_setRow 36 = .ok (.getfield 9, 3) := by decide +kernel
theorem dX2_setRow_39 : decode cX2_setRow 39 = .ok (.bipush 40, 2) := by decide +kernel
theorem dX2_setRow_41 : decode cX2_setRow 41 = .ok (.iload_n 1, 1) := by decide +kernel
theorem dX2_setRow_42 : decode cX2_setRow 42 = .ok (.imul, 1) := by decide +kernel
theorem dX2_setRow_43 : decode cX2_setRow 43 = .ok (.iload 4, 2) := by decide +kernel
theorem dX2_setRow_45 : decode cX2_setRow 45 = .ok (.iadd, 1) := by decide +kernel
theorem dX2_setRow_46 : decode cX2_setRow 46 = .ok (.ldc 15, 2) := by decide +kernel
theorem dX2_setRow_48 : decode cX2_setRow 48 = .ok (.iastore, 1) := by decide +kernel
theorem dX2_setRow_49 : decode cX2_setRow 49 = .ok (.iinc 4 1, 3) := by decide +kernel
theorem dX2_setRow_52 : decode cX2_setRow 52 = .ok (.goto (-24), 3) := by decide +kernel
theorem dX2_setRow_55 : decode cX2_setRow 55 = .ok (.return_, 1) := by decide +kernel
theorem dX2_takeShape_0 : decode cX2_takeShape 0 = .ok (.aload_n 1, 1) := by decide +kernel
theorem dX2_takeShape_1 : decode cX2_takeShape 1 = .ok (.getfield 22, 3) := by decide +kernel
theorem dX2_takeShape_4 : decode cX2_takeShape 4 = .ok (.iconst 0, 1) := by decide +kernel
theorem dX2_takeShape_5 : decode cX2_takeShape 5 = .ok (.aload_n 0, 1) := by decide +kernel
theorem dX2_takeShape_6 : decode cX2_takeShape 6 = .ok (.getfield 22, 3) := by decide +kernel
theorem dX2_takeShape_9 : decode cX2_takeShape 9 = .ok (.iconst 0, 1) := by decide +kernel
theorem dX2_takeShape_10 : decode cX2_takeShape 10 = .ok (.bipush 32, 2) := by decide +kernel
theorem dX2_takeShape_12 : decode cX2_takeShape 12 = .ok (.invokestatic 32, 3) := by decide +kernel
theorem dX2_takeShape_15 : decode cX2_takeShape 15 = .ok (.aload_n 1, 1) := by decide +kernel
theorem dX2_takeShape_16 : decode cX2_takeShape 16 = .ok (.getfield 25, 3) := by decide +kernel
theorem dX2_takeShape_19 : decode cX2_takeShape 19 = .ok (.iconst 0, 1) := by decide +kernel
theorem dX2_takeShape_20 : decode cX2_takeShape 20 = .ok (.aload_n 0, 1) := by decide +kernel
theorem dX2_takeShape_21 : decode cX2_takeShape 21 = .ok (.getfield 25, 3) := by decide +kernel
theorem dX2_takeShape_24 : decode cX2_takeShape 24 = .ok (.iconst 0, 1) := by decide +kernel
theorem dX2_takeShape_25 : decode cX2_takeShape 25 = .ok (.bipush 32, 2) := by decide +kernel
theorem dX2_takeShape_27 : decode cX2_takeShape 27 = .ok (.invokestatic 32, 3) := by decide +kernel
theorem dX2_takeShape_30 : decode cX2_takeShape 30 = .ok (.aload_n 0, 1) := by decide +kernel
theorem dX2_takeShape_31 : decode cX2_takeShape 31 = .ok (.aload_n 1, 1) := by decide +kernel
theorem dX2_takeShape_32 : decode cX2_takeShape 32 = .ok (.getfield 28, 3) := by decide +kernel
theorem dX2_takeShape_35 : decode cX2_takeShape 35 = .ok (.putfield 28, 3) := by decide +kernel
theorem dX2_takeShape_38 : decode cX2_takeShape 38 = .ok (.return_, 1) := by decide +kernel
set_option maxRecDepth 20000 in
theorem ggX2_takeAll_X2_takeShape : GoodIn wsX2_takeAll wsX2_takeShape := goodIn_r _ [10, 11, 2, 3, 4, 5, 12, 13, 14, 15, 16, 17] (by decide +kernel) (by decide +kernel)
set_option maxRecDepth 20000 in
theorem gX2_takeAll_X2_takeShape : GoodIn wsX2_takeAll (wsV RX2 38 RX2 yX2_takeShape wsX2_takeShape) := goodIn_app (goodIn_of _ (by decide +kernel)) ggX2_takeAll_X2_takeShape
theorem dX2_takeAll_0 : decode cX2_takeAll 0 = .ok (.aload_n 0, 1) := by decide +kernel
theorem dX2_takeAll_1 : decode cX2_takeAll 1 = .ok (.aload_n 1, 1) := by decide +kernel
theorem dX2_takeAll_2 : decode cX2_takeAll 2 = .ok (.invokevirtual 38, 3) := by decide +kernel
theorem dX2_takeAll_5 : decode cX2_takeAll 5 = .ok (.aload_n 1, 1) := by decide +kernel
theorem dX2_takeAll_6 : decode cX2_takeAll 6 = .ok (.getfield 9, 3) := by decide +kernel
theorem dX2_takeAll_9 : decode cX2_takeAll 9 = .ok (.iconst 0, 1) := by decide +kernel
theorem dX2_takeAll_10 : decode cX2_takeAll 10 = .ok (.aload_n 0, 1) := by decide +kernel
theorem dX2_takeAll_11 : decode cX2_takeAll 11 = .ok (.getfield 9, 3) := by decide +kernel
theorem dX2_takeAll_14 : decode cX2_takeAll 14 = .ok (.iconst 0, 1) := by decide +kernel
theorem dX2_takeAll_15 : decode cX2_takeAll 15 = .ok (.sipush 1280, 3) := by decide +kernel
theorem dX2_takeAll_18 : decode cX2_takeAll 18 = .ok (.invokestatic 32, 3) := by decide +kernel
theorem dX2_takeAll_21 : decode cX2_takeAll 21 = .ok (.return_, 1) := by decide +kernel
theorem dX2_put_0 : decode cX2_put 0 = .ok (.iload_n 1, 1) := by decide +kernel
theorem dX2_put_1 : decode cX2_put 1 = .ok (.ifCond .lt 17, 3) := by decide +kernel
theorem dX2_put_4 : decode cX2_put 4 = .ok (.iload_n 1, 1) := by decide +kernel
theorem dX2_put_5 : decode cX2_put 5 = .ok (.sipush 1280, 3) := by decide +kernel
theorem dX2_put_8 : decode cX2_put 8 = .ok (.if_icmp .ge 10, 3) := by decide +kernel
theorem dX2_put_11 : decode cX2_put 11 = .ok (.aload_n 0, 1) := by decide +kernel
theorem dX2_put_12 : decode cX2_put 12 = .ok (.getfield 9, 3) := by decide +kernel
theorem dX2_put_15 : decode cX2_put 15 = .ok (.iload_n 1, 1) := by decide +kernel
theorem dX2_put_16 : decode cX2_put 16 = .ok (.iload_n 2, 1) := by decide +kernel
theorem dX2_put_17 : decode cX2_put 17 = .ok (.iastore, 1) := by decide +kernel
theorem dX2_put_18 : decode cX2_put 18 = .ok (.return_, 1) := by decide +kernel
theorem dX2_isInRow_0 : decode cX2_isInRow 0 = .ok (.iload_n 1, 1) := by decide +kernel
theorem dX2_isInRow_1 : decode cX2_isInRow 1 = .ok (.ifCond .lt 19, 3) := by decide +kernel
theorem dX2_isInRow_4 : decode cX2_isInRow 4 = .ok (.iload_n 1, 1) := by decide +kernel
theorem dX2_isInRow_5 : decode cX2_isInRow 5 = .ok (.bipush 32, 2) := by decide +kernel
theorem dX2_isInRow_7 : decode cX2_isInRow 7 = .ok (.if_icmp .ge 13, 3) := by decide +kernel
theorem dX2_isInRow_10 : decode cX2_isInRow 10 = .ok (.iload_n 2, 1) := by decide +kernel
theorem dX2_isInRow_11 : decode cX2_isInRow 11 = .ok (.ifCond .lt 9, 3) := by decide +kernel
theorem dX2_isInRow_14 : decode cX2_isInRow 14 = .ok (.iload_n 2, 1) := by decide +kernel
theorem dX2_isInRow_15 : decode cX2_isInRow 15 = .ok (.bipush 40, 2) := by decide +kernel
theorem dX2_isInRow_17 : decode cX2_isInRow 17 = .ok (.if_icmp .lt 5, 3) := by decide +kernel
theorem dX2_isInRow_20 : decode cX2_isInRow 20 = .ok (.iconst 0, 1) := by decide +kernel
theorem dX2_isInRow_21 : decode cX2_isInRow 21 = .ok (.ireturn, 1) := by decide +kernel
theorem dX2_isInRow_22 : decode cX2_isInRow 22 = .ok (.iload_n 2, 1) := by decide +kernel
theorem dX2_isInRow_23 : decode cX2_isInRow 23 = .ok (.aload_n 0, 1) := by decide +kernel
theorem dX2_isInRow_24 : decode cX2_isInRow 24 = .ok (.getfield 25, 3) := by decide +kernel
theorem dX2_isInRow_27 : decode cX2_isInRow 27 = .ok (.iload_n 1, 1) := by decide +kernel
theorem dX2_isInRow_28 : decode cX2_isInRow 28 = .ok (.iaload, 1) := by decide +kernel
theorem dX2_isInRow_29 : decode cX2_isInRow 29 = .ok (.if_icmp .lt 24, 3) := by decide +kernel
theorem dX2_isInRow_32 : decode cX2_isInRow 32 = .ok (.iload_n 2, 1) := by decide +kernel
theorem dX2_isInRow_33 : decode cX2_isInRow 33 = .ok (.aload_n 0, 1) := by decide +kernel
theorem dX2_isInRow_34 : decode cX2_isInRow 34 = .ok (.getfield 25, 3) := by decide +kernel
theorem dX2_isInRow_37 : decode cX2_isInRow 37 = .ok (.iload_n 1, 1) := by decide +kernel
theorem dX2_isInRow_38 : decode cX2_isInRow 38 = .ok (.iaload, 1) := by decide +kernel
theorem dX2_isInRow_39 : decode cX2_isInRow 39 = .ok (.aload_n 0, 1) := by decide +kernel
theorem dX2_isInRow_40 : decode cX2_isInRow 40 = .ok (.getfield 22, 3) := by decide +kernel
theorem dX2_isInRow_43 : decode cX2_isInRow 43 = .ok (.iload_n 1, 1) := by decide +kernel
theorem dX2_isInRow_44 : decode cX2_isInRow 44 = .ok (.iaload, 1) := by decide +kernel
theorem dX2_isInRow_45 : decode cX2_isInRow 45 = .ok (.iadd, 1) := by decide +kernel
theorem dX2_isInRow_46 : decode cX2_isInRow 46 = .ok (.if_icmp .ge 7, 3) := by decide +kernel
theorem dX2_isInRow_49 : decode cX2_isInRow 49 = .ok (.iconst 1, 1) := by decide +kernel
theorem dX2_isInRow_50 : decode cX2_isInRow 50 = .ok (.goto 4, 3) := by decide +kernel
theorem dX2_isInRow_53 : decode cX2_isInRow 53 = .ok (.iconst 0, 1) := by decide +kernel
theorem dX2_isInRow_54 : decode cX2_isInRow 54 = .ok (.ireturn, 1) := by decide +kernel
theorem dX2_unitsOf_0 : decode cX2_unitsOf 0 = .ok (.iload_n 1, 1) := by decide +kernel
theorem dX2_unitsOf_1 : decode cX2_unitsOf 1 = .ok (.ifCond .lt 10, 3) := by decide +kernel
theorem dX2_unitsOf_4 : decode cX2_unitsOf 4 = .ok (.iload_n 1, 1) := by decide +kernel
theorem dX2_unitsOf_5 : decode cX2_unitsOf 5 = .ok (.sipush 1280, 3) := by decide +kernel
theorem dX2_unitsOf_8 : decode cX2_unitsOf 8 = .ok (.if_icmp .lt 8, 3) := by decide +kernel
theorem dX2_unitsOf_11 : decode cX2_unitsOf 11 = .ok (.ldc 15, 2) := by decide +kernel
theorem dX2_unitsOf_13 : decode cX2_unitsOf 13 = .ok (.goto 9, 3) := by decide +kernel
theorem dX2_unitsOf_16 : decode cX2_unitsOf 16 = .ok (.aload_n 0, 1) := by decide +kernel
theorem dX2_unitsOf_17 : decode cX2_unitsOf 17 = .ok (.getfield 9, 3) := by decide +kernel
theorem dX2_unitsOf_20 : decode cX2_unitsOf 20 = .ok (.iload_n 1, 1) := by decide +kernel
theorem dX2_unitsOf_21 : decode cX2_unitsOf 21 = .ok (.iaload, 1) := by decide +kernel
theorem dX2_unitsOf_22 : decode cX2_unitsOf 22 = .ok (.ireturn, 1) := by decide +kernel
theorem dX2_isThere_0 : decode cX2_isThere 0 = .ok (.iload_n 1, 1) := by decide +kernel
theorem dX2_isThere_1 : decode cX2_isThere 1 = .ok (.ifCond .lt 25, 3) := by decide +kernel
theorem dX2_isThere_4 : decode cX2_isThere 4 = .ok (.iload_n 1, 1) := by decide +kernel
theorem dX2_isThere_5 : decode cX2_isThere 5 = .ok (.sipush 1280, 3) := by decide +kernel
theorem dX2_isThere_8 : decode cX2_isThere 8 = .ok (.if_icmp .ge 18, 3) := by decide +kernel
theorem dX2_isThere_11 : decode cX2_isThere 11 = .ok (.aload_n 0, 1) := by decide +kernel
theorem dX2_isThere_12 : decode cX2_isThere 12 = .ok (.getfield 9, 3) := by decide +kernel
theorem dX2_isThere_15 : decode cX2_isThere 15 = .ok (.iload_n 1, 1) := by decide +kernel
theorem dX2_isThere_16 : decode cX2_isThere 16 = .ok (.iaload, 1) := by decide +kernel
theorem dX2_isThere_17 : decode cX2_isThere 17 = .ok (.ldc 15, 2) := by decide +kernel
theorem dX2_isThere_19 : decode cX2_isThere 19 = .ok (.if_icmp .eq 7, 3) := by decide +kernel
theorem dX2_isThere_22 : decode cX2_isThere 22 = .ok (.iconst 1, 1) := by decide +kernel
theorem dX2_isThere_23 : decode cX2_isThere 23 = .ok (.goto 4, 3) := by decide +kernel
theorem dX2_isThere_26 : decode cX2_isThere 26 = .ok (.iconst 0, 1) := by decide +kernel
theorem dX2_isThere_27 : decode cX2_isThere 27 = .ok (.ireturn, 1) := by decide +kernel
set_option maxRecDepth 20000 in
theorem ggX2_numberOf_X2_isThere : GoodIn wsX2_numberOf wsX2_isThere := goodIn_r _ [5, 6, 7, 8, 9, 10, 11] (by decide +kernel) (by decide +kernel)
set_option maxRecDepth 20000 in
theorem gX2_numberOf_X2_isThere : GoodIn wsX2_numberOf (wsV RX2 42 RX2 yX2_isThere wsX2_isThere) := goodIn_app (goodIn_of _ (by decide +kernel)) ggX2_numberOf_X2_isThere
theorem dX2_numberOf_0 : decode cX2_numberOf 0 = .ok (.iload_n 1, 1) := by decide +kernel
theorem dX2_numberOf_1 : decode cX2_numberOf 1 = .ok (.ifCond .lt 19, 3) := by decide +kernel
theorem dX2_numberOf_4 : decode cX2_numberOf 4 = .ok (.iload_n 1, 1) := by decide +kernel
theorem dX2_numberOf_5 : decode cX2_numberOf 5 = .ok (.bipush 32, 2) := by decide +kernel
theorem dX2_numberOf_7 : decode cX2_numberOf 7 = .ok (.if_icmp .ge 13, 3) := by decide +kernel
theorem dX2_numberOf_10 : decode cX2_numberOf 10 = .ok (.iload_n 2, 1) := by decide +kernel
theorem dX2_numberOf_11 : decode cX2_numberOf 11 = .ok (.ifCond .lt 9, 3) := by decide +kernel
theorem dX2_numberOf_14 : decode cX2_numberOf 14 = .ok (.iload_n 2, 1) := by decide +kernel
theorem dX2_numberOf_15 : decode cX2_numberOf 15 = .ok (.bipush 40, 2) := by decide +kernel
theorem dX2_numberOf_17 : decode cX2_numberOf 17 = .ok (.if_icmp .lt 5, 3) := by decide +kernel
theorem dX2_numberOf_20 : decode cX2_numberOf 20 = .ok (.iconst (-1), 1) := by decide +kernel
theorem dX2_numberOf_21 : decode cX2_numberOf 21 = .ok (.ireturn, 1) := by decide +kernel
theorem dX2_numberOf_22 : decode cX2_numberOf 22 = .ok (.bipush 40, 2) := by decide +kernel
theorem dX2_numberOf_24 : decode cX2_numberOf 24 = .ok (.iload_n 1, 1) := by decide +kernel
theorem dX2_numberOf_25 : decode cX2_numberOf 25 = .ok (.imul, 1) := by decide +kernel
theorem dX2_numberOf_26 : decode cX2_numberOf 26 = .ok (.iload_n 2, 1) := by decide +kernel
theorem dX2_numberOf_27 : decode cX2_numberOf 27 = .ok (.iadd, 1) := by decide +kernel
theorem dX2_numberOf_28 : decode cX2_numberOf 28 = .ok (.istore_n 3, 1) := by decide +kernel
theorem dX2_numberOf_29 : decode cX2_numberOf 29 = .ok (.aload_n 0, 1) := by decide +kernel
theorem dX2_numberOf_30 : decode cX2_numberOf 30 = .ok (.iload_n 3, 1) := by decide +kernel
theorem dX2_numberOf_31 : decode cX2_numberOf 31 = .ok (.invokevirtual 42, 3) := by decide +kernel
theorem dX2_numberOf_34 : decode cX2_numberOf 34 = .ok (.ifCond .eq 7, 3) := by decide +kernel
theorem dX2_numberOf_37 : decode cX2_numberOf 37 = .ok (.iload_n 3, 1) := by decide +kernel
theorem dX2_numberOf_38 : decode cX2_numberOf 38 = .ok (.goto 4, 3) := by decide +kernel
theorem dX2_numberOf_41 : decode cX2_numberOf 41 = .ok (.iconst (-1), 1) := by decide +kernel
theorem dX2_numberOf_42 : decode cX2_numberOf 42 = .ok (.ireturn, 1) := by decide +kernel
set_option maxRecDepth 20000 in
theorem ggX2_has_X2_numberOf : GoodIn wsX2_has wsX2_numberOf := goodIn_r _ [5, 6, 7, 8, 4, 9, 10, 11, 12, 13, 14, 15] (by decide +kernel) (by decide +kernel)
set_option maxRecDepth 20000 in
theorem gX2_has_X2_numberOf : GoodIn wsX2_has (wsV RX2 46 RX2 yX2_numberOf wsX2_numberOf) := goodIn_app (goodIn_of _ (by decide +kernel)) ggX2_has_X2_numberOf
theorem dX2_has_0 : decode cX2_has 0 = .ok (.aload_n 0, 1) := by decide +kernel
theorem dX2_has_1 : decode cX2_has 1 = .ok (.iload_n 1, 1) := by decide +kernel
theorem dX2_has_2 : decode cX2_has 2 = .ok (.iload_n 2, 1) := by decide +kernel
theorem dX2_has_3 : decode cX2_has 3 = .ok (.invokevirtual 46, 3) := by decide +kernel
theorem dX2_has_6 : decode cX2_has 6 = .ok (.iconst (-1), 1) := by decide +kernel
theorem dX2_has_7 : decode cX2_has 7 = .ok (.if_icmp .eq 7, 3) := by decide +kernel
theorem dX2_has_10 : decode cX2_has 10 = .ok (.iconst 1, 1) := by decide +kernel
theorem dX2_has_11 : decode cX2_has 11 = .ok (.goto 4, 3) := by decide +kernel
theorem dX2_has_14 : decode cX2_has 14 = .ok (.iconst 0, 1) := by decide +kernel
theorem dX2_has_15 : decode cX2_has 15 = .ok (.ireturn, 1) := by decide +kernel
set_option maxRecDepth 20000 in
theorem ggX2_neighbour_X2_numberOf : GoodIn wsX2_neighbour wsX2_numberOf := goodIn_r _ [5, 6, 7, 8, 4, 9, 10, 11, 12, 13, 14, 15] (by decide +kernel) (by decide +kernel)
set_option maxRecDepth 20000 in
theorem gX2_neighbour_X2_numberOf : GoodIn wsX2_neighbour (wsV RX2 46 RX2 yX2_numberOf wsX2_numberOf) := goodIn_app (goodIn_of _ (by decide +kernel)) ggX2_neighbour_X2_numberOf
theorem dX2_neighbour_0 : decode cX2_neighbour 0 = .ok (.iload_n 1, 1) := by decide +kernel
theorem dX2_neighbour_1 : decode cX2_neighbour 1 = .ok (.ifCond .lt 20, 3) := by decide +kernel
theorem dX2_neighbour_4 : decode cX2_neighbour 4 = .ok (.iload_n 1, 1) := by decide +kernel
theorem dX2_neighbour_5 : decode cX2_neighbour 5 = .ok (.sipush 1280, 3) := by decide +kernel
theorem dX2_neighbour_8 : decode cX2_neighbour 8 = .ok (.if_icmp .ge 13, 3) := by decide +kernel
theorem dX2_neighbour_11 : decode cX2_neighbour 11 = .ok (.iload_n 2, 1) := by decide +kernel
theorem dX2_neighbour_12 : decode cX2_neighbour 12 = .ok (.ifCond .lt 9, 3) := by decide +kernel
theorem dX2_neighbour_15 : decode cX2_neighbour 15 = .ok (.iload_n 2, 1) := by decide +kernel
theorem dX2_neighbour_16 : decode cX2_neighbour 16 = .ok (.bipush 8, 2) := by decide +kernel
theorem dX2_neighbour_18 : decode cX2_neighbour 18 = .ok (.if_icmp .lt 5, 3) := by decide +kernel
theorem dX2_neighbour_21 : decode cX2_neighbour 21 = .ok (.iconst (-1), 1) := by decide +kernel
theorem dX2_neighbour_22 : decode cX2_neighbour 22 = .ok (.ireturn, 1) := by decide +kernel
theorem dX2_neighbour_23 : decode cX2_neighbour 23 = .ok (.aload_n 0, 1) := by decide +kernel
theorem dX2_neighbour_24 : decode cX2_neighbour 24 = .ok (.iload_n 1, 1) := by decide +kernel
theorem dX2_neighbour_25 : decode cX2_neighbour 25 = .ok (.bipush 40, 2) := by decide +kernel
theorem dX2_neighbour_27 : decode cX2_neighbour 27 = .ok (.idiv, 1) := by decide +kernel
theorem dX2_neighbour_28 : decode cX2_neighbour 28 = .ok (.getstatic 50, 3) := by decide +kernel
theorem dX2_neighbour_31 : decode cX2_neighbour 31 = .ok (.iload_n 2, 1) := by decide +kernel
theorem dX2_neighbour_32 : decode cX2_neighbour 32 = .ok (.iaload, 1) := by decide +kernel
theorem dX2_neighbour_33 : decode cX2_neighbour 33 = .ok (.iadd, 1) := by decide +kernel
theorem dX2_neighbour_34 : decode cX2_neighbour 34 = .ok (.iload_n 1, 1) := by decide +kernel
theorem dX2_neighbour_35 : decode cX2_neighbour 35 = .ok (.bipush 40, 2) := by decide +kernel
theorem dX2_neighbour_37 : decode cX2_neighbour 37 = .ok (.irem, 1) := by decide +kernel
theorem dX2_neighbour_38 : decode cX2_neighbour 38 = .ok (.getstatic 53, 3) := by decide +kernel
theorem dX2_neighbour_41 : decode cX2_neighbour 41 = .ok (.iload_n 2, 1) := by decide +kernel
theorem dX2_neighbour_42 : decode cX2_neighbour 42 = .ok (.iaload, 1) := by decide +kernel
theorem dX2_neighbour_43 : decode cX2_neighbour 43 = .ok (.iadd, 1) := by decide +kernel
theorem dX2_neighbour_44 : decode cX2_neighbour 44 = .ok (.invokevirtual 46, 3) := by decide +kernel
theorem dX2_neighbour_47 : decode cX2_neighbour 47 = .ok (.ireturn, 1) := by decide +kernel
set_option maxRecDepth 20000 in
theorem ggX2_neighbourCount_X2_neighbour : GoodIn wsX2_neighbourCount wsX2_neighbour := goodIn_r _ [5, 6, 7, 8, 4, 9, 10, 11, 12, 13, 14, 15, 16, 17, 18, 19] (by decide +kernel) (by decide +kernel)
set_option maxRecDepth 20000 in
theorem gX2_neighbourCount_X2_neighbour : GoodIn wsX2_neighbourCount (wsV RX2 56 RX2 yX2_neighbour wsX2_neighbour) := goodIn_app (goodIn_of _ (by decide +kernel)) ggX2_neighbourCount_X2_neighbour
theorem dX2_neighbourCount_0 : decode cX2_neighbourCount 0 = .ok (.iconst 0, 1) := by decide +kernel
theorem dX2_neighbourCount_1 : decode cX2_neighbourCount 1 = .ok (.istore_n 2, 1) := by decide +kernel
theorem dX2_neighbourCount_2 : decode cX2_neighbourCount 2 = .ok (.iconst 0, 1) := by decide +kernel
theorem dX2_neighbourCount_3 : decode cX2_neighbourCount 3 = .ok (.istore_n 3, 1) := by decide +kernel
theorem dX2_neighbourCount_4 : decode cX2_neighbourCount 4 = .ok (.iload_n 3, 1) := by decide +kernel
theorem dX2_neighbourCount_5 : decode cX2_neighbourCount 5 = .ok (.bipush 8, 2) := by decide +kernel
theorem dX2_neighbourCount_7 : decode cX2_neighbourCount 7 = .ok (.if_icmp .ge 22, 3) := by decide +kernel
theorem dX2_neighbourCount_10 : decode cX2_neighbourCount 10 = .ok (.aload_n 0, 1) := by decide +kernel
theorem dX2_neighbourCount_11 : decode cX2_neighbourCount 11 = .ok (.iload_n 1, 1) := by decide +kernel
theorem dX2_neighbourCount_12 : decode cX2_neighbourCount 12 = .ok (.iload_n 3, 1) := by decide +kernel
theorem dX2_neighbourCount_13 : decode cX2_neighbourCount 13 = .ok (.invokevirtual 56, 3) := by decide +kernel
theorem dX2_neighbourCount_16 : decode cX2_neighbourCount 16 = .ok (.iconst (-1), 1) := by decide +kernel
theorem dX2_neighbourCount_17 : decode cX2_neighbourCount 17 = .ok (.if_icmp .eq 6, 3) := by decide +kernel
theorem dX2_neighbourCount_20 : decode cX2_neighbourCount 20 = .ok (.iinc 2 1, 3) := by decide +kernel
theorem dX2_neighbourCount_23 : decode cX2_neighbourCount 23 = .ok (.iinc 3 1, 3) := by decide +kernel
theorem dX2_neighbourCount_26 : decode cX2_neighbourCount 26 = .ok (.goto (-22), 3) := by decide +kernel
theorem dX2_neighbourCount_29 : decode cX2_neighbourCount 29 = .ok (.iload_n 2, 1) := by decide +kernel
theorem dX2_neighbourCount_30 : decode cX2_neighbourCount 30 = .ok (.ireturn, 1) := by decide +kernel
set_option maxRecDepth 20000 in
theorem ggX2_isRim_X2_neighbourCount : GoodIn wsX2_isRim wsX2_neighbourCount := goodIn_r _ [5, 6, 7, 8, 4, 9, 10, 11, 12, 13, 14, 15, 16, 17, 18, 19, 20, 21, 22, 23] (by decide +kernel) (by decide +kernel)
set_option maxRecDepth 20000 in
theorem gX2_isRim_X2_neighbourCount : GoodIn wsX2_isRim (wsV RX2 59 RX2 yX2_neighbourCount wsX2_neighbourCount) := goodIn_app (goodIn_of _ (by decide +kernel)) ggX2_isRim_X2_neighbourCount
theorem dX2_isRim_0 : decode cX2_isRim 0 = .ok (.aload_n 0, 1) := by decide +kernel
theorem dX2_isRim_1 : decode cX2_isRim 1 = .ok (.iload_n 1, 1) := by decide +kernel
theorem dX2_isRim_2 : decode cX2_isRim 2 = .ok (.invokevirtual 59, 3) := by decide +kernel
theorem dX2_isRim_5 : decode cX2_isRim 5 = .ok (.bipush 8, 2) := by decide +kernel
theorem dX2_isRim_7 : decode cX2_isRim 7 = .ok (.if_icmp .ge 7, 3) := by decide +kernel
theorem dX2_isRim_10 : decode cX2_isRim 10 = .ok (.iconst 1, 1) := by decide +kernel
theorem dX2_isRim_11 : decode cX2_isRim 11 = .ok (.goto 4, 3) := by decide +kernel
theorem dX2_isRim_14 : decode cX2_isRim 14 = .ok (.iconst 0, 1) := by decide +kernel
theorem dX2_isRim_15 : decode cX2_isRim 15 = .ok (.ireturn, 1) := by decide +kernel
set_option maxRecDepth 20000 in
theorem ggX2_isAbove_X2_unitsOf : GoodIn wsX2_isAbove wsX2_unitsOf := goodIn_r _ [5, 6, 7, 8, 9, 10, 11] (by decide +kernel) (by decide +kernel)
set_option maxRecDepth 20000 in
theorem gX2_isAbove_X2_unitsOf : GoodIn wsX2_isAbove (wsV RX2 63 RX2 yX2_unitsOf wsX2_unitsOf) := goodIn_app (goodIn_of _ (by decide +kernel)) ggX2_isAbove_X2_unitsOf
theorem dX2_isAbove_0 : decode cX2_isAbove 0 = .ok (.aload_n 0, 1) := by decide +kernel
theorem dX2_isAbove_1 : decode cX2_isAbove 1 = .ok (.iload_n 1, 1) := by decide +kernel
theorem dX2_isAbove_2 : decode cX2_isAbove 2 = .ok (.invokevirtual 63, 3) := by decide +kernel
theorem dX2_isAbove_5 : decode cX2_isAbove 5 = .ok (.istore_n 3, 1) := by decide +kernel
theorem dX2_isAbove_6 : decode cX2_isAbove 6 = .ok (.aload_n 0, 1) := by decide +kernel
theorem dX2_isAbove_7 : decode cX2_isAbove 7 = .ok (.iload_n 2, 1) := by decide +kernel
theorem dX2_isAbove_8 : decode cX2_isAbove 8 = .ok (.invokevirtual 63, 3) := by decide +kernel
theorem dX2_isAbove_11 : decode cX2_isAbove 11 = .ok (.istore 4, 2) := by decide +kernel
theorem dX2_isAbove_13 : decode cX2_isAbove 13 = .ok (.iload_n 3, 1) := by decide +kernel
theorem dX2_isAbove_14 : decode cX2_isAbove 14 = .ok (.iload 4, 2) := by decide +kernel
theorem dX2_isAbove_16 : decode cX2_isAbove 16 = .ok (.if_icmp .gt 14, 3) := by decide +kernel
theorem dX2_isAbove_19 : decode cX2_isAbove 19 = .ok (.iload_n 3, 1) := by decide +kernel
theorem dX2_isAbove_20 : decode cX2_isAbove 20 = .ok (.iload 4, 2) := by decide +kernel
theorem dX2_isAbove_22 : decode cX2_isAbove 22 = .ok (.if_icmp .ne 12, 3) := by decide +kernel
theorem dX2_isAbove_25 : decode cX2_isAbove 25 = .ok (.iload_n 1, 1) := by decide +kernel
theorem dX2_isAbove_26 : decode cX2_isAbove 26 = .ok (.iload_n 2, 1) := by decide +kernel
theorem dX2_isAbove_27 : decode cX2_isAbove 27 = .ok (.if_icmp .le 7, 3) := by decide +kernel
theorem dX2_isAbove_30 : decode cX2_isAbove 30 = .ok (.iconst 1, 1) := by decide +kernel
theorem dX2_isAbove_31 : decode cX2_isAbove 31 = .ok (.goto 4, 3) := by decide +kernel
theorem dX2_isAbove_34 : decode cX2_isAbove 34 = .ok (.iconst 0, 1) := by decide +kernel
theorem dX2_isAbove_35 : decode cX2_isAbove 35 = .ok (.ireturn, 1) := by decide +kernel
set_option maxRecDepth 20000 in
theorem ggX2_waysAbove_X2_neighbour : GoodIn wsX2_waysAbove wsX2_neighbour := goodIn_r _ [5, 6, 7, 8, 4, 9, 10, 11, 12, 13, 14, 15, 24, 25, 26, 27] (by decide +kernel) (by decide +kernel)
set_option maxRecDepth 20000 in
theorem gX2_waysAbove_X2_neighbour : GoodIn wsX2_waysAbove (wsV RX2 56 RX2 yX2_neighbour wsX2_neighbour) := goodIn_app (goodIn_of _ (by decide +kernel)) ggX2_waysAbove_X2_neighbour
set_option maxRecDepth 20000 in
theorem ggX2_waysAbove_X2_isAbove : GoodIn wsX2_waysAbove wsX2_isAbove := goodIn_r _ [19, 20, 21, 22, 4, 23, 15, 14, 24, 25, 26, 27] (by decide +kernel) (by decide +kernel)
set_option maxRecDepth 20000 in
theorem gX2_waysAbove_X2_isAbove : GoodIn wsX2_waysAbove (wsV RX2 66 RX2 yX2_isAbove wsX2_isAbove) := goodIn_app (goodIn_of _ (by decide +kernel)) ggX2_waysAbove_X2_isAbove
theorem dX2_waysAbove_0 : decode cX2_waysAbove 0 = .ok (.iconst 0, 1) := by decide +kernel
theorem dX2_waysAbove_1 : decode cX2_waysAbove 1 = .ok (.istore_n 2, 1) := by decide +kernel
theorem dX2_waysAbove_2 : decode cX2_waysAbove 2 = .ok (.iconst 0, 1) := by decide +kernel
theorem dX2_waysAbove_3 : decode cX2_waysAbove 3 = .ok (.istore_n 3, 1) := by decide +kernel
theorem dX2_waysAbove_4 : decode cX2_waysAbove 4 = .ok (.iload_n 3, 1) := by decide +kernel
theorem dX2_waysAbove_5 : decode cX2_waysAbove 5 = .ok (.bipush 8, 2) := by decide +kernel
theorem dX2_waysAbove_7 : decode cX2_waysAbove 7 = .ok (.if_icmp .ge 39, 3) := by decide +kernel
theorem dX2_waysAbove_10 : decode cX2_waysAbove 10 = .ok (.aload_n 0, 1) := by decide +kernel
theorem dX2_waysAbove_11 : decode cX2_waysAbove 11 = .ok (.iload_n 1, 1) := by decide +kernel
theorem dX2_waysAbove_12 : decode cX2_waysAbove 12 = .ok (.iload_n 3, 1) := by decide +kernel
theorem dX2_waysAbove_13 : decode cX2_waysAbove 13 = .ok (.invokevirtual 56, 3) := by decide +kernel
theorem dX2_waysAbove_16 : decode cX2_waysAbove 16 = .ok (.istore 4, 2) := by decide +kernel
theorem dX2_waysAbove_18 : decode cX2_waysAbove 18 = .ok (.iload 4, 2) := by decide +kernel
theorem dX2_waysAbove_20 : decode cX2_waysAbove 20 = .ok (.iconst (-1), 1) := by decide +kernel
theorem dX2_waysAbove_21 : decode cX2_waysAbove 21 = .ok (.if_icmp .eq 19, 3) := by decide +kernel
theorem dX2_waysAbove_24 : decode cX2_waysAbove 24 = .ok (.aload_n 0, 1) := by decide +kernel
theorem dX2_waysAbove_25 : decode cX2_waysAbove 25 = .ok (.iload 4, 2) := by decide +kernel
theorem dX2_waysAbove_27 : decode cX2_waysAbove 27 = .ok (.iload_n 1, 1) := by decide +kernel
theorem dX2_waysAbove_28 : decode cX2_waysAbove 28 = .ok (.invokevirtual 66, 3) := by decide +kernel
theorem dX2_waysAbove_31 : decode cX2_waysAbove 31 = .ok (.ifCond .eq 9, 3) := by decide +kernel
theorem dX2_waysAbove_34 : decode cX2_waysAbove 34 = .ok (.iload_n 2, 1) := by decide +kernel
theorem dX2_waysAbove_35 : decode cX2_waysAbove 35 = .ok (.iconst 1, 1) := by decide +kernel
theorem dX2_waysAbove_36 : decode cX2_waysAbove 36 = .ok (.iload_n 3, 1) := by decide +kernel
theorem dX2_waysAbove_37 : decode cX2_waysAbove 37 = .ok (.ishl, 1) := by decide +kernel
theorem dX2_waysAbove_38 : decode cX2_waysAbove 38 = .ok (.ior, 1) := by decide +kernel
theorem dX2_waysAbove_39 : decode cX2_waysAbove 39 = .ok (.istore_n 2, 1) := by decide +kernel
theorem dX2_waysAbove_40 : decode cX2_waysAbove 40 = .ok (.iinc 3 1, 3) := by decide +kernel
theorem dX2_waysAbove_43 : decode cX2_waysAbove 43 = .ok (.goto (-39), 3) := by decide +kernel
theorem dX2_waysAbove_46 : decode cX2_waysAbove 46 = .ok (.iload_n 2, 1) := by decide +kernel
theorem dX2_waysAbove_47 : decode cX2_waysAbove 47 = .ok (.ireturn, 1) := by decide +kernel
set_option maxRecDepth 20000 in
theorem ggX2_isPeak_X2_waysAbove : GoodIn wsX2_isPeak wsX2_waysAbove := goodIn_r _ [5, 6, 7, 8, 4, 9, 10, 11, 12, 13, 14, 15, 16, 17, 18, 19, 20, 21, 22, 23, 24, 25, 26, 27, 28, 29, 30, 31] (by decide +kernel) (by decide +kernel)
set_option maxRecDepth 20000 in
theorem gX2_isPeak_X2_waysAbove : GoodIn wsX2_isPeak (wsV RX2 70 RX2 yX2_waysAbove wsX2_waysAbove) := goodIn_app (goodIn_of _ (by decide +kernel)) ggX2_isPeak_X2_waysAbove
theorem dX2_isPeak_0 : decode cX2_isPeak 0 = .ok (.aload_n 0, 1) := by decide +kernel
theorem dX2_isPeak_1 : decode cX2_isPeak 1 = .ok (.iload_n 1, 1) := by decide +kernel
theorem dX2_isPeak_2 : decode cX2_isPeak 2 = .ok (.invokevirtual 70, 3) := by decide +kernel
theorem dX2_isPeak_5 : decode cX2_isPeak 5 = .ok (.ifCond .ne 7, 3) := by decide +kernel
theorem dX2_isPeak_8 : decode cX2_isPeak 8 = .ok (.iconst 1, 1) := by decide +kernel
theorem dX2_isPeak_9 : decode cX2_isPeak 9 = .ok (.goto 4, 3) := by decide +kernel
theorem dX2_isPeak_12 : decode cX2_isPeak 12 = .ok (.iconst 0, 1) := by decide +kernel
theorem dX2_isPeak_13 : decode cX2_isPeak 13 = .ok (.ireturn, 1) := by decide +kernel
set_option maxRecDepth 20000 in
theorem ggX2_kindOf_X2_isRim : GoodIn wsX2_kindOf wsX2_isRim := goodIn_r _ [5, 6, 7, 8, 4, 9, 10, 11, 12, 13, 14, 15, 16, 17, 18, 19, 20, 21, 22, 23, 43, 44, 45, 46] (by decide +kernel) (by decide +kernel)
set_option maxRecDepth 20000 in
theorem gX2_kindOf_X2_isRim : GoodIn wsX2_kindOf (wsV RX2 73 RX2 yX2_isRim wsX2_isRim) := goodIn_app (goodIn_of _ (by decide +kernel)) ggX2_kindOf_X2_isRim
set_option maxRecDepth 20000 in
theorem ggX2_kindOf_X2_waysAbove : GoodIn wsX2_kindOf wsX2_waysAbove := goodIn_r _ [27, 10, 11, 12, 4, 13, 14, 15, 16, 17, 18, 19, 20, 21, 22, 23, 28, 29, 30, 31, 32, 33, 34, 35, 43, 44, 45, 46] (by decide +kernel) (by decide +kernel)
set_option maxRecDepth 20000 in
theorem gX2_kindOf_X2_waysAbove : GoodIn wsX2_kindOf (wsV RX2 70 RX2 yX2_waysAbove wsX2_waysAbove) := goodIn_app (goodIn_of _ (by decide +kernel)) ggX2_kindOf_X2_waysAbove
set_option maxRecDepth 20000 in
theorem ggX2_kindOf_J6_bitCount_0f7a4 : GoodIn wsX2_kindOf wsJ6_bitCount_0f7a4 := goodIn_r _ [39, 40, 41, 42] (by decide +kernel) (by decide +kernel)
set_option maxRecDepth 20000 in
theorem gX2_kindOf_J6_bitCount_0f7a4 : GoodIn wsX2_kindOf (va_wsS RX2 76 yJ6_bitCount_0f7a4 wsJ6_bitCount_0f7a4) := goodIn_app (goodIn_of _ (by decide +kernel)) ggX2_kindOf_J6_bitCount_0f7a4
theorem dX2_kindOf_0 : decode cX2_kindOf 0 = .ok (.aload_n 0, 1) := by decide +kernel
theorem dX2_kindOf_1 : decode cX2_kindOf 1 = .ok (.iload_n 1, 1) := by decide +kernel
theorem dX2_kindOf_2 : decode cX2_kindOf 2 = .ok (.invokevirtual 73, 3) := by decide +kernel
theorem dX2_kindOf_5 : decode cX2_kindOf 5 = .ok (.ifCond .eq 5, 3) := by decide +kernel
theorem dX2_kindOf_8 : decode cX2_kindOf 8 = .ok (.iconst 0, 1) := by decide +kernel
theorem dX2_kindOf_9 : decode cX2_kindOf 9 = .ok (.ireturn, 1) := by decide +kernel
theorem dX2_kindOf_10 : decode cX2_kindOf 10 = .ok (.aload_n 0, 1) := by decide +kernel
theorem dX2_kindOf_11 : decode cX2_kindOf 11 = .ok (.iload_n 1, 1) := by decide +kernel
theorem dX2_kindOf_12 : decode cX2_kindOf 12 = .ok (.invokevirtual 70, 3) := by decide +kernel
theorem dX2_kindOf_15 : decode cX2_kindOf 15 = .ok (.istore_n 2, 1) := by decide +kernel
theorem dX2_kindOf_16 : decode cX2_kindOf 16 = .ok (.iload_n 2, 1) := by decide +kernel
theorem dX2_kindOf_17 : decode cX2_kindOf 17 = .ok (.ifCond .ne 5, 3) := by decide +kernel
theorem dX2_kindOf_20 : decode cX2_kindOf 20 = .ok (.iconst 1, 1) := by decide +kernel
theorem dX2_kindOf_21 : decode cX2_kindOf 21 = .ok (.ireturn, 1) := by decide +kernel
theorem dX2_kindOf_22 : decode cX2_kindOf 22 = .ok (.iload_n 2, 1) := by decide +kernel
theorem dX2_kindOf_23 : decode cX2_kindOf 23 = .ok (.sipush 255, 3) := by decide +kernel
theorem dX2_kindOf_26 : decode cX2_kindOf 26 = .ok (.if_icmp .ne 5, 3) := by decide +kernel
theorem dX2_kindOf_29 : decode cX2_kindOf 29 = .ok (.iconst 2, 1) := by decide +kernel
theorem dX2_kindOf_30 : decode cX2_kindOf 30 = .ok (.ireturn, 1) := by decide +kernel
theorem dX2_kindOf_31 : decode cX2_kindOf 31 = .ok (.iload_n 2, 1) := by decide +kernel
theorem dX2_kindOf_32 : decode cX2_kindOf 32 = .ok (.iconst 1, 1) := by decide +kernel
theorem dX2_kindOf_33 : decode cX2_kindOf 33 = .ok (.ishl, 1) := by decide +kernel
theorem dX2_kindOf_34 : decode cX2_kindOf 34 = .ok (.iload_n 2, 1) := by decide +kernel
theorem dX2_kindOf_35 : decode cX2_kindOf 35 = .ok (.bipush 7, 2) := by decide +kernel
theorem dX2_kindOf_37 : decode cX2_kindOf 37 = .ok (.ishr, 1) := by decide +kernel
theorem dX2_kindOf_38 : decode cX2_kindOf 38 = .ok (.ior, 1) := by decide +kernel
theorem dX2_kindOf_39 : decode cX2_kindOf 39 = .ok (.sipush 255, 3) := by decide +kernel
theorem dX2_kindOf_42 : decode cX2_kindOf 42 = .ok (.iand, 1) := by decide +kernel
theorem dX2_kindOf_43 : decode cX2_kindOf 43 = .ok (.istore_n 3, 1) := by decide +kernel
theorem dX2_kindOf_44 : decode cX2_kindOf 44 = .ok (.iload_n 2, 1) := by decide +kernel
theorem dX2_kindOf_45 : decode cX2_kindOf 45 = .ok (.iload_n 3, 1) := by decide +kernel
theorem dX2_kindOf_46 : decode cX2_kindOf 46 = .ok (.ixor, 1) := by decide +kernel
theorem dX2_kindOf_47 : decode cX2_kindOf 47 = .ok (.invokestatic 76, 3) := by decide +kernel
theorem dX2_kindOf_50 : decode cX2_kindOf 50 = .ok (.iconst 4, 1) := by decide +kernel
theorem dX2_kindOf_51 : decode cX2_kindOf 51 = .ok (.if_icmp .lt 7, 3) := by decide +kernel
theorem dX2_kindOf_54 : decode cX2_kindOf 54 = .ok (.iconst 3, 1) := by decide +kernel
theorem dX2_kindOf_55 : decode cX2_kindOf 55 = .ok (.goto 4, 3) := by decide +kernel
theorem dX2_kindOf_58 : decode cX2_kindOf 58 = .ok (.iconst 0, 1) := by decide +kernel
theorem dX2_kindOf_59 : decode cX2_kindOf 59 = .ok (.ireturn, 1) := by decide +kernel
set_option maxRecDepth 20000 in
theorem ggX2_isWhole_X2_isThere : GoodIn wsX2_isWhole wsX2_isThere := goodIn_r _ [5, 6, 7, 16, 17, 18, 19] (by decide +kernel) (by decide +kernel)
set_option maxRecDepth 20000 in
theorem gX2_isWhole_X2_isThere : GoodIn wsX2_isWhole (wsV RX2 42 RX2 yX2_isThere wsX2_isThere) := goodIn_app (goodIn_of _ (by decide +kernel)) ggX2_isWhole_X2_isThere
set_option maxRecDepth 20000 in
theorem ggX2_isWhole_X2_neighbour : GoodIn wsX2_isWhole wsX2_neighbour := goodIn_r _ [11, 12, 13, 14, 4, 15, 1, 2, 3, 5, 6, 7, 16, 17, 18, 19] (by decide +kernel) (by decide +kernel)
set_option maxRecDepth 20000 in
theorem gX2_isWhole_X2_neighbour : GoodIn wsX2_isWhole (wsV RX2 56 RX2 yX2_neighbour wsX2_neighbour) := goodIn_app (goodIn_of _ (by decide +kernel)) ggX2_isWhole_X2_neighbour
theorem dX2_isWhole_0 : decode cX2_isWhole 0 = .ok (.aload_n 0, 1) := by decide +kernel
theorem dX2_isWhole_1 : decode cX2_isWhole 1 = .ok (.iload_n 1, 1) := by decide +kernel
theorem dX2_isWhole_2 : decode cX2_isWhole 2 = .ok (.invokevirtual 42, 3) := by decide +kernel
theorem dX2_isWhole_5 : decode cX2_isWhole 5 = .ok (.ifCond .eq 37, 3) := by decide +kernel
theorem dX2_isWhole_8 : decode cX2_isWhole 8 = .ok (.aload_n 0, 1) := by decide +kernel
theorem dX2_isWhole_9 : decode cX2_isWhole 9 = .ok (.iload_n 1, 1) := by decide +kernel
theorem dX2_isWhole_10 : decode cX2_isWhole 10 = .ok (.iconst 3, 1) := by decide +kernel
theorem dX2_isWhole_11 : decode cX2_isWhole 11 = .ok (.invokevirtual 56, 3) := by decide +kernel
theorem dX2_isWhole_14 : decode cX2_isWhole 14 = .ok (.iconst (-1), 1) := by decide +kernel
theorem dX2_isWhole_15 : decode cX2_isWhole 15 = .ok (.if_icmp .eq 27, 3) := by decide +kernel
theorem dX2_isWhole_18 : decode cX2_isWhole 18 = .ok (.aload_n 0, 1) := by decide +kernel
theorem dX2_isWhole_19 : decode cX2_isWhole 19 = .ok (.iload_n 1, 1) := by decide +kernel
theorem dX2_isWhole_20 : decode cX2_isWhole 20 = .ok (.iconst 4, 1) := by decide +kernel
theorem dX2_isWhole_21 : decode cX2_isWhole 21 = .ok (.invokevirtual 56, 3) := by decide +kernel
theorem dX2_isWhole_24 : decode cX2_isWhole 24 = .ok (.iconst (-1), 1) := by decide +kernel
theorem dX2_isWhole_25 : decode cX2_isWhole 25 = .ok (.if_icmp .eq 17, 3) := by decide +kernel
theorem dX2_isWhole_28 : decode cX2_isWhole 28 = .ok (.aload_n 0, 1) := by decide +kernel
theorem dX2_isWhole_29 : decode cX2_isWhole 29 = .ok (.iload_n 1, 1) := by decide +kernel
theorem dX2_isWhole_30 : decode cX2_isWhole 30 = .ok (.iconst 5, 1) := by decide +kernel
theorem dX2_isWhole_31 : decode cX2_isWhole 31 = .ok (.invokevirtual 56, 3) := by decide +kernel
theorem dX2_isWhole_34 : decode cX2_isWhole 34 = .ok (.iconst (-1), 1) := by decide +kernel
theorem dX2_isWhole_35 : decode cX2_isWhole 35 = .ok (.if_icmp .eq 7, 3) := by decide +kernel
theorem dX2_isWhole_38 : decode cX2_isWhole 38 = .ok (.iconst 1, 1) := by decide +kernel
theorem dX2_isWhole_39 : decode cX2_isWhole 39 = .ok (.goto 4, 3) := by decide +kernel
theorem dX2_isWhole_42 : decode cX2_isWhole 42 = .ok (.iconst 0, 1) := by decide +kernel
theorem dX2_isWhole_43 : decode cX2_isWhole 43 = .ok (.ireturn, 1) := by decide +kernel
set_option maxRecDepth 20000 in
theorem ggX2_cellSum_X2_unitsOf : GoodIn wsX2_cellSum wsX2_unitsOf := goodIn_r _ [5, 6, 7, 8, 9, 10, 11] (by decide +kernel) (by decide +kernel)
set_option maxRecDepth 20000 in
theorem gX2_cellSum_X2_unitsOf : GoodIn wsX2_cellSum (wsV RX2 63 RX2 yX2_unitsOf wsX2_unitsOf) := goodIn_app (goodIn_of _ (by decide +kernel)) ggX2_cellSum_X2_unitsOf
theorem dX2_cellSum_0 : decode cX2_cellSum 0 = .ok (.aload_n 0, 1) := by decide +kernel
theorem dX2_cellSum_1 : decode cX2_cellSum 1 = .ok (.iload_n 1, 1) := by decide +kernel
theorem dX2_cellSum_2 : decode cX2_cellSum 2 = .ok (.invokevirtual 63, 3) := by decide +kernel
theorem dX2_cellSum_5 : decode cX2_cellSum 5 = .ok (.aload_n 0, 1) := by decide +kernel
theorem dX2_cellSum_6 : decode cX2_cellSum 6 = .ok (.iload_n 1, 1) := by decide +kernel
theorem dX2_cellSum_7 : decode cX2_cellSum 7 = .ok (.iconst 1, 1) := by decide +kernel
theorem dX2_cellSum_8 : decode cX2_cellSum 8 = .ok (.iadd, 1) := by decide +kernel
theorem dX2_cellSum_9 : decode cX2_cellSum 9 = .ok (.invokevirtual 63, 3) := by decide +kernel
theorem dX2_cellSum_12 : decode cX2_cellSum 12 = .ok (.iadd, 1) := by decide +kernel
theorem dX2_cellSum_13 : decode cX2_cellSum 13 = .ok (.aload_n 0, 1) := by decide +kernel
theorem dX2_cellSum_14 : decode cX2_cellSum 14 = .ok (.iload_n 1, 1) := by decide +kernel
theorem dX2_cellSum_15 : decode cX2_cellSum 15 = .ok (.bipush 40, 2) := by decide +kernel
theorem dX2_cellSum_17 : decode cX2_cellSum 17 = .ok (.iadd, 1) := by decide +kernel
theorem dX2_cellSum_18 : decode cX2_cellSum 18 = .ok (.invokevirtual 63, 3) := by decide +kernel
theorem dX2_cellSum_21 : decode cX2_cellSum 21 = .ok (.iadd, 1) := by decide +kernel
theorem dX2_cellSum_22 : decode cX2_cellSum 22 = .ok (.aload_n 0, 1) := by decide +kernel
theorem dX2_cellSum_23 : decode cX2_cellSum 23 = .ok (.iload_n 1, 1) := by decide +kernel
theorem dX2_cellSum_24 : decode cX2_cellSum 24 = .ok (.bipush 40, 2) := by decide +kernel
theorem dX2_cellSum_26 : decode cX2_cellSum 26 = .ok (.iadd, 1) := by decide +kernel
theorem dX2_cellSum_27 : decode cX2_cellSum 27 = .ok (.iconst 1, 1) := by decide +kernel
theorem dX2_cellSum_28 : decode cX2_cellSum 28 = .ok (.iadd, 1) := by decide +kernel
theorem dX2_cellSum_29 : decode cX2_cellSum 29 = .ok (.invokevirtual 63, 3) := by decide +kernel
theorem dX2_cellSum_32 : decode cX2_cellSum 32 = .ok (.iadd, 1) := by decide +kernel
theorem dX2_cellSum_33 : decode cX2_cellSum 33 = .ok (.ireturn, 1) := by decide +kernel
set_option maxRecDepth 20000 in
theorem ggX2_smoothed_X2_unitsOf : GoodIn wsX2_smoothed wsX2_unitsOf := goodIn_r _ [5, 6, 7, 31, 32, 33, 34] (by decide +kernel) (by decide +kernel)
set_option maxRecDepth 20000 in
theorem gX2_smoothed_X2_unitsOf : GoodIn wsX2_smoothed (wsV RX2 63 RX2 yX2_unitsOf wsX2_unitsOf) := goodIn_app (goodIn_of _ (by decide +kernel)) ggX2_smoothed_X2_unitsOf
set_option maxRecDepth 20000 in
theorem ggX2_smoothed_X2_neighbour : GoodIn wsX2_smoothed wsX2_neighbour := goodIn_r _ [11, 12, 13, 14, 4, 15, 16, 17, 18, 19, 7, 6, 31, 32, 33, 34] (by decide +kernel) (by decide +kernel)
set_option maxRecDepth 20000 in
theorem gX2_smoothed_X2_neighbour : GoodIn wsX2_smoothed (wsV RX2 56 RX2 yX2_neighbour wsX2_neighbour) := goodIn_app (goodIn_of _ (by decide +kernel)) ggX2_smoothed_X2_neighbour
set_option maxRecDepth 20000 in
theorem ggX2_smoothed_X2_nearestEven : GoodIn wsX2_smoothed wsX2_nearestEven := goodIn_r _ [22, 23, 24, 25, 26, 27, 28, 29, 30] (by decide +kernel) (by decide +kernel)
set_option maxRecDepth 20000 in
theorem gX2_smoothed_X2_nearestEven : GoodIn wsX2_smoothed (va_wsS RX2 81 yX2_nearestEven wsX2_nearestEven) := goodIn_app (goodIn_of _ (by decide +kernel)) ggX2_smoothed_X2_nearestEven
theorem dX2_smoothed_0 : decode cX2_smoothed 0 = .ok (.iload_n 2, 1) := by decide +kernel
theorem dX2_smoothed_1 : decode cX2_smoothed 1 = .ok (.i2l, 1) := by decide +kernel
theorem dX2_smoothed_2 : decode cX2_smoothed 2 = .ok (.aload_n 0, 1) := by decide +kernel
theorem dX2_smoothed_3 : decode cX2_smoothed 3 = .ok (.iload_n 1, 1) := by decide +kernel
theorem dX2_smoothed_4 : decode cX2_smoothed 4 = .ok (.invokevirtual 63, 3) := by decide +kernel
theorem dX2_smoothed_7 : decode cX2_smoothed 7 = .ok (.i2l, 1) := by decide +kernel
theorem dX2_smoothed_8 : decode cX2_smoothed 8 = .ok (.lmul, 1) := by decide +kernel
theorem dX2_smoothed_9 : decode cX2_smoothed 9 = .ok (.lstore_n 3, 1) := by decide +kernel
theorem dX2_smoothed_10 : decode cX2_smoothed 10 = .ok (.iload_n 2, 1) := by decide +kernel
theorem dX2_smoothed_11 : decode cX2_smoothed 11 = .ok (.istore 5, 2) := by decide +kernel
theorem dX2_smoothed_13 : decode cX2_smoothed 13 = .ok (.iconst 1, 1) := by decide +kernel
theorem dX2_smoothed_14 : decode cX2_smoothed 14 = .ok (.istore 6, 2) := by decide +kernel
theorem dX2_smoothed_16 : decode cX2_smoothed 16 = .ok (.iload 6, 2) := by decide +kernel
theorem dX2_smoothed_18 : decode cX2_smoothed 18 = .ok (.bipush 8, 2) := by decide +kernel
theorem dX2_smoothed_20 : decode cX2_smoothed 20 = .ok (.if_icmp .ge 37, 3) := by decide +kernel
theorem dX2_smoothed_23 : decode cX2_smoothed 23 = .ok (.aload_n 0, 1) := by decide +kernel
theorem dX2_smoothed_24 : decode cX2_smoothed 24 = .ok (.iload_n 1, 1) := by decide +kernel
