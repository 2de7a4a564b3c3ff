set_option maxRecDepth 20000 in
theorem ggX7_init_X1_init : GoodIn wsX7_init wsX1_init := goodIn_r _ [23, 24, 2, 3, 25, 102] rfl (by decide +kernel)
set_option maxRecDepth 20000 in
theorem gX7_init_X1_init_n9 : GoodIn wsX7_init (wsX1_init) := ggX7_init_X1_init
set_option maxRecDepth 20000 in
theorem ggX7_init_X4_init : GoodIn wsX7_init wsX4_init := goodIn_r _ [27, 28, 2, 3, 29, 30, 31, 32, 33, 109, 110, 111, 112] rfl (by decide +kernel)
set_option maxRecDepth 20000 in
theorem gX7_init_X4_init_n18 : GoodIn wsX7_init (wsX4_init) := ggX7_init_X4_init
set_option maxRecDepth 20000 in
theorem ggX7_init_X5_init : GoodIn wsX7_init wsX5_init := goodIn_r _ [36, 37, 2, 3, 38, 39, 113, 114] rfl (by decide +kernel)
set_option maxRecDepth 20000 in
theorem gX7_init_X5_init : GoodIn wsX7_init (wsX5_init) := ggX7_init_X5_init
set_option maxRecDepth 20000 in
theorem ggX7_init_X6_init : GoodIn wsX7_init wsX6_init := goodIn_r _ [42, 43, 2, 3, 44, 45, 46, 47, 48, 49, 50, 51, 52, 53, 54, 55, 56, 57, 58, 59, 60, 61, 62, 63, 64, 65, 66, 67, 68, 69, 70, 19, 71, 72, 73, 74, 75, 76, 77, 78, 79, 80, 81, 82, 83, 84, 85, 86, 87, 88, 89, 90, 91, 92, 93, 94, 95, 96, 97, 98, 99, 100, 101, 130, 131, 115, 116, 117, 118, 119, 120, 121, 122, 123, 124, 125, 126, 127, 128, 129, 132, 133] rfl (by decide +kernel)
set_option maxRecDepth 20000 in
theorem gX7_init_X6_init : GoodIn wsX7_init (wsX6_init) := ggX7_init_X6_init
theorem dX7_init_0 : decode cX7_init 0 = .ok (.aload_n 0, 1) := by decide +kernel
theorem dX7_init_1 : decode cX7_init 1 = .ok (.invokespecial 1, 3) := by decide +kernel
theorem dX7_init_4 : decode cX7_init 4 = .ok (.aload_n 0, 1) := by decide +kernel
theorem dX7_init_5 : decode cX7_init 5 = .ok (.new 7, 3) := by decide +kernel
theorem dX7_init_8 : decode cX7_init 8 = .ok (.dup, 1) := by decide +kernel
theorem dX7_init_9 : decode cX7_init 9 = .ok (.invokespecial 9, 3) := by decide +kernel
theorem dX7_init_12 : decode cX7_init 12 = .ok (.putfield 10, 3) := by decide +kernel
theorem dX7_init_15 : decode cX7_init 15 = .ok (.aload_n 0, 1) := by decide +kernel
theorem dX7_init_16 : decode cX7_init 16 = .ok (.new 16, 3) := by decide +kernel
theorem dX7_init_19 : decode cX7_init 19 = .ok (.dup, 1) := by decide +kernel
theorem dX7_init_20 : decode cX7_init 20 = .ok (.invokespecial 18, 3) := by decide +kernel
theorem dX7_init_23 : decode cX7_init 23 = .ok (.putfield 19, 3) := by decide +kernel
theorem dX7_init_26 : decode cX7_init 26 = .ok (.aload_n 0, 1) := by decide +kernel
theorem dX7_init_27 : decode cX7_init 27 = .ok (.new 23, 3) := by decide +kernel
theorem dX7_init_30 : decode cX7_init 30 = .ok (.dup, 1) := by decide +kernel
theorem dX7_init_31 : decode cX7_init 31 = .ok (.aload_n 0, 1) := by decide +kernel
theorem dX7_init_32 : decode cX7_init 32 = .ok (.getfield 10, 3) := by decide +kernel
theorem dX7_init_35 : decode cX7_init 35 = .ok (.aload_n 0, 1) := by decide +kernel
theorem dX7_init_36 : decode cX7_init 36 = .ok (.getfield 19, 3) := by decide +kernel
theorem dX7_init_39 : decode cX7_init 39 = .ok (.invokespecial 25, 3) := by decide +kernel
theorem dX7_init_42 : decode cX7_init 42 = .ok (.putfield 28, 3) := by decide +kernel
theorem dX7_init_45 : decode cX7_init 45 = .ok (.aload_n 0, 1) := by decide +kernel
theorem dX7_init_46 : decode cX7_init 46 = .ok (.bipush 7, 2) := by decide +kernel
theorem dX7_init_48 : decode cX7_init 48 = .ok (.anewarray 32, 3) := by decide +kernel
theorem dX7_init_51 : decode cX7_init 51 = .ok (.putfield 34, 3) := by decide +kernel
theorem dX7_init_54 : decode cX7_init 54 = .ok (.iconst 0, 1) := by decide +kernel
theorem dX7_init_55 : decode cX7_init 55 = .ok (.istore_n 1, 1) := by decide +kernel
theorem dX7_init_56 : decode cX7_init 56 = .ok (.iload_n 1, 1) := by decide +kernel
theorem dX7_init_57 : decode cX7_init 57 = .ok (.aload_n 0, 1) := by decide +kernel
theorem dX7_init_58 : decode cX7_init 58 = .ok (.getfield 34, 3) := by decide +kernel
theorem dX7_init_61 : decode cX7_init 61 = .ok (.arraylength, 1) := by decide +kernel
theorem dX7_init_62 : decode cX7_init 62 = .ok (.if_icmp .ge 23, 3) := by decide +kernel
theorem dX7_init_65 : decode cX7_init 65 = .ok (.aload_n 0, 1) := by decide +kernel
theorem dX7_init_66 : decode cX7_init 66 = .ok (.getfield 34, 3) := by decide +kernel
theorem dX7_init_69 : decode cX7_init 69 = .ok (.iload_n 1, 1) := by decide +kernel
theorem dX7_init_70 : decode cX7_init 70 = .ok (.new 32, 3) := by decide +kernel
theorem dX7_init_73 : decode cX7_init 73 = .ok (.dup, 1) := by decide +kernel
theorem dX7_init_74 : decode cX7_init 74 = .ok (.iload_n 1, 1) := by decide +kernel
theorem dX7_init_75 : decode cX7_init 75 = .ok (.invokespecial 38, 3) := by decide +kernel
theorem dX7_init_78 : decode cX7_init 78 = .ok (.aastore, 1) := by decide +kernel
theorem dX7_init_79 : decode cX7_init 79 = .ok (.iinc 1 1, 3) := by decide +kernel
theorem dX7_init_82 : decode cX7_init 82 = .ok (.goto (-26), 3) := by decide +kernel
theorem dX7_init_85 : decode cX7_init 85 = .ok (.aload_n 0, 1) := by decide +kernel
theorem dX7_init_86 : decode cX7_init 86 = .ok (.iconst 0, 1) := by decide +kernel
theorem dX7_init_87 : decode cX7_init 87 = .ok (.putfield 41, 3) := by decide +kernel
theorem dX7_init_90 : decode cX7_init 90 = .ok (.aload_n 0, 1) := by decide +kernel
theorem dX7_init_91 : decode cX7_init 91 = .ok (.iconst 0, 1) := by decide +kernel
theorem dX7_init_92 : decode cX7_init 92 = .ok (.putfield 45, 3) := by decide +kernel
theorem dX7_init_95 : decode cX7_init 95 = .ok (.return_, 1) := by decide +kernel
set_option maxRecDepth 20000 in
theorem ggX7_seats_X1_resize : GoodIn wsX7_seats wsX1_resize := goodIn_r _ [10, 11, 72] rfl (by decide +kernel)
set_option maxRecDepth 20000 in
theorem gX7_seats_X1_resize : GoodIn wsX7_seats (wsV RX7 49 RX1 yX1_resize wsX1_resize) := goodIn_app (goodIn_of _ (by decide +kernel)) ggX7_seats_X1_resize
set_option maxRecDepth 20000 in
theorem ggX7_seats_X4_clear : GoodIn wsX7_seats wsX4_clear := goodIn_r _ [16, 17, 18, 19, 73, 74, 75, 76] rfl (by decide +kernel)
set_option maxRecDepth 20000 in
theorem gX7_seats_X4_clear : GoodIn wsX7_seats (wsV RX7 52 RX4 yX4_clear wsX4_clear) := goodIn_app (goodIn_of _ (by decide +kernel)) ggX7_seats_X4_clear
set_option maxRecDepth 20000 in
theorem ggX7_seats_X6_clear : GoodIn wsX7_seats wsX6_clear := goodIn_r _ [24, 25, 26, 27, 28, 29, 30, 31, 32, 33, 34, 35, 36, 37, 38, 39, 40, 41, 42, 43, 23, 44, 45, 46, 47, 48, 49, 50, 51, 52, 53, 54, 55, 56, 57, 58, 59, 60, 61, 62, 63, 64, 65, 77, 78, 79, 80, 81, 82, 83, 84, 85, 86, 87, 88, 89, 90, 91, 92, 93, 94, 95] rfl (by decide +kernel)
set_option maxRecDepth 20000 in
theorem gX7_seats_X6_clear : GoodIn wsX7_seats (wsV RX7 55 RX6 yX6_clear wsX6_clear) := goodIn_app (goodIn_of _ (by decide +kernel)) ggX7_seats_X6_clear
theorem dX7_seats_0 : decode cX7_seats 0 = .ok (.iload_n 1, 1) := by decide +kernel
theorem dX7_seats_1 : decode cX7_seats 1 = .ok (.iconst 4, 1) := by decide +kernel
theorem dX7_seats_2 : decode cX7_seats 2 = .ok (.if_icmp .lt 9, 3) := by decide +kernel
theorem dX7_seats_5 : decode cX7_seats 5 = .ok (.iload_n 1, 1) := by decide +kernel
theorem dX7_seats_6 : decode cX7_seats 6 = .ok (.bipush 7, 2) := by decide +kernel
theorem dX7_seats_8 : decode cX7_seats 8 = .ok (.if_icmp .le 5, 3) := by decide +kernel
theorem dX7_seats_11 : decode cX7_seats 11 = .ok (.iconst (-1), 1) := by decide +kernel
theorem dX7_seats_12 : decode cX7_seats 12 = .ok (.ireturn, 1) := by decide +kernel
theorem dX7_seats_13 : decode cX7_seats 13 = .ok (.aload_n 0, 1) := by decide +kernel
theorem dX7_seats_14 : decode cX7_seats 14 = .ok (.getfield 45, 3) := by decide +kernel
theorem dX7_seats_17 : decode cX7_seats 17 = .ok (.bipush 20, 2) := by decide +kernel
theorem dX7_seats_19 : decode cX7_seats 19 = .ok (.if_icmp .lt 6, 3) := by decide +kernel
theorem dX7_seats_22 : decode cX7_seats 22 = .ok (.bipush (-3), 2) := by decide +kernel
theorem dX7_seats_24 : decode cX7_seats 24 = .ok (.ireturn, 1) := by decide +kernel
theorem dX7_seats_25 : decode cX7_seats 25 = .ok (.aload_n 0, 1) := by decide +kernel
theorem dX7_seats_26 : decode cX7_seats 26 = .ok (.dup, 1) := by decide +kernel
theorem dX7_seats_27 : decode cX7_seats 27 = .ok (.getfield 45, 3) := by decide +kernel
theorem dX7_seats_30 : decode cX7_seats 30 = .ok (.iconst 1, 1) := by decide +kernel
theorem dX7_seats_31 : decode cX7_seats 31 = .ok (.iadd, 1) := by decide +kernel
theorem dX7_seats_32 : decode cX7_seats 32 = .ok (.putfield 45, 3) := by decide +kernel
theorem dX7_seats_35 : decode cX7_seats 35 = .ok (.aload_n 0, 1) := by decide +kernel
theorem dX7_seats_36 : decode cX7_seats 36 = .ok (.iconst 0, 1) := by decide +kernel
theorem dX7_seats_37 : decode cX7_seats 37 = .ok (.putfield 41, 3) := by decide +kernel
theorem dX7_seats_40 : decode cX7_seats 40 = .ok (.aload_n 0, 1) := by decide +kernel
theorem dX7_seats_41 : decode cX7_seats 41 = .ok (.getfield 10, 3) := by decide +kernel
theorem dX7_seats_44 : decode cX7_seats 44 = .ok (.iload_n 1, 1) := by decide +kernel
theorem dX7_seats_45 : decode cX7_seats 45 = .ok (.invokevirtual 49, 3) := by decide +kernel
theorem dX7_seats_48 : decode cX7_seats 48 = .ok (.aload_n 0, 1) := by decide +kernel
theorem dX7_seats_49 : decode cX7_seats 49 = .ok (.getfield 19, 3) := by decide +kernel
theorem dX7_seats_52 : decode cX7_seats 52 = .ok (.invokevirtual 52, 3) := by decide +kernel
theorem dX7_seats_55 : decode cX7_seats 55 = .ok (.iconst 0, 1) := by decide +kernel
theorem dX7_seats_56 : decode cX7_seats 56 = .ok (.istore_n 2, 1) := by decide +kernel
theorem dX7_seats_57 : decode cX7_seats 57 = .ok (.iload_n 2, 1) := by decide +kernel
theorem dX7_seats_58 : decode cX7_seats 58 = .ok (.aload_n 0, 1) := by decide +kernel
theorem dX7_seats_59 : decode cX7_seats 59 = .ok (.getfield 34, 3) := by decide +kernel
theorem dX7_seats_62 : decode cX7_seats 62 = .ok (.arraylength, 1) := by decide +kernel
theorem dX7_seats_63 : decode cX7_seats 63 = .ok (.if_icmp .ge 27, 3) := by decide +kernel
theorem dX7_seats_66 : decode cX7_seats 66 = .ok (.aload_n 0, 1) := by decide +kernel
theorem dX7_seats_67 : decode cX7_seats 67 = .ok (.getfield 34, 3) := by decide +kernel
theorem dX7_seats_70 : decode cX7_seats 70 = .ok (.iload_n 2, 1) := by decide +kernel
theorem dX7_seats_71 : decode cX7_seats 71 = .ok (.aaload, 1) := by decide +kernel
theorem dX7_seats_72 : decode cX7_seats 72 = .ok (.ifnull 12, 3) := by decide +kernel
theorem dX7_seats_75 : decode cX7_seats 75 = .ok (.aload_n 0, 1) := by decide +kernel
theorem dX7_seats_76 : decode cX7_seats 76 = .ok (.getfield 34, 3) := by decide +kernel
theorem dX7_seats_79 : decode cX7_seats 79 = .ok (.iload_n 2, 1) := by decide +kernel
theorem dX7_seats_80 : decode cX7_seats 80 = .ok (.aaload, 1) := by decide +kernel
theorem dX7_seats_81 : decode cX7_seats 81 = .ok (.invokevirtual 55, 3) := by decide +kernel
theorem dX7_seats_84 : decode cX7_seats 84 = .ok (.iinc 2 1, 3) := by decide +kernel
theorem dX7_seats_87 : decode cX7_seats 87 = .ok (.goto (-30), 3) := by decide +kernel
theorem dX7_seats_90 : decode cX7_seats 90 = .ok (.iload_n 1, 1) := by decide +kernel
theorem dX7_seats_91 : decode cX7_seats 91 = .ok (.ireturn, 1) := by decide +kernel
set_option maxRecDepth 20000 in
theorem ggX7_falseSeat_X7_seated : GoodIn wsX7_falseSeat wsX7_seated := goodIn_r _ [7, 8, 9, 10, 11, 12, 13, 14, 15, 39, 40, 41, 42, 43, 44, 45] rfl (by decide +kernel)
set_option maxRecDepth 20000 in
theorem gX7_falseSeat_X7_seated : GoodIn wsX7_falseSeat (wsV RX7 56 RX7 yX7_seated wsX7_seated) := goodIn_app (goodIn_of _ (by decide +kernel)) ggX7_falseSeat_X7_seated
set_option maxRecDepth 20000 in
theorem ggX7_falseSeat_X7_falseOnes : GoodIn wsX7_falseSeat wsX7_falseOnes := goodIn_r _ [19, 8, 10, 11, 12, 13, 14, 15, 20, 21, 22, 6, 23, 1, 3, 4, 5, 7, 9, 39, 40, 41, 42, 43, 44, 45, 24, 25, 26, 27, 28, 29, 30, 31, 32, 33, 34, 35, 36, 37, 38] rfl (by decide +kernel)
set_option maxRecDepth 20000 in
theorem gX7_falseSeat_X7_falseOnes : GoodIn wsX7_falseSeat (wsV RX7 63 RX7 yX7_falseOnes wsX7_falseOnes) := goodIn_app (goodIn_of _ (by decide +kernel)) ggX7_falseSeat_X7_falseOnes
theorem dX7_falseSeat_0 : decode cX7_falseSeat 0 = .ok (.aload_n 0, 1) := by decide +kernel
theorem dX7_falseSeat_1 : decode cX7_falseSeat 1 = .ok (.iload_n 1, 1) := by decide +kernel
theorem dX7_falseSeat_2 : decode cX7_falseSeat 2 = .ok (.invokevirtual 56, 3) := by decide +kernel
theorem dX7_falseSeat_5 : decode cX7_falseSeat 5 = .ok (.astore_n 2, 1) := by decide +kernel
theorem dX7_falseSeat_6 : decode cX7_falseSeat 6 = .ok (.aload_n 2, 1) := by decide +kernel
theorem dX7_falseSeat_7 : decode cX7_falseSeat 7 = .ok (.ifnonnull 5, 3) := by decide +kernel
theorem dX7_falseSeat_10 : decode cX7_falseSeat 10 = .ok (.iconst (-1), 1) := by decide +kernel
theorem dX7_falseSeat_11 : decode cX7_falseSeat 11 = .ok (.ireturn, 1) := by decide +kernel
theorem dX7_falseSeat_12 : decode cX7_falseSeat 12 = .ok (.aload_n 2, 1) := by decide +kernel
theorem dX7_falseSeat_13 : decode cX7_falseSeat 13 = .ok (.getfield 60, 3) := by decide +kernel
theorem dX7_falseSeat_16 : decode cX7_falseSeat 16 = .ok (.ifCond .ne 10, 3) := by decide +kernel
theorem dX7_falseSeat_19 : decode cX7_falseSeat 19 = .ok (.aload_n 0, 1) := by decide +kernel
theorem dX7_falseSeat_20 : decode cX7_falseSeat 20 = .ok (.getfield 41, 3) := by decide +kernel
theorem dX7_falseSeat_23 : decode cX7_falseSeat 23 = .ok (.ifCond .eq 6, 3) := by decide +kernel
theorem dX7_falseSeat_26 : decode cX7_falseSeat 26 = .ok (.bipush (-2), 2) := by decide +kernel
theorem dX7_falseSeat_28 : decode cX7_falseSeat 28 = .ok (.ireturn, 1) := by decide +kernel
theorem dX7_falseSeat_29 : decode cX7_falseSeat 29 = .ok (.aload_n 2, 1) := by decide +kernel
theorem dX7_falseSeat_30 : decode cX7_falseSeat 30 = .ok (.iconst 1, 1) := by decide +kernel
theorem dX7_falseSeat_31 : decode cX7_falseSeat 31 = .ok (.putfield 60, 3) := by decide +kernel
theorem dX7_falseSeat_34 : decode cX7_falseSeat 34 = .ok (.aload_n 0, 1) := by decide +kernel
theorem dX7_falseSeat_35 : decode cX7_falseSeat 35 = .ok (.invokevirtual 63, 3) := by decide +kernel
theorem dX7_falseSeat_38 : decode cX7_falseSeat 38 = .ok (.ireturn, 1) := by decide +kernel
set_option maxRecDepth 20000 in
theorem ggX7_hold_X7_seated : GoodIn wsX7_hold wsX7_seated := goodIn_r _ [5, 6, 7, 8, 9, 10, 11, 12, 13, 21, 22, 23, 24, 25, 26, 27] rfl (by decide +kernel)
set_option maxRecDepth 20000 in
theorem gX7_hold_X7_seated : GoodIn wsX7_hold (wsV RX7 56 RX7 yX7_seated wsX7_seated) := goodIn_app (goodIn_of _ (by decide +kernel)) ggX7_hold_X7_seated
set_option maxRecDepth 20000 in
theorem ggX7_hold_X6_take : GoodIn wsX7_hold wsX6_take := goodIn_r _ [18, 19, 20, 28, 29, 30, 31, 32, 33, 34, 35, 36, 37, 38, 39, 40, 41, 42] rfl (by decide +kernel)
set_option maxRecDepth 20000 in
theorem gX7_hold_X6_take : GoodIn wsX7_hold (wsV RX7 67 RX6 yX6_take wsX6_take) := goodIn_app (goodIn_of _ (by decide +kernel)) ggX7_hold_X6_take
theorem dX7_hold_0 : decode cX7_hold 0 = .ok (.aload_n 0, 1) := by decide +kernel
theorem dX7_hold_1 : decode cX7_hold 1 = .ok (.iload_n 1, 1) := by decide +kernel
theorem dX7_hold_2 : decode cX7_hold 2 = .ok (.invokevirtual 56, 3) := by decide +kernel
theorem dX7_hold_5 : decode cX7_hold 5 = .ok (.astore_n 3, 1) := by decide +kernel
theorem dX7_hold_6 : decode cX7_hold 6 = .ok (.aload_n 3, 1) := by decide +kernel
theorem dX7_hold_7 : decode cX7_hold 7 = .ok (.ifnull 13, 3) := by decide +kernel
theorem dX7_hold_10 : decode cX7_hold 10 = .ok (.iload_n 2, 1) := by decide +kernel
theorem dX7_hold_11 : decode cX7_hold 11 = .ok (.ifCond .le 9, 3) := by decide +kernel
theorem dX7_hold_14 : decode cX7_hold 14 = .ok (.iload_n 2, 1) := by decide +kernel
theorem dX7_hold_15 : decode cX7_hold 15 = .ok (.bipush 100, 2) := by decide +kernel
theorem dX7_hold_17 : decode cX7_hold 17 = .ok (.if_icmp .lt 5, 3) := by decide +kernel
theorem dX7_hold_20 : decode cX7_hold 20 = .ok (.iconst (-1), 1) := by decide +kernel
theorem dX7_hold_21 : decode cX7_hold 21 = .ok (.ireturn, 1) := by decide +kernel
theorem dX7_hold_22 : decode cX7_hold 22 = .ok (.aload_n 3, 1) := by decide +kernel
theorem dX7_hold_23 : decode cX7_hold 23 = .ok (.iload_n 2, 1) := by decide +kernel
theorem dX7_hold_24 : decode cX7_hold 24 = .ok (.invokevirtual 67, 3) := by decide +kernel
theorem dX7_hold_27 : decode cX7_hold 27 = .ok (.ifCond .eq 7, 3) := by decide +kernel
theorem dX7_hold_30 : decode cX7_hold 30 = .ok (.iconst 1, 1) := by decide +kernel
theorem dX7_hold_31 : decode cX7_hold 31 = .ok (.goto 4, 3) := by decide +kernel
theorem dX7_hold_34 : decode cX7_hold 34 = .ok (.iconst 0, 1) := by decide +kernel
theorem dX7_hold_35 : decode cX7_hold 35 = .ok (.ireturn, 1) := by decide +kernel
set_option maxRecDepth 20000 in
theorem ggX7_begin_X1_size : GoodIn wsX7_begin wsX1_size := goodIn_r _ [9, 10, 253] rfl (by decide +kernel)
set_option maxRecDepth 20000 in
theorem gX7_begin_X1_size : GoodIn wsX7_begin (wsV RX7 71 RX1 yX1_size wsX1_size) := goodIn_app (goodIn_of _ (by decide +kernel)) ggX7_begin_X1_size
set_option maxRecDepth 20000 in
theorem ggX7_begin_X7_honest : GoodIn wsX7_begin wsX7_honest := goodIn_r _ [15, 16, 17, 18, 19, 14, 20, 2, 21, 5, 6, 7, 8, 9, 10, 254, 255, 256, 257, 258, 259, 260, 261, 262, 263, 264, 265, 266, 267, 268, 247, 248, 249, 250, 251, 252, 253] rfl (by decide +kernel)
set_option maxRecDepth 20000 in
theorem gX7_begin_X7_honest : GoodIn wsX7_begin (wsV RX7 74 RX7 yX7_honest wsX7_honest) := goodIn_app (goodIn_of _ (by decide +kernel)) ggX7_begin_X7_honest
set_option maxRecDepth 20000 in
theorem ggX7_begin_X5_start : GoodIn wsX7_begin wsX5_start := goodIn_r _ [26, 27, 28, 29, 30, 31, 32, 33, 34, 35, 36, 37, 38, 39, 40, 41, 42, 43, 44, 45, 46, 8, 47, 10, 48, 49, 50, 51, 52, 53, 54, 55, 56, 57, 58, 59, 60, 61, 62, 63, 64, 65, 66, 67, 68, 69, 70, 71, 72, 73, 74, 75, 76, 77, 78, 25, 79, 80, 81, 82, 83, 84, 85, 86, 87, 88, 89, 90, 91, 92, 93, 94, 95, 96, 97, 98, 99, 100, 101, 102, 14, 103, 104, 105, 106, 107, 108, 254, 255, 256, 257, 258, 259, 260, 261, 262, 263, 264, 265, 266, 267, 268, 269, 270, 271, 272, 253, 273, 274, 275, 276, 277, 278, 279, 280, 281, 282, 283, 284, 285, 286] rfl (by decide +kernel)
set_option maxRecDepth 20000 in
theorem gX7_begin_X5_start : GoodIn wsX7_begin (wsV RX7 77 RX5 yX5_start wsX5_start) := goodIn_app (goodIn_of _ (by decide +kernel)) ggX7_begin_X5_start
set_option maxRecDepth 20000 in
theorem ggX7_begin_X5_go : GoodIn wsX7_begin wsX5_go := goodIn_r _ [112, 113, 114, 115, 116, 37, 117, 57, 118, 119, 120, 25, 121, 122, 123, 124, 125, 126, 80, 29, 127, 128, 129, 130, 131, 85, 132, 87, 102, 14, 103, 133, 134, 135, 136, 30, 137, 28, 138, 139, 140, 141, 142, 93, 143, 144, 44, 45, 46, 8, 47, 10, 145, 71, 72, 73, 74, 75, 146, 147, 148, 149, 150, 151, 152, 98, 94, 101, 153, 154, 155, 156, 157, 158, 159, 160, 161, 162, 163, 164, 165, 166, 167, 168, 69, 169, 170, 171, 172, 173, 174, 175, 176, 177, 178, 179, 180, 52, 181, 182, 183, 61, 184, 63, 185, 186, 187, 188, 189, 190, 35, 36, 38, 39, 40, 41, 42, 43, 191, 23, 24, 26, 27, 31, 32, 33, 34, 48, 49, 50, 51, 53, 54, 55, 56, 58, 59, 60, 62, 64, 65, 66, 67, 68, 70, 76, 77, 78, 79, 81, 82, 83, 84, 86, 88, 89, 90, 91, 92, 95, 96, 97, 99, 100, 104, 105, 106, 107, 108, 192, 193, 194, 195, 196, 197, 198, 199, 200, 201, 202, 203, 204, 205, 206, 207, 208, 209, 210, 211, 212, 213, 214, 215, 216, 217, 218, 219, 220, 221, 222, 223, 224, 225, 226, 227, 228, 229, 230, 231, 232, 233, 234, 235, 236, 237, 238, 239, 240, 241, 242, 254, 255, 256, 257, 258, 259, 260, 261, 262, 263, 264, 265, 266, 267, 268, 279, 280, 281, 282, 283, 284, 285, 286, 269, 270, 275, 276, 277, 278, 253, 273, 274, 271, 272] rfl (by decide +kernel)
set_option maxRecDepth 20000 in
theorem gX7_begin_X5_go : GoodIn wsX7_begin (wsV RX7 81 RX5 yX5_go wsX5_go) := goodIn_app (goodIn_of _ (by decide +kernel)) ggX7_begin_X5_go
set_option maxRecDepth 20000 in
theorem ggX7_begin_X4_sent : GoodIn wsX7_begin wsX4_sent := goodIn_r _ [246, 89, 275, 276, 277, 278] rfl (by decide +kernel)
set_option maxRecDepth 20000 in
theorem gX7_begin_X4_sent : GoodIn wsX7_begin (wsV RX7 85 RX4 yX4_sent wsX4_sent) := goodIn_app (goodIn_of _ (by decide +kernel)) ggX7_begin_X4_sent
theorem dX7_begin_0 : decode cX7_begin 0 = .ok (.aload_n 0, 1) := by decide +kernel
theorem dX7_begin_1 : decode cX7_begin 1 = .ok (.getfield 41, 3) := by decide +kernel
theorem dX7_begin_4 : decode cX7_begin 4 = .ok (.ifCond .eq 6, 3) := by decide +kernel
theorem dX7_begin_7 : decode cX7_begin 7 = .ok (.bipush (-2), 2) := by decide +kernel
theorem dX7_begin_9 : decode cX7_begin 9 = .ok (.ireturn, 1) := by decide +kernel
theorem dX7_begin_10 : decode cX7_begin 10 = .ok (.aload_n 0, 1) := by decide +kernel
theorem dX7_begin_11 : decode cX7_begin 11 = .ok (.iconst 1, 1) := by decide +kernel
theorem dX7_begin_12 : decode cX7_begin 12 = .ok (.putfield 41, 3) := by decide +kernel
theorem dX7_begin_15 : decode cX7_begin 15 = .ok (.iconst 0, 1) := by decide +kernel
theorem dX7_begin_16 : decode cX7_begin 16 = .ok (.istore_n 1, 1) := by decide +kernel
theorem dX7_begin_17 : decode cX7_begin 17 = .ok (.iload_n 1, 1) := by decide +kernel
theorem dX7_begin_18 : decode cX7_begin 18 = .ok (.aload_n 0, 1) := by decide +kernel
theorem dX7_begin_19 : decode cX7_begin 19 = .ok (.getfield 10, 3) := by decide +kernel
theorem dX7_begin_22 : decode cX7_begin 22 = .ok (.invokevirtual 71, 3) := by decide +kernel
theorem dX7_begin_25 : decode cX7_begin 25 = .ok (.if_icmp .ge 36, 3) := by decide +kernel
theorem dX7_begin_28 : decode cX7_begin 28 = .ok (.aload_n 0, 1) := by decide +kernel
theorem dX7_begin_29 : decode cX7_begin 29 = .ok (.iload_n 1, 1) := by decide +kernel
theorem dX7_begin_30 : decode cX7_begin 30 = .ok (.invokevirtual 74, 3) := by decide +kernel
theorem dX7_begin_33 : decode cX7_begin 33 = .ok (.astore_n 2, 1) := by decide +kernel
theorem dX7_begin_34 : decode cX7_begin 34 = .ok (.aload_n 2, 1) := by decide +kernel
theorem dX7_begin_35 : decode cX7_begin 35 = .ok (.ifnull 20, 3) := by decide +kernel
theorem dX7_begin_38 : decode cX7_begin 38 = .ok (.aload_n 0, 1) := by decide +kernel
theorem dX7_begin_39 : decode cX7_begin 39 = .ok (.getfield 28, 3) := by decide +kernel
theorem dX7_begin_42 : decode cX7_begin 42 = .ok (.aload_n 2, 1) := by decide +kernel
theorem dX7_begin_43 : decode cX7_begin 43 = .ok (.iconst 0, 1) := by decide +kernel
theorem dX7_begin_44 : decode cX7_begin 44 = .ok (.invokevirtual 77, 3) := by decide +kernel
theorem dX7_begin_47 : decode cX7_begin 47 = .ok (.aload_n 0, 1) := by decide +kernel
theorem dX7_begin_48 : decode cX7_begin 48 = .ok (.getfield 28, 3) := by decide +kernel
theorem dX7_begin_51 : decode cX7_begin 51 = .ok (.aload_n 2, 1) := by decide +kernel
theorem dX7_begin_52 : decode cX7_begin 52 = .ok (.invokevirtual 81, 3) := by decide +kernel
theorem dX7_begin_55 : decode cX7_begin 55 = .ok (.iinc 1 1, 3) := by decide +kernel
theorem dX7_begin_58 : decode cX7_begin 58 = .ok (.goto (-41), 3) := by decide +kernel
theorem dX7_begin_61 : decode cX7_begin 61 = .ok (.aload_n 0, 1) := by decide +kernel
theorem dX7_begin_62 : decode cX7_begin 62 = .ok (.getfield 19, 3) := by decide +kernel
theorem dX7_begin_65 : decode cX7_begin 65 = .ok (.invokevirtual 85, 3) := by decide +kernel
theorem dX7_begin_68 : decode cX7_begin 68 = .ok (.ireturn, 1) := by decide +kernel
set_option maxRecDepth 20000 in
theorem ggX7_say_X7_seated : GoodIn wsX7_say wsX7_seated := goodIn_r _ [8, 9, 10, 11, 12, 13, 14, 15, 16, 71, 72, 73, 74, 75, 76, 77] rfl (by decide +kernel)
set_option maxRecDepth 20000 in
theorem gX7_say_X7_seated : GoodIn wsX7_say (wsV RX7 56 RX7 yX7_seated wsX7_seated) := goodIn_app (goodIn_of _ (by decide +kernel)) ggX7_say_X7_seated
set_option maxRecDepth 20000 in
theorem ggX7_say_X7_slot : GoodIn wsX7_say wsX7_slot := goodIn_r _ [19] rfl (by decide +kernel)
set_option maxRecDepth 20000 in
theorem gX7_say_X7_slot : GoodIn wsX7_say (va_wsS RX7 88 yX7_slot wsX7_slot) := goodIn_app (goodIn_of _ (by decide +kernel)) ggX7_say_X7_slot
set_option maxRecDepth 20000 in
theorem ggX7_say_X7_isSayable : GoodIn wsX7_say wsX7_isSayable := goodIn_r _ [22] rfl (by decide +kernel)
set_option maxRecDepth 20000 in
theorem gX7_say_X7_isSayable : GoodIn wsX7_say (va_wsS RX7 92 yX7_isSayable wsX7_isSayable) := goodIn_app (goodIn_of _ (by decide +kernel)) ggX7_say_X7_isSayable
set_option maxRecDepth 20000 in
theorem ggX7_say_X4_isFull : GoodIn wsX7_say wsX4_isFull := goodIn_r _ [27, 28, 29, 78, 79, 80, 81] rfl (by decide +kernel)
set_option maxRecDepth 20000 in
theorem gX7_say_X4_isFull : GoodIn wsX7_say (wsV RX7 96 RX4 yX4_isFull wsX4_isFull) := goodIn_app (goodIn_of _ (by decide +kernel)) ggX7_say_X4_isFull
set_option maxRecDepth 20000 in
theorem ggX7_say_X4_sent : GoodIn wsX7_say wsX4_sent := goodIn_r _ [33, 28, 78, 79, 80, 81] rfl (by decide +kernel)
set_option maxRecDepth 20000 in
theorem gX7_say_X4_sent : GoodIn wsX7_say (wsV RX7 85 RX4 yX4_sent wsX4_sent) := goodIn_app (goodIn_of _ (by decide +kernel)) ggX7_say_X4_sent
set_option maxRecDepth 20000 in
theorem ggX7_say_X4_send : GoodIn wsX7_say wsX4_send := goodIn_r _ [37, 38, 39, 28, 29, 40, 41, 42, 43, 44, 45, 46, 47, 48, 49, 50, 18, 7, 19, 51, 52, 53, 54, 55, 78, 79, 80, 81, 82, 83, 84, 85, 86, 87, 88, 89] rfl (by decide +kernel)
set_option maxRecDepth 20000 in
theorem gX7_say_X4_send : GoodIn wsX7_say (wsV RX7 100 RX4 yX4_send wsX4_send) := goodIn_app (goodIn_of _ (by decide +kernel)) ggX7_say_X4_send
theorem dX7_say_0 : decode cX7_say 0 = .ok (.aload_n 0, 1) := by decide +kernel
theorem dX7_say_1 : decode cX7_say 1 = .ok (.iload_n 1, 1) := by decide +kernel
theorem dX7_say_2 : decode cX7_say 2 = .ok (.invokevirtual 56, 3) := by decide +kernel
theorem dX7_say_5 : decode cX7_say 5 = .ok (.astore 7, 2) := by decide +kernel
theorem dX7_say_7 : decode cX7_say 7 = .ok (.aload 7, 2) := by decide +kernel
theorem dX7_say_9 : decode cX7_say 9 = .ok (.ifnull 24, 3) := by decide +kernel
theorem dX7_say_12 : decode cX7_say 12 = .ok (.iload_n 2, 1) := by decide +kernel
theorem dX7_say_13 : decode cX7_say 13 = .ok (.iload_n 3, 1) := by decide +kernel
theorem dX7_say_14 : decode cX7_say 14 = .ok (.iload 4, 2) := by decide +kernel
theorem dX7_say_16 : decode cX7_say 16 = .ok (.invokestatic 88, 3) := by decide +kernel
theorem dX7_say_19 : decode cX7_say 19 = .ok (.ifCond .lt 14, 3) := by decide +kernel
theorem dX7_say_22 : decode cX7_say 22 = .ok (.iload_n 2, 1) := by decide +kernel
theorem dX7_say_23 : decode cX7_say 23 = .ok (.iload 5, 2) := by decide +kernel
theorem dX7_say_25 : decode cX7_say 25 = .ok (.iload 6, 2) := by decide +kernel
theorem dX7_say_27 : decode cX7_say 27 = .ok (.invokestatic 92, 3) := by decide +kernel
theorem dX7_say_30 : decode cX7_say 30 = .ok (.ifCond .ne 5, 3) := by decide +kernel
theorem dX7_say_33 : decode cX7_say 33 = .ok (.iconst (-1), 1) := by decide +kernel
theorem dX7_say_34 : decode cX7_say 34 = .ok (.ireturn, 1) := by decide +kernel
theorem dX7_say_35 : decode cX7_say 35 = .ok (.aload 7, 2) := by decide +kernel
theorem dX7_say_37 : decode cX7_say 37 = .ok (.getfield 60, 3) := by decide +kernel
theorem dX7_say_40 : decode cX7_say 40 = .ok (.ifCond .eq 10, 3) := by decide +kernel
theorem dX7_say_43 : decode cX7_say 43 = .ok (.aload_n 0, 1) := by decide +kernel
theorem dX7_say_44 : decode cX7_say 44 = .ok (.getfield 41, 3) := by decide +kernel
theorem dX7_say_47 : decode cX7_say 47 = .ok (.ifCond .ne 6, 3) := by decide +kernel
theorem dX7_say_50 : decode cX7_say 50 = .ok (.bipush (-2), 2) := by decide +kernel
theorem dX7_say_52 : decode cX7_say 52 = .ok (.ireturn, 1) := by decide +kernel
theorem dX7_say_53 : decode cX7_say 53 = .ok (.aload_n 0, 1) := by decide +kernel
theorem dX7_say_54 : decode cX7_say 54 = .ok (.getfield 19, 3) := by decide +kernel
theorem dX7_say_57 : decode cX7_say 57 = .ok (.invokevirtual 96, 3) := by decide +kernel
theorem dX7_say_60 : decode cX7_say 60 = .ok (.ifCond .eq 6, 3) := by decide +kernel
theorem dX7_say_63 : decode cX7_say 63 = .ok (.bipush (-3), 2) := by decide +kernel
theorem dX7_say_65 : decode cX7_say 65 = .ok (.ireturn, 1) := by decide +kernel
theorem dX7_say_66 : decode cX7_say 66 = .ok (.aload_n 0, 1) := by decide +kernel
theorem dX7_say_67 : decode cX7_say 67 = .ok (.getfield 19, 3) := by decide +kernel
theorem dX7_say_70 : decode cX7_say 70 = .ok (.invokevirtual 85, 3) := by decide +kernel
theorem dX7_say_73 : decode cX7_say 73 = .ok (.istore 8, 2) := by decide +kernel
theorem dX7_say_75 : decode cX7_say 75 = .ok (.aload_n 0, 1) := by decide +kernel
theorem dX7_say_76 : decode cX7_say 76 = .ok (.getfield 19, 3) := by decide +kernel
theorem dX7_say_79 : decode cX7_say 79 = .ok (.iload_n 1, 1) := by decide +kernel
theorem dX7_say_80 : decode cX7_say 80 = .ok (.iload_n 2, 1) := by decide +kernel
theorem dX7_say_81 : decode cX7_say 81 = .ok (.iload_n 3, 1) := by decide +kernel
theorem dX7_say_82 : decode cX7_say 82 = .ok (.iload 4, 2) := by decide +kernel
theorem dX7_say_84 : decode cX7_say 84 = .ok (.iload 5, 2) := by decide +kernel
theorem dX7_say_86 : decode cX7_say 86 = .ok (.iload_n 2, 1) := by decide +kernel
theorem dX7_say_87 : decode cX7_say 87 = .ok (.ifCond .ne 8, 3) := by decide +kernel
theorem dX7_say_90 : decode cX7_say 90 = .ok (.iload 6, 2) := by decide +kernel
theorem dX7_say_92 : decode cX7_say 92 = .ok (.goto 4, 3) := by decide +kernel
theorem dX7_say_95 : decode cX7_say 95 = .ok (.iconst (-1), 1) := by decide +kernel
theorem dX7_say_96 : decode cX7_say 96 = .ok (.iconst 0, 1) := by decide +kernel
theorem dX7_say_97 : decode cX7_say 97 = .ok (.invokevirtual 100, 3) := by decide +kernel
theorem dX7_say_100 : decode cX7_say 100 = .ok (.iload 8, 2) := by decide +kernel
theorem dX7_say_102 : decode cX7_say 102 = .ok (.ireturn, 1) := by decide +kernel
set_option maxRecDepth 20000 in
theorem ggX7_come_X4_at : GoodIn wsX7_come wsX4_at := goodIn_r _ [8, 9, 10, 271, 272, 273, 274] rfl (by decide +kernel)
set_option maxRecDepth 20000 in
theorem gX7_come_X4_at : GoodIn wsX7_come (wsV RX7 104 RX4 yX4_at wsX4_at) := goodIn_app (goodIn_of _ (by decide +kernel)) ggX7_come_X4_at
set_option maxRecDepth 20000 in
theorem ggX7_come_X7_seated : GoodIn wsX7_come wsX7_seated := goodIn_r _ [15, 16, 17, 18, 19, 20, 21, 22, 23, 250, 251, 252, 253, 254, 255, 275] rfl (by decide +kernel)
set_option maxRecDepth 20000 in
theorem gX7_come_X7_seated : GoodIn wsX7_come (wsV RX7 56 RX7 yX7_seated wsX7_seated) := goodIn_app (goodIn_of _ (by decide +kernel)) ggX7_come_X7_seated
set_option maxRecDepth 20000 in
theorem ggX7_come_X2_cameTo : GoodIn wsX7_come wsX2_cameTo := goodIn_r _ [28, 29, 276, 277, 278, 279, 280, 281, 282, 283] rfl (by decide +kernel)
set_option maxRecDepth 20000 in
theorem gX7_come_X2_cameTo : GoodIn wsX7_come (wsV RX7 108 RX2 yX2_cameTo wsX2_cameTo) := goodIn_app (goodIn_of _ (by decide +kernel)) ggX7_come_X2_cameTo
set_option maxRecDepth 20000 in
theorem ggX7_come_X2_reach : GoodIn wsX7_come wsX2_reach := goodIn_r _ [33, 29, 276, 277, 278, 279, 280, 281, 282, 283] rfl (by decide +kernel)
set_option maxRecDepth 20000 in
theorem gX7_come_X2_reach : GoodIn wsX7_come (wsV RX7 113 RX2 yX2_reach wsX2_reach) := goodIn_app (goodIn_of _ (by decide +kernel)) ggX7_come_X2_reach
set_option maxRecDepth 20000 in
theorem ggX7_come_X5_go : GoodIn wsX7_come wsX5_go := goodIn_r _ [38, 39, 40, 41, 42, 43, 44, 45, 46, 47, 48, 37, 49, 50, 51, 52, 53, 54, 55, 56, 57, 58, 59, 60, 61, 7, 62, 63, 64, 14, 65, 66, 67, 68, 69, 70, 71, 72, 73, 74, 75, 25, 26, 27, 28, 29, 76, 77, 78, 21, 79, 23, 80, 81, 82, 83, 84, 85, 86, 87, 88, 89, 90, 91, 92, 93, 94, 95, 96, 97, 98, 99, 100, 101, 102, 103, 104, 105, 106, 107, 108, 109, 110, 111, 112, 113, 114, 115, 116, 117, 118, 119, 120, 121, 122, 123, 124, 125, 126, 127, 128, 129, 130, 131, 132, 133, 134, 135, 136, 137, 138, 139, 140, 141, 142, 143, 144, 145, 146, 147, 148, 149, 150, 151, 152, 153, 154, 155, 156, 157, 158, 159, 160, 161, 162, 163, 164, 165, 166, 167, 168, 169, 170, 171, 172, 173, 174, 175, 176, 177, 178, 179, 180, 181, 182, 9, 10, 183, 184, 185, 186, 187, 188, 189, 190, 191, 192, 193, 194, 195, 196, 197, 198, 199, 200, 201, 202, 203, 204, 205, 206, 207, 208, 209, 210, 211, 212, 213, 214, 215, 216, 217, 218, 219, 220, 221, 222, 223, 224, 225, 226, 227, 228, 229, 230, 231, 232, 233, 234, 235, 236, 237, 238, 239, 240, 241, 242, 243, 244, 245, 256, 257, 258, 259, 260, 261, 262, 263, 264, 265, 266, 267, 268, 269, 270, 276, 277, 278, 279, 280, 281, 282, 283, 284, 285, 271, 272, 273, 274, 275, 286, 287, 288, 289] rfl (by decide +kernel)
set_option maxRecDepth 20000 in
theorem gX7_come_X5_go : GoodIn wsX7_come (wsV RX7 81 RX5 yX5_go wsX5_go) := goodIn_app (goodIn_of _ (by decide +kernel)) ggX7_come_X5_go
set_option maxRecDepth 20000 in
theorem ggX7_come_X4_sent : GoodIn wsX7_come wsX4_sent := goodIn_r _ [249, 9, 271, 272, 273, 274] rfl (by decide +kernel)
set_option maxRecDepth 20000 in
theorem gX7_come_X4_sent : GoodIn wsX7_come (wsV RX7 85 RX4 yX4_sent wsX4_sent) := goodIn_app (goodIn_of _ (by decide +kernel)) ggX7_come_X4_sent
theorem dX7_come_0 : decode cX7_come 0 = .ok (.aload_n 0, 1) := by decide +kernel
theorem dX7_come_1 : decode cX7_come 1 = .ok (.getfield 19, 3) := by decide +kernel
theorem dX7_come_4 : decode cX7_come 4 = .ok (.iload_n 1, 1) := by decide +kernel
theorem dX7_come_5 : decode cX7_come 5 = .ok (.invokevirtual 104, 3) := by decide +kernel
theorem dX7_come_8 : decode cX7_come 8 = .ok (.astore_n 3, 1) := by decide +kernel
theorem dX7_come_9 : decode cX7_come 9 = .ok (.aload_n 0, 1) := by decide +kernel
theorem dX7_come_10 : decode cX7_come 10 = .ok (.iload_n 2, 1) := by decide +kernel
theorem dX7_come_11 : decode cX7_come 11 = .ok (.invokevirtual 56, 3) := by decide +kernel
theorem dX7_come_14 : decode cX7_come 14 = .ok (.astore 4, 2) := by decide +kernel
theorem dX7_come_16 : decode cX7_come 16 = .ok (.aload_n 3, 1) := by decide +kernel
theorem dX7_come_17 : decode cX7_come 17 = .ok (.ifnull 8, 3) := by decide +kernel
theorem dX7_come_20 : decode cX7_come 20 = .ok (.aload 4, 2) := by decide +kernel
theorem dX7_come_22 : decode cX7_come 22 = .ok (.ifnonnull 5, 3) := by decide +kernel
theorem dX7_come_25 : decode cX7_come 25 = .ok (.iconst (-1), 1) := by decide +kernel
theorem dX7_come_26 : decode cX7_come 26 = .ok (.ireturn, 1) := by decide +kernel
theorem dX7_come_27 : decode cX7_come 27 = .ok (.aload 4, 2) := by decide +kernel
theorem dX7_come_29 : decode cX7_come 29 = .ok (.getfield 60, 3) := by decide +kernel
theorem dX7_come_32 : decode cX7_come 32 = .ok (.ifCond .ne 11, 3) := by decide +kernel
theorem dX7_come_35 : decode cX7_come 35 = .ok (.aload_n 3, 1) := by decide +kernel
theorem dX7_come_36 : decode cX7_come 36 = .ok (.iload_n 2, 1) := by decide +kernel
theorem dX7_come_37 : decode cX7_come 37 = .ok (.invokevirtual 108, 3) := by decide +kernel
theorem dX7_come_40 : decode cX7_come 40 = .ok (.ifCond .eq 6, 3) := by decide +kernel
theorem dX7_come_43 : decode cX7_come 43 = .ok (.bipush (-2), 2) := by decide +kernel
theorem dX7_come_45 : decode cX7_come 45 = .ok (.ireturn, 1) := by decide +kernel
theorem dX7_come_46 : decode cX7_come 46 = .ok (.aload_n 3, 1) := by decide +kernel
theorem dX7_come_47 : decode cX7_come 47 = .ok (.iload_n 2, 1) := by decide +kernel
theorem dX7_come_48 : decode cX7_come 48 = .ok (.invokevirtual 113, 3) := by decide +kernel
theorem dX7_come_51 : decode cX7_come 51 = .ok (.aload_n 0, 1) := by decide +kernel
theorem dX7_come_52 : decode cX7_come 52 = .ok (.getfield 28, 3) := by decide +kernel
theorem dX7_come_55 : decode cX7_come 55 = .ok (.aload 4, 2) := by decide +kernel
theorem dX7_come_57 : decode cX7_come 57 = .ok (.invokevirtual 81, 3) := by decide +kernel
theorem dX7_come_60 : decode cX7_come 60 = .ok (.aload_n 0, 1) := by decide +kernel
theorem dX7_come_61 : decode cX7_come 61 = .ok (.getfield 19, 3) := by decide +kernel
theorem dX7_come_64 : decode cX7_come 64 = .ok (.invokevirtual 85, 3) := by decide +kernel
theorem dX7_come_67 : decode cX7_come 67 = .ok (.ireturn, 1) := by decide +kernel
set_option maxRecDepth 20000 in
theorem ggX7_end_X7_seated : GoodIn wsX7_end wsX7_seated := goodIn_r _ [7, 8, 9, 10, 11, 12, 13, 14, 15, 253, 254, 255, 256, 257, 258, 259] rfl (by decide +kernel)
set_option maxRecDepth 20000 in
theorem gX7_end_X7_seated : GoodIn wsX7_end (wsV RX7 56 RX7 yX7_seated wsX7_seated) := goodIn_app (goodIn_of _ (by decide +kernel)) ggX7_end_X7_seated
set_option maxRecDepth 20000 in
theorem ggX7_end_X6_isSet : GoodIn wsX7_end wsX6_isSet := goodIn_r _ [20, 21, 260, 261, 262, 263, 264, 265, 266, 267, 268, 269, 270, 271, 272, 273, 274] rfl (by decide +kernel)
set_option maxRecDepth 20000 in
theorem gX7_end_X6_isSet : GoodIn wsX7_end (wsV RX7 116 RX6 yX6_isSet wsX6_isSet) := goodIn_app (goodIn_of _ (by decide +kernel)) ggX7_end_X6_isSet
set_option maxRecDepth 20000 in
theorem ggX7_end_X5_ring : GoodIn wsX7_end wsX5_ring := goodIn_r _ [26, 27, 28, 29, 30, 31, 19, 32, 21, 33, 17, 18, 20, 34, 35, 36, 37, 38, 39, 40, 41, 42, 25, 43, 44, 45, 46, 47, 48, 49, 50, 51, 52, 53, 54, 55, 56, 57, 58, 59, 60, 61, 62, 63, 64, 65, 66, 67, 68, 69, 70, 71, 6, 72, 73, 74, 75, 76, 77, 78, 79, 80, 81, 82, 83, 84, 85, 86, 87, 88, 89, 90, 91, 92, 93, 94, 95, 96, 97, 13, 98, 15, 99, 100, 101, 102, 103, 104, 105, 106, 107, 108, 109, 110, 111, 112, 113, 114, 115, 116, 117, 118, 119, 120, 260, 261, 262, 263, 264, 265, 266, 267, 268, 269, 270, 271, 272, 273, 274, 275, 276, 277, 278, 279, 280, 281, 282, 283, 284, 285, 286, 287, 288, 289, 290, 259, 291, 292] rfl (by decide +kernel)
set_option maxRecDepth 20000 in
theorem gX7_end_X5_ring : GoodIn wsX7_end (wsV RX7 119 RX5 yX5_ring wsX5_ring) := goodIn_app (goodIn_of _ (by decide +kernel)) ggX7_end_X5_ring
set_option maxRecDepth 20000 in
theorem ggX7_end_X5_go : GoodIn wsX7_end wsX5_go := goodIn_r _ [124, 125, 126, 127, 128, 19, 129, 38, 130, 131, 132, 25, 133, 134, 135, 136, 137, 138, 48, 50, 139, 140, 141, 142, 143, 54, 144, 56, 71, 6, 72, 145, 146, 147, 148, 49, 149, 83, 150, 151, 152, 153, 154, 62, 155, 156, 95, 96, 97, 13, 98, 15, 157, 116, 117, 118, 119, 120, 158, 159, 160, 161, 162, 163, 164, 67, 63, 70, 165, 166, 167, 168, 169, 170, 171, 172, 173, 174, 175, 176, 177, 178, 179, 180, 114, 181, 182, 183, 184, 185, 186, 187, 188, 189, 190, 191, 192, 21, 193, 194, 195, 106, 196, 108, 197, 198, 199, 200, 201, 202, 88, 89, 90, 39, 91, 92, 93, 94, 78, 79, 80, 81, 82, 84, 85, 86, 87, 99, 100, 101, 102, 34, 35, 36, 37, 103, 104, 105, 107, 109, 110, 111, 112, 113, 115, 44, 45, 46, 47, 28, 51, 52, 53, 55, 57, 58, 59, 60, 61, 64, 65, 66, 68, 69, 73, 74, 75, 76, 77, 203, 204, 205, 206, 207, 208, 209, 210, 211, 212, 213, 214, 215, 216, 217, 218, 219, 27, 220, 221, 40, 41, 42, 43, 222, 223, 224, 225, 226, 227, 228, 229, 230, 231, 232, 233, 234, 235, 236, 237, 238, 239, 240, 241, 242, 243, 244, 245, 246, 247, 248, 260, 261, 262, 263, 264, 265, 266, 267, 268, 269, 270, 271, 272, 273, 274, 281, 282, 283, 284, 285, 286, 287, 288, 275, 276, 277, 278, 279, 280, 259, 291, 292, 289, 290] rfl (by decide +kernel)
set_option maxRecDepth 20000 in
theorem gX7_end_X5_go : GoodIn wsX7_end (wsV RX7 81 RX5 yX5_go wsX5_go) := goodIn_app (goodIn_of _ (by decide +kernel)) ggX7_end_X5_go
set_option maxRecDepth 20000 in
theorem ggX7_end_X4_sent : GoodIn wsX7_end wsX4_sent := goodIn_r _ [252, 58, 277, 278, 279, 280] rfl (by decide +kernel)
set_option maxRecDepth 20000 in
theorem gX7_end_X4_sent : GoodIn wsX7_end (wsV RX7 85 RX4 yX4_sent wsX4_sent) := goodIn_app (goodIn_of _ (by decide +kernel)) ggX7_end_X4_sent
theorem dX7_end_0 : decode cX7_end 0 = .ok (.aload_n 0, 1) := by decide +kernel
theorem dX7_end_1 : decode cX7_end 1 = .ok (.iload_n 1, 1) := by decide +kernel
theorem dX7_end_2 : decode cX7_end 2 = .ok (.invokevirtual 56, 3) := by decide +kernel
theorem dX7_end_5 : decode cX7_end 5 = .ok (.astore_n 3, 1) := by decide +kernel
theorem dX7_end_6 : decode cX7_end 6 = .ok (.aload_n 3, 1) := by decide +kernel
theorem dX7_end_7 : decode cX7_end 7 = .ok (.ifnull 12, 3) := by decide +kernel
theorem dX7_end_10 : decode cX7_end 10 = .ok (.iload_n 2, 1) := by decide +kernel
theorem dX7_end_11 : decode cX7_end 11 = .ok (.ifCond .lt 8, 3) := by decide +kernel
theorem dX7_end_14 : decode cX7_end 14 = .ok (.iload_n 2, 1) := by decide +kernel
theorem dX7_end_15 : decode cX7_end 15 = .ok (.iconst 3, 1) := by decide +kernel
theorem dX7_end_16 : decode cX7_end 16 = .ok (.if_icmp .lt 5, 3) := by decide +kernel
theorem dX7_end_19 : decode cX7_end 19 = .ok (.iconst (-1), 1) := by decide +kernel
theorem dX7_end_20 : decode cX7_end 20 = .ok (.ireturn, 1) := by decide +kernel
theorem dX7_end_21 : decode cX7_end 21 = .ok (.aload_n 3, 1) := by decide +kernel
theorem dX7_end_22 : decode cX7_end 22 = .ok (.iload_n 2, 1) := by decide +kernel
theorem dX7_end_23 : decode cX7_end 23 = .ok (.invokevirtual 116, 3) := by decide +kernel
theorem dX7_end_26 : decode cX7_end 26 = .ok (.ifCond .ne 6, 3) := by decide +kernel
theorem dX7_end_29 : decode cX7_end 29 = .ok (.bipush (-2), 2) := by decide +kernel
theorem dX7_end_31 : decode cX7_end 31 = .ok (.ireturn, 1) := by decide +kernel
theorem dX7_end_32 : decode cX7_end 32 = .ok (.aload_n 0, 1) := by decide +kernel
theorem dX7_end_33 : decode cX7_end 33 = .ok (.getfield 28, 3) := by decide +kernel
theorem dX7_end_36 : decode cX7_end 36 = .ok (.aload_n 3, 1) := by decide +kernel
theorem dX7_end_37 : decode cX7_end 37 = .ok (.iload_n 2, 1) := by decide +kernel
theorem dX7_end_38 : decode cX7_end 38 = .ok (.invokevirtual 119, 3) := by decide +kernel
theorem dX7_end_41 : decode cX7_end 41 = .ok (.aload_n 0, 1) := by decide +kernel
theorem dX7_end_42 : decode cX7_end 42 = .ok (.getfield 28, 3) := by decide +kernel
theorem dX7_end_45 : decode cX7_end 45 = .ok (.aload_n 3, 1) := by decide +kernel
theorem dX7_end_46 : decode cX7_end 46 = .ok (.invokevirtual 81, 3) := by decide +kernel
theorem dX7_end_49 : decode cX7_end 49 = .ok (.aload_n 0, 1) := by decide +kernel
theorem dX7_end_50 : decode cX7_end 50 = .ok (.getfield 19, 3) := by decide +kernel
theorem dX7_end_53 : decode cX7_end 53 = .ok (.invokevirtual 85, 3) := by decide +kernel
theorem dX7_end_56 : decode cX7_end 56 = .ok (.ireturn, 1) := by decide +kernel
set_option maxRecDepth 20000 in
theorem ggX7_fair_X7_bringAllLetters : GoodIn wsX7_fair wsX7_bringAllLetters := goodIn_r _ [6, 7, 8, 9, 10, 11, 12, 13, 14, 15, 16, 17, 18, 19, 20, 21, 22, 23, 24, 25, 26, 27, 28, 29, 5, 30, 31, 32, 33, 34, 35, 36, 37, 38, 39, 40, 41, 42, 43, 44, 45, 46, 47, 48, 49, 50, 51, 52, 53, 54, 55, 56, 57, 58, 59, 60, 61, 62, 63, 64, 65, 66, 67, 68, 69, 70, 71, 72, 73, 74, 75, 76, 77, 78, 79, 80, 81, 82, 83, 84, 85, 86, 87, 88, 89, 90, 91, 92, 93, 94, 95, 96, 97, 98, 99, 100, 101, 102, 103, 104, 105, 106, 107, 108, 109, 110, 111, 112, 113, 114, 115, 116, 117, 118, 119, 120, 121, 122, 123, 124, 125, 126, 127, 128, 129, 130, 131, 132, 133, 134, 135, 136, 137, 138, 139, 140, 141, 142, 143, 144, 145, 146, 147, 148, 149, 150, 151, 152, 153, 154, 155, 156, 157, 158, 159, 160, 161, 162, 163, 164, 165, 166, 167, 168, 169, 170, 171, 172, 173, 174, 175, 176, 177, 178, 179, 180, 181, 182, 183, 184, 185, 186, 187, 188, 189, 190, 191, 192, 193, 194, 195, 196, 197, 198, 199, 200, 201, 202, 203, 204, 205, 206, 207, 208, 209, 210, 211, 212, 213, 214, 215, 216, 217, 218, 219, 220, 221, 222, 223, 224, 225, 226, 227, 228, 229, 230, 231, 232, 233, 234, 235, 236, 237, 238, 239, 240, 241, 242, 243, 244, 245, 246, 247, 248, 249, 250, 251, 252, 253, 254, 255, 256, 257, 258, 276, 277, 278, 279, 280, 281, 282, 283, 284, 285, 286, 287, 288, 289, 290, 291, 292, 293, 294, 295, 296, 297, 298, 299, 300, 301, 302, 303, 304, 305, 306, 307, 308, 309, 310, 311, 312, 313, 314, 315] rfl (by decide +kernel)
set_option maxRecDepth 20000 in
theorem gX7_fair_X7_bringAllLetters : GoodIn wsX7_fair (wsV RX7 122 RX7 yX7_bringAllLetters wsX7_bringAllLetters) := goodIn_app (goodIn_of _ (by decide +kernel)) ggX7_fair_X7_bringAllLetters
set_option maxRecDepth 20000 in
theorem ggX7_fair_X7_ringAllTimers : GoodIn wsX7_fair wsX7_ringAllTimers := goodIn_r _ [262, 8, 9, 21, 22, 23, 24, 25, 26, 27, 28, 29, 5, 30, 31, 32, 33, 34, 35, 36, 263, 264, 265, 56, 266, 138, 267, 268, 269, 50, 270, 225, 190, 271, 272, 273, 274, 275, 172, 173, 174, 175, 58, 154, 228, 229, 230, 231, 186, 187, 188, 189, 68, 83, 69, 191, 192, 193, 13, 194, 76, 195, 15, 20, 196, 197, 40, 107, 198, 199, 200, 106, 201, 202, 108, 77, 78, 203, 204, 205, 206, 207, 159, 160, 161, 162, 163, 85, 164, 165, 166, 167, 151, 152, 153, 155, 156, 157, 158, 89, 90, 91, 92, 168, 169, 170, 171, 176, 177, 178, 142, 179, 144, 180, 181, 182, 183, 184, 125, 185, 94, 95, 96, 97, 98, 47, 48, 49, 51, 52, 53, 54, 55, 57, 59, 60, 61, 62, 63, 64, 65, 66, 67, 70, 71, 72, 73, 74, 75, 79, 80, 81, 82, 84, 86, 87, 88, 38, 39, 41, 42, 93, 99, 100, 101, 102, 103, 104, 105, 109, 110, 111, 112, 113, 114, 115, 116, 117, 118, 119, 120, 121, 122, 123, 124, 126, 127, 128, 129, 130, 131, 132, 133, 134, 135, 136, 137, 139, 140, 141, 143, 145, 146, 147, 148, 149, 150, 208, 209, 210, 211, 212, 213, 214, 215, 216, 217, 218, 219, 220, 221, 222, 223, 224, 226, 227, 232, 233, 234, 235, 236, 237, 238, 239, 240, 241, 242, 243, 244, 245, 246, 247, 248, 249, 250, 251, 252, 253, 254, 255, 256, 257, 258, 276, 277, 278, 279, 280, 281, 286, 287, 288, 289, 290, 291, 292, 293, 294, 295, 296, 297, 298, 299, 300, 301, 310, 311, 282, 283, 284, 285, 302, 303, 304, 305, 306, 307, 308, 309, 314, 315, 312, 313] rfl (by decide +kernel)
set_option maxRecDepth 20000 in
theorem gX7_fair_X7_ringAllTimers : GoodIn wsX7_fair (wsV RX7 125 RX7 yX7_ringAllTimers wsX7_ringAllTimers) := goodIn_app (goodIn_of _ (by decide +kernel)) ggX7_fair_X7_ringAllTimers
theorem dX7_fair_0 : decode cX7_fair 0 = .ok (.iload_n 1, 1) := by decide +kernel
theorem dX7_fair_1 : decode cX7_fair 1 = .ok (.iconst 1, 1) := by decide +kernel
theorem dX7_fair_2 : decode cX7_fair 2 = .ok (.if_icmp .lt 9, 3) := by decide +kernel
theorem dX7_fair_5 : decode cX7_fair 5 = .ok (.iload_n 1, 1) := by decide +kernel
theorem dX7_fair_6 : decode cX7_fair 6 = .ok (.bipush 30, 2) := by decide +kernel
theorem dX7_fair_8 : decode cX7_fair 8 = .ok (.if_icmp .le 5, 3) := by decide +kernel
theorem dX7_fair_11 : decode cX7_fair 11 = .ok (.iconst (-1), 1) := by decide +kernel
theorem dX7_fair_12 : decode cX7_fair 12 = .ok (.ireturn, 1) := by decide +kernel
theorem dX7_fair_13 : decode cX7_fair 13 = .ok (.aload_n 0, 1) := by decide +kernel
theorem dX7_fair_14 : decode cX7_fair 14 = .ok (.getfield 41, 3) := by decide +kernel
theorem dX7_fair_17 : decode cX7_fair 17 = .ok (.ifCond .ne 6, 3) := by decide +kernel
theorem dX7_fair_20 : decode cX7_fair 20 = .ok (.bipush (-2), 2) := by decide +kernel
theorem dX7_fair_22 : decode cX7_fair 22 = .ok (.ireturn, 1) := by decide +kernel
theorem dX7_fair_23 : decode cX7_fair 23 = .ok (.iconst 0, 1) := by decide +kernel
theorem dX7_fair_24 : decode cX7_fair 24 = .ok (.istore_n 2, 1) := by decide +kernel
theorem dX7_fair_25 : decode cX7_fair 25 = .ok (.iload_n 2, 1) := by decide +kernel
theorem dX7_fair_26 : decode cX7_fair 26 = .ok (.iload_n 1, 1) := by decide +kernel
theorem dX7_fair_27 : decode cX7_fair 27 = .ok (.if_icmp .ge 25, 3) := by decide +kernel
theorem dX7_fair_30 : decode cX7_fair 30 = .ok (.aload_n 0, 1) := by decide +kernel
theorem dX7_fair_31 : decode cX7_fair 31 = .ok (.invokevirtual 122, 3) := by decide +kernel
theorem dX7_fair_34 : decode cX7_fair 34 = .ok (.ifCond .ne 12, 3) := by decide +kernel
theorem dX7_fair_37 : decode cX7_fair 37 = .ok (.aload_n 0, 1) := by decide +kernel
theorem dX7_fair_38 : decode cX7_fair 38 = .ok (.invokevirtual 125, 3) := by decide +kernel
theorem dX7_fair_41 : decode cX7_fair 41 = .ok (.ifCond .ne 5, 3) := by decide +kernel
theorem dX7_fair_44 : decode cX7_fair 44 = .ok (.iload_n 2, 1) := by decide +kernel
theorem dX7_fair_45 : decode cX7_fair 45 = .ok (.ireturn, 1) := by decide +kernel
theorem dX7_fair_46 : decode cX7_fair 46 = .ok (.iinc 2 1, 3) := by decide +kernel
theorem dX7_fair_49 : decode cX7_fair 49 = .ok (.goto (-24), 3) := by decide +kernel
theorem dX7_fair_52 : decode cX7_fair 52 = .ok (.iload_n 1, 1) := by decide +kernel
theorem dX7_fair_53 : decode cX7_fair 53 = .ok (.ireturn, 1) := by decide +kernel
set_option maxRecDepth 20000 in
theorem ggX7_seat_X7_seated : GoodIn wsX7_seat wsX7_seated := goodIn_r _ [13, 14, 15, 16, 17, 18, 19, 20, 21, 60, 61, 62, 63, 64, 65, 66] rfl (by decide +kernel)
set_option maxRecDepth 20000 in
theorem gX7_seat_X7_seated : GoodIn wsX7_seat (wsV RX7 56 RX7 yX7_seated wsX7_seated) := goodIn_app (goodIn_of _ (by decide +kernel)) ggX7_seat_X7_seated
set_option maxRecDepth 20000 in
theorem ggX7_seat_X6_timerBits : GoodIn wsX7_seat wsX6_timerBits := goodIn_r _ [26, 27, 28, 29, 30, 25, 31, 43, 44, 45, 46, 47, 48, 49, 50, 51, 52, 53, 54, 55, 56, 57] rfl (by decide +kernel)
set_option maxRecDepth 20000 in
theorem gX7_seat_X6_timerBits : GoodIn wsX7_seat (wsV RX7 150 RX6 yX6_timerBits wsX6_timerBits) := goodIn_app (goodIn_of _ (by decide +kernel)) ggX7_seat_X6_timerBits
set_option maxRecDepth 20000 in
theorem ggX7_seat_X6_standing : GoodIn wsX7_seat wsX6_standing := goodIn_r _ [35, 36, 37, 38, 39, 40, 25, 41, 42, 43, 44, 45, 46, 47, 48, 49, 50, 51, 52, 53, 54, 55, 56, 57] rfl (by decide +kernel)
set_option maxRecDepth 20000 in
theorem gX7_seat_X6_standing : GoodIn wsX7_seat (wsV RX7 153 RX6 yX6_standing wsX6_standing) := goodIn_app (goodIn_of _ (by decide +kernel)) ggX7_seat_X6_standing
theorem dX7_seat_0 : decode cX7_seat 0 = .ok (.aload_n 0, 1) := by decide +kernel
theorem dX7_seat_1 : decode cX7_seat 1 = .ok (.iload_n 1, 1) := by decide +kernel
theorem dX7_seat_2 : decode cX7_seat 2 = .ok (.invokevirtual 56, 3) := by decide +kernel
theorem dX7_seat_5 : decode cX7_seat 5 = .ok (.astore_n 3, 1) := by decide +kernel
theorem dX7_seat_6 : decode cX7_seat 6 = .ok (.aload_n 3, 1) := by decide +kernel
theorem dX7_seat_7 : decode cX7_seat 7 = .ok (.ifnonnull 5, 3) := by decide +kernel
theorem dX7_seat_10 : decode cX7_seat 10 = .ok (.iconst (-1), 1) := by decide +kernel
theorem dX7_seat_11 : decode cX7_seat 11 = .ok (.ireturn, 1) := by decide +kernel
theorem dX7_seat_12 : decode cX7_seat 12 = .ok (.iload_n 2, 1) := by decide +kernel
theorem dX7_seat_13 : decode cX7_seat 13 = .ok (.tableswitch 117 0 9 #[55, 60, 65, 70, 78, 86, 94, 102, 107, 112], 55) := by decide +kernel
theorem dX7_seat_68 : decode cX7_seat 68 = .ok (.aload_n 3, 1) := by decide +kernel
theorem dX7_seat_69 : decode cX7_seat 69 = .ok (.getfield 128, 3) := by decide +kernel
theorem dX7_seat_72 : decode cX7_seat 72 = .ok (.ireturn, 1) := by decide +kernel
theorem dX7_seat_73 : decode cX7_seat 73 = .ok (.aload_n 3, 1) := by decide +kernel
theorem dX7_seat_74 : decode cX7_seat 74 = .ok (.getfield 131, 3) := by decide +kernel
theorem dX7_seat_77 : decode cX7_seat 77 = .ok (.ireturn, 1) := by decide +kernel
theorem dX7_seat_78 : decode cX7_seat 78 = .ok (.aload_n 3, 1) := by decide +kernel
theorem dX7_seat_79 : decode cX7_seat 79 = .ok (.getfield 134, 3) := by decide +kernel
theorem dX7_seat_82 : decode cX7_seat 82 = .ok (.ireturn, 1) := by decide +kernel
theorem dX7_seat_83 : decode cX7_seat 83 = .ok (.aload_n 3, 1) := by decide +kernel
theorem dX7_seat_84 : decode cX7_seat 84 = .ok (.getfield 137, 3) := by decide +kernel
theorem dX7_seat_87 : decode cX7_seat 87 = .ok (.getfield 141, 3) := by decide +kernel
theorem dX7_seat_90 : decode cX7_seat 90 = .ok (.ireturn, 1) := by decide +kernel
theorem dX7_seat_91 : decode cX7_seat 91 = .ok (.aload_n 3, 1) := by decide +kernel
theorem dX7_seat_92 : decode cX7_seat 92 = .ok (.getfield 137, 3) := by decide +kernel
theorem dX7_seat_95 : decode cX7_seat 95 = .ok (.getfield 146, 3) := by decide +kernel
theorem dX7_seat_98 : decode cX7_seat 98 = .ok (.ireturn, 1) := by decide +kernel
theorem dX7_seat_99 : decode cX7_seat 99 = .ok (.aload_n 3, 1) := by decide +kernel
theorem dX7_seat_100 : decode cX7_seat 100 = .ok (.getfield 147, 3) := by decide +kernel
theorem dX7_seat_103 : decode cX7_seat 103 = .ok (.getfield 141, 3) := by decide +kernel
theorem dX7_seat_106 : decode cX7_seat 106 = .ok (.ireturn, 1) := by decide +kernel
theorem dX7_seat_107 : decode cX7_seat 107 = .ok (.aload_n 3, 1) := by decide +kernel
theorem dX7_seat_108 : decode cX7_seat 108 = .ok (.getfield 147, 3) := by decide +kernel
theorem dX7_seat_111 : decode cX7_seat 111 = .ok (.getfield 146, 3) := by decide +kernel
theorem dX7_seat_114 : decode cX7_seat 114 = .ok (.ireturn, 1) := by decide +kernel
theorem dX7_seat_115 : decode cX7_seat 115 = .ok (.aload_n 3, 1) := by decide +kernel
theorem dX7_seat_116 : decode cX7_seat 116 = .ok (.invokevirtual 150, 3) := by decide +kernel
theorem dX7_seat_119 : decode cX7_seat 119 = .ok (.ireturn, 1) := by decide +kernel
theorem dX7_seat_120 : decode cX7_seat 120 = .ok (.aload_n 3, 1) := by decide +kernel
theorem dX7_seat_121 : decode cX7_seat 121 = .ok (.invokevirtual 153, 3) := by decide +kernel
theorem dX7_seat_124 : decode cX7_seat 124 = .ok (.ireturn, 1) := by decide +kernel
theorem dX7_seat_125 : decode cX7_seat 125 = .ok (.aload_n 3, 1) := by decide +kernel
theorem dX7_seat_126 : decode cX7_seat 126 = .ok (.getfield 156, 3) := by decide +kernel
theorem dX7_seat_129 : decode cX7_seat 129 = .ok (.ireturn, 1) := by decide +kernel
theorem dX7_seat_130 : decode cX7_seat 130 = .ok (.iconst (-1), 1) := by decide +kernel
theorem dX7_seat_131 : decode cX7_seat 131 = .ok (.ireturn, 1) := by decide +kernel
set_option maxRecDepth 20000 in
theorem ggX7_decided_X7_seated : GoodIn wsX7_decided wsX7_seated := goodIn_r _ [6, 7, 8, 9, 10, 11, 12, 13, 14, 49, 50, 51, 52, 53, 54, 55] rfl (by decide +kernel)
set_option maxRecDepth 20000 in
theorem gX7_decided_X7_seated : GoodIn wsX7_decided (wsV RX7 56 RX7 yX7_seated wsX7_seated) := goodIn_app (goodIn_of _ (by decide +kernel)) ggX7_decided_X7_seated
set_option maxRecDepth 20000 in
theorem ggX7_decided_X0_valueAt : GoodIn wsX7_decided wsX0_valueAt := goodIn_r _ [19, 20, 56, 57] rfl (by decide +kernel)
set_option maxRecDepth 20000 in
theorem gX7_decided_X0_valueAt : GoodIn wsX7_decided (wsV RX7 163 RX0 yX0_valueAt wsX0_valueAt) := goodIn_app (goodIn_of _ (by decide +kernel)) ggX7_decided_X0_valueAt
set_option maxRecDepth 20000 in
theorem ggX7_decided_X0_roundAt : GoodIn wsX7_decided wsX0_roundAt := goodIn_r _ [24, 25, 56, 57] rfl (by decide +kernel)
set_option maxRecDepth 20000 in
theorem gX7_decided_X0_roundAt : GoodIn wsX7_decided (wsV RX7 169 RX0 yX0_roundAt wsX0_roundAt) := goodIn_app (goodIn_of _ (by decide +kernel)) ggX7_decided_X0_roundAt
set_option maxRecDepth 20000 in
theorem ggX7_decided_X0_linkAt : GoodIn wsX7_decided wsX0_linkAt := goodIn_r _ [29, 30, 20, 31, 32, 33, 16, 17, 18, 19, 56, 57] rfl (by decide +kernel)
set_option maxRecDepth 20000 in
theorem gX7_decided_X0_linkAt : GoodIn wsX7_decided (wsV RX7 172 RX0 yX0_linkAt wsX0_linkAt) := goodIn_app (goodIn_of _ (by decide +kernel)) ggX7_decided_X0_linkAt
theorem dX7_decided_0 : decode cX7_decided 0 = .ok (.aload_n 0, 1) := by decide +kernel
theorem dX7_decided_1 : decode cX7_decided 1 = .ok (.iload_n 1, 1) := by decide +kernel
theorem dX7_decided_2 : decode cX7_decided 2 = .ok (.invokevirtual 56, 3) := by decide +kernel
theorem dX7_decided_5 : decode cX7_decided 5 = .ok (.astore 4, 2) := by decide +kernel
theorem dX7_decided_7 : decode cX7_decided 7 = .ok (.aload 4, 2) := by decide +kernel
theorem dX7_decided_9 : decode cX7_decided 9 = .ok (.ifnull 13, 3) := by decide +kernel
theorem dX7_decided_12 : decode cX7_decided 12 = .ok (.iload_n 2, 1) := by decide +kernel
theorem dX7_decided_13 : decode cX7_decided 13 = .ok (.ifCond .lt 9, 3) := by decide +kernel
theorem dX7_decided_16 : decode cX7_decided 16 = .ok (.iload_n 2, 1) := by decide +kernel
theorem dX7_decided_17 : decode cX7_decided 17 = .ok (.bipush 6, 2) := by decide +kernel
theorem dX7_decided_19 : decode cX7_decided 19 = .ok (.if_icmp .lt 5, 3) := by decide +kernel
theorem dX7_decided_22 : decode cX7_decided 22 = .ok (.iconst (-1), 1) := by decide +kernel
theorem dX7_decided_23 : decode cX7_decided 23 = .ok (.ireturn, 1) := by decide +kernel
theorem dX7_decided_24 : decode cX7_decided 24 = .ok (.iload_n 3, 1) := by decide +kernel
theorem dX7_decided_25 : decode cX7_decided 25 = .ok (.tableswitch 57 0 2 #[27, 37, 47], 27) := by decide +kernel
theorem dX7_decided_52 : decode cX7_decided 52 = .ok (.aload 4, 2) := by decide +kernel
theorem dX7_decided_54 : decode cX7_decided 54 = .ok (.getfield 159, 3) := by decide +kernel
theorem dX7_decided_57 : decode cX7_decided 57 = .ok (.iload_n 2, 1) := by decide +kernel
theorem dX7_decided_58 : decode cX7_decided 58 = .ok (.invokevirtual 163, 3) := by decide +kernel
theorem dX7_decided_61 : decode cX7_decided 61 = .ok (.ireturn, 1) := by decide +kernel
theorem dX7_decided_62 : decode cX7_decided 62 = .ok (.aload 4, 2) := by decide +kernel
theorem dX7_decided_64 : decode cX7_decided 64 = .ok (.getfield 159, 3) := by decide +kernel
theorem dX7_decided_67 : decode cX7_decided 67 = .ok (.iload_n 2, 1) := by decide +kernel
theorem dX7_decided_68 : decode cX7_decided 68 = .ok (.invokevirtual 169, 3) := by decide +kernel
theorem dX7_decided_71 : decode cX7_decided 71 = .ok (.ireturn, 1) := by decide +kernel
theorem dX7_decided_72 : decode cX7_decided 72 = .ok (.aload 4, 2) := by decide +kernel
theorem dX7_decided_74 : decode cX7_decided 74 = .ok (.getfield 159, 3) := by decide +kernel
theorem dX7_decided_77 : decode cX7_decided 77 = .ok (.iload_n 2, 1) := by decide +kernel
theorem dX7_decided_78 : decode cX7_decided 78 = .ok (.invokevirtual 172, 3) := by decide +kernel
theorem dX7_decided_81 : decode cX7_decided 81 = .ok (.ireturn, 1) := by decide +kernel
theorem dX7_decided_82 : decode cX7_decided 82 = .ok (.iconst (-1), 1) := by decide +kernel
theorem dX7_decided_83 : decode cX7_decided 83 = .ok (.ireturn, 1) := by decide +kernel
set_option maxRecDepth 20000 in
theorem ggX7_letter_X4_at : GoodIn wsX7_letter wsX4_at := goodIn_r _ [13, 14, 15, 37, 38, 39, 40] rfl (by decide +kernel)
set_option maxRecDepth 20000 in
theorem gX7_letter_X4_at : GoodIn wsX7_letter (wsV RX7 104 RX4 yX4_at wsX4_at) := goodIn_app (goodIn_of _ (by decide +kernel)) ggX7_letter_X4_at
set_option maxRecDepth 20000 in
theorem ggX7_letter_J6_bitCount_0f7a4 : GoodIn wsX7_letter wsJ6_bitCount_0f7a4 := goodIn_r _ [19, 20, 21, 22] rfl (by decide +kernel)
set_option maxRecDepth 20000 in
theorem gX7_letter_J6_bitCount_0f7a4 : GoodIn wsX7_letter (va_wsS RX7 190 yJ6_bitCount_0f7a4 wsJ6_bitCount_0f7a4) := goodIn_app (goodIn_of _ (by decide +kernel)) ggX7_letter_J6_bitCount_0f7a4
theorem dX7_letter_0 : decode cX7_letter 0 = .ok (.aload_n 0, 1) := by decide +kernel
theorem dX7_letter_1 : decode cX7_letter 1 = .ok (.getfield 19, 3) := by decide +kernel
theorem dX7_letter_4 : decode cX7_letter 4 = .ok (.iload_n 1, 1) := by decide +kernel
theorem dX7_letter_5 : decode cX7_letter 5 = .ok (.invokevirtual 104, 3) := by decide +kernel
theorem dX7_letter_8 : decode cX7_letter 8 = .ok (.astore_n 3, 1) := by decide +kernel
theorem dX7_letter_9 : decode cX7_letter 9 = .ok (.aload_n 3, 1) := by decide +kernel
theorem dX7_letter_10 : decode cX7_letter 10 = .ok (.ifnonnull 5, 3) := by decide +kernel
theorem dX7_letter_13 : decode cX7_letter 13 = .ok (.iconst (-1), 1) := by decide +kernel
theorem dX7_letter_14 : decode cX7_letter 14 = .ok (.ireturn, 1) := by decide +kernel
theorem dX7_letter_15 : decode cX7_letter 15 = .ok (.iload_n 2, 1) := by decide +kernel
theorem dX7_letter_16 : decode cX7_letter 16 = .ok (.tableswitch 82 0 6 #[44, 49, 54, 59, 64, 69, 74], 44) := by decide +kernel
theorem dX7_letter_60 : decode cX7_letter 60 = .ok (.aload_n 3, 1) := by decide +kernel
theorem dX7_letter_61 : decode cX7_letter 61 = .ok (.getfield 175, 3) := by decide +kernel
theorem dX7_letter_64 : decode cX7_letter 64 = .ok (.ireturn, 1) := by decide +kernel
theorem dX7_letter_65 : decode cX7_letter 65 = .ok (.aload_n 3, 1) := by decide +kernel
theorem dX7_letter_66 : decode cX7_letter 66 = .ok (.getfield 178, 3) := by decide +kernel
theorem dX7_letter_69 : decode cX7_letter 69 = .ok (.ireturn, 1) := by decide +kernel
theorem dX7_letter_70 : decode cX7_letter 70 = .ok (.aload_n 3, 1) := by decide +kernel
theorem dX7_letter_71 : decode cX7_letter 71 = .ok (.getfield 181, 3) := by decide +kernel
theorem dX7_letter_74 : decode cX7_letter 74 = .ok (.ireturn, 1) := by decide +kernel
theorem dX7_letter_75 : decode cX7_letter 75 = .ok (.aload_n 3, 1) := by decide +kernel
theorem dX7_letter_76 : decode cX7_letter 76 = .ok (.getfield 182, 3) := by decide +kernel
theorem dX7_letter_79 : decode cX7_letter 79 = .ok (.ireturn, 1) := by decide +kernel
theorem dX7_letter_80 : decode cX7_letter 80 = .ok (.aload_n 3, 1) := by decide +kernel
theorem dX7_letter_81 : decode cX7_letter 81 = .ok (.getfield 183, 3) := by decide +kernel
theorem dX7_letter_84 : decode cX7_letter 84 = .ok (.ireturn, 1) := by decide +kernel
theorem dX7_letter_85 : decode cX7_letter 85 = .ok (.aload_n 3, 1) := by decide +kernel
theorem dX7_letter_86 : decode cX7_letter 86 = .ok (.getfield 184, 3) := by decide +kernel
theorem dX7_letter_89 : decode cX7_letter 89 = .ok (.ireturn, 1) := by decide +kernel
theorem dX7_letter_90 : decode cX7_letter 90 = .ok (.aload_n 3, 1) := by decide +kernel
theorem dX7_letter_91 : decode cX7_letter 91 = .ok (.getfield 187, 3) := by decide +kernel
theorem dX7_letter_94 : decode cX7_letter 94 = .ok (.invokestatic 190, 3) := by decide +kernel
theorem dX7_letter_97 : decode cX7_letter 97 = .ok (.ireturn, 1) := by decide +kernel
theorem dX7_letter_98 : decode cX7_letter 98 = .ok (.iconst (-1), 1) := by decide +kernel
theorem dX7_letter_99 : decode cX7_letter 99 = .ok (.ireturn, 1) := by decide +kernel
set_option maxRecDepth 20000 in
theorem ggX7_votes_X7_seated : GoodIn wsX7_votes wsX7_seated := goodIn_r _ [6, 7, 8, 9, 10, 11, 12, 13, 14, 43, 44, 45, 46, 47, 48, 49] rfl (by decide +kernel)
set_option maxRecDepth 20000 in
theorem gX7_votes_X7_seated : GoodIn wsX7_votes (wsV RX7 56 RX7 yX7_seated wsX7_seated) := goodIn_app (goodIn_of _ (by decide +kernel)) ggX7_votes_X7_seated
set_option maxRecDepth 20000 in
theorem ggX7_votes_X7_slot : GoodIn wsX7_votes wsX7_slot := goodIn_r _ [17] rfl (by decide +kernel)
set_option maxRecDepth 20000 in
theorem gX7_votes_X7_slot : GoodIn wsX7_votes (va_wsS RX7 88 yX7_slot wsX7_slot) := goodIn_app (goodIn_of _ (by decide +kernel)) ggX7_votes_X7_slot
set_option maxRecDepth 20000 in
theorem ggX7_votes_X4_first : GoodIn wsX7_votes wsX4_first := goodIn_r _ [22, 23, 16, 5, 17, 50, 51, 52, 53] rfl (by decide +kernel)
set_option maxRecDepth 20000 in
theorem gX7_votes_X4_first : GoodIn wsX7_votes (wsV RX7 195 RX4 yX4_first wsX4_first) := goodIn_app (goodIn_of _ (by decide +kernel)) ggX7_votes_X4_first
set_option maxRecDepth 20000 in
theorem ggX7_votes_X4_voters : GoodIn wsX7_votes wsX4_voters := goodIn_r _ [26, 27, 28, 29, 30, 31, 32, 33, 34, 35, 36, 37, 38, 39, 40, 41, 42, 54, 55, 56, 57, 58, 59, 60, 61] rfl (by decide +kernel)
set_option maxRecDepth 20000 in
theorem gX7_votes_X4_voters : GoodIn wsX7_votes (va_wsS RX7 199 yX4_voters wsX4_voters) := goodIn_app (goodIn_of _ (by decide +kernel)) ggX7_votes_X4_voters
theorem dX7_votes_0 : decode cX7_votes 0 = .ok (.aload_n 0, 1) := by decide +kernel
theorem dX7_votes_1 : decode cX7_votes 1 = .ok (.iload_n 1, 1) := by decide +kernel
theorem dX7_votes_2 : decode cX7_votes 2 = .ok (.invokevirtual 56, 3) := by decide +kernel
theorem dX7_votes_5 : decode cX7_votes 5 = .ok (.ifnull 17, 3) := by decide +kernel
theorem dX7_votes_8 : decode cX7_votes 8 = .ok (.iload_n 2, 1) := by decide +kernel
theorem dX7_votes_9 : decode cX7_votes 9 = .ok (.ifCond .eq 13, 3) := by decide +kernel
theorem dX7_votes_12 : decode cX7_votes 12 = .ok (.iload_n 2, 1) := by decide +kernel
theorem dX7_votes_13 : decode cX7_votes 13 = .ok (.iload_n 3, 1) := by decide +kernel
theorem dX7_votes_14 : decode cX7_votes 14 = .ok (.iload 4, 2) := by decide +kernel
theorem dX7_votes_16 : decode cX7_votes 16 = .ok (.invokestatic 88, 3) := by decide +kernel
theorem dX7_votes_19 : decode cX7_votes 19 = .ok (.ifCond .ge 5, 3) := by decide +kernel
theorem dX7_votes_22 : decode cX7_votes 22 = .ok (.iconst (-1), 1) := by decide +kernel
theorem dX7_votes_23 : decode cX7_votes 23 = .ok (.ireturn, 1) := by decide +kernel
theorem dX7_votes_24 : decode cX7_votes 24 = .ok (.iload 5, 2) := by decide +kernel
theorem dX7_votes_26 : decode cX7_votes 26 = .ok (.bipush (-2), 2) := by decide +kernel
theorem dX7_votes_28 : decode cX7_votes 28 = .ok (.if_icmp .lt 10, 3) := by decide +kernel
theorem dX7_votes_31 : decode cX7_votes 31 = .ok (.iload 5, 2) := by decide +kernel
theorem dX7_votes_33 : decode cX7_votes 33 = .ok (.bipush 100, 2) := by decide +kernel
theorem dX7_votes_35 : decode cX7_votes 35 = .ok (.if_icmp .lt 5, 3) := by decide +kernel
theorem dX7_votes_38 : decode cX7_votes 38 = .ok (.iconst (-1), 1) := by decide +kernel
theorem dX7_votes_39 : decode cX7_votes 39 = .ok (.ireturn, 1) := by decide +kernel
theorem dX7_votes_40 : decode cX7_votes 40 = .ok (.aload_n 0, 1) := by decide +kernel
theorem dX7_votes_41 : decode cX7_votes 41 = .ok (.getfield 19, 3) := by decide +kernel
theorem dX7_votes_44 : decode cX7_votes 44 = .ok (.iload_n 2, 1) := by decide +kernel
theorem dX7_votes_45 : decode cX7_votes 45 = .ok (.iload_n 3, 1) := by decide +kernel
theorem dX7_votes_46 : decode cX7_votes 46 = .ok (.iload 4, 2) := by decide +kernel
theorem dX7_votes_48 : decode cX7_votes 48 = .ok (.invokevirtual 195, 3) := by decide +kernel
theorem dX7_votes_51 : decode cX7_votes 51 = .ok (.iload_n 1, 1) := by decide +kernel
theorem dX7_votes_52 : decode cX7_votes 52 = .ok (.iload 5, 2) := by decide +kernel
theorem dX7_votes_54 : decode cX7_votes 54 = .ok (.invokestatic 199, 3) := by decide +kernel
theorem dX7_votes_57 : decode cX7_votes 57 = .ok (.ireturn, 1) := by decide +kernel
set_option maxRecDepth 20000 in
theorem ggX7_shown_X7_seated : GoodIn wsX7_shown wsX7_seated := goodIn_r _ [6, 7, 8, 9, 10, 11, 12, 13, 14, 35, 36, 37, 38, 39, 40, 41] rfl (by decide +kernel)
set_option maxRecDepth 20000 in
theorem gX7_shown_X7_seated : GoodIn wsX7_shown (wsV RX7 56 RX7 yX7_seated wsX7_seated) := goodIn_app (goodIn_of _ (by decide +kernel)) ggX7_shown_X7_seated
set_option maxRecDepth 20000 in
theorem ggX7_shown_X4_shows : GoodIn wsX7_shown wsX4_shows := goodIn_r _ [19, 20, 21, 22, 23, 24, 25, 26, 27, 28, 29, 30, 31, 32, 33, 34, 42, 43, 44, 45, 46, 47, 48, 49, 50, 51, 52, 53] rfl (by decide +kernel)
set_option maxRecDepth 20000 in
theorem gX7_shown_X4_shows : GoodIn wsX7_shown (wsV RX7 203 RX4 yX4_shows wsX4_shows) := goodIn_app (goodIn_of _ (by decide +kernel)) ggX7_shown_X4_shows
theorem dX7_shown_0 : decode cX7_shown 0 = .ok (.aload_n 0, 1) := by decide +kernel
theorem dX7_shown_1 : decode cX7_shown 1 = .ok (.iload_n 1, 1) := by decide +kernel
theorem dX7_shown_2 : decode cX7_shown 2 = .ok (.invokevirtual 56, 3) := by decide +kernel
theorem dX7_shown_5 : decode cX7_shown 5 = .ok (.ifnull 11, 3) := by decide +kernel
theorem dX7_shown_8 : decode cX7_shown 8 = .ok (.aload_n 0, 1) := by decide +kernel
theorem dX7_shown_9 : decode cX7_shown 9 = .ok (.iload_n 2, 1) := by decide +kernel
theorem dX7_shown_10 : decode cX7_shown 10 = .ok (.invokevirtual 56, 3) := by decide +kernel
theorem dX7_shown_13 : decode cX7_shown 13 = .ok (.ifnonnull 5, 3) := by decide +kernel
theorem dX7_shown_16 : decode cX7_shown 16 = .ok (.iconst (-1), 1) := by decide +kernel
theorem dX7_shown_17 : decode cX7_shown 17 = .ok (.ireturn, 1) := by decide +kernel
theorem dX7_shown_18 : decode cX7_shown 18 = .ok (.aload_n 0, 1) := by decide +kernel
theorem dX7_shown_19 : decode cX7_shown 19 = .ok (.getfield 19, 3) := by decide +kernel
theorem dX7_shown_22 : decode cX7_shown 22 = .ok (.iload_n 1, 1) := by decide +kernel
theorem dX7_shown_23 : decode cX7_shown 23 = .ok (.iload_n 2, 1) := by decide +kernel
theorem dX7_shown_24 : decode cX7_shown 24 = .ok (.invokevirtual 203, 3) := by decide +kernel
theorem dX7_shown_27 : decode cX7_shown 27 = .ok (.ifCond .eq 7, 3) := by decide +kernel
theorem dX7_shown_30 : decode cX7_shown 30 = .ok (.iconst 1, 1) := by decide +kernel
theorem dX7_shown_31 : decode cX7_shown 31 = .ok (.goto 4, 3) := by decide +kernel
theorem dX7_shown_34 : decode cX7_shown 34 = .ok (.iconst 0, 1) := by decide +kernel
theorem dX7_shown_35 : decode cX7_shown 35 = .ok (.ireturn, 1) := by decide +kernel
set_option maxRecDepth 20000 in
theorem ggX7_count_X1_size : GoodIn wsX7_count wsX1_size := goodIn_r _ [8, 9, 91] rfl (by decide +kernel)
set_option maxRecDepth 20000 in
theorem gX7_count_X1_size : GoodIn wsX7_count (wsV RX7 71 RX1 yX1_size wsX1_size) := goodIn_app (goodIn_of _ (by decide +kernel)) ggX7_count_X1_size
set_option maxRecDepth 20000 in
theorem ggX7_count_X7_falseOnes : GoodIn wsX7_count wsX7_falseOnes := goodIn_r _ [14, 1, 4, 5, 6, 7, 8, 9, 15, 16, 17, 13, 18, 19, 20, 21, 22, 23, 24, 85, 86, 87, 88, 89, 90, 91, 92, 93, 94, 95, 96, 97, 98, 99, 100, 101, 102, 103, 104, 105, 106] rfl (by decide +kernel)
set_option maxRecDepth 20000 in
theorem gX7_count_X7_falseOnes : GoodIn wsX7_count (wsV RX7 63 RX7 yX7_falseOnes wsX7_falseOnes) := goodIn_app (goodIn_of _ (by decide +kernel)) ggX7_count_X7_falseOnes
set_option maxRecDepth 20000 in
theorem ggX7_count_X4_sent : GoodIn wsX7_count wsX4_sent := goodIn_r _ [29, 30, 107, 108, 109, 110] rfl (by decide +kernel)
set_option maxRecDepth 20000 in
theorem gX7_count_X4_sent : GoodIn wsX7_count (wsV RX7 85 RX4 yX4_sent wsX4_sent) := goodIn_app (goodIn_of _ (by decide +kernel)) ggX7_count_X4_sent
set_option maxRecDepth 20000 in
theorem ggX7_count_X7_stillToCome : GoodIn wsX7_count wsX7_stillToCome := goodIn_r _ [34, 2, 1, 25, 26, 27, 28, 29, 30, 35, 36, 37, 38, 39, 4, 5, 6, 7, 8, 9, 15, 16, 17, 13, 18, 19, 20, 21, 22, 23, 24, 40, 41, 42, 43, 44, 45, 85, 86, 87, 88, 89, 90, 107, 108, 109, 110, 91, 92, 93, 94, 95, 96, 97, 98, 99, 100, 101, 102, 103, 104, 105, 106, 111, 112, 113, 114, 115, 116, 117, 118] rfl (by decide +kernel)
set_option maxRecDepth 20000 in
theorem gX7_count_X7_stillToCome : GoodIn wsX7_count (wsV RX7 207 RX7 yX7_stillToCome wsX7_stillToCome) := goodIn_app (goodIn_of _ (by decide +kernel)) ggX7_count_X7_stillToCome
set_option maxRecDepth 20000 in
theorem ggX7_count_X7_leastHeight : GoodIn wsX7_count wsX7_leastHeight := goodIn_r _ [49, 1, 50, 51, 52, 53, 54, 55, 56, 57, 13, 58, 59, 60, 61, 4, 5, 6, 7, 8, 9, 15, 16, 17, 18, 19, 20, 21, 22, 23, 24, 85, 86, 87, 88, 89, 90, 92, 93, 94, 95, 96, 97, 98, 99, 100, 101, 102, 103, 104, 105, 106, 91] rfl (by decide +kernel)
set_option maxRecDepth 20000 in
theorem gX7_count_X7_leastHeight : GoodIn wsX7_count (wsV RX7 210 RX7 yX7_leastHeight wsX7_leastHeight) := goodIn_app (goodIn_of _ (by decide +kernel)) ggX7_count_X7_leastHeight
set_option maxRecDepth 20000 in
theorem ggX7_count_X7_greatestHeight : GoodIn wsX7_count wsX7_greatestHeight := goodIn_r _ [58, 1, 50, 59, 60, 53, 61, 4, 5, 6, 7, 8, 9, 15, 16, 17, 13, 18, 19, 20, 21, 22, 23, 24, 85, 86, 87, 88, 89, 90, 92, 93, 94, 95, 96, 97, 98, 99, 100, 101, 102, 103, 104, 105, 106, 91] rfl (by decide +kernel)
set_option maxRecDepth 20000 in
theorem gX7_count_X7_greatestHeight : GoodIn wsX7_count (wsV RX7 213 RX7 yX7_greatestHeight wsX7_greatestHeight) := goodIn_app (goodIn_of _ (by decide +kernel)) ggX7_count_X7_greatestHeight
set_option maxRecDepth 20000 in
theorem ggX7_count_X1_many : GoodIn wsX7_count wsX1_many := goodIn_r _ [65, 9, 91] rfl (by decide +kernel)
set_option maxRecDepth 20000 in
theorem gX7_count_X1_many : GoodIn wsX7_count (wsV RX7 216 RX1 yX1_many wsX1_many) := goodIn_app (goodIn_of _ (by decide +kernel)) ggX7_count_X1_many
set_option maxRecDepth 20000 in
theorem ggX7_count_X1_some : GoodIn wsX7_count wsX1_some := goodIn_r _ [69, 9, 91] rfl (by decide +kernel)
set_option maxRecDepth 20000 in
theorem gX7_count_X1_some : GoodIn wsX7_count (wsV RX7 219 RX1 yX1_some wsX1_some) := goodIn_app (goodIn_of _ (by decide +kernel)) ggX7_count_X1_some
set_option maxRecDepth 20000 in
theorem ggX7_count_X7_splitHeights : GoodIn wsX7_count wsX7_splitHeights := goodIn_r _ [73, 74, 75, 76, 13, 77, 1, 78, 4, 5, 6, 7, 8, 9, 15, 16, 17, 18, 19, 20, 21, 22, 23, 24, 79, 80, 81, 82, 83, 84, 85, 86, 87, 88, 89, 90, 92, 93, 94, 95, 96, 97, 98, 99, 100, 101, 102, 103, 104, 105, 106, 91, 119, 120] rfl (by decide +kernel)
set_option maxRecDepth 20000 in
theorem gX7_count_X7_splitHeights : GoodIn wsX7_count (wsV RX7 222 RX7 yX7_splitHeights wsX7_splitHeights) := goodIn_app (goodIn_of _ (by decide +kernel)) ggX7_count_X7_splitHeights
theorem dX7_count_0 : decode cX7_count 0 = .ok (.iload_n 1, 1) := by decide +kernel
theorem dX7_count_1 : decode cX7_count 1 = .ok (.tableswitch 125 0 9 #[55, 63, 68, 76, 81, 86, 91, 104, 112, 120], 55) := by decide +kernel
theorem dX7_count_56 : decode cX7_count 56 = .ok (.aload_n 0, 1) := by decide +kernel
theorem dX7_count_57 : decode cX7_count 57 = .ok (.getfield 10, 3) := by decide +kernel
theorem dX7_count_60 : decode cX7_count 60 = .ok (.invokevirtual 71, 3) := by decide +kernel
theorem dX7_count_63 : decode cX7_count 63 = .ok (.ireturn, 1) := by decide +kernel
theorem dX7_count_64 : decode cX7_count 64 = .ok (.aload_n 0, 1) := by decide +kernel
theorem dX7_count_65 : decode cX7_count 65 = .ok (.invokevirtual 63, 3) := by decide +kernel
theorem dX7_count_68 : decode cX7_count 68 = .ok (.ireturn, 1) := by decide +kernel
theorem dX7_count_69 : decode cX7_count 69 = .ok (.aload_n 0, 1) := by decide +kernel
theorem dX7_count_70 : decode cX7_count 70 = .ok (.getfield 19, 3) := by decide +kernel
theorem dX7_count_73 : decode cX7_count 73 = .ok (.invokevirtual 85, 3) := by decide +kernel
theorem dX7_count_76 : decode cX7_count 76 = .ok (.ireturn, 1) := by decide +kernel
theorem dX7_count_77 : decode cX7_count 77 = .ok (.aload_n 0, 1) := by decide +kernel
theorem dX7_count_78 : decode cX7_count 78 = .ok (.invokevirtual 207, 3) := by decide +kernel
theorem dX7_count_81 : decode cX7_count 81 = .ok (.ireturn, 1) := by decide +kernel
theorem dX7_count_82 : decode cX7_count 82 = .ok (.aload_n 0, 1) := by decide +kernel
theorem dX7_count_83 : decode cX7_count 83 = .ok (.invokevirtual 210, 3) := by decide +kernel
theorem dX7_count_86 : decode cX7_count 86 = .ok (.ireturn, 1) := by decide +kernel
theorem dX7_count_87 : decode cX7_count 87 = .ok (.aload_n 0, 1) := by decide +kernel
theorem dX7_count_88 : decode cX7_count 88 = .ok (.invokevirtual 213, 3) := by decide +kernel
theorem dX7_count_91 : decode cX7_count 91 = .ok (.ireturn, 1) := by decide +kernel
theorem dX7_count_92 : decode cX7_count 92 = .ok (.aload_n 0, 1) := by decide +kernel
theorem dX7_count_93 : decode cX7_count 93 = .ok (.getfield 41, 3) := by decide +kernel
theorem dX7_count_96 : decode cX7_count 96 = .ok (.ifCond .eq 7, 3) := by decide +kernel
theorem dX7_count_99 : decode cX7_count 99 = .ok (.iconst 1, 1) := by decide +kernel
theorem dX7_count_100 : decode cX7_count 100 = .ok (.goto 4, 3) := by decide +kernel
theorem dX7_count_103 : decode cX7_count 103 = .ok (.iconst 0, 1) := by decide +kernel
theorem dX7_count_104 : decode cX7_count 104 = .ok (.ireturn, 1) := by decide +kernel
theorem dX7_count_105 : decode cX7_count 105 = .ok (.aload_n 0, 1) := by decide +kernel
theorem dX7_count_106 : decode cX7_count 106 = .ok (.getfield 10, 3) := by decide +kernel
theorem dX7_count_109 : decode cX7_count 109 = .ok (.invokevirtual 216, 3) := by decide +kernel
theorem dX7_count_112 : decode cX7_count 112 = .ok (.ireturn, 1) := by decide +kernel
theorem dX7_count_113 : decode cX7_count 113 = .ok (.aload_n 0, 1) := by decide +kernel
theorem dX7_count_114 : decode cX7_count 114 = .ok (.getfield 10, 3) := by decide +kernel
theorem dX7_count_117 : decode cX7_count 117 = .ok (.invokevirtual 219, 3) := by decide +kernel
theorem dX7_count_120 : decode cX7_count 120 = .ok (.ireturn, 1) := by decide +kernel
theorem dX7_count_121 : decode cX7_count 121 = .ok (.aload_n 0, 1) := by decide +kernel
theorem dX7_count_122 : decode cX7_count 122 = .ok (.invokevirtual 222, 3) := by decide +kernel
theorem dX7_count_125 : decode cX7_count 125 = .ok (.ireturn, 1) := by decide +kernel
theorem dX7_count_126 : decode cX7_count 126 = .ok (.iconst (-1), 1) := by decide +kernel
theorem dX7_count_127 : decode cX7_count 127 = .ok (.ireturn, 1) := by decide +kernel
theorem dX7_slot_0 : decode cX7_slot 0 = .ok (.iload_n 0, 1) := by decide +kernel
theorem dX7_slot_1 : decode cX7_slot 1 = .ok (.ifCond .lt 28, 3) := by decide +kernel
theorem dX7_slot_4 : decode cX7_slot 4 = .ok (.iload_n 0, 1) := by decide +kernel
theorem dX7_slot_5 : decode cX7_slot 5 = .ok (.iconst 3, 1) := by decide +kernel
theorem dX7_slot_6 : decode cX7_slot 6 = .ok (.if_icmp .ge 23, 3) := by decide +kernel
theorem dX7_slot_9 : decode cX7_slot 9 = .ok (.iload_n 1, 1) := by decide +kernel
theorem dX7_slot_10 : decode cX7_slot 10 = .ok (.ifCond .lt 19, 3) := by decide +kernel
theorem dX7_slot_13 : decode cX7_slot 13 = .ok (.iload_n 1, 1) := by decide +kernel
theorem dX7_slot_14 : decode cX7_slot 14 = .ok (.bipush 6, 2) := by decide +kernel
theorem dX7_slot_16 : decode cX7_slot 16 = .ok (.if_icmp .ge 13, 3) := by decide +kernel
theorem dX7_slot_19 : decode cX7_slot 19 = .ok (.iload_n 2, 1) := by decide +kernel
theorem dX7_slot_20 : decode cX7_slot 20 = .ok (.ifCond .lt 9, 3) := by decide +kernel
theorem dX7_slot_23 : decode cX7_slot 23 = .ok (.iload_n 2, 1) := by decide +kernel
theorem dX7_slot_24 : decode cX7_slot 24 = .ok (.bipush 10, 2) := by decide +kernel
theorem dX7_slot_26 : decode cX7_slot 26 = .ok (.if_icmp .lt 5, 3) := by decide +kernel
theorem dX7_slot_29 : decode cX7_slot 29 = .ok (.iconst (-1), 1) := by decide +kernel
theorem dX7_slot_30 : decode cX7_slot 30 = .ok (.ireturn, 1) := by decide +kernel
theorem dX7_slot_31 : decode cX7_slot 31 = .ok (.iload_n 0, 1) := by decide +kernel
theorem dX7_slot_32 : decode cX7_slot 32 = .ok (.bipush 6, 2) := by decide +kernel
theorem dX7_slot_34 : decode cX7_slot 34 = .ok (.imul, 1) := by decide +kernel
theorem dX7_slot_35 : decode cX7_slot 35 = .ok (.iload_n 1, 1) := by decide +kernel
theorem dX7_slot_36 : decode cX7_slot 36 = .ok (.iadd, 1) := by decide +kernel
theorem dX7_slot_37 : decode cX7_slot 37 = .ok (.bipush 10, 2) := by decide +kernel
theorem dX7_slot_39 : decode cX7_slot 39 = .ok (.imul, 1) := by decide +kernel
theorem dX7_slot_40 : decode cX7_slot 40 = .ok (.iload_n 2, 1) := by decide +kernel
theorem dX7_slot_41 : decode cX7_slot 41 = .ok (.iadd, 1) := by decide +kernel
theorem dX7_slot_42 : decode cX7_slot 42 = .ok (.ireturn, 1) := by decide +kernel
theorem dX7_isSayable_0 : decode cX7_isSayable 0 = .ok (.iload_n 0, 1) := by decide +kernel
theorem dX7_isSayable_1 : decode cX7_isSayable 1 = .ok (.ifCond .ne 30, 3) := by decide +kernel
theorem dX7_isSayable_4 : decode cX7_isSayable 4 = .ok (.iload_n 1, 1) := by decide +kernel
theorem dX7_isSayable_5 : decode cX7_isSayable 5 = .ok (.ifCond .lt 24, 3) := by decide +kernel
theorem dX7_isSayable_8 : decode cX7_isSayable 8 = .ok (.iload_n 1, 1) := by decide +kernel
theorem dX7_isSayable_9 : decode cX7_isSayable 9 = .ok (.bipush 100, 2) := by decide +kernel
theorem dX7_isSayable_11 : decode cX7_isSayable 11 = .ok (.if_icmp .ge 18, 3) := by decide +kernel
theorem dX7_isSayable_14 : decode cX7_isSayable 14 = .ok (.iload_n 2, 1) := by decide +kernel
theorem dX7_isSayable_15 : decode cX7_isSayable 15 = .ok (.iconst (-1), 1) := by decide +kernel
theorem dX7_isSayable_16 : decode cX7_isSayable 16 = .ok (.if_icmp .lt 13, 3) := by decide +kernel
theorem dX7_isSayable_19 : decode cX7_isSayable 19 = .ok (.iload_n 2, 1) := by decide +kernel
theorem dX7_isSayable_20 : decode cX7_isSayable 20 = .ok (.bipush 10, 2) := by decide +kernel
theorem dX7_isSayable_22 : decode cX7_isSayable 22 = .ok (.if_icmp .ge 7, 3) := by decide +kernel
theorem dX7_isSayable_25 : decode cX7_isSayable 25 = .ok (.iconst 1, 1) := by decide +kernel
theorem dX7_isSayable_26 : decode cX7_isSayable 26 = .ok (.goto 4, 3) := by decide +kernel
theorem dX7_isSayable_29 : decode cX7_isSayable 29 = .ok (.iconst 0, 1) := by decide +kernel
theorem dX7_isSayable_30 : decode cX7_isSayable 30 = .ok (.ireturn, 1) := by decide +kernel
theorem dX7_isSayable_31 : decode cX7_isSayable 31 = .ok (.iload_n 1, 1) := by decide +kernel
theorem dX7_isSayable_32 : decode cX7_isSayable 32 = .ok (.iconst (-1), 1) := by decide +kernel
theorem dX7_isSayable_33 : decode cX7_isSayable 33 = .ok (.if_icmp .lt 13, 3) := by decide +kernel
theorem dX7_isSayable_36 : decode cX7_isSayable 36 = .ok (.iload_n 1, 1) := by decide +kernel
theorem dX7_isSayable_37 : decode cX7_isSayable 37 = .ok (.bipush 100, 2) := by decide +kernel
theorem dX7_isSayable_39 : decode cX7_isSayable 39 = .ok (.if_icmp .ge 7, 3) := by decide +kernel
theorem dX7_isSayable_42 : decode cX7_isSayable 42 = .ok (.iconst 1, 1) := by decide +kernel
theorem dX7_isSayable_43 : decode cX7_isSayable 43 = .ok (.goto 4, 3) := by decide +kernel
theorem dX7_isSayable_46 : decode cX7_isSayable 46 = .ok (.iconst 0, 1) := by decide +kernel
theorem dX7_isSayable_47 : decode cX7_isSayable 47 = .ok (.ireturn, 1) := by decide +kernel
set_option maxRecDepth 20000 in
theorem ggX7_seated_X1_size : GoodIn wsX7_seated wsX1_size := goodIn_r _ [7, 8, 15] rfl (by decide +kernel)
set_option maxRecDepth 20000 in
theorem gX7_seated_X1_size : GoodIn wsX7_seated (wsV RX7 71 RX1 yX1_size wsX1_size) := goodIn_app (goodIn_of _ (by decide +kernel)) ggX7_seated_X1_size
theorem dX7_seated_0 : decode cX7_seated 0 = .ok (.iload_n 1, 1) := by decide +kernel
theorem dX7_seated_1 : decode cX7_seated 1 = .ok (.ifCond .lt 32, 3) := by decide +kernel
theorem dX7_seated_4 : decode cX7_seated 4 = .ok (.iload_n 1, 1) := by decide +kernel
theorem dX7_seated_5 : decode cX7_seated 5 = .ok (.aload_n 0, 1) := by decide +kernel
theorem dX7_seated_6 : decode cX7_seated 6 = .ok (.getfield 10, 3) := by decide +kernel
theorem dX7_seated_9 : decode cX7_seated 9 = .ok (.invokevirtual 71, 3) := by decide +kernel
theorem dX7_seated_12 : decode cX7_seated 12 = .ok (.if_icmp .ge 21, 3) := by decide +kernel
theorem dX7_seated_15 : decode cX7_seated 15 = .ok (.iload_n 1, 1) := by decide +kernel
theorem dX7_seated_16 : decode cX7_seated 16 = .ok (.aload_n 0, 1) := by decide +kernel
theorem dX7_seated_17 : decode cX7_seated 17 = .ok (.getfield 34, 3) := by decide +kernel
theorem dX7_seated_20 : decode cX7_seated 20 = .ok (.arraylength, 1) := by decide +kernel
theorem dX7_seated_21 : decode cX7_seated 21 = .ok (.if_icmp .ge 12, 3) := by decide +kernel
theorem dX7_seated_24 : decode cX7_seated 24 = .ok (.aload_n 0, 1) := by decide +kernel
theorem dX7_seated_25 : decode cX7_seated 25 = .ok (.getfield 34, 3) := by decide +kernel
theorem dX7_seated_28 : decode cX7_seated 28 = .ok (.iload_n 1, 1) := by decide +kernel
theorem dX7_seated_29 : decode cX7_seated 29 = .ok (.aaload, 1) := by decide +kernel
theorem dX7_seated_30 : decode cX7_seated 30 = .ok (.goto 4, 3) := by decide +kernel
theorem dX7_seated_33 : decode cX7_seated 33 = .ok (.aconst_null, 1) := by decide +kernel
theorem dX7_seated_34 : decode cX7_seated 34 = .ok (.areturn, 1) := by decide +kernel
set_option maxRecDepth 20000 in
theorem ggX7_honest_X7_seated : GoodIn wsX7_honest wsX7_seated := goodIn_r _ [6, 7, 8, 9, 10, 11, 12, 13, 14, 30, 31, 32, 33, 34, 35, 36] rfl (by decide +kernel)
set_option maxRecDepth 20000 in
theorem gX7_honest_X7_seated : GoodIn wsX7_honest (wsV RX7 56 RX7 yX7_seated wsX7_seated) := goodIn_app (goodIn_of _ (by decide +kernel)) ggX7_honest_X7_seated
theorem dX7_honest_0 : decode cX7_honest 0 = .ok (.aload_n 0, 1) := by decide +kernel
theorem dX7_honest_1 : decode cX7_honest 1 = .ok (.iload_n 1, 1) := by decide +kernel
theorem dX7_honest_2 : decode cX7_honest 2 = .ok (.invokevirtual 56, 3) := by decide +kernel
theorem dX7_honest_5 : decode cX7_honest 5 = .ok (.astore_n 2, 1) := by decide +kernel
theorem dX7_honest_6 : decode cX7_honest 6 = .ok (.aload_n 2, 1) := by decide +kernel
theorem dX7_honest_7 : decode cX7_honest 7 = .ok (.ifnull 10, 3) := by decide +kernel
theorem dX7_honest_10 : decode cX7_honest 10 = .ok (.aload_n 2, 1) := by decide +kernel
theorem dX7_honest_11 : decode cX7_honest 11 = .ok (.getfield 60, 3) := by decide +kernel
theorem dX7_honest_14 : decode cX7_honest 14 = .ok (.ifCond .eq 7, 3) := by decide +kernel
theorem dX7_honest_17 : decode cX7_honest 17 = .ok (.aconst_null, 1) := by decide +kernel
theorem dX7_honest_18 : decode cX7_honest 18 = .ok (.goto 4, 3) := by decide +kernel
theorem dX7_honest_21 : decode cX7_honest 21 = .ok (.aload_n 2, 1) := by decide +kernel
theorem dX7_honest_22 : decode cX7_honest 22 = .ok (.areturn, 1) := by decide +kernel
set_option maxRecDepth 20000 in
theorem ggX7_bringAllLetters_X4_sent : GoodIn wsX7_bringAllLetters wsX4_sent := goodIn_r _ [8, 9, 260, 261, 262, 263] rfl (by decide +kernel)
set_option maxRecDepth 20000 in
theorem gX7_bringAllLetters_X4_sent : GoodIn wsX7_bringAllLetters (wsV RX7 85 RX4 yX4_sent wsX4_sent) := goodIn_app (goodIn_of _ (by decide +kernel)) ggX7_bringAllLetters_X4_sent
set_option maxRecDepth 20000 in
theorem ggX7_bringAllLetters_X4_at : GoodIn wsX7_bringAllLetters wsX4_at := goodIn_r _ [13, 9, 14, 260, 261, 262, 263] rfl (by decide +kernel)
set_option maxRecDepth 20000 in
theorem gX7_bringAllLetters_X4_at : GoodIn wsX7_bringAllLetters (wsV RX7 104 RX4 yX4_at wsX4_at) := goodIn_app (goodIn_of _ (by decide +kernel)) ggX7_bringAllLetters_X4_at
set_option maxRecDepth 20000 in
theorem ggX7_bringAllLetters_X1_size : GoodIn wsX7_bringAllLetters wsX1_size := goodIn_r _ [19, 20, 264] rfl (by decide +kernel)
set_option maxRecDepth 20000 in
theorem gX7_bringAllLetters_X1_size : GoodIn wsX7_bringAllLetters (wsV RX7 71 RX1 yX1_size wsX1_size) := goodIn_app (goodIn_of _ (by decide +kernel)) ggX7_bringAllLetters_X1_size
set_option maxRecDepth 20000 in
theorem ggX7_bringAllLetters_X7_honest : GoodIn wsX7_bringAllLetters wsX7_honest := goodIn_r _ [25, 26, 27, 28, 29, 24, 30, 2, 31, 15, 16, 17, 18, 19, 20, 265, 266, 267, 268, 269, 270, 271, 272, 273, 274, 275, 276, 277, 278, 279, 254, 255, 256, 257, 258, 259, 264] rfl (by decide +kernel)
set_option maxRecDepth 20000 in
theorem gX7_bringAllLetters_X7_honest : GoodIn wsX7_bringAllLetters (wsV RX7 74 RX7 yX7_honest wsX7_honest) := goodIn_app (goodIn_of _ (by decide +kernel)) ggX7_bringAllLetters_X7_honest
set_option maxRecDepth 20000 in
theorem ggX7_bringAllLetters_X2_cameTo : GoodIn wsX7_bringAllLetters wsX2_cameTo := goodIn_r _ [36, 37, 280, 281, 282, 283, 284, 285, 286, 287] rfl (by decide +kernel)
set_option maxRecDepth 20000 in
theorem gX7_bringAllLetters_X2_cameTo : GoodIn wsX7_bringAllLetters (wsV RX7 108 RX2 yX2_cameTo wsX2_cameTo) := goodIn_app (goodIn_of _ (by decide +kernel)) ggX7_bringAllLetters_X2_cameTo
set_option maxRecDepth 20000 in
theorem ggX7_bringAllLetters_X2_reach : GoodIn wsX7_bringAllLetters wsX2_reach := goodIn_r _ [41, 37, 280, 281, 282, 283, 284, 285, 286, 287] rfl (by decide +kernel)
set_option maxRecDepth 20000 in
theorem gX7_bringAllLetters_X2_reach : GoodIn wsX7_bringAllLetters (wsV RX7 113 RX2 yX2_reach wsX2_reach) := goodIn_app (goodIn_of _ (by decide +kernel)) ggX7_bringAllLetters_X2_reach
set_option maxRecDepth 20000 in
theorem ggX7_bringAllLetters_X5_go : GoodIn wsX7_bringAllLetters wsX5_go := goodIn_r _ [46, 47, 48, 49, 50, 51, 52, 53, 54, 55, 56, 45, 57, 58, 59, 60, 61, 62, 63, 64, 65, 66, 67, 68, 69, 7, 70, 71, 72, 24, 73, 74, 75, 76, 77, 78, 79, 80, 81, 82, 83, 33, 34, 35, 36, 37, 84, 85, 86, 18, 87, 20, 88, 89, 90, 91, 92, 93, 94, 95, 96, 97, 98, 99, 100, 101, 102, 103, 104, 105, 106, 107, 108, 109, 110, 111, 112, 113, 114, 115, 116, 117, 118, 119, 120, 121, 122, 123, 124, 125, 126, 127, 128, 129, 130, 131, 132, 133, 134, 135, 136, 137, 138, 139, 140, 141, 142, 143, 144, 145, 146, 147, 148, 149, 150, 151, 152, 153, 154, 155, 156, 157, 158, 159, 160, 161, 162, 163, 164, 165, 166, 167, 168, 169, 170, 171, 172, 173, 174, 175, 176, 177, 178, 179, 180, 181, 182, 183, 184, 185, 186, 187, 188, 189, 190, 9, 14, 191, 192, 193, 194, 195, 196, 197, 198, 199, 200, 201, 202, 203, 204, 205, 206, 207, 208, 209, 210, 211, 212, 213, 214, 215, 216, 217, 218, 219, 220, 221, 222, 223, 224, 225, 226, 227, 228, 229, 230, 231, 232, 233, 234, 235, 236, 237, 238, 239, 240, 241, 242, 243, 244, 245, 246, 247, 248, 249, 250, 251, 252, 253, 265, 266, 267, 268, 269, 270, 271, 272, 273, 274, 275, 276, 277, 278, 279, 280, 281, 282, 283, 284, 285, 286, 287, 288, 289, 260, 261, 262, 263, 264, 290, 291, 292, 293] rfl (by decide +kernel)
set_option maxRecDepth 20000 in
theorem gX7_bringAllLetters_X5_go : GoodIn wsX7_bringAllLetters (wsV RX7 81 RX5 yX5_go wsX5_go) := goodIn_app (goodIn_of _ (by decide +kernel)) ggX7_bringAllLetters_X5_go
theorem dX7_bringAllLetters_0 : decode cX7_bringAllLetters 0 = .ok (.iconst 0, 1) := by decide +kernel
theorem dX7_bringAllLetters_1 : decode cX7_bringAllLetters 1 = .ok (.istore_n 1, 1) := by decide +kernel
theorem dX7_bringAllLetters_2 : decode cX7_bringAllLetters 2 = .ok (.iconst 0, 1) := by decide +kernel
theorem dX7_bringAllLetters_3 : decode cX7_bringAllLetters 3 = .ok (.istore_n 2, 1) := by decide +kernel
theorem dX7_bringAllLetters_4 : decode cX7_bringAllLetters 4 = .ok (.iload_n 2, 1) := by decide +kernel
theorem dX7_bringAllLetters_5 : decode cX7_bringAllLetters 5 = .ok (.aload_n 0, 1) := by decide +kernel
theorem dX7_bringAllLetters_6 : decode cX7_bringAllLetters 6 = .ok (.getfield 19, 3) := by decide +kernel
theorem dX7_bringAllLetters_9 : decode cX7_bringAllLetters 9 = .ok (.invokevirtual 85, 3) := by decide +kernel
theorem dX7_bringAllLetters_12 : decode cX7_bringAllLetters 12 = .ok (.if_icmp .ge 89, 3) := by decide +kernel
theorem dX7_bringAllLetters_15 : decode cX7_bringAllLetters 15 = .ok (.iload_n 2, 1) := by decide +kernel
theorem dX7_bringAllLetters_16 : decode cX7_bringAllLetters 16 = .ok (.sipush 400, 3) := by decide +kernel
theorem dX7_bringAllLetters_19 : decode cX7_bringAllLetters 19 = .ok (.if_icmp .ge 82, 3) := by decide +kernel
theorem dX7_bringAllLetters_22 : decode cX7_bringAllLetters 22 = .ok (.aload_n 0, 1) := by decide +kernel
theorem dX7_bringAllLetters_23 : decode cX7_bringAllLetters 23 = .ok (.getfield 19, 3) := by decide +kernel
theorem dX7_bringAllLetters_26 : decode cX7_bringAllLetters 26 = .ok (.iload_n 2, 1) := by decide +kernel
theorem dX7_bringAllLetters_27 : decode cX7_bringAllLetters 27 = .ok (.invokevirtual 104, 3) := by decide +kernel
theorem dX7_bringAllLetters_30 : decode cX7_bringAllLetters 30 = .ok (.astore_n 3, 1) := by decide +kernel
theorem dX7_bringAllLetters_31 : decode cX7_bringAllLetters 31 = .ok (.iconst 0, 1) := by decide +kernel
theorem dX7_bringAllLetters_32 : decode cX7_bringAllLetters 32 = .ok (.istore 4, 2) := by decide +kernel
theorem dX7_bringAllLetters_34 : decode cX7_bringAllLetters 34 = .ok (.iload 4, 2) := by decide +kernel
theorem dX7_bringAllLetters_36 : decode cX7_bringAllLetters 36 = .ok (.aload_n 0, 1) := by decide +kernel
theorem dX7_bringAllLetters_37 : decode cX7_bringAllLetters 37 = .ok (.getfield 10, 3) := by decide +kernel
theorem dX7_bringAllLetters_40 : decode cX7_bringAllLetters 40 = .ok (.invokevirtual 71, 3) := by decide +kernel
theorem dX7_bringAllLetters_43 : decode cX7_bringAllLetters 43 = .ok (.if_icmp .ge 52, 3) := by decide +kernel
theorem dX7_bringAllLetters_46 : decode cX7_bringAllLetters 46 = .ok (.aload_n 0, 1) := by decide +kernel
theorem dX7_bringAllLetters_47 : decode cX7_bringAllLetters 47 = .ok (.iload 4, 2) := by decide +kernel
theorem dX7_bringAllLetters_49 : decode cX7_bringAllLetters 49 = .ok (.invokevirtual 74, 3) := by decide +kernel
theorem dX7_bringAllLetters_52 : decode cX7_bringAllLetters 52 = .ok (.astore 5, 2) := by decide +kernel
theorem dX7_bringAllLetters_54 : decode cX7_bringAllLetters 54 = .ok (.aload_n 3, 1) := by decide +kernel
theorem dX7_bringAllLetters_55 : decode cX7_bringAllLetters 55 = .ok (.ifnull 34, 3) := by decide +kernel
theorem dX7_bringAllLetters_58 : decode cX7_bringAllLetters 58 = .ok (.aload 5, 2) := by decide +kernel
theorem dX7_bringAllLetters_60 : decode cX7_bringAllLetters 60 = .ok (.ifnull 29, 3) := by decide +kernel
theorem dX7_bringAllLetters_63 : decode cX7_bringAllLetters 63 = .ok (.aload_n 3, 1) := by decide +kernel
theorem dX7_bringAllLetters_64 : decode cX7_bringAllLetters 64 = .ok (.iload 4, 2) := by decide +kernel
theorem dX7_bringAllLetters_66 : decode cX7_bringAllLetters 66 = .ok (.invokevirtual 108, 3) := by decide +kernel
theorem dX7_bringAllLetters_69 : decode cX7_bringAllLetters 69 = .ok (.ifCond .ne 20, 3) := by decide +kernel
theorem dX7_bringAllLetters_72 : decode cX7_bringAllLetters 72 = .ok (.aload_n 3, 1) := by decide +kernel
theorem dX7_bringAllLetters_73 : decode cX7_bringAllLetters 73 = .ok (.iload 4, 2) := by decide +kernel
theorem dX7_bringAllLetters_75 : decode cX7_bringAllLetters 75 = .ok (.invokevirtual 113, 3) := by decide +kernel
theorem dX7_bringAllLetters_78 : decode cX7_bringAllLetters 78 = .ok (.aload_n 0, 1) := by decide +kernel
theorem dX7_bringAllLetters_79 : decode cX7_bringAllLetters 79 = .ok (.getfield 28, 3) := by decide +kernel
theorem dX7_bringAllLetters_82 : decode cX7_bringAllLetters 82 = .ok (.aload 5, 2) := by decide +kernel
theorem dX7_bringAllLetters_84 : decode cX7_bringAllLetters 84 = .ok (.invokevirtual 81, 3) := by decide +kernel
theorem dX7_bringAllLetters_87 : decode cX7_bringAllLetters 87 = .ok (.iconst 1, 1) := by decide +kernel
theorem dX7_bringAllLetters_88 : decode cX7_bringAllLetters 88 = .ok (.istore_n 1, 1) := by decide +kernel
theorem dX7_bringAllLetters_89 : decode cX7_bringAllLetters 89 = .ok (.iinc 4 1, 3) := by decide +kernel
theorem dX7_bringAllLetters_92 : decode cX7_bringAllLetters 92 = .ok (.goto (-58), 3) := by decide +kernel
theorem dX7_bringAllLetters_95 : decode cX7_bringAllLetters 95 = .ok (.iinc 2 1, 3) := by decide +kernel
theorem dX7_bringAllLetters_98 : decode cX7_bringAllLetters 98 = .ok (.goto (-94), 3) := by decide +kernel
theorem dX7_bringAllLetters_101 : decode cX7_bringAllLetters 101 = .ok (.iload_n 1, 1) := by decide +kernel
theorem dX7_bringAllLetters_102 : decode cX7_bringAllLetters 102 = .ok (.ireturn, 1) := by decide +kernel
set_option maxRecDepth 20000 in
theorem ggX7_ringAllTimers_X1_size : GoodIn wsX7_ringAllTimers wsX1_size := goodIn_r _ [7, 8, 259] rfl (by decide +kernel)
set_option maxRecDepth 20000 in
theorem gX7_ringAllTimers_X1_size : GoodIn wsX7_ringAllTimers (wsV RX7 71 RX1 yX1_size wsX1_size) := goodIn_app (goodIn_of _ (by decide +kernel)) ggX7_ringAllTimers_X1_size
set_option maxRecDepth 20000 in
theorem ggX7_ringAllTimers_X7_honest : GoodIn wsX7_ringAllTimers wsX7_honest := goodIn_r _ [13, 14, 15, 16, 17, 12, 18, 1, 19, 3, 4, 5, 6, 7, 8, 260, 261, 262, 263, 264, 265, 266, 267, 268, 269, 270, 271, 272, 273, 274, 253, 254, 255, 256, 257, 258, 259] rfl (by decide +kernel)
set_option maxRecDepth 20000 in
theorem gX7_ringAllTimers_X7_honest : GoodIn wsX7_ringAllTimers (wsV RX7 74 RX7 yX7_honest wsX7_honest) := goodIn_app (goodIn_of _ (by decide +kernel)) ggX7_ringAllTimers_X7_honest
set_option maxRecDepth 20000 in
theorem ggX7_ringAllTimers_X6_isSet : GoodIn wsX7_ringAllTimers wsX6_isSet := goodIn_r _ [24, 25, 260, 261, 262, 263, 264, 265, 266, 267, 268, 269, 270, 271, 272, 273, 274] rfl (by decide +kernel)
set_option maxRecDepth 20000 in
theorem gX7_ringAllTimers_X6_isSet : GoodIn wsX7_ringAllTimers (wsV RX7 116 RX6 yX6_isSet wsX6_isSet) := goodIn_app (goodIn_of _ (by decide +kernel)) ggX7_ringAllTimers_X6_isSet
set_option maxRecDepth 20000 in
theorem ggX7_ringAllTimers_X5_ring : GoodIn wsX7_ringAllTimers wsX5_ring := goodIn_r _ [30, 31, 32, 33, 34, 35, 23, 36, 25, 37, 21, 22, 24, 38, 39, 40, 41, 42, 43, 44, 45, 46, 29, 47, 48, 49, 50, 51, 52, 53, 54, 55, 56, 57, 58, 59, 60, 61, 62, 63, 64, 65, 66, 67, 68, 69, 70, 71, 72, 73, 74, 75, 12, 76, 77, 78, 79, 80, 81, 82, 83, 84, 85, 86, 87, 88, 89, 90, 91, 92, 93, 94, 95, 96, 97, 98, 99, 100, 101, 6, 102, 8, 103, 104, 105, 106, 107, 108, 109, 110, 111, 112, 113, 114, 115, 116, 117, 118, 119, 120, 121, 122, 123, 124, 260, 261, 262, 263, 264, 265, 266, 267, 268, 269, 270, 271, 272, 273, 274, 275, 276, 277, 278, 279, 280, 281, 282, 283, 284, 285, 286, 287, 288, 289, 290, 259, 291, 292] rfl (by decide +kernel)
set_option maxRecDepth 20000 in
theorem gX7_ringAllTimers_X5_ring : GoodIn wsX7_ringAllTimers (wsV RX7 119 RX5 yX5_ring wsX5_ring) := goodIn_app (goodIn_of _ (by decide +kernel)) ggX7_ringAllTimers_X5_ring
set_option maxRecDepth 20000 in
theorem ggX7_ringAllTimers_X5_go : GoodIn wsX7_ringAllTimers wsX5_go := goodIn_r _ [128, 129, 130, 131, 132, 23, 133, 42, 134, 135, 136, 29, 137, 138, 139, 140, 141, 142, 52, 54, 143, 144, 145, 146, 147, 58, 148, 60, 75, 12, 76, 149, 150, 151, 152, 53, 153, 87, 154, 155, 156, 157, 158, 66, 159, 160, 99, 100, 101, 6, 102, 8, 161, 120, 121, 122, 123, 124, 162, 163, 164, 165, 166, 167, 168, 71, 67, 74, 169, 170, 171, 172, 173, 174, 175, 176, 177, 178, 179, 180, 181, 182, 183, 184, 118, 185, 186, 187, 188, 189, 190, 191, 192, 193, 194, 195, 196, 25, 197, 198, 199, 110, 200, 112, 201, 202, 203, 204, 205, 206, 92, 93, 94, 43, 95, 96, 97, 98, 82, 83, 84, 85, 86, 88, 89, 90, 91, 103, 104, 105, 106, 38, 39, 40, 41, 107, 108, 109, 111, 113, 114, 115, 116, 117, 119, 48, 49, 50, 51, 32, 55, 56, 57, 59, 61, 62, 63, 64, 65, 68, 69, 70, 72, 73, 77, 78, 79, 80, 81, 207, 208, 209, 210, 211, 212, 213, 214, 215, 216, 217, 218, 219, 220, 221, 222, 223, 31, 224, 225, 44, 45, 46, 47, 226, 227, 228, 229, 230, 231, 232, 233, 234, 235, 236, 237, 238, 239, 240, 241, 242, 243, 244, 245, 246, 247, 248, 249, 250, 251, 252, 260, 261, 262, 263, 264, 265, 266, 267, 268, 269, 270, 271, 272, 273, 274, 281, 282, 283, 284, 285, 286, 287, 288, 275, 276, 277, 278, 279, 280, 259, 291, 292, 289, 290] rfl (by decide +kernel)
set_option maxRecDepth 20000 in
theorem gX7_ringAllTimers_X5_go : GoodIn wsX7_ringAllTimers (wsV RX7 81 RX5 yX5_go wsX5_go) := goodIn_app (goodIn_of _ (by decide +kernel)) ggX7_ringAllTimers_X5_go
theorem dX7_ringAllTimers_0 : decode cX7_ringAllTimers 0 = .ok (.iconst 0, 1) := by decide +kernel
theorem dX7_ringAllTimers_1 : decode cX7_ringAllTimers 1 = .ok (.istore_n 1, 1) := by decide +kernel
theorem dX7_ringAllTimers_2 : decode cX7_ringAllTimers 2 = .ok (.iconst 0, 1) := by decide +kernel
theorem dX7_ringAllTimers_3 : decode cX7_ringAllTimers 3 = .ok (.istore_n 2, 1) := by decide +kernel
theorem dX7_ringAllTimers_4 : decode cX7_ringAllTimers 4 = .ok (.iload_n 2, 1) := by decide +kernel
theorem dX7_ringAllTimers_5 : decode cX7_ringAllTimers 5 = .ok (.aload_n 0, 1) := by decide +kernel
theorem dX7_ringAllTimers_6 : decode cX7_ringAllTimers 6 = .ok (.getfield 10, 3) := by decide +kernel
theorem dX7_ringAllTimers_9 : decode cX7_ringAllTimers 9 = .ok (.invokevirtual 71, 3) := by decide +kernel
theorem dX7_ringAllTimers_12 : decode cX7_ringAllTimers 12 = .ok (.if_icmp .ge 63, 3) := by decide +kernel
theorem dX7_ringAllTimers_15 : decode cX7_ringAllTimers 15 = .ok (.aload_n 0, 1) := by decide +kernel
theorem dX7_ringAllTimers_16 : decode cX7_ringAllTimers 16 = .ok (.iload_n 2, 1) := by decide +kernel
theorem dX7_ringAllTimers_17 : decode cX7_ringAllTimers 17 = .ok (.invokevirtual 74, 3) := by decide +kernel
theorem dX7_ringAllTimers_20 : decode cX7_ringAllTimers 20 = .ok (.astore_n 3, 1) := by decide +kernel
theorem dX7_ringAllTimers_21 : decode cX7_ringAllTimers 21 = .ok (.iconst 0, 1) := by decide +kernel
theorem dX7_ringAllTimers_22 : decode cX7_ringAllTimers 22 = .ok (.istore 4, 2) := by decide +kernel
theorem dX7_ringAllTimers_24 : decode cX7_ringAllTimers 24 = .ok (.iload 4, 2) := by decide +kernel
theorem dX7_ringAllTimers_26 : decode cX7_ringAllTimers 26 = .ok (.iconst 3, 1) := by decide +kernel
theorem dX7_ringAllTimers_27 : decode cX7_ringAllTimers 27 = .ok (.if_icmp .ge 42, 3) := by decide +kernel
theorem dX7_ringAllTimers_30 : decode cX7_ringAllTimers 30 = .ok (.aload_n 3, 1) := by decide +kernel
theorem dX7_ringAllTimers_31 : decode cX7_ringAllTimers 31 = .ok (.ifnull 32, 3) := by decide +kernel
theorem dX7_ringAllTimers_34 : decode cX7_ringAllTimers 34 = .ok (.aload_n 3, 1) := by decide +kernel
theorem dX7_ringAllTimers_35 : decode cX7_ringAllTimers 35 = .ok (.iload 4, 2) := by decide +kernel
theorem dX7_ringAllTimers_37 : decode cX7_ringAllTimers 37 = .ok (.invokevirtual 116, 3) := by decide +kernel
theorem dX7_ringAllTimers_40 : decode cX7_ringAllTimers 40 = .ok (.ifCond .eq 23, 3) := by decide +kernel
theorem dX7_ringAllTimers_43 : decode cX7_ringAllTimers 43 = .ok (.aload_n 0, 1) := by decide +kernel
theorem dX7_ringAllTimers_44 : decode cX7_ringAllTimers 44 = .ok (.getfield 28, 3) := by decide +kernel
theorem dX7_ringAllTimers_47 : decode cX7_ringAllTimers 47 = .ok (.aload_n 3, 1) := by decide +kernel
theorem dX7_ringAllTimers_48 : decode cX7_ringAllTimers 48 = .ok (.iload 4, 2) := by decide +kernel
theorem dX7_ringAllTimers_50 : decode cX7_ringAllTimers 50 = .ok (.invokevirtual 119, 3) := by decide +kernel
theorem dX7_ringAllTimers_53 : decode cX7_ringAllTimers 53 = .ok (.aload_n 0, 1) := by decide +kernel
theorem dX7_ringAllTimers_54 : decode cX7_ringAllTimers 54 = .ok (.getfield 28, 3) := by decide +kernel
theorem dX7_ringAllTimers_57 : decode cX7_ringAllTimers 57 = .ok (.aload_n 3, 1) := by decide +kernel
theorem dX7_ringAllTimers_58 : decode cX7_ringAllTimers 58 = .ok (.invokevirtual 81, 3) := by decide +kernel
theorem dX7_ringAllTimers_61 : decode cX7_ringAllTimers 61 = .ok (.iconst 1, 1) := by decide +kernel
theorem dX7_ringAllTimers_62 : decode cX7_ringAllTimers 62 = .ok (.istore_n 1, 1) := by decide +kernel
theorem dX7_ringAllTimers_63 : decode cX7_ringAllTimers 63 = .ok (.iinc 4 1, 3) := by decide +kernel
theorem dX7_ringAllTimers_66 : decode cX7_ringAllTimers 66 = .ok (.goto (-42), 3) := by decide +kernel
theorem dX7_ringAllTimers_69 : decode cX7_ringAllTimers 69 = .ok (.iinc 2 1, 3) := by decide +kernel
theorem dX7_ringAllTimers_72 : decode cX7_ringAllTimers 72 = .ok (.goto (-68), 3) := by decide +kernel
theorem dX7_ringAllTimers_75 : decode cX7_ringAllTimers 75 = .ok (.iload_n 1, 1) := by decide +kernel
theorem dX7_ringAllTimers_76 : decode cX7_ringAllTimers 76 = .ok (.ireturn, 1) := by decide +kernel
set_option maxRecDepth 20000 in
theorem ggX7_falseOnes_X1_size : GoodIn wsX7_falseOnes wsX1_size := goodIn_r _ [6, 7, 25] rfl (by decide +kernel)
set_option maxRecDepth 20000 in
theorem gX7_falseOnes_X1_size : GoodIn wsX7_falseOnes (wsV RX7 71 RX1 yX1_size wsX1_size) := goodIn_app (goodIn_of _ (by decide +kernel)) ggX7_falseOnes_X1_size
set_option maxRecDepth 20000 in
theorem ggX7_falseOnes_X7_honest : GoodIn wsX7_falseOnes wsX7_honest := goodIn_r _ [12, 13, 14, 15, 16, 11, 17, 1, 18, 2, 3, 4, 5, 6, 7, 26, 27, 28, 29, 30, 31, 32, 33, 34, 35, 36, 37, 38, 39, 40, 19, 20, 21, 22, 23, 24, 25] rfl (by decide +kernel)
set_option maxRecDepth 20000 in
theorem gX7_falseOnes_X7_honest : GoodIn wsX7_falseOnes (wsV RX7 74 RX7 yX7_honest wsX7_honest) := goodIn_app (goodIn_of _ (by decide +kernel)) ggX7_falseOnes_X7_honest
theorem dX7_falseOnes_0 : decode cX7_falseOnes 0 = .ok (.iconst 0, 1) := by decide +kernel
theorem dX7_falseOnes_1 : decode cX7_falseOnes 1 = .ok (.istore_n 1, 1) := by decide +kernel
theorem dX7_falseOnes_2 : decode cX7_falseOnes 2 = .ok (.iconst 0, 1) := by decide +kernel
theorem dX7_falseOnes_3 : decode cX7_falseOnes 3 = .ok (.istore_n 2, 1) := by decide +kernel
theorem dX7_falseOnes_4 : decode cX7_falseOnes 4 = .ok (.iload_n 2, 1) := by decide +kernel
theorem dX7_falseOnes_5 : decode cX7_falseOnes 5 = .ok (.aload_n 0, 1) := by decide +kernel
theorem dX7_falseOnes_6 : decode cX7_falseOnes 6 = .ok (.getfield 10, 3) := by decide +kernel
theorem dX7_falseOnes_9 : decode cX7_falseOnes 9 = .ok (.invokevirtual 71, 3) := by decide +kernel
theorem dX7_falseOnes_12 : decode cX7_falseOnes 12 = .ok (.if_icmp .ge 20, 3) := by decide +kernel
theorem dX7_falseOnes_15 : decode cX7_falseOnes 15 = .ok (.aload_n 0, 1) := by decide +kernel
theorem dX7_falseOnes_16 : decode cX7_falseOnes 16 = .ok (.iload_n 2, 1) := by decide +kernel
theorem dX7_falseOnes_17 : decode cX7_falseOnes 17 = .ok (.invokevirtual 74, 3) := by decide +kernel
theorem dX7_falseOnes_20 : decode cX7_falseOnes 20 = .ok (.ifnonnull 6, 3) := by decide +kernel
theorem dX7_falseOnes_23 : decode cX7_falseOnes 23 = .ok (.iinc 1 1, 3) := by decide +kernel
theorem dX7_falseOnes_26 : decode cX7_falseOnes 26 = .ok (.iinc 2 1, 3) := by decide +kernel
theorem dX7_falseOnes_29 : decode cX7_falseOnes 29 = .ok (.goto (-25), 3) := by decide +kernel
theorem dX7_falseOnes_32 : decode cX7_falseOnes 32 = .ok (.iload_n 1, 1) := by decide +kernel
theorem dX7_falseOnes_33 : decode cX7_falseOnes 33 = .ok (.ireturn, 1) := by decide +kernel
set_option maxRecDepth 20000 in
theorem ggX7_stillToCome_X4_sent : GoodIn wsX7_stillToCome wsX4_sent := goodIn_r _ [7, 8, 43, 44, 45, 46] rfl (by decide +kernel)
set_option maxRecDepth 20000 in
theorem gX7_stillToCome_X4_sent : GoodIn wsX7_stillToCome (wsV RX7 85 RX4 yX4_sent wsX4_sent) := goodIn_app (goodIn_of _ (by decide +kernel)) ggX7_stillToCome_X4_sent
set_option maxRecDepth 20000 in
theorem ggX7_stillToCome_X4_at : GoodIn wsX7_stillToCome wsX4_at := goodIn_r _ [12, 8, 13, 43, 44, 45, 46] rfl (by decide +kernel)
set_option maxRecDepth 20000 in
theorem gX7_stillToCome_X4_at : GoodIn wsX7_stillToCome (wsV RX7 104 RX4 yX4_at wsX4_at) := goodIn_app (goodIn_of _ (by decide +kernel)) ggX7_stillToCome_X4_at
set_option maxRecDepth 20000 in
theorem ggX7_stillToCome_X1_size : GoodIn wsX7_stillToCome wsX1_size := goodIn_r _ [18, 19, 47] rfl (by decide +kernel)
set_option maxRecDepth 20000 in
theorem gX7_stillToCome_X1_size : GoodIn wsX7_stillToCome (wsV RX7 71 RX1 yX1_size wsX1_size) := goodIn_app (goodIn_of _ (by decide +kernel)) ggX7_stillToCome_X1_size
set_option maxRecDepth 20000 in
theorem ggX7_stillToCome_X7_honest : GoodIn wsX7_stillToCome wsX7_honest := goodIn_r _ [24, 25, 26, 27, 28, 23, 29, 2, 30, 14, 15, 16, 17, 18, 19, 48, 49, 50, 51, 52, 53, 54, 55, 56, 57, 58, 59, 60, 61, 62, 37, 38, 39, 40, 41, 42, 47] rfl (by decide +kernel)
set_option maxRecDepth 20000 in
theorem gX7_stillToCome_X7_honest : GoodIn wsX7_stillToCome (wsV RX7 74 RX7 yX7_honest wsX7_honest) := goodIn_app (goodIn_of _ (by decide +kernel)) ggX7_stillToCome_X7_honest
set_option maxRecDepth 20000 in
theorem ggX7_stillToCome_X2_cameTo : GoodIn wsX7_stillToCome wsX2_cameTo := goodIn_r _ [35, 36, 63, 64, 65, 66, 67, 68, 69, 70] rfl (by decide +kernel)
set_option maxRecDepth 20000 in
theorem gX7_stillToCome_X2_cameTo : GoodIn wsX7_stillToCome (wsV RX7 108 RX2 yX2_cameTo wsX2_cameTo) := goodIn_app (goodIn_of _ (by decide +kernel)) ggX7_stillToCome_X2_cameTo
theorem dX7_stillToCome_0 : decode cX7_stillToCome 0 = .ok (.iconst 0, 1) := by decide +kernel
theorem dX7_stillToCome_1 : decode cX7_stillToCome 1 = .ok (.istore_n 1, 1) := by decide +kernel
theorem dX7_stillToCome_2 : decode cX7_stillToCome 2 = .ok (.iconst 0, 1) := by decide +kernel
theorem dX7_stillToCome_3 : decode cX7_stillToCome 3 = .ok (.istore_n 2, 1) := by decide +kernel
theorem dX7_stillToCome_4 : decode cX7_stillToCome 4 = .ok (.iload_n 2, 1) := by decide +kernel
theorem dX7_stillToCome_5 : decode cX7_stillToCome 5 = .ok (.aload_n 0, 1) := by decide +kernel
theorem dX7_stillToCome_6 : decode cX7_stillToCome 6 = .ok (.getfield 19, 3) := by decide +kernel
theorem dX7_stillToCome_9 : decode cX7_stillToCome 9 = .ok (.invokevirtual 85, 3) := by decide +kernel
theorem dX7_stillToCome_12 : decode cX7_stillToCome 12 = .ok (.if_icmp .ge 64, 3) := by decide +kernel
theorem dX7_stillToCome_15 : decode cX7_stillToCome 15 = .ok (.aload_n 0, 1) := by decide +kernel
theorem dX7_stillToCome_16 : decode cX7_stillToCome 16 = .ok (.getfield 19, 3) := by decide +kernel
theorem dX7_stillToCome_19 : decode cX7_stillToCome 19 = .ok (.iload_n 2, 1) := by decide +kernel
theorem dX7_stillToCome_20 : decode cX7_stillToCome 20 = .ok (.invokevirtual 104, 3) := by decide +kernel
theorem dX7_stillToCome_23 : decode cX7_stillToCome 23 = .ok (.astore_n 3, 1) := by decide +kernel
theorem dX7_stillToCome_24 : decode cX7_stillToCome 24 = .ok (.iconst 0, 1) := by decide +kernel
theorem dX7_stillToCome_25 : decode cX7_stillToCome 25 = .ok (.istore 4, 2) := by decide +kernel
theorem dX7_stillToCome_27 : decode cX7_stillToCome 27 = .ok (.iload 4, 2) := by decide +kernel
theorem dX7_stillToCome_29 : decode cX7_stillToCome 29 = .ok (.aload_n 0, 1) := by decide +kernel
theorem dX7_stillToCome_30 : decode cX7_stillToCome 30 = .ok (.getfield 10, 3) := by decide +kernel
theorem dX7_stillToCome_33 : decode cX7_stillToCome 33 = .ok (.invokevirtual 71, 3) := by decide +kernel
theorem dX7_stillToCome_36 : decode cX7_stillToCome 36 = .ok (.if_icmp .ge 34, 3) := by decide +kernel
theorem dX7_stillToCome_39 : decode cX7_stillToCome 39 = .ok (.aload_n 3, 1) := by decide +kernel
theorem dX7_stillToCome_40 : decode cX7_stillToCome 40 = .ok (.ifnull 24, 3) := by decide +kernel
theorem dX7_stillToCome_43 : decode cX7_stillToCome 43 = .ok (.aload_n 0, 1) := by decide +kernel
theorem dX7_stillToCome_44 : decode cX7_stillToCome 44 = .ok (.iload 4, 2) := by decide +kernel
theorem dX7_stillToCome_46 : decode cX7_stillToCome 46 = .ok (.invokevirtual 74, 3) := by decide +kernel
theorem dX7_stillToCome_49 : decode cX7_stillToCome 49 = .ok (.ifnull 15, 3) := by decide +kernel
theorem dX7_stillToCome_52 : decode cX7_stillToCome 52 = .ok (.aload_n 3, 1) := by decide +kernel
theorem dX7_stillToCome_53 : decode cX7_stillToCome 53 = .ok (.iload 4, 2) := by decide +kernel
theorem dX7_stillToCome_55 : decode cX7_stillToCome 55 = .ok (.invokevirtual 108, 3) := by decide +kernel
theorem dX7_stillToCome_58 : decode cX7_stillToCome 58 = .ok (.ifCond .ne 6, 3) := by decide +kernel
theorem dX7_stillToCome_61 : decode cX7_stillToCome 61 = .ok (.iinc 1 1, 3) := by decide +kernel
theorem dX7_stillToCome_64 : decode cX7_stillToCome 64 = .ok (.iinc 4 1, 3) := by decide +kernel
theorem dX7_stillToCome_67 : decode cX7_stillToCome 67 = .ok (.goto (-40), 3) := by decide +kernel
theorem dX7_stillToCome_70 : decode cX7_stillToCome 70 = .ok (.iinc 2 1, 3) := by decide +kernel
theorem dX7_stillToCome_73 : decode cX7_stillToCome 73 = .ok (.goto (-69), 3) := by decide +kernel
theorem dX7_stillToCome_76 : decode cX7_stillToCome 76 = .ok (.iload_n 1, 1) := by decide +kernel
theorem dX7_stillToCome_77 : decode cX7_stillToCome 77 = .ok (.ireturn, 1) := by decide +kernel
set_option maxRecDepth 20000 in
theorem ggX7_leastHeight_X7_greatestHeight : GoodIn wsX7_leastHeight wsX7_greatestHeight := goodIn_r _ [11, 1, 2, 12, 13, 5, 14, 15, 16, 17, 18, 19, 20, 21, 22, 23, 10, 24, 25, 26, 27, 28, 29, 30, 31, 32, 33, 34, 35, 36, 37, 38, 39, 40, 41, 42, 43, 44, 45, 46, 47, 48, 49, 50, 51, 52] rfl (by decide +kernel)
set_option maxRecDepth 20000 in
theorem gX7_leastHeight_X7_greatestHeight : GoodIn wsX7_leastHeight (wsV RX7 213 RX7 yX7_greatestHeight wsX7_greatestHeight) := goodIn_app (goodIn_of _ (by decide +kernel)) ggX7_leastHeight_X7_greatestHeight
set_option maxRecDepth 20000 in
theorem ggX7_leastHeight_X1_size : GoodIn wsX7_leastHeight wsX1_size := goodIn_r _ [19, 20, 52] rfl (by decide +kernel)
set_option maxRecDepth 20000 in
theorem gX7_leastHeight_X1_size : GoodIn wsX7_leastHeight (wsV RX7 71 RX1 yX1_size wsX1_size) := goodIn_app (goodIn_of _ (by decide +kernel)) ggX7_leastHeight_X1_size
set_option maxRecDepth 20000 in
theorem ggX7_leastHeight_X7_honest : GoodIn wsX7_leastHeight wsX7_honest := goodIn_r _ [24, 25, 26, 27, 28, 10, 29, 1, 30, 15, 16, 17, 18, 19, 20, 37, 38, 39, 40, 41, 42, 43, 44, 45, 46, 47, 48, 49, 50, 51, 31, 32, 33, 34, 35, 36, 52] rfl (by decide +kernel)
set_option maxRecDepth 20000 in
theorem gX7_leastHeight_X7_honest : GoodIn wsX7_leastHeight (wsV RX7 74 RX7 yX7_honest wsX7_honest) := goodIn_app (goodIn_of _ (by decide +kernel)) ggX7_leastHeight_X7_honest
theorem dX7_leastHeight_0 : decode cX7_leastHeight 0 = .ok (.aload_n 0, 1) := by decide +kernel
theorem dX7_leastHeight_1 : decode cX7_leastHeight 1 = .ok (.invokevirtual 213, 3) := by decide +kernel
theorem dX7_leastHeight_4 : decode cX7_leastHeight 4 = .ok (.istore_n 1, 1) := by decide +kernel
theorem dX7_leastHeight_5 : decode cX7_leastHeight 5 = .ok (.iconst 0, 1) := by decide +kernel
theorem dX7_leastHeight_6 : decode cX7_leastHeight 6 = .ok (.istore_n 2, 1) := by decide +kernel
theorem dX7_leastHeight_7 : decode cX7_leastHeight 7 = .ok (.iload_n 2, 1) := by decide +kernel
theorem dX7_leastHeight_8 : decode cX7_leastHeight 8 = .ok (.aload_n 0, 1) := by decide +kernel
theorem dX7_leastHeight_9 : decode cX7_leastHeight 9 = .ok (.getfield 10, 3) := by decide +kernel
theorem dX7_leastHeight_12 : decode cX7_leastHeight 12 = .ok (.invokevirtual 71, 3) := by decide +kernel
theorem dX7_leastHeight_15 : decode cX7_leastHeight 15 = .ok (.if_icmp .ge 28, 3) := by decide +kernel
theorem dX7_leastHeight_18 : decode cX7_leastHeight 18 = .ok (.aload_n 0, 1) := by decide +kernel
theorem dX7_leastHeight_19 : decode cX7_leastHeight 19 = .ok (.iload_n 2, 1) := by decide +kernel
theorem dX7_leastHeight_20 : decode cX7_leastHeight 20 = .ok (.invokevirtual 74, 3) := by decide +kernel
theorem dX7_leastHeight_23 : decode cX7_leastHeight 23 = .ok (.astore_n 3, 1) := by decide +kernel
theorem dX7_leastHeight_24 : decode cX7_leastHeight 24 = .ok (.aload_n 3, 1) := by decide +kernel
theorem dX7_leastHeight_25 : decode cX7_leastHeight 25 = .ok (.ifnull 12, 3) := by decide +kernel
theorem dX7_leastHeight_28 : decode cX7_leastHeight 28 = .ok (.iload_n 1, 1) := by decide +kernel
theorem dX7_leastHeight_29 : decode cX7_leastHeight 29 = .ok (.aload_n 3, 1) := by decide +kernel
theorem dX7_leastHeight_30 : decode cX7_leastHeight 30 = .ok (.getfield 128, 3) := by decide +kernel
theorem dX7_leastHeight_33 : decode cX7_leastHeight 33 = .ok (.invokestatic 225, 3) := by decide +kernel
theorem dX7_leastHeight_36 : decode cX7_leastHeight 36 = .ok (.istore_n 1, 1) := by decide +kernel
theorem dX7_leastHeight_37 : decode cX7_leastHeight 37 = .ok (.iinc 2 1, 3) := by decide +kernel
theorem dX7_leastHeight_40 : decode cX7_leastHeight 40 = .ok (.goto (-33), 3) := by decide +kernel
theorem dX7_leastHeight_43 : decode cX7_leastHeight 43 = .ok (.iload_n 1, 1) := by decide +kernel
theorem dX7_leastHeight_44 : decode cX7_leastHeight 44 = .ok (.ireturn, 1) := by decide +kernel
set_option maxRecDepth 20000 in
theorem ggX7_greatestHeight_X1_size : GoodIn wsX7_greatestHeight wsX1_size := goodIn_r _ [11, 12, 45] rfl (by decide +kernel)
set_option maxRecDepth 20000 in
theorem gX7_greatestHeight_X1_size : GoodIn wsX7_greatestHeight (wsV RX7 71 RX1 yX1_size wsX1_size) := goodIn_app (goodIn_of _ (by decide +kernel)) ggX7_greatestHeight_X1_size
set_option maxRecDepth 20000 in
theorem ggX7_greatestHeight_X7_honest : GoodIn wsX7_greatestHeight wsX7_honest := goodIn_r _ [17, 18, 19, 20, 21, 16, 22, 1, 23, 7, 8, 9, 10, 11, 12, 30, 31, 32, 33, 34, 35, 36, 37, 38, 39, 40, 41, 42, 43, 44, 24, 25, 26, 27, 28, 29, 45] rfl (by decide +kernel)
set_option maxRecDepth 20000 in
theorem gX7_greatestHeight_X7_honest : GoodIn wsX7_greatestHeight (wsV RX7 74 RX7 yX7_honest wsX7_honest) := goodIn_app (goodIn_of _ (by decide +kernel)) ggX7_greatestHeight_X7_honest
theorem dX7_greatestHeight_0 : decode cX7_greatestHeight 0 = .ok (.iconst 0, 1) := by decide +kernel
theorem dX7_greatestHeight_1 : decode cX7_greatestHeight 1 = .ok (.istore_n 1, 1) := by decide +kernel
theorem dX7_greatestHeight_2 : decode cX7_greatestHeight 2 = .ok (.iconst 0, 1) := by decide +kernel
theorem dX7_greatestHeight_3 : decode cX7_greatestHeight 3 = .ok (.istore_n 2, 1) := by decide +kernel
theorem dX7_greatestHeight_4 : decode cX7_greatestHeight 4 = .ok (.iload_n 2, 1) := by decide +kernel
theorem dX7_greatestHeight_5 : decode cX7_greatestHeight 5 = .ok (.aload_n 0, 1) := by decide +kernel
theorem dX7_greatestHeight_6 : decode cX7_greatestHeight 6 = .ok (.getfield 10, 3) := by decide +kernel
theorem dX7_greatestHeight_9 : decode cX7_greatestHeight 9 = .ok (.invokevirtual 71, 3) := by decide +kernel
theorem dX7_greatestHeight_12 : decode cX7_greatestHeight 12 = .ok (.if_icmp .ge 28, 3) := by decide +kernel
theorem dX7_greatestHeight_15 : decode cX7_greatestHeight 15 = .ok (.aload_n 0, 1) := by decide +kernel
theorem dX7_greatestHeight_16 : decode cX7_greatestHeight 16 = .ok (.iload_n 2, 1) := by decide +kernel
theorem dX7_greatestHeight_17 : decode cX7_greatestHeight 17 = .ok (.invokevirtual 74, 3) := by decide +kernel
theorem dX7_greatestHeight_20 : decode cX7_greatestHeight 20 = .ok (.astore_n 3, 1) := by decide +kernel
theorem dX7_greatestHeight_21 : decode cX7_greatestHeight 21 = .ok (.aload_n 3, 1) := by decide +kernel
theorem dX7_greatestHeight_22 : decode cX7_greatestHeight 22 = .ok (.ifnull 12, 3) := by decide +kernel
theorem dX7_greatestHeight_25 : decode cX7_greatestHeight 25 = .ok (.iload_n 1, 1) := by decide +kernel
theorem dX7_greatestHeight_26 : decode cX7_greatestHeight 26 = .ok (.aload_n 3, 1) := by decide +kernel
theorem dX7_greatestHeight_27 : decode cX7_greatestHeight 27 = .ok (.getfield 128, 3) := by decide +kernel
theorem dX7_greatestHeight_30 : decode cX7_greatestHeight 30 = .ok (.invokestatic 231, 3) := by decide +kernel
theorem dX7_greatestHeight_33 : decode cX7_greatestHeight 33 = .ok (.istore_n 1, 1) := by decide +kernel
theorem dX7_greatestHeight_34 : decode cX7_greatestHeight 34 = .ok (.iinc 2 1, 3) := by decide +kernel
theorem dX7_greatestHeight_37 : decode cX7_greatestHeight 37 = .ok (.goto (-33), 3) := by decide +kernel
theorem dX7_greatestHeight_40 : decode cX7_greatestHeight 40 = .ok (.iload_n 1, 1) := by decide +kernel
theorem dX7_greatestHeight_41 : decode cX7_greatestHeight 41 = .ok (.ireturn, 1) := by decide +kernel
set_option maxRecDepth 20000 in
theorem ggX7_splitHeights_X7_isSplit : GoodIn wsX7_splitHeights wsX7_isSplit := goodIn_r _ [5, 6, 7, 8, 9, 10, 11, 12, 13, 14, 15, 16, 4, 17, 18, 19, 20, 21, 22, 23, 24, 25, 26, 27, 28, 29, 30, 31, 32, 33, 34, 35, 36, 37, 38, 39, 40, 41, 42, 43, 44, 45, 46, 47, 48, 49, 50, 51, 52, 53] rfl (by decide +kernel)
set_option maxRecDepth 20000 in
theorem gX7_splitHeights_X7_isSplit : GoodIn wsX7_splitHeights (wsV RX7 234 RX7 yX7_isSplit wsX7_isSplit) := goodIn_app (goodIn_of _ (by decide +kernel)) ggX7_splitHeights_X7_isSplit
theorem dX7_splitHeights_0 : decode cX7_splitHeights 0 = .ok (.iconst 0, 1) := by decide +kernel
theorem dX7_splitHeights_1 : decode cX7_splitHeights 1 = .ok (.istore_n 1, 1) := by decide +kernel
theorem dX7_splitHeights_2 : decode cX7_splitHeights 2 = .ok (.iconst 0, 1) := by decide +kernel
theorem dX7_splitHeights_3 : decode cX7_splitHeights 3 = .ok (.istore_n 2, 1) := by decide +kernel
theorem dX7_splitHeights_4 : decode cX7_splitHeights 4 = .ok (.iload_n 2, 1) := by decide +kernel
theorem dX7_splitHeights_5 : decode cX7_splitHeights 5 = .ok (.bipush 6, 2) := by decide +kernel
theorem dX7_splitHeights_7 : decode cX7_splitHeights 7 = .ok (.if_icmp .ge 20, 3) := by decide +kernel
theorem dX7_splitHeights_10 : decode cX7_splitHeights 10 = .ok (.aload_n 0, 1) := by decide +kernel
theorem dX7_splitHeights_11 : decode cX7_splitHeights 11 = .ok (.iload_n 2, 1) := by decide +kernel
theorem dX7_splitHeights_12 : decode cX7_splitHeights 12 = .ok (.invokevirtual 234, 3) := by decide +kernel
theorem dX7_splitHeights_15 : decode cX7_splitHeights 15 = .ok (.ifCond .eq 6, 3) := by decide +kernel
theorem dX7_splitHeights_18 : decode cX7_splitHeights 18 = .ok (.iinc 1 1, 3) := by decide +kernel
theorem dX7_splitHeights_21 : decode cX7_splitHeights 21 = .ok (.iinc 2 1, 3) := by decide +kernel
theorem dX7_splitHeights_24 : decode cX7_splitHeights 24 = .ok (.goto (-20), 3) := by decide +kernel
theorem dX7_splitHeights_27 : decode cX7_splitHeights 27 = .ok (.iload_n 1, 1) := by decide +kernel
theorem dX7_splitHeights_28 : decode cX7_splitHeights 28 = .ok (.ireturn, 1) := by decide +kernel
set_option maxRecDepth 20000 in
theorem ggX7_isSplit_X1_size : GoodIn wsX7_isSplit wsX1_size := goodIn_r _ [7, 8, 47] rfl (by decide +kernel)
set_option maxRecDepth 20000 in
theorem gX7_isSplit_X1_size : GoodIn wsX7_isSplit (wsV RX7 71 RX1 yX1_size wsX1_size) := goodIn_app (goodIn_of _ (by decide +kernel)) ggX7_isSplit_X1_size
set_option maxRecDepth 20000 in
theorem ggX7_isSplit_X7_honest : GoodIn wsX7_isSplit wsX7_honest := goodIn_r _ [13, 14, 15, 16, 17, 12, 18, 1, 19, 3, 4, 5, 6, 7, 8, 32, 33, 34, 35, 36, 37, 38, 39, 40, 41, 42, 43, 44, 45, 46, 26, 27, 28, 29, 30, 31, 47] rfl (by decide +kernel)
set_option maxRecDepth 20000 in
theorem gX7_isSplit_X7_honest : GoodIn wsX7_isSplit (wsV RX7 74 RX7 yX7_honest wsX7_honest) := goodIn_app (goodIn_of _ (by decide +kernel)) ggX7_isSplit_X7_honest
set_option maxRecDepth 20000 in
theorem ggX7_isSplit_X0_valueAt : GoodIn wsX7_isSplit wsX0_valueAt := goodIn_r _ [24, 25, 48, 49] rfl (by decide +kernel)
set_option maxRecDepth 20000 in
theorem gX7_isSplit_X0_valueAt : GoodIn wsX7_isSplit (wsV RX7 163 RX0 yX0_valueAt wsX0_valueAt) := goodIn_app (goodIn_of _ (by decide +kernel)) ggX7_isSplit_X0_valueAt
theorem dX7_isSplit_0 : decode cX7_isSplit 0 = .ok (.bipush (-4), 2) := by decide +kernel
theorem dX7_isSplit_2 : decode cX7_isSplit 2 = .ok (.istore_n 2, 1) := by decide +kernel
theorem dX7_isSplit_3 : decode cX7_isSplit 3 = .ok (.iconst 0, 1) := by decide +kernel
theorem dX7_isSplit_4 : decode cX7_isSplit 4 = .ok (.istore_n 3, 1) := by decide +kernel
theorem dX7_isSplit_5 : decode cX7_isSplit 5 = .ok (.iload_n 3, 1) := by decide +kernel
theorem dX7_isSplit_6 : decode cX7_isSplit 6 = .ok (.aload_n 0, 1) := by decide +kernel
theorem dX7_isSplit_7 : decode cX7_isSplit 7 = .ok (.getfield 10, 3) := by decide +kernel
theorem dX7_isSplit_10 : decode cX7_isSplit 10 = .ok (.invokevirtual 71, 3) := by decide +kernel
theorem dX7_isSplit_13 : decode cX7_isSplit 13 = .ok (.if_icmp .ge 68, 3) := by decide +kernel
theorem dX7_isSplit_16 : decode cX7_isSplit 16 = .ok (.aload_n 0, 1) := by decide +kernel
theorem dX7_isSplit_17 : decode cX7_isSplit 17 = .ok (.iload_n 3, 1) := by decide +kernel
theorem dX7_isSplit_18 : decode cX7_isSplit 18 = .ok (.invokevirtual 74, 3) := by decide +kernel
theorem dX7_isSplit_21 : decode cX7_isSplit 21 = .ok (.astore 4, 2) := by decide +kernel
theorem dX7_isSplit_23 : decode cX7_isSplit 23 = .ok (.aload 4, 2) := by decide +kernel
theorem dX7_isSplit_25 : decode cX7_isSplit 25 = .ok (.ifnonnull 8, 3) := by decide +kernel
theorem dX7_isSplit_28 : decode cX7_isSplit 28 = .ok (.bipush (-4), 2) := by decide +kernel
theorem dX7_isSplit_30 : decode cX7_isSplit 30 = .ok (.goto 12, 3) := by decide +kernel
theorem dX7_isSplit_33 : decode cX7_isSplit 33 = .ok (.aload 4, 2) := by decide +kernel
theorem dX7_isSplit_35 : decode cX7_isSplit 35 = .ok (.getfield 159, 3) := by decide +kernel
theorem dX7_isSplit_38 : decode cX7_isSplit 38 = .ok (.iload_n 1, 1) := by decide +kernel
theorem dX7_isSplit_39 : decode cX7_isSplit 39 = .ok (.invokevirtual 163, 3) := by decide +kernel
theorem dX7_isSplit_42 : decode cX7_isSplit 42 = .ok (.istore 5, 2) := by decide +kernel
theorem dX7_isSplit_44 : decode cX7_isSplit 44 = .ok (.iload 5, 2) := by decide +kernel
theorem dX7_isSplit_46 : decode cX7_isSplit 46 = .ok (.bipush (-4), 2) := by decide +kernel
theorem dX7_isSplit_48 : decode cX7_isSplit 48 = .ok (.if_icmp .eq 17, 3) := by decide +kernel
theorem dX7_isSplit_51 : decode cX7_isSplit 51 = .ok (.iload_n 2, 1) := by decide +kernel
theorem dX7_isSplit_52 : decode cX7_isSplit 52 = .ok (.bipush (-4), 2) := by decide +kernel
theorem dX7_isSplit_54 : decode cX7_isSplit 54 = .ok (.if_icmp .eq 11, 3) := by decide +kernel
theorem dX7_isSplit_57 : decode cX7_isSplit 57 = .ok (.iload 5, 2) := by decide +kernel
theorem dX7_isSplit_59 : decode cX7_isSplit 59 = .ok (.iload_n 2, 1) := by decide +kernel
theorem dX7_isSplit_60 : decode cX7_isSplit 60 = .ok (.if_icmp .eq 5, 3) := by decide +kernel
theorem dX7_isSplit_63 : decode cX7_isSplit 63 = .ok (.iconst 1, 1) := by decide +kernel
theorem dX7_isSplit_64 : decode cX7_isSplit 64 = .ok (.ireturn, 1) := by decide +kernel
theorem dX7_isSplit_65 : decode cX7_isSplit 65 = .ok (.iload 5, 2) := by decide +kernel
theorem dX7_isSplit_67 : decode cX7_isSplit 67 = .ok (.bipush (-4), 2) := by decide +kernel
theorem dX7_isSplit_69 : decode cX7_isSplit 69 = .ok (.if_icmp .eq 6, 3) := by decide +kernel
theorem dX7_isSplit_72 : decode cX7_isSplit 72 = .ok (.iload 5, 2) := by decide +kernel
theorem dX7_isSplit_74 : decode cX7_isSplit 74 = .ok (.istore_n 2, 1) := by decide +kernel
theorem dX7_isSplit_75 : decode cX7_isSplit 75 = .ok (.iinc 3 1, 3) := by decide +kernel
theorem dX7_isSplit_78 : decode cX7_isSplit 78 = .ok (.goto (-73), 3) := by decide +kernel
theorem dX7_isSplit_81 : decode cX7_isSplit 81 = .ok (.iconst 0, 1) := by decide +kernel
theorem dX7_isSplit_82 : decode cX7_isSplit 82 = .ok (.ireturn, 1) := by decide +kernel
