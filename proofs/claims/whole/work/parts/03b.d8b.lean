set_option maxRecDepth 20000 in
theorem ggX8_precommitsNil_X8_get : GoodIn wsX8_precommitsNil wsX8_get := goodIn_r _ [5, 6, 31, 32, 33, 34, 35, 36, 37, 38, 39, 40] rfl (by decide +kernel)
set_option maxRecDepth 20000 in
theorem gX8_precommitsNil_X8_get : GoodIn wsX8_precommitsNil (wsV RX8 58 RX8 yX8_get wsX8_get) := goodIn_app (goodIn_of _ (by decide +kernel)) ggX8_precommitsNil_X8_get
set_option maxRecDepth 20000 in
theorem ggX8_precommitsNil_X8_voted : GoodIn wsX8_precommitsNil wsX8_voted := goodIn_r _ [10, 11, 12, 13, 14, 31, 32, 33, 34, 35, 36, 37, 38, 39, 40] rfl (by decide +kernel)
set_option maxRecDepth 20000 in
theorem gX8_precommitsNil_X8_voted : GoodIn wsX8_precommitsNil (wsV RX8 108 RX8 yX8_voted wsX8_voted) := goodIn_app (goodIn_of _ (by decide +kernel)) ggX8_precommitsNil_X8_voted
set_option maxRecDepth 20000 in
theorem ggX8_precommitsNil_X8_many : GoodIn wsX8_precommitsNil wsX8_many := goodIn_r _ [18, 11, 31, 32, 33, 34, 35, 36, 37, 38, 39, 40] rfl (by decide +kernel)
set_option maxRecDepth 20000 in
theorem gX8_precommitsNil_X8_many : GoodIn wsX8_precommitsNil (wsV RX8 112 RX8 yX8_many wsX8_many) := goodIn_app (goodIn_of _ (by decide +kernel)) ggX8_precommitsNil_X8_many
set_option maxRecDepth 20000 in
theorem ggX8_precommitsNil_X8_casts : GoodIn wsX8_precommitsNil wsX8_casts := goodIn_r _ [22, 1, 2, 3, 4, 5, 6, 23, 24, 25, 26, 12, 14, 13, 27, 28, 29, 30, 31, 32, 33, 34, 35, 36, 37, 38, 39, 40] rfl (by decide +kernel)
set_option maxRecDepth 20000 in
theorem gX8_precommitsNil_X8_casts : GoodIn wsX8_precommitsNil (wsV RX8 121 RX8 yX8_casts wsX8_casts) := goodIn_app (goodIn_of _ (by decide +kernel)) ggX8_precommitsNil_X8_casts
theorem dX8_precommitsNil_0 : decode cX8_precommitsNil 0 = .ok (.aload_n 0, 1) := by decide +kernel
theorem dX8_precommitsNil_1 : decode cX8_precommitsNil 1 = .ok (.iload_n 1, 1) := by decide +kernel
theorem dX8_precommitsNil_2 : decode cX8_precommitsNil 2 = .ok (.iconst 2, 1) := by decide +kernel
theorem dX8_precommitsNil_3 : decode cX8_precommitsNil 3 = .ok (.invokevirtual 58, 3) := by decide +kernel
theorem dX8_precommitsNil_6 : decode cX8_precommitsNil 6 = .ok (.iconst 1, 1) := by decide +kernel
theorem dX8_precommitsNil_7 : decode cX8_precommitsNil 7 = .ok (.if_icmp .ne 33, 3) := by decide +kernel
theorem dX8_precommitsNil_10 : decode cX8_precommitsNil 10 = .ok (.aload_n 0, 1) := by decide +kernel
theorem dX8_precommitsNil_11 : decode cX8_precommitsNil 11 = .ok (.iload_n 1, 1) := by decide +kernel
theorem dX8_precommitsNil_12 : decode cX8_precommitsNil 12 = .ok (.iconst 1, 1) := by decide +kernel
theorem dX8_precommitsNil_13 : decode cX8_precommitsNil 13 = .ok (.aload_n 0, 1) := by decide +kernel
theorem dX8_precommitsNil_14 : decode cX8_precommitsNil 14 = .ok (.iload_n 1, 1) := by decide +kernel
theorem dX8_precommitsNil_15 : decode cX8_precommitsNil 15 = .ok (.iconst 0, 1) := by decide +kernel
theorem dX8_precommitsNil_16 : decode cX8_precommitsNil 16 = .ok (.invokevirtual 58, 3) := by decide +kernel
theorem dX8_precommitsNil_19 : decode cX8_precommitsNil 19 = .ok (.aload_n 0, 1) := by decide +kernel
theorem dX8_precommitsNil_20 : decode cX8_precommitsNil 20 = .ok (.iload_n 1, 1) := by decide +kernel
theorem dX8_precommitsNil_21 : decode cX8_precommitsNil 21 = .ok (.iconst 1, 1) := by decide +kernel
theorem dX8_precommitsNil_22 : decode cX8_precommitsNil 22 = .ok (.invokevirtual 58, 3) := by decide +kernel
theorem dX8_precommitsNil_25 : decode cX8_precommitsNil 25 = .ok (.iconst (-1), 1) := by decide +kernel
theorem dX8_precommitsNil_26 : decode cX8_precommitsNil 26 = .ok (.invokevirtual 108, 3) := by decide +kernel
theorem dX8_precommitsNil_29 : decode cX8_precommitsNil 29 = .ok (.aload_n 0, 1) := by decide +kernel
theorem dX8_precommitsNil_30 : decode cX8_precommitsNil 30 = .ok (.invokevirtual 112, 3) := by decide +kernel
theorem dX8_precommitsNil_33 : decode cX8_precommitsNil 33 = .ok (.if_icmp .lt 7, 3) := by decide +kernel
theorem dX8_precommitsNil_36 : decode cX8_precommitsNil 36 = .ok (.iconst 1, 1) := by decide +kernel
theorem dX8_precommitsNil_37 : decode cX8_precommitsNil 37 = .ok (.goto 4, 3) := by decide +kernel
theorem dX8_precommitsNil_40 : decode cX8_precommitsNil 40 = .ok (.iconst 0, 1) := by decide +kernel
theorem dX8_precommitsNil_41 : decode cX8_precommitsNil 41 = .ok (.istore_n 2, 1) := by decide +kernel
theorem dX8_precommitsNil_42 : decode cX8_precommitsNil 42 = .ok (.iload_n 2, 1) := by decide +kernel
theorem dX8_precommitsNil_43 : decode cX8_precommitsNil 43 = .ok (.ifCond .eq 10, 3) := by decide +kernel
theorem dX8_precommitsNil_46 : decode cX8_precommitsNil 46 = .ok (.aload_n 0, 1) := by decide +kernel
theorem dX8_precommitsNil_47 : decode cX8_precommitsNil 47 = .ok (.iload_n 1, 1) := by decide +kernel
theorem dX8_precommitsNil_48 : decode cX8_precommitsNil 48 = .ok (.iconst 2, 1) := by decide +kernel
theorem dX8_precommitsNil_49 : decode cX8_precommitsNil 49 = .ok (.iconst (-1), 1) := by decide +kernel
theorem dX8_precommitsNil_50 : decode cX8_precommitsNil 50 = .ok (.invokevirtual 121, 3) := by decide +kernel
theorem dX8_precommitsNil_53 : decode cX8_precommitsNil 53 = .ok (.iload_n 2, 1) := by decide +kernel
theorem dX8_precommitsNil_54 : decode cX8_precommitsNil 54 = .ok (.ireturn, 1) := by decide +kernel
set_option maxRecDepth 20000 in
theorem ggX8_timers_X8_get : GoodIn wsX8_timers wsX8_get := goodIn_r _ [5, 6, 27, 28, 29, 30, 31, 32, 33, 34, 35, 36] rfl (by decide +kernel)
set_option maxRecDepth 20000 in
theorem gX8_timers_X8_get : GoodIn wsX8_timers (wsV RX8 58 RX8 yX8_get wsX8_get) := goodIn_app (goodIn_of _ (by decide +kernel)) ggX8_timers_X8_get
set_option maxRecDepth 20000 in
theorem ggX8_timers_X8_voted : GoodIn wsX8_timers wsX8_voted := goodIn_r _ [10, 11, 12, 13, 14, 27, 28, 29, 30, 31, 32, 33, 34, 35, 36] rfl (by decide +kernel)
set_option maxRecDepth 20000 in
theorem gX8_timers_X8_voted : GoodIn wsX8_timers (wsV RX8 108 RX8 yX8_voted wsX8_voted) := goodIn_app (goodIn_of _ (by decide +kernel)) ggX8_timers_X8_voted
set_option maxRecDepth 20000 in
theorem ggX8_timers_X8_many : GoodIn wsX8_timers wsX8_many := goodIn_r _ [18, 11, 27, 28, 29, 30, 31, 32, 33, 34, 35, 36] rfl (by decide +kernel)
set_option maxRecDepth 20000 in
theorem gX8_timers_X8_many : GoodIn wsX8_timers (wsV RX8 112 RX8 yX8_many wsX8_many) := goodIn_app (goodIn_of _ (by decide +kernel)) ggX8_timers_X8_many
set_option maxRecDepth 20000 in
theorem ggX8_timers_X8_set : GoodIn wsX8_timers wsX8_set := goodIn_r _ [22, 6, 27, 28, 29, 30, 31, 32, 33, 34, 35, 36] rfl (by decide +kernel)
set_option maxRecDepth 20000 in
theorem gX8_timers_X8_set : GoodIn wsX8_timers (wsV RX8 65 RX8 yX8_set wsX8_set) := goodIn_app (goodIn_of _ (by decide +kernel)) ggX8_timers_X8_set
set_option maxRecDepth 20000 in
theorem ggX8_timers_X8_setTimer : GoodIn wsX8_timers wsX8_setTimer := goodIn_r _ [26, 19, 20, 21, 4, 22, 6, 1, 2, 3, 5, 27, 28, 29, 30, 31, 32, 33, 34, 35, 36] rfl (by decide +kernel)
set_option maxRecDepth 20000 in
theorem gX8_timers_X8_setTimer : GoodIn wsX8_timers (wsV RX8 69 RX8 yX8_setTimer wsX8_setTimer) := goodIn_app (goodIn_of _ (by decide +kernel)) ggX8_timers_X8_setTimer
theorem dX8_timers_0 : decode cX8_timers 0 = .ok (.aload_n 0, 1) := by decide +kernel
theorem dX8_timers_1 : decode cX8_timers 1 = .ok (.iload_n 1, 1) := by decide +kernel
theorem dX8_timers_2 : decode cX8_timers 2 = .ok (.iconst 2, 1) := by decide +kernel
theorem dX8_timers_3 : decode cX8_timers 3 = .ok (.invokevirtual 58, 3) := by decide +kernel
theorem dX8_timers_6 : decode cX8_timers 6 = .ok (.iconst 1, 1) := by decide +kernel
theorem dX8_timers_7 : decode cX8_timers 7 = .ok (.if_icmp .ne 56, 3) := by decide +kernel
theorem dX8_timers_10 : decode cX8_timers 10 = .ok (.aload_n 0, 1) := by decide +kernel
theorem dX8_timers_11 : decode cX8_timers 11 = .ok (.iload_n 1, 1) := by decide +kernel
theorem dX8_timers_12 : decode cX8_timers 12 = .ok (.bipush 9, 2) := by decide +kernel
theorem dX8_timers_14 : decode cX8_timers 14 = .ok (.invokevirtual 58, 3) := by decide +kernel
theorem dX8_timers_17 : decode cX8_timers 17 = .ok (.ifCond .ne 46, 3) := by decide +kernel
theorem dX8_timers_20 : decode cX8_timers 20 = .ok (.aload_n 0, 1) := by decide +kernel
theorem dX8_timers_21 : decode cX8_timers 21 = .ok (.iload_n 1, 1) := by decide +kernel
theorem dX8_timers_22 : decode cX8_timers 22 = .ok (.iconst 1, 1) := by decide +kernel
theorem dX8_timers_23 : decode cX8_timers 23 = .ok (.aload_n 0, 1) := by decide +kernel
theorem dX8_timers_24 : decode cX8_timers 24 = .ok (.iload_n 1, 1) := by decide +kernel
theorem dX8_timers_25 : decode cX8_timers 25 = .ok (.iconst 0, 1) := by decide +kernel
theorem dX8_timers_26 : decode cX8_timers 26 = .ok (.invokevirtual 58, 3) := by decide +kernel
theorem dX8_timers_29 : decode cX8_timers 29 = .ok (.aload_n 0, 1) := by decide +kernel
theorem dX8_timers_30 : decode cX8_timers 30 = .ok (.iload_n 1, 1) := by decide +kernel
theorem dX8_timers_31 : decode cX8_timers 31 = .ok (.iconst 1, 1) := by decide +kernel
theorem dX8_timers_32 : decode cX8_timers 32 = .ok (.invokevirtual 58, 3) := by decide +kernel
theorem dX8_timers_35 : decode cX8_timers 35 = .ok (.bipush (-2), 2) := by decide +kernel
theorem dX8_timers_37 : decode cX8_timers 37 = .ok (.invokevirtual 108, 3) := by decide +kernel
theorem dX8_timers_40 : decode cX8_timers 40 = .ok (.aload_n 0, 1) := by decide +kernel
theorem dX8_timers_41 : decode cX8_timers 41 = .ok (.invokevirtual 112, 3) := by decide +kernel
theorem dX8_timers_44 : decode cX8_timers 44 = .ok (.if_icmp .lt 19, 3) := by decide +kernel
theorem dX8_timers_47 : decode cX8_timers 47 = .ok (.aload_n 0, 1) := by decide +kernel
theorem dX8_timers_48 : decode cX8_timers 48 = .ok (.iload_n 1, 1) := by decide +kernel
theorem dX8_timers_49 : decode cX8_timers 49 = .ok (.bipush 9, 2) := by decide +kernel
theorem dX8_timers_51 : decode cX8_timers 51 = .ok (.iconst 1, 1) := by decide +kernel
theorem dX8_timers_52 : decode cX8_timers 52 = .ok (.invokevirtual 65, 3) := by decide +kernel
theorem dX8_timers_55 : decode cX8_timers 55 = .ok (.aload_n 0, 1) := by decide +kernel
theorem dX8_timers_56 : decode cX8_timers 56 = .ok (.iload_n 1, 1) := by decide +kernel
theorem dX8_timers_57 : decode cX8_timers 57 = .ok (.iconst 1, 1) := by decide +kernel
theorem dX8_timers_58 : decode cX8_timers 58 = .ok (.invokevirtual 69, 3) := by decide +kernel
theorem dX8_timers_61 : decode cX8_timers 61 = .ok (.iconst 1, 1) := by decide +kernel
theorem dX8_timers_62 : decode cX8_timers 62 = .ok (.ireturn, 1) := by decide +kernel
theorem dX8_timers_63 : decode cX8_timers 63 = .ok (.aload_n 0, 1) := by decide +kernel
theorem dX8_timers_64 : decode cX8_timers 64 = .ok (.iload_n 1, 1) := by decide +kernel
theorem dX8_timers_65 : decode cX8_timers 65 = .ok (.bipush 10, 2) := by decide +kernel
theorem dX8_timers_67 : decode cX8_timers 67 = .ok (.invokevirtual 58, 3) := by decide +kernel
theorem dX8_timers_70 : decode cX8_timers 70 = .ok (.ifCond .ne 46, 3) := by decide +kernel
theorem dX8_timers_73 : decode cX8_timers 73 = .ok (.aload_n 0, 1) := by decide +kernel
theorem dX8_timers_74 : decode cX8_timers 74 = .ok (.iload_n 1, 1) := by decide +kernel
theorem dX8_timers_75 : decode cX8_timers 75 = .ok (.iconst 2, 1) := by decide +kernel
theorem dX8_timers_76 : decode cX8_timers 76 = .ok (.aload_n 0, 1) := by decide +kernel
theorem dX8_timers_77 : decode cX8_timers 77 = .ok (.iload_n 1, 1) := by decide +kernel
theorem dX8_timers_78 : decode cX8_timers 78 = .ok (.iconst 0, 1) := by decide +kernel
theorem dX8_timers_79 : decode cX8_timers 79 = .ok (.invokevirtual 58, 3) := by decide +kernel
theorem dX8_timers_82 : decode cX8_timers 82 = .ok (.aload_n 0, 1) := by decide +kernel
theorem dX8_timers_83 : decode cX8_timers 83 = .ok (.iload_n 1, 1) := by decide +kernel
theorem dX8_timers_84 : decode cX8_timers 84 = .ok (.iconst 1, 1) := by decide +kernel
theorem dX8_timers_85 : decode cX8_timers 85 = .ok (.invokevirtual 58, 3) := by decide +kernel
theorem dX8_timers_88 : decode cX8_timers 88 = .ok (.bipush (-2), 2) := by decide +kernel
theorem dX8_timers_90 : decode cX8_timers 90 = .ok (.invokevirtual 108, 3) := by decide +kernel
theorem dX8_timers_93 : decode cX8_timers 93 = .ok (.aload_n 0, 1) := by decide +kernel
theorem dX8_timers_94 : decode cX8_timers 94 = .ok (.invokevirtual 112, 3) := by decide +kernel
theorem dX8_timers_97 : decode cX8_timers 97 = .ok (.if_icmp .lt 19, 3) := by decide +kernel
theorem dX8_timers_100 : decode cX8_timers 100 = .ok (.aload_n 0, 1) := by decide +kernel
theorem dX8_timers_101 : decode cX8_timers 101 = .ok (.iload_n 1, 1) := by decide +kernel
theorem dX8_timers_102 : decode cX8_timers 102 = .ok (.bipush 10, 2) := by decide +kernel
theorem dX8_timers_104 : decode cX8_timers 104 = .ok (.iconst 1, 1) := by decide +kernel
theorem dX8_timers_105 : decode cX8_timers 105 = .ok (.invokevirtual 65, 3) := by decide +kernel
theorem dX8_timers_108 : decode cX8_timers 108 = .ok (.aload_n 0, 1) := by decide +kernel
theorem dX8_timers_109 : decode cX8_timers 109 = .ok (.iload_n 1, 1) := by decide +kernel
theorem dX8_timers_110 : decode cX8_timers 110 = .ok (.iconst 2, 1) := by decide +kernel
theorem dX8_timers_111 : decode cX8_timers 111 = .ok (.invokevirtual 69, 3) := by decide +kernel
theorem dX8_timers_114 : decode cX8_timers 114 = .ok (.iconst 1, 1) := by decide +kernel
theorem dX8_timers_115 : decode cX8_timers 115 = .ok (.ireturn, 1) := by decide +kernel
theorem dX8_timers_116 : decode cX8_timers 116 = .ok (.iconst 0, 1) := by decide +kernel
theorem dX8_timers_117 : decode cX8_timers 117 = .ok (.ireturn, 1) := by decide +kernel
set_option maxRecDepth 20000 in
theorem ggX8_begin_X8_starts : GoodIn wsX8_begin wsX8_starts := goodIn_r _ [9, 10, 11, 12, 13, 8, 14, 15, 16, 17, 18, 19, 20, 21, 22, 23, 2, 24, 25, 26, 27, 28, 29, 30, 31, 4, 32, 33, 34, 35, 36, 37, 38, 98, 99, 100, 101, 102, 103, 104, 105, 106, 107] rfl (by decide +kernel)
set_option maxRecDepth 20000 in
theorem gX8_begin_X8_starts : GoodIn wsX8_begin (wsV RX8 115 RX8 yX8_starts wsX8_starts) := goodIn_app (goodIn_of _ (by decide +kernel)) ggX8_begin_X8_starts
set_option maxRecDepth 20000 in
theorem ggX8_begin_X8_rules : GoodIn wsX8_begin wsX8_rules := goodIn_r _ [42, 3, 43, 44, 45, 8, 46, 16, 17, 18, 19, 15, 47, 48, 49, 50, 51, 52, 53, 54, 4, 32, 38, 55, 56, 57, 58, 33, 20, 21, 22, 23, 2, 34, 35, 36, 37, 59, 60, 61, 62, 63, 64, 65, 66, 11, 12, 13, 14, 5, 6, 7, 9, 10, 24, 25, 26, 27, 28, 29, 30, 31, 67, 68, 69, 70, 71, 72, 73, 74, 75, 76, 77, 78, 79, 80, 81, 82, 83, 84, 85, 86, 87, 88, 89, 90, 91, 92, 93, 94, 95, 96, 97, 98, 99, 100, 101, 102, 103, 104, 105, 106, 107] rfl (by decide +kernel)
set_option maxRecDepth 20000 in
theorem gX8_begin_X8_rules : GoodIn wsX8_begin (wsV RX8 124 RX8 yX8_rules wsX8_rules) := goodIn_app (goodIn_of _ (by decide +kernel)) ggX8_begin_X8_rules
theorem dX8_begin_0 : decode cX8_begin 0 = .ok (.aload_n 0, 1) := by decide +kernel
theorem dX8_begin_1 : decode cX8_begin 1 = .ok (.getfield 40, 3) := by decide +kernel
theorem dX8_begin_4 : decode cX8_begin 4 = .ok (.ifCond .eq 6, 3) := by decide +kernel
theorem dX8_begin_7 : decode cX8_begin 7 = .ok (.bipush (-2), 2) := by decide +kernel
theorem dX8_begin_9 : decode cX8_begin 9 = .ok (.ireturn, 1) := by decide +kernel
theorem dX8_begin_10 : decode cX8_begin 10 = .ok (.aload_n 0, 1) := by decide +kernel
theorem dX8_begin_11 : decode cX8_begin 11 = .ok (.iconst 1, 1) := by decide +kernel
theorem dX8_begin_12 : decode cX8_begin 12 = .ok (.putfield 40, 3) := by decide +kernel
theorem dX8_begin_15 : decode cX8_begin 15 = .ok (.iconst 0, 1) := by decide +kernel
theorem dX8_begin_16 : decode cX8_begin 16 = .ok (.istore_n 1, 1) := by decide +kernel
theorem dX8_begin_17 : decode cX8_begin 17 = .ok (.iload_n 1, 1) := by decide +kernel
theorem dX8_begin_18 : decode cX8_begin 18 = .ok (.aload_n 0, 1) := by decide +kernel
theorem dX8_begin_19 : decode cX8_begin 19 = .ok (.getfield 29, 3) := by decide +kernel
theorem dX8_begin_22 : decode cX8_begin 22 = .ok (.if_icmp .ge 29, 3) := by decide +kernel
theorem dX8_begin_25 : decode cX8_begin 25 = .ok (.aload_n 0, 1) := by decide +kernel
theorem dX8_begin_26 : decode cX8_begin 26 = .ok (.getfield 7, 3) := by decide +kernel
theorem dX8_begin_29 : decode cX8_begin 29 = .ok (.iload_n 1, 1) := by decide +kernel
theorem dX8_begin_30 : decode cX8_begin 30 = .ok (.baload, 1) := by decide +kernel
theorem dX8_begin_31 : decode cX8_begin 31 = .ok (.ifCond .ne 14, 3) := by decide +kernel
theorem dX8_begin_34 : decode cX8_begin 34 = .ok (.aload_n 0, 1) := by decide +kernel
theorem dX8_begin_35 : decode cX8_begin 35 = .ok (.iload_n 1, 1) := by decide +kernel
theorem dX8_begin_36 : decode cX8_begin 36 = .ok (.iconst 0, 1) := by decide +kernel
theorem dX8_begin_37 : decode cX8_begin 37 = .ok (.invokevirtual 115, 3) := by decide +kernel
theorem dX8_begin_40 : decode cX8_begin 40 = .ok (.aload_n 0, 1) := by decide +kernel
theorem dX8_begin_41 : decode cX8_begin 41 = .ok (.iload_n 1, 1) := by decide +kernel
theorem dX8_begin_42 : decode cX8_begin 42 = .ok (.invokevirtual 124, 3) := by decide +kernel
theorem dX8_begin_45 : decode cX8_begin 45 = .ok (.iinc 1 1, 3) := by decide +kernel
theorem dX8_begin_48 : decode cX8_begin 48 = .ok (.goto (-31), 3) := by decide +kernel
theorem dX8_begin_51 : decode cX8_begin 51 = .ok (.aload_n 0, 1) := by decide +kernel
theorem dX8_begin_52 : decode cX8_begin 52 = .ok (.getfield 44, 3) := by decide +kernel
theorem dX8_begin_55 : decode cX8_begin 55 = .ok (.ireturn, 1) := by decide +kernel
set_option maxRecDepth 20000 in
theorem ggX8_say_X8_isSeat : GoodIn wsX8_say wsX8_isSeat := goodIn_r _ [8, 9, 10, 11, 7, 12, 19, 20, 21, 22, 23, 24, 25, 26, 27, 28] rfl (by decide +kernel)
set_option maxRecDepth 20000 in
theorem gX8_say_X8_isSeat : GoodIn wsX8_say (wsV RX8 50 RX8 yX8_isSeat wsX8_isSeat) := goodIn_app (goodIn_of _ (by decide +kernel)) ggX8_say_X8_isSeat
set_option maxRecDepth 20000 in
theorem ggX8_say_X8_in : GoodIn wsX8_say wsX8_in := goodIn_r _ [12] rfl (by decide +kernel)
set_option maxRecDepth 20000 in
theorem gX8_say_X8_in : GoodIn wsX8_say (va_wsS RX8 36 yX8_in wsX8_in) := goodIn_app (goodIn_of _ (by decide +kernel)) ggX8_say_X8_in
set_option maxRecDepth 20000 in
theorem ggX8_say_X8_sends : GoodIn wsX8_say wsX8_sends := goodIn_r _ [16, 3, 17, 18, 19, 20, 21, 22, 23, 24, 25, 26, 27, 28] rfl (by decide +kernel)
set_option maxRecDepth 20000 in
theorem gX8_say_X8_sends : GoodIn wsX8_say (wsV RX8 73 RX8 yX8_sends wsX8_sends) := goodIn_app (goodIn_of _ (by decide +kernel)) ggX8_say_X8_sends
theorem dX8_say_0 : decode cX8_say 0 = .ok (.aload_n 0, 1) := by decide +kernel
theorem dX8_say_1 : decode cX8_say 1 = .ok (.iload_n 1, 1) := by decide +kernel
theorem dX8_say_2 : decode cX8_say 2 = .ok (.invokevirtual 50, 3) := by decide +kernel
theorem dX8_say_5 : decode cX8_say 5 = .ok (.ifCond .eq 70, 3) := by decide +kernel
theorem dX8_say_8 : decode cX8_say 8 = .ok (.iload_n 2, 1) := by decide +kernel
theorem dX8_say_9 : decode cX8_say 9 = .ok (.iconst 0, 1) := by decide +kernel
theorem dX8_say_10 : decode cX8_say 10 = .ok (.iconst 2, 1) := by decide +kernel
theorem dX8_say_11 : decode cX8_say 11 = .ok (.invokestatic 36, 3) := by decide +kernel
theorem dX8_say_14 : decode cX8_say 14 = .ok (.ifCond .eq 61, 3) := by decide +kernel
theorem dX8_say_17 : decode cX8_say 17 = .ok (.iload_n 3, 1) := by decide +kernel
theorem dX8_say_18 : decode cX8_say 18 = .ok (.iconst 0, 1) := by decide +kernel
theorem dX8_say_19 : decode cX8_say 19 = .ok (.iconst 5, 1) := by decide +kernel
theorem dX8_say_20 : decode cX8_say 20 = .ok (.invokestatic 36, 3) := by decide +kernel
theorem dX8_say_23 : decode cX8_say 23 = .ok (.ifCond .eq 52, 3) := by decide +kernel
theorem dX8_say_26 : decode cX8_say 26 = .ok (.iload 4, 2) := by decide +kernel
theorem dX8_say_28 : decode cX8_say 28 = .ok (.iconst 0, 1) := by decide +kernel
theorem dX8_say_29 : decode cX8_say 29 = .ok (.bipush 9, 2) := by decide +kernel
theorem dX8_say_31 : decode cX8_say 31 = .ok (.invokestatic 36, 3) := by decide +kernel
theorem dX8_say_34 : decode cX8_say 34 = .ok (.ifCond .eq 41, 3) := by decide +kernel
theorem dX8_say_37 : decode cX8_say 37 = .ok (.iload 5, 2) := by decide +kernel
theorem dX8_say_39 : decode cX8_say 39 = .ok (.iload_n 2, 1) := by decide +kernel
theorem dX8_say_40 : decode cX8_say 40 = .ok (.ifCond .ne 7, 3) := by decide +kernel
theorem dX8_say_43 : decode cX8_say 43 = .ok (.iconst 0, 1) := by decide +kernel
theorem dX8_say_44 : decode cX8_say 44 = .ok (.goto 4, 3) := by decide +kernel
theorem dX8_say_47 : decode cX8_say 47 = .ok (.iconst (-1), 1) := by decide +kernel
theorem dX8_say_48 : decode cX8_say 48 = .ok (.bipush 99, 2) := by decide +kernel
theorem dX8_say_50 : decode cX8_say 50 = .ok (.invokestatic 36, 3) := by decide +kernel
theorem dX8_say_53 : decode cX8_say 53 = .ok (.ifCond .eq 22, 3) := by decide +kernel
theorem dX8_say_56 : decode cX8_say 56 = .ok (.iload_n 2, 1) := by decide +kernel
theorem dX8_say_57 : decode cX8_say 57 = .ok (.ifCond .gt 14, 3) := by decide +kernel
theorem dX8_say_60 : decode cX8_say 60 = .ok (.iload 6, 2) := by decide +kernel
theorem dX8_say_62 : decode cX8_say 62 = .ok (.iconst (-1), 1) := by decide +kernel
theorem dX8_say_63 : decode cX8_say 63 = .ok (.bipush 9, 2) := by decide +kernel
theorem dX8_say_65 : decode cX8_say 65 = .ok (.invokestatic 36, 3) := by decide +kernel
theorem dX8_say_68 : decode cX8_say 68 = .ok (.ifCond .eq 7, 3) := by decide +kernel
theorem dX8_say_71 : decode cX8_say 71 = .ok (.iconst 1, 1) := by decide +kernel
theorem dX8_say_72 : decode cX8_say 72 = .ok (.goto 4, 3) := by decide +kernel
theorem dX8_say_75 : decode cX8_say 75 = .ok (.iconst 0, 1) := by decide +kernel
theorem dX8_say_76 : decode cX8_say 76 = .ok (.istore 7, 2) := by decide +kernel
theorem dX8_say_78 : decode cX8_say 78 = .ok (.iload 7, 2) := by decide +kernel
theorem dX8_say_80 : decode cX8_say 80 = .ok (.ifCond .ne 5, 3) := by decide +kernel
theorem dX8_say_83 : decode cX8_say 83 = .ok (.iconst (-1), 1) := by decide +kernel
theorem dX8_say_84 : decode cX8_say 84 = .ok (.ireturn, 1) := by decide +kernel
theorem dX8_say_85 : decode cX8_say 85 = .ok (.aload_n 0, 1) := by decide +kernel
theorem dX8_say_86 : decode cX8_say 86 = .ok (.getfield 7, 3) := by decide +kernel
theorem dX8_say_89 : decode cX8_say 89 = .ok (.iload_n 1, 1) := by decide +kernel
theorem dX8_say_90 : decode cX8_say 90 = .ok (.baload, 1) := by decide +kernel
theorem dX8_say_91 : decode cX8_say 91 = .ok (.ifCond .eq 10, 3) := by decide +kernel
theorem dX8_say_94 : decode cX8_say 94 = .ok (.aload_n 0, 1) := by decide +kernel
theorem dX8_say_95 : decode cX8_say 95 = .ok (.getfield 40, 3) := by decide +kernel
theorem dX8_say_98 : decode cX8_say 98 = .ok (.ifCond .ne 6, 3) := by decide +kernel
theorem dX8_say_101 : decode cX8_say 101 = .ok (.bipush (-2), 2) := by decide +kernel
theorem dX8_say_103 : decode cX8_say 103 = .ok (.ireturn, 1) := by decide +kernel
theorem dX8_say_104 : decode cX8_say 104 = .ok (.aload_n 0, 1) := by decide +kernel
theorem dX8_say_105 : decode cX8_say 105 = .ok (.getfield 44, 3) := by decide +kernel
theorem dX8_say_108 : decode cX8_say 108 = .ok (.sipush 400, 3) := by decide +kernel
theorem dX8_say_111 : decode cX8_say 111 = .ok (.if_icmp .ne 6, 3) := by decide +kernel
theorem dX8_say_114 : decode cX8_say 114 = .ok (.bipush (-3), 2) := by decide +kernel
theorem dX8_say_116 : decode cX8_say 116 = .ok (.ireturn, 1) := by decide +kernel
theorem dX8_say_117 : decode cX8_say 117 = .ok (.aload_n 0, 1) := by decide +kernel
theorem dX8_say_118 : decode cX8_say 118 = .ok (.iload_n 1, 1) := by decide +kernel
theorem dX8_say_119 : decode cX8_say 119 = .ok (.iload_n 2, 1) := by decide +kernel
theorem dX8_say_120 : decode cX8_say 120 = .ok (.iload_n 3, 1) := by decide +kernel
theorem dX8_say_121 : decode cX8_say 121 = .ok (.iload 4, 2) := by decide +kernel
theorem dX8_say_123 : decode cX8_say 123 = .ok (.iload 5, 2) := by decide +kernel
theorem dX8_say_125 : decode cX8_say 125 = .ok (.iload_n 2, 1) := by decide +kernel
theorem dX8_say_126 : decode cX8_say 126 = .ok (.ifCond .ne 8, 3) := by decide +kernel
theorem dX8_say_129 : decode cX8_say 129 = .ok (.iload 6, 2) := by decide +kernel
theorem dX8_say_131 : decode cX8_say 131 = .ok (.goto 4, 3) := by decide +kernel
theorem dX8_say_134 : decode cX8_say 134 = .ok (.iconst (-1), 1) := by decide +kernel
theorem dX8_say_135 : decode cX8_say 135 = .ok (.iconst 0, 1) := by decide +kernel
theorem dX8_say_136 : decode cX8_say 136 = .ok (.invokevirtual 73, 3) := by decide +kernel
theorem dX8_say_139 : decode cX8_say 139 = .ok (.aload_n 0, 1) := by decide +kernel
theorem dX8_say_140 : decode cX8_say 140 = .ok (.getfield 44, 3) := by decide +kernel
theorem dX8_say_143 : decode cX8_say 143 = .ok (.iconst 1, 1) := by decide +kernel
theorem dX8_say_144 : decode cX8_say 144 = .ok (.isub, 1) := by decide +kernel
theorem dX8_say_145 : decode cX8_say 145 = .ok (.ireturn, 1) := by decide +kernel
set_option maxRecDepth 20000 in
theorem ggX8_comes_X8_rules : GoodIn wsX8_comes wsX8_rules := goodIn_r _ [6, 7, 8, 9, 10, 5, 11, 12, 13, 14, 15, 16, 17, 18, 19, 20, 21, 22, 23, 24, 25, 26, 27, 28, 29, 30, 31, 1, 32, 33, 34, 35, 36, 37, 38, 39, 40, 41, 42, 43, 44, 45, 46, 47, 48, 49, 50, 51, 52, 53, 54, 55, 56, 57, 58, 59, 60, 61, 62, 63, 64, 65, 66, 67, 68, 69, 70, 71, 72, 73, 74, 75, 76, 77, 78, 79, 80, 81, 82, 83, 84, 85, 86, 87, 88, 89, 90, 91, 92, 93, 94, 95, 96, 97, 98, 99, 100, 101, 102, 103, 104, 105, 106] rfl (by decide +kernel)
set_option maxRecDepth 20000 in
theorem gX8_comes_X8_rules : GoodIn wsX8_comes (wsV RX8 124 RX8 yX8_rules wsX8_rules) := goodIn_app (goodIn_of _ (by decide +kernel)) ggX8_comes_X8_rules
theorem dX8_comes_0 : decode cX8_comes 0 = .ok (.aload_n 0, 1) := by decide +kernel
theorem dX8_comes_1 : decode cX8_comes 1 = .ok (.getfield 26, 3) := by decide +kernel
theorem dX8_comes_4 : decode cX8_comes 4 = .ok (.bipush 7, 2) := by decide +kernel
theorem dX8_comes_6 : decode cX8_comes 6 = .ok (.iload_n 1, 1) := by decide +kernel
theorem dX8_comes_7 : decode cX8_comes 7 = .ok (.imul, 1) := by decide +kernel
theorem dX8_comes_8 : decode cX8_comes 8 = .ok (.iload_n 2, 1) := by decide +kernel
theorem dX8_comes_9 : decode cX8_comes 9 = .ok (.iadd, 1) := by decide +kernel
theorem dX8_comes_10 : decode cX8_comes 10 = .ok (.iconst 1, 1) := by decide +kernel
theorem dX8_comes_11 : decode cX8_comes 11 = .ok (.bastore, 1) := by decide +kernel
theorem dX8_comes_12 : decode cX8_comes 12 = .ok (.aload_n 0, 1) := by decide +kernel
theorem dX8_comes_13 : decode cX8_comes 13 = .ok (.iload_n 2, 1) := by decide +kernel
theorem dX8_comes_14 : decode cX8_comes 14 = .ok (.invokevirtual 124, 3) := by decide +kernel
theorem dX8_comes_17 : decode cX8_comes 17 = .ok (.return_, 1) := by decide +kernel
set_option maxRecDepth 20000 in
theorem ggX8_come_X8_in : GoodIn wsX8_come wsX8_in := goodIn_r _ [7] rfl (by decide +kernel)
set_option maxRecDepth 20000 in
theorem gX8_come_X8_in : GoodIn wsX8_come (va_wsS RX8 36 yX8_in wsX8_in) := goodIn_app (goodIn_of _ (by decide +kernel)) ggX8_come_X8_in
set_option maxRecDepth 20000 in
theorem ggX8_come_X8_isSeat : GoodIn wsX8_come wsX8_isSeat := goodIn_r _ [11, 12, 4, 5, 6, 7, 105, 106, 107, 108, 109, 110, 111, 112, 113, 114] rfl (by decide +kernel)
set_option maxRecDepth 20000 in
theorem gX8_come_X8_isSeat : GoodIn wsX8_come (wsV RX8 50 RX8 yX8_isSeat wsX8_isSeat) := goodIn_app (goodIn_of _ (by decide +kernel)) ggX8_come_X8_isSeat
set_option maxRecDepth 20000 in
theorem ggX8_come_X8_comes : GoodIn wsX8_come wsX8_comes := goodIn_r _ [16, 2, 17, 18, 19, 6, 20, 3, 21, 22, 23, 24, 25, 26, 27, 28, 29, 30, 31, 32, 33, 34, 35, 36, 37, 1, 38, 39, 40, 41, 42, 43, 44, 45, 46, 47, 12, 48, 49, 50, 51, 52, 53, 54, 55, 56, 57, 58, 59, 60, 61, 62, 63, 64, 65, 66, 67, 68, 69, 70, 71, 72, 73, 74, 75, 76, 77, 78, 79, 80, 81, 82, 83, 84, 85, 86, 87, 88, 89, 90, 91, 92, 4, 5, 7, 93, 94, 95, 96, 97, 98, 99, 100, 101, 102, 103, 104, 105, 106, 107, 108, 109, 110, 111, 112, 113, 114] rfl (by decide +kernel)
set_option maxRecDepth 20000 in
theorem gX8_come_X8_comes : GoodIn wsX8_come (wsV RX8 128 RX8 yX8_comes wsX8_comes) := goodIn_app (goodIn_of _ (by decide +kernel)) ggX8_come_X8_comes
theorem dX8_come_0 : decode cX8_come 0 = .ok (.iload_n 1, 1) := by decide +kernel
theorem dX8_come_1 : decode cX8_come 1 = .ok (.iconst 0, 1) := by decide +kernel
theorem dX8_come_2 : decode cX8_come 2 = .ok (.aload_n 0, 1) := by decide +kernel
theorem dX8_come_3 : decode cX8_come 3 = .ok (.getfield 44, 3) := by decide +kernel
theorem dX8_come_6 : decode cX8_come 6 = .ok (.iconst 1, 1) := by decide +kernel
theorem dX8_come_7 : decode cX8_come 7 = .ok (.isub, 1) := by decide +kernel
theorem dX8_come_8 : decode cX8_come 8 = .ok (.invokestatic 36, 3) := by decide +kernel
theorem dX8_come_11 : decode cX8_come 11 = .ok (.ifCond .eq 11, 3) := by decide +kernel
theorem dX8_come_14 : decode cX8_come 14 = .ok (.aload_n 0, 1) := by decide +kernel
theorem dX8_come_15 : decode cX8_come 15 = .ok (.iload_n 2, 1) := by decide +kernel
theorem dX8_come_16 : decode cX8_come 16 = .ok (.invokevirtual 50, 3) := by decide +kernel
theorem dX8_come_19 : decode cX8_come 19 = .ok (.ifCond .ne 5, 3) := by decide +kernel
theorem dX8_come_22 : decode cX8_come 22 = .ok (.iconst (-1), 1) := by decide +kernel
theorem dX8_come_23 : decode cX8_come 23 = .ok (.ireturn, 1) := by decide +kernel
theorem dX8_come_24 : decode cX8_come 24 = .ok (.aload_n 0, 1) := by decide +kernel
theorem dX8_come_25 : decode cX8_come 25 = .ok (.getfield 26, 3) := by decide +kernel
theorem dX8_come_28 : decode cX8_come 28 = .ok (.bipush 7, 2) := by decide +kernel
theorem dX8_come_30 : decode cX8_come 30 = .ok (.iload_n 1, 1) := by decide +kernel
theorem dX8_come_31 : decode cX8_come 31 = .ok (.imul, 1) := by decide +kernel
theorem dX8_come_32 : decode cX8_come 32 = .ok (.iload_n 2, 1) := by decide +kernel
theorem dX8_come_33 : decode cX8_come 33 = .ok (.iadd, 1) := by decide +kernel
theorem dX8_come_34 : decode cX8_come 34 = .ok (.baload, 1) := by decide +kernel
theorem dX8_come_35 : decode cX8_come 35 = .ok (.ifCond .ne 12, 3) := by decide +kernel
theorem dX8_come_38 : decode cX8_come 38 = .ok (.aload_n 0, 1) := by decide +kernel
theorem dX8_come_39 : decode cX8_come 39 = .ok (.getfield 7, 3) := by decide +kernel
theorem dX8_come_42 : decode cX8_come 42 = .ok (.iload_n 2, 1) := by decide +kernel
theorem dX8_come_43 : decode cX8_come 43 = .ok (.baload, 1) := by decide +kernel
theorem dX8_come_44 : decode cX8_come 44 = .ok (.ifCond .eq 6, 3) := by decide +kernel
theorem dX8_come_47 : decode cX8_come 47 = .ok (.bipush (-2), 2) := by decide +kernel
theorem dX8_come_49 : decode cX8_come 49 = .ok (.ireturn, 1) := by decide +kernel
theorem dX8_come_50 : decode cX8_come 50 = .ok (.aload_n 0, 1) := by decide +kernel
theorem dX8_come_51 : decode cX8_come 51 = .ok (.iload_n 1, 1) := by decide +kernel
theorem dX8_come_52 : decode cX8_come 52 = .ok (.iload_n 2, 1) := by decide +kernel
theorem dX8_come_53 : decode cX8_come 53 = .ok (.invokevirtual 128, 3) := by decide +kernel
theorem dX8_come_56 : decode cX8_come 56 = .ok (.aload_n 0, 1) := by decide +kernel
theorem dX8_come_57 : decode cX8_come 57 = .ok (.getfield 44, 3) := by decide +kernel
theorem dX8_come_60 : decode cX8_come 60 = .ok (.ireturn, 1) := by decide +kernel
set_option maxRecDepth 20000 in
theorem ggX8_ends_X8_set : GoodIn wsX8_ends wsX8_set := goodIn_r _ [5, 6, 97, 98, 99, 100, 101, 102, 103, 104, 105, 106] rfl (by decide +kernel)
set_option maxRecDepth 20000 in
theorem gX8_ends_X8_set : GoodIn wsX8_ends (wsV RX8 65 RX8 yX8_set wsX8_set) := goodIn_app (goodIn_of _ (by decide +kernel)) ggX8_ends_X8_set
set_option maxRecDepth 20000 in
theorem ggX8_ends_X8_get : GoodIn wsX8_ends wsX8_get := goodIn_r _ [10, 6, 97, 98, 99, 100, 101, 102, 103, 104, 105, 106] rfl (by decide +kernel)
set_option maxRecDepth 20000 in
theorem gX8_ends_X8_get : GoodIn wsX8_ends (wsV RX8 58 RX8 yX8_get wsX8_get) := goodIn_app (goodIn_of _ (by decide +kernel)) ggX8_ends_X8_get
set_option maxRecDepth 20000 in
theorem ggX8_ends_X8_casts : GoodIn wsX8_ends wsX8_casts := goodIn_r _ [14, 7, 8, 9, 4, 10, 6, 15, 16, 17, 18, 19, 20, 21, 1, 2, 3, 5, 97, 98, 99, 100, 101, 102, 103, 104, 105, 106] rfl (by decide +kernel)
set_option maxRecDepth 20000 in
theorem gX8_ends_X8_casts : GoodIn wsX8_ends (wsV RX8 121 RX8 yX8_casts wsX8_casts) := goodIn_app (goodIn_of _ (by decide +kernel)) ggX8_ends_X8_casts
set_option maxRecDepth 20000 in
theorem ggX8_ends_X8_starts : GoodIn wsX8_ends wsX8_starts := goodIn_r _ [25, 26, 1, 2, 3, 4, 5, 6, 7, 8, 9, 10, 27, 28, 29, 30, 31, 32, 33, 34, 35, 15, 16, 17, 18, 19, 20, 21, 36, 37, 38, 39, 40, 97, 98, 99, 100, 101, 102, 103, 104, 105, 106] rfl (by decide +kernel)
set_option maxRecDepth 20000 in
theorem gX8_ends_X8_starts : GoodIn wsX8_ends (wsV RX8 115 RX8 yX8_starts wsX8_starts) := goodIn_app (goodIn_of _ (by decide +kernel)) ggX8_ends_X8_starts
set_option maxRecDepth 20000 in
theorem ggX8_ends_X8_rules : GoodIn wsX8_ends wsX8_rules := goodIn_r _ [44, 45, 46, 47, 48, 4, 49, 7, 8, 9, 10, 6, 50, 51, 52, 53, 54, 55, 56, 57, 19, 20, 40, 58, 59, 60, 61, 21, 27, 28, 29, 30, 31, 36, 37, 38, 39, 62, 63, 64, 65, 66, 67, 68, 69, 1, 2, 3, 5, 22, 23, 24, 25, 26, 32, 33, 34, 35, 15, 16, 17, 18, 70, 71, 72, 73, 74, 75, 76, 77, 78, 79, 80, 81, 11, 12, 13, 14, 82, 83, 84, 85, 86, 87, 88, 89, 90, 91, 92, 93, 94, 95, 96, 97, 98, 99, 100, 101, 102, 103, 104, 105, 106] rfl (by decide +kernel)
set_option maxRecDepth 20000 in
theorem gX8_ends_X8_rules : GoodIn wsX8_ends (wsV RX8 124 RX8 yX8_rules wsX8_rules) := goodIn_app (goodIn_of _ (by decide +kernel)) ggX8_ends_X8_rules
theorem dX8_ends_0 : decode cX8_ends 0 = .ok (.aload_n 0, 1) := by decide +kernel
theorem dX8_ends_1 : decode cX8_ends 1 = .ok (.iload_n 1, 1) := by decide +kernel
theorem dX8_ends_2 : decode cX8_ends 2 = .ok (.bipush 11, 2) := by decide +kernel
theorem dX8_ends_4 : decode cX8_ends 4 = .ok (.iload_n 2, 1) := by decide +kernel
theorem dX8_ends_5 : decode cX8_ends 5 = .ok (.iadd, 1) := by decide +kernel
theorem dX8_ends_6 : decode cX8_ends 6 = .ok (.iconst 0, 1) := by decide +kernel
theorem dX8_ends_7 : decode cX8_ends 7 = .ok (.invokevirtual 65, 3) := by decide +kernel
theorem dX8_ends_10 : decode cX8_ends 10 = .ok (.aload_n 0, 1) := by decide +kernel
theorem dX8_ends_11 : decode cX8_ends 11 = .ok (.iload_n 1, 1) := by decide +kernel
theorem dX8_ends_12 : decode cX8_ends 12 = .ok (.bipush 14, 2) := by decide +kernel
theorem dX8_ends_14 : decode cX8_ends 14 = .ok (.iload_n 2, 1) := by decide +kernel
theorem dX8_ends_15 : decode cX8_ends 15 = .ok (.iadd, 1) := by decide +kernel
theorem dX8_ends_16 : decode cX8_ends 16 = .ok (.invokevirtual 58, 3) := by decide +kernel
theorem dX8_ends_19 : decode cX8_ends 19 = .ok (.bipush 10, 2) := by decide +kernel
theorem dX8_ends_21 : decode cX8_ends 21 = .ok (.aload_n 0, 1) := by decide +kernel
theorem dX8_ends_22 : decode cX8_ends 22 = .ok (.iload_n 1, 1) := by decide +kernel
theorem dX8_ends_23 : decode cX8_ends 23 = .ok (.iconst 0, 1) := by decide +kernel
theorem dX8_ends_24 : decode cX8_ends 24 = .ok (.invokevirtual 58, 3) := by decide +kernel
theorem dX8_ends_27 : decode cX8_ends 27 = .ok (.imul, 1) := by decide +kernel
theorem dX8_ends_28 : decode cX8_ends 28 = .ok (.aload_n 0, 1) := by decide +kernel
theorem dX8_ends_29 : decode cX8_ends 29 = .ok (.iload_n 1, 1) := by decide +kernel
theorem dX8_ends_30 : decode cX8_ends 30 = .ok (.iconst 1, 1) := by decide +kernel
theorem dX8_ends_31 : decode cX8_ends 31 = .ok (.invokevirtual 58, 3) := by decide +kernel
theorem dX8_ends_34 : decode cX8_ends 34 = .ok (.iadd, 1) := by decide +kernel
theorem dX8_ends_35 : decode cX8_ends 35 = .ok (.if_icmp .ne 69, 3) := by decide +kernel
theorem dX8_ends_38 : decode cX8_ends 38 = .ok (.iload_n 2, 1) := by decide +kernel
theorem dX8_ends_39 : decode cX8_ends 39 = .ok (.ifCond .ne 22, 3) := by decide +kernel
theorem dX8_ends_42 : decode cX8_ends 42 = .ok (.aload_n 0, 1) := by decide +kernel
theorem dX8_ends_43 : decode cX8_ends 43 = .ok (.iload_n 1, 1) := by decide +kernel
theorem dX8_ends_44 : decode cX8_ends 44 = .ok (.iconst 2, 1) := by decide +kernel
theorem dX8_ends_45 : decode cX8_ends 45 = .ok (.invokevirtual 58, 3) := by decide +kernel
theorem dX8_ends_48 : decode cX8_ends 48 = .ok (.ifCond .ne 13, 3) := by decide +kernel
theorem dX8_ends_51 : decode cX8_ends 51 = .ok (.aload_n 0, 1) := by decide +kernel
theorem dX8_ends_52 : decode cX8_ends 52 = .ok (.iload_n 1, 1) := by decide +kernel
theorem dX8_ends_53 : decode cX8_ends 53 = .ok (.iconst 1, 1) := by decide +kernel
theorem dX8_ends_54 : decode cX8_ends 54 = .ok (.iconst (-1), 1) := by decide +kernel
theorem dX8_ends_55 : decode cX8_ends 55 = .ok (.invokevirtual 121, 3) := by decide +kernel
theorem dX8_ends_58 : decode cX8_ends 58 = .ok (.goto 46, 3) := by decide +kernel
theorem dX8_ends_61 : decode cX8_ends 61 = .ok (.iload_n 2, 1) := by decide +kernel
theorem dX8_ends_62 : decode cX8_ends 62 = .ok (.iconst 1, 1) := by decide +kernel
theorem dX8_ends_63 : decode cX8_ends 63 = .ok (.if_icmp .ne 23, 3) := by decide +kernel
theorem dX8_ends_66 : decode cX8_ends 66 = .ok (.aload_n 0, 1) := by decide +kernel
theorem dX8_ends_67 : decode cX8_ends 67 = .ok (.iload_n 1, 1) := by decide +kernel
theorem dX8_ends_68 : decode cX8_ends 68 = .ok (.iconst 2, 1) := by decide +kernel
theorem dX8_ends_69 : decode cX8_ends 69 = .ok (.invokevirtual 58, 3) := by decide +kernel
theorem dX8_ends_72 : decode cX8_ends 72 = .ok (.iconst 1, 1) := by decide +kernel
theorem dX8_ends_73 : decode cX8_ends 73 = .ok (.if_icmp .ne 13, 3) := by decide +kernel
theorem dX8_ends_76 : decode cX8_ends 76 = .ok (.aload_n 0, 1) := by decide +kernel
theorem dX8_ends_77 : decode cX8_ends 77 = .ok (.iload_n 1, 1) := by decide +kernel
theorem dX8_ends_78 : decode cX8_ends 78 = .ok (.iconst 2, 1) := by decide +kernel
theorem dX8_ends_79 : decode cX8_ends 79 = .ok (.iconst (-1), 1) := by decide +kernel
theorem dX8_ends_80 : decode cX8_ends 80 = .ok (.invokevirtual 121, 3) := by decide +kernel
theorem dX8_ends_83 : decode cX8_ends 83 = .ok (.goto 21, 3) := by decide +kernel
theorem dX8_ends_86 : decode cX8_ends 86 = .ok (.iload_n 2, 1) := by decide +kernel
theorem dX8_ends_87 : decode cX8_ends 87 = .ok (.iconst 2, 1) := by decide +kernel
theorem dX8_ends_88 : decode cX8_ends 88 = .ok (.if_icmp .ne 16, 3) := by decide +kernel
theorem dX8_ends_91 : decode cX8_ends 91 = .ok (.aload_n 0, 1) := by decide +kernel
theorem dX8_ends_92 : decode cX8_ends 92 = .ok (.iload_n 1, 1) := by decide +kernel
theorem dX8_ends_93 : decode cX8_ends 93 = .ok (.aload_n 0, 1) := by decide +kernel
theorem dX8_ends_94 : decode cX8_ends 94 = .ok (.iload_n 1, 1) := by decide +kernel
theorem dX8_ends_95 : decode cX8_ends 95 = .ok (.iconst 1, 1) := by decide +kernel
theorem dX8_ends_96 : decode cX8_ends 96 = .ok (.invokevirtual 58, 3) := by decide +kernel
theorem dX8_ends_99 : decode cX8_ends 99 = .ok (.iconst 1, 1) := by decide +kernel
theorem dX8_ends_100 : decode cX8_ends 100 = .ok (.iadd, 1) := by decide +kernel
theorem dX8_ends_101 : decode cX8_ends 101 = .ok (.invokevirtual 115, 3) := by decide +kernel
theorem dX8_ends_104 : decode cX8_ends 104 = .ok (.aload_n 0, 1) := by decide +kernel
theorem dX8_ends_105 : decode cX8_ends 105 = .ok (.iload_n 1, 1) := by decide +kernel
theorem dX8_ends_106 : decode cX8_ends 106 = .ok (.invokevirtual 124, 3) := by decide +kernel
theorem dX8_ends_109 : decode cX8_ends 109 = .ok (.return_, 1) := by decide +kernel
set_option maxRecDepth 20000 in
theorem ggX8_end_X8_isSeat : GoodIn wsX8_end wsX8_isSeat := goodIn_r _ [6, 7, 8, 9, 5, 10, 105, 106, 107, 108, 109, 110, 111, 112, 113, 114] rfl (by decide +kernel)
set_option maxRecDepth 20000 in
theorem gX8_end_X8_isSeat : GoodIn wsX8_end (wsV RX8 50 RX8 yX8_isSeat wsX8_isSeat) := goodIn_app (goodIn_of _ (by decide +kernel)) ggX8_end_X8_isSeat
set_option maxRecDepth 20000 in
theorem ggX8_end_X8_in : GoodIn wsX8_end wsX8_in := goodIn_r _ [10] rfl (by decide +kernel)
set_option maxRecDepth 20000 in
theorem gX8_end_X8_in : GoodIn wsX8_end (va_wsS RX8 36 yX8_in wsX8_in) := goodIn_app (goodIn_of _ (by decide +kernel)) ggX8_end_X8_in
set_option maxRecDepth 20000 in
theorem ggX8_end_X8_get : GoodIn wsX8_end wsX8_get := goodIn_r _ [14, 15, 105, 106, 107, 108, 109, 110, 111, 112, 113, 114] rfl (by decide +kernel)
set_option maxRecDepth 20000 in
theorem gX8_end_X8_get : GoodIn wsX8_end (wsV RX8 58 RX8 yX8_get wsX8_get) := goodIn_app (goodIn_of _ (by decide +kernel)) ggX8_end_X8_get
set_option maxRecDepth 20000 in
theorem ggX8_end_X8_ends : GoodIn wsX8_end wsX8_ends := goodIn_r _ [19, 20, 21, 22, 5, 23, 15, 11, 12, 13, 14, 24, 25, 26, 27, 28, 29, 30, 31, 1, 32, 33, 34, 35, 36, 37, 38, 39, 40, 41, 42, 7, 43, 44, 45, 46, 47, 48, 49, 50, 51, 52, 53, 54, 55, 56, 57, 58, 59, 60, 61, 62, 63, 64, 65, 66, 67, 68, 69, 70, 71, 72, 73, 74, 75, 76, 77, 78, 79, 80, 81, 82, 83, 84, 85, 86, 87, 88, 89, 90, 91, 92, 8, 9, 10, 93, 94, 95, 96, 97, 98, 99, 100, 101, 102, 103, 104, 105, 106, 107, 108, 109, 110, 111, 112, 113, 114] rfl (by decide +kernel)
set_option maxRecDepth 20000 in
theorem gX8_end_X8_ends : GoodIn wsX8_end (wsV RX8 131 RX8 yX8_ends wsX8_ends) := goodIn_app (goodIn_of _ (by decide +kernel)) ggX8_end_X8_ends
theorem dX8_end_0 : decode cX8_end 0 = .ok (.aload_n 0, 1) := by decide +kernel
theorem dX8_end_1 : decode cX8_end 1 = .ok (.iload_n 1, 1) := by decide +kernel
theorem dX8_end_2 : decode cX8_end 2 = .ok (.invokevirtual 50, 3) := by decide +kernel
theorem dX8_end_5 : decode cX8_end 5 = .ok (.ifCond .eq 12, 3) := by decide +kernel
theorem dX8_end_8 : decode cX8_end 8 = .ok (.iload_n 2, 1) := by decide +kernel
theorem dX8_end_9 : decode cX8_end 9 = .ok (.iconst 0, 1) := by decide +kernel
theorem dX8_end_10 : decode cX8_end 10 = .ok (.iconst 2, 1) := by decide +kernel
theorem dX8_end_11 : decode cX8_end 11 = .ok (.invokestatic 36, 3) := by decide +kernel
theorem dX8_end_14 : decode cX8_end 14 = .ok (.ifCond .ne 5, 3) := by decide +kernel
theorem dX8_end_17 : decode cX8_end 17 = .ok (.iconst (-1), 1) := by decide +kernel
theorem dX8_end_18 : decode cX8_end 18 = .ok (.ireturn, 1) := by decide +kernel
theorem dX8_end_19 : decode cX8_end 19 = .ok (.aload_n 0, 1) := by decide +kernel
theorem dX8_end_20 : decode cX8_end 20 = .ok (.iload_n 1, 1) := by decide +kernel
theorem dX8_end_21 : decode cX8_end 21 = .ok (.bipush 11, 2) := by decide +kernel
theorem dX8_end_23 : decode cX8_end 23 = .ok (.iload_n 2, 1) := by decide +kernel
theorem dX8_end_24 : decode cX8_end 24 = .ok (.iadd, 1) := by decide +kernel
theorem dX8_end_25 : decode cX8_end 25 = .ok (.invokevirtual 58, 3) := by decide +kernel
theorem dX8_end_28 : decode cX8_end 28 = .ok (.ifCond .ne 6, 3) := by decide +kernel
theorem dX8_end_31 : decode cX8_end 31 = .ok (.bipush (-2), 2) := by decide +kernel
theorem dX8_end_33 : decode cX8_end 33 = .ok (.ireturn, 1) := by decide +kernel
theorem dX8_end_34 : decode cX8_end 34 = .ok (.aload_n 0, 1) := by decide +kernel
theorem dX8_end_35 : decode cX8_end 35 = .ok (.iload_n 1, 1) := by decide +kernel
theorem dX8_end_36 : decode cX8_end 36 = .ok (.iload_n 2, 1) := by decide +kernel
theorem dX8_end_37 : decode cX8_end 37 = .ok (.invokevirtual 131, 3) := by decide +kernel
theorem dX8_end_40 : decode cX8_end 40 = .ok (.aload_n 0, 1) := by decide +kernel
theorem dX8_end_41 : decode cX8_end 41 = .ok (.getfield 44, 3) := by decide +kernel
theorem dX8_end_44 : decode cX8_end 44 = .ok (.ireturn, 1) := by decide +kernel
set_option maxRecDepth 20000 in
theorem ggX8_turns_X8_comes : GoodIn wsX8_turns wsX8_comes := goodIn_r _ [9, 4, 10, 11, 12, 8, 13, 3, 14, 15, 16, 17, 18, 19, 20, 21, 22, 23, 24, 25, 26, 27, 28, 29, 30, 1, 31, 32, 33, 34, 35, 36, 37, 38, 39, 40, 2, 41, 42, 43, 44, 45, 46, 47, 48, 49, 50, 51, 52, 53, 54, 55, 56, 57, 58, 59, 60, 61, 62, 63, 64, 65, 66, 67, 68, 69, 70, 71, 72, 73, 74, 75, 76, 77, 78, 79, 80, 81, 82, 83, 84, 85, 86, 87, 88, 89, 90, 91, 92, 93, 94, 95, 96, 97, 98, 99, 100, 105, 106, 107, 108, 109, 110, 111, 112, 113, 114] rfl (by decide +kernel)
set_option maxRecDepth 20000 in
theorem gX8_turns_X8_comes : GoodIn wsX8_turns (wsV RX8 128 RX8 yX8_comes wsX8_comes) := goodIn_app (goodIn_of _ (by decide +kernel)) ggX8_turns_X8_comes
set_option maxRecDepth 20000 in
theorem ggX8_turns_X8_get : GoodIn wsX8_turns wsX8_get := goodIn_r _ [21, 22, 105, 106, 107, 108, 109, 110, 111, 112, 113, 114] rfl (by decide +kernel)
set_option maxRecDepth 20000 in
theorem gX8_turns_X8_get : GoodIn wsX8_turns (wsV RX8 58 RX8 yX8_get wsX8_get) := goodIn_app (goodIn_of _ (by decide +kernel)) ggX8_turns_X8_get
set_option maxRecDepth 20000 in
theorem ggX8_turns_X8_ends : GoodIn wsX8_turns wsX8_ends := goodIn_r _ [104, 53, 54, 55, 8, 56, 22, 18, 19, 20, 21, 82, 83, 84, 85, 66, 67, 68, 69, 1, 31, 4, 57, 58, 59, 60, 61, 37, 38, 39, 40, 2, 62, 63, 64, 65, 41, 42, 43, 44, 32, 10, 11, 12, 13, 3, 14, 15, 16, 17, 23, 24, 25, 26, 27, 28, 29, 30, 33, 34, 35, 36, 45, 46, 47, 48, 49, 50, 51, 52, 70, 71, 72, 73, 74, 75, 76, 77, 78, 79, 80, 81, 86, 87, 88, 89, 90, 91, 92, 93, 94, 95, 96, 97, 98, 99, 100, 105, 106, 107, 108, 109, 110, 111, 112, 113, 114] rfl (by decide +kernel)
set_option maxRecDepth 20000 in
theorem gX8_turns_X8_ends : GoodIn wsX8_turns (wsV RX8 131 RX8 yX8_ends wsX8_ends) := goodIn_app (goodIn_of _ (by decide +kernel)) ggX8_turns_X8_ends
theorem dX8_turns_0 : decode cX8_turns 0 = .ok (.iconst 0, 1) := by decide +kernel
theorem dX8_turns_1 : decode cX8_turns 1 = .ok (.istore_n 1, 1) := by decide +kernel
theorem dX8_turns_2 : decode cX8_turns 2 = .ok (.iconst 0, 1) := by decide +kernel
theorem dX8_turns_3 : decode cX8_turns 3 = .ok (.istore_n 2, 1) := by decide +kernel
theorem dX8_turns_4 : decode cX8_turns 4 = .ok (.iload_n 2, 1) := by decide +kernel
theorem dX8_turns_5 : decode cX8_turns 5 = .ok (.aload_n 0, 1) := by decide +kernel
theorem dX8_turns_6 : decode cX8_turns 6 = .ok (.getfield 44, 3) := by decide +kernel
theorem dX8_turns_9 : decode cX8_turns 9 = .ok (.if_icmp .ge 56, 3) := by decide +kernel
theorem dX8_turns_12 : decode cX8_turns 12 = .ok (.iconst 0, 1) := by decide +kernel
theorem dX8_turns_13 : decode cX8_turns 13 = .ok (.istore_n 3, 1) := by decide +kernel
theorem dX8_turns_14 : decode cX8_turns 14 = .ok (.iload_n 3, 1) := by decide +kernel
theorem dX8_turns_15 : decode cX8_turns 15 = .ok (.aload_n 0, 1) := by decide +kernel
theorem dX8_turns_16 : decode cX8_turns 16 = .ok (.getfield 29, 3) := by decide +kernel
theorem dX8_turns_19 : decode cX8_turns 19 = .ok (.if_icmp .ge 40, 3) := by decide +kernel
theorem dX8_turns_22 : decode cX8_turns 22 = .ok (.aload_n 0, 1) := by decide +kernel
theorem dX8_turns_23 : decode cX8_turns 23 = .ok (.getfield 7, 3) := by decide +kernel
theorem dX8_turns_26 : decode cX8_turns 26 = .ok (.iload_n 3, 1) := by decide +kernel
theorem dX8_turns_27 : decode cX8_turns 27 = .ok (.baload, 1) := by decide +kernel
theorem dX8_turns_28 : decode cX8_turns 28 = .ok (.ifCond .ne 25, 3) := by decide +kernel
theorem dX8_turns_31 : decode cX8_turns 31 = .ok (.aload_n 0, 1) := by decide +kernel
theorem dX8_turns_32 : decode cX8_turns 32 = .ok (.getfield 26, 3) := by decide +kernel
theorem dX8_turns_35 : decode cX8_turns 35 = .ok (.bipush 7, 2) := by decide +kernel
theorem dX8_turns_37 : decode cX8_turns 37 = .ok (.iload_n 2, 1) := by decide +kernel
theorem dX8_turns_38 : decode cX8_turns 38 = .ok (.imul, 1) := by decide +kernel
theorem dX8_turns_39 : decode cX8_turns 39 = .ok (.iload_n 3, 1) := by decide +kernel
theorem dX8_turns_40 : decode cX8_turns 40 = .ok (.iadd, 1) := by decide +kernel
theorem dX8_turns_41 : decode cX8_turns 41 = .ok (.baload, 1) := by decide +kernel
theorem dX8_turns_42 : decode cX8_turns 42 = .ok (.ifCond .ne 11, 3) := by decide +kernel
theorem dX8_turns_45 : decode cX8_turns 45 = .ok (.iconst 1, 1) := by decide +kernel
theorem dX8_turns_46 : decode cX8_turns 46 = .ok (.istore_n 1, 1) := by decide +kernel
theorem dX8_turns_47 : decode cX8_turns 47 = .ok (.aload_n 0, 1) := by decide +kernel
theorem dX8_turns_48 : decode cX8_turns 48 = .ok (.iload_n 2, 1) := by decide +kernel
theorem dX8_turns_49 : decode cX8_turns 49 = .ok (.iload_n 3, 1) := by decide +kernel
theorem dX8_turns_50 : decode cX8_turns 50 = .ok (.invokevirtual 128, 3) := by decide +kernel
theorem dX8_turns_53 : decode cX8_turns 53 = .ok (.iinc 3 1, 3) := by decide +kernel
theorem dX8_turns_56 : decode cX8_turns 56 = .ok (.goto (-42), 3) := by decide +kernel
theorem dX8_turns_59 : decode cX8_turns 59 = .ok (.iinc 2 1, 3) := by decide +kernel
theorem dX8_turns_62 : decode cX8_turns 62 = .ok (.goto (-58), 3) := by decide +kernel
theorem dX8_turns_65 : decode cX8_turns 65 = .ok (.iload_n 1, 1) := by decide +kernel
theorem dX8_turns_66 : decode cX8_turns 66 = .ok (.ifCond .eq 5, 3) := by decide +kernel
theorem dX8_turns_69 : decode cX8_turns 69 = .ok (.iconst 1, 1) := by decide +kernel
theorem dX8_turns_70 : decode cX8_turns 70 = .ok (.ireturn, 1) := by decide +kernel
theorem dX8_turns_71 : decode cX8_turns 71 = .ok (.iconst 0, 1) := by decide +kernel
theorem dX8_turns_72 : decode cX8_turns 72 = .ok (.istore_n 2, 1) := by decide +kernel
theorem dX8_turns_73 : decode cX8_turns 73 = .ok (.iload_n 2, 1) := by decide +kernel
theorem dX8_turns_74 : decode cX8_turns 74 = .ok (.aload_n 0, 1) := by decide +kernel
theorem dX8_turns_75 : decode cX8_turns 75 = .ok (.getfield 29, 3) := by decide +kernel
theorem dX8_turns_78 : decode cX8_turns 78 = .ok (.if_icmp .ge 43, 3) := by decide +kernel
theorem dX8_turns_81 : decode cX8_turns 81 = .ok (.iconst 0, 1) := by decide +kernel
theorem dX8_turns_82 : decode cX8_turns 82 = .ok (.istore_n 3, 1) := by decide +kernel
theorem dX8_turns_83 : decode cX8_turns 83 = .ok (.iload_n 3, 1) := by decide +kernel
theorem dX8_turns_84 : decode cX8_turns 84 = .ok (.iconst 3, 1) := by decide +kernel
theorem dX8_turns_85 : decode cX8_turns 85 = .ok (.if_icmp .ge 30, 3) := by decide +kernel
theorem dX8_turns_88 : decode cX8_turns 88 = .ok (.aload_n 0, 1) := by decide +kernel
theorem dX8_turns_89 : decode cX8_turns 89 = .ok (.iload_n 2, 1) := by decide +kernel
theorem dX8_turns_90 : decode cX8_turns 90 = .ok (.bipush 11, 2) := by decide +kernel
theorem dX8_turns_92 : decode cX8_turns 92 = .ok (.iload_n 3, 1) := by decide +kernel
theorem dX8_turns_93 : decode cX8_turns 93 = .ok (.iadd, 1) := by decide +kernel
theorem dX8_turns_94 : decode cX8_turns 94 = .ok (.invokevirtual 58, 3) := by decide +kernel
theorem dX8_turns_97 : decode cX8_turns 97 = .ok (.iconst 1, 1) := by decide +kernel
theorem dX8_turns_98 : decode cX8_turns 98 = .ok (.if_icmp .ne 11, 3) := by decide +kernel
theorem dX8_turns_101 : decode cX8_turns 101 = .ok (.iconst 1, 1) := by decide +kernel
theorem dX8_turns_102 : decode cX8_turns 102 = .ok (.istore_n 1, 1) := by decide +kernel
theorem dX8_turns_103 : decode cX8_turns 103 = .ok (.aload_n 0, 1) := by decide +kernel
theorem dX8_turns_104 : decode cX8_turns 104 = .ok (.iload_n 2, 1) := by decide +kernel
theorem dX8_turns_105 : decode cX8_turns 105 = .ok (.iload_n 3, 1) := by decide +kernel
theorem dX8_turns_106 : decode cX8_turns 106 = .ok (.invokevirtual 131, 3) := by decide +kernel
theorem dX8_turns_109 : decode cX8_turns 109 = .ok (.iinc 3 1, 3) := by decide +kernel
theorem dX8_turns_112 : decode cX8_turns 112 = .ok (.goto (-29), 3) := by decide +kernel
theorem dX8_turns_115 : decode cX8_turns 115 = .ok (.iinc 2 1, 3) := by decide +kernel
theorem dX8_turns_118 : decode cX8_turns 118 = .ok (.goto (-45), 3) := by decide +kernel
theorem dX8_turns_121 : decode cX8_turns 121 = .ok (.iload_n 1, 1) := by decide +kernel
theorem dX8_turns_122 : decode cX8_turns 122 = .ok (.ireturn, 1) := by decide +kernel
set_option maxRecDepth 20000 in
theorem ggX8_fair_X8_in : GoodIn wsX8_fair wsX8_in := goodIn_r _ [5] rfl (by decide +kernel)
set_option maxRecDepth 20000 in
theorem gX8_fair_X8_in : GoodIn wsX8_fair (va_wsS RX8 36 yX8_in wsX8_in) := goodIn_app (goodIn_of _ (by decide +kernel)) ggX8_fair_X8_in
set_option maxRecDepth 20000 in
theorem ggX8_fair_X8_turns : GoodIn wsX8_fair wsX8_turns := goodIn_r _ [9, 10, 11, 12, 13, 14, 15, 16, 4, 17, 18, 19, 20, 21, 22, 23, 24, 25, 26, 27, 28, 29, 30, 31, 32, 33, 34, 35, 36, 37, 38, 39, 40, 41, 42, 43, 44, 45, 46, 47, 48, 49, 50, 51, 52, 53, 54, 55, 56, 57, 58, 59, 60, 61, 62, 63, 64, 65, 66, 67, 68, 69, 70, 71, 72, 73, 74, 75, 76, 77, 78, 79, 80, 81, 82, 83, 84, 85, 86, 87, 88, 89, 90, 91, 92, 93, 2, 3, 5, 94, 95, 96, 97, 98, 99, 100, 101, 102, 103, 104, 105, 106, 107, 108, 109, 110, 111, 112, 113, 114, 115, 116, 117, 118, 119] rfl (by decide +kernel)
set_option maxRecDepth 20000 in
theorem gX8_fair_X8_turns : GoodIn wsX8_fair (wsV RX8 134 RX8 yX8_turns wsX8_turns) := goodIn_app (goodIn_of _ (by decide +kernel)) ggX8_fair_X8_turns
theorem dX8_fair_0 : decode cX8_fair 0 = .ok (.iload_n 1, 1) := by decide +kernel
theorem dX8_fair_1 : decode cX8_fair 1 = .ok (.iconst 1, 1) := by decide +kernel
theorem dX8_fair_2 : decode cX8_fair 2 = .ok (.bipush 30, 2) := by decide +kernel
theorem dX8_fair_4 : decode cX8_fair 4 = .ok (.invokestatic 36, 3) := by decide +kernel
theorem dX8_fair_7 : decode cX8_fair 7 = .ok (.ifCond .ne 5, 3) := by decide +kernel
theorem dX8_fair_10 : decode cX8_fair 10 = .ok (.iconst (-1), 1) := by decide +kernel
theorem dX8_fair_11 : decode cX8_fair 11 = .ok (.ireturn, 1) := by decide +kernel
theorem dX8_fair_12 : decode cX8_fair 12 = .ok (.aload_n 0, 1) := by decide +kernel
theorem dX8_fair_13 : decode cX8_fair 13 = .ok (.getfield 40, 3) := by decide +kernel
theorem dX8_fair_16 : decode cX8_fair 16 = .ok (.ifCond .ne 6, 3) := by decide +kernel
theorem dX8_fair_19 : decode cX8_fair 19 = .ok (.bipush (-2), 2) := by decide +kernel
theorem dX8_fair_21 : decode cX8_fair 21 = .ok (.ireturn, 1) := by decide +kernel
theorem dX8_fair_22 : decode cX8_fair 22 = .ok (.iconst 0, 1) := by decide +kernel
theorem dX8_fair_23 : decode cX8_fair 23 = .ok (.istore_n 2, 1) := by decide +kernel
theorem dX8_fair_24 : decode cX8_fair 24 = .ok (.iload_n 2, 1) := by decide +kernel
theorem dX8_fair_25 : decode cX8_fair 25 = .ok (.iload_n 1, 1) := by decide +kernel
theorem dX8_fair_26 : decode cX8_fair 26 = .ok (.if_icmp .ge 16, 3) := by decide +kernel
theorem dX8_fair_29 : decode cX8_fair 29 = .ok (.aload_n 0, 1) := by decide +kernel
theorem dX8_fair_30 : decode cX8_fair 30 = .ok (.invokevirtual 134, 3) := by decide +kernel
theorem dX8_fair_33 : decode cX8_fair 33 = .ok (.ifCond .eq 9, 3) := by decide +kernel
theorem dX8_fair_36 : decode cX8_fair 36 = .ok (.iinc 2 1, 3) := by decide +kernel
theorem dX8_fair_39 : decode cX8_fair 39 = .ok (.goto (-15), 3) := by decide +kernel
theorem dX8_fair_42 : decode cX8_fair 42 = .ok (.iload_n 2, 1) := by decide +kernel
theorem dX8_fair_43 : decode cX8_fair 43 = .ok (.ireturn, 1) := by decide +kernel
set_option maxRecDepth 20000 in
theorem ggX8_seat_X8_isSeat : GoodIn wsX8_seat wsX8_isSeat := goodIn_r _ [6, 7, 8, 9, 5, 10, 25, 26, 27, 28, 29, 30, 31, 32, 33, 34] rfl (by decide +kernel)
set_option maxRecDepth 20000 in
theorem gX8_seat_X8_isSeat : GoodIn wsX8_seat (wsV RX8 50 RX8 yX8_isSeat wsX8_isSeat) := goodIn_app (goodIn_of _ (by decide +kernel)) ggX8_seat_X8_isSeat
set_option maxRecDepth 20000 in
theorem ggX8_seat_X8_in : GoodIn wsX8_seat wsX8_in := goodIn_r _ [10] rfl (by decide +kernel)
set_option maxRecDepth 20000 in
theorem gX8_seat_X8_in : GoodIn wsX8_seat (va_wsS RX8 36 yX8_in wsX8_in) := goodIn_app (goodIn_of _ (by decide +kernel)) ggX8_seat_X8_in
set_option maxRecDepth 20000 in
theorem ggX8_seat_X8_get : GoodIn wsX8_seat wsX8_get := goodIn_r _ [14, 15, 25, 26, 27, 28, 29, 30, 31, 32, 33, 34] rfl (by decide +kernel)
set_option maxRecDepth 20000 in
theorem gX8_seat_X8_get : GoodIn wsX8_seat (wsV RX8 58 RX8 yX8_get wsX8_get) := goodIn_app (goodIn_of _ (by decide +kernel)) ggX8_seat_X8_get
set_option maxRecDepth 20000 in
theorem ggX8_seat_X8_isDone : GoodIn wsX8_seat wsX8_isDone := goodIn_r _ [19, 11, 12, 13, 5, 14, 15, 25, 26, 27, 28, 29, 30, 31, 32, 33, 34] rfl (by decide +kernel)
set_option maxRecDepth 20000 in
theorem gX8_seat_X8_isDone : GoodIn wsX8_seat (wsV RX8 81 RX8 yX8_isDone wsX8_isDone) := goodIn_app (goodIn_of _ (by decide +kernel)) ggX8_seat_X8_isDone
set_option maxRecDepth 20000 in
theorem ggX8_seat_X8_held : GoodIn wsX8_seat wsX8_held := goodIn_r _ [23, 24, 25, 26, 27, 28, 29, 30, 31, 32, 33, 34] rfl (by decide +kernel)
set_option maxRecDepth 20000 in
theorem gX8_seat_X8_held : GoodIn wsX8_seat (wsV RX8 138 RX8 yX8_held wsX8_held) := goodIn_app (goodIn_of _ (by decide +kernel)) ggX8_seat_X8_held
theorem dX8_seat_0 : decode cX8_seat 0 = .ok (.aload_n 0, 1) := by decide +kernel
theorem dX8_seat_1 : decode cX8_seat 1 = .ok (.iload_n 1, 1) := by decide +kernel
theorem dX8_seat_2 : decode cX8_seat 2 = .ok (.invokevirtual 50, 3) := by decide +kernel
theorem dX8_seat_5 : decode cX8_seat 5 = .ok (.ifCond .eq 13, 3) := by decide +kernel
theorem dX8_seat_8 : decode cX8_seat 8 = .ok (.iload_n 2, 1) := by decide +kernel
theorem dX8_seat_9 : decode cX8_seat 9 = .ok (.iconst 0, 1) := by decide +kernel
theorem dX8_seat_10 : decode cX8_seat 10 = .ok (.bipush 9, 2) := by decide +kernel
theorem dX8_seat_12 : decode cX8_seat 12 = .ok (.invokestatic 36, 3) := by decide +kernel
theorem dX8_seat_15 : decode cX8_seat 15 = .ok (.ifCond .ne 5, 3) := by decide +kernel
theorem dX8_seat_18 : decode cX8_seat 18 = .ok (.iconst (-1), 1) := by decide +kernel
theorem dX8_seat_19 : decode cX8_seat 19 = .ok (.ireturn, 1) := by decide +kernel
theorem dX8_seat_20 : decode cX8_seat 20 = .ok (.iload_n 2, 1) := by decide +kernel
theorem dX8_seat_21 : decode cX8_seat 21 = .ok (.tableswitch 227 0 8 #[51, 58, 65, 72, 93, 114, 135, 157, 185], 51) := by decide +kernel
theorem dX8_seat_72 : decode cX8_seat 72 = .ok (.aload_n 0, 1) := by decide +kernel
theorem dX8_seat_73 : decode cX8_seat 73 = .ok (.iload_n 1, 1) := by decide +kernel
theorem dX8_seat_74 : decode cX8_seat 74 = .ok (.iconst 0, 1) := by decide +kernel
theorem dX8_seat_75 : decode cX8_seat 75 = .ok (.invokevirtual 58, 3) := by decide +kernel
theorem dX8_seat_78 : decode cX8_seat 78 = .ok (.ireturn, 1) := by decide +kernel
theorem dX8_seat_79 : decode cX8_seat 79 = .ok (.aload_n 0, 1) := by decide +kernel
theorem dX8_seat_80 : decode cX8_seat 80 = .ok (.iload_n 1, 1) := by decide +kernel
theorem dX8_seat_81 : decode cX8_seat 81 = .ok (.iconst 1, 1) := by decide +kernel
theorem dX8_seat_82 : decode cX8_seat 82 = .ok (.invokevirtual 58, 3) := by decide +kernel
theorem dX8_seat_85 : decode cX8_seat 85 = .ok (.ireturn, 1) := by decide +kernel
theorem dX8_seat_86 : decode cX8_seat 86 = .ok (.aload_n 0, 1) := by decide +kernel
theorem dX8_seat_87 : decode cX8_seat 87 = .ok (.iload_n 1, 1) := by decide +kernel
theorem dX8_seat_88 : decode cX8_seat 88 = .ok (.iconst 2, 1) := by decide +kernel
theorem dX8_seat_89 : decode cX8_seat 89 = .ok (.invokevirtual 58, 3) := by decide +kernel
theorem dX8_seat_92 : decode cX8_seat 92 = .ok (.ireturn, 1) := by decide +kernel
theorem dX8_seat_93 : decode cX8_seat 93 = .ok (.aload_n 0, 1) := by decide +kernel
theorem dX8_seat_94 : decode cX8_seat 94 = .ok (.iload_n 1, 1) := by decide +kernel
theorem dX8_seat_95 : decode cX8_seat 95 = .ok (.iconst 3, 1) := by decide +kernel
theorem dX8_seat_96 : decode cX8_seat 96 = .ok (.invokevirtual 58, 3) := by decide +kernel
theorem dX8_seat_99 : decode cX8_seat 99 = .ok (.ifCond .ge 8, 3) := by decide +kernel
theorem dX8_seat_102 : decode cX8_seat 102 = .ok (.bipush (-4), 2) := by decide +kernel
theorem dX8_seat_104 : decode cX8_seat 104 = .ok (.goto 9, 3) := by decide +kernel
theorem dX8_seat_107 : decode cX8_seat 107 = .ok (.aload_n 0, 1) := by decide +kernel
theorem dX8_seat_108 : decode cX8_seat 108 = .ok (.iload_n 1, 1) := by decide +kernel
theorem dX8_seat_109 : decode cX8_seat 109 = .ok (.iconst 3, 1) := by decide +kernel
theorem dX8_seat_110 : decode cX8_seat 110 = .ok (.invokevirtual 58, 3) := by decide +kernel
theorem dX8_seat_113 : decode cX8_seat 113 = .ok (.ireturn, 1) := by decide +kernel
theorem dX8_seat_114 : decode cX8_seat 114 = .ok (.aload_n 0, 1) := by decide +kernel
theorem dX8_seat_115 : decode cX8_seat 115 = .ok (.iload_n 1, 1) := by decide +kernel
theorem dX8_seat_116 : decode cX8_seat 116 = .ok (.iconst 3, 1) := by decide +kernel
theorem dX8_seat_117 : decode cX8_seat 117 = .ok (.invokevirtual 58, 3) := by decide +kernel
theorem dX8_seat_120 : decode cX8_seat 120 = .ok (.ifCond .ge 8, 3) := by decide +kernel
theorem dX8_seat_123 : decode cX8_seat 123 = .ok (.bipush (-4), 2) := by decide +kernel
theorem dX8_seat_125 : decode cX8_seat 125 = .ok (.goto 9, 3) := by decide +kernel
theorem dX8_seat_128 : decode cX8_seat 128 = .ok (.aload_n 0, 1) := by decide +kernel
theorem dX8_seat_129 : decode cX8_seat 129 = .ok (.iload_n 1, 1) := by decide +kernel
theorem dX8_seat_130 : decode cX8_seat 130 = .ok (.iconst 4, 1) := by decide +kernel
theorem dX8_seat_131 : decode cX8_seat 131 = .ok (.invokevirtual 58, 3) := by decide +kernel
theorem dX8_seat_134 : decode cX8_seat 134 = .ok (.ireturn, 1) := by decide +kernel
theorem dX8_seat_135 : decode cX8_seat 135 = .ok (.aload_n 0, 1) := by decide +kernel
theorem dX8_seat_136 : decode cX8_seat 136 = .ok (.iload_n 1, 1) := by decide +kernel
theorem dX8_seat_137 : decode cX8_seat 137 = .ok (.iconst 5, 1) := by decide +kernel
theorem dX8_seat_138 : decode cX8_seat 138 = .ok (.invokevirtual 58, 3) := by decide +kernel
theorem dX8_seat_141 : decode cX8_seat 141 = .ok (.ifCond .ge 8, 3) := by decide +kernel
theorem dX8_seat_144 : decode cX8_seat 144 = .ok (.bipush (-4), 2) := by decide +kernel
theorem dX8_seat_146 : decode cX8_seat 146 = .ok (.goto 9, 3) := by decide +kernel
theorem dX8_seat_149 : decode cX8_seat 149 = .ok (.aload_n 0, 1) := by decide +kernel
theorem dX8_seat_150 : decode cX8_seat 150 = .ok (.iload_n 1, 1) := by decide +kernel
theorem dX8_seat_151 : decode cX8_seat 151 = .ok (.iconst 5, 1) := by decide +kernel
theorem dX8_seat_152 : decode cX8_seat 152 = .ok (.invokevirtual 58, 3) := by decide +kernel
theorem dX8_seat_155 : decode cX8_seat 155 = .ok (.ireturn, 1) := by decide +kernel
theorem dX8_seat_156 : decode cX8_seat 156 = .ok (.aload_n 0, 1) := by decide +kernel
theorem dX8_seat_157 : decode cX8_seat 157 = .ok (.iload_n 1, 1) := by decide +kernel
theorem dX8_seat_158 : decode cX8_seat 158 = .ok (.iconst 5, 1) := by decide +kernel
theorem dX8_seat_159 : decode cX8_seat 159 = .ok (.invokevirtual 58, 3) := by decide +kernel
theorem dX8_seat_162 : decode cX8_seat 162 = .ok (.ifCond .ge 8, 3) := by decide +kernel
theorem dX8_seat_165 : decode cX8_seat 165 = .ok (.bipush (-4), 2) := by decide +kernel
theorem dX8_seat_167 : decode cX8_seat 167 = .ok (.goto 10, 3) := by decide +kernel
theorem dX8_seat_170 : decode cX8_seat 170 = .ok (.aload_n 0, 1) := by decide +kernel
theorem dX8_seat_171 : decode cX8_seat 171 = .ok (.iload_n 1, 1) := by decide +kernel
theorem dX8_seat_172 : decode cX8_seat 172 = .ok (.bipush 6, 2) := by decide +kernel
theorem dX8_seat_174 : decode cX8_seat 174 = .ok (.invokevirtual 58, 3) := by decide +kernel
theorem dX8_seat_177 : decode cX8_seat 177 = .ok (.ireturn, 1) := by decide +kernel
theorem dX8_seat_178 : decode cX8_seat 178 = .ok (.aload_n 0, 1) := by decide +kernel
theorem dX8_seat_179 : decode cX8_seat 179 = .ok (.iload_n 1, 1) := by decide +kernel
theorem dX8_seat_180 : decode cX8_seat 180 = .ok (.bipush 11, 2) := by decide +kernel
theorem dX8_seat_182 : decode cX8_seat 182 = .ok (.invokevirtual 58, 3) := by decide +kernel
theorem dX8_seat_185 : decode cX8_seat 185 = .ok (.iconst 2, 1) := by decide +kernel
theorem dX8_seat_186 : decode cX8_seat 186 = .ok (.aload_n 0, 1) := by decide +kernel
theorem dX8_seat_187 : decode cX8_seat 187 = .ok (.iload_n 1, 1) := by decide +kernel
theorem dX8_seat_188 : decode cX8_seat 188 = .ok (.bipush 12, 2) := by decide +kernel
theorem dX8_seat_190 : decode cX8_seat 190 = .ok (.invokevirtual 58, 3) := by decide +kernel
theorem dX8_seat_193 : decode cX8_seat 193 = .ok (.imul, 1) := by decide +kernel
theorem dX8_seat_194 : decode cX8_seat 194 = .ok (.iadd, 1) := by decide +kernel
theorem dX8_seat_195 : decode cX8_seat 195 = .ok (.iconst 4, 1) := by decide +kernel
theorem dX8_seat_196 : decode cX8_seat 196 = .ok (.aload_n 0, 1) := by decide +kernel
theorem dX8_seat_197 : decode cX8_seat 197 = .ok (.iload_n 1, 1) := by decide +kernel
theorem dX8_seat_198 : decode cX8_seat 198 = .ok (.bipush 13, 2) := by decide +kernel
theorem dX8_seat_200 : decode cX8_seat 200 = .ok (.invokevirtual 58, 3) := by decide +kernel
theorem dX8_seat_203 : decode cX8_seat 203 = .ok (.imul, 1) := by decide +kernel
theorem dX8_seat_204 : decode cX8_seat 204 = .ok (.iadd, 1) := by decide +kernel
theorem dX8_seat_205 : decode cX8_seat 205 = .ok (.ireturn, 1) := by decide +kernel
theorem dX8_seat_206 : decode cX8_seat 206 = .ok (.aload_n 0, 1) := by decide +kernel
theorem dX8_seat_207 : decode cX8_seat 207 = .ok (.getfield 7, 3) := by decide +kernel
theorem dX8_seat_210 : decode cX8_seat 210 = .ok (.iload_n 1, 1) := by decide +kernel
theorem dX8_seat_211 : decode cX8_seat 211 = .ok (.baload, 1) := by decide +kernel
theorem dX8_seat_212 : decode cX8_seat 212 = .ok (.ifCond .eq 7, 3) := by decide +kernel
theorem dX8_seat_215 : decode cX8_seat 215 = .ok (.iconst 1, 1) := by decide +kernel
theorem dX8_seat_216 : decode cX8_seat 216 = .ok (.goto 31, 3) := by decide +kernel
theorem dX8_seat_219 : decode cX8_seat 219 = .ok (.aload_n 0, 1) := by decide +kernel
theorem dX8_seat_220 : decode cX8_seat 220 = .ok (.iload_n 1, 1) := by decide +kernel
theorem dX8_seat_221 : decode cX8_seat 221 = .ok (.invokevirtual 81, 3) := by decide +kernel
theorem dX8_seat_224 : decode cX8_seat 224 = .ok (.ifCond .eq 7, 3) := by decide +kernel
theorem dX8_seat_227 : decode cX8_seat 227 = .ok (.iconst 2, 1) := by decide +kernel
theorem dX8_seat_228 : decode cX8_seat 228 = .ok (.goto 19, 3) := by decide +kernel
theorem dX8_seat_231 : decode cX8_seat 231 = .ok (.aload_n 0, 1) := by decide +kernel
theorem dX8_seat_232 : decode cX8_seat 232 = .ok (.iload_n 1, 1) := by decide +kernel
theorem dX8_seat_233 : decode cX8_seat 233 = .ok (.bipush 7, 2) := by decide +kernel
theorem dX8_seat_235 : decode cX8_seat 235 = .ok (.invokevirtual 58, 3) := by decide +kernel
theorem dX8_seat_238 : decode cX8_seat 238 = .ok (.iconst 1, 1) := by decide +kernel
theorem dX8_seat_239 : decode cX8_seat 239 = .ok (.if_icmp .ne 7, 3) := by decide +kernel
theorem dX8_seat_242 : decode cX8_seat 242 = .ok (.iconst 3, 1) := by decide +kernel
theorem dX8_seat_243 : decode cX8_seat 243 = .ok (.goto 4, 3) := by decide +kernel
theorem dX8_seat_246 : decode cX8_seat 246 = .ok (.iconst 0, 1) := by decide +kernel
theorem dX8_seat_247 : decode cX8_seat 247 = .ok (.ireturn, 1) := by decide +kernel
theorem dX8_seat_248 : decode cX8_seat 248 = .ok (.aload_n 0, 1) := by decide +kernel
theorem dX8_seat_249 : decode cX8_seat 249 = .ok (.iload_n 1, 1) := by decide +kernel
theorem dX8_seat_250 : decode cX8_seat 250 = .ok (.invokevirtual 138, 3) := by decide +kernel
theorem dX8_seat_253 : decode cX8_seat 253 = .ok (.ireturn, 1) := by decide +kernel
theorem dX8_held_0 : decode cX8_held 0 = .ok (.iconst 0, 1) := by decide +kernel
theorem dX8_held_1 : decode cX8_held 1 = .ok (.istore_n 2, 1) := by decide +kernel
theorem dX8_held_2 : decode cX8_held 2 = .ok (.iconst 0, 1) := by decide +kernel
theorem dX8_held_3 : decode cX8_held 3 = .ok (.istore_n 3, 1) := by decide +kernel
theorem dX8_held_4 : decode cX8_held 4 = .ok (.iload_n 3, 1) := by decide +kernel
theorem dX8_held_5 : decode cX8_held 5 = .ok (.bipush 100, 2) := by decide +kernel
theorem dX8_held_7 : decode cX8_held 7 = .ok (.if_icmp .ge 31, 3) := by decide +kernel
theorem dX8_held_10 : decode cX8_held 10 = .ok (.iload_n 2, 1) := by decide +kernel
theorem dX8_held_11 : decode cX8_held 11 = .ok (.aload_n 0, 1) := by decide +kernel
theorem dX8_held_12 : decode cX8_held 12 = .ok (.getfield 13, 3) := by decide +kernel
theorem dX8_held_15 : decode cX8_held 15 = .ok (.bipush 100, 2) := by decide +kernel
theorem dX8_held_17 : decode cX8_held 17 = .ok (.iload_n 1, 1) := by decide +kernel
theorem dX8_held_18 : decode cX8_held 18 = .ok (.imul, 1) := by decide +kernel
theorem dX8_held_19 : decode cX8_held 19 = .ok (.iload_n 3, 1) := by decide +kernel
theorem dX8_held_20 : decode cX8_held 20 = .ok (.iadd, 1) := by decide +kernel
theorem dX8_held_21 : decode cX8_held 21 = .ok (.baload, 1) := by decide +kernel
theorem dX8_held_22 : decode cX8_held 22 = .ok (.ifCond .eq 7, 3) := by decide +kernel
theorem dX8_held_25 : decode cX8_held 25 = .ok (.iconst 1, 1) := by decide +kernel
theorem dX8_held_26 : decode cX8_held 26 = .ok (.goto 4, 3) := by decide +kernel
theorem dX8_held_29 : decode cX8_held 29 = .ok (.iconst 0, 1) := by decide +kernel
theorem dX8_held_30 : decode cX8_held 30 = .ok (.iadd, 1) := by decide +kernel
theorem dX8_held_31 : decode cX8_held 31 = .ok (.istore_n 2, 1) := by decide +kernel
theorem dX8_held_32 : decode cX8_held 32 = .ok (.iinc 3 1, 3) := by decide +kernel
theorem dX8_held_35 : decode cX8_held 35 = .ok (.goto (-31), 3) := by decide +kernel
theorem dX8_held_38 : decode cX8_held 38 = .ok (.iload_n 2, 1) := by decide +kernel
theorem dX8_held_39 : decode cX8_held 39 = .ok (.ireturn, 1) := by decide +kernel
set_option maxRecDepth 20000 in
theorem ggX8_decided_X8_isSeat : GoodIn wsX8_decided wsX8_isSeat := goodIn_r _ [9, 10, 11, 12, 8, 13, 14, 15, 16, 17, 18, 19, 20, 21, 22, 23] rfl (by decide +kernel)
set_option maxRecDepth 20000 in
theorem gX8_decided_X8_isSeat : GoodIn wsX8_decided (wsV RX8 50 RX8 yX8_isSeat wsX8_isSeat) := goodIn_app (goodIn_of _ (by decide +kernel)) ggX8_decided_X8_isSeat
set_option maxRecDepth 20000 in
theorem ggX8_decided_X8_in : GoodIn wsX8_decided wsX8_in := goodIn_r _ [13] rfl (by decide +kernel)
set_option maxRecDepth 20000 in
theorem gX8_decided_X8_in : GoodIn wsX8_decided (va_wsS RX8 36 yX8_in wsX8_in) := goodIn_app (goodIn_of _ (by decide +kernel)) ggX8_decided_X8_in
theorem dX8_decided_0 : decode cX8_decided 0 = .ok (.aload_n 0, 1) := by decide +kernel
theorem dX8_decided_1 : decode cX8_decided 1 = .ok (.iload_n 1, 1) := by decide +kernel
theorem dX8_decided_2 : decode cX8_decided 2 = .ok (.invokevirtual 50, 3) := by decide +kernel
theorem dX8_decided_5 : decode cX8_decided 5 = .ok (.ifCond .eq 21, 3) := by decide +kernel
theorem dX8_decided_8 : decode cX8_decided 8 = .ok (.iload_n 2, 1) := by decide +kernel
theorem dX8_decided_9 : decode cX8_decided 9 = .ok (.iconst 0, 1) := by decide +kernel
theorem dX8_decided_10 : decode cX8_decided 10 = .ok (.iconst 5, 1) := by decide +kernel
theorem dX8_decided_11 : decode cX8_decided 11 = .ok (.invokestatic 36, 3) := by decide +kernel
theorem dX8_decided_14 : decode cX8_decided 14 = .ok (.ifCond .eq 12, 3) := by decide +kernel
theorem dX8_decided_17 : decode cX8_decided 17 = .ok (.iload_n 3, 1) := by decide +kernel
theorem dX8_decided_18 : decode cX8_decided 18 = .ok (.iconst 0, 1) := by decide +kernel
theorem dX8_decided_19 : decode cX8_decided 19 = .ok (.iconst 2, 1) := by decide +kernel
theorem dX8_decided_20 : decode cX8_decided 20 = .ok (.invokestatic 36, 3) := by decide +kernel
theorem dX8_decided_23 : decode cX8_decided 23 = .ok (.ifCond .ne 5, 3) := by decide +kernel
theorem dX8_decided_26 : decode cX8_decided 26 = .ok (.iconst (-1), 1) := by decide +kernel
theorem dX8_decided_27 : decode cX8_decided 27 = .ok (.ireturn, 1) := by decide +kernel
theorem dX8_decided_28 : decode cX8_decided 28 = .ok (.aload_n 0, 1) := by decide +kernel
theorem dX8_decided_29 : decode cX8_decided 29 = .ok (.getfield 20, 3) := by decide +kernel
theorem dX8_decided_32 : decode cX8_decided 32 = .ok (.bipush 12, 2) := by decide +kernel
theorem dX8_decided_34 : decode cX8_decided 34 = .ok (.iload_n 1, 1) := by decide +kernel
theorem dX8_decided_35 : decode cX8_decided 35 = .ok (.imul, 1) := by decide +kernel
theorem dX8_decided_36 : decode cX8_decided 36 = .ok (.iconst 2, 1) := by decide +kernel
theorem dX8_decided_37 : decode cX8_decided 37 = .ok (.iload_n 2, 1) := by decide +kernel
theorem dX8_decided_38 : decode cX8_decided 38 = .ok (.imul, 1) := by decide +kernel
theorem dX8_decided_39 : decode cX8_decided 39 = .ok (.iadd, 1) := by decide +kernel
theorem dX8_decided_40 : decode cX8_decided 40 = .ok (.iaload, 1) := by decide +kernel
theorem dX8_decided_41 : decode cX8_decided 41 = .ok (.ifCond .ge 6, 3) := by decide +kernel
theorem dX8_decided_44 : decode cX8_decided 44 = .ok (.bipush (-4), 2) := by decide +kernel
theorem dX8_decided_46 : decode cX8_decided 46 = .ok (.ireturn, 1) := by decide +kernel
theorem dX8_decided_47 : decode cX8_decided 47 = .ok (.iload_n 3, 1) := by decide +kernel
theorem dX8_decided_48 : decode cX8_decided 48 = .ok (.iconst 2, 1) := by decide +kernel
theorem dX8_decided_49 : decode cX8_decided 49 = .ok (.if_icmp .ge 19, 3) := by decide +kernel
theorem dX8_decided_52 : decode cX8_decided 52 = .ok (.aload_n 0, 1) := by decide +kernel
theorem dX8_decided_53 : decode cX8_decided 53 = .ok (.getfield 20, 3) := by decide +kernel
theorem dX8_decided_56 : decode cX8_decided 56 = .ok (.bipush 12, 2) := by decide +kernel
theorem dX8_decided_58 : decode cX8_decided 58 = .ok (.iload_n 1, 1) := by decide +kernel
theorem dX8_decided_59 : decode cX8_decided 59 = .ok (.imul, 1) := by decide +kernel
theorem dX8_decided_60 : decode cX8_decided 60 = .ok (.iconst 2, 1) := by decide +kernel
theorem dX8_decided_61 : decode cX8_decided 61 = .ok (.iload_n 2, 1) := by decide +kernel
theorem dX8_decided_62 : decode cX8_decided 62 = .ok (.imul, 1) := by decide +kernel
theorem dX8_decided_63 : decode cX8_decided 63 = .ok (.iadd, 1) := by decide +kernel
theorem dX8_decided_64 : decode cX8_decided 64 = .ok (.iload_n 3, 1) := by decide +kernel
theorem dX8_decided_65 : decode cX8_decided 65 = .ok (.iadd, 1) := by decide +kernel
theorem dX8_decided_66 : decode cX8_decided 66 = .ok (.iaload, 1) := by decide +kernel
theorem dX8_decided_67 : decode cX8_decided 67 = .ok (.ireturn, 1) := by decide +kernel
theorem dX8_decided_68 : decode cX8_decided 68 = .ok (.ldc2_w 142, 3) := by decide +kernel
theorem dX8_decided_71 : decode cX8_decided 71 = .ok (.lstore 4, 2) := by decide +kernel
theorem dX8_decided_73 : decode cX8_decided 73 = .ok (.iconst 0, 1) := by decide +kernel
theorem dX8_decided_74 : decode cX8_decided 74 = .ok (.istore 6, 2) := by decide +kernel
theorem dX8_decided_76 : decode cX8_decided 76 = .ok (.iload 6, 2) := by decide +kernel
theorem dX8_decided_78 : decode cX8_decided 78 = .ok (.iload_n 2, 1) := by decide +kernel
theorem dX8_decided_79 : decode cX8_decided 79 = .ok (.if_icmp .gt 39, 3) := by decide +kernel
theorem dX8_decided_82 : decode cX8_decided 82 = .ok (.lload 4, 2) := by decide +kernel
theorem dX8_decided_84 : decode cX8_decided 84 = .ok (.ldc2_w 144, 3) := by decide +kernel
theorem dX8_decided_87 : decode cX8_decided 87 = .ok (.lmul, 1) := by decide +kernel
theorem dX8_decided_88 : decode cX8_decided 88 = .ok (.aload_n 0, 1) := by decide +kernel
theorem dX8_decided_89 : decode cX8_decided 89 = .ok (.getfield 20, 3) := by decide +kernel
theorem dX8_decided_92 : decode cX8_decided 92 = .ok (.bipush 12, 2) := by decide +kernel
theorem dX8_decided_94 : decode cX8_decided 94 = .ok (.iload_n 1, 1) := by decide +kernel
theorem dX8_decided_95 : decode cX8_decided 95 = .ok (.imul, 1) := by decide +kernel
theorem dX8_decided_96 : decode cX8_decided 96 = .ok (.iconst 2, 1) := by decide +kernel
theorem dX8_decided_97 : decode cX8_decided 97 = .ok (.iload 6, 2) := by decide +kernel
theorem dX8_decided_99 : decode cX8_decided 99 = .ok (.imul, 1) := by decide +kernel
theorem dX8_decided_100 : decode cX8_decided 100 = .ok (.iadd, 1) := by decide +kernel
theorem dX8_decided_101 : decode cX8_decided 101 = .ok (.iaload, 1) := by decide +kernel
theorem dX8_decided_102 : decode cX8_decided 102 = .ok (.i2l, 1) := by decide +kernel
theorem dX8_decided_103 : decode cX8_decided 103 = .ok (.ladd, 1) := by decide +kernel
theorem dX8_decided_104 : decode cX8_decided 104 = .ok (.lconst 1, 1) := by decide +kernel
theorem dX8_decided_105 : decode cX8_decided 105 = .ok (.ladd, 1) := by decide +kernel
theorem dX8_decided_106 : decode cX8_decided 106 = .ok (.ldc2_w 146, 3) := by decide +kernel
theorem dX8_decided_109 : decode cX8_decided 109 = .ok (.lrem, 1) := by decide +kernel
theorem dX8_decided_110 : decode cX8_decided 110 = .ok (.lstore 4, 2) := by decide +kernel
theorem dX8_decided_112 : decode cX8_decided 112 = .ok (.iinc 6 1, 3) := by decide +kernel
theorem dX8_decided_115 : decode cX8_decided 115 = .ok (.goto (-39), 3) := by decide +kernel
theorem dX8_decided_118 : decode cX8_decided 118 = .ok (.lload 4, 2) := by decide +kernel
theorem dX8_decided_120 : decode cX8_decided 120 = .ok (.l2i, 1) := by decide +kernel
theorem dX8_decided_121 : decode cX8_decided 121 = .ok (.ireturn, 1) := by decide +kernel
set_option maxRecDepth 20000 in
theorem ggX8_letter_X8_in : GoodIn wsX8_letter wsX8_in := goodIn_r _ [8] rfl (by decide +kernel)
set_option maxRecDepth 20000 in
theorem gX8_letter_X8_in : GoodIn wsX8_letter (va_wsS RX8 36 yX8_in wsX8_in) := goodIn_app (goodIn_of _ (by decide +kernel)) ggX8_letter_X8_in
theorem dX8_letter_0 : decode cX8_letter 0 = .ok (.iload_n 1, 1) := by decide +kernel
theorem dX8_letter_1 : decode cX8_letter 1 = .ok (.iconst 0, 1) := by decide +kernel
theorem dX8_letter_2 : decode cX8_letter 2 = .ok (.aload_n 0, 1) := by decide +kernel
theorem dX8_letter_3 : decode cX8_letter 3 = .ok (.getfield 44, 3) := by decide +kernel
theorem dX8_letter_6 : decode cX8_letter 6 = .ok (.iconst 1, 1) := by decide +kernel
theorem dX8_letter_7 : decode cX8_letter 7 = .ok (.isub, 1) := by decide +kernel
theorem dX8_letter_8 : decode cX8_letter 8 = .ok (.invokestatic 36, 3) := by decide +kernel
theorem dX8_letter_11 : decode cX8_letter 11 = .ok (.ifCond .eq 13, 3) := by decide +kernel
theorem dX8_letter_14 : decode cX8_letter 14 = .ok (.iload_n 2, 1) := by decide +kernel
theorem dX8_letter_15 : decode cX8_letter 15 = .ok (.iconst 0, 1) := by decide +kernel
theorem dX8_letter_16 : decode cX8_letter 16 = .ok (.bipush 6, 2) := by decide +kernel
theorem dX8_letter_18 : decode cX8_letter 18 = .ok (.invokestatic 36, 3) := by decide +kernel
theorem dX8_letter_21 : decode cX8_letter 21 = .ok (.ifCond .ne 5, 3) := by decide +kernel
theorem dX8_letter_24 : decode cX8_letter 24 = .ok (.iconst (-1), 1) := by decide +kernel
theorem dX8_letter_25 : decode cX8_letter 25 = .ok (.ireturn, 1) := by decide +kernel
theorem dX8_letter_26 : decode cX8_letter 26 = .ok (.iload_n 2, 1) := by decide +kernel
theorem dX8_letter_27 : decode cX8_letter 27 = .ok (.bipush 6, 2) := by decide +kernel
theorem dX8_letter_29 : decode cX8_letter 29 = .ok (.if_icmp .ge 15, 3) := by decide +kernel
theorem dX8_letter_32 : decode cX8_letter 32 = .ok (.aload_n 0, 1) := by decide +kernel
theorem dX8_letter_33 : decode cX8_letter 33 = .ok (.getfield 23, 3) := by decide +kernel
theorem dX8_letter_36 : decode cX8_letter 36 = .ok (.bipush 6, 2) := by decide +kernel
theorem dX8_letter_38 : decode cX8_letter 38 = .ok (.iload_n 1, 1) := by decide +kernel
theorem dX8_letter_39 : decode cX8_letter 39 = .ok (.imul, 1) := by decide +kernel
theorem dX8_letter_40 : decode cX8_letter 40 = .ok (.iload_n 2, 1) := by decide +kernel
theorem dX8_letter_41 : decode cX8_letter 41 = .ok (.iadd, 1) := by decide +kernel
theorem dX8_letter_42 : decode cX8_letter 42 = .ok (.iaload, 1) := by decide +kernel
theorem dX8_letter_43 : decode cX8_letter 43 = .ok (.ireturn, 1) := by decide +kernel
theorem dX8_letter_44 : decode cX8_letter 44 = .ok (.iconst 0, 1) := by decide +kernel
theorem dX8_letter_45 : decode cX8_letter 45 = .ok (.istore_n 3, 1) := by decide +kernel
theorem dX8_letter_46 : decode cX8_letter 46 = .ok (.iconst 0, 1) := by decide +kernel
theorem dX8_letter_47 : decode cX8_letter 47 = .ok (.istore 4, 2) := by decide +kernel
theorem dX8_letter_49 : decode cX8_letter 49 = .ok (.iload 4, 2) := by decide +kernel
theorem dX8_letter_51 : decode cX8_letter 51 = .ok (.aload_n 0, 1) := by decide +kernel
theorem dX8_letter_52 : decode cX8_letter 52 = .ok (.getfield 29, 3) := by decide +kernel
theorem dX8_letter_55 : decode cX8_letter 55 = .ok (.if_icmp .ge 32, 3) := by decide +kernel
theorem dX8_letter_58 : decode cX8_letter 58 = .ok (.iload_n 3, 1) := by decide +kernel
theorem dX8_letter_59 : decode cX8_letter 59 = .ok (.aload_n 0, 1) := by decide +kernel
theorem dX8_letter_60 : decode cX8_letter 60 = .ok (.getfield 26, 3) := by decide +kernel
theorem dX8_letter_63 : decode cX8_letter 63 = .ok (.bipush 7, 2) := by decide +kernel
theorem dX8_letter_65 : decode cX8_letter 65 = .ok (.iload_n 1, 1) := by decide +kernel
theorem dX8_letter_66 : decode cX8_letter 66 = .ok (.imul, 1) := by decide +kernel
theorem dX8_letter_67 : decode cX8_letter 67 = .ok (.iload 4, 2) := by decide +kernel
theorem dX8_letter_69 : decode cX8_letter 69 = .ok (.iadd, 1) := by decide +kernel
theorem dX8_letter_70 : decode cX8_letter 70 = .ok (.baload, 1) := by decide +kernel
theorem dX8_letter_71 : decode cX8_letter 71 = .ok (.ifCond .eq 7, 3) := by decide +kernel
theorem dX8_letter_74 : decode cX8_letter 74 = .ok (.iconst 1, 1) := by decide +kernel
theorem dX8_letter_75 : decode cX8_letter 75 = .ok (.goto 4, 3) := by decide +kernel
theorem dX8_letter_78 : decode cX8_letter 78 = .ok (.iconst 0, 1) := by decide +kernel
theorem dX8_letter_79 : decode cX8_letter 79 = .ok (.iadd, 1) := by decide +kernel
theorem dX8_letter_80 : decode cX8_letter 80 = .ok (.istore_n 3, 1) := by decide +kernel
theorem dX8_letter_81 : decode cX8_letter 81 = .ok (.iinc 4 1, 3) := by decide +kernel
theorem dX8_letter_84 : decode cX8_letter 84 = .ok (.goto (-35), 3) := by decide +kernel
theorem dX8_letter_87 : decode cX8_letter 87 = .ok (.iload_n 3, 1) := by decide +kernel
theorem dX8_letter_88 : decode cX8_letter 88 = .ok (.ireturn, 1) := by decide +kernel
set_option maxRecDepth 20000 in
theorem ggX8_votes_X8_isSeat : GoodIn wsX8_votes wsX8_isSeat := goodIn_r _ [5, 6, 7, 8, 4, 9, 17, 18, 19, 20, 21, 22, 23, 24, 25, 26] rfl (by decide +kernel)
set_option maxRecDepth 20000 in
theorem gX8_votes_X8_isSeat : GoodIn wsX8_votes (wsV RX8 50 RX8 yX8_isSeat wsX8_isSeat) := goodIn_app (goodIn_of _ (by decide +kernel)) ggX8_votes_X8_isSeat
set_option maxRecDepth 20000 in
theorem ggX8_votes_X8_in : GoodIn wsX8_votes wsX8_in := goodIn_r _ [9] rfl (by decide +kernel)
set_option maxRecDepth 20000 in
theorem gX8_votes_X8_in : GoodIn wsX8_votes (va_wsS RX8 36 yX8_in wsX8_in) := goodIn_app (goodIn_of _ (by decide +kernel)) ggX8_votes_X8_in
set_option maxRecDepth 20000 in
theorem ggX8_votes_X8_voted : GoodIn wsX8_votes wsX8_voted := goodIn_r _ [13, 6, 14, 15, 16, 17, 18, 19, 20, 21, 22, 23, 24, 25, 26] rfl (by decide +kernel)
set_option maxRecDepth 20000 in
theorem gX8_votes_X8_voted : GoodIn wsX8_votes (wsV RX8 108 RX8 yX8_voted wsX8_voted) := goodIn_app (goodIn_of _ (by decide +kernel)) ggX8_votes_X8_voted
theorem dX8_votes_0 : decode cX8_votes 0 = .ok (.aload_n 0, 1) := by decide +kernel
theorem dX8_votes_1 : decode cX8_votes 1 = .ok (.iload_n 1, 1) := by decide +kernel
theorem dX8_votes_2 : decode cX8_votes 2 = .ok (.invokevirtual 50, 3) := by decide +kernel
theorem dX8_votes_5 : decode cX8_votes 5 = .ok (.ifCond .eq 58, 3) := by decide +kernel
theorem dX8_votes_8 : decode cX8_votes 8 = .ok (.iload_n 2, 1) := by decide +kernel
theorem dX8_votes_9 : decode cX8_votes 9 = .ok (.iconst 1, 1) := by decide +kernel
theorem dX8_votes_10 : decode cX8_votes 10 = .ok (.iconst 2, 1) := by decide +kernel
theorem dX8_votes_11 : decode cX8_votes 11 = .ok (.invokestatic 36, 3) := by decide +kernel
theorem dX8_votes_14 : decode cX8_votes 14 = .ok (.ifCond .eq 49, 3) := by decide +kernel
theorem dX8_votes_17 : decode cX8_votes 17 = .ok (.iload_n 3, 1) := by decide +kernel
theorem dX8_votes_18 : decode cX8_votes 18 = .ok (.iconst 0, 1) := by decide +kernel
theorem dX8_votes_19 : decode cX8_votes 19 = .ok (.iconst 5, 1) := by decide +kernel
theorem dX8_votes_20 : decode cX8_votes 20 = .ok (.invokestatic 36, 3) := by decide +kernel
theorem dX8_votes_23 : decode cX8_votes 23 = .ok (.ifCond .eq 40, 3) := by decide +kernel
theorem dX8_votes_26 : decode cX8_votes 26 = .ok (.iload 4, 2) := by decide +kernel
theorem dX8_votes_28 : decode cX8_votes 28 = .ok (.iconst 0, 1) := by decide +kernel
theorem dX8_votes_29 : decode cX8_votes 29 = .ok (.bipush 9, 2) := by decide +kernel
theorem dX8_votes_31 : decode cX8_votes 31 = .ok (.invokestatic 36, 3) := by decide +kernel
theorem dX8_votes_34 : decode cX8_votes 34 = .ok (.ifCond .eq 29, 3) := by decide +kernel
theorem dX8_votes_37 : decode cX8_votes 37 = .ok (.iload 5, 2) := by decide +kernel
theorem dX8_votes_39 : decode cX8_votes 39 = .ok (.bipush (-2), 2) := by decide +kernel
theorem dX8_votes_41 : decode cX8_votes 41 = .ok (.bipush 99, 2) := by decide +kernel
theorem dX8_votes_43 : decode cX8_votes 43 = .ok (.invokestatic 36, 3) := by decide +kernel
theorem dX8_votes_46 : decode cX8_votes 46 = .ok (.ifCond .eq 17, 3) := by decide +kernel
theorem dX8_votes_49 : decode cX8_votes 49 = .ok (.aload_n 0, 1) := by decide +kernel
theorem dX8_votes_50 : decode cX8_votes 50 = .ok (.iload_n 1, 1) := by decide +kernel
theorem dX8_votes_51 : decode cX8_votes 51 = .ok (.iload_n 2, 1) := by decide +kernel
theorem dX8_votes_52 : decode cX8_votes 52 = .ok (.iload_n 3, 1) := by decide +kernel
theorem dX8_votes_53 : decode cX8_votes 53 = .ok (.iload 4, 2) := by decide +kernel
theorem dX8_votes_55 : decode cX8_votes 55 = .ok (.iload 5, 2) := by decide +kernel
theorem dX8_votes_57 : decode cX8_votes 57 = .ok (.invokevirtual 108, 3) := by decide +kernel
theorem dX8_votes_60 : decode cX8_votes 60 = .ok (.goto 4, 3) := by decide +kernel
theorem dX8_votes_63 : decode cX8_votes 63 = .ok (.iconst (-1), 1) := by decide +kernel
theorem dX8_votes_64 : decode cX8_votes 64 = .ok (.ireturn, 1) := by decide +kernel
theorem dX8_areUnlike_0 : decode cX8_areUnlike 0 = .ok (.iconst 1, 1) := by decide +kernel
theorem dX8_areUnlike_1 : decode cX8_areUnlike 1 = .ok (.istore_n 3, 1) := by decide +kernel
theorem dX8_areUnlike_2 : decode cX8_areUnlike 2 = .ok (.iconst 0, 1) := by decide +kernel
theorem dX8_areUnlike_3 : decode cX8_areUnlike 3 = .ok (.istore 4, 2) := by decide +kernel
theorem dX8_areUnlike_5 : decode cX8_areUnlike 5 = .ok (.iload 4, 2) := by decide +kernel
theorem dX8_areUnlike_7 : decode cX8_areUnlike 7 = .ok (.iconst 3, 1) := by decide +kernel
theorem dX8_areUnlike_8 : decode cX8_areUnlike 8 = .ok (.if_icmp .gt 46, 3) := by decide +kernel
theorem dX8_areUnlike_11 : decode cX8_areUnlike 11 = .ok (.iload_n 3, 1) := by decide +kernel
theorem dX8_areUnlike_12 : decode cX8_areUnlike 12 = .ok (.ifCond .eq 34, 3) := by decide +kernel
theorem dX8_areUnlike_15 : decode cX8_areUnlike 15 = .ok (.aload_n 0, 1) := by decide +kernel
theorem dX8_areUnlike_16 : decode cX8_areUnlike 16 = .ok (.getfield 23, 3) := by decide +kernel
theorem dX8_areUnlike_19 : decode cX8_areUnlike 19 = .ok (.bipush 6, 2) := by decide +kernel
theorem dX8_areUnlike_21 : decode cX8_areUnlike 21 = .ok (.iload_n 1, 1) := by decide +kernel
theorem dX8_areUnlike_22 : decode cX8_areUnlike 22 = .ok (.imul, 1) := by decide +kernel
theorem dX8_areUnlike_23 : decode cX8_areUnlike 23 = .ok (.iload 4, 2) := by decide +kernel
theorem dX8_areUnlike_25 : decode cX8_areUnlike 25 = .ok (.iadd, 1) := by decide +kernel
theorem dX8_areUnlike_26 : decode cX8_areUnlike 26 = .ok (.iaload, 1) := by decide +kernel
theorem dX8_areUnlike_27 : decode cX8_areUnlike 27 = .ok (.aload_n 0, 1) := by decide +kernel
theorem dX8_areUnlike_28 : decode cX8_areUnlike 28 = .ok (.getfield 23, 3) := by decide +kernel
theorem dX8_areUnlike_31 : decode cX8_areUnlike 31 = .ok (.bipush 6, 2) := by decide +kernel
theorem dX8_areUnlike_33 : decode cX8_areUnlike 33 = .ok (.iload_n 2, 1) := by decide +kernel
theorem dX8_areUnlike_34 : decode cX8_areUnlike 34 = .ok (.imul, 1) := by decide +kernel
theorem dX8_areUnlike_35 : decode cX8_areUnlike 35 = .ok (.iload 4, 2) := by decide +kernel
theorem dX8_areUnlike_37 : decode cX8_areUnlike 37 = .ok (.iadd, 1) := by decide +kernel
theorem dX8_areUnlike_38 : decode cX8_areUnlike 38 = .ok (.iaload, 1) := by decide +kernel
theorem dX8_areUnlike_39 : decode cX8_areUnlike 39 = .ok (.if_icmp .ne 7, 3) := by decide +kernel
theorem dX8_areUnlike_42 : decode cX8_areUnlike 42 = .ok (.iconst 1, 1) := by decide +kernel
theorem dX8_areUnlike_43 : decode cX8_areUnlike 43 = .ok (.goto 4, 3) := by decide +kernel
theorem dX8_areUnlike_46 : decode cX8_areUnlike 46 = .ok (.iconst 0, 1) := by decide +kernel
theorem dX8_areUnlike_47 : decode cX8_areUnlike 47 = .ok (.istore_n 3, 1) := by decide +kernel
theorem dX8_areUnlike_48 : decode cX8_areUnlike 48 = .ok (.iinc 4 1, 3) := by decide +kernel
theorem dX8_areUnlike_51 : decode cX8_areUnlike 51 = .ok (.goto (-46), 3) := by decide +kernel
theorem dX8_areUnlike_54 : decode cX8_areUnlike 54 = .ok (.iload_n 3, 1) := by decide +kernel
theorem dX8_areUnlike_55 : decode cX8_areUnlike 55 = .ok (.ifCond .eq 57, 3) := by decide +kernel
theorem dX8_areUnlike_58 : decode cX8_areUnlike 58 = .ok (.aload_n 0, 1) := by decide +kernel
theorem dX8_areUnlike_59 : decode cX8_areUnlike 59 = .ok (.getfield 23, 3) := by decide +kernel
theorem dX8_areUnlike_62 : decode cX8_areUnlike 62 = .ok (.bipush 6, 2) := by decide +kernel
theorem dX8_areUnlike_64 : decode cX8_areUnlike 64 = .ok (.iload_n 1, 1) := by decide +kernel
theorem dX8_areUnlike_65 : decode cX8_areUnlike 65 = .ok (.imul, 1) := by decide +kernel
theorem dX8_areUnlike_66 : decode cX8_areUnlike 66 = .ok (.iconst 4, 1) := by decide +kernel
theorem dX8_areUnlike_67 : decode cX8_areUnlike 67 = .ok (.iadd, 1) := by decide +kernel
theorem dX8_areUnlike_68 : decode cX8_areUnlike 68 = .ok (.iaload, 1) := by decide +kernel
theorem dX8_areUnlike_69 : decode cX8_areUnlike 69 = .ok (.aload_n 0, 1) := by decide +kernel
theorem dX8_areUnlike_70 : decode cX8_areUnlike 70 = .ok (.getfield 23, 3) := by decide +kernel
theorem dX8_areUnlike_73 : decode cX8_areUnlike 73 = .ok (.bipush 6, 2) := by decide +kernel
theorem dX8_areUnlike_75 : decode cX8_areUnlike 75 = .ok (.iload_n 2, 1) := by decide +kernel
theorem dX8_areUnlike_76 : decode cX8_areUnlike 76 = .ok (.imul, 1) := by decide +kernel
theorem dX8_areUnlike_77 : decode cX8_areUnlike 77 = .ok (.iconst 4, 1) := by decide +kernel
theorem dX8_areUnlike_78 : decode cX8_areUnlike 78 = .ok (.iadd, 1) := by decide +kernel
theorem dX8_areUnlike_79 : decode cX8_areUnlike 79 = .ok (.iaload, 1) := by decide +kernel
theorem dX8_areUnlike_80 : decode cX8_areUnlike 80 = .ok (.if_icmp .ne 28, 3) := by decide +kernel
theorem dX8_areUnlike_83 : decode cX8_areUnlike 83 = .ok (.aload_n 0, 1) := by decide +kernel
theorem dX8_areUnlike_84 : decode cX8_areUnlike 84 = .ok (.getfield 23, 3) := by decide +kernel
theorem dX8_areUnlike_87 : decode cX8_areUnlike 87 = .ok (.bipush 6, 2) := by decide +kernel
theorem dX8_areUnlike_89 : decode cX8_areUnlike 89 = .ok (.iload_n 1, 1) := by decide +kernel
theorem dX8_areUnlike_90 : decode cX8_areUnlike 90 = .ok (.imul, 1) := by decide +kernel
theorem dX8_areUnlike_91 : decode cX8_areUnlike 91 = .ok (.iconst 5, 1) := by decide +kernel
theorem dX8_areUnlike_92 : decode cX8_areUnlike 92 = .ok (.iadd, 1) := by decide +kernel
theorem dX8_areUnlike_93 : decode cX8_areUnlike 93 = .ok (.iaload, 1) := by decide +kernel
theorem dX8_areUnlike_94 : decode cX8_areUnlike 94 = .ok (.aload_n 0, 1) := by decide +kernel
theorem dX8_areUnlike_95 : decode cX8_areUnlike 95 = .ok (.getfield 23, 3) := by decide +kernel
theorem dX8_areUnlike_98 : decode cX8_areUnlike 98 = .ok (.bipush 6, 2) := by decide +kernel
theorem dX8_areUnlike_100 : decode cX8_areUnlike 100 = .ok (.iload_n 2, 1) := by decide +kernel
theorem dX8_areUnlike_101 : decode cX8_areUnlike 101 = .ok (.imul, 1) := by decide +kernel
theorem dX8_areUnlike_102 : decode cX8_areUnlike 102 = .ok (.iconst 5, 1) := by decide +kernel
theorem dX8_areUnlike_103 : decode cX8_areUnlike 103 = .ok (.iadd, 1) := by decide +kernel
theorem dX8_areUnlike_104 : decode cX8_areUnlike 104 = .ok (.iaload, 1) := by decide +kernel
theorem dX8_areUnlike_105 : decode cX8_areUnlike 105 = .ok (.if_icmp .eq 7, 3) := by decide +kernel
theorem dX8_areUnlike_108 : decode cX8_areUnlike 108 = .ok (.iconst 1, 1) := by decide +kernel
theorem dX8_areUnlike_109 : decode cX8_areUnlike 109 = .ok (.goto 4, 3) := by decide +kernel
theorem dX8_areUnlike_112 : decode cX8_areUnlike 112 = .ok (.iconst 0, 1) := by decide +kernel
theorem dX8_areUnlike_113 : decode cX8_areUnlike 113 = .ok (.ireturn, 1) := by decide +kernel
set_option maxRecDepth 20000 in
theorem ggX8_shown_X8_isSeat : GoodIn wsX8_shown wsX8_isSeat := goodIn_r _ [8, 9, 10, 11, 7, 12, 17, 18, 19, 20, 21, 22, 23, 24, 25, 26] rfl (by decide +kernel)
set_option maxRecDepth 20000 in
theorem gX8_shown_X8_isSeat : GoodIn wsX8_shown (wsV RX8 50 RX8 yX8_isSeat wsX8_isSeat) := goodIn_app (goodIn_of _ (by decide +kernel)) ggX8_shown_X8_isSeat
set_option maxRecDepth 20000 in
theorem ggX8_shown_X8_areUnlike : GoodIn wsX8_shown wsX8_areUnlike := goodIn_r _ [16, 2, 17, 18, 19, 20, 21, 22, 23, 24, 25, 26] rfl (by decide +kernel)
set_option maxRecDepth 20000 in
theorem gX8_shown_X8_areUnlike : GoodIn wsX8_shown (wsV RX8 148 RX8 yX8_areUnlike wsX8_areUnlike) := goodIn_app (goodIn_of _ (by decide +kernel)) ggX8_shown_X8_areUnlike
theorem dX8_shown_0 : decode cX8_shown 0 = .ok (.aload_n 0, 1) := by decide +kernel
theorem dX8_shown_1 : decode cX8_shown 1 = .ok (.iload_n 1, 1) := by decide +kernel
theorem dX8_shown_2 : decode cX8_shown 2 = .ok (.invokevirtual 50, 3) := by decide +kernel
theorem dX8_shown_5 : decode cX8_shown 5 = .ok (.ifCond .eq 11, 3) := by decide +kernel
theorem dX8_shown_8 : decode cX8_shown 8 = .ok (.aload_n 0, 1) := by decide +kernel
theorem dX8_shown_9 : decode cX8_shown 9 = .ok (.iload_n 2, 1) := by decide +kernel
theorem dX8_shown_10 : decode cX8_shown 10 = .ok (.invokevirtual 50, 3) := by decide +kernel
theorem dX8_shown_13 : decode cX8_shown 13 = .ok (.ifCond .ne 5, 3) := by decide +kernel
theorem dX8_shown_16 : decode cX8_shown 16 = .ok (.iconst (-1), 1) := by decide +kernel
theorem dX8_shown_17 : decode cX8_shown 17 = .ok (.ireturn, 1) := by decide +kernel
theorem dX8_shown_18 : decode cX8_shown 18 = .ok (.iconst 0, 1) := by decide +kernel
theorem dX8_shown_19 : decode cX8_shown 19 = .ok (.istore_n 3, 1) := by decide +kernel
theorem dX8_shown_20 : decode cX8_shown 20 = .ok (.iconst 0, 1) := by decide +kernel
theorem dX8_shown_21 : decode cX8_shown 21 = .ok (.istore 4, 2) := by decide +kernel
theorem dX8_shown_23 : decode cX8_shown 23 = .ok (.iload 4, 2) := by decide +kernel
theorem dX8_shown_25 : decode cX8_shown 25 = .ok (.aload_n 0, 1) := by decide +kernel
theorem dX8_shown_26 : decode cX8_shown 26 = .ok (.getfield 44, 3) := by decide +kernel
theorem dX8_shown_29 : decode cX8_shown 29 = .ok (.if_icmp .ge 92, 3) := by decide +kernel
theorem dX8_shown_32 : decode cX8_shown 32 = .ok (.iconst 0, 1) := by decide +kernel
theorem dX8_shown_33 : decode cX8_shown 33 = .ok (.istore 5, 2) := by decide +kernel
theorem dX8_shown_35 : decode cX8_shown 35 = .ok (.iload 5, 2) := by decide +kernel
theorem dX8_shown_37 : decode cX8_shown 37 = .ok (.iload 4, 2) := by decide +kernel
theorem dX8_shown_39 : decode cX8_shown 39 = .ok (.if_icmp .ge 76, 3) := by decide +kernel
theorem dX8_shown_42 : decode cX8_shown 42 = .ok (.aload_n 0, 1) := by decide +kernel
theorem dX8_shown_43 : decode cX8_shown 43 = .ok (.getfield 23, 3) := by decide +kernel
theorem dX8_shown_46 : decode cX8_shown 46 = .ok (.bipush 6, 2) := by decide +kernel
theorem dX8_shown_48 : decode cX8_shown 48 = .ok (.iload 4, 2) := by decide +kernel
theorem dX8_shown_50 : decode cX8_shown 50 = .ok (.imul, 1) := by decide +kernel
theorem dX8_shown_51 : decode cX8_shown 51 = .ok (.iconst 0, 1) := by decide +kernel
theorem dX8_shown_52 : decode cX8_shown 52 = .ok (.iadd, 1) := by decide +kernel
theorem dX8_shown_53 : decode cX8_shown 53 = .ok (.iaload, 1) := by decide +kernel
theorem dX8_shown_54 : decode cX8_shown 54 = .ok (.iload_n 2, 1) := by decide +kernel
theorem dX8_shown_55 : decode cX8_shown 55 = .ok (.if_icmp .ne 60, 3) := by decide +kernel
theorem dX8_shown_58 : decode cX8_shown 58 = .ok (.aload_n 0, 1) := by decide +kernel
theorem dX8_shown_59 : decode cX8_shown 59 = .ok (.getfield 26, 3) := by decide +kernel
theorem dX8_shown_62 : decode cX8_shown 62 = .ok (.bipush 7, 2) := by decide +kernel
theorem dX8_shown_64 : decode cX8_shown 64 = .ok (.iload 4, 2) := by decide +kernel
theorem dX8_shown_66 : decode cX8_shown 66 = .ok (.imul, 1) := by decide +kernel
theorem dX8_shown_67 : decode cX8_shown 67 = .ok (.iload_n 1, 1) := by decide +kernel
theorem dX8_shown_68 : decode cX8_shown 68 = .ok (.iadd, 1) := by decide +kernel
theorem dX8_shown_69 : decode cX8_shown 69 = .ok (.baload, 1) := by decide +kernel
theorem dX8_shown_70 : decode cX8_shown 70 = .ok (.ifCond .eq 45, 3) := by decide +kernel
theorem dX8_shown_73 : decode cX8_shown 73 = .ok (.iload_n 3, 1) := by decide +kernel
theorem dX8_shown_74 : decode cX8_shown 74 = .ok (.ifCond .ne 29, 3) := by decide +kernel
theorem dX8_shown_77 : decode cX8_shown 77 = .ok (.aload_n 0, 1) := by decide +kernel
theorem dX8_shown_78 : decode cX8_shown 78 = .ok (.getfield 26, 3) := by decide +kernel
theorem dX8_shown_81 : decode cX8_shown 81 = .ok (.bipush 7, 2) := by decide +kernel
theorem dX8_shown_83 : decode cX8_shown 83 = .ok (.iload 5, 2) := by decide +kernel
theorem dX8_shown_85 : decode cX8_shown 85 = .ok (.imul, 1) := by decide +kernel
theorem dX8_shown_86 : decode cX8_shown 86 = .ok (.iload_n 1, 1) := by decide +kernel
theorem dX8_shown_87 : decode cX8_shown 87 = .ok (.iadd, 1) := by decide +kernel
theorem dX8_shown_88 : decode cX8_shown 88 = .ok (.baload, 1) := by decide +kernel
theorem dX8_shown_89 : decode cX8_shown 89 = .ok (.ifCond .eq 18, 3) := by decide +kernel
theorem dX8_shown_92 : decode cX8_shown 92 = .ok (.aload_n 0, 1) := by decide +kernel
theorem dX8_shown_93 : decode cX8_shown 93 = .ok (.iload 4, 2) := by decide +kernel
theorem dX8_shown_95 : decode cX8_shown 95 = .ok (.iload 5, 2) := by decide +kernel
theorem dX8_shown_97 : decode cX8_shown 97 = .ok (.invokevirtual 148, 3) := by decide +kernel
theorem dX8_shown_100 : decode cX8_shown 100 = .ok (.ifCond .eq 7, 3) := by decide +kernel
theorem dX8_shown_103 : decode cX8_shown 103 = .ok (.iconst 1, 1) := by decide +kernel
theorem dX8_shown_104 : decode cX8_shown 104 = .ok (.goto 4, 3) := by decide +kernel
theorem dX8_shown_107 : decode cX8_shown 107 = .ok (.iconst 0, 1) := by decide +kernel
theorem dX8_shown_108 : decode cX8_shown 108 = .ok (.istore_n 3, 1) := by decide +kernel
theorem dX8_shown_109 : decode cX8_shown 109 = .ok (.iinc 5 1, 3) := by decide +kernel
theorem dX8_shown_112 : decode cX8_shown 112 = .ok (.goto (-77), 3) := by decide +kernel
theorem dX8_shown_115 : decode cX8_shown 115 = .ok (.iinc 4 1, 3) := by decide +kernel
theorem dX8_shown_118 : decode cX8_shown 118 = .ok (.goto (-95), 3) := by decide +kernel
theorem dX8_shown_121 : decode cX8_shown 121 = .ok (.iload_n 3, 1) := by decide +kernel
theorem dX8_shown_122 : decode cX8_shown 122 = .ok (.ifCond .eq 7, 3) := by decide +kernel
theorem dX8_shown_125 : decode cX8_shown 125 = .ok (.iconst 1, 1) := by decide +kernel
theorem dX8_shown_126 : decode cX8_shown 126 = .ok (.goto 4, 3) := by decide +kernel
theorem dX8_shown_129 : decode cX8_shown 129 = .ok (.iconst 0, 1) := by decide +kernel
theorem dX8_shown_130 : decode cX8_shown 130 = .ok (.ireturn, 1) := by decide +kernel
theorem dX8_pending_0 : decode cX8_pending 0 = .ok (.iconst 0, 1) := by decide +kernel
theorem dX8_pending_1 : decode cX8_pending 1 = .ok (.istore_n 1, 1) := by decide +kernel
theorem dX8_pending_2 : decode cX8_pending 2 = .ok (.iconst 0, 1) := by decide +kernel
theorem dX8_pending_3 : decode cX8_pending 3 = .ok (.istore_n 2, 1) := by decide +kernel
theorem dX8_pending_4 : decode cX8_pending 4 = .ok (.iload_n 2, 1) := by decide +kernel
theorem dX8_pending_5 : decode cX8_pending 5 = .ok (.aload_n 0, 1) := by decide +kernel
theorem dX8_pending_6 : decode cX8_pending 6 = .ok (.getfield 44, 3) := by decide +kernel
theorem dX8_pending_9 : decode cX8_pending 9 = .ok (.if_icmp .ge 56, 3) := by decide +kernel
theorem dX8_pending_12 : decode cX8_pending 12 = .ok (.iconst 0, 1) := by decide +kernel
theorem dX8_pending_13 : decode cX8_pending 13 = .ok (.istore_n 3, 1) := by decide +kernel
theorem dX8_pending_14 : decode cX8_pending 14 = .ok (.iload_n 3, 1) := by decide +kernel
theorem dX8_pending_15 : decode cX8_pending 15 = .ok (.aload_n 0, 1) := by decide +kernel
theorem dX8_pending_16 : decode cX8_pending 16 = .ok (.getfield 29, 3) := by decide +kernel
theorem dX8_pending_19 : decode cX8_pending 19 = .ok (.if_icmp .ge 40, 3) := by decide +kernel
theorem dX8_pending_22 : decode cX8_pending 22 = .ok (.iload_n 1, 1) := by decide +kernel
theorem dX8_pending_23 : decode cX8_pending 23 = .ok (.aload_n 0, 1) := by decide +kernel
theorem dX8_pending_24 : decode cX8_pending 24 = .ok (.getfield 7, 3) := by decide +kernel
theorem dX8_pending_27 : decode cX8_pending 27 = .ok (.iload_n 3, 1) := by decide +kernel
theorem dX8_pending_28 : decode cX8_pending 28 = .ok (.baload, 1) := by decide +kernel
theorem dX8_pending_29 : decode cX8_pending 29 = .ok (.ifCond .ne 17, 3) := by decide +kernel
theorem dX8_pending_32 : decode cX8_pending 32 = .ok (.aload_n 0, 1) := by decide +kernel
theorem dX8_pending_33 : decode cX8_pending 33 = .ok (.getfield 26, 3) := by decide +kernel
theorem dX8_pending_36 : decode cX8_pending 36 = .ok (.bipush 7, 2) := by decide +kernel
theorem dX8_pending_38 : decode cX8_pending 38 = .ok (.iload_n 2, 1) := by decide +kernel
theorem dX8_pending_39 : decode cX8_pending 39 = .ok (.imul, 1) := by decide +kernel
theorem dX8_pending_40 : decode cX8_pending 40 = .ok (.iload_n 3, 1) := by decide +kernel
theorem dX8_pending_41 : decode cX8_pending 41 = .ok (.iadd, 1) := by decide +kernel
theorem dX8_pending_42 : decode cX8_pending 42 = .ok (.baload, 1) := by decide +kernel
theorem dX8_pending_43 : decode cX8_pending 43 = .ok (.ifCond .eq 7, 3) := by decide +kernel
theorem dX8_pending_46 : decode cX8_pending 46 = .ok (.iconst 0, 1) := by decide +kernel
theorem dX8_pending_47 : decode cX8_pending 47 = .ok (.goto 4, 3) := by decide +kernel
theorem dX8_pending_50 : decode cX8_pending 50 = .ok (.iconst 1, 1) := by decide +kernel
theorem dX8_pending_51 : decode cX8_pending 51 = .ok (.iadd, 1) := by decide +kernel
theorem dX8_pending_52 : decode cX8_pending 52 = .ok (.istore_n 1, 1) := by decide +kernel
theorem dX8_pending_53 : decode cX8_pending 53 = .ok (.iinc 3 1, 3) := by decide +kernel
theorem dX8_pending_56 : decode cX8_pending 56 = .ok (.goto (-42), 3) := by decide +kernel
theorem dX8_pending_59 : decode cX8_pending 59 = .ok (.iinc 2 1, 3) := by decide +kernel
theorem dX8_pending_62 : decode cX8_pending 62 = .ok (.goto (-58), 3) := by decide +kernel
theorem dX8_pending_65 : decode cX8_pending 65 = .ok (.iload_n 1, 1) := by decide +kernel
theorem dX8_pending_66 : decode cX8_pending 66 = .ok (.ireturn, 1) := by decide +kernel
set_option maxRecDepth 20000 in
theorem ggX8_height_X8_get : GoodIn wsX8_height wsX8_get := goodIn_r _ [7, 8, 9, 10, 11, 12, 13, 14, 15, 16, 17, 18] rfl (by decide +kernel)
set_option maxRecDepth 20000 in
theorem gX8_height_X8_get : GoodIn wsX8_height (wsV RX8 58 RX8 yX8_get wsX8_get) := goodIn_app (goodIn_of _ (by decide +kernel)) ggX8_height_X8_get
theorem dX8_height_0 : decode cX8_height 0 = .ok (.iconst (-1), 1) := by decide +kernel
theorem dX8_height_1 : decode cX8_height 1 = .ok (.istore_n 2, 1) := by decide +kernel
theorem dX8_height_2 : decode cX8_height 2 = .ok (.iconst 0, 1) := by decide +kernel
theorem dX8_height_3 : decode cX8_height 3 = .ok (.istore_n 3, 1) := by decide +kernel
theorem dX8_height_4 : decode cX8_height 4 = .ok (.iload_n 3, 1) := by decide +kernel
theorem dX8_height_5 : decode cX8_height 5 = .ok (.aload_n 0, 1) := by decide +kernel
theorem dX8_height_6 : decode cX8_height 6 = .ok (.getfield 29, 3) := by decide +kernel
theorem dX8_height_9 : decode cX8_height 9 = .ok (.if_icmp .ge 56, 3) := by decide +kernel
theorem dX8_height_12 : decode cX8_height 12 = .ok (.aload_n 0, 1) := by decide +kernel
theorem dX8_height_13 : decode cX8_height 13 = .ok (.iload_n 3, 1) := by decide +kernel
theorem dX8_height_14 : decode cX8_height 14 = .ok (.iconst 0, 1) := by decide +kernel
theorem dX8_height_15 : decode cX8_height 15 = .ok (.invokevirtual 58, 3) := by decide +kernel
theorem dX8_height_18 : decode cX8_height 18 = .ok (.istore 4, 2) := by decide +kernel
theorem dX8_height_20 : decode cX8_height 20 = .ok (.aload_n 0, 1) := by decide +kernel
theorem dX8_height_21 : decode cX8_height 21 = .ok (.getfield 7, 3) := by decide +kernel
theorem dX8_height_24 : decode cX8_height 24 = .ok (.iload_n 3, 1) := by decide +kernel
theorem dX8_height_25 : decode cX8_height 25 = .ok (.baload, 1) := by decide +kernel
theorem dX8_height_26 : decode cX8_height 26 = .ok (.ifCond .ne 26, 3) := by decide +kernel
theorem dX8_height_29 : decode cX8_height 29 = .ok (.iload_n 2, 1) := by decide +kernel
theorem dX8_height_30 : decode cX8_height 30 = .ok (.ifCond .lt 26, 3) := by decide +kernel
theorem dX8_height_33 : decode cX8_height 33 = .ok (.iload_n 1, 1) := by decide +kernel
theorem dX8_height_34 : decode cX8_height 34 = .ok (.ifCond .eq 12, 3) := by decide +kernel
theorem dX8_height_37 : decode cX8_height 37 = .ok (.iload 4, 2) := by decide +kernel
theorem dX8_height_39 : decode cX8_height 39 = .ok (.iload_n 2, 1) := by decide +kernel
theorem dX8_height_40 : decode cX8_height 40 = .ok (.if_icmp .lt 16, 3) := by decide +kernel
theorem dX8_height_43 : decode cX8_height 43 = .ok (.goto 9, 3) := by decide +kernel
theorem dX8_height_46 : decode cX8_height 46 = .ok (.iload 4, 2) := by decide +kernel
theorem dX8_height_48 : decode cX8_height 48 = .ok (.iload_n 2, 1) := by decide +kernel
theorem dX8_height_49 : decode cX8_height 49 = .ok (.if_icmp .gt 7, 3) := by decide +kernel
theorem dX8_height_52 : decode cX8_height 52 = .ok (.iload_n 2, 1) := by decide +kernel
theorem dX8_height_53 : decode cX8_height 53 = .ok (.goto 5, 3) := by decide +kernel
theorem dX8_height_56 : decode cX8_height 56 = .ok (.iload 4, 2) := by decide +kernel
theorem dX8_height_58 : decode cX8_height 58 = .ok (.istore_n 2, 1) := by decide +kernel
theorem dX8_height_59 : decode cX8_height 59 = .ok (.iinc 3 1, 3) := by decide +kernel
theorem dX8_height_62 : decode cX8_height 62 = .ok (.goto (-58), 3) := by decide +kernel
theorem dX8_height_65 : decode cX8_height 65 = .ok (.iload_n 2, 1) := by decide +kernel
theorem dX8_height_66 : decode cX8_height 66 = .ok (.ifCond .ge 7, 3) := by decide +kernel
theorem dX8_height_69 : decode cX8_height 69 = .ok (.iconst 0, 1) := by decide +kernel
theorem dX8_height_70 : decode cX8_height 70 = .ok (.goto 4, 3) := by decide +kernel
theorem dX8_height_73 : decode cX8_height 73 = .ok (.iload_n 2, 1) := by decide +kernel
theorem dX8_height_74 : decode cX8_height 74 = .ok (.ireturn, 1) := by decide +kernel
theorem dX8_unlike_0 : decode cX8_unlike 0 = .ok (.iconst 0, 1) := by decide +kernel
theorem dX8_unlike_1 : decode cX8_unlike 1 = .ok (.istore_n 1, 1) := by decide +kernel
theorem dX8_unlike_2 : decode cX8_unlike 2 = .ok (.iconst 0, 1) := by decide +kernel
theorem dX8_unlike_3 : decode cX8_unlike 3 = .ok (.istore_n 2, 1) := by decide +kernel
theorem dX8_unlike_4 : decode cX8_unlike 4 = .ok (.iload_n 2, 1) := by decide +kernel
theorem dX8_unlike_5 : decode cX8_unlike 5 = .ok (.bipush 6, 2) := by decide +kernel
theorem dX8_unlike_7 : decode cX8_unlike 7 = .ok (.if_icmp .ge 113, 3) := by decide +kernel
theorem dX8_unlike_10 : decode cX8_unlike 10 = .ok (.iconst (-1), 1) := by decide +kernel
theorem dX8_unlike_11 : decode cX8_unlike 11 = .ok (.istore_n 3, 1) := by decide +kernel
theorem dX8_unlike_12 : decode cX8_unlike 12 = .ok (.iconst 0, 1) := by decide +kernel
theorem dX8_unlike_13 : decode cX8_unlike 13 = .ok (.istore 4, 2) := by decide +kernel
theorem dX8_unlike_15 : decode cX8_unlike 15 = .ok (.iconst 0, 1) := by decide +kernel
theorem dX8_unlike_16 : decode cX8_unlike 16 = .ok (.istore 5, 2) := by decide +kernel
theorem dX8_unlike_18 : decode cX8_unlike 18 = .ok (.iload 5, 2) := by decide +kernel
theorem dX8_unlike_20 : decode cX8_unlike 20 = .ok (.aload_n 0, 1) := by decide +kernel
theorem dX8_unlike_21 : decode cX8_unlike 21 = .ok (.getfield 29, 3) := by decide +kernel
theorem dX8_unlike_24 : decode cX8_unlike 24 = .ok (.if_icmp .ge 77, 3) := by decide +kernel
theorem dX8_unlike_27 : decode cX8_unlike 27 = .ok (.aload_n 0, 1) := by decide +kernel
theorem dX8_unlike_28 : decode cX8_unlike 28 = .ok (.getfield 7, 3) := by decide +kernel
theorem dX8_unlike_31 : decode cX8_unlike 31 = .ok (.iload 5, 2) := by decide +kernel
theorem dX8_unlike_33 : decode cX8_unlike 33 = .ok (.baload, 1) := by decide +kernel
theorem dX8_unlike_34 : decode cX8_unlike 34 = .ok (.ifCond .eq 7, 3) := by decide +kernel
theorem dX8_unlike_37 : decode cX8_unlike 37 = .ok (.iconst (-1), 1) := by decide +kernel
theorem dX8_unlike_38 : decode cX8_unlike 38 = .ok (.goto 17, 3) := by decide +kernel
theorem dX8_unlike_41 : decode cX8_unlike 41 = .ok (.aload_n 0, 1) := by decide +kernel
theorem dX8_unlike_42 : decode cX8_unlike 42 = .ok (.getfield 20, 3) := by decide +kernel
theorem dX8_unlike_45 : decode cX8_unlike 45 = .ok (.bipush 12, 2) := by decide +kernel
theorem dX8_unlike_47 : decode cX8_unlike 47 = .ok (.iload 5, 2) := by decide +kernel
theorem dX8_unlike_49 : decode cX8_unlike 49 = .ok (.imul, 1) := by decide +kernel
theorem dX8_unlike_50 : decode cX8_unlike 50 = .ok (.iconst 2, 1) := by decide +kernel
theorem dX8_unlike_51 : decode cX8_unlike 51 = .ok (.iload_n 2, 1) := by decide +kernel
theorem dX8_unlike_52 : decode cX8_unlike 52 = .ok (.imul, 1) := by decide +kernel
theorem dX8_unlike_53 : decode cX8_unlike 53 = .ok (.iadd, 1) := by decide +kernel
theorem dX8_unlike_54 : decode cX8_unlike 54 = .ok (.iaload, 1) := by decide +kernel
theorem dX8_unlike_55 : decode cX8_unlike 55 = .ok (.istore 6, 2) := by decide +kernel
theorem dX8_unlike_57 : decode cX8_unlike 57 = .ok (.iload 4, 2) := by decide +kernel
theorem dX8_unlike_59 : decode cX8_unlike 59 = .ok (.ifCond .ne 18, 3) := by decide +kernel
theorem dX8_unlike_62 : decode cX8_unlike 62 = .ok (.iload 6, 2) := by decide +kernel
theorem dX8_unlike_64 : decode cX8_unlike 64 = .ok (.ifCond .lt 17, 3) := by decide +kernel
theorem dX8_unlike_67 : decode cX8_unlike 67 = .ok (.iload_n 3, 1) := by decide +kernel
theorem dX8_unlike_68 : decode cX8_unlike 68 = .ok (.ifCond .lt 13, 3) := by decide +kernel
theorem dX8_unlike_71 : decode cX8_unlike 71 = .ok (.iload 6, 2) := by decide +kernel
theorem dX8_unlike_73 : decode cX8_unlike 73 = .ok (.iload_n 3, 1) := by decide +kernel
theorem dX8_unlike_74 : decode cX8_unlike 74 = .ok (.if_icmp .eq 7, 3) := by decide +kernel
theorem dX8_unlike_77 : decode cX8_unlike 77 = .ok (.iconst 1, 1) := by decide +kernel
theorem dX8_unlike_78 : decode cX8_unlike 78 = .ok (.goto 4, 3) := by decide +kernel
theorem dX8_unlike_81 : decode cX8_unlike 81 = .ok (.iconst 0, 1) := by decide +kernel
theorem dX8_unlike_82 : decode cX8_unlike 82 = .ok (.istore 4, 2) := by decide +kernel
theorem dX8_unlike_84 : decode cX8_unlike 84 = .ok (.iload_n 3, 1) := by decide +kernel
theorem dX8_unlike_85 : decode cX8_unlike 85 = .ok (.ifCond .ge 8, 3) := by decide +kernel
theorem dX8_unlike_88 : decode cX8_unlike 88 = .ok (.iload 6, 2) := by decide +kernel
theorem dX8_unlike_90 : decode cX8_unlike 90 = .ok (.goto 4, 3) := by decide +kernel
theorem dX8_unlike_93 : decode cX8_unlike 93 = .ok (.iload_n 3, 1) := by decide +kernel
theorem dX8_unlike_94 : decode cX8_unlike 94 = .ok (.istore_n 3, 1) := by decide +kernel
theorem dX8_unlike_95 : decode cX8_unlike 95 = .ok (.iinc 5 1, 3) := by decide +kernel
theorem dX8_unlike_98 : decode cX8_unlike 98 = .ok (.goto (-80), 3) := by decide +kernel
theorem dX8_unlike_101 : decode cX8_unlike 101 = .ok (.iload_n 1, 1) := by decide +kernel
theorem dX8_unlike_102 : decode cX8_unlike 102 = .ok (.iload 4, 2) := by decide +kernel
theorem dX8_unlike_104 : decode cX8_unlike 104 = .ok (.ifCond .eq 7, 3) := by decide +kernel
theorem dX8_unlike_107 : decode cX8_unlike 107 = .ok (.iconst 1, 1) := by decide +kernel
theorem dX8_unlike_108 : decode cX8_unlike 108 = .ok (.goto 4, 3) := by decide +kernel
theorem dX8_unlike_111 : decode cX8_unlike 111 = .ok (.iconst 0, 1) := by decide +kernel
theorem dX8_unlike_112 : decode cX8_unlike 112 = .ok (.iadd, 1) := by decide +kernel
theorem dX8_unlike_113 : decode cX8_unlike 113 = .ok (.istore_n 1, 1) := by decide +kernel
theorem dX8_unlike_114 : decode cX8_unlike 114 = .ok (.iinc 2 1, 3) := by decide +kernel
theorem dX8_unlike_117 : decode cX8_unlike 117 = .ok (.goto (-113), 3) := by decide +kernel
theorem dX8_unlike_120 : decode cX8_unlike 120 = .ok (.iload_n 1, 1) := by decide +kernel
theorem dX8_unlike_121 : decode cX8_unlike 121 = .ok (.ireturn, 1) := by decide +kernel
set_option maxRecDepth 20000 in
theorem ggX8_count_X8_falseMany : GoodIn wsX8_count wsX8_falseMany := goodIn_r _ [8, 1, 9, 37, 38, 39, 40, 41, 42, 43, 44, 45, 46] rfl (by decide +kernel)
set_option maxRecDepth 20000 in
theorem gX8_count_X8_falseMany : GoodIn wsX8_count (wsV RX8 54 RX8 yX8_falseMany wsX8_falseMany) := goodIn_app (goodIn_of _ (by decide +kernel)) ggX8_count_X8_falseMany
set_option maxRecDepth 20000 in
theorem ggX8_count_X8_pending : GoodIn wsX8_count wsX8_pending := goodIn_r _ [13, 2, 1, 9, 14, 37, 38, 39, 40, 41, 42, 43, 44, 45, 46] rfl (by decide +kernel)
set_option maxRecDepth 20000 in
theorem gX8_count_X8_pending : GoodIn wsX8_count (wsV RX8 151 RX8 yX8_pending wsX8_pending) := goodIn_app (goodIn_of _ (by decide +kernel)) ggX8_count_X8_pending
set_option maxRecDepth 20000 in
theorem ggX8_count_X8_height : GoodIn wsX8_count wsX8_height := goodIn_r _ [18, 1, 9, 19, 20, 21, 7, 22, 23, 37, 38, 39, 40, 41, 42, 43, 44, 45, 46] rfl (by decide +kernel)
set_option maxRecDepth 20000 in
theorem gX8_count_X8_height : GoodIn wsX8_count (wsV RX8 154 RX8 yX8_height wsX8_height) := goodIn_app (goodIn_of _ (by decide +kernel)) ggX8_count_X8_height
set_option maxRecDepth 20000 in
theorem ggX8_count_X8_many : GoodIn wsX8_count wsX8_many := goodIn_r _ [27, 1, 37, 38, 39, 40, 41, 42, 43, 44, 45, 46] rfl (by decide +kernel)
set_option maxRecDepth 20000 in
theorem gX8_count_X8_many : GoodIn wsX8_count (wsV RX8 112 RX8 yX8_many wsX8_many) := goodIn_app (goodIn_of _ (by decide +kernel)) ggX8_count_X8_many
set_option maxRecDepth 20000 in
theorem ggX8_count_X8_some : GoodIn wsX8_count wsX8_some := goodIn_r _ [31, 1, 37, 38, 39, 40, 41, 42, 43, 44, 45, 46] rfl (by decide +kernel)
set_option maxRecDepth 20000 in
theorem gX8_count_X8_some : GoodIn wsX8_count (wsV RX8 118 RX8 yX8_some wsX8_some) := goodIn_app (goodIn_of _ (by decide +kernel)) ggX8_count_X8_some
set_option maxRecDepth 20000 in
theorem ggX8_count_X8_unlike : GoodIn wsX8_count wsX8_unlike := goodIn_r _ [35, 1, 9, 36, 37, 38, 39, 40, 41, 42, 43, 44, 45, 46] rfl (by decide +kernel)
set_option maxRecDepth 20000 in
theorem gX8_count_X8_unlike : GoodIn wsX8_count (wsV RX8 158 RX8 yX8_unlike wsX8_unlike) := goodIn_app (goodIn_of _ (by decide +kernel)) ggX8_count_X8_unlike
theorem dX8_count_0 : decode cX8_count 0 = .ok (.iload_n 1, 1) := by decide +kernel
theorem dX8_count_1 : decode cX8_count 1 = .ok (.tableswitch 115 0 9 #[55, 60, 65, 70, 75, 81, 87, 100, 105, 110], 55) := by decide +kernel
theorem dX8_count_56 : decode cX8_count 56 = .ok (.aload_n 0, 1) := by decide +kernel
theorem dX8_count_57 : decode cX8_count 57 = .ok (.getfield 29, 3) := by decide +kernel
theorem dX8_count_60 : decode cX8_count 60 = .ok (.ireturn, 1) := by decide +kernel
theorem dX8_count_61 : decode cX8_count 61 = .ok (.aload_n 0, 1) := by decide +kernel
theorem dX8_count_62 : decode cX8_count 62 = .ok (.invokevirtual 54, 3) := by decide +kernel
theorem dX8_count_65 : decode cX8_count 65 = .ok (.ireturn, 1) := by decide +kernel
theorem dX8_count_66 : decode cX8_count 66 = .ok (.aload_n 0, 1) := by decide +kernel
theorem dX8_count_67 : decode cX8_count 67 = .ok (.getfield 44, 3) := by decide +kernel
theorem dX8_count_70 : decode cX8_count 70 = .ok (.ireturn, 1) := by decide +kernel
theorem dX8_count_71 : decode cX8_count 71 = .ok (.aload_n 0, 1) := by decide +kernel
theorem dX8_count_72 : decode cX8_count 72 = .ok (.invokevirtual 151, 3) := by decide +kernel
theorem dX8_count_75 : decode cX8_count 75 = .ok (.ireturn, 1) := by decide +kernel
theorem dX8_count_76 : decode cX8_count 76 = .ok (.aload_n 0, 1) := by decide +kernel
theorem dX8_count_77 : decode cX8_count 77 = .ok (.iconst 1, 1) := by decide +kernel
theorem dX8_count_78 : decode cX8_count 78 = .ok (.invokevirtual 154, 3) := by decide +kernel
theorem dX8_count_81 : decode cX8_count 81 = .ok (.ireturn, 1) := by decide +kernel
theorem dX8_count_82 : decode cX8_count 82 = .ok (.aload_n 0, 1) := by decide +kernel
theorem dX8_count_83 : decode cX8_count 83 = .ok (.iconst 0, 1) := by decide +kernel
theorem dX8_count_84 : decode cX8_count 84 = .ok (.invokevirtual 154, 3) := by decide +kernel
theorem dX8_count_87 : decode cX8_count 87 = .ok (.ireturn, 1) := by decide +kernel
theorem dX8_count_88 : decode cX8_count 88 = .ok (.aload_n 0, 1) := by decide +kernel
theorem dX8_count_89 : decode cX8_count 89 = .ok (.getfield 40, 3) := by decide +kernel
theorem dX8_count_92 : decode cX8_count 92 = .ok (.ifCond .eq 7, 3) := by decide +kernel
theorem dX8_count_95 : decode cX8_count 95 = .ok (.iconst 1, 1) := by decide +kernel
theorem dX8_count_96 : decode cX8_count 96 = .ok (.goto 4, 3) := by decide +kernel
theorem dX8_count_99 : decode cX8_count 99 = .ok (.iconst 0, 1) := by decide +kernel
theorem dX8_count_100 : decode cX8_count 100 = .ok (.ireturn, 1) := by decide +kernel
theorem dX8_count_101 : decode cX8_count 101 = .ok (.aload_n 0, 1) := by decide +kernel
theorem dX8_count_102 : decode cX8_count 102 = .ok (.invokevirtual 112, 3) := by decide +kernel
theorem dX8_count_105 : decode cX8_count 105 = .ok (.ireturn, 1) := by decide +kernel
theorem dX8_count_106 : decode cX8_count 106 = .ok (.aload_n 0, 1) := by decide +kernel
theorem dX8_count_107 : decode cX8_count 107 = .ok (.invokevirtual 118, 3) := by decide +kernel
theorem dX8_count_110 : decode cX8_count 110 = .ok (.ireturn, 1) := by decide +kernel
theorem dX8_count_111 : decode cX8_count 111 = .ok (.aload_n 0, 1) := by decide +kernel
theorem dX8_count_112 : decode cX8_count 112 = .ok (.invokevirtual 158, 3) := by decide +kernel
theorem dX8_count_115 : decode cX8_count 115 = .ok (.ireturn, 1) := by decide +kernel
theorem dX8_count_116 : decode cX8_count 116 = .ok (.iconst (-1), 1) := by decide +kernel
theorem dX8_count_117 : decode cX8_count 117 = .ok (.ireturn, 1) := by decide +kernel
