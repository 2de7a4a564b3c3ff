set_option maxRecDepth 20000 in
theorem ggX8_init_X8_anew : GoodIn wsX8_init wsX8_anew := goodIn_r _ [17, 18, 19, 5, 8, 9, 6, 11, 20, 21, 22, 23, 24, 25, 26, 27, 28, 29] rfl (by decide +kernel)
set_option maxRecDepth 20000 in
theorem gX8_init_X8_anew : GoodIn wsX8_init (wsV RX8 33 RX8 yX8_anew wsX8_anew) := goodIn_app (goodIn_of _ (by decide +kernel)) ggX8_init_X8_anew
theorem dX8_init_0 : decode cX8_init 0 = .ok (.aload_n 0, 1) := by decide +kernel
theorem dX8_init_1 : decode cX8_init 1 = .ok (.invokespecial 1, 3) := by decide +kernel
theorem dX8_init_4 : decode cX8_init 4 = .ok (.aload_n 0, 1) := by decide +kernel
theorem dX8_init_5 : decode cX8_init 5 = .ok (.bipush 7, 2) := by decide +kernel
theorem dX8_init_7 : decode cX8_init 7 = .ok (.newarray .boolean, 2) := by decide +kernel
theorem dX8_init_9 : decode cX8_init 9 = .ok (.putfield 7, 3) := by decide +kernel
theorem dX8_init_12 : decode cX8_init 12 = .ok (.aload_n 0, 1) := by decide +kernel
theorem dX8_init_13 : decode cX8_init 13 = .ok (.sipush 700, 3) := by decide +kernel
theorem dX8_init_16 : decode cX8_init 16 = .ok (.newarray .boolean, 2) := by decide +kernel
theorem dX8_init_18 : decode cX8_init 18 = .ok (.putfield 13, 3) := by decide +kernel
theorem dX8_init_21 : decode cX8_init 21 = .ok (.aload_n 0, 1) := by decide +kernel
theorem dX8_init_22 : decode cX8_init 22 = .ok (.sipush 140, 3) := by decide +kernel
theorem dX8_init_25 : decode cX8_init 25 = .ok (.newarray .int, 2) := by decide +kernel
theorem dX8_init_27 : decode cX8_init 27 = .ok (.putfield 16, 3) := by decide +kernel
theorem dX8_init_30 : decode cX8_init 30 = .ok (.aload_n 0, 1) := by decide +kernel
theorem dX8_init_31 : decode cX8_init 31 = .ok (.bipush 84, 2) := by decide +kernel
theorem dX8_init_33 : decode cX8_init 33 = .ok (.newarray .int, 2) := by decide +kernel
theorem dX8_init_35 : decode cX8_init 35 = .ok (.putfield 20, 3) := by decide +kernel
theorem dX8_init_38 : decode cX8_init 38 = .ok (.aload_n 0, 1) := by decide +kernel
theorem dX8_init_39 : decode cX8_init 39 = .ok (.sipush 2400, 3) := by decide +kernel
theorem dX8_init_42 : decode cX8_init 42 = .ok (.newarray .int, 2) := by decide +kernel
theorem dX8_init_44 : decode cX8_init 44 = .ok (.putfield 23, 3) := by decide +kernel
theorem dX8_init_47 : decode cX8_init 47 = .ok (.aload_n 0, 1) := by decide +kernel
theorem dX8_init_48 : decode cX8_init 48 = .ok (.sipush 2800, 3) := by decide +kernel
theorem dX8_init_51 : decode cX8_init 51 = .ok (.newarray .boolean, 2) := by decide +kernel
theorem dX8_init_53 : decode cX8_init 53 = .ok (.putfield 26, 3) := by decide +kernel
theorem dX8_init_56 : decode cX8_init 56 = .ok (.aload_n 0, 1) := by decide +kernel
theorem dX8_init_57 : decode cX8_init 57 = .ok (.iconst 4, 1) := by decide +kernel
theorem dX8_init_58 : decode cX8_init 58 = .ok (.putfield 29, 3) := by decide +kernel
theorem dX8_init_61 : decode cX8_init 61 = .ok (.aload_n 0, 1) := by decide +kernel
theorem dX8_init_62 : decode cX8_init 62 = .ok (.invokevirtual 33, 3) := by decide +kernel
theorem dX8_init_65 : decode cX8_init 65 = .ok (.return_, 1) := by decide +kernel
theorem dX8_in_0 : decode cX8_in 0 = .ok (.iload_n 0, 1) := by decide +kernel
theorem dX8_in_1 : decode cX8_in 1 = .ok (.iload_n 1, 1) := by decide +kernel
theorem dX8_in_2 : decode cX8_in 2 = .ok (.if_icmp .lt 12, 3) := by decide +kernel
theorem dX8_in_5 : decode cX8_in 5 = .ok (.iload_n 0, 1) := by decide +kernel
theorem dX8_in_6 : decode cX8_in 6 = .ok (.iload_n 2, 1) := by decide +kernel
theorem dX8_in_7 : decode cX8_in 7 = .ok (.if_icmp .gt 7, 3) := by decide +kernel
theorem dX8_in_10 : decode cX8_in 10 = .ok (.iconst 1, 1) := by decide +kernel
theorem dX8_in_11 : decode cX8_in 11 = .ok (.goto 4, 3) := by decide +kernel
theorem dX8_in_14 : decode cX8_in 14 = .ok (.iconst 0, 1) := by decide +kernel
theorem dX8_in_15 : decode cX8_in 15 = .ok (.ireturn, 1) := by decide +kernel
set_option maxRecDepth 20000 in
theorem ggX8_isSeat_X8_in : GoodIn wsX8_isSeat wsX8_in := goodIn_r _ [5] rfl (by decide +kernel)
set_option maxRecDepth 20000 in
theorem gX8_isSeat_X8_in : GoodIn wsX8_isSeat (va_wsS RX8 36 yX8_in wsX8_in) := goodIn_app (goodIn_of _ (by decide +kernel)) ggX8_isSeat_X8_in
theorem dX8_isSeat_0 : decode cX8_isSeat 0 = .ok (.iload_n 1, 1) := by decide +kernel
theorem dX8_isSeat_1 : decode cX8_isSeat 1 = .ok (.iconst 0, 1) := by decide +kernel
theorem dX8_isSeat_2 : decode cX8_isSeat 2 = .ok (.aload_n 0, 1) := by decide +kernel
theorem dX8_isSeat_3 : decode cX8_isSeat 3 = .ok (.getfield 29, 3) := by decide +kernel
theorem dX8_isSeat_6 : decode cX8_isSeat 6 = .ok (.iconst 1, 1) := by decide +kernel
theorem dX8_isSeat_7 : decode cX8_isSeat 7 = .ok (.isub, 1) := by decide +kernel
theorem dX8_isSeat_8 : decode cX8_isSeat 8 = .ok (.invokestatic 36, 3) := by decide +kernel
theorem dX8_isSeat_11 : decode cX8_isSeat 11 = .ok (.ireturn, 1) := by decide +kernel
theorem dX8_anew_0 : decode cX8_anew 0 = .ok (.aload_n 0, 1) := by decide +kernel
theorem dX8_anew_1 : decode cX8_anew 1 = .ok (.iconst 0, 1) := by decide +kernel
theorem dX8_anew_2 : decode cX8_anew 2 = .ok (.putfield 40, 3) := by decide +kernel
theorem dX8_anew_5 : decode cX8_anew 5 = .ok (.aload_n 0, 1) := by decide +kernel
theorem dX8_anew_6 : decode cX8_anew 6 = .ok (.iconst 0, 1) := by decide +kernel
theorem dX8_anew_7 : decode cX8_anew 7 = .ok (.putfield 44, 3) := by decide +kernel
theorem dX8_anew_10 : decode cX8_anew 10 = .ok (.iconst 0, 1) := by decide +kernel
theorem dX8_anew_11 : decode cX8_anew 11 = .ok (.istore_n 1, 1) := by decide +kernel
theorem dX8_anew_12 : decode cX8_anew 12 = .ok (.iload_n 1, 1) := by decide +kernel
theorem dX8_anew_13 : decode cX8_anew 13 = .ok (.bipush 7, 2) := by decide +kernel
theorem dX8_anew_15 : decode cX8_anew 15 = .ok (.if_icmp .ge 94, 3) := by decide +kernel
theorem dX8_anew_18 : decode cX8_anew 18 = .ok (.aload_n 0, 1) := by decide +kernel
theorem dX8_anew_19 : decode cX8_anew 19 = .ok (.getfield 7, 3) := by decide +kernel
theorem dX8_anew_22 : decode cX8_anew 22 = .ok (.iload_n 1, 1) := by decide +kernel
theorem dX8_anew_23 : decode cX8_anew 23 = .ok (.iconst 0, 1) := by decide +kernel
theorem dX8_anew_24 : decode cX8_anew 24 = .ok (.bastore, 1) := by decide +kernel
theorem dX8_anew_25 : decode cX8_anew 25 = .ok (.iconst 0, 1) := by decide +kernel
theorem dX8_anew_26 : decode cX8_anew 26 = .ok (.istore_n 2, 1) := by decide +kernel
theorem dX8_anew_27 : decode cX8_anew 27 = .ok (.iload_n 2, 1) := by decide +kernel
theorem dX8_anew_28 : decode cX8_anew 28 = .ok (.bipush 20, 2) := by decide +kernel
theorem dX8_anew_30 : decode cX8_anew 30 = .ok (.if_icmp .ge 21, 3) := by decide +kernel
theorem dX8_anew_33 : decode cX8_anew 33 = .ok (.aload_n 0, 1) := by decide +kernel
theorem dX8_anew_34 : decode cX8_anew 34 = .ok (.getfield 16, 3) := by decide +kernel
theorem dX8_anew_37 : decode cX8_anew 37 = .ok (.bipush 20, 2) := by decide +kernel
theorem dX8_anew_39 : decode cX8_anew 39 = .ok (.iload_n 1, 1) := by decide +kernel
theorem dX8_anew_40 : decode cX8_anew 40 = .ok (.imul, 1) := by decide +kernel
theorem dX8_anew_41 : decode cX8_anew 41 = .ok (.iload_n 2, 1) := by decide +kernel
theorem dX8_anew_42 : decode cX8_anew 42 = .ok (.iadd, 1) := by decide +kernel
theorem dX8_anew_43 : decode cX8_anew 43 = .ok (.iconst 0, 1) := by decide +kernel
theorem dX8_anew_44 : decode cX8_anew 44 = .ok (.iastore, 1) := by decide +kernel
theorem dX8_anew_45 : decode cX8_anew 45 = .ok (.iinc 2 1, 3) := by decide +kernel
theorem dX8_anew_48 : decode cX8_anew 48 = .ok (.goto (-21), 3) := by decide +kernel
theorem dX8_anew_51 : decode cX8_anew 51 = .ok (.aload_n 0, 1) := by decide +kernel
theorem dX8_anew_52 : decode cX8_anew 52 = .ok (.getfield 16, 3) := by decide +kernel
theorem dX8_anew_55 : decode cX8_anew 55 = .ok (.bipush 20, 2) := by decide +kernel
theorem dX8_anew_57 : decode cX8_anew 57 = .ok (.iload_n 1, 1) := by decide +kernel
theorem dX8_anew_58 : decode cX8_anew 58 = .ok (.imul, 1) := by decide +kernel
theorem dX8_anew_59 : decode cX8_anew 59 = .ok (.iconst 3, 1) := by decide +kernel
theorem dX8_anew_60 : decode cX8_anew 60 = .ok (.iadd, 1) := by decide +kernel
theorem dX8_anew_61 : decode cX8_anew 61 = .ok (.iconst (-1), 1) := by decide +kernel
theorem dX8_anew_62 : decode cX8_anew 62 = .ok (.iastore, 1) := by decide +kernel
theorem dX8_anew_63 : decode cX8_anew 63 = .ok (.aload_n 0, 1) := by decide +kernel
theorem dX8_anew_64 : decode cX8_anew 64 = .ok (.getfield 16, 3) := by decide +kernel
theorem dX8_anew_67 : decode cX8_anew 67 = .ok (.bipush 20, 2) := by decide +kernel
theorem dX8_anew_69 : decode cX8_anew 69 = .ok (.iload_n 1, 1) := by decide +kernel
theorem dX8_anew_70 : decode cX8_anew 70 = .ok (.imul, 1) := by decide +kernel
theorem dX8_anew_71 : decode cX8_anew 71 = .ok (.iconst 5, 1) := by decide +kernel
theorem dX8_anew_72 : decode cX8_anew 72 = .ok (.iadd, 1) := by decide +kernel
theorem dX8_anew_73 : decode cX8_anew 73 = .ok (.iconst (-1), 1) := by decide +kernel
theorem dX8_anew_74 : decode cX8_anew 74 = .ok (.iastore, 1) := by decide +kernel
theorem dX8_anew_75 : decode cX8_anew 75 = .ok (.iconst 0, 1) := by decide +kernel
theorem dX8_anew_76 : decode cX8_anew 76 = .ok (.istore_n 2, 1) := by decide +kernel
theorem dX8_anew_77 : decode cX8_anew 77 = .ok (.iload_n 2, 1) := by decide +kernel
theorem dX8_anew_78 : decode cX8_anew 78 = .ok (.bipush 6, 2) := by decide +kernel
theorem dX8_anew_80 : decode cX8_anew 80 = .ok (.if_icmp .ge 23, 3) := by decide +kernel
theorem dX8_anew_83 : decode cX8_anew 83 = .ok (.aload_n 0, 1) := by decide +kernel
theorem dX8_anew_84 : decode cX8_anew 84 = .ok (.getfield 20, 3) := by decide +kernel
theorem dX8_anew_87 : decode cX8_anew 87 = .ok (.bipush 12, 2) := by decide +kernel
theorem dX8_anew_89 : decode cX8_anew 89 = .ok (.iload_n 1, 1) := by decide +kernel
theorem dX8_anew_90 : decode cX8_anew 90 = .ok (.imul, 1) := by decide +kernel
theorem dX8_anew_91 : decode cX8_anew 91 = .ok (.iconst 2, 1) := by decide +kernel
theorem dX8_anew_92 : decode cX8_anew 92 = .ok (.iload_n 2, 1) := by decide +kernel
theorem dX8_anew_93 : decode cX8_anew 93 = .ok (.imul, 1) := by decide +kernel
theorem dX8_anew_94 : decode cX8_anew 94 = .ok (.iadd, 1) := by decide +kernel
theorem dX8_anew_95 : decode cX8_anew 95 = .ok (.iconst (-1), 1) := by decide +kernel
theorem dX8_anew_96 : decode cX8_anew 96 = .ok (.iastore, 1) := by decide +kernel
theorem dX8_anew_97 : decode cX8_anew 97 = .ok (.iinc 2 1, 3) := by decide +kernel
theorem dX8_anew_100 : decode cX8_anew 100 = .ok (.goto (-23), 3) := by decide +kernel
theorem dX8_anew_103 : decode cX8_anew 103 = .ok (.iinc 1 1, 3) := by decide +kernel
theorem dX8_anew_106 : decode cX8_anew 106 = .ok (.goto (-94), 3) := by decide +kernel
theorem dX8_anew_109 : decode cX8_anew 109 = .ok (.iconst 0, 1) := by decide +kernel
theorem dX8_anew_110 : decode cX8_anew 110 = .ok (.istore_n 1, 1) := by decide +kernel
theorem dX8_anew_111 : decode cX8_anew 111 = .ok (.iload_n 1, 1) := by decide +kernel
theorem dX8_anew_112 : decode cX8_anew 112 = .ok (.sipush 700, 3) := by decide +kernel
theorem dX8_anew_115 : decode cX8_anew 115 = .ok (.if_icmp .ge 16, 3) := by decide +kernel
theorem dX8_anew_118 : decode cX8_anew 118 = .ok (.aload_n 0, 1) := by decide +kernel
theorem dX8_anew_119 : decode cX8_anew 119 = .ok (.getfield 13, 3) := by decide +kernel
theorem dX8_anew_122 : decode cX8_anew 122 = .ok (.iload_n 1, 1) := by decide +kernel
theorem dX8_anew_123 : decode cX8_anew 123 = .ok (.iconst 0, 1) := by decide +kernel
theorem dX8_anew_124 : decode cX8_anew 124 = .ok (.bastore, 1) := by decide +kernel
theorem dX8_anew_125 : decode cX8_anew 125 = .ok (.iinc 1 1, 3) := by decide +kernel
theorem dX8_anew_128 : decode cX8_anew 128 = .ok (.goto (-17), 3) := by decide +kernel
theorem dX8_anew_131 : decode cX8_anew 131 = .ok (.iconst 0, 1) := by decide +kernel
theorem dX8_anew_132 : decode cX8_anew 132 = .ok (.istore_n 1, 1) := by decide +kernel
theorem dX8_anew_133 : decode cX8_anew 133 = .ok (.iload_n 1, 1) := by decide +kernel
theorem dX8_anew_134 : decode cX8_anew 134 = .ok (.sipush 2800, 3) := by decide +kernel
theorem dX8_anew_137 : decode cX8_anew 137 = .ok (.if_icmp .ge 16, 3) := by decide +kernel
theorem dX8_anew_140 : decode cX8_anew 140 = .ok (.aload_n 0, 1) := by decide +kernel
theorem dX8_anew_141 : decode cX8_anew 141 = .ok (.getfield 26, 3) := by decide +kernel
theorem dX8_anew_144 : decode cX8_anew 144 = .ok (.iload_n 1, 1) := by decide +kernel
theorem dX8_anew_145 : decode cX8_anew 145 = .ok (.iconst 0, 1) := by decide +kernel
theorem dX8_anew_146 : decode cX8_anew 146 = .ok (.bastore, 1) := by decide +kernel
theorem dX8_anew_147 : decode cX8_anew 147 = .ok (.iinc 1 1, 3) := by decide +kernel
theorem dX8_anew_150 : decode cX8_anew 150 = .ok (.goto (-17), 3) := by decide +kernel
theorem dX8_anew_153 : decode cX8_anew 153 = .ok (.return_, 1) := by decide +kernel
theorem dX8_many_0 : decode cX8_many 0 = .ok (.iconst 2, 1) := by decide +kernel
theorem dX8_many_1 : decode cX8_many 1 = .ok (.aload_n 0, 1) := by decide +kernel
theorem dX8_many_2 : decode cX8_many 2 = .ok (.getfield 29, 3) := by decide +kernel
theorem dX8_many_5 : decode cX8_many 5 = .ok (.imul, 1) := by decide +kernel
theorem dX8_many_6 : decode cX8_many 6 = .ok (.iconst 3, 1) := by decide +kernel
theorem dX8_many_7 : decode cX8_many 7 = .ok (.idiv, 1) := by decide +kernel
theorem dX8_many_8 : decode cX8_many 8 = .ok (.iconst 1, 1) := by decide +kernel
theorem dX8_many_9 : decode cX8_many 9 = .ok (.iadd, 1) := by decide +kernel
theorem dX8_many_10 : decode cX8_many 10 = .ok (.ireturn, 1) := by decide +kernel
theorem dX8_some_0 : decode cX8_some 0 = .ok (.aload_n 0, 1) := by decide +kernel
theorem dX8_some_1 : decode cX8_some 1 = .ok (.getfield 29, 3) := by decide +kernel
theorem dX8_some_4 : decode cX8_some 4 = .ok (.iconst 1, 1) := by decide +kernel
theorem dX8_some_5 : decode cX8_some 5 = .ok (.isub, 1) := by decide +kernel
theorem dX8_some_6 : decode cX8_some 6 = .ok (.iconst 3, 1) := by decide +kernel
theorem dX8_some_7 : decode cX8_some 7 = .ok (.idiv, 1) := by decide +kernel
theorem dX8_some_8 : decode cX8_some 8 = .ok (.iconst 1, 1) := by decide +kernel
theorem dX8_some_9 : decode cX8_some 9 = .ok (.iadd, 1) := by decide +kernel
theorem dX8_some_10 : decode cX8_some 10 = .ok (.ireturn, 1) := by decide +kernel
theorem dX8_proposer_0 : decode cX8_proposer 0 = .ok (.iload_n 1, 1) := by decide +kernel
theorem dX8_proposer_1 : decode cX8_proposer 1 = .ok (.iload_n 2, 1) := by decide +kernel
theorem dX8_proposer_2 : decode cX8_proposer 2 = .ok (.iadd, 1) := by decide +kernel
theorem dX8_proposer_3 : decode cX8_proposer 3 = .ok (.aload_n 0, 1) := by decide +kernel
theorem dX8_proposer_4 : decode cX8_proposer 4 = .ok (.getfield 29, 3) := by decide +kernel
theorem dX8_proposer_7 : decode cX8_proposer 7 = .ok (.irem, 1) := by decide +kernel
theorem dX8_proposer_8 : decode cX8_proposer 8 = .ok (.ireturn, 1) := by decide +kernel
set_option maxRecDepth 20000 in
theorem ggX8_seats_X8_in : GoodIn wsX8_seats wsX8_in := goodIn_r _ [6] rfl (by decide +kernel)
set_option maxRecDepth 20000 in
theorem gX8_seats_X8_in : GoodIn wsX8_seats (va_wsS RX8 36 yX8_in wsX8_in) := goodIn_app (goodIn_of _ (by decide +kernel)) ggX8_seats_X8_in
set_option maxRecDepth 20000 in
theorem ggX8_seats_X8_anew : GoodIn wsX8_seats wsX8_anew := goodIn_r _ [10, 11, 12, 13, 14, 15, 16, 17, 18, 19, 20, 21, 22, 23, 24, 25, 26, 27] rfl (by decide +kernel)
set_option maxRecDepth 20000 in
theorem gX8_seats_X8_anew : GoodIn wsX8_seats (wsV RX8 33 RX8 yX8_anew wsX8_anew) := goodIn_app (goodIn_of _ (by decide +kernel)) ggX8_seats_X8_anew
theorem dX8_seats_0 : decode cX8_seats 0 = .ok (.iload_n 1, 1) := by decide +kernel
theorem dX8_seats_1 : decode cX8_seats 1 = .ok (.iconst 4, 1) := by decide +kernel
theorem dX8_seats_2 : decode cX8_seats 2 = .ok (.bipush 7, 2) := by decide +kernel
theorem dX8_seats_4 : decode cX8_seats 4 = .ok (.invokestatic 36, 3) := by decide +kernel
theorem dX8_seats_7 : decode cX8_seats 7 = .ok (.ifCond .ne 5, 3) := by decide +kernel
theorem dX8_seats_10 : decode cX8_seats 10 = .ok (.iconst (-1), 1) := by decide +kernel
theorem dX8_seats_11 : decode cX8_seats 11 = .ok (.ireturn, 1) := by decide +kernel
theorem dX8_seats_12 : decode cX8_seats 12 = .ok (.aload_n 0, 1) := by decide +kernel
theorem dX8_seats_13 : decode cX8_seats 13 = .ok (.getfield 47, 3) := by decide +kernel
theorem dX8_seats_16 : decode cX8_seats 16 = .ok (.bipush 20, 2) := by decide +kernel
theorem dX8_seats_18 : decode cX8_seats 18 = .ok (.if_icmp .ne 6, 3) := by decide +kernel
theorem dX8_seats_21 : decode cX8_seats 21 = .ok (.bipush (-3), 2) := by decide +kernel
theorem dX8_seats_23 : decode cX8_seats 23 = .ok (.ireturn, 1) := by decide +kernel
theorem dX8_seats_24 : decode cX8_seats 24 = .ok (.aload_n 0, 1) := by decide +kernel
theorem dX8_seats_25 : decode cX8_seats 25 = .ok (.dup, 1) := by decide +kernel
theorem dX8_seats_26 : decode cX8_seats 26 = .ok (.getfield 47, 3) := by decide +kernel
theorem dX8_seats_29 : decode cX8_seats 29 = .ok (.iconst 1, 1) := by decide +kernel
theorem dX8_seats_30 : decode cX8_seats 30 = .ok (.iadd, 1) := by decide +kernel
theorem dX8_seats_31 : decode cX8_seats 31 = .ok (.putfield 47, 3) := by decide +kernel
theorem dX8_seats_34 : decode cX8_seats 34 = .ok (.aload_n 0, 1) := by decide +kernel
theorem dX8_seats_35 : decode cX8_seats 35 = .ok (.iload_n 1, 1) := by decide +kernel
theorem dX8_seats_36 : decode cX8_seats 36 = .ok (.putfield 29, 3) := by decide +kernel
theorem dX8_seats_39 : decode cX8_seats 39 = .ok (.aload_n 0, 1) := by decide +kernel
theorem dX8_seats_40 : decode cX8_seats 40 = .ok (.invokevirtual 33, 3) := by decide +kernel
theorem dX8_seats_43 : decode cX8_seats 43 = .ok (.aload_n 0, 1) := by decide +kernel
theorem dX8_seats_44 : decode cX8_seats 44 = .ok (.getfield 29, 3) := by decide +kernel
theorem dX8_seats_47 : decode cX8_seats 47 = .ok (.ireturn, 1) := by decide +kernel
set_option maxRecDepth 20000 in
theorem ggX8_falseSeat_X8_isSeat : GoodIn wsX8_falseSeat wsX8_isSeat := goodIn_r _ [7, 8, 9, 10, 6, 11, 16, 17, 18, 19, 20, 21, 22, 23, 24, 25] rfl (by decide +kernel)
set_option maxRecDepth 20000 in
theorem gX8_falseSeat_X8_isSeat : GoodIn wsX8_falseSeat (wsV RX8 50 RX8 yX8_isSeat wsX8_isSeat) := goodIn_app (goodIn_of _ (by decide +kernel)) ggX8_falseSeat_X8_isSeat
set_option maxRecDepth 20000 in
theorem ggX8_falseSeat_X8_falseMany : GoodIn wsX8_falseSeat wsX8_falseMany := goodIn_r _ [15, 8, 1, 16, 17, 18, 19, 20, 21, 22, 23, 24, 25] rfl (by decide +kernel)
set_option maxRecDepth 20000 in
theorem gX8_falseSeat_X8_falseMany : GoodIn wsX8_falseSeat (wsV RX8 54 RX8 yX8_falseMany wsX8_falseMany) := goodIn_app (goodIn_of _ (by decide +kernel)) ggX8_falseSeat_X8_falseMany
theorem dX8_falseSeat_0 : decode cX8_falseSeat 0 = .ok (.aload_n 0, 1) := by decide +kernel
theorem dX8_falseSeat_1 : decode cX8_falseSeat 1 = .ok (.iload_n 1, 1) := by decide +kernel
theorem dX8_falseSeat_2 : decode cX8_falseSeat 2 = .ok (.invokevirtual 50, 3) := by decide +kernel
theorem dX8_falseSeat_5 : decode cX8_falseSeat 5 = .ok (.ifCond .ne 5, 3) := by decide +kernel
theorem dX8_falseSeat_8 : decode cX8_falseSeat 8 = .ok (.iconst (-1), 1) := by decide +kernel
theorem dX8_falseSeat_9 : decode cX8_falseSeat 9 = .ok (.ireturn, 1) := by decide +kernel
theorem dX8_falseSeat_10 : decode cX8_falseSeat 10 = .ok (.aload_n 0, 1) := by decide +kernel
theorem dX8_falseSeat_11 : decode cX8_falseSeat 11 = .ok (.getfield 7, 3) := by decide +kernel
theorem dX8_falseSeat_14 : decode cX8_falseSeat 14 = .ok (.iload_n 1, 1) := by decide +kernel
theorem dX8_falseSeat_15 : decode cX8_falseSeat 15 = .ok (.baload, 1) := by decide +kernel
theorem dX8_falseSeat_16 : decode cX8_falseSeat 16 = .ok (.ifCond .ne 10, 3) := by decide +kernel
theorem dX8_falseSeat_19 : decode cX8_falseSeat 19 = .ok (.aload_n 0, 1) := by decide +kernel
theorem dX8_falseSeat_20 : decode cX8_falseSeat 20 = .ok (.getfield 40, 3) := by decide +kernel
theorem dX8_falseSeat_23 : decode cX8_falseSeat 23 = .ok (.ifCond .eq 6, 3) := by decide +kernel
theorem dX8_falseSeat_26 : decode cX8_falseSeat 26 = .ok (.bipush (-2), 2) := by decide +kernel
theorem dX8_falseSeat_28 : decode cX8_falseSeat 28 = .ok (.ireturn, 1) := by decide +kernel
theorem dX8_falseSeat_29 : decode cX8_falseSeat 29 = .ok (.aload_n 0, 1) := by decide +kernel
theorem dX8_falseSeat_30 : decode cX8_falseSeat 30 = .ok (.getfield 7, 3) := by decide +kernel
theorem dX8_falseSeat_33 : decode cX8_falseSeat 33 = .ok (.iload_n 1, 1) := by decide +kernel
theorem dX8_falseSeat_34 : decode cX8_falseSeat 34 = .ok (.iconst 1, 1) := by decide +kernel
theorem dX8_falseSeat_35 : decode cX8_falseSeat 35 = .ok (.bastore, 1) := by decide +kernel
theorem dX8_falseSeat_36 : decode cX8_falseSeat 36 = .ok (.aload_n 0, 1) := by decide +kernel
theorem dX8_falseSeat_37 : decode cX8_falseSeat 37 = .ok (.invokevirtual 54, 3) := by decide +kernel
theorem dX8_falseSeat_40 : decode cX8_falseSeat 40 = .ok (.ireturn, 1) := by decide +kernel
theorem dX8_falseMany_0 : decode cX8_falseMany 0 = .ok (.iconst 0, 1) := by decide +kernel
theorem dX8_falseMany_1 : decode cX8_falseMany 1 = .ok (.istore_n 1, 1) := by decide +kernel
theorem dX8_falseMany_2 : decode cX8_falseMany 2 = .ok (.iconst 0, 1) := by decide +kernel
theorem dX8_falseMany_3 : decode cX8_falseMany 3 = .ok (.istore_n 2, 1) := by decide +kernel
theorem dX8_falseMany_4 : decode cX8_falseMany 4 = .ok (.iload_n 2, 1) := by decide +kernel
theorem dX8_falseMany_5 : decode cX8_falseMany 5 = .ok (.aload_n 0, 1) := by decide +kernel
theorem dX8_falseMany_6 : decode cX8_falseMany 6 = .ok (.getfield 29, 3) := by decide +kernel
theorem dX8_falseMany_9 : decode cX8_falseMany 9 = .ok (.if_icmp .ge 26, 3) := by decide +kernel
theorem dX8_falseMany_12 : decode cX8_falseMany 12 = .ok (.iload_n 1, 1) := by decide +kernel
theorem dX8_falseMany_13 : decode cX8_falseMany 13 = .ok (.aload_n 0, 1) := by decide +kernel
theorem dX8_falseMany_14 : decode cX8_falseMany 14 = .ok (.getfield 7, 3) := by decide +kernel
theorem dX8_falseMany_17 : decode cX8_falseMany 17 = .ok (.iload_n 2, 1) := by decide +kernel
theorem dX8_falseMany_18 : decode cX8_falseMany 18 = .ok (.baload, 1) := by decide +kernel
theorem dX8_falseMany_19 : decode cX8_falseMany 19 = .ok (.ifCond .eq 7, 3) := by decide +kernel
theorem dX8_falseMany_22 : decode cX8_falseMany 22 = .ok (.iconst 1, 1) := by decide +kernel
theorem dX8_falseMany_23 : decode cX8_falseMany 23 = .ok (.goto 4, 3) := by decide +kernel
theorem dX8_falseMany_26 : decode cX8_falseMany 26 = .ok (.iconst 0, 1) := by decide +kernel
theorem dX8_falseMany_27 : decode cX8_falseMany 27 = .ok (.iadd, 1) := by decide +kernel
theorem dX8_falseMany_28 : decode cX8_falseMany 28 = .ok (.istore_n 1, 1) := by decide +kernel
theorem dX8_falseMany_29 : decode cX8_falseMany 29 = .ok (.iinc 2 1, 3) := by decide +kernel
theorem dX8_falseMany_32 : decode cX8_falseMany 32 = .ok (.goto (-28), 3) := by decide +kernel
theorem dX8_falseMany_35 : decode cX8_falseMany 35 = .ok (.iload_n 1, 1) := by decide +kernel
theorem dX8_falseMany_36 : decode cX8_falseMany 36 = .ok (.ireturn, 1) := by decide +kernel
set_option maxRecDepth 20000 in
theorem ggX8_hold_X8_isSeat : GoodIn wsX8_hold wsX8_isSeat := goodIn_r _ [6, 7, 8, 9, 5, 10, 11, 12, 13, 14, 15, 16, 17, 18, 19, 20] rfl (by decide +kernel)
set_option maxRecDepth 20000 in
theorem gX8_hold_X8_isSeat : GoodIn wsX8_hold (wsV RX8 50 RX8 yX8_isSeat wsX8_isSeat) := goodIn_app (goodIn_of _ (by decide +kernel)) ggX8_hold_X8_isSeat
set_option maxRecDepth 20000 in
theorem ggX8_hold_X8_in : GoodIn wsX8_hold wsX8_in := goodIn_r _ [10] rfl (by decide +kernel)
set_option maxRecDepth 20000 in
theorem gX8_hold_X8_in : GoodIn wsX8_hold (va_wsS RX8 36 yX8_in wsX8_in) := goodIn_app (goodIn_of _ (by decide +kernel)) ggX8_hold_X8_in
theorem dX8_hold_0 : decode cX8_hold 0 = .ok (.aload_n 0, 1) := by decide +kernel
theorem dX8_hold_1 : decode cX8_hold 1 = .ok (.iload_n 1, 1) := by decide +kernel
theorem dX8_hold_2 : decode cX8_hold 2 = .ok (.invokevirtual 50, 3) := by decide +kernel
theorem dX8_hold_5 : decode cX8_hold 5 = .ok (.ifCond .eq 13, 3) := by decide +kernel
theorem dX8_hold_8 : decode cX8_hold 8 = .ok (.iload_n 2, 1) := by decide +kernel
theorem dX8_hold_9 : decode cX8_hold 9 = .ok (.iconst 1, 1) := by decide +kernel
theorem dX8_hold_10 : decode cX8_hold 10 = .ok (.bipush 99, 2) := by decide +kernel
theorem dX8_hold_12 : decode cX8_hold 12 = .ok (.invokestatic 36, 3) := by decide +kernel
theorem dX8_hold_15 : decode cX8_hold 15 = .ok (.ifCond .ne 5, 3) := by decide +kernel
theorem dX8_hold_18 : decode cX8_hold 18 = .ok (.iconst (-1), 1) := by decide +kernel
theorem dX8_hold_19 : decode cX8_hold 19 = .ok (.ireturn, 1) := by decide +kernel
theorem dX8_hold_20 : decode cX8_hold 20 = .ok (.aload_n 0, 1) := by decide +kernel
theorem dX8_hold_21 : decode cX8_hold 21 = .ok (.getfield 13, 3) := by decide +kernel
theorem dX8_hold_24 : decode cX8_hold 24 = .ok (.bipush 100, 2) := by decide +kernel
theorem dX8_hold_26 : decode cX8_hold 26 = .ok (.iload_n 1, 1) := by decide +kernel
theorem dX8_hold_27 : decode cX8_hold 27 = .ok (.imul, 1) := by decide +kernel
theorem dX8_hold_28 : decode cX8_hold 28 = .ok (.iload_n 2, 1) := by decide +kernel
theorem dX8_hold_29 : decode cX8_hold 29 = .ok (.iadd, 1) := by decide +kernel
theorem dX8_hold_30 : decode cX8_hold 30 = .ok (.baload, 1) := by decide +kernel
theorem dX8_hold_31 : decode cX8_hold 31 = .ok (.istore_n 3, 1) := by decide +kernel
theorem dX8_hold_32 : decode cX8_hold 32 = .ok (.aload_n 0, 1) := by decide +kernel
theorem dX8_hold_33 : decode cX8_hold 33 = .ok (.getfield 13, 3) := by decide +kernel
theorem dX8_hold_36 : decode cX8_hold 36 = .ok (.bipush 100, 2) := by decide +kernel
theorem dX8_hold_38 : decode cX8_hold 38 = .ok (.iload_n 1, 1) := by decide +kernel
theorem dX8_hold_39 : decode cX8_hold 39 = .ok (.imul, 1) := by decide +kernel
theorem dX8_hold_40 : decode cX8_hold 40 = .ok (.iload_n 2, 1) := by decide +kernel
theorem dX8_hold_41 : decode cX8_hold 41 = .ok (.iadd, 1) := by decide +kernel
theorem dX8_hold_42 : decode cX8_hold 42 = .ok (.iconst 1, 1) := by decide +kernel
theorem dX8_hold_43 : decode cX8_hold 43 = .ok (.bastore, 1) := by decide +kernel
theorem dX8_hold_44 : decode cX8_hold 44 = .ok (.iload_n 3, 1) := by decide +kernel
theorem dX8_hold_45 : decode cX8_hold 45 = .ok (.ifCond .eq 7, 3) := by decide +kernel
theorem dX8_hold_48 : decode cX8_hold 48 = .ok (.iconst 0, 1) := by decide +kernel
theorem dX8_hold_49 : decode cX8_hold 49 = .ok (.goto 4, 3) := by decide +kernel
theorem dX8_hold_52 : decode cX8_hold 52 = .ok (.iconst 1, 1) := by decide +kernel
theorem dX8_hold_53 : decode cX8_hold 53 = .ok (.ireturn, 1) := by decide +kernel
theorem dX8_sends_0 : decode cX8_sends 0 = .ok (.aload_n 0, 1) := by decide +kernel
theorem dX8_sends_1 : decode cX8_sends 1 = .ok (.getfield 44, 3) := by decide +kernel
theorem dX8_sends_4 : decode cX8_sends 4 = .ok (.sipush 400, 3) := by decide +kernel
theorem dX8_sends_7 : decode cX8_sends 7 = .ok (.if_icmp .ne 4, 3) := by decide +kernel
theorem dX8_sends_10 : decode cX8_sends 10 = .ok (.return_, 1) := by decide +kernel
theorem dX8_sends_11 : decode cX8_sends 11 = .ok (.bipush 6, 2) := by decide +kernel
theorem dX8_sends_13 : decode cX8_sends 13 = .ok (.aload_n 0, 1) := by decide +kernel
theorem dX8_sends_14 : decode cX8_sends 14 = .ok (.getfield 44, 3) := by decide +kernel
theorem dX8_sends_17 : decode cX8_sends 17 = .ok (.imul, 1) := by decide +kernel
theorem dX8_sends_18 : decode cX8_sends 18 = .ok (.istore 8, 2) := by decide +kernel
theorem dX8_sends_20 : decode cX8_sends 20 = .ok (.aload_n 0, 1) := by decide +kernel
theorem dX8_sends_21 : decode cX8_sends 21 = .ok (.getfield 23, 3) := by decide +kernel
theorem dX8_sends_24 : decode cX8_sends 24 = .ok (.iload 8, 2) := by decide +kernel
theorem dX8_sends_26 : decode cX8_sends 26 = .ok (.iconst 0, 1) := by decide +kernel
theorem dX8_sends_27 : decode cX8_sends 27 = .ok (.iadd, 1) := by decide +kernel
theorem dX8_sends_28 : decode cX8_sends 28 = .ok (.iload_n 1, 1) := by decide +kernel
theorem dX8_sends_29 : decode cX8_sends 29 = .ok (.iastore, 1) := by decide +kernel
theorem dX8_sends_30 : decode cX8_sends 30 = .ok (.aload_n 0, 1) := by decide +kernel
theorem dX8_sends_31 : decode cX8_sends 31 = .ok (.getfield 23, 3) := by decide +kernel
theorem dX8_sends_34 : decode cX8_sends 34 = .ok (.iload 8, 2) := by decide +kernel
theorem dX8_sends_36 : decode cX8_sends 36 = .ok (.iconst 1, 1) := by decide +kernel
theorem dX8_sends_37 : decode cX8_sends 37 = .ok (.iadd, 1) := by decide +kernel
theorem dX8_sends_38 : decode cX8_sends 38 = .ok (.iload_n 2, 1) := by decide +kernel
theorem dX8_sends_39 : decode cX8_sends 39 = .ok (.iastore, 1) := by decide +kernel
theorem dX8_sends_40 : decode cX8_sends 40 = .ok (.aload_n 0, 1) := by decide +kernel
theorem dX8_sends_41 : decode cX8_sends 41 = .ok (.getfield 23, 3) := by decide +kernel
theorem dX8_sends_44 : decode cX8_sends 44 = .ok (.iload 8, 2) := by decide +kernel
theorem dX8_sends_46 : decode cX8_sends 46 = .ok (.iconst 2, 1) := by decide +kernel
theorem dX8_sends_47 : decode cX8_sends 47 = .ok (.iadd, 1) := by decide +kernel
theorem dX8_sends_48 : decode cX8_sends 48 = .ok (.iload_n 3, 1) := by decide +kernel
theorem dX8_sends_49 : decode cX8_sends 49 = .ok (.iastore, 1) := by decide +kernel
theorem dX8_sends_50 : decode cX8_sends 50 = .ok (.aload_n 0, 1) := by decide +kernel
theorem dX8_sends_51 : decode cX8_sends 51 = .ok (.getfield 23, 3) := by decide +kernel
theorem dX8_sends_54 : decode cX8_sends 54 = .ok (.iload 8, 2) := by decide +kernel
theorem dX8_sends_56 : decode cX8_sends 56 = .ok (.iconst 3, 1) := by decide +kernel
theorem dX8_sends_57 : decode cX8_sends 57 = .ok (.iadd, 1) := by decide +kernel
theorem dX8_sends_58 : decode cX8_sends 58 = .ok (.iload 4, 2) := by decide +kernel
theorem dX8_sends_60 : decode cX8_sends 60 = .ok (.iastore, 1) := by decide +kernel
theorem dX8_sends_61 : decode cX8_sends 61 = .ok (.aload_n 0, 1) := by decide +kernel
theorem dX8_sends_62 : decode cX8_sends 62 = .ok (.getfield 23, 3) := by decide +kernel
theorem dX8_sends_65 : decode cX8_sends 65 = .ok (.iload 8, 2) := by decide +kernel
theorem dX8_sends_67 : decode cX8_sends 67 = .ok (.iconst 4, 1) := by decide +kernel
theorem dX8_sends_68 : decode cX8_sends 68 = .ok (.iadd, 1) := by decide +kernel
theorem dX8_sends_69 : decode cX8_sends 69 = .ok (.iload 5, 2) := by decide +kernel
theorem dX8_sends_71 : decode cX8_sends 71 = .ok (.iastore, 1) := by decide +kernel
theorem dX8_sends_72 : decode cX8_sends 72 = .ok (.aload_n 0, 1) := by decide +kernel
theorem dX8_sends_73 : decode cX8_sends 73 = .ok (.getfield 23, 3) := by decide +kernel
theorem dX8_sends_76 : decode cX8_sends 76 = .ok (.iload 8, 2) := by decide +kernel
theorem dX8_sends_78 : decode cX8_sends 78 = .ok (.iconst 5, 1) := by decide +kernel
theorem dX8_sends_79 : decode cX8_sends 79 = .ok (.iadd, 1) := by decide +kernel
theorem dX8_sends_80 : decode cX8_sends 80 = .ok (.iload 6, 2) := by decide +kernel
theorem dX8_sends_82 : decode cX8_sends 82 = .ok (.iastore, 1) := by decide +kernel
theorem dX8_sends_83 : decode cX8_sends 83 = .ok (.iconst 0, 1) := by decide +kernel
theorem dX8_sends_84 : decode cX8_sends 84 = .ok (.istore 9, 2) := by decide +kernel
theorem dX8_sends_86 : decode cX8_sends 86 = .ok (.iload 9, 2) := by decide +kernel
theorem dX8_sends_88 : decode cX8_sends 88 = .ok (.bipush 7, 2) := by decide +kernel
theorem dX8_sends_90 : decode cX8_sends 90 = .ok (.if_icmp .ge 40, 3) := by decide +kernel
theorem dX8_sends_93 : decode cX8_sends 93 = .ok (.aload_n 0, 1) := by decide +kernel
theorem dX8_sends_94 : decode cX8_sends 94 = .ok (.getfield 26, 3) := by decide +kernel
theorem dX8_sends_97 : decode cX8_sends 97 = .ok (.bipush 7, 2) := by decide +kernel
theorem dX8_sends_99 : decode cX8_sends 99 = .ok (.aload_n 0, 1) := by decide +kernel
theorem dX8_sends_100 : decode cX8_sends 100 = .ok (.getfield 44, 3) := by decide +kernel
theorem dX8_sends_103 : decode cX8_sends 103 = .ok (.imul, 1) := by decide +kernel
theorem dX8_sends_104 : decode cX8_sends 104 = .ok (.iload 9, 2) := by decide +kernel
theorem dX8_sends_106 : decode cX8_sends 106 = .ok (.iadd, 1) := by decide +kernel
theorem dX8_sends_107 : decode cX8_sends 107 = .ok (.iload 7, 2) := by decide +kernel
theorem dX8_sends_109 : decode cX8_sends 109 = .ok (.ifCond .eq 13, 3) := by decide +kernel
theorem dX8_sends_112 : decode cX8_sends 112 = .ok (.iload 9, 2) := by decide +kernel
theorem dX8_sends_114 : decode cX8_sends 114 = .ok (.iload_n 1, 1) := by decide +kernel
theorem dX8_sends_115 : decode cX8_sends 115 = .ok (.if_icmp .ne 7, 3) := by decide +kernel
theorem dX8_sends_118 : decode cX8_sends 118 = .ok (.iconst 1, 1) := by decide +kernel
theorem dX8_sends_119 : decode cX8_sends 119 = .ok (.goto 4, 3) := by decide +kernel
theorem dX8_sends_122 : decode cX8_sends 122 = .ok (.iconst 0, 1) := by decide +kernel
theorem dX8_sends_123 : decode cX8_sends 123 = .ok (.bastore, 1) := by decide +kernel
theorem dX8_sends_124 : decode cX8_sends 124 = .ok (.iinc 9 1, 3) := by decide +kernel
theorem dX8_sends_127 : decode cX8_sends 127 = .ok (.goto (-41), 3) := by decide +kernel
theorem dX8_sends_130 : decode cX8_sends 130 = .ok (.aload_n 0, 1) := by decide +kernel
theorem dX8_sends_131 : decode cX8_sends 131 = .ok (.dup, 1) := by decide +kernel
theorem dX8_sends_132 : decode cX8_sends 132 = .ok (.getfield 44, 3) := by decide +kernel
theorem dX8_sends_135 : decode cX8_sends 135 = .ok (.iconst 1, 1) := by decide +kernel
theorem dX8_sends_136 : decode cX8_sends 136 = .ok (.iadd, 1) := by decide +kernel
theorem dX8_sends_137 : decode cX8_sends 137 = .ok (.putfield 44, 3) := by decide +kernel
theorem dX8_sends_140 : decode cX8_sends 140 = .ok (.return_, 1) := by decide +kernel
theorem dX8_get_0 : decode cX8_get 0 = .ok (.aload_n 0, 1) := by decide +kernel
theorem dX8_get_1 : decode cX8_get 1 = .ok (.getfield 16, 3) := by decide +kernel
theorem dX8_get_4 : decode cX8_get 4 = .ok (.bipush 20, 2) := by decide +kernel
theorem dX8_get_6 : decode cX8_get 6 = .ok (.iload_n 1, 1) := by decide +kernel
theorem dX8_get_7 : decode cX8_get 7 = .ok (.imul, 1) := by decide +kernel
theorem dX8_get_8 : decode cX8_get 8 = .ok (.iload_n 2, 1) := by decide +kernel
theorem dX8_get_9 : decode cX8_get 9 = .ok (.iadd, 1) := by decide +kernel
theorem dX8_get_10 : decode cX8_get 10 = .ok (.iaload, 1) := by decide +kernel
theorem dX8_get_11 : decode cX8_get 11 = .ok (.ireturn, 1) := by decide +kernel
theorem dX8_set_0 : decode cX8_set 0 = .ok (.aload_n 0, 1) := by decide +kernel
theorem dX8_set_1 : decode cX8_set 1 = .ok (.getfield 16, 3) := by decide +kernel
theorem dX8_set_4 : decode cX8_set 4 = .ok (.bipush 20, 2) := by decide +kernel
theorem dX8_set_6 : decode cX8_set 6 = .ok (.iload_n 1, 1) := by decide +kernel
theorem dX8_set_7 : decode cX8_set 7 = .ok (.imul, 1) := by decide +kernel
theorem dX8_set_8 : decode cX8_set 8 = .ok (.iload_n 2, 1) := by decide +kernel
theorem dX8_set_9 : decode cX8_set 9 = .ok (.iadd, 1) := by decide +kernel
theorem dX8_set_10 : decode cX8_set 10 = .ok (.iload_n 3, 1) := by decide +kernel
theorem dX8_set_11 : decode cX8_set 11 = .ok (.iastore, 1) := by decide +kernel
theorem dX8_set_12 : decode cX8_set 12 = .ok (.return_, 1) := by decide +kernel
theorem dX8_isRight_0 : decode cX8_isRight 0 = .ok (.iconst 1, 1) := by decide +kernel
theorem dX8_isRight_1 : decode cX8_isRight 1 = .ok (.istore_n 3, 1) := by decide +kernel
theorem dX8_isRight_2 : decode cX8_isRight 2 = .ok (.iconst 0, 1) := by decide +kernel
theorem dX8_isRight_3 : decode cX8_isRight 3 = .ok (.istore 4, 2) := by decide +kernel
theorem dX8_isRight_5 : decode cX8_isRight 5 = .ok (.iload 4, 2) := by decide +kernel
theorem dX8_isRight_7 : decode cX8_isRight 7 = .ok (.bipush 6, 2) := by decide +kernel
theorem dX8_isRight_9 : decode cX8_isRight 9 = .ok (.if_icmp .ge 41, 3) := by decide +kernel
theorem dX8_isRight_12 : decode cX8_isRight 12 = .ok (.iload_n 3, 1) := by decide +kernel
theorem dX8_isRight_13 : decode cX8_isRight 13 = .ok (.ifCond .eq 29, 3) := by decide +kernel
theorem dX8_isRight_16 : decode cX8_isRight 16 = .ok (.iload_n 2, 1) := by decide +kernel
theorem dX8_isRight_17 : decode cX8_isRight 17 = .ok (.ifCond .eq 21, 3) := by decide +kernel
theorem dX8_isRight_20 : decode cX8_isRight 20 = .ok (.aload_n 0, 1) := by decide +kernel
theorem dX8_isRight_21 : decode cX8_isRight 21 = .ok (.getfield 20, 3) := by decide +kernel
theorem dX8_isRight_24 : decode cX8_isRight 24 = .ok (.bipush 12, 2) := by decide +kernel
theorem dX8_isRight_26 : decode cX8_isRight 26 = .ok (.iload_n 1, 1) := by decide +kernel
theorem dX8_isRight_27 : decode cX8_isRight 27 = .ok (.imul, 1) := by decide +kernel
theorem dX8_isRight_28 : decode cX8_isRight 28 = .ok (.iconst 2, 1) := by decide +kernel
theorem dX8_isRight_29 : decode cX8_isRight 29 = .ok (.iload 4, 2) := by decide +kernel
theorem dX8_isRight_31 : decode cX8_isRight 31 = .ok (.imul, 1) := by decide +kernel
theorem dX8_isRight_32 : decode cX8_isRight 32 = .ok (.iadd, 1) := by decide +kernel
theorem dX8_isRight_33 : decode cX8_isRight 33 = .ok (.iaload, 1) := by decide +kernel
theorem dX8_isRight_34 : decode cX8_isRight 34 = .ok (.iload_n 2, 1) := by decide +kernel
theorem dX8_isRight_35 : decode cX8_isRight 35 = .ok (.if_icmp .eq 7, 3) := by decide +kernel
theorem dX8_isRight_38 : decode cX8_isRight 38 = .ok (.iconst 1, 1) := by decide +kernel
theorem dX8_isRight_39 : decode cX8_isRight 39 = .ok (.goto 4, 3) := by decide +kernel
theorem dX8_isRight_42 : decode cX8_isRight 42 = .ok (.iconst 0, 1) := by decide +kernel
theorem dX8_isRight_43 : decode cX8_isRight 43 = .ok (.istore_n 3, 1) := by decide +kernel
theorem dX8_isRight_44 : decode cX8_isRight 44 = .ok (.iinc 4 1, 3) := by decide +kernel
theorem dX8_isRight_47 : decode cX8_isRight 47 = .ok (.goto (-42), 3) := by decide +kernel
theorem dX8_isRight_50 : decode cX8_isRight 50 = .ok (.iload_n 3, 1) := by decide +kernel
theorem dX8_isRight_51 : decode cX8_isRight 51 = .ok (.ireturn, 1) := by decide +kernel
theorem dX8_voted_0 : decode cX8_voted 0 = .ok (.iconst 0, 1) := by decide +kernel
theorem dX8_voted_1 : decode cX8_voted 1 = .ok (.istore 6, 2) := by decide +kernel
theorem dX8_voted_3 : decode cX8_voted 3 = .ok (.iconst 0, 1) := by decide +kernel
theorem dX8_voted_4 : decode cX8_voted 4 = .ok (.istore 7, 2) := by decide +kernel
theorem dX8_voted_6 : decode cX8_voted 6 = .ok (.iload 7, 2) := by decide +kernel
theorem dX8_voted_8 : decode cX8_voted 8 = .ok (.aload_n 0, 1) := by decide +kernel
theorem dX8_voted_9 : decode cX8_voted 9 = .ok (.getfield 29, 3) := by decide +kernel
theorem dX8_voted_12 : decode cX8_voted 12 = .ok (.if_icmp .ge 154, 3) := by decide +kernel
theorem dX8_voted_15 : decode cX8_voted 15 = .ok (.iconst 0, 1) := by decide +kernel
theorem dX8_voted_16 : decode cX8_voted 16 = .ok (.istore 8, 2) := by decide +kernel
theorem dX8_voted_18 : decode cX8_voted 18 = .ok (.iconst 0, 1) := by decide +kernel
theorem dX8_voted_19 : decode cX8_voted 19 = .ok (.istore 9, 2) := by decide +kernel
theorem dX8_voted_21 : decode cX8_voted 21 = .ok (.iload 9, 2) := by decide +kernel
theorem dX8_voted_23 : decode cX8_voted 23 = .ok (.aload_n 0, 1) := by decide +kernel
theorem dX8_voted_24 : decode cX8_voted 24 = .ok (.getfield 44, 3) := by decide +kernel
theorem dX8_voted_27 : decode cX8_voted 27 = .ok (.if_icmp .ge 118, 3) := by decide +kernel
theorem dX8_voted_30 : decode cX8_voted 30 = .ok (.bipush 6, 2) := by decide +kernel
theorem dX8_voted_32 : decode cX8_voted 32 = .ok (.iload 9, 2) := by decide +kernel
theorem dX8_voted_34 : decode cX8_voted 34 = .ok (.imul, 1) := by decide +kernel
theorem dX8_voted_35 : decode cX8_voted 35 = .ok (.istore 10, 2) := by decide +kernel
theorem dX8_voted_37 : decode cX8_voted 37 = .ok (.iload 8, 2) := by decide +kernel
theorem dX8_voted_39 : decode cX8_voted 39 = .ok (.ifCond .ne 93, 3) := by decide +kernel
theorem dX8_voted_42 : decode cX8_voted 42 = .ok (.aload_n 0, 1) := by decide +kernel
theorem dX8_voted_43 : decode cX8_voted 43 = .ok (.getfield 26, 3) := by decide +kernel
theorem dX8_voted_46 : decode cX8_voted 46 = .ok (.bipush 7, 2) := by decide +kernel
theorem dX8_voted_48 : decode cX8_voted 48 = .ok (.iload 9, 2) := by decide +kernel
theorem dX8_voted_50 : decode cX8_voted 50 = .ok (.imul, 1) := by decide +kernel
theorem dX8_voted_51 : decode cX8_voted 51 = .ok (.iload_n 1, 1) := by decide +kernel
theorem dX8_voted_52 : decode cX8_voted 52 = .ok (.iadd, 1) := by decide +kernel
theorem dX8_voted_53 : decode cX8_voted 53 = .ok (.baload, 1) := by decide +kernel
theorem dX8_voted_54 : decode cX8_voted 54 = .ok (.ifCond .eq 82, 3) := by decide +kernel
theorem dX8_voted_57 : decode cX8_voted 57 = .ok (.aload_n 0, 1) := by decide +kernel
theorem dX8_voted_58 : decode cX8_voted 58 = .ok (.getfield 23, 3) := by decide +kernel
theorem dX8_voted_61 : decode cX8_voted 61 = .ok (.iload 10, 2) := by decide +kernel
theorem dX8_voted_63 : decode cX8_voted 63 = .ok (.iconst 0, 1) := by decide +kernel
theorem dX8_voted_64 : decode cX8_voted 64 = .ok (.iadd, 1) := by decide +kernel
theorem dX8_voted_65 : decode cX8_voted 65 = .ok (.iaload, 1) := by decide +kernel
theorem dX8_voted_66 : decode cX8_voted 66 = .ok (.iload 7, 2) := by decide +kernel
theorem dX8_voted_68 : decode cX8_voted 68 = .ok (.if_icmp .ne 68, 3) := by decide +kernel
theorem dX8_voted_71 : decode cX8_voted 71 = .ok (.aload_n 0, 1) := by decide +kernel
theorem dX8_voted_72 : decode cX8_voted 72 = .ok (.getfield 23, 3) := by decide +kernel
theorem dX8_voted_75 : decode cX8_voted 75 = .ok (.iload 10, 2) := by decide +kernel
theorem dX8_voted_77 : decode cX8_voted 77 = .ok (.iconst 1, 1) := by decide +kernel
theorem dX8_voted_78 : decode cX8_voted 78 = .ok (.iadd, 1) := by decide +kernel
theorem dX8_voted_79 : decode cX8_voted 79 = .ok (.iaload, 1) := by decide +kernel
theorem dX8_voted_80 : decode cX8_voted 80 = .ok (.iload_n 2, 1) := by decide +kernel
theorem dX8_voted_81 : decode cX8_voted 81 = .ok (.if_icmp .ne 55, 3) := by decide +kernel
theorem dX8_voted_84 : decode cX8_voted 84 = .ok (.aload_n 0, 1) := by decide +kernel
theorem dX8_voted_85 : decode cX8_voted 85 = .ok (.getfield 23, 3) := by decide +kernel
theorem dX8_voted_88 : decode cX8_voted 88 = .ok (.iload 10, 2) := by decide +kernel
theorem dX8_voted_90 : decode cX8_voted 90 = .ok (.iconst 2, 1) := by decide +kernel
theorem dX8_voted_91 : decode cX8_voted 91 = .ok (.iadd, 1) := by decide +kernel
theorem dX8_voted_92 : decode cX8_voted 92 = .ok (.iaload, 1) := by decide +kernel
theorem dX8_voted_93 : decode cX8_voted 93 = .ok (.iload_n 3, 1) := by decide +kernel
theorem dX8_voted_94 : decode cX8_voted 94 = .ok (.if_icmp .ne 42, 3) := by decide +kernel
theorem dX8_voted_97 : decode cX8_voted 97 = .ok (.aload_n 0, 1) := by decide +kernel
theorem dX8_voted_98 : decode cX8_voted 98 = .ok (.getfield 23, 3) := by decide +kernel
theorem dX8_voted_101 : decode cX8_voted 101 = .ok (.iload 10, 2) := by decide +kernel
theorem dX8_voted_103 : decode cX8_voted 103 = .ok (.iconst 3, 1) := by decide +kernel
theorem dX8_voted_104 : decode cX8_voted 104 = .ok (.iadd, 1) := by decide +kernel
theorem dX8_voted_105 : decode cX8_voted 105 = .ok (.iaload, 1) := by decide +kernel
theorem dX8_voted_106 : decode cX8_voted 106 = .ok (.iload 4, 2) := by decide +kernel
theorem dX8_voted_108 : decode cX8_voted 108 = .ok (.if_icmp .ne 28, 3) := by decide +kernel
theorem dX8_voted_111 : decode cX8_voted 111 = .ok (.iload 5, 2) := by decide +kernel
theorem dX8_voted_113 : decode cX8_voted 113 = .ok (.bipush (-2), 2) := by decide +kernel
theorem dX8_voted_115 : decode cX8_voted 115 = .ok (.if_icmp .eq 17, 3) := by decide +kernel
theorem dX8_voted_118 : decode cX8_voted 118 = .ok (.aload_n 0, 1) := by decide +kernel
theorem dX8_voted_119 : decode cX8_voted 119 = .ok (.getfield 23, 3) := by decide +kernel
theorem dX8_voted_122 : decode cX8_voted 122 = .ok (.iload 10, 2) := by decide +kernel
theorem dX8_voted_124 : decode cX8_voted 124 = .ok (.iconst 4, 1) := by decide +kernel
theorem dX8_voted_125 : decode cX8_voted 125 = .ok (.iadd, 1) := by decide +kernel
theorem dX8_voted_126 : decode cX8_voted 126 = .ok (.iaload, 1) := by decide +kernel
theorem dX8_voted_127 : decode cX8_voted 127 = .ok (.iload 5, 2) := by decide +kernel
theorem dX8_voted_129 : decode cX8_voted 129 = .ok (.if_icmp .ne 7, 3) := by decide +kernel
theorem dX8_voted_132 : decode cX8_voted 132 = .ok (.iconst 1, 1) := by decide +kernel
theorem dX8_voted_133 : decode cX8_voted 133 = .ok (.goto 4, 3) := by decide +kernel
theorem dX8_voted_136 : decode cX8_voted 136 = .ok (.iconst 0, 1) := by decide +kernel
theorem dX8_voted_137 : decode cX8_voted 137 = .ok (.istore 8, 2) := by decide +kernel
theorem dX8_voted_139 : decode cX8_voted 139 = .ok (.iinc 9 1, 3) := by decide +kernel
theorem dX8_voted_142 : decode cX8_voted 142 = .ok (.goto (-121), 3) := by decide +kernel
theorem dX8_voted_145 : decode cX8_voted 145 = .ok (.iload 6, 2) := by decide +kernel
theorem dX8_voted_147 : decode cX8_voted 147 = .ok (.iload 8, 2) := by decide +kernel
theorem dX8_voted_149 : decode cX8_voted 149 = .ok (.ifCond .eq 7, 3) := by decide +kernel
theorem dX8_voted_152 : decode cX8_voted 152 = .ok (.iconst 1, 1) := by decide +kernel
theorem dX8_voted_153 : decode cX8_voted 153 = .ok (.goto 4, 3) := by decide +kernel
theorem dX8_voted_156 : decode cX8_voted 156 = .ok (.iconst 0, 1) := by decide +kernel
theorem dX8_voted_157 : decode cX8_voted 157 = .ok (.iadd, 1) := by decide +kernel
theorem dX8_voted_158 : decode cX8_voted 158 = .ok (.istore 6, 2) := by decide +kernel
theorem dX8_voted_160 : decode cX8_voted 160 = .ok (.iinc 7 1, 3) := by decide +kernel
theorem dX8_voted_163 : decode cX8_voted 163 = .ok (.goto (-157), 3) := by decide +kernel
theorem dX8_voted_166 : decode cX8_voted 166 = .ok (.iload 6, 2) := by decide +kernel
theorem dX8_voted_168 : decode cX8_voted 168 = .ok (.ireturn, 1) := by decide +kernel
set_option maxRecDepth 20000 in
theorem ggX8_proposes_X8_get : GoodIn wsX8_proposes wsX8_get := goodIn_r _ [7, 8, 14, 15, 16, 17, 18, 19, 20, 21, 22, 23] rfl (by decide +kernel)
set_option maxRecDepth 20000 in
theorem gX8_proposes_X8_get : GoodIn wsX8_proposes (wsV RX8 58 RX8 yX8_get wsX8_get) := goodIn_app (goodIn_of _ (by decide +kernel)) ggX8_proposes_X8_get
set_option maxRecDepth 20000 in
theorem ggX8_proposes_X8_proposer : GoodIn wsX8_proposes wsX8_proposer := goodIn_r _ [12, 13, 14, 15, 16, 17, 18, 19, 20, 21, 22, 23] rfl (by decide +kernel)
set_option maxRecDepth 20000 in
theorem gX8_proposes_X8_proposer : GoodIn wsX8_proposes (wsV RX8 62 RX8 yX8_proposer wsX8_proposer) := goodIn_app (goodIn_of _ (by decide +kernel)) ggX8_proposes_X8_proposer
theorem dX8_proposes_0 : decode cX8_proposes 0 = .ok (.bipush 6, 2) := by decide +kernel
theorem dX8_proposes_2 : decode cX8_proposes 2 = .ok (.iload_n 2, 1) := by decide +kernel
theorem dX8_proposes_3 : decode cX8_proposes 3 = .ok (.imul, 1) := by decide +kernel
theorem dX8_proposes_4 : decode cX8_proposes 4 = .ok (.istore_n 3, 1) := by decide +kernel
theorem dX8_proposes_5 : decode cX8_proposes 5 = .ok (.aload_n 0, 1) := by decide +kernel
theorem dX8_proposes_6 : decode cX8_proposes 6 = .ok (.getfield 26, 3) := by decide +kernel
theorem dX8_proposes_9 : decode cX8_proposes 9 = .ok (.bipush 7, 2) := by decide +kernel
theorem dX8_proposes_11 : decode cX8_proposes 11 = .ok (.iload_n 2, 1) := by decide +kernel
theorem dX8_proposes_12 : decode cX8_proposes 12 = .ok (.imul, 1) := by decide +kernel
theorem dX8_proposes_13 : decode cX8_proposes 13 = .ok (.iload_n 1, 1) := by decide +kernel
theorem dX8_proposes_14 : decode cX8_proposes 14 = .ok (.iadd, 1) := by decide +kernel
theorem dX8_proposes_15 : decode cX8_proposes 15 = .ok (.baload, 1) := by decide +kernel
theorem dX8_proposes_16 : decode cX8_proposes 16 = .ok (.ifCond .eq 66, 3) := by decide +kernel
theorem dX8_proposes_19 : decode cX8_proposes 19 = .ok (.aload_n 0, 1) := by decide +kernel
theorem dX8_proposes_20 : decode cX8_proposes 20 = .ok (.getfield 23, 3) := by decide +kernel
theorem dX8_proposes_23 : decode cX8_proposes 23 = .ok (.iload_n 3, 1) := by decide +kernel
theorem dX8_proposes_24 : decode cX8_proposes 24 = .ok (.iconst 1, 1) := by decide +kernel
theorem dX8_proposes_25 : decode cX8_proposes 25 = .ok (.iadd, 1) := by decide +kernel
theorem dX8_proposes_26 : decode cX8_proposes 26 = .ok (.iaload, 1) := by decide +kernel
theorem dX8_proposes_27 : decode cX8_proposes 27 = .ok (.ifCond .ne 55, 3) := by decide +kernel
theorem dX8_proposes_30 : decode cX8_proposes 30 = .ok (.aload_n 0, 1) := by decide +kernel
theorem dX8_proposes_31 : decode cX8_proposes 31 = .ok (.getfield 23, 3) := by decide +kernel
theorem dX8_proposes_34 : decode cX8_proposes 34 = .ok (.iload_n 3, 1) := by decide +kernel
theorem dX8_proposes_35 : decode cX8_proposes 35 = .ok (.iconst 2, 1) := by decide +kernel
theorem dX8_proposes_36 : decode cX8_proposes 36 = .ok (.iadd, 1) := by decide +kernel
theorem dX8_proposes_37 : decode cX8_proposes 37 = .ok (.iaload, 1) := by decide +kernel
theorem dX8_proposes_38 : decode cX8_proposes 38 = .ok (.aload_n 0, 1) := by decide +kernel
theorem dX8_proposes_39 : decode cX8_proposes 39 = .ok (.iload_n 1, 1) := by decide +kernel
theorem dX8_proposes_40 : decode cX8_proposes 40 = .ok (.iconst 0, 1) := by decide +kernel
theorem dX8_proposes_41 : decode cX8_proposes 41 = .ok (.invokevirtual 58, 3) := by decide +kernel
theorem dX8_proposes_44 : decode cX8_proposes 44 = .ok (.if_icmp .ne 38, 3) := by decide +kernel
theorem dX8_proposes_47 : decode cX8_proposes 47 = .ok (.aload_n 0, 1) := by decide +kernel
theorem dX8_proposes_48 : decode cX8_proposes 48 = .ok (.getfield 23, 3) := by decide +kernel
theorem dX8_proposes_51 : decode cX8_proposes 51 = .ok (.iload_n 3, 1) := by decide +kernel
theorem dX8_proposes_52 : decode cX8_proposes 52 = .ok (.iconst 0, 1) := by decide +kernel
theorem dX8_proposes_53 : decode cX8_proposes 53 = .ok (.iadd, 1) := by decide +kernel
theorem dX8_proposes_54 : decode cX8_proposes 54 = .ok (.iaload, 1) := by decide +kernel
theorem dX8_proposes_55 : decode cX8_proposes 55 = .ok (.aload_n 0, 1) := by decide +kernel
theorem dX8_proposes_56 : decode cX8_proposes 56 = .ok (.aload_n 0, 1) := by decide +kernel
theorem dX8_proposes_57 : decode cX8_proposes 57 = .ok (.getfield 23, 3) := by decide +kernel
theorem dX8_proposes_60 : decode cX8_proposes 60 = .ok (.iload_n 3, 1) := by decide +kernel
theorem dX8_proposes_61 : decode cX8_proposes 61 = .ok (.iconst 2, 1) := by decide +kernel
theorem dX8_proposes_62 : decode cX8_proposes 62 = .ok (.iadd, 1) := by decide +kernel
theorem dX8_proposes_63 : decode cX8_proposes 63 = .ok (.iaload, 1) := by decide +kernel
theorem dX8_proposes_64 : decode cX8_proposes 64 = .ok (.aload_n 0, 1) := by decide +kernel
theorem dX8_proposes_65 : decode cX8_proposes 65 = .ok (.getfield 23, 3) := by decide +kernel
theorem dX8_proposes_68 : decode cX8_proposes 68 = .ok (.iload_n 3, 1) := by decide +kernel
theorem dX8_proposes_69 : decode cX8_proposes 69 = .ok (.iconst 3, 1) := by decide +kernel
theorem dX8_proposes_70 : decode cX8_proposes 70 = .ok (.iadd, 1) := by decide +kernel
theorem dX8_proposes_71 : decode cX8_proposes 71 = .ok (.iaload, 1) := by decide +kernel
theorem dX8_proposes_72 : decode cX8_proposes 72 = .ok (.invokevirtual 62, 3) := by decide +kernel
theorem dX8_proposes_75 : decode cX8_proposes 75 = .ok (.if_icmp .ne 7, 3) := by decide +kernel
theorem dX8_proposes_78 : decode cX8_proposes 78 = .ok (.iconst 1, 1) := by decide +kernel
theorem dX8_proposes_79 : decode cX8_proposes 79 = .ok (.goto 4, 3) := by decide +kernel
theorem dX8_proposes_82 : decode cX8_proposes 82 = .ok (.iconst 0, 1) := by decide +kernel
theorem dX8_proposes_83 : decode cX8_proposes 83 = .ok (.ireturn, 1) := by decide +kernel
set_option maxRecDepth 20000 in
theorem ggX8_setTimer_X8_set : GoodIn wsX8_setTimer wsX8_set := goodIn_r _ [5, 6, 11, 12, 13, 14, 15, 16, 17, 18, 19, 20] rfl (by decide +kernel)
set_option maxRecDepth 20000 in
theorem gX8_setTimer_X8_set : GoodIn wsX8_setTimer (wsV RX8 65 RX8 yX8_set wsX8_set) := goodIn_app (goodIn_of _ (by decide +kernel)) ggX8_setTimer_X8_set
set_option maxRecDepth 20000 in
theorem ggX8_setTimer_X8_get : GoodIn wsX8_setTimer wsX8_get := goodIn_r _ [10, 6, 11, 12, 13, 14, 15, 16, 17, 18, 19, 20] rfl (by decide +kernel)
set_option maxRecDepth 20000 in
theorem gX8_setTimer_X8_get : GoodIn wsX8_setTimer (wsV RX8 58 RX8 yX8_get wsX8_get) := goodIn_app (goodIn_of _ (by decide +kernel)) ggX8_setTimer_X8_get
theorem dX8_setTimer_0 : decode cX8_setTimer 0 = .ok (.aload_n 0, 1) := by decide +kernel
theorem dX8_setTimer_1 : decode cX8_setTimer 1 = .ok (.iload_n 1, 1) := by decide +kernel
theorem dX8_setTimer_2 : decode cX8_setTimer 2 = .ok (.bipush 11, 2) := by decide +kernel
theorem dX8_setTimer_4 : decode cX8_setTimer 4 = .ok (.iload_n 2, 1) := by decide +kernel
theorem dX8_setTimer_5 : decode cX8_setTimer 5 = .ok (.iadd, 1) := by decide +kernel
theorem dX8_setTimer_6 : decode cX8_setTimer 6 = .ok (.iconst 1, 1) := by decide +kernel
theorem dX8_setTimer_7 : decode cX8_setTimer 7 = .ok (.invokevirtual 65, 3) := by decide +kernel
theorem dX8_setTimer_10 : decode cX8_setTimer 10 = .ok (.aload_n 0, 1) := by decide +kernel
theorem dX8_setTimer_11 : decode cX8_setTimer 11 = .ok (.iload_n 1, 1) := by decide +kernel
theorem dX8_setTimer_12 : decode cX8_setTimer 12 = .ok (.bipush 14, 2) := by decide +kernel
theorem dX8_setTimer_14 : decode cX8_setTimer 14 = .ok (.iload_n 2, 1) := by decide +kernel
theorem dX8_setTimer_15 : decode cX8_setTimer 15 = .ok (.iadd, 1) := by decide +kernel
theorem dX8_setTimer_16 : decode cX8_setTimer 16 = .ok (.bipush 10, 2) := by decide +kernel
theorem dX8_setTimer_18 : decode cX8_setTimer 18 = .ok (.aload_n 0, 1) := by decide +kernel
theorem dX8_setTimer_19 : decode cX8_setTimer 19 = .ok (.iload_n 1, 1) := by decide +kernel
theorem dX8_setTimer_20 : decode cX8_setTimer 20 = .ok (.iconst 0, 1) := by decide +kernel
theorem dX8_setTimer_21 : decode cX8_setTimer 21 = .ok (.invokevirtual 58, 3) := by decide +kernel
theorem dX8_setTimer_24 : decode cX8_setTimer 24 = .ok (.imul, 1) := by decide +kernel
theorem dX8_setTimer_25 : decode cX8_setTimer 25 = .ok (.aload_n 0, 1) := by decide +kernel
theorem dX8_setTimer_26 : decode cX8_setTimer 26 = .ok (.iload_n 1, 1) := by decide +kernel
theorem dX8_setTimer_27 : decode cX8_setTimer 27 = .ok (.iconst 1, 1) := by decide +kernel
theorem dX8_setTimer_28 : decode cX8_setTimer 28 = .ok (.invokevirtual 58, 3) := by decide +kernel
theorem dX8_setTimer_31 : decode cX8_setTimer 31 = .ok (.iadd, 1) := by decide +kernel
theorem dX8_setTimer_32 : decode cX8_setTimer 32 = .ok (.invokevirtual 65, 3) := by decide +kernel
theorem dX8_setTimer_35 : decode cX8_setTimer 35 = .ok (.return_, 1) := by decide +kernel
set_option maxRecDepth 20000 in
theorem ggX8_starts_X8_set : GoodIn wsX8_starts wsX8_set := goodIn_r _ [6, 7, 33, 34, 35, 36, 37, 38, 39, 40, 41, 42] rfl (by decide +kernel)
set_option maxRecDepth 20000 in
theorem gX8_starts_X8_set : GoodIn wsX8_starts (wsV RX8 65 RX8 yX8_set wsX8_set) := goodIn_app (goodIn_of _ (by decide +kernel)) ggX8_starts_X8_set
set_option maxRecDepth 20000 in
theorem ggX8_starts_X8_get : GoodIn wsX8_starts wsX8_get := goodIn_r _ [11, 7, 33, 34, 35, 36, 37, 38, 39, 40, 41, 42] rfl (by decide +kernel)
set_option maxRecDepth 20000 in
theorem gX8_starts_X8_get : GoodIn wsX8_starts (wsV RX8 58 RX8 yX8_get wsX8_get) := goodIn_app (goodIn_of _ (by decide +kernel)) ggX8_starts_X8_get
set_option maxRecDepth 20000 in
theorem ggX8_starts_X8_proposer : GoodIn wsX8_starts wsX8_proposer := goodIn_r _ [15, 16, 33, 34, 35, 36, 37, 38, 39, 40, 41, 42] rfl (by decide +kernel)
set_option maxRecDepth 20000 in
theorem gX8_starts_X8_proposer : GoodIn wsX8_starts (wsV RX8 62 RX8 yX8_proposer wsX8_proposer) := goodIn_app (goodIn_of _ (by decide +kernel)) ggX8_starts_X8_proposer
set_option maxRecDepth 20000 in
theorem ggX8_starts_X8_setTimer : GoodIn wsX8_starts wsX8_setTimer := goodIn_r _ [20, 2, 3, 4, 5, 6, 7, 8, 9, 10, 11, 33, 34, 35, 36, 37, 38, 39, 40, 41, 42] rfl (by decide +kernel)
set_option maxRecDepth 20000 in
theorem gX8_starts_X8_setTimer : GoodIn wsX8_starts (wsV RX8 69 RX8 yX8_setTimer wsX8_setTimer) := goodIn_app (goodIn_of _ (by decide +kernel)) ggX8_starts_X8_setTimer
set_option maxRecDepth 20000 in
theorem ggX8_starts_X8_sends : GoodIn wsX8_starts wsX8_sends := goodIn_r _ [24, 25, 26, 27, 33, 34, 35, 36, 37, 38, 39, 40, 41, 42] rfl (by decide +kernel)
set_option maxRecDepth 20000 in
theorem gX8_starts_X8_sends : GoodIn wsX8_starts (wsV RX8 73 RX8 yX8_sends wsX8_sends) := goodIn_app (goodIn_of _ (by decide +kernel)) ggX8_starts_X8_sends
set_option maxRecDepth 20000 in
theorem ggX8_starts_X8_isRight : GoodIn wsX8_starts wsX8_isRight := goodIn_r _ [31, 32, 33, 34, 35, 36, 37, 38, 39, 40, 41, 42] rfl (by decide +kernel)
set_option maxRecDepth 20000 in
theorem gX8_starts_X8_isRight : GoodIn wsX8_starts (wsV RX8 77 RX8 yX8_isRight wsX8_isRight) := goodIn_app (goodIn_of _ (by decide +kernel)) ggX8_starts_X8_isRight
theorem dX8_starts_0 : decode cX8_starts 0 = .ok (.iload_n 2, 1) := by decide +kernel
theorem dX8_starts_1 : decode cX8_starts 1 = .ok (.bipush 9, 2) := by decide +kernel
theorem dX8_starts_3 : decode cX8_starts 3 = .ok (.if_icmp .le 12, 3) := by decide +kernel
theorem dX8_starts_6 : decode cX8_starts 6 = .ok (.aload_n 0, 1) := by decide +kernel
theorem dX8_starts_7 : decode cX8_starts 7 = .ok (.iload_n 1, 1) := by decide +kernel
theorem dX8_starts_8 : decode cX8_starts 8 = .ok (.bipush 7, 2) := by decide +kernel
theorem dX8_starts_10 : decode cX8_starts 10 = .ok (.iconst 1, 1) := by decide +kernel
theorem dX8_starts_11 : decode cX8_starts 11 = .ok (.invokevirtual 65, 3) := by decide +kernel
theorem dX8_starts_14 : decode cX8_starts 14 = .ok (.return_, 1) := by decide +kernel
theorem dX8_starts_15 : decode cX8_starts 15 = .ok (.aload_n 0, 1) := by decide +kernel
theorem dX8_starts_16 : decode cX8_starts 16 = .ok (.iload_n 1, 1) := by decide +kernel
theorem dX8_starts_17 : decode cX8_starts 17 = .ok (.iconst 1, 1) := by decide +kernel
theorem dX8_starts_18 : decode cX8_starts 18 = .ok (.iload_n 2, 1) := by decide +kernel
theorem dX8_starts_19 : decode cX8_starts 19 = .ok (.invokevirtual 65, 3) := by decide +kernel
theorem dX8_starts_22 : decode cX8_starts 22 = .ok (.aload_n 0, 1) := by decide +kernel
theorem dX8_starts_23 : decode cX8_starts 23 = .ok (.iload_n 1, 1) := by decide +kernel
theorem dX8_starts_24 : decode cX8_starts 24 = .ok (.iconst 2, 1) := by decide +kernel
theorem dX8_starts_25 : decode cX8_starts 25 = .ok (.iconst 0, 1) := by decide +kernel
theorem dX8_starts_26 : decode cX8_starts 26 = .ok (.invokevirtual 65, 3) := by decide +kernel
theorem dX8_starts_29 : decode cX8_starts 29 = .ok (.aload_n 0, 1) := by decide +kernel
theorem dX8_starts_30 : decode cX8_starts 30 = .ok (.iload_n 1, 1) := by decide +kernel
theorem dX8_starts_31 : decode cX8_starts 31 = .ok (.bipush 8, 2) := by decide +kernel
theorem dX8_starts_33 : decode cX8_starts 33 = .ok (.iconst 0, 1) := by decide +kernel
theorem dX8_starts_34 : decode cX8_starts 34 = .ok (.invokevirtual 65, 3) := by decide +kernel
theorem dX8_starts_37 : decode cX8_starts 37 = .ok (.aload_n 0, 1) := by decide +kernel
theorem dX8_starts_38 : decode cX8_starts 38 = .ok (.iload_n 1, 1) := by decide +kernel
theorem dX8_starts_39 : decode cX8_starts 39 = .ok (.bipush 9, 2) := by decide +kernel
theorem dX8_starts_41 : decode cX8_starts 41 = .ok (.iconst 0, 1) := by decide +kernel
theorem dX8_starts_42 : decode cX8_starts 42 = .ok (.invokevirtual 65, 3) := by decide +kernel
theorem dX8_starts_45 : decode cX8_starts 45 = .ok (.aload_n 0, 1) := by decide +kernel
theorem dX8_starts_46 : decode cX8_starts 46 = .ok (.iload_n 1, 1) := by decide +kernel
theorem dX8_starts_47 : decode cX8_starts 47 = .ok (.bipush 10, 2) := by decide +kernel
theorem dX8_starts_49 : decode cX8_starts 49 = .ok (.iconst 0, 1) := by decide +kernel
theorem dX8_starts_50 : decode cX8_starts 50 = .ok (.invokevirtual 65, 3) := by decide +kernel
theorem dX8_starts_53 : decode cX8_starts 53 = .ok (.aload_n 0, 1) := by decide +kernel
theorem dX8_starts_54 : decode cX8_starts 54 = .ok (.aload_n 0, 1) := by decide +kernel
theorem dX8_starts_55 : decode cX8_starts 55 = .ok (.iload_n 1, 1) := by decide +kernel
theorem dX8_starts_56 : decode cX8_starts 56 = .ok (.iconst 0, 1) := by decide +kernel
theorem dX8_starts_57 : decode cX8_starts 57 = .ok (.invokevirtual 58, 3) := by decide +kernel
theorem dX8_starts_60 : decode cX8_starts 60 = .ok (.iload_n 2, 1) := by decide +kernel
theorem dX8_starts_61 : decode cX8_starts 61 = .ok (.invokevirtual 62, 3) := by decide +kernel
theorem dX8_starts_64 : decode cX8_starts 64 = .ok (.iload_n 1, 1) := by decide +kernel
theorem dX8_starts_65 : decode cX8_starts 65 = .ok (.if_icmp .eq 10, 3) := by decide +kernel
theorem dX8_starts_68 : decode cX8_starts 68 = .ok (.aload_n 0, 1) := by decide +kernel
theorem dX8_starts_69 : decode cX8_starts 69 = .ok (.iload_n 1, 1) := by decide +kernel
theorem dX8_starts_70 : decode cX8_starts 70 = .ok (.iconst 0, 1) := by decide +kernel
theorem dX8_starts_71 : decode cX8_starts 71 = .ok (.invokevirtual 69, 3) := by decide +kernel
theorem dX8_starts_74 : decode cX8_starts 74 = .ok (.return_, 1) := by decide +kernel
theorem dX8_starts_75 : decode cX8_starts 75 = .ok (.aload_n 0, 1) := by decide +kernel
theorem dX8_starts_76 : decode cX8_starts 76 = .ok (.iload_n 1, 1) := by decide +kernel
theorem dX8_starts_77 : decode cX8_starts 77 = .ok (.iconst 5, 1) := by decide +kernel
theorem dX8_starts_78 : decode cX8_starts 78 = .ok (.invokevirtual 58, 3) := by decide +kernel
theorem dX8_starts_81 : decode cX8_starts 81 = .ok (.ifCond .lt 31, 3) := by decide +kernel
theorem dX8_starts_84 : decode cX8_starts 84 = .ok (.aload_n 0, 1) := by decide +kernel
theorem dX8_starts_85 : decode cX8_starts 85 = .ok (.iload_n 1, 1) := by decide +kernel
theorem dX8_starts_86 : decode cX8_starts 86 = .ok (.iconst 0, 1) := by decide +kernel
theorem dX8_starts_87 : decode cX8_starts 87 = .ok (.aload_n 0, 1) := by decide +kernel
theorem dX8_starts_88 : decode cX8_starts 88 = .ok (.iload_n 1, 1) := by decide +kernel
theorem dX8_starts_89 : decode cX8_starts 89 = .ok (.iconst 0, 1) := by decide +kernel
theorem dX8_starts_90 : decode cX8_starts 90 = .ok (.invokevirtual 58, 3) := by decide +kernel
theorem dX8_starts_93 : decode cX8_starts 93 = .ok (.iload_n 2, 1) := by decide +kernel
theorem dX8_starts_94 : decode cX8_starts 94 = .ok (.aload_n 0, 1) := by decide +kernel
theorem dX8_starts_95 : decode cX8_starts 95 = .ok (.iload_n 1, 1) := by decide +kernel
theorem dX8_starts_96 : decode cX8_starts 96 = .ok (.iconst 5, 1) := by decide +kernel
theorem dX8_starts_97 : decode cX8_starts 97 = .ok (.invokevirtual 58, 3) := by decide +kernel
theorem dX8_starts_100 : decode cX8_starts 100 = .ok (.aload_n 0, 1) := by decide +kernel
theorem dX8_starts_101 : decode cX8_starts 101 = .ok (.iload_n 1, 1) := by decide +kernel
theorem dX8_starts_102 : decode cX8_starts 102 = .ok (.bipush 6, 2) := by decide +kernel
theorem dX8_starts_104 : decode cX8_starts 104 = .ok (.invokevirtual 58, 3) := by decide +kernel
theorem dX8_starts_107 : decode cX8_starts 107 = .ok (.iconst 1, 1) := by decide +kernel
theorem dX8_starts_108 : decode cX8_starts 108 = .ok (.invokevirtual 73, 3) := by decide +kernel
theorem dX8_starts_111 : decode cX8_starts 111 = .ok (.return_, 1) := by decide +kernel
theorem dX8_starts_112 : decode cX8_starts 112 = .ok (.iconst 1, 1) := by decide +kernel
theorem dX8_starts_113 : decode cX8_starts 113 = .ok (.istore_n 3, 1) := by decide +kernel
theorem dX8_starts_114 : decode cX8_starts 114 = .ok (.iload_n 3, 1) := by decide +kernel
theorem dX8_starts_115 : decode cX8_starts 115 = .ok (.bipush 100, 2) := by decide +kernel
theorem dX8_starts_117 : decode cX8_starts 117 = .ok (.if_icmp .ge 32, 3) := by decide +kernel
theorem dX8_starts_120 : decode cX8_starts 120 = .ok (.aload_n 0, 1) := by decide +kernel
theorem dX8_starts_121 : decode cX8_starts 121 = .ok (.getfield 13, 3) := by decide +kernel
theorem dX8_starts_124 : decode cX8_starts 124 = .ok (.bipush 100, 2) := by decide +kernel
theorem dX8_starts_126 : decode cX8_starts 126 = .ok (.iload_n 1, 1) := by decide +kernel
theorem dX8_starts_127 : decode cX8_starts 127 = .ok (.imul, 1) := by decide +kernel
theorem dX8_starts_128 : decode cX8_starts 128 = .ok (.iload_n 3, 1) := by decide +kernel
theorem dX8_starts_129 : decode cX8_starts 129 = .ok (.iadd, 1) := by decide +kernel
theorem dX8_starts_130 : decode cX8_starts 130 = .ok (.baload, 1) := by decide +kernel
theorem dX8_starts_131 : decode cX8_starts 131 = .ok (.ifCond .eq 12, 3) := by decide +kernel
theorem dX8_starts_134 : decode cX8_starts 134 = .ok (.aload_n 0, 1) := by decide +kernel
theorem dX8_starts_135 : decode cX8_starts 135 = .ok (.iload_n 1, 1) := by decide +kernel
theorem dX8_starts_136 : decode cX8_starts 136 = .ok (.iload_n 3, 1) := by decide +kernel
theorem dX8_starts_137 : decode cX8_starts 137 = .ok (.invokevirtual 77, 3) := by decide +kernel
theorem dX8_starts_140 : decode cX8_starts 140 = .ok (.ifCond .ne 9, 3) := by decide +kernel
theorem dX8_starts_143 : decode cX8_starts 143 = .ok (.iinc 3 1, 3) := by decide +kernel
theorem dX8_starts_146 : decode cX8_starts 146 = .ok (.goto (-32), 3) := by decide +kernel
theorem dX8_starts_149 : decode cX8_starts 149 = .ok (.aload_n 0, 1) := by decide +kernel
theorem dX8_starts_150 : decode cX8_starts 150 = .ok (.iload_n 1, 1) := by decide +kernel
theorem dX8_starts_151 : decode cX8_starts 151 = .ok (.iconst 0, 1) := by decide +kernel
theorem dX8_starts_152 : decode cX8_starts 152 = .ok (.aload_n 0, 1) := by decide +kernel
theorem dX8_starts_153 : decode cX8_starts 153 = .ok (.iload_n 1, 1) := by decide +kernel
theorem dX8_starts_154 : decode cX8_starts 154 = .ok (.iconst 0, 1) := by decide +kernel
theorem dX8_starts_155 : decode cX8_starts 155 = .ok (.invokevirtual 58, 3) := by decide +kernel
theorem dX8_starts_158 : decode cX8_starts 158 = .ok (.iload_n 2, 1) := by decide +kernel
theorem dX8_starts_159 : decode cX8_starts 159 = .ok (.iload_n 3, 1) := by decide +kernel
theorem dX8_starts_160 : decode cX8_starts 160 = .ok (.bipush 100, 2) := by decide +kernel
theorem dX8_starts_162 : decode cX8_starts 162 = .ok (.if_icmp .ne 7, 3) := by decide +kernel
theorem dX8_starts_165 : decode cX8_starts 165 = .ok (.iconst 0, 1) := by decide +kernel
theorem dX8_starts_166 : decode cX8_starts 166 = .ok (.goto 4, 3) := by decide +kernel
theorem dX8_starts_169 : decode cX8_starts 169 = .ok (.iload_n 3, 1) := by decide +kernel
theorem dX8_starts_170 : decode cX8_starts 170 = .ok (.iconst (-1), 1) := by decide +kernel
theorem dX8_starts_171 : decode cX8_starts 171 = .ok (.iconst 1, 1) := by decide +kernel
theorem dX8_starts_172 : decode cX8_starts 172 = .ok (.invokevirtual 73, 3) := by decide +kernel
theorem dX8_starts_175 : decode cX8_starts 175 = .ok (.return_, 1) := by decide +kernel
set_option maxRecDepth 20000 in
theorem ggX8_isDone_X8_get : GoodIn wsX8_isDone wsX8_get := goodIn_r _ [5, 6, 7, 8, 9, 10, 11, 12, 13, 14, 15, 16] rfl (by decide +kernel)
set_option maxRecDepth 20000 in
theorem gX8_isDone_X8_get : GoodIn wsX8_isDone (wsV RX8 58 RX8 yX8_get wsX8_get) := goodIn_app (goodIn_of _ (by decide +kernel)) ggX8_isDone_X8_get
theorem dX8_isDone_0 : decode cX8_isDone 0 = .ok (.aload_n 0, 1) := by decide +kernel
theorem dX8_isDone_1 : decode cX8_isDone 1 = .ok (.iload_n 1, 1) := by decide +kernel
theorem dX8_isDone_2 : decode cX8_isDone 2 = .ok (.iconst 0, 1) := by decide +kernel
theorem dX8_isDone_3 : decode cX8_isDone 3 = .ok (.invokevirtual 58, 3) := by decide +kernel
theorem dX8_isDone_6 : decode cX8_isDone 6 = .ok (.iconst 5, 1) := by decide +kernel
theorem dX8_isDone_7 : decode cX8_isDone 7 = .ok (.if_icmp .le 7, 3) := by decide +kernel
theorem dX8_isDone_10 : decode cX8_isDone 10 = .ok (.iconst 1, 1) := by decide +kernel
theorem dX8_isDone_11 : decode cX8_isDone 11 = .ok (.goto 4, 3) := by decide +kernel
theorem dX8_isDone_14 : decode cX8_isDone 14 = .ok (.iconst 0, 1) := by decide +kernel
theorem dX8_isDone_15 : decode cX8_isDone 15 = .ok (.ireturn, 1) := by decide +kernel
set_option maxRecDepth 20000 in
theorem ggX8_casts_X8_get : GoodIn wsX8_casts wsX8_get := goodIn_r _ [5, 6, 18, 19, 20, 21, 22, 23, 24, 25, 26, 27] rfl (by decide +kernel)
set_option maxRecDepth 20000 in
theorem gX8_casts_X8_get : GoodIn wsX8_casts (wsV RX8 58 RX8 yX8_get wsX8_get) := goodIn_app (goodIn_of _ (by decide +kernel)) ggX8_casts_X8_get
set_option maxRecDepth 20000 in
theorem ggX8_casts_X8_sends : GoodIn wsX8_casts wsX8_sends := goodIn_r _ [10, 11, 12, 13, 18, 19, 20, 21, 22, 23, 24, 25, 26, 27] rfl (by decide +kernel)
set_option maxRecDepth 20000 in
theorem gX8_casts_X8_sends : GoodIn wsX8_casts (wsV RX8 73 RX8 yX8_sends wsX8_sends) := goodIn_app (goodIn_of _ (by decide +kernel)) ggX8_casts_X8_sends
set_option maxRecDepth 20000 in
theorem ggX8_casts_X8_set : GoodIn wsX8_casts wsX8_set := goodIn_r _ [17, 6, 18, 19, 20, 21, 22, 23, 24, 25, 26, 27] rfl (by decide +kernel)
set_option maxRecDepth 20000 in
theorem gX8_casts_X8_set : GoodIn wsX8_casts (wsV RX8 65 RX8 yX8_set wsX8_set) := goodIn_app (goodIn_of _ (by decide +kernel)) ggX8_casts_X8_set
theorem dX8_casts_0 : decode cX8_casts 0 = .ok (.aload_n 0, 1) := by decide +kernel
theorem dX8_casts_1 : decode cX8_casts 1 = .ok (.iload_n 1, 1) := by decide +kernel
theorem dX8_casts_2 : decode cX8_casts 2 = .ok (.iload_n 2, 1) := by decide +kernel
theorem dX8_casts_3 : decode cX8_casts 3 = .ok (.aload_n 0, 1) := by decide +kernel
theorem dX8_casts_4 : decode cX8_casts 4 = .ok (.iload_n 1, 1) := by decide +kernel
theorem dX8_casts_5 : decode cX8_casts 5 = .ok (.iconst 0, 1) := by decide +kernel
theorem dX8_casts_6 : decode cX8_casts 6 = .ok (.invokevirtual 58, 3) := by decide +kernel
theorem dX8_casts_9 : decode cX8_casts 9 = .ok (.aload_n 0, 1) := by decide +kernel
theorem dX8_casts_10 : decode cX8_casts 10 = .ok (.iload_n 1, 1) := by decide +kernel
theorem dX8_casts_11 : decode cX8_casts 11 = .ok (.iconst 1, 1) := by decide +kernel
theorem dX8_casts_12 : decode cX8_casts 12 = .ok (.invokevirtual 58, 3) := by decide +kernel
theorem dX8_casts_15 : decode cX8_casts 15 = .ok (.iload_n 3, 1) := by decide +kernel
theorem dX8_casts_16 : decode cX8_casts 16 = .ok (.iconst (-1), 1) := by decide +kernel
theorem dX8_casts_17 : decode cX8_casts 17 = .ok (.iconst 1, 1) := by decide +kernel
theorem dX8_casts_18 : decode cX8_casts 18 = .ok (.invokevirtual 73, 3) := by decide +kernel
theorem dX8_casts_21 : decode cX8_casts 21 = .ok (.aload_n 0, 1) := by decide +kernel
theorem dX8_casts_22 : decode cX8_casts 22 = .ok (.iload_n 1, 1) := by decide +kernel
theorem dX8_casts_23 : decode cX8_casts 23 = .ok (.iconst 2, 1) := by decide +kernel
theorem dX8_casts_24 : decode cX8_casts 24 = .ok (.iload_n 2, 1) := by decide +kernel
theorem dX8_casts_25 : decode cX8_casts 25 = .ok (.invokevirtual 65, 3) := by decide +kernel
theorem dX8_casts_28 : decode cX8_casts 28 = .ok (.return_, 1) := by decide +kernel
set_option maxRecDepth 20000 in
theorem ggX8_rules_X8_isDone : GoodIn wsX8_rules wsX8_isDone := goodIn_r _ [6, 7, 8, 9, 5, 10, 11, 93, 94, 95, 96, 97, 98, 99, 100, 101, 102] rfl (by decide +kernel)
set_option maxRecDepth 20000 in
theorem gX8_rules_X8_isDone : GoodIn wsX8_rules (wsV RX8 81 RX8 yX8_isDone wsX8_isDone) := goodIn_app (goodIn_of _ (by decide +kernel)) ggX8_rules_X8_isDone
set_option maxRecDepth 20000 in
theorem ggX8_rules_X8_fits : GoodIn wsX8_rules wsX8_fits := goodIn_r _ [15, 16, 17, 18, 5, 19, 20, 21, 22, 7, 8, 9, 10, 11, 23, 24, 25, 26, 27, 28, 29, 30, 31, 32, 33, 34, 35, 36, 37, 38, 39, 40, 41, 42, 43, 44, 45, 46, 47, 48, 2, 3, 4, 6, 49, 50, 51, 52, 53, 54, 55, 56, 57, 58, 59, 60, 61, 62, 63, 64, 65, 66, 67, 68, 69, 70, 71, 72, 73, 74, 75, 76, 77, 78, 79, 80, 81, 82, 83, 84, 85, 86, 87, 88, 89, 90, 91, 92, 93, 94, 95, 96, 97, 98, 99, 100, 101, 102] rfl (by decide +kernel)
set_option maxRecDepth 20000 in
theorem gX8_rules_X8_fits : GoodIn wsX8_rules (wsV RX8 84 RX8 yX8_fits wsX8_fits) := goodIn_app (goodIn_of _ (by decide +kernel)) ggX8_rules_X8_fits
set_option maxRecDepth 20000 in
theorem ggX8_rules_X8_get : GoodIn wsX8_rules wsX8_get := goodIn_r _ [10, 11, 93, 94, 95, 96, 97, 98, 99, 100, 101, 102] rfl (by decide +kernel)
set_option maxRecDepth 20000 in
theorem gX8_rules_X8_get : GoodIn wsX8_rules (wsV RX8 58 RX8 yX8_get wsX8_get) := goodIn_app (goodIn_of _ (by decide +kernel)) ggX8_rules_X8_get
set_option maxRecDepth 20000 in
theorem ggX8_rules_X8_set : GoodIn wsX8_rules wsX8_set := goodIn_r _ [48, 11, 93, 94, 95, 96, 97, 98, 99, 100, 101, 102] rfl (by decide +kernel)
set_option maxRecDepth 20000 in
theorem gX8_rules_X8_set : GoodIn wsX8_rules (wsV RX8 65 RX8 yX8_set wsX8_set) := goodIn_app (goodIn_of _ (by decide +kernel)) ggX8_rules_X8_set
theorem dX8_rules_0 : decode cX8_rules 0 = .ok (.aload_n 0, 1) := by decide +kernel
theorem dX8_rules_1 : decode cX8_rules 1 = .ok (.getfield 7, 3) := by decide +kernel
theorem dX8_rules_4 : decode cX8_rules 4 = .ok (.iload_n 1, 1) := by decide +kernel
theorem dX8_rules_5 : decode cX8_rules 5 = .ok (.baload, 1) := by decide +kernel
theorem dX8_rules_6 : decode cX8_rules 6 = .ok (.ifCond .ne 38, 3) := by decide +kernel
theorem dX8_rules_9 : decode cX8_rules 9 = .ok (.aload_n 0, 1) := by decide +kernel
theorem dX8_rules_10 : decode cX8_rules 10 = .ok (.iload_n 1, 1) := by decide +kernel
theorem dX8_rules_11 : decode cX8_rules 11 = .ok (.invokevirtual 81, 3) := by decide +kernel
theorem dX8_rules_14 : decode cX8_rules 14 = .ok (.ifCond .ne 30, 3) := by decide +kernel
theorem dX8_rules_17 : decode cX8_rules 17 = .ok (.aload_n 0, 1) := by decide +kernel
theorem dX8_rules_18 : decode cX8_rules 18 = .ok (.iload_n 1, 1) := by decide +kernel
theorem dX8_rules_19 : decode cX8_rules 19 = .ok (.invokevirtual 84, 3) := by decide +kernel
theorem dX8_rules_22 : decode cX8_rules 22 = .ok (.ifCond .eq 22, 3) := by decide +kernel
theorem dX8_rules_25 : decode cX8_rules 25 = .ok (.aload_n 0, 1) := by decide +kernel
theorem dX8_rules_26 : decode cX8_rules 26 = .ok (.iload_n 1, 1) := by decide +kernel
theorem dX8_rules_27 : decode cX8_rules 27 = .ok (.bipush 19, 2) := by decide +kernel
theorem dX8_rules_29 : decode cX8_rules 29 = .ok (.aload_n 0, 1) := by decide +kernel
theorem dX8_rules_30 : decode cX8_rules 30 = .ok (.iload_n 1, 1) := by decide +kernel
theorem dX8_rules_31 : decode cX8_rules 31 = .ok (.bipush 19, 2) := by decide +kernel
theorem dX8_rules_33 : decode cX8_rules 33 = .ok (.invokevirtual 58, 3) := by decide +kernel
theorem dX8_rules_36 : decode cX8_rules 36 = .ok (.iconst 1, 1) := by decide +kernel
theorem dX8_rules_37 : decode cX8_rules 37 = .ok (.iadd, 1) := by decide +kernel
theorem dX8_rules_38 : decode cX8_rules 38 = .ok (.invokevirtual 65, 3) := by decide +kernel
theorem dX8_rules_41 : decode cX8_rules 41 = .ok (.goto (-41), 3) := by decide +kernel
theorem dX8_rules_44 : decode cX8_rules 44 = .ok (.return_, 1) := by decide +kernel
set_option maxRecDepth 20000 in
theorem ggX8_fits_X8_decides : GoodIn wsX8_fits wsX8_decides := goodIn_r _ [5, 6, 7, 8, 9, 10, 11, 4, 12, 13, 14, 15, 16, 17, 18, 19, 20, 21, 22, 23, 24, 25, 26, 27, 28, 29, 30, 31, 32, 33, 34, 35, 36, 37, 38, 39, 40, 41, 42, 43, 44, 45, 46, 47, 48, 49, 50, 51, 52, 53, 54, 55, 56, 88, 89, 90, 91, 92, 93, 94, 95, 96, 97] rfl (by decide +kernel)
set_option maxRecDepth 20000 in
theorem gX8_fits_X8_decides : GoodIn wsX8_fits (wsV RX8 87 RX8 yX8_decides wsX8_decides) := goodIn_app (goodIn_of _ (by decide +kernel)) ggX8_fits_X8_decides
set_option maxRecDepth 20000 in
theorem ggX8_fits_X8_jumps : GoodIn wsX8_fits wsX8_jumps := goodIn_r _ [60, 23, 6, 18, 7, 9, 10, 11, 4, 12, 13, 61, 62, 63, 64, 44, 45, 46, 47, 48, 36, 37, 38, 39, 19, 20, 21, 22, 49, 50, 51, 52, 53, 54, 55, 56, 24, 25, 26, 27, 8, 88, 89, 90, 91, 92, 93, 94, 95, 96, 97] rfl (by decide +kernel)
set_option maxRecDepth 20000 in
theorem gX8_fits_X8_jumps : GoodIn wsX8_fits (wsV RX8 90 RX8 yX8_jumps wsX8_jumps) := goodIn_app (goodIn_of _ (by decide +kernel)) ggX8_fits_X8_jumps
set_option maxRecDepth 20000 in
theorem ggX8_fits_X8_prevotes : GoodIn wsX8_fits wsX8_prevotes := goodIn_r _ [68, 6, 7, 9, 10, 11, 4, 12, 13, 14, 15, 16, 17, 18, 19, 20, 21, 22, 23, 24, 25, 26, 27, 8, 69, 70, 71, 72, 53, 54, 55, 56, 36, 37, 38, 39, 73, 74, 75, 28, 29, 30, 31, 32, 33, 34, 35, 88, 89, 90, 91, 92, 93, 94, 95, 96, 97] rfl (by decide +kernel)
set_option maxRecDepth 20000 in
theorem gX8_fits_X8_prevotes : GoodIn wsX8_fits (wsV RX8 93 RX8 yX8_prevotes wsX8_prevotes) := goodIn_app (goodIn_of _ (by decide +kernel)) ggX8_fits_X8_prevotes
set_option maxRecDepth 20000 in
theorem ggX8_fits_X8_locks : GoodIn wsX8_fits wsX8_locks := goodIn_r _ [79, 6, 7, 9, 10, 11, 4, 12, 13, 14, 15, 16, 17, 18, 19, 20, 21, 22, 23, 24, 25, 26, 27, 8, 28, 29, 30, 31, 32, 33, 34, 35, 36, 37, 38, 39, 69, 70, 71, 72, 53, 54, 55, 56, 88, 89, 90, 91, 92, 93, 94, 95, 96, 97] rfl (by decide +kernel)
set_option maxRecDepth 20000 in
theorem gX8_fits_X8_locks : GoodIn wsX8_fits (wsV RX8 96 RX8 yX8_locks wsX8_locks) := goodIn_app (goodIn_of _ (by decide +kernel)) ggX8_fits_X8_locks
set_option maxRecDepth 20000 in
theorem ggX8_fits_X8_precommitsNil : GoodIn wsX8_fits wsX8_precommitsNil := goodIn_r _ [83, 9, 10, 11, 4, 12, 13, 28, 29, 30, 31, 23, 6, 18, 7, 32, 33, 34, 35, 69, 70, 71, 72, 53, 54, 55, 56, 36, 37, 38, 39, 88, 89, 90, 91, 92, 93, 94, 95, 96, 97] rfl (by decide +kernel)
set_option maxRecDepth 20000 in
theorem gX8_fits_X8_precommitsNil : GoodIn wsX8_fits (wsV RX8 99 RX8 yX8_precommitsNil wsX8_precommitsNil) := goodIn_app (goodIn_of _ (by decide +kernel)) ggX8_fits_X8_precommitsNil
set_option maxRecDepth 20000 in
theorem ggX8_fits_X8_timers : GoodIn wsX8_fits wsX8_timers := goodIn_r _ [87, 9, 10, 11, 4, 12, 13, 28, 29, 30, 31, 23, 6, 18, 7, 32, 33, 34, 35, 36, 37, 38, 39, 49, 50, 51, 52, 88, 89, 90, 91, 92, 93, 94, 95, 96, 97] rfl (by decide +kernel)
set_option maxRecDepth 20000 in
theorem gX8_fits_X8_timers : GoodIn wsX8_fits (wsV RX8 102 RX8 yX8_timers wsX8_timers) := goodIn_app (goodIn_of _ (by decide +kernel)) ggX8_fits_X8_timers
theorem dX8_fits_0 : decode cX8_fits 0 = .ok (.aload_n 0, 1) := by decide +kernel
theorem dX8_fits_1 : decode cX8_fits 1 = .ok (.iload_n 1, 1) := by decide +kernel
theorem dX8_fits_2 : decode cX8_fits 2 = .ok (.invokevirtual 87, 3) := by decide +kernel
theorem dX8_fits_5 : decode cX8_fits 5 = .ok (.ifCond .ne 43, 3) := by decide +kernel
theorem dX8_fits_8 : decode cX8_fits 8 = .ok (.aload_n 0, 1) := by decide +kernel
theorem dX8_fits_9 : decode cX8_fits 9 = .ok (.iload_n 1, 1) := by decide +kernel
theorem dX8_fits_10 : decode cX8_fits 10 = .ok (.invokevirtual 90, 3) := by decide +kernel
theorem dX8_fits_13 : decode cX8_fits 13 = .ok (.ifCond .ne 35, 3) := by decide +kernel
theorem dX8_fits_16 : decode cX8_fits 16 = .ok (.aload_n 0, 1) := by decide +kernel
theorem dX8_fits_17 : decode cX8_fits 17 = .ok (.iload_n 1, 1) := by decide +kernel
theorem dX8_fits_18 : decode cX8_fits 18 = .ok (.invokevirtual 93, 3) := by decide +kernel
theorem dX8_fits_21 : decode cX8_fits 21 = .ok (.ifCond .ne 27, 3) := by decide +kernel
theorem dX8_fits_24 : decode cX8_fits 24 = .ok (.aload_n 0, 1) := by decide +kernel
theorem dX8_fits_25 : decode cX8_fits 25 = .ok (.iload_n 1, 1) := by decide +kernel
theorem dX8_fits_26 : decode cX8_fits 26 = .ok (.invokevirtual 96, 3) := by decide +kernel
theorem dX8_fits_29 : decode cX8_fits 29 = .ok (.ifCond .ne 19, 3) := by decide +kernel
theorem dX8_fits_32 : decode cX8_fits 32 = .ok (.aload_n 0, 1) := by decide +kernel
theorem dX8_fits_33 : decode cX8_fits 33 = .ok (.iload_n 1, 1) := by decide +kernel
theorem dX8_fits_34 : decode cX8_fits 34 = .ok (.invokevirtual 99, 3) := by decide +kernel
theorem dX8_fits_37 : decode cX8_fits 37 = .ok (.ifCond .ne 11, 3) := by decide +kernel
theorem dX8_fits_40 : decode cX8_fits 40 = .ok (.aload_n 0, 1) := by decide +kernel
theorem dX8_fits_41 : decode cX8_fits 41 = .ok (.iload_n 1, 1) := by decide +kernel
theorem dX8_fits_42 : decode cX8_fits 42 = .ok (.invokevirtual 102, 3) := by decide +kernel
theorem dX8_fits_45 : decode cX8_fits 45 = .ok (.ifCond .eq 7, 3) := by decide +kernel
theorem dX8_fits_48 : decode cX8_fits 48 = .ok (.iconst 1, 1) := by decide +kernel
theorem dX8_fits_49 : decode cX8_fits 49 = .ok (.goto 4, 3) := by decide +kernel
theorem dX8_fits_52 : decode cX8_fits 52 = .ok (.iconst 0, 1) := by decide +kernel
theorem dX8_fits_53 : decode cX8_fits 53 = .ok (.ireturn, 1) := by decide +kernel
set_option maxRecDepth 20000 in
theorem ggX8_decides_X8_get : GoodIn wsX8_decides wsX8_get := goodIn_r _ [8, 9, 53, 54, 55, 56, 57, 58, 59, 60, 61, 62] rfl (by decide +kernel)
set_option maxRecDepth 20000 in
theorem gX8_decides_X8_get : GoodIn wsX8_decides (wsV RX8 58 RX8 yX8_get wsX8_get) := goodIn_app (goodIn_of _ (by decide +kernel)) ggX8_decides_X8_get
set_option maxRecDepth 20000 in
theorem ggX8_decides_X8_proposes : GoodIn wsX8_decides wsX8_proposes := goodIn_r _ [13, 14, 2, 4, 5, 6, 7, 8, 9, 15, 16, 17, 18, 19, 53, 54, 55, 56, 57, 58, 59, 60, 61, 62] rfl (by decide +kernel)
set_option maxRecDepth 20000 in
theorem gX8_decides_X8_proposes : GoodIn wsX8_decides (wsV RX8 105 RX8 yX8_proposes wsX8_proposes) := goodIn_app (goodIn_of _ (by decide +kernel)) ggX8_decides_X8_proposes
set_option maxRecDepth 20000 in
theorem ggX8_decides_X8_isRight : GoodIn wsX8_decides wsX8_isRight := goodIn_r _ [23, 3, 53, 54, 55, 56, 57, 58, 59, 60, 61, 62] rfl (by decide +kernel)
set_option maxRecDepth 20000 in
theorem gX8_decides_X8_isRight : GoodIn wsX8_decides (wsV RX8 77 RX8 yX8_isRight wsX8_isRight) := goodIn_app (goodIn_of _ (by decide +kernel)) ggX8_decides_X8_isRight
set_option maxRecDepth 20000 in
theorem ggX8_decides_X8_voted : GoodIn wsX8_decides wsX8_voted := goodIn_r _ [27, 19, 1, 14, 2, 53, 54, 55, 56, 57, 58, 59, 60, 61, 62] rfl (by decide +kernel)
set_option maxRecDepth 20000 in
theorem gX8_decides_X8_voted : GoodIn wsX8_decides (wsV RX8 108 RX8 yX8_voted wsX8_voted) := goodIn_app (goodIn_of _ (by decide +kernel)) ggX8_decides_X8_voted
set_option maxRecDepth 20000 in
theorem ggX8_decides_X8_many : GoodIn wsX8_decides wsX8_many := goodIn_r _ [31, 19, 53, 54, 55, 56, 57, 58, 59, 60, 61, 62] rfl (by decide +kernel)
set_option maxRecDepth 20000 in
theorem gX8_decides_X8_many : GoodIn wsX8_decides (wsV RX8 112 RX8 yX8_many wsX8_many) := goodIn_app (goodIn_of _ (by decide +kernel)) ggX8_decides_X8_many
set_option maxRecDepth 20000 in
theorem ggX8_decides_X8_set : GoodIn wsX8_decides wsX8_set := goodIn_r _ [35, 9, 53, 54, 55, 56, 57, 58, 59, 60, 61, 62] rfl (by decide +kernel)
set_option maxRecDepth 20000 in
theorem gX8_decides_X8_set : GoodIn wsX8_decides (wsV RX8 65 RX8 yX8_set wsX8_set) := goodIn_app (goodIn_of _ (by decide +kernel)) ggX8_decides_X8_set
set_option maxRecDepth 20000 in
theorem ggX8_decides_X8_isDone : GoodIn wsX8_decides wsX8_isDone := goodIn_r _ [39, 4, 5, 6, 7, 8, 9, 53, 54, 55, 56, 57, 58, 59, 60, 61, 62] rfl (by decide +kernel)
set_option maxRecDepth 20000 in
theorem gX8_decides_X8_isDone : GoodIn wsX8_decides (wsV RX8 81 RX8 yX8_isDone wsX8_isDone) := goodIn_app (goodIn_of _ (by decide +kernel)) ggX8_decides_X8_isDone
set_option maxRecDepth 20000 in
theorem ggX8_decides_X8_starts : GoodIn wsX8_decides wsX8_starts := goodIn_r _ [43, 44, 32, 33, 34, 7, 35, 9, 4, 5, 6, 8, 15, 16, 17, 18, 19, 45, 46, 47, 48, 49, 50, 51, 52, 1, 2, 14, 20, 21, 22, 23, 3, 53, 54, 55, 56, 57, 58, 59, 60, 61, 62] rfl (by decide +kernel)
set_option maxRecDepth 20000 in
theorem gX8_decides_X8_starts : GoodIn wsX8_decides (wsV RX8 115 RX8 yX8_starts wsX8_starts) := goodIn_app (goodIn_of _ (by decide +kernel)) ggX8_decides_X8_starts
theorem dX8_decides_0 : decode cX8_decides 0 = .ok (.aload_n 0, 1) := by decide +kernel
theorem dX8_decides_1 : decode cX8_decides 1 = .ok (.iload_n 1, 1) := by decide +kernel
theorem dX8_decides_2 : decode cX8_decides 2 = .ok (.iconst 0, 1) := by decide +kernel
theorem dX8_decides_3 : decode cX8_decides 3 = .ok (.invokevirtual 58, 3) := by decide +kernel
theorem dX8_decides_6 : decode cX8_decides 6 = .ok (.istore_n 2, 1) := by decide +kernel
theorem dX8_decides_7 : decode cX8_decides 7 = .ok (.iconst 0, 1) := by decide +kernel
theorem dX8_decides_8 : decode cX8_decides 8 = .ok (.istore_n 3, 1) := by decide +kernel
theorem dX8_decides_9 : decode cX8_decides 9 = .ok (.iload_n 3, 1) := by decide +kernel
theorem dX8_decides_10 : decode cX8_decides 10 = .ok (.bipush 10, 2) := by decide +kernel
theorem dX8_decides_12 : decode cX8_decides 12 = .ok (.if_icmp .ge 212, 3) := by decide +kernel
theorem dX8_decides_15 : decode cX8_decides 15 = .ok (.iconst 0, 1) := by decide +kernel
theorem dX8_decides_16 : decode cX8_decides 16 = .ok (.istore 4, 2) := by decide +kernel
theorem dX8_decides_18 : decode cX8_decides 18 = .ok (.iload 4, 2) := by decide +kernel
theorem dX8_decides_20 : decode cX8_decides 20 = .ok (.aload_n 0, 1) := by decide +kernel
theorem dX8_decides_21 : decode cX8_decides 21 = .ok (.getfield 44, 3) := by decide +kernel
theorem dX8_decides_24 : decode cX8_decides 24 = .ok (.if_icmp .ge 194, 3) := by decide +kernel
theorem dX8_decides_27 : decode cX8_decides 27 = .ok (.aload_n 0, 1) := by decide +kernel
theorem dX8_decides_28 : decode cX8_decides 28 = .ok (.getfield 23, 3) := by decide +kernel
theorem dX8_decides_31 : decode cX8_decides 31 = .ok (.bipush 6, 2) := by decide +kernel
theorem dX8_decides_33 : decode cX8_decides 33 = .ok (.iload 4, 2) := by decide +kernel
theorem dX8_decides_35 : decode cX8_decides 35 = .ok (.imul, 1) := by decide +kernel
theorem dX8_decides_36 : decode cX8_decides 36 = .ok (.iconst 4, 1) := by decide +kernel
theorem dX8_decides_37 : decode cX8_decides 37 = .ok (.iadd, 1) := by decide +kernel
theorem dX8_decides_38 : decode cX8_decides 38 = .ok (.iaload, 1) := by decide +kernel
theorem dX8_decides_39 : decode cX8_decides 39 = .ok (.istore 5, 2) := by decide +kernel
theorem dX8_decides_41 : decode cX8_decides 41 = .ok (.aload_n 0, 1) := by decide +kernel
theorem dX8_decides_42 : decode cX8_decides 42 = .ok (.iload_n 1, 1) := by decide +kernel
theorem dX8_decides_43 : decode cX8_decides 43 = .ok (.iload 4, 2) := by decide +kernel
theorem dX8_decides_45 : decode cX8_decides 45 = .ok (.invokevirtual 105, 3) := by decide +kernel
theorem dX8_decides_48 : decode cX8_decides 48 = .ok (.ifCond .eq 164, 3) := by decide +kernel
theorem dX8_decides_51 : decode cX8_decides 51 = .ok (.aload_n 0, 1) := by decide +kernel
theorem dX8_decides_52 : decode cX8_decides 52 = .ok (.getfield 23, 3) := by decide +kernel
theorem dX8_decides_55 : decode cX8_decides 55 = .ok (.bipush 6, 2) := by decide +kernel
theorem dX8_decides_57 : decode cX8_decides 57 = .ok (.iload 4, 2) := by decide +kernel
theorem dX8_decides_59 : decode cX8_decides 59 = .ok (.imul, 1) := by decide +kernel
theorem dX8_decides_60 : decode cX8_decides 60 = .ok (.iconst 3, 1) := by decide +kernel
theorem dX8_decides_61 : decode cX8_decides 61 = .ok (.iadd, 1) := by decide +kernel
theorem dX8_decides_62 : decode cX8_decides 62 = .ok (.iaload, 1) := by decide +kernel
theorem dX8_decides_63 : decode cX8_decides 63 = .ok (.iload_n 3, 1) := by decide +kernel
theorem dX8_decides_64 : decode cX8_decides 64 = .ok (.if_icmp .ne 148, 3) := by decide +kernel
theorem dX8_decides_67 : decode cX8_decides 67 = .ok (.aload_n 0, 1) := by decide +kernel
theorem dX8_decides_68 : decode cX8_decides 68 = .ok (.iload_n 1, 1) := by decide +kernel
theorem dX8_decides_69 : decode cX8_decides 69 = .ok (.iload 5, 2) := by decide +kernel
theorem dX8_decides_71 : decode cX8_decides 71 = .ok (.invokevirtual 77, 3) := by decide +kernel
theorem dX8_decides_74 : decode cX8_decides 74 = .ok (.ifCond .eq 138, 3) := by decide +kernel
theorem dX8_decides_77 : decode cX8_decides 77 = .ok (.aload_n 0, 1) := by decide +kernel
theorem dX8_decides_78 : decode cX8_decides 78 = .ok (.iload_n 1, 1) := by decide +kernel
theorem dX8_decides_79 : decode cX8_decides 79 = .ok (.iconst 2, 1) := by decide +kernel
theorem dX8_decides_80 : decode cX8_decides 80 = .ok (.iload_n 2, 1) := by decide +kernel
theorem dX8_decides_81 : decode cX8_decides 81 = .ok (.iload_n 3, 1) := by decide +kernel
theorem dX8_decides_82 : decode cX8_decides 82 = .ok (.iload 5, 2) := by decide +kernel
theorem dX8_decides_84 : decode cX8_decides 84 = .ok (.invokevirtual 108, 3) := by decide +kernel
theorem dX8_decides_87 : decode cX8_decides 87 = .ok (.aload_n 0, 1) := by decide +kernel
theorem dX8_decides_88 : decode cX8_decides 88 = .ok (.invokevirtual 112, 3) := by decide +kernel
theorem dX8_decides_91 : decode cX8_decides 91 = .ok (.if_icmp .lt 121, 3) := by decide +kernel
theorem dX8_decides_94 : decode cX8_decides 94 = .ok (.aload_n 0, 1) := by decide +kernel
theorem dX8_decides_95 : decode cX8_decides 95 = .ok (.getfield 20, 3) := by decide +kernel
theorem dX8_decides_98 : decode cX8_decides 98 = .ok (.bipush 12, 2) := by decide +kernel
theorem dX8_decides_100 : decode cX8_decides 100 = .ok (.iload_n 1, 1) := by decide +kernel
theorem dX8_decides_101 : decode cX8_decides 101 = .ok (.imul, 1) := by decide +kernel
theorem dX8_decides_102 : decode cX8_decides 102 = .ok (.iconst 2, 1) := by decide +kernel
theorem dX8_decides_103 : decode cX8_decides 103 = .ok (.iload_n 2, 1) := by decide +kernel
theorem dX8_decides_104 : decode cX8_decides 104 = .ok (.imul, 1) := by decide +kernel
theorem dX8_decides_105 : decode cX8_decides 105 = .ok (.iadd, 1) := by decide +kernel
theorem dX8_decides_106 : decode cX8_decides 106 = .ok (.iload 5, 2) := by decide +kernel
theorem dX8_decides_108 : decode cX8_decides 108 = .ok (.iastore, 1) := by decide +kernel
theorem dX8_decides_109 : decode cX8_decides 109 = .ok (.aload_n 0, 1) := by decide +kernel
theorem dX8_decides_110 : decode cX8_decides 110 = .ok (.getfield 20, 3) := by decide +kernel
theorem dX8_decides_113 : decode cX8_decides 113 = .ok (.bipush 12, 2) := by decide +kernel
theorem dX8_decides_115 : decode cX8_decides 115 = .ok (.iload_n 1, 1) := by decide +kernel
theorem dX8_decides_116 : decode cX8_decides 116 = .ok (.imul, 1) := by decide +kernel
theorem dX8_decides_117 : decode cX8_decides 117 = .ok (.iconst 2, 1) := by decide +kernel
theorem dX8_decides_118 : decode cX8_decides 118 = .ok (.iload_n 2, 1) := by decide +kernel
theorem dX8_decides_119 : decode cX8_decides 119 = .ok (.imul, 1) := by decide +kernel
theorem dX8_decides_120 : decode cX8_decides 120 = .ok (.iadd, 1) := by decide +kernel
theorem dX8_decides_121 : decode cX8_decides 121 = .ok (.iconst 1, 1) := by decide +kernel
theorem dX8_decides_122 : decode cX8_decides 122 = .ok (.iadd, 1) := by decide +kernel
theorem dX8_decides_123 : decode cX8_decides 123 = .ok (.iload_n 3, 1) := by decide +kernel
theorem dX8_decides_124 : decode cX8_decides 124 = .ok (.iastore, 1) := by decide +kernel
theorem dX8_decides_125 : decode cX8_decides 125 = .ok (.aload_n 0, 1) := by decide +kernel
theorem dX8_decides_126 : decode cX8_decides 126 = .ok (.iload_n 1, 1) := by decide +kernel
theorem dX8_decides_127 : decode cX8_decides 127 = .ok (.iconst 0, 1) := by decide +kernel
theorem dX8_decides_128 : decode cX8_decides 128 = .ok (.iload_n 2, 1) := by decide +kernel
theorem dX8_decides_129 : decode cX8_decides 129 = .ok (.iconst 1, 1) := by decide +kernel
theorem dX8_decides_130 : decode cX8_decides 130 = .ok (.iadd, 1) := by decide +kernel
theorem dX8_decides_131 : decode cX8_decides 131 = .ok (.invokevirtual 65, 3) := by decide +kernel
theorem dX8_decides_134 : decode cX8_decides 134 = .ok (.aload_n 0, 1) := by decide +kernel
theorem dX8_decides_135 : decode cX8_decides 135 = .ok (.iload_n 1, 1) := by decide +kernel
theorem dX8_decides_136 : decode cX8_decides 136 = .ok (.iconst 3, 1) := by decide +kernel
theorem dX8_decides_137 : decode cX8_decides 137 = .ok (.iconst (-1), 1) := by decide +kernel
theorem dX8_decides_138 : decode cX8_decides 138 = .ok (.invokevirtual 65, 3) := by decide +kernel
theorem dX8_decides_141 : decode cX8_decides 141 = .ok (.aload_n 0, 1) := by decide +kernel
theorem dX8_decides_142 : decode cX8_decides 142 = .ok (.iload_n 1, 1) := by decide +kernel
theorem dX8_decides_143 : decode cX8_decides 143 = .ok (.iconst 5, 1) := by decide +kernel
theorem dX8_decides_144 : decode cX8_decides 144 = .ok (.iconst (-1), 1) := by decide +kernel
theorem dX8_decides_145 : decode cX8_decides 145 = .ok (.invokevirtual 65, 3) := by decide +kernel
theorem dX8_decides_148 : decode cX8_decides 148 = .ok (.aload_n 0, 1) := by decide +kernel
theorem dX8_decides_149 : decode cX8_decides 149 = .ok (.iload_n 1, 1) := by decide +kernel
theorem dX8_decides_150 : decode cX8_decides 150 = .ok (.bipush 7, 2) := by decide +kernel
theorem dX8_decides_152 : decode cX8_decides 152 = .ok (.iconst 0, 1) := by decide +kernel
theorem dX8_decides_153 : decode cX8_decides 153 = .ok (.invokevirtual 65, 3) := by decide +kernel
theorem dX8_decides_156 : decode cX8_decides 156 = .ok (.iconst 0, 1) := by decide +kernel
theorem dX8_decides_157 : decode cX8_decides 157 = .ok (.istore 6, 2) := by decide +kernel
theorem dX8_decides_159 : decode cX8_decides 159 = .ok (.iload 6, 2) := by decide +kernel
theorem dX8_decides_161 : decode cX8_decides 161 = .ok (.iconst 3, 1) := by decide +kernel
theorem dX8_decides_162 : decode cX8_decides 162 = .ok (.if_icmp .ge 20, 3) := by decide +kernel
theorem dX8_decides_165 : decode cX8_decides 165 = .ok (.aload_n 0, 1) := by decide +kernel
theorem dX8_decides_166 : decode cX8_decides 166 = .ok (.iload_n 1, 1) := by decide +kernel
theorem dX8_decides_167 : decode cX8_decides 167 = .ok (.bipush 11, 2) := by decide +kernel
theorem dX8_decides_169 : decode cX8_decides 169 = .ok (.iload 6, 2) := by decide +kernel
theorem dX8_decides_171 : decode cX8_decides 171 = .ok (.iadd, 1) := by decide +kernel
theorem dX8_decides_172 : decode cX8_decides 172 = .ok (.iconst 0, 1) := by decide +kernel
theorem dX8_decides_173 : decode cX8_decides 173 = .ok (.invokevirtual 65, 3) := by decide +kernel
theorem dX8_decides_176 : decode cX8_decides 176 = .ok (.iinc 6 1, 3) := by decide +kernel
theorem dX8_decides_179 : decode cX8_decides 179 = .ok (.goto (-20), 3) := by decide +kernel
theorem dX8_decides_182 : decode cX8_decides 182 = .ok (.aload_n 0, 1) := by decide +kernel
theorem dX8_decides_183 : decode cX8_decides 183 = .ok (.iload_n 1, 1) := by decide +kernel
theorem dX8_decides_184 : decode cX8_decides 184 = .ok (.iconst 1, 1) := by decide +kernel
theorem dX8_decides_185 : decode cX8_decides 185 = .ok (.iconst 0, 1) := by decide +kernel
theorem dX8_decides_186 : decode cX8_decides 186 = .ok (.invokevirtual 65, 3) := by decide +kernel
theorem dX8_decides_189 : decode cX8_decides 189 = .ok (.aload_n 0, 1) := by decide +kernel
theorem dX8_decides_190 : decode cX8_decides 190 = .ok (.iload_n 1, 1) := by decide +kernel
theorem dX8_decides_191 : decode cX8_decides 191 = .ok (.iconst 2, 1) := by decide +kernel
theorem dX8_decides_192 : decode cX8_decides 192 = .ok (.iconst 0, 1) := by decide +kernel
theorem dX8_decides_193 : decode cX8_decides 193 = .ok (.invokevirtual 65, 3) := by decide +kernel
theorem dX8_decides_196 : decode cX8_decides 196 = .ok (.aload_n 0, 1) := by decide +kernel
theorem dX8_decides_197 : decode cX8_decides 197 = .ok (.iload_n 1, 1) := by decide +kernel
theorem dX8_decides_198 : decode cX8_decides 198 = .ok (.invokevirtual 81, 3) := by decide +kernel
theorem dX8_decides_201 : decode cX8_decides 201 = .ok (.ifCond .ne 9, 3) := by decide +kernel
theorem dX8_decides_204 : decode cX8_decides 204 = .ok (.aload_n 0, 1) := by decide +kernel
theorem dX8_decides_205 : decode cX8_decides 205 = .ok (.iload_n 1, 1) := by decide +kernel
theorem dX8_decides_206 : decode cX8_decides 206 = .ok (.iconst 0, 1) := by decide +kernel
theorem dX8_decides_207 : decode cX8_decides 207 = .ok (.invokevirtual 115, 3) := by decide +kernel
theorem dX8_decides_210 : decode cX8_decides 210 = .ok (.iconst 1, 1) := by decide +kernel
theorem dX8_decides_211 : decode cX8_decides 211 = .ok (.ireturn, 1) := by decide +kernel
theorem dX8_decides_212 : decode cX8_decides 212 = .ok (.iinc 4 1, 3) := by decide +kernel
theorem dX8_decides_215 : decode cX8_decides 215 = .ok (.goto (-197), 3) := by decide +kernel
theorem dX8_decides_218 : decode cX8_decides 218 = .ok (.iinc 3 1, 3) := by decide +kernel
theorem dX8_decides_221 : decode cX8_decides 221 = .ok (.goto (-212), 3) := by decide +kernel
theorem dX8_decides_224 : decode cX8_decides 224 = .ok (.iconst 0, 1) := by decide +kernel
theorem dX8_decides_225 : decode cX8_decides 225 = .ok (.ireturn, 1) := by decide +kernel
set_option maxRecDepth 20000 in
theorem ggX8_jumps_X8_get : GoodIn wsX8_jumps wsX8_get := goodIn_r _ [9, 10, 41, 42, 43, 44, 45, 46, 47, 48, 49, 50] rfl (by decide +kernel)
set_option maxRecDepth 20000 in
theorem gX8_jumps_X8_get : GoodIn wsX8_jumps (wsV RX8 58 RX8 yX8_get wsX8_get) := goodIn_app (goodIn_of _ (by decide +kernel)) ggX8_jumps_X8_get
set_option maxRecDepth 20000 in
theorem ggX8_jumps_X8_some : GoodIn wsX8_jumps wsX8_some := goodIn_r _ [14, 1, 41, 42, 43, 44, 45, 46, 47, 48, 49, 50] rfl (by decide +kernel)
set_option maxRecDepth 20000 in
theorem gX8_jumps_X8_some : GoodIn wsX8_jumps (wsV RX8 118 RX8 yX8_some wsX8_some) := goodIn_app (goodIn_of _ (by decide +kernel)) ggX8_jumps_X8_some
set_option maxRecDepth 20000 in
theorem ggX8_jumps_X8_starts : GoodIn wsX8_jumps wsX8_starts := goodIn_r _ [18, 19, 20, 21, 22, 8, 23, 10, 5, 6, 7, 9, 24, 25, 26, 27, 1, 28, 29, 30, 31, 32, 33, 34, 35, 2, 4, 3, 36, 37, 38, 39, 40, 41, 42, 43, 44, 45, 46, 47, 48, 49, 50] rfl (by decide +kernel)
set_option maxRecDepth 20000 in
theorem gX8_jumps_X8_starts : GoodIn wsX8_jumps (wsV RX8 115 RX8 yX8_starts wsX8_starts) := goodIn_app (goodIn_of _ (by decide +kernel)) ggX8_jumps_X8_starts
theorem dX8_jumps_0 : decode cX8_jumps 0 = .ok (.bipush 9, 2) := by decide +kernel
theorem dX8_jumps_2 : decode cX8_jumps 2 = .ok (.istore_n 2, 1) := by decide +kernel
theorem dX8_jumps_3 : decode cX8_jumps 3 = .ok (.iload_n 2, 1) := by decide +kernel
theorem dX8_jumps_4 : decode cX8_jumps 4 = .ok (.aload_n 0, 1) := by decide +kernel
theorem dX8_jumps_5 : decode cX8_jumps 5 = .ok (.iload_n 1, 1) := by decide +kernel
theorem dX8_jumps_6 : decode cX8_jumps 6 = .ok (.iconst 1, 1) := by decide +kernel
theorem dX8_jumps_7 : decode cX8_jumps 7 = .ok (.invokevirtual 58, 3) := by decide +kernel
theorem dX8_jumps_10 : decode cX8_jumps 10 = .ok (.if_icmp .le 160, 3) := by decide +kernel
theorem dX8_jumps_13 : decode cX8_jumps 13 = .ok (.iconst 0, 1) := by decide +kernel
theorem dX8_jumps_14 : decode cX8_jumps 14 = .ok (.istore_n 3, 1) := by decide +kernel
theorem dX8_jumps_15 : decode cX8_jumps 15 = .ok (.iconst 0, 1) := by decide +kernel
theorem dX8_jumps_16 : decode cX8_jumps 16 = .ok (.istore 4, 2) := by decide +kernel
theorem dX8_jumps_18 : decode cX8_jumps 18 = .ok (.iload 4, 2) := by decide +kernel
theorem dX8_jumps_20 : decode cX8_jumps 20 = .ok (.aload_n 0, 1) := by decide +kernel
theorem dX8_jumps_21 : decode cX8_jumps 21 = .ok (.getfield 29, 3) := by decide +kernel
theorem dX8_jumps_24 : decode cX8_jumps 24 = .ok (.if_icmp .ge 124, 3) := by decide +kernel
theorem dX8_jumps_27 : decode cX8_jumps 27 = .ok (.iconst 0, 1) := by decide +kernel
theorem dX8_jumps_28 : decode cX8_jumps 28 = .ok (.istore 5, 2) := by decide +kernel
theorem dX8_jumps_30 : decode cX8_jumps 30 = .ok (.iconst 0, 1) := by decide +kernel
theorem dX8_jumps_31 : decode cX8_jumps 31 = .ok (.istore 6, 2) := by decide +kernel
theorem dX8_jumps_33 : decode cX8_jumps 33 = .ok (.iload 6, 2) := by decide +kernel
theorem dX8_jumps_35 : decode cX8_jumps 35 = .ok (.aload_n 0, 1) := by decide +kernel
theorem dX8_jumps_36 : decode cX8_jumps 36 = .ok (.getfield 44, 3) := by decide +kernel
theorem dX8_jumps_39 : decode cX8_jumps 39 = .ok (.if_icmp .ge 90, 3) := by decide +kernel
theorem dX8_jumps_42 : decode cX8_jumps 42 = .ok (.iload 5, 2) := by decide +kernel
theorem dX8_jumps_44 : decode cX8_jumps 44 = .ok (.ifCond .ne 72, 3) := by decide +kernel
theorem dX8_jumps_47 : decode cX8_jumps 47 = .ok (.aload_n 0, 1) := by decide +kernel
theorem dX8_jumps_48 : decode cX8_jumps 48 = .ok (.getfield 26, 3) := by decide +kernel
theorem dX8_jumps_51 : decode cX8_jumps 51 = .ok (.bipush 7, 2) := by decide +kernel
theorem dX8_jumps_53 : decode cX8_jumps 53 = .ok (.iload 6, 2) := by decide +kernel
theorem dX8_jumps_55 : decode cX8_jumps 55 = .ok (.imul, 1) := by decide +kernel
theorem dX8_jumps_56 : decode cX8_jumps 56 = .ok (.iload_n 1, 1) := by decide +kernel
theorem dX8_jumps_57 : decode cX8_jumps 57 = .ok (.iadd, 1) := by decide +kernel
theorem dX8_jumps_58 : decode cX8_jumps 58 = .ok (.baload, 1) := by decide +kernel
theorem dX8_jumps_59 : decode cX8_jumps 59 = .ok (.ifCond .eq 61, 3) := by decide +kernel
theorem dX8_jumps_62 : decode cX8_jumps 62 = .ok (.aload_n 0, 1) := by decide +kernel
theorem dX8_jumps_63 : decode cX8_jumps 63 = .ok (.getfield 23, 3) := by decide +kernel
theorem dX8_jumps_66 : decode cX8_jumps 66 = .ok (.bipush 6, 2) := by decide +kernel
theorem dX8_jumps_68 : decode cX8_jumps 68 = .ok (.iload 6, 2) := by decide +kernel
theorem dX8_jumps_70 : decode cX8_jumps 70 = .ok (.imul, 1) := by decide +kernel
theorem dX8_jumps_71 : decode cX8_jumps 71 = .ok (.iconst 0, 1) := by decide +kernel
theorem dX8_jumps_72 : decode cX8_jumps 72 = .ok (.iadd, 1) := by decide +kernel
theorem dX8_jumps_73 : decode cX8_jumps 73 = .ok (.iaload, 1) := by decide +kernel
theorem dX8_jumps_74 : decode cX8_jumps 74 = .ok (.iload 4, 2) := by decide +kernel
theorem dX8_jumps_76 : decode cX8_jumps 76 = .ok (.if_icmp .ne 44, 3) := by decide +kernel
theorem dX8_jumps_79 : decode cX8_jumps 79 = .ok (.aload_n 0, 1) := by decide +kernel
theorem dX8_jumps_80 : decode cX8_jumps 80 = .ok (.getfield 23, 3) := by decide +kernel
theorem dX8_jumps_83 : decode cX8_jumps 83 = .ok (.bipush 6, 2) := by decide +kernel
theorem dX8_jumps_85 : decode cX8_jumps 85 = .ok (.iload 6, 2) := by decide +kernel
theorem dX8_jumps_87 : decode cX8_jumps 87 = .ok (.imul, 1) := by decide +kernel
theorem dX8_jumps_88 : decode cX8_jumps 88 = .ok (.iconst 2, 1) := by decide +kernel
theorem dX8_jumps_89 : decode cX8_jumps 89 = .ok (.iadd, 1) := by decide +kernel
theorem dX8_jumps_90 : decode cX8_jumps 90 = .ok (.iaload, 1) := by decide +kernel
theorem dX8_jumps_91 : decode cX8_jumps 91 = .ok (.aload_n 0, 1) := by decide +kernel
theorem dX8_jumps_92 : decode cX8_jumps 92 = .ok (.iload_n 1, 1) := by decide +kernel
theorem dX8_jumps_93 : decode cX8_jumps 93 = .ok (.iconst 0, 1) := by decide +kernel
theorem dX8_jumps_94 : decode cX8_jumps 94 = .ok (.invokevirtual 58, 3) := by decide +kernel
theorem dX8_jumps_97 : decode cX8_jumps 97 = .ok (.if_icmp .ne 23, 3) := by decide +kernel
theorem dX8_jumps_100 : decode cX8_jumps 100 = .ok (.aload_n 0, 1) := by decide +kernel
theorem dX8_jumps_101 : decode cX8_jumps 101 = .ok (.getfield 23, 3) := by decide +kernel
theorem dX8_jumps_104 : decode cX8_jumps 104 = .ok (.bipush 6, 2) := by decide +kernel
theorem dX8_jumps_106 : decode cX8_jumps 106 = .ok (.iload 6, 2) := by decide +kernel
theorem dX8_jumps_108 : decode cX8_jumps 108 = .ok (.imul, 1) := by decide +kernel
theorem dX8_jumps_109 : decode cX8_jumps 109 = .ok (.iconst 3, 1) := by decide +kernel
theorem dX8_jumps_110 : decode cX8_jumps 110 = .ok (.iadd, 1) := by decide +kernel
theorem dX8_jumps_111 : decode cX8_jumps 111 = .ok (.iaload, 1) := by decide +kernel
theorem dX8_jumps_112 : decode cX8_jumps 112 = .ok (.iload_n 2, 1) := by decide +kernel
theorem dX8_jumps_113 : decode cX8_jumps 113 = .ok (.if_icmp .ne 7, 3) := by decide +kernel
theorem dX8_jumps_116 : decode cX8_jumps 116 = .ok (.iconst 1, 1) := by decide +kernel
theorem dX8_jumps_117 : decode cX8_jumps 117 = .ok (.goto 4, 3) := by decide +kernel
theorem dX8_jumps_120 : decode cX8_jumps 120 = .ok (.iconst 0, 1) := by decide +kernel
theorem dX8_jumps_121 : decode cX8_jumps 121 = .ok (.istore 5, 2) := by decide +kernel
theorem dX8_jumps_123 : decode cX8_jumps 123 = .ok (.iinc 6 1, 3) := by decide +kernel
theorem dX8_jumps_126 : decode cX8_jumps 126 = .ok (.goto (-93), 3) := by decide +kernel
theorem dX8_jumps_129 : decode cX8_jumps 129 = .ok (.iload_n 3, 1) := by decide +kernel
theorem dX8_jumps_130 : decode cX8_jumps 130 = .ok (.iload 5, 2) := by decide +kernel
theorem dX8_jumps_132 : decode cX8_jumps 132 = .ok (.ifCond .eq 7, 3) := by decide +kernel
theorem dX8_jumps_135 : decode cX8_jumps 135 = .ok (.iconst 1, 1) := by decide +kernel
theorem dX8_jumps_136 : decode cX8_jumps 136 = .ok (.goto 4, 3) := by decide +kernel
theorem dX8_jumps_139 : decode cX8_jumps 139 = .ok (.iconst 0, 1) := by decide +kernel
theorem dX8_jumps_140 : decode cX8_jumps 140 = .ok (.iadd, 1) := by decide +kernel
theorem dX8_jumps_141 : decode cX8_jumps 141 = .ok (.istore_n 3, 1) := by decide +kernel
theorem dX8_jumps_142 : decode cX8_jumps 142 = .ok (.iinc 4 1, 3) := by decide +kernel
theorem dX8_jumps_145 : decode cX8_jumps 145 = .ok (.goto (-127), 3) := by decide +kernel
theorem dX8_jumps_148 : decode cX8_jumps 148 = .ok (.iload_n 3, 1) := by decide +kernel
theorem dX8_jumps_149 : decode cX8_jumps 149 = .ok (.aload_n 0, 1) := by decide +kernel
theorem dX8_jumps_150 : decode cX8_jumps 150 = .ok (.invokevirtual 118, 3) := by decide +kernel
theorem dX8_jumps_153 : decode cX8_jumps 153 = .ok (.if_icmp .lt 11, 3) := by decide +kernel
theorem dX8_jumps_156 : decode cX8_jumps 156 = .ok (.aload_n 0, 1) := by decide +kernel
theorem dX8_jumps_157 : decode cX8_jumps 157 = .ok (.iload_n 1, 1) := by decide +kernel
theorem dX8_jumps_158 : decode cX8_jumps 158 = .ok (.iload_n 2, 1) := by decide +kernel
theorem dX8_jumps_159 : decode cX8_jumps 159 = .ok (.invokevirtual 115, 3) := by decide +kernel
theorem dX8_jumps_162 : decode cX8_jumps 162 = .ok (.iconst 1, 1) := by decide +kernel
theorem dX8_jumps_163 : decode cX8_jumps 163 = .ok (.ireturn, 1) := by decide +kernel
theorem dX8_jumps_164 : decode cX8_jumps 164 = .ok (.iinc 2 (-1), 3) := by decide +kernel
theorem dX8_jumps_167 : decode cX8_jumps 167 = .ok (.goto (-164), 3) := by decide +kernel
theorem dX8_jumps_170 : decode cX8_jumps 170 = .ok (.iconst 0, 1) := by decide +kernel
theorem dX8_jumps_171 : decode cX8_jumps 171 = .ok (.ireturn, 1) := by decide +kernel
set_option maxRecDepth 20000 in
theorem ggX8_prevotes_X8_get : GoodIn wsX8_prevotes wsX8_get := goodIn_r _ [7, 8, 47, 48, 49, 50, 51, 52, 53, 54, 55, 56] rfl (by decide +kernel)
set_option maxRecDepth 20000 in
theorem gX8_prevotes_X8_get : GoodIn wsX8_prevotes (wsV RX8 58 RX8 yX8_get wsX8_get) := goodIn_app (goodIn_of _ (by decide +kernel)) ggX8_prevotes_X8_get
set_option maxRecDepth 20000 in
theorem ggX8_prevotes_X8_proposes : GoodIn wsX8_prevotes wsX8_proposes := goodIn_r _ [12, 13, 2, 3, 4, 5, 6, 7, 8, 14, 15, 16, 17, 18, 47, 48, 49, 50, 51, 52, 53, 54, 55, 56] rfl (by decide +kernel)
set_option maxRecDepth 20000 in
theorem gX8_prevotes_X8_proposes : GoodIn wsX8_prevotes (wsV RX8 105 RX8 yX8_proposes wsX8_proposes) := goodIn_app (goodIn_of _ (by decide +kernel)) ggX8_prevotes_X8_proposes
set_option maxRecDepth 20000 in
theorem ggX8_prevotes_X8_isRight : GoodIn wsX8_prevotes wsX8_isRight := goodIn_r _ [22, 23, 47, 48, 49, 50, 51, 52, 53, 54, 55, 56] rfl (by decide +kernel)
set_option maxRecDepth 20000 in
theorem gX8_prevotes_X8_isRight : GoodIn wsX8_prevotes (wsV RX8 77 RX8 yX8_isRight wsX8_isRight) := goodIn_app (goodIn_of _ (by decide +kernel)) ggX8_prevotes_X8_isRight
set_option maxRecDepth 20000 in
theorem ggX8_prevotes_X8_casts : GoodIn wsX8_prevotes wsX8_casts := goodIn_r _ [27, 3, 4, 5, 6, 7, 8, 28, 29, 30, 31, 1, 2, 13, 32, 33, 34, 35, 47, 48, 49, 50, 51, 52, 53, 54, 55, 56] rfl (by decide +kernel)
set_option maxRecDepth 20000 in
theorem gX8_prevotes_X8_casts : GoodIn wsX8_prevotes (wsV RX8 121 RX8 yX8_casts wsX8_casts) := goodIn_app (goodIn_of _ (by decide +kernel)) ggX8_prevotes_X8_casts
set_option maxRecDepth 20000 in
theorem ggX8_prevotes_X8_in : GoodIn wsX8_prevotes wsX8_in := goodIn_r _ [38] rfl (by decide +kernel)
set_option maxRecDepth 20000 in
theorem gX8_prevotes_X8_in : GoodIn wsX8_prevotes (va_wsS RX8 36 yX8_in wsX8_in) := goodIn_app (goodIn_of _ (by decide +kernel)) ggX8_prevotes_X8_in
set_option maxRecDepth 20000 in
theorem ggX8_prevotes_X8_voted : GoodIn wsX8_prevotes wsX8_voted := goodIn_r _ [42, 18, 1, 13, 2, 47, 48, 49, 50, 51, 52, 53, 54, 55, 56] rfl (by decide +kernel)
set_option maxRecDepth 20000 in
theorem gX8_prevotes_X8_voted : GoodIn wsX8_prevotes (wsV RX8 108 RX8 yX8_voted wsX8_voted) := goodIn_app (goodIn_of _ (by decide +kernel)) ggX8_prevotes_X8_voted
set_option maxRecDepth 20000 in
theorem ggX8_prevotes_X8_many : GoodIn wsX8_prevotes wsX8_many := goodIn_r _ [46, 18, 47, 48, 49, 50, 51, 52, 53, 54, 55, 56] rfl (by decide +kernel)
set_option maxRecDepth 20000 in
theorem gX8_prevotes_X8_many : GoodIn wsX8_prevotes (wsV RX8 112 RX8 yX8_many wsX8_many) := goodIn_app (goodIn_of _ (by decide +kernel)) ggX8_prevotes_X8_many
theorem dX8_prevotes_0 : decode cX8_prevotes 0 = .ok (.aload_n 0, 1) := by decide +kernel
theorem dX8_prevotes_1 : decode cX8_prevotes 1 = .ok (.iload_n 1, 1) := by decide +kernel
theorem dX8_prevotes_2 : decode cX8_prevotes 2 = .ok (.iconst 2, 1) := by decide +kernel
theorem dX8_prevotes_3 : decode cX8_prevotes 3 = .ok (.invokevirtual 58, 3) := by decide +kernel
theorem dX8_prevotes_6 : decode cX8_prevotes 6 = .ok (.ifCond .eq 5, 3) := by decide +kernel
theorem dX8_prevotes_9 : decode cX8_prevotes 9 = .ok (.iconst 0, 1) := by decide +kernel
theorem dX8_prevotes_10 : decode cX8_prevotes 10 = .ok (.ireturn, 1) := by decide +kernel
theorem dX8_prevotes_11 : decode cX8_prevotes 11 = .ok (.iconst 0, 1) := by decide +kernel
theorem dX8_prevotes_12 : decode cX8_prevotes 12 = .ok (.istore_n 2, 1) := by decide +kernel
theorem dX8_prevotes_13 : decode cX8_prevotes 13 = .ok (.iload_n 2, 1) := by decide +kernel
theorem dX8_prevotes_14 : decode cX8_prevotes 14 = .ok (.aload_n 0, 1) := by decide +kernel
theorem dX8_prevotes_15 : decode cX8_prevotes 15 = .ok (.getfield 44, 3) := by decide +kernel
theorem dX8_prevotes_18 : decode cX8_prevotes 18 = .ok (.if_icmp .ge 117, 3) := by decide +kernel
theorem dX8_prevotes_21 : decode cX8_prevotes 21 = .ok (.aload_n 0, 1) := by decide +kernel
theorem dX8_prevotes_22 : decode cX8_prevotes 22 = .ok (.iload_n 1, 1) := by decide +kernel
theorem dX8_prevotes_23 : decode cX8_prevotes 23 = .ok (.iload_n 2, 1) := by decide +kernel
theorem dX8_prevotes_24 : decode cX8_prevotes 24 = .ok (.invokevirtual 105, 3) := by decide +kernel
theorem dX8_prevotes_27 : decode cX8_prevotes 27 = .ok (.ifCond .eq 102, 3) := by decide +kernel
theorem dX8_prevotes_30 : decode cX8_prevotes 30 = .ok (.aload_n 0, 1) := by decide +kernel
theorem dX8_prevotes_31 : decode cX8_prevotes 31 = .ok (.getfield 23, 3) := by decide +kernel
theorem dX8_prevotes_34 : decode cX8_prevotes 34 = .ok (.bipush 6, 2) := by decide +kernel
theorem dX8_prevotes_36 : decode cX8_prevotes 36 = .ok (.iload_n 2, 1) := by decide +kernel
theorem dX8_prevotes_37 : decode cX8_prevotes 37 = .ok (.imul, 1) := by decide +kernel
theorem dX8_prevotes_38 : decode cX8_prevotes 38 = .ok (.iconst 3, 1) := by decide +kernel
theorem dX8_prevotes_39 : decode cX8_prevotes 39 = .ok (.iadd, 1) := by decide +kernel
theorem dX8_prevotes_40 : decode cX8_prevotes 40 = .ok (.iaload, 1) := by decide +kernel
theorem dX8_prevotes_41 : decode cX8_prevotes 41 = .ok (.aload_n 0, 1) := by decide +kernel
theorem dX8_prevotes_42 : decode cX8_prevotes 42 = .ok (.iload_n 1, 1) := by decide +kernel
theorem dX8_prevotes_43 : decode cX8_prevotes 43 = .ok (.iconst 1, 1) := by decide +kernel
theorem dX8_prevotes_44 : decode cX8_prevotes 44 = .ok (.invokevirtual 58, 3) := by decide +kernel
theorem dX8_prevotes_47 : decode cX8_prevotes 47 = .ok (.if_icmp .ne 82, 3) := by decide +kernel
theorem dX8_prevotes_50 : decode cX8_prevotes 50 = .ok (.aload_n 0, 1) := by decide +kernel
theorem dX8_prevotes_51 : decode cX8_prevotes 51 = .ok (.getfield 23, 3) := by decide +kernel
theorem dX8_prevotes_54 : decode cX8_prevotes 54 = .ok (.bipush 6, 2) := by decide +kernel
theorem dX8_prevotes_56 : decode cX8_prevotes 56 = .ok (.iload_n 2, 1) := by decide +kernel
theorem dX8_prevotes_57 : decode cX8_prevotes 57 = .ok (.imul, 1) := by decide +kernel
theorem dX8_prevotes_58 : decode cX8_prevotes 58 = .ok (.iconst 5, 1) := by decide +kernel
theorem dX8_prevotes_59 : decode cX8_prevotes 59 = .ok (.iadd, 1) := by decide +kernel
theorem dX8_prevotes_60 : decode cX8_prevotes 60 = .ok (.iaload, 1) := by decide +kernel
theorem dX8_prevotes_61 : decode cX8_prevotes 61 = .ok (.ifCond .ge 68, 3) := by decide +kernel
theorem dX8_prevotes_64 : decode cX8_prevotes 64 = .ok (.aload_n 0, 1) := by decide +kernel
theorem dX8_prevotes_65 : decode cX8_prevotes 65 = .ok (.getfield 23, 3) := by decide +kernel
theorem dX8_prevotes_68 : decode cX8_prevotes 68 = .ok (.bipush 6, 2) := by decide +kernel
theorem dX8_prevotes_70 : decode cX8_prevotes 70 = .ok (.iload_n 2, 1) := by decide +kernel
theorem dX8_prevotes_71 : decode cX8_prevotes 71 = .ok (.imul, 1) := by decide +kernel
theorem dX8_prevotes_72 : decode cX8_prevotes 72 = .ok (.iconst 4, 1) := by decide +kernel
theorem dX8_prevotes_73 : decode cX8_prevotes 73 = .ok (.iadd, 1) := by decide +kernel
theorem dX8_prevotes_74 : decode cX8_prevotes 74 = .ok (.iaload, 1) := by decide +kernel
theorem dX8_prevotes_75 : decode cX8_prevotes 75 = .ok (.istore_n 3, 1) := by decide +kernel
theorem dX8_prevotes_76 : decode cX8_prevotes 76 = .ok (.aload_n 0, 1) := by decide +kernel
theorem dX8_prevotes_77 : decode cX8_prevotes 77 = .ok (.iload_n 1, 1) := by decide +kernel
theorem dX8_prevotes_78 : decode cX8_prevotes 78 = .ok (.iload_n 3, 1) := by decide +kernel
theorem dX8_prevotes_79 : decode cX8_prevotes 79 = .ok (.invokevirtual 77, 3) := by decide +kernel
theorem dX8_prevotes_82 : decode cX8_prevotes 82 = .ok (.ifCond .eq 26, 3) := by decide +kernel
theorem dX8_prevotes_85 : decode cX8_prevotes 85 = .ok (.aload_n 0, 1) := by decide +kernel
theorem dX8_prevotes_86 : decode cX8_prevotes 86 = .ok (.iload_n 1, 1) := by decide +kernel
theorem dX8_prevotes_87 : decode cX8_prevotes 87 = .ok (.iconst 3, 1) := by decide +kernel
theorem dX8_prevotes_88 : decode cX8_prevotes 88 = .ok (.invokevirtual 58, 3) := by decide +kernel
theorem dX8_prevotes_91 : decode cX8_prevotes 91 = .ok (.ifCond .lt 13, 3) := by decide +kernel
theorem dX8_prevotes_94 : decode cX8_prevotes 94 = .ok (.aload_n 0, 1) := by decide +kernel
theorem dX8_prevotes_95 : decode cX8_prevotes 95 = .ok (.iload_n 1, 1) := by decide +kernel
theorem dX8_prevotes_96 : decode cX8_prevotes 96 = .ok (.iconst 3, 1) := by decide +kernel
theorem dX8_prevotes_97 : decode cX8_prevotes 97 = .ok (.invokevirtual 58, 3) := by decide +kernel
theorem dX8_prevotes_100 : decode cX8_prevotes 100 = .ok (.iload_n 3, 1) := by decide +kernel
theorem dX8_prevotes_101 : decode cX8_prevotes 101 = .ok (.if_icmp .ne 7, 3) := by decide +kernel
theorem dX8_prevotes_104 : decode cX8_prevotes 104 = .ok (.iconst 1, 1) := by decide +kernel
theorem dX8_prevotes_105 : decode cX8_prevotes 105 = .ok (.goto 4, 3) := by decide +kernel
theorem dX8_prevotes_108 : decode cX8_prevotes 108 = .ok (.iconst 0, 1) := by decide +kernel
theorem dX8_prevotes_109 : decode cX8_prevotes 109 = .ok (.istore 4, 2) := by decide +kernel
theorem dX8_prevotes_111 : decode cX8_prevotes 111 = .ok (.aload_n 0, 1) := by decide +kernel
theorem dX8_prevotes_112 : decode cX8_prevotes 112 = .ok (.iload_n 1, 1) := by decide +kernel
theorem dX8_prevotes_113 : decode cX8_prevotes 113 = .ok (.iconst 1, 1) := by decide +kernel
theorem dX8_prevotes_114 : decode cX8_prevotes 114 = .ok (.iload 4, 2) := by decide +kernel
theorem dX8_prevotes_116 : decode cX8_prevotes 116 = .ok (.ifCond .eq 7, 3) := by decide +kernel
theorem dX8_prevotes_119 : decode cX8_prevotes 119 = .ok (.iload_n 3, 1) := by decide +kernel
theorem dX8_prevotes_120 : decode cX8_prevotes 120 = .ok (.goto 4, 3) := by decide +kernel
theorem dX8_prevotes_123 : decode cX8_prevotes 123 = .ok (.iconst (-1), 1) := by decide +kernel
theorem dX8_prevotes_124 : decode cX8_prevotes 124 = .ok (.invokevirtual 121, 3) := by decide +kernel
theorem dX8_prevotes_127 : decode cX8_prevotes 127 = .ok (.iconst 1, 1) := by decide +kernel
theorem dX8_prevotes_128 : decode cX8_prevotes 128 = .ok (.ireturn, 1) := by decide +kernel
theorem dX8_prevotes_129 : decode cX8_prevotes 129 = .ok (.iinc 2 1, 3) := by decide +kernel
theorem dX8_prevotes_132 : decode cX8_prevotes 132 = .ok (.goto (-119), 3) := by decide +kernel
theorem dX8_prevotes_135 : decode cX8_prevotes 135 = .ok (.iconst 0, 1) := by decide +kernel
theorem dX8_prevotes_136 : decode cX8_prevotes 136 = .ok (.istore_n 2, 1) := by decide +kernel
theorem dX8_prevotes_137 : decode cX8_prevotes 137 = .ok (.iload_n 2, 1) := by decide +kernel
theorem dX8_prevotes_138 : decode cX8_prevotes 138 = .ok (.aload_n 0, 1) := by decide +kernel
theorem dX8_prevotes_139 : decode cX8_prevotes 139 = .ok (.getfield 44, 3) := by decide +kernel
theorem dX8_prevotes_142 : decode cX8_prevotes 142 = .ok (.if_icmp .ge 167, 3) := by decide +kernel
theorem dX8_prevotes_145 : decode cX8_prevotes 145 = .ok (.aload_n 0, 1) := by decide +kernel
theorem dX8_prevotes_146 : decode cX8_prevotes 146 = .ok (.getfield 23, 3) := by decide +kernel
theorem dX8_prevotes_149 : decode cX8_prevotes 149 = .ok (.bipush 6, 2) := by decide +kernel
theorem dX8_prevotes_151 : decode cX8_prevotes 151 = .ok (.iload_n 2, 1) := by decide +kernel
theorem dX8_prevotes_152 : decode cX8_prevotes 152 = .ok (.imul, 1) := by decide +kernel
theorem dX8_prevotes_153 : decode cX8_prevotes 153 = .ok (.iconst 5, 1) := by decide +kernel
theorem dX8_prevotes_154 : decode cX8_prevotes 154 = .ok (.iadd, 1) := by decide +kernel
theorem dX8_prevotes_155 : decode cX8_prevotes 155 = .ok (.iaload, 1) := by decide +kernel
theorem dX8_prevotes_156 : decode cX8_prevotes 156 = .ok (.istore_n 3, 1) := by decide +kernel
theorem dX8_prevotes_157 : decode cX8_prevotes 157 = .ok (.aload_n 0, 1) := by decide +kernel
theorem dX8_prevotes_158 : decode cX8_prevotes 158 = .ok (.getfield 23, 3) := by decide +kernel
theorem dX8_prevotes_161 : decode cX8_prevotes 161 = .ok (.bipush 6, 2) := by decide +kernel
theorem dX8_prevotes_163 : decode cX8_prevotes 163 = .ok (.iload_n 2, 1) := by decide +kernel
theorem dX8_prevotes_164 : decode cX8_prevotes 164 = .ok (.imul, 1) := by decide +kernel
theorem dX8_prevotes_165 : decode cX8_prevotes 165 = .ok (.iconst 4, 1) := by decide +kernel
theorem dX8_prevotes_166 : decode cX8_prevotes 166 = .ok (.iadd, 1) := by decide +kernel
theorem dX8_prevotes_167 : decode cX8_prevotes 167 = .ok (.iaload, 1) := by decide +kernel
theorem dX8_prevotes_168 : decode cX8_prevotes 168 = .ok (.istore 4, 2) := by decide +kernel
theorem dX8_prevotes_170 : decode cX8_prevotes 170 = .ok (.aload_n 0, 1) := by decide +kernel
theorem dX8_prevotes_171 : decode cX8_prevotes 171 = .ok (.iload_n 1, 1) := by decide +kernel
theorem dX8_prevotes_172 : decode cX8_prevotes 172 = .ok (.iload_n 2, 1) := by decide +kernel
theorem dX8_prevotes_173 : decode cX8_prevotes 173 = .ok (.invokevirtual 105, 3) := by decide +kernel
theorem dX8_prevotes_176 : decode cX8_prevotes 176 = .ok (.ifCond .eq 127, 3) := by decide +kernel
theorem dX8_prevotes_179 : decode cX8_prevotes 179 = .ok (.aload_n 0, 1) := by decide +kernel
theorem dX8_prevotes_180 : decode cX8_prevotes 180 = .ok (.getfield 23, 3) := by decide +kernel
theorem dX8_prevotes_183 : decode cX8_prevotes 183 = .ok (.bipush 6, 2) := by decide +kernel
theorem dX8_prevotes_185 : decode cX8_prevotes 185 = .ok (.iload_n 2, 1) := by decide +kernel
theorem dX8_prevotes_186 : decode cX8_prevotes 186 = .ok (.imul, 1) := by decide +kernel
theorem dX8_prevotes_187 : decode cX8_prevotes 187 = .ok (.iconst 3, 1) := by decide +kernel
theorem dX8_prevotes_188 : decode cX8_prevotes 188 = .ok (.iadd, 1) := by decide +kernel
theorem dX8_prevotes_189 : decode cX8_prevotes 189 = .ok (.iaload, 1) := by decide +kernel
theorem dX8_prevotes_190 : decode cX8_prevotes 190 = .ok (.aload_n 0, 1) := by decide +kernel
theorem dX8_prevotes_191 : decode cX8_prevotes 191 = .ok (.iload_n 1, 1) := by decide +kernel
theorem dX8_prevotes_192 : decode cX8_prevotes 192 = .ok (.iconst 1, 1) := by decide +kernel
theorem dX8_prevotes_193 : decode cX8_prevotes 193 = .ok (.invokevirtual 58, 3) := by decide +kernel
theorem dX8_prevotes_196 : decode cX8_prevotes 196 = .ok (.if_icmp .ne 107, 3) := by decide +kernel
theorem dX8_prevotes_199 : decode cX8_prevotes 199 = .ok (.iload_n 3, 1) := by decide +kernel
theorem dX8_prevotes_200 : decode cX8_prevotes 200 = .ok (.iconst 0, 1) := by decide +kernel
theorem dX8_prevotes_201 : decode cX8_prevotes 201 = .ok (.aload_n 0, 1) := by decide +kernel
theorem dX8_prevotes_202 : decode cX8_prevotes 202 = .ok (.iload_n 1, 1) := by decide +kernel
theorem dX8_prevotes_203 : decode cX8_prevotes 203 = .ok (.iconst 1, 1) := by decide +kernel
theorem dX8_prevotes_204 : decode cX8_prevotes 204 = .ok (.invokevirtual 58, 3) := by decide +kernel
theorem dX8_prevotes_207 : decode cX8_prevotes 207 = .ok (.iconst 1, 1) := by decide +kernel
theorem dX8_prevotes_208 : decode cX8_prevotes 208 = .ok (.isub, 1) := by decide +kernel
theorem dX8_prevotes_209 : decode cX8_prevotes 209 = .ok (.invokestatic 36, 3) := by decide +kernel
theorem dX8_prevotes_212 : decode cX8_prevotes 212 = .ok (.ifCond .eq 91, 3) := by decide +kernel
theorem dX8_prevotes_215 : decode cX8_prevotes 215 = .ok (.aload_n 0, 1) := by decide +kernel
theorem dX8_prevotes_216 : decode cX8_prevotes 216 = .ok (.iload_n 1, 1) := by decide +kernel
theorem dX8_prevotes_217 : decode cX8_prevotes 217 = .ok (.iconst 1, 1) := by decide +kernel
theorem dX8_prevotes_218 : decode cX8_prevotes 218 = .ok (.aload_n 0, 1) := by decide +kernel
theorem dX8_prevotes_219 : decode cX8_prevotes 219 = .ok (.iload_n 1, 1) := by decide +kernel
theorem dX8_prevotes_220 : decode cX8_prevotes 220 = .ok (.iconst 0, 1) := by decide +kernel
theorem dX8_prevotes_221 : decode cX8_prevotes 221 = .ok (.invokevirtual 58, 3) := by decide +kernel
theorem dX8_prevotes_224 : decode cX8_prevotes 224 = .ok (.iload_n 3, 1) := by decide +kernel
theorem dX8_prevotes_225 : decode cX8_prevotes 225 = .ok (.iload 4, 2) := by decide +kernel
theorem dX8_prevotes_227 : decode cX8_prevotes 227 = .ok (.invokevirtual 108, 3) := by decide +kernel
theorem dX8_prevotes_230 : decode cX8_prevotes 230 = .ok (.aload_n 0, 1) := by decide +kernel
theorem dX8_prevotes_231 : decode cX8_prevotes 231 = .ok (.invokevirtual 112, 3) := by decide +kernel
theorem dX8_prevotes_234 : decode cX8_prevotes 234 = .ok (.if_icmp .lt 69, 3) := by decide +kernel
theorem dX8_prevotes_237 : decode cX8_prevotes 237 = .ok (.aload_n 0, 1) := by decide +kernel
theorem dX8_prevotes_238 : decode cX8_prevotes 238 = .ok (.iload_n 1, 1) := by decide +kernel
theorem dX8_prevotes_239 : decode cX8_prevotes 239 = .ok (.iload 4, 2) := by decide +kernel
theorem dX8_prevotes_241 : decode cX8_prevotes 241 = .ok (.invokevirtual 77, 3) := by decide +kernel
theorem dX8_prevotes_244 : decode cX8_prevotes 244 = .ok (.ifCond .eq 37, 3) := by decide +kernel
theorem dX8_prevotes_247 : decode cX8_prevotes 247 = .ok (.aload_n 0, 1) := by decide +kernel
theorem dX8_prevotes_248 : decode cX8_prevotes 248 = .ok (.iload_n 1, 1) := by decide +kernel
theorem dX8_prevotes_249 : decode cX8_prevotes 249 = .ok (.iconst 3, 1) := by decide +kernel
theorem dX8_prevotes_250 : decode cX8_prevotes 250 = .ok (.invokevirtual 58, 3) := by decide +kernel
theorem dX8_prevotes_253 : decode cX8_prevotes 253 = .ok (.ifCond .lt 24, 3) := by decide +kernel
theorem dX8_prevotes_256 : decode cX8_prevotes 256 = .ok (.aload_n 0, 1) := by decide +kernel
theorem dX8_prevotes_257 : decode cX8_prevotes 257 = .ok (.iload_n 1, 1) := by decide +kernel
theorem dX8_prevotes_258 : decode cX8_prevotes 258 = .ok (.iconst 4, 1) := by decide +kernel
theorem dX8_prevotes_259 : decode cX8_prevotes 259 = .ok (.invokevirtual 58, 3) := by decide +kernel
theorem dX8_prevotes_262 : decode cX8_prevotes 262 = .ok (.iload_n 3, 1) := by decide +kernel
theorem dX8_prevotes_263 : decode cX8_prevotes 263 = .ok (.if_icmp .le 14, 3) := by decide +kernel
theorem dX8_prevotes_266 : decode cX8_prevotes 266 = .ok (.aload_n 0, 1) := by decide +kernel
theorem dX8_prevotes_267 : decode cX8_prevotes 267 = .ok (.iload_n 1, 1) := by decide +kernel
theorem dX8_prevotes_268 : decode cX8_prevotes 268 = .ok (.iconst 3, 1) := by decide +kernel
theorem dX8_prevotes_269 : decode cX8_prevotes 269 = .ok (.invokevirtual 58, 3) := by decide +kernel
theorem dX8_prevotes_272 : decode cX8_prevotes 272 = .ok (.iload 4, 2) := by decide +kernel
theorem dX8_prevotes_274 : decode cX8_prevotes 274 = .ok (.if_icmp .ne 7, 3) := by decide +kernel
theorem dX8_prevotes_277 : decode cX8_prevotes 277 = .ok (.iconst 1, 1) := by decide +kernel
theorem dX8_prevotes_278 : decode cX8_prevotes 278 = .ok (.goto 4, 3) := by decide +kernel
theorem dX8_prevotes_281 : decode cX8_prevotes 281 = .ok (.iconst 0, 1) := by decide +kernel
theorem dX8_prevotes_282 : decode cX8_prevotes 282 = .ok (.istore 5, 2) := by decide +kernel
theorem dX8_prevotes_284 : decode cX8_prevotes 284 = .ok (.aload_n 0, 1) := by decide +kernel
theorem dX8_prevotes_285 : decode cX8_prevotes 285 = .ok (.iload_n 1, 1) := by decide +kernel
theorem dX8_prevotes_286 : decode cX8_prevotes 286 = .ok (.iconst 1, 1) := by decide +kernel
theorem dX8_prevotes_287 : decode cX8_prevotes 287 = .ok (.iload 5, 2) := by decide +kernel
theorem dX8_prevotes_289 : decode cX8_prevotes 289 = .ok (.ifCond .eq 8, 3) := by decide +kernel
theorem dX8_prevotes_292 : decode cX8_prevotes 292 = .ok (.iload 4, 2) := by decide +kernel
theorem dX8_prevotes_294 : decode cX8_prevotes 294 = .ok (.goto 4, 3) := by decide +kernel
theorem dX8_prevotes_297 : decode cX8_prevotes 297 = .ok (.iconst (-1), 1) := by decide +kernel
theorem dX8_prevotes_298 : decode cX8_prevotes 298 = .ok (.invokevirtual 121, 3) := by decide +kernel
theorem dX8_prevotes_301 : decode cX8_prevotes 301 = .ok (.iconst 1, 1) := by decide +kernel
theorem dX8_prevotes_302 : decode cX8_prevotes 302 = .ok (.ireturn, 1) := by decide +kernel
theorem dX8_prevotes_303 : decode cX8_prevotes 303 = .ok (.iinc 2 1, 3) := by decide +kernel
theorem dX8_prevotes_306 : decode cX8_prevotes 306 = .ok (.goto (-169), 3) := by decide +kernel
theorem dX8_prevotes_309 : decode cX8_prevotes 309 = .ok (.iconst 0, 1) := by decide +kernel
theorem dX8_prevotes_310 : decode cX8_prevotes 310 = .ok (.ireturn, 1) := by decide +kernel
set_option maxRecDepth 20000 in
theorem ggX8_locks_X8_get : GoodIn wsX8_locks wsX8_get := goodIn_r _ [7, 8, 44, 45, 46, 47, 48, 49, 50, 51, 52, 53] rfl (by decide +kernel)
set_option maxRecDepth 20000 in
theorem gX8_locks_X8_get : GoodIn wsX8_locks (wsV RX8 58 RX8 yX8_get wsX8_get) := goodIn_app (goodIn_of _ (by decide +kernel)) ggX8_locks_X8_get
set_option maxRecDepth 20000 in
theorem ggX8_locks_X8_proposes : GoodIn wsX8_locks wsX8_proposes := goodIn_r _ [12, 13, 2, 3, 4, 5, 6, 7, 8, 14, 15, 16, 17, 18, 44, 45, 46, 47, 48, 49, 50, 51, 52, 53] rfl (by decide +kernel)
set_option maxRecDepth 20000 in
theorem gX8_locks_X8_proposes : GoodIn wsX8_locks (wsV RX8 105 RX8 yX8_proposes wsX8_proposes) := goodIn_app (goodIn_of _ (by decide +kernel)) ggX8_locks_X8_proposes
set_option maxRecDepth 20000 in
theorem ggX8_locks_X8_isRight : GoodIn wsX8_locks wsX8_isRight := goodIn_r _ [22, 23, 44, 45, 46, 47, 48, 49, 50, 51, 52, 53] rfl (by decide +kernel)
set_option maxRecDepth 20000 in
theorem gX8_locks_X8_isRight : GoodIn wsX8_locks (wsV RX8 77 RX8 yX8_isRight wsX8_isRight) := goodIn_app (goodIn_of _ (by decide +kernel)) ggX8_locks_X8_isRight
set_option maxRecDepth 20000 in
theorem ggX8_locks_X8_voted : GoodIn wsX8_locks wsX8_voted := goodIn_r _ [27, 18, 1, 13, 2, 44, 45, 46, 47, 48, 49, 50, 51, 52, 53] rfl (by decide +kernel)
set_option maxRecDepth 20000 in
theorem gX8_locks_X8_voted : GoodIn wsX8_locks (wsV RX8 108 RX8 yX8_voted wsX8_voted) := goodIn_app (goodIn_of _ (by decide +kernel)) ggX8_locks_X8_voted
set_option maxRecDepth 20000 in
theorem ggX8_locks_X8_many : GoodIn wsX8_locks wsX8_many := goodIn_r _ [31, 18, 44, 45, 46, 47, 48, 49, 50, 51, 52, 53] rfl (by decide +kernel)
set_option maxRecDepth 20000 in
theorem gX8_locks_X8_many : GoodIn wsX8_locks (wsV RX8 112 RX8 yX8_many wsX8_many) := goodIn_app (goodIn_of _ (by decide +kernel)) ggX8_locks_X8_many
set_option maxRecDepth 20000 in
theorem ggX8_locks_X8_set : GoodIn wsX8_locks wsX8_set := goodIn_r _ [35, 8, 44, 45, 46, 47, 48, 49, 50, 51, 52, 53] rfl (by decide +kernel)
set_option maxRecDepth 20000 in
theorem gX8_locks_X8_set : GoodIn wsX8_locks (wsV RX8 65 RX8 yX8_set wsX8_set) := goodIn_app (goodIn_of _ (by decide +kernel)) ggX8_locks_X8_set
set_option maxRecDepth 20000 in
theorem ggX8_locks_X8_casts : GoodIn wsX8_locks wsX8_casts := goodIn_r _ [39, 3, 4, 5, 6, 7, 8, 40, 41, 42, 43, 1, 2, 13, 32, 33, 34, 35, 44, 45, 46, 47, 48, 49, 50, 51, 52, 53] rfl (by decide +kernel)
set_option maxRecDepth 20000 in
theorem gX8_locks_X8_casts : GoodIn wsX8_locks (wsV RX8 121 RX8 yX8_casts wsX8_casts) := goodIn_app (goodIn_of _ (by decide +kernel)) ggX8_locks_X8_casts
theorem dX8_locks_0 : decode cX8_locks 0 = .ok (.aload_n 0, 1) := by decide +kernel
theorem dX8_locks_1 : decode cX8_locks 1 = .ok (.iload_n 1, 1) := by decide +kernel
theorem dX8_locks_2 : decode cX8_locks 2 = .ok (.iconst 2, 1) := by decide +kernel
theorem dX8_locks_3 : decode cX8_locks 3 = .ok (.invokevirtual 58, 3) := by decide +kernel
theorem dX8_locks_6 : decode cX8_locks 6 = .ok (.ifCond .eq 14, 3) := by decide +kernel
theorem dX8_locks_9 : decode cX8_locks 9 = .ok (.aload_n 0, 1) := by decide +kernel
theorem dX8_locks_10 : decode cX8_locks 10 = .ok (.iload_n 1, 1) := by decide +kernel
theorem dX8_locks_11 : decode cX8_locks 11 = .ok (.bipush 8, 2) := by decide +kernel
theorem dX8_locks_13 : decode cX8_locks 13 = .ok (.invokevirtual 58, 3) := by decide +kernel
theorem dX8_locks_16 : decode cX8_locks 16 = .ok (.iconst 1, 1) := by decide +kernel
theorem dX8_locks_17 : decode cX8_locks 17 = .ok (.if_icmp .ne 5, 3) := by decide +kernel
theorem dX8_locks_20 : decode cX8_locks 20 = .ok (.iconst 0, 1) := by decide +kernel
theorem dX8_locks_21 : decode cX8_locks 21 = .ok (.ireturn, 1) := by decide +kernel
theorem dX8_locks_22 : decode cX8_locks 22 = .ok (.iconst 0, 1) := by decide +kernel
theorem dX8_locks_23 : decode cX8_locks 23 = .ok (.istore_n 2, 1) := by decide +kernel
theorem dX8_locks_24 : decode cX8_locks 24 = .ok (.iload_n 2, 1) := by decide +kernel
theorem dX8_locks_25 : decode cX8_locks 25 = .ok (.aload_n 0, 1) := by decide +kernel
theorem dX8_locks_26 : decode cX8_locks 26 = .ok (.getfield 44, 3) := by decide +kernel
theorem dX8_locks_29 : decode cX8_locks 29 = .ok (.if_icmp .ge 151, 3) := by decide +kernel
theorem dX8_locks_32 : decode cX8_locks 32 = .ok (.aload_n 0, 1) := by decide +kernel
theorem dX8_locks_33 : decode cX8_locks 33 = .ok (.getfield 23, 3) := by decide +kernel
theorem dX8_locks_36 : decode cX8_locks 36 = .ok (.bipush 6, 2) := by decide +kernel
theorem dX8_locks_38 : decode cX8_locks 38 = .ok (.iload_n 2, 1) := by decide +kernel
theorem dX8_locks_39 : decode cX8_locks 39 = .ok (.imul, 1) := by decide +kernel
theorem dX8_locks_40 : decode cX8_locks 40 = .ok (.iconst 4, 1) := by decide +kernel
theorem dX8_locks_41 : decode cX8_locks 41 = .ok (.iadd, 1) := by decide +kernel
theorem dX8_locks_42 : decode cX8_locks 42 = .ok (.iaload, 1) := by decide +kernel
theorem dX8_locks_43 : decode cX8_locks 43 = .ok (.istore_n 3, 1) := by decide +kernel
theorem dX8_locks_44 : decode cX8_locks 44 = .ok (.aload_n 0, 1) := by decide +kernel
theorem dX8_locks_45 : decode cX8_locks 45 = .ok (.iload_n 1, 1) := by decide +kernel
theorem dX8_locks_46 : decode cX8_locks 46 = .ok (.iload_n 2, 1) := by decide +kernel
theorem dX8_locks_47 : decode cX8_locks 47 = .ok (.invokevirtual 105, 3) := by decide +kernel
theorem dX8_locks_50 : decode cX8_locks 50 = .ok (.ifCond .eq 124, 3) := by decide +kernel
theorem dX8_locks_53 : decode cX8_locks 53 = .ok (.aload_n 0, 1) := by decide +kernel
theorem dX8_locks_54 : decode cX8_locks 54 = .ok (.getfield 23, 3) := by decide +kernel
theorem dX8_locks_57 : decode cX8_locks 57 = .ok (.bipush 6, 2) := by decide +kernel
theorem dX8_locks_59 : decode cX8_locks 59 = .ok (.iload_n 2, 1) := by decide +kernel
theorem dX8_locks_60 : decode cX8_locks 60 = .ok (.imul, 1) := by decide +kernel
theorem dX8_locks_61 : decode cX8_locks 61 = .ok (.iconst 3, 1) := by decide +kernel
theorem dX8_locks_62 : decode cX8_locks 62 = .ok (.iadd, 1) := by decide +kernel
theorem dX8_locks_63 : decode cX8_locks 63 = .ok (.iaload, 1) := by decide +kernel
theorem dX8_locks_64 : decode cX8_locks 64 = .ok (.aload_n 0, 1) := by decide +kernel
theorem dX8_locks_65 : decode cX8_locks 65 = .ok (.iload_n 1, 1) := by decide +kernel
theorem dX8_locks_66 : decode cX8_locks 66 = .ok (.iconst 1, 1) := by decide +kernel
theorem dX8_locks_67 : decode cX8_locks 67 = .ok (.invokevirtual 58, 3) := by decide +kernel
theorem dX8_locks_70 : decode cX8_locks 70 = .ok (.if_icmp .ne 104, 3) := by decide +kernel
theorem dX8_locks_73 : decode cX8_locks 73 = .ok (.aload_n 0, 1) := by decide +kernel
theorem dX8_locks_74 : decode cX8_locks 74 = .ok (.iload_n 1, 1) := by decide +kernel
theorem dX8_locks_75 : decode cX8_locks 75 = .ok (.iload_n 3, 1) := by decide +kernel
theorem dX8_locks_76 : decode cX8_locks 76 = .ok (.invokevirtual 77, 3) := by decide +kernel
theorem dX8_locks_79 : decode cX8_locks 79 = .ok (.ifCond .eq 95, 3) := by decide +kernel
theorem dX8_locks_82 : decode cX8_locks 82 = .ok (.aload_n 0, 1) := by decide +kernel
theorem dX8_locks_83 : decode cX8_locks 83 = .ok (.iload_n 1, 1) := by decide +kernel
theorem dX8_locks_84 : decode cX8_locks 84 = .ok (.iconst 1, 1) := by decide +kernel
theorem dX8_locks_85 : decode cX8_locks 85 = .ok (.aload_n 0, 1) := by decide +kernel
theorem dX8_locks_86 : decode cX8_locks 86 = .ok (.iload_n 1, 1) := by decide +kernel
theorem dX8_locks_87 : decode cX8_locks 87 = .ok (.iconst 0, 1) := by decide +kernel
theorem dX8_locks_88 : decode cX8_locks 88 = .ok (.invokevirtual 58, 3) := by decide +kernel
theorem dX8_locks_91 : decode cX8_locks 91 = .ok (.aload_n 0, 1) := by decide +kernel
theorem dX8_locks_92 : decode cX8_locks 92 = .ok (.iload_n 1, 1) := by decide +kernel
theorem dX8_locks_93 : decode cX8_locks 93 = .ok (.iconst 1, 1) := by decide +kernel
theorem dX8_locks_94 : decode cX8_locks 94 = .ok (.invokevirtual 58, 3) := by decide +kernel
theorem dX8_locks_97 : decode cX8_locks 97 = .ok (.iload_n 3, 1) := by decide +kernel
theorem dX8_locks_98 : decode cX8_locks 98 = .ok (.invokevirtual 108, 3) := by decide +kernel
theorem dX8_locks_101 : decode cX8_locks 101 = .ok (.aload_n 0, 1) := by decide +kernel
theorem dX8_locks_102 : decode cX8_locks 102 = .ok (.invokevirtual 112, 3) := by decide +kernel
theorem dX8_locks_105 : decode cX8_locks 105 = .ok (.if_icmp .lt 69, 3) := by decide +kernel
theorem dX8_locks_108 : decode cX8_locks 108 = .ok (.aload_n 0, 1) := by decide +kernel
theorem dX8_locks_109 : decode cX8_locks 109 = .ok (.iload_n 1, 1) := by decide +kernel
theorem dX8_locks_110 : decode cX8_locks 110 = .ok (.bipush 8, 2) := by decide +kernel
theorem dX8_locks_112 : decode cX8_locks 112 = .ok (.iconst 1, 1) := by decide +kernel
theorem dX8_locks_113 : decode cX8_locks 113 = .ok (.invokevirtual 65, 3) := by decide +kernel
theorem dX8_locks_116 : decode cX8_locks 116 = .ok (.aload_n 0, 1) := by decide +kernel
theorem dX8_locks_117 : decode cX8_locks 117 = .ok (.iload_n 1, 1) := by decide +kernel
theorem dX8_locks_118 : decode cX8_locks 118 = .ok (.iconst 2, 1) := by decide +kernel
theorem dX8_locks_119 : decode cX8_locks 119 = .ok (.invokevirtual 58, 3) := by decide +kernel
theorem dX8_locks_122 : decode cX8_locks 122 = .ok (.iconst 1, 1) := by decide +kernel
theorem dX8_locks_123 : decode cX8_locks 123 = .ok (.if_icmp .ne 29, 3) := by decide +kernel
theorem dX8_locks_126 : decode cX8_locks 126 = .ok (.aload_n 0, 1) := by decide +kernel
theorem dX8_locks_127 : decode cX8_locks 127 = .ok (.iload_n 1, 1) := by decide +kernel
theorem dX8_locks_128 : decode cX8_locks 128 = .ok (.iconst 3, 1) := by decide +kernel
theorem dX8_locks_129 : decode cX8_locks 129 = .ok (.iload_n 3, 1) := by decide +kernel
theorem dX8_locks_130 : decode cX8_locks 130 = .ok (.invokevirtual 65, 3) := by decide +kernel
theorem dX8_locks_133 : decode cX8_locks 133 = .ok (.aload_n 0, 1) := by decide +kernel
theorem dX8_locks_134 : decode cX8_locks 134 = .ok (.iload_n 1, 1) := by decide +kernel
theorem dX8_locks_135 : decode cX8_locks 135 = .ok (.iconst 4, 1) := by decide +kernel
theorem dX8_locks_136 : decode cX8_locks 136 = .ok (.aload_n 0, 1) := by decide +kernel
theorem dX8_locks_137 : decode cX8_locks 137 = .ok (.iload_n 1, 1) := by decide +kernel
theorem dX8_locks_138 : decode cX8_locks 138 = .ok (.iconst 1, 1) := by decide +kernel
theorem dX8_locks_139 : decode cX8_locks 139 = .ok (.invokevirtual 58, 3) := by decide +kernel
theorem dX8_locks_142 : decode cX8_locks 142 = .ok (.invokevirtual 65, 3) := by decide +kernel
theorem dX8_locks_145 : decode cX8_locks 145 = .ok (.aload_n 0, 1) := by decide +kernel
theorem dX8_locks_146 : decode cX8_locks 146 = .ok (.iload_n 1, 1) := by decide +kernel
theorem dX8_locks_147 : decode cX8_locks 147 = .ok (.iconst 2, 1) := by decide +kernel
theorem dX8_locks_148 : decode cX8_locks 148 = .ok (.iload_n 3, 1) := by decide +kernel
theorem dX8_locks_149 : decode cX8_locks 149 = .ok (.invokevirtual 121, 3) := by decide +kernel
theorem dX8_locks_152 : decode cX8_locks 152 = .ok (.aload_n 0, 1) := by decide +kernel
theorem dX8_locks_153 : decode cX8_locks 153 = .ok (.iload_n 1, 1) := by decide +kernel
theorem dX8_locks_154 : decode cX8_locks 154 = .ok (.iconst 5, 1) := by decide +kernel
theorem dX8_locks_155 : decode cX8_locks 155 = .ok (.iload_n 3, 1) := by decide +kernel
theorem dX8_locks_156 : decode cX8_locks 156 = .ok (.invokevirtual 65, 3) := by decide +kernel
theorem dX8_locks_159 : decode cX8_locks 159 = .ok (.aload_n 0, 1) := by decide +kernel
theorem dX8_locks_160 : decode cX8_locks 160 = .ok (.iload_n 1, 1) := by decide +kernel
theorem dX8_locks_161 : decode cX8_locks 161 = .ok (.bipush 6, 2) := by decide +kernel
theorem dX8_locks_163 : decode cX8_locks 163 = .ok (.aload_n 0, 1) := by decide +kernel
theorem dX8_locks_164 : decode cX8_locks 164 = .ok (.iload_n 1, 1) := by decide +kernel
theorem dX8_locks_165 : decode cX8_locks 165 = .ok (.iconst 1, 1) := by decide +kernel
theorem dX8_locks_166 : decode cX8_locks 166 = .ok (.invokevirtual 58, 3) := by decide +kernel
theorem dX8_locks_169 : decode cX8_locks 169 = .ok (.invokevirtual 65, 3) := by decide +kernel
theorem dX8_locks_172 : decode cX8_locks 172 = .ok (.iconst 1, 1) := by decide +kernel
theorem dX8_locks_173 : decode cX8_locks 173 = .ok (.ireturn, 1) := by decide +kernel
theorem dX8_locks_174 : decode cX8_locks 174 = .ok (.iinc 2 1, 3) := by decide +kernel
theorem dX8_locks_177 : decode cX8_locks 177 = .ok (.goto (-153), 3) := by decide +kernel
theorem dX8_locks_180 : decode cX8_locks 180 = .ok (.iconst 0, 1) := by decide +kernel
theorem dX8_locks_181 : decode cX8_locks 181 = .ok (.ireturn, 1) := by decide +kernel
