theorem inJ6 : ∀ w ∈ wsJ60, w ∈ lw_tbl := by decide +kernel
theorem inJ9 : ∀ w ∈ wsJ90, w ∈ lw_tbl := by decide +kernel
theorem inJ7 : ∀ w ∈ wsJ70, w ∈ lw_tbl := by decide +kernel
theorem dX0_init_0 : decode cX0_init 0 = .ok (.aload_n 0, 1) := by decide +kernel
theorem dX0_init_1 : decode cX0_init 1 = .ok (.invokespecial 3, 3) := by decide +kernel
theorem dX0_init_4 : decode cX0_init 4 = .ok (.aload_n 0, 1) := by decide +kernel
theorem dX0_init_5 : decode cX0_init 5 = .ok (.bipush 6, 2) := by decide +kernel
theorem dX0_init_7 : decode cX0_init 7 = .ok (.newarray .int, 2) := by decide +kernel
theorem dX0_init_9 : decode cX0_init 9 = .ok (.putfield 9, 3) := by decide +kernel
theorem dX0_init_12 : decode cX0_init 12 = .ok (.aload_n 0, 1) := by decide +kernel
theorem dX0_init_13 : decode cX0_init 13 = .ok (.bipush 6, 2) := by decide +kernel
theorem dX0_init_15 : decode cX0_init 15 = .ok (.newarray .int, 2) := by decide +kernel
theorem dX0_init_17 : decode cX0_init 17 = .ok (.putfield 15, 3) := by decide +kernel
theorem dX0_init_20 : decode cX0_init 20 = .ok (.return_, 1) := by decide +kernel
set_option maxRecDepth 20000 in
theorem ggX0_clear_J7_fill_53178 : GoodIn wsX0_clear wsJ7_fill_53178 := goodIn_r _ [6] rfl (by decide +kernel)
set_option maxRecDepth 20000 in
theorem gX0_clear_J7_fill_53178 : GoodIn wsX0_clear (va_wsS RX0 18 yJ7_fill_53178 wsJ7_fill_53178) := goodIn_app (goodIn_of _ (by decide +kernel)) ggX0_clear_J7_fill_53178
theorem dX0_clear_0 : decode cX0_clear 0 = .ok (.aload_n 0, 1) := by decide +kernel
theorem dX0_clear_1 : decode cX0_clear 1 = .ok (.getfield 9, 3) := by decide +kernel
theorem dX0_clear_4 : decode cX0_clear 4 = .ok (.bipush (-4), 2) := by decide +kernel
theorem dX0_clear_6 : decode cX0_clear 6 = .ok (.invokestatic 18, 3) := by decide +kernel
theorem dX0_clear_9 : decode cX0_clear 9 = .ok (.aload_n 0, 1) := by decide +kernel
theorem dX0_clear_10 : decode cX0_clear 10 = .ok (.getfield 15, 3) := by decide +kernel
theorem dX0_clear_13 : decode cX0_clear 13 = .ok (.bipush (-4), 2) := by decide +kernel
theorem dX0_clear_15 : decode cX0_clear 15 = .ok (.invokestatic 18, 3) := by decide +kernel
theorem dX0_clear_18 : decode cX0_clear 18 = .ok (.return_, 1) := by decide +kernel
theorem dX0_add_0 : decode cX0_add 0 = .ok (.iload_n 1, 1) := by decide +kernel
theorem dX0_add_1 : decode cX0_add 1 = .ok (.ifCond .lt 35, 3) := by decide +kernel
theorem dX0_add_4 : decode cX0_add 4 = .ok (.iload_n 1, 1) := by decide +kernel
theorem dX0_add_5 : decode cX0_add 5 = .ok (.aload_n 0, 1) := by decide +kernel
theorem dX0_add_6 : decode cX0_add 6 = .ok (.getfield 9, 3) := by decide +kernel
theorem dX0_add_9 : decode cX0_add 9 = .ok (.arraylength, 1) := by decide +kernel
theorem dX0_add_10 : decode cX0_add 10 = .ok (.if_icmp .ge 26, 3) := by decide +kernel
theorem dX0_add_13 : decode cX0_add 13 = .ok (.iload_n 1, 1) := by decide +kernel
theorem dX0_add_14 : decode cX0_add 14 = .ok (.aload_n 0, 1) := by decide +kernel
theorem dX0_add_15 : decode cX0_add 15 = .ok (.getfield 15, 3) := by decide +kernel
theorem dX0_add_18 : decode cX0_add 18 = .ok (.arraylength, 1) := by decide +kernel
theorem dX0_add_19 : decode cX0_add 19 = .ok (.if_icmp .ge 17, 3) := by decide +kernel
theorem dX0_add_22 : decode cX0_add 22 = .ok (.aload_n 0, 1) := by decide +kernel
theorem dX0_add_23 : decode cX0_add 23 = .ok (.getfield 9, 3) := by decide +kernel
theorem dX0_add_26 : decode cX0_add 26 = .ok (.iload_n 1, 1) := by decide +kernel
theorem dX0_add_27 : decode cX0_add 27 = .ok (.iload_n 2, 1) := by decide +kernel
theorem dX0_add_28 : decode cX0_add 28 = .ok (.iastore, 1) := by decide +kernel
theorem dX0_add_29 : decode cX0_add 29 = .ok (.aload_n 0, 1) := by decide +kernel
theorem dX0_add_30 : decode cX0_add 30 = .ok (.getfield 15, 3) := by decide +kernel
theorem dX0_add_33 : decode cX0_add 33 = .ok (.iload_n 1, 1) := by decide +kernel
theorem dX0_add_34 : decode cX0_add 34 = .ok (.iload_n 3, 1) := by decide +kernel
theorem dX0_add_35 : decode cX0_add 35 = .ok (.iastore, 1) := by decide +kernel
theorem dX0_add_36 : decode cX0_add 36 = .ok (.return_, 1) := by decide +kernel
theorem dX0_valueAt_0 : decode cX0_valueAt 0 = .ok (.iload_n 1, 1) := by decide +kernel
theorem dX0_valueAt_1 : decode cX0_valueAt 1 = .ok (.ifCond .lt 21, 3) := by decide +kernel
theorem dX0_valueAt_4 : decode cX0_valueAt 4 = .ok (.iload_n 1, 1) := by decide +kernel
theorem dX0_valueAt_5 : decode cX0_valueAt 5 = .ok (.aload_n 0, 1) := by decide +kernel
theorem dX0_valueAt_6 : decode cX0_valueAt 6 = .ok (.getfield 9, 3) := by decide +kernel
theorem dX0_valueAt_9 : decode cX0_valueAt 9 = .ok (.arraylength, 1) := by decide +kernel
theorem dX0_valueAt_10 : decode cX0_valueAt 10 = .ok (.if_icmp .ge 12, 3) := by decide +kernel
theorem dX0_valueAt_13 : decode cX0_valueAt 13 = .ok (.aload_n 0, 1) := by decide +kernel
theorem dX0_valueAt_14 : decode cX0_valueAt 14 = .ok (.getfield 9, 3) := by decide +kernel
theorem dX0_valueAt_17 : decode cX0_valueAt 17 = .ok (.iload_n 1, 1) := by decide +kernel
theorem dX0_valueAt_18 : decode cX0_valueAt 18 = .ok (.iaload, 1) := by decide +kernel
theorem dX0_valueAt_19 : decode cX0_valueAt 19 = .ok (.goto 5, 3) := by decide +kernel
theorem dX0_valueAt_22 : decode cX0_valueAt 22 = .ok (.bipush (-4), 2) := by decide +kernel
theorem dX0_valueAt_24 : decode cX0_valueAt 24 = .ok (.ireturn, 1) := by decide +kernel
theorem dX0_roundAt_0 : decode cX0_roundAt 0 = .ok (.iload_n 1, 1) := by decide +kernel
theorem dX0_roundAt_1 : decode cX0_roundAt 1 = .ok (.ifCond .lt 21, 3) := by decide +kernel
theorem dX0_roundAt_4 : decode cX0_roundAt 4 = .ok (.iload_n 1, 1) := by decide +kernel
theorem dX0_roundAt_5 : decode cX0_roundAt 5 = .ok (.aload_n 0, 1) := by decide +kernel
theorem dX0_roundAt_6 : decode cX0_roundAt 6 = .ok (.getfield 15, 3) := by decide +kernel
theorem dX0_roundAt_9 : decode cX0_roundAt 9 = .ok (.arraylength, 1) := by decide +kernel
theorem dX0_roundAt_10 : decode cX0_roundAt 10 = .ok (.if_icmp .ge 12, 3) := by decide +kernel
theorem dX0_roundAt_13 : decode cX0_roundAt 13 = .ok (.aload_n 0, 1) := by decide +kernel
theorem dX0_roundAt_14 : decode cX0_roundAt 14 = .ok (.getfield 15, 3) := by decide +kernel
theorem dX0_roundAt_17 : decode cX0_roundAt 17 = .ok (.iload_n 1, 1) := by decide +kernel
theorem dX0_roundAt_18 : decode cX0_roundAt 18 = .ok (.iaload, 1) := by decide +kernel
theorem dX0_roundAt_19 : decode cX0_roundAt 19 = .ok (.goto 5, 3) := by decide +kernel
theorem dX0_roundAt_22 : decode cX0_roundAt 22 = .ok (.bipush (-4), 2) := by decide +kernel
theorem dX0_roundAt_24 : decode cX0_roundAt 24 = .ok (.ireturn, 1) := by decide +kernel
set_option maxRecDepth 20000 in
theorem ggX0_linkAt_X0_valueAt : GoodIn wsX0_linkAt wsX0_valueAt := goodIn_r _ [9, 2, 10, 11] rfl (by decide +kernel)
set_option maxRecDepth 20000 in
theorem gX0_linkAt_X0_valueAt : GoodIn wsX0_linkAt (wsV RX0 24 RX0 yX0_valueAt wsX0_valueAt) := goodIn_app (goodIn_of _ (by decide +kernel)) ggX0_linkAt_X0_valueAt
theorem dX0_linkAt_0 : decode cX0_linkAt 0 = .ok (.aload_n 0, 1) := by decide +kernel
theorem dX0_linkAt_1 : decode cX0_linkAt 1 = .ok (.iload_n 1, 1) := by decide +kernel
theorem dX0_linkAt_2 : decode cX0_linkAt 2 = .ok (.invokevirtual 24, 3) := by decide +kernel
theorem dX0_linkAt_5 : decode cX0_linkAt 5 = .ok (.bipush (-4), 2) := by decide +kernel
theorem dX0_linkAt_7 : decode cX0_linkAt 7 = .ok (.if_icmp .ne 6, 3) := by decide +kernel
theorem dX0_linkAt_10 : decode cX0_linkAt 10 = .ok (.bipush (-4), 2) := by decide +kernel
theorem dX0_linkAt_12 : decode cX0_linkAt 12 = .ok (.ireturn, 1) := by decide +kernel
theorem dX0_linkAt_13 : decode cX0_linkAt 13 = .ok (.ldc2_w 28, 3) := by decide +kernel
theorem dX0_linkAt_16 : decode cX0_linkAt 16 = .ok (.lstore_n 2, 1) := by decide +kernel
theorem dX0_linkAt_17 : decode cX0_linkAt 17 = .ok (.iconst 0, 1) := by decide +kernel
theorem dX0_linkAt_18 : decode cX0_linkAt 18 = .ok (.istore 4, 2) := by decide +kernel
theorem dX0_linkAt_20 : decode cX0_linkAt 20 = .ok (.iload 4, 2) := by decide +kernel
theorem dX0_linkAt_22 : decode cX0_linkAt 22 = .ok (.iload_n 1, 1) := by decide +kernel
theorem dX0_linkAt_23 : decode cX0_linkAt 23 = .ok (.if_icmp .gt 40, 3) := by decide +kernel
theorem dX0_linkAt_26 : decode cX0_linkAt 26 = .ok (.iload 4, 2) := by decide +kernel
theorem dX0_linkAt_28 : decode cX0_linkAt 28 = .ok (.aload_n 0, 1) := by decide +kernel
theorem dX0_linkAt_29 : decode cX0_linkAt 29 = .ok (.getfield 9, 3) := by decide +kernel
theorem dX0_linkAt_32 : decode cX0_linkAt 32 = .ok (.arraylength, 1) := by decide +kernel
theorem dX0_linkAt_33 : decode cX0_linkAt 33 = .ok (.if_icmp .ge 30, 3) := by decide +kernel
theorem dX0_linkAt_36 : decode cX0_linkAt 36 = .ok (.lload_n 2, 1) := by decide +kernel
theorem dX0_linkAt_37 : decode cX0_linkAt 37 = .ok (.ldc2_w 30, 3) := by decide +kernel
theorem dX0_linkAt_40 : decode cX0_linkAt 40 = .ok (.lmul, 1) := by decide +kernel
theorem dX0_linkAt_41 : decode cX0_linkAt 41 = .ok (.aload_n 0, 1) := by decide +kernel
theorem dX0_linkAt_42 : decode cX0_linkAt 42 = .ok (.getfield 9, 3) := by decide +kernel
theorem dX0_linkAt_45 : decode cX0_linkAt 45 = .ok (.iload 4, 2) := by decide +kernel
theorem dX0_linkAt_47 : decode cX0_linkAt 47 = .ok (.iaload, 1) := by decide +kernel
theorem dX0_linkAt_48 : decode cX0_linkAt 48 = .ok (.i2l, 1) := by decide +kernel
theorem dX0_linkAt_49 : decode cX0_linkAt 49 = .ok (.ladd, 1) := by decide +kernel
theorem dX0_linkAt_50 : decode cX0_linkAt 50 = .ok (.lconst 1, 1) := by decide +kernel
theorem dX0_linkAt_51 : decode cX0_linkAt 51 = .ok (.ladd, 1) := by decide +kernel
theorem dX0_linkAt_52 : decode cX0_linkAt 52 = .ok (.ldc2_w 32, 3) := by decide +kernel
theorem dX0_linkAt_55 : decode cX0_linkAt 55 = .ok (.lrem, 1) := by decide +kernel
theorem dX0_linkAt_56 : decode cX0_linkAt 56 = .ok (.lstore_n 2, 1) := by decide +kernel
theorem dX0_linkAt_57 : decode cX0_linkAt 57 = .ok (.iinc 4 1, 3) := by decide +kernel
theorem dX0_linkAt_60 : decode cX0_linkAt 60 = .ok (.goto (-40), 3) := by decide +kernel
theorem dX0_linkAt_63 : decode cX0_linkAt 63 = .ok (.lload_n 2, 1) := by decide +kernel
theorem dX0_linkAt_64 : decode cX0_linkAt 64 = .ok (.l2i, 1) := by decide +kernel
theorem dX0_linkAt_65 : decode cX0_linkAt 65 = .ok (.ireturn, 1) := by decide +kernel
theorem dX0_isRight_0 : decode cX0_isRight 0 = .ok (.iload_n 1, 1) := by decide +kernel
theorem dX0_isRight_1 : decode cX0_isRight 1 = .ok (.ifCond .ne 5, 3) := by decide +kernel
theorem dX0_isRight_4 : decode cX0_isRight 4 = .ok (.iconst 1, 1) := by decide +kernel
theorem dX0_isRight_5 : decode cX0_isRight 5 = .ok (.ireturn, 1) := by decide +kernel
theorem dX0_isRight_6 : decode cX0_isRight 6 = .ok (.iconst 0, 1) := by decide +kernel
theorem dX0_isRight_7 : decode cX0_isRight 7 = .ok (.istore_n 2, 1) := by decide +kernel
theorem dX0_isRight_8 : decode cX0_isRight 8 = .ok (.iload_n 2, 1) := by decide +kernel
theorem dX0_isRight_9 : decode cX0_isRight 9 = .ok (.aload_n 0, 1) := by decide +kernel
theorem dX0_isRight_10 : decode cX0_isRight 10 = .ok (.getfield 9, 3) := by decide +kernel
theorem dX0_isRight_13 : decode cX0_isRight 13 = .ok (.arraylength, 1) := by decide +kernel
theorem dX0_isRight_14 : decode cX0_isRight 14 = .ok (.if_icmp .ge 21, 3) := by decide +kernel
theorem dX0_isRight_17 : decode cX0_isRight 17 = .ok (.aload_n 0, 1) := by decide +kernel
theorem dX0_isRight_18 : decode cX0_isRight 18 = .ok (.getfield 9, 3) := by decide +kernel
theorem dX0_isRight_21 : decode cX0_isRight 21 = .ok (.iload_n 2, 1) := by decide +kernel
theorem dX0_isRight_22 : decode cX0_isRight 22 = .ok (.iaload, 1) := by decide +kernel
theorem dX0_isRight_23 : decode cX0_isRight 23 = .ok (.iload_n 1, 1) := by decide +kernel
theorem dX0_isRight_24 : decode cX0_isRight 24 = .ok (.if_icmp .ne 5, 3) := by decide +kernel
theorem dX0_isRight_27 : decode cX0_isRight 27 = .ok (.iconst 0, 1) := by decide +kernel
theorem dX0_isRight_28 : decode cX0_isRight 28 = .ok (.ireturn, 1) := by decide +kernel
theorem dX0_isRight_29 : decode cX0_isRight 29 = .ok (.iinc 2 1, 3) := by decide +kernel
theorem dX0_isRight_32 : decode cX0_isRight 32 = .ok (.goto (-24), 3) := by decide +kernel
theorem dX0_isRight_35 : decode cX0_isRight 35 = .ok (.iconst 1, 1) := by decide +kernel
theorem dX0_isRight_36 : decode cX0_isRight 36 = .ok (.ireturn, 1) := by decide +kernel
theorem dX1_init_0 : decode cX1_init 0 = .ok (.aload_n 0, 1) := by decide +kernel
theorem dX1_init_1 : decode cX1_init 1 = .ok (.invokespecial 3, 3) := by decide +kernel
theorem dX1_init_4 : decode cX1_init 4 = .ok (.aload_n 0, 1) := by decide +kernel
theorem dX1_init_5 : decode cX1_init 5 = .ok (.iconst 4, 1) := by decide +kernel
theorem dX1_init_6 : decode cX1_init 6 = .ok (.putfield 9, 3) := by decide +kernel
theorem dX1_init_9 : decode cX1_init 9 = .ok (.return_, 1) := by decide +kernel
theorem dX1_resize_0 : decode cX1_resize 0 = .ok (.aload_n 0, 1) := by decide +kernel
theorem dX1_resize_1 : decode cX1_resize 1 = .ok (.iload_n 1, 1) := by decide +kernel
theorem dX1_resize_2 : decode cX1_resize 2 = .ok (.putfield 9, 3) := by decide +kernel
theorem dX1_resize_5 : decode cX1_resize 5 = .ok (.return_, 1) := by decide +kernel
theorem dX1_size_0 : decode cX1_size 0 = .ok (.aload_n 0, 1) := by decide +kernel
theorem dX1_size_1 : decode cX1_size 1 = .ok (.getfield 9, 3) := by decide +kernel
theorem dX1_size_4 : decode cX1_size 4 = .ok (.ireturn, 1) := by decide +kernel
theorem dX1_many_0 : decode cX1_many 0 = .ok (.iconst 2, 1) := by decide +kernel
theorem dX1_many_1 : decode cX1_many 1 = .ok (.aload_n 0, 1) := by decide +kernel
theorem dX1_many_2 : decode cX1_many 2 = .ok (.getfield 9, 3) := by decide +kernel
theorem dX1_many_5 : decode cX1_many 5 = .ok (.imul, 1) := by decide +kernel
theorem dX1_many_6 : decode cX1_many 6 = .ok (.iconst 3, 1) := by decide +kernel
theorem dX1_many_7 : decode cX1_many 7 = .ok (.idiv, 1) := by decide +kernel
theorem dX1_many_8 : decode cX1_many 8 = .ok (.iconst 1, 1) := by decide +kernel
theorem dX1_many_9 : decode cX1_many 9 = .ok (.iadd, 1) := by decide +kernel
theorem dX1_many_10 : decode cX1_many 10 = .ok (.ireturn, 1) := by decide +kernel
theorem dX1_some_0 : decode cX1_some 0 = .ok (.aload_n 0, 1) := by decide +kernel
theorem dX1_some_1 : decode cX1_some 1 = .ok (.getfield 9, 3) := by decide +kernel
theorem dX1_some_4 : decode cX1_some 4 = .ok (.iconst 1, 1) := by decide +kernel
theorem dX1_some_5 : decode cX1_some 5 = .ok (.isub, 1) := by decide +kernel
theorem dX1_some_6 : decode cX1_some 6 = .ok (.iconst 3, 1) := by decide +kernel
theorem dX1_some_7 : decode cX1_some 7 = .ok (.idiv, 1) := by decide +kernel
theorem dX1_some_8 : decode cX1_some 8 = .ok (.iconst 1, 1) := by decide +kernel
theorem dX1_some_9 : decode cX1_some 9 = .ok (.iadd, 1) := by decide +kernel
theorem dX1_some_10 : decode cX1_some 10 = .ok (.ireturn, 1) := by decide +kernel
theorem dX1_proposer_0 : decode cX1_proposer 0 = .ok (.aload_n 0, 1) := by decide +kernel
theorem dX1_proposer_1 : decode cX1_proposer 1 = .ok (.getfield 9, 3) := by decide +kernel
theorem dX1_proposer_4 : decode cX1_proposer 4 = .ok (.iconst 1, 1) := by decide +kernel
theorem dX1_proposer_5 : decode cX1_proposer 5 = .ok (.if_icmp .ge 7, 3) := by decide +kernel
theorem dX1_proposer_8 : decode cX1_proposer 8 = .ok (.iconst 0, 1) := by decide +kernel
theorem dX1_proposer_9 : decode cX1_proposer 9 = .ok (.goto 11, 3) := by decide +kernel
theorem dX1_proposer_12 : decode cX1_proposer 12 = .ok (.iload_n 1, 1) := by decide +kernel
theorem dX1_proposer_13 : decode cX1_proposer 13 = .ok (.iload_n 2, 1) := by decide +kernel
theorem dX1_proposer_14 : decode cX1_proposer 14 = .ok (.iadd, 1) := by decide +kernel
theorem dX1_proposer_15 : decode cX1_proposer 15 = .ok (.aload_n 0, 1) := by decide +kernel
theorem dX1_proposer_16 : decode cX1_proposer 16 = .ok (.getfield 9, 3) := by decide +kernel
theorem dX1_proposer_19 : decode cX1_proposer 19 = .ok (.irem, 1) := by decide +kernel
theorem dX1_proposer_20 : decode cX1_proposer 20 = .ok (.ireturn, 1) := by decide +kernel
theorem dX2_init_0 : decode cX2_init 0 = .ok (.aload_n 0, 1) := by decide +kernel
theorem dX2_init_1 : decode cX2_init 1 = .ok (.invokespecial 1, 3) := by decide +kernel
theorem dX2_init_4 : decode cX2_init 4 = .ok (.return_, 1) := by decide +kernel
theorem dX2_reach_0 : decode cX2_reach 0 = .ok (.aload_n 0, 1) := by decide +kernel
theorem dX2_reach_1 : decode cX2_reach 1 = .ok (.dup, 1) := by decide +kernel
theorem dX2_reach_2 : decode cX2_reach 2 = .ok (.getfield 7, 3) := by decide +kernel
theorem dX2_reach_5 : decode cX2_reach 5 = .ok (.iconst 1, 1) := by decide +kernel
theorem dX2_reach_6 : decode cX2_reach 6 = .ok (.iload_n 1, 1) := by decide +kernel
theorem dX2_reach_7 : decode cX2_reach 7 = .ok (.ishl, 1) := by decide +kernel
theorem dX2_reach_8 : decode cX2_reach 8 = .ok (.ior, 1) := by decide +kernel
theorem dX2_reach_9 : decode cX2_reach 9 = .ok (.putfield 7, 3) := by decide +kernel
theorem dX2_reach_12 : decode cX2_reach 12 = .ok (.return_, 1) := by decide +kernel
theorem dX2_cameTo_0 : decode cX2_cameTo 0 = .ok (.aload_n 0, 1) := by decide +kernel
theorem dX2_cameTo_1 : decode cX2_cameTo 1 = .ok (.getfield 7, 3) := by decide +kernel
theorem dX2_cameTo_4 : decode cX2_cameTo 4 = .ok (.iload_n 1, 1) := by decide +kernel
theorem dX2_cameTo_5 : decode cX2_cameTo 5 = .ok (.ishr, 1) := by decide +kernel
theorem dX2_cameTo_6 : decode cX2_cameTo 6 = .ok (.iconst 1, 1) := by decide +kernel
theorem dX2_cameTo_7 : decode cX2_cameTo 7 = .ok (.iand, 1) := by decide +kernel
theorem dX2_cameTo_8 : decode cX2_cameTo 8 = .ok (.iconst 1, 1) := by decide +kernel
theorem dX2_cameTo_9 : decode cX2_cameTo 9 = .ok (.if_icmp .ne 7, 3) := by decide +kernel
theorem dX2_cameTo_12 : decode cX2_cameTo 12 = .ok (.iconst 1, 1) := by decide +kernel
theorem dX2_cameTo_13 : decode cX2_cameTo 13 = .ok (.goto 4, 3) := by decide +kernel
theorem dX2_cameTo_16 : decode cX2_cameTo 16 = .ok (.iconst 0, 1) := by decide +kernel
theorem dX2_cameTo_17 : decode cX2_cameTo 17 = .ok (.ireturn, 1) := by decide +kernel
theorem dX2_isUnlike_0 : decode cX2_isUnlike 0 = .ok (.aload_n 1, 1) := by decide +kernel
theorem dX2_isUnlike_1 : decode cX2_isUnlike 1 = .ok (.ifnull 29, 3) := by decide +kernel
theorem dX2_isUnlike_4 : decode cX2_isUnlike 4 = .ok (.aload_n 0, 1) := by decide +kernel
theorem dX2_isUnlike_5 : decode cX2_isUnlike 5 = .ok (.getfield 13, 3) := by decide +kernel
theorem dX2_isUnlike_8 : decode cX2_isUnlike 8 = .ok (.aload_n 1, 1) := by decide +kernel
theorem dX2_isUnlike_9 : decode cX2_isUnlike 9 = .ok (.getfield 13, 3) := by decide +kernel
theorem dX2_isUnlike_12 : decode cX2_isUnlike 12 = .ok (.if_icmp .ne 14, 3) := by decide +kernel
theorem dX2_isUnlike_15 : decode cX2_isUnlike 15 = .ok (.aload_n 0, 1) := by decide +kernel
theorem dX2_isUnlike_16 : decode cX2_isUnlike 16 = .ok (.getfield 16, 3) := by decide +kernel
theorem dX2_isUnlike_19 : decode cX2_isUnlike 19 = .ok (.aload_n 1, 1) := by decide +kernel
theorem dX2_isUnlike_20 : decode cX2_isUnlike 20 = .ok (.getfield 16, 3) := by decide +kernel
theorem dX2_isUnlike_23 : decode cX2_isUnlike 23 = .ok (.if_icmp .eq 7, 3) := by decide +kernel
theorem dX2_isUnlike_26 : decode cX2_isUnlike 26 = .ok (.iconst 1, 1) := by decide +kernel
theorem dX2_isUnlike_27 : decode cX2_isUnlike 27 = .ok (.goto 4, 3) := by decide +kernel
theorem dX2_isUnlike_30 : decode cX2_isUnlike 30 = .ok (.iconst 0, 1) := by decide +kernel
theorem dX2_isUnlike_31 : decode cX2_isUnlike 31 = .ok (.ireturn, 1) := by decide +kernel
theorem dX3_init_0 : decode cX3_init 0 = .ok (.aload_n 0, 1) := by decide +kernel
theorem dX3_init_1 : decode cX3_init 1 = .ok (.invokespecial 3, 3) := by decide +kernel
theorem dX3_init_4 : decode cX3_init 4 = .ok (.aload_n 0, 1) := by decide +kernel
theorem dX3_init_5 : decode cX3_init 5 = .ok (.bipush (-4), 2) := by decide +kernel
theorem dX3_init_7 : decode cX3_init 7 = .ok (.putfield 9, 3) := by decide +kernel
theorem dX3_init_10 : decode cX3_init 10 = .ok (.aload_n 0, 1) := by decide +kernel
theorem dX3_init_11 : decode cX3_init 11 = .ok (.bipush (-4), 2) := by decide +kernel
theorem dX3_init_13 : decode cX3_init 13 = .ok (.putfield 15, 3) := by decide +kernel
theorem dX3_init_16 : decode cX3_init 16 = .ok (.return_, 1) := by decide +kernel
theorem dX3_clear_0 : decode cX3_clear 0 = .ok (.aload_n 0, 1) := by decide +kernel
theorem dX3_clear_1 : decode cX3_clear 1 = .ok (.bipush (-4), 2) := by decide +kernel
theorem dX3_clear_3 : decode cX3_clear 3 = .ok (.putfield 9, 3) := by decide +kernel
theorem dX3_clear_6 : decode cX3_clear 6 = .ok (.aload_n 0, 1) := by decide +kernel
theorem dX3_clear_7 : decode cX3_clear 7 = .ok (.bipush (-4), 2) := by decide +kernel
theorem dX3_clear_9 : decode cX3_clear 9 = .ok (.putfield 15, 3) := by decide +kernel
theorem dX3_clear_12 : decode cX3_clear 12 = .ok (.return_, 1) := by decide +kernel
theorem dX3_put_0 : decode cX3_put 0 = .ok (.aload_n 0, 1) := by decide +kernel
theorem dX3_put_1 : decode cX3_put 1 = .ok (.iload_n 1, 1) := by decide +kernel
theorem dX3_put_2 : decode cX3_put 2 = .ok (.putfield 9, 3) := by decide +kernel
theorem dX3_put_5 : decode cX3_put 5 = .ok (.aload_n 0, 1) := by decide +kernel
theorem dX3_put_6 : decode cX3_put 6 = .ok (.iload_n 2, 1) := by decide +kernel
theorem dX3_put_7 : decode cX3_put 7 = .ok (.putfield 15, 3) := by decide +kernel
theorem dX3_put_10 : decode cX3_put 10 = .ok (.return_, 1) := by decide +kernel
theorem dX3_isNone_0 : decode cX3_isNone 0 = .ok (.aload_n 0, 1) := by decide +kernel
theorem dX3_isNone_1 : decode cX3_isNone 1 = .ok (.getfield 9, 3) := by decide +kernel
theorem dX3_isNone_4 : decode cX3_isNone 4 = .ok (.bipush (-4), 2) := by decide +kernel
theorem dX3_isNone_6 : decode cX3_isNone 6 = .ok (.if_icmp .ne 7, 3) := by decide +kernel
theorem dX3_isNone_9 : decode cX3_isNone 9 = .ok (.iconst 1, 1) := by decide +kernel
theorem dX3_isNone_10 : decode cX3_isNone 10 = .ok (.goto 4, 3) := by decide +kernel
theorem dX3_isNone_13 : decode cX3_isNone 13 = .ok (.iconst 0, 1) := by decide +kernel
theorem dX3_isNone_14 : decode cX3_isNone 14 = .ok (.ireturn, 1) := by decide +kernel
theorem dX4_init_0 : decode cX4_init 0 = .ok (.aload_n 0, 1) := by decide +kernel
theorem dX4_init_1 : decode cX4_init 1 = .ok (.invokespecial 3, 3) := by decide +kernel
theorem dX4_init_4 : decode cX4_init 4 = .ok (.aload_n 0, 1) := by decide +kernel
theorem dX4_init_5 : decode cX4_init 5 = .ok (.sipush 400, 3) := by decide +kernel
theorem dX4_init_8 : decode cX4_init 8 = .ok (.anewarray 9, 3) := by decide +kernel
theorem dX4_init_11 : decode cX4_init 11 = .ok (.putfield 11, 3) := by decide +kernel
theorem dX4_init_14 : decode cX4_init 14 = .ok (.aload_n 0, 1) := by decide +kernel
theorem dX4_init_15 : decode cX4_init 15 = .ok (.sipush 180, 3) := by decide +kernel
theorem dX4_init_18 : decode cX4_init 18 = .ok (.anewarray 9, 3) := by decide +kernel
theorem dX4_init_21 : decode cX4_init 21 = .ok (.putfield 17, 3) := by decide +kernel
theorem dX4_init_24 : decode cX4_init 24 = .ok (.aload_n 0, 1) := by decide +kernel
theorem dX4_init_25 : decode cX4_init 25 = .ok (.sipush 180, 3) := by decide +kernel
theorem dX4_init_28 : decode cX4_init 28 = .ok (.anewarray 9, 3) := by decide +kernel
theorem dX4_init_31 : decode cX4_init 31 = .ok (.putfield 20, 3) := by decide +kernel
theorem dX4_init_34 : decode cX4_init 34 = .ok (.aload_n 0, 1) := by decide +kernel
theorem dX4_init_35 : decode cX4_init 35 = .ok (.iconst 0, 1) := by decide +kernel
theorem dX4_init_36 : decode cX4_init 36 = .ok (.putfield 23, 3) := by decide +kernel
theorem dX4_init_39 : decode cX4_init 39 = .ok (.return_, 1) := by decide +kernel
theorem dX4_clear_0 : decode cX4_clear 0 = .ok (.aload_n 0, 1) := by decide +kernel
theorem dX4_clear_1 : decode cX4_clear 1 = .ok (.iconst 0, 1) := by decide +kernel
theorem dX4_clear_2 : decode cX4_clear 2 = .ok (.putfield 23, 3) := by decide +kernel
theorem dX4_clear_5 : decode cX4_clear 5 = .ok (.iconst 0, 1) := by decide +kernel
theorem dX4_clear_6 : decode cX4_clear 6 = .ok (.istore_n 1, 1) := by decide +kernel
theorem dX4_clear_7 : decode cX4_clear 7 = .ok (.iload_n 1, 1) := by decide +kernel
theorem dX4_clear_8 : decode cX4_clear 8 = .ok (.aload_n 0, 1) := by decide +kernel
theorem dX4_clear_9 : decode cX4_clear 9 = .ok (.getfield 17, 3) := by decide +kernel
theorem dX4_clear_12 : decode cX4_clear 12 = .ok (.arraylength, 1) := by decide +kernel
theorem dX4_clear_13 : decode cX4_clear 13 = .ok (.if_icmp .ge 16, 3) := by decide +kernel
theorem dX4_clear_16 : decode cX4_clear 16 = .ok (.aload_n 0, 1) := by decide +kernel
theorem dX4_clear_17 : decode cX4_clear 17 = .ok (.getfield 17, 3) := by decide +kernel
theorem dX4_clear_20 : decode cX4_clear 20 = .ok (.iload_n 1, 1) := by decide +kernel
theorem dX4_clear_21 : decode cX4_clear 21 = .ok (.aconst_null, 1) := by decide +kernel
theorem dX4_clear_22 : decode cX4_clear 22 = .ok (.aastore, 1) := by decide +kernel
theorem dX4_clear_23 : decode cX4_clear 23 = .ok (.iinc 1 1, 3) := by decide +kernel
theorem dX4_clear_26 : decode cX4_clear 26 = .ok (.goto (-19), 3) := by decide +kernel
theorem dX4_clear_29 : decode cX4_clear 29 = .ok (.iconst 0, 1) := by decide +kernel
theorem dX4_clear_30 : decode cX4_clear 30 = .ok (.istore_n 1, 1) := by decide +kernel
theorem dX4_clear_31 : decode cX4_clear 31 = .ok (.iload_n 1, 1) := by decide +kernel
theorem dX4_clear_32 : decode cX4_clear 32 = .ok (.aload_n 0, 1) := by decide +kernel
theorem dX4_clear_33 : decode cX4_clear 33 = .ok (.getfield 20, 3) := by decide +kernel
theorem dX4_clear_36 : decode cX4_clear 36 = .ok (.arraylength, 1) := by decide +kernel
theorem dX4_clear_37 : decode cX4_clear 37 = .ok (.if_icmp .ge 16, 3) := by decide +kernel
theorem dX4_clear_40 : decode cX4_clear 40 = .ok (.aload_n 0, 1) := by decide +kernel
theorem dX4_clear_41 : decode cX4_clear 41 = .ok (.getfield 20, 3) := by decide +kernel
theorem dX4_clear_44 : decode cX4_clear 44 = .ok (.iload_n 1, 1) := by decide +kernel
theorem dX4_clear_45 : decode cX4_clear 45 = .ok (.aconst_null, 1) := by decide +kernel
theorem dX4_clear_46 : decode cX4_clear 46 = .ok (.aastore, 1) := by decide +kernel
theorem dX4_clear_47 : decode cX4_clear 47 = .ok (.iinc 1 1, 3) := by decide +kernel
theorem dX4_clear_50 : decode cX4_clear 50 = .ok (.goto (-19), 3) := by decide +kernel
theorem dX4_clear_53 : decode cX4_clear 53 = .ok (.return_, 1) := by decide +kernel
theorem dX4_sent_0 : decode cX4_sent 0 = .ok (.aload_n 0, 1) := by decide +kernel
theorem dX4_sent_1 : decode cX4_sent 1 = .ok (.getfield 23, 3) := by decide +kernel
theorem dX4_sent_4 : decode cX4_sent 4 = .ok (.ireturn, 1) := by decide +kernel
theorem dX4_isFull_0 : decode cX4_isFull 0 = .ok (.aload_n 0, 1) := by decide +kernel
theorem dX4_isFull_1 : decode cX4_isFull 1 = .ok (.getfield 23, 3) := by decide +kernel
theorem dX4_isFull_4 : decode cX4_isFull 4 = .ok (.aload_n 0, 1) := by decide +kernel
theorem dX4_isFull_5 : decode cX4_isFull 5 = .ok (.getfield 11, 3) := by decide +kernel
theorem dX4_isFull_8 : decode cX4_isFull 8 = .ok (.arraylength, 1) := by decide +kernel
theorem dX4_isFull_9 : decode cX4_isFull 9 = .ok (.if_icmp .lt 7, 3) := by decide +kernel
theorem dX4_isFull_12 : decode cX4_isFull 12 = .ok (.iconst 1, 1) := by decide +kernel
theorem dX4_isFull_13 : decode cX4_isFull 13 = .ok (.goto 4, 3) := by decide +kernel
theorem dX4_isFull_16 : decode cX4_isFull 16 = .ok (.iconst 0, 1) := by decide +kernel
theorem dX4_isFull_17 : decode cX4_isFull 17 = .ok (.ireturn, 1) := by decide +kernel
theorem dX4_at_0 : decode cX4_at 0 = .ok (.iload_n 1, 1) := by decide +kernel
theorem dX4_at_1 : decode cX4_at 1 = .ok (.ifCond .lt 29, 3) := by decide +kernel
theorem dX4_at_4 : decode cX4_at 4 = .ok (.iload_n 1, 1) := by decide +kernel
theorem dX4_at_5 : decode cX4_at 5 = .ok (.aload_n 0, 1) := by decide +kernel
theorem dX4_at_6 : decode cX4_at 6 = .ok (.getfield 23, 3) := by decide +kernel
theorem dX4_at_9 : decode cX4_at 9 = .ok (.if_icmp .ge 21, 3) := by decide +kernel
theorem dX4_at_12 : decode cX4_at 12 = .ok (.iload_n 1, 1) := by decide +kernel
theorem dX4_at_13 : decode cX4_at 13 = .ok (.aload_n 0, 1) := by decide +kernel
theorem dX4_at_14 : decode cX4_at 14 = .ok (.getfield 11, 3) := by decide +kernel
theorem dX4_at_17 : decode cX4_at 17 = .ok (.arraylength, 1) := by decide +kernel
theorem dX4_at_18 : decode cX4_at 18 = .ok (.if_icmp .ge 12, 3) := by decide +kernel
theorem dX4_at_21 : decode cX4_at 21 = .ok (.aload_n 0, 1) := by decide +kernel
theorem dX4_at_22 : decode cX4_at 22 = .ok (.getfield 11, 3) := by decide +kernel
theorem dX4_at_25 : decode cX4_at 25 = .ok (.iload_n 1, 1) := by decide +kernel
theorem dX4_at_26 : decode cX4_at 26 = .ok (.aaload, 1) := by decide +kernel
theorem dX4_at_27 : decode cX4_at 27 = .ok (.goto 4, 3) := by decide +kernel
theorem dX4_at_30 : decode cX4_at 30 = .ok (.aconst_null, 1) := by decide +kernel
theorem dX4_at_31 : decode cX4_at 31 = .ok (.areturn, 1) := by decide +kernel
set_option maxRecDepth 20000 in
theorem ggX4_first_X7_slot : GoodIn wsX4_first wsX7_slot := goodIn_r _ [4] rfl (by decide +kernel)
set_option maxRecDepth 20000 in
theorem gX4_first_X7_slot_n27 : GoodIn wsX4_first (wsX7_slot) := ggX4_first_X7_slot
theorem dX4_first_0 : decode cX4_first 0 = .ok (.iload_n 1, 1) := by decide +kernel
theorem dX4_first_1 : decode cX4_first 1 = .ok (.iload_n 2, 1) := by decide +kernel
theorem dX4_first_2 : decode cX4_first 2 = .ok (.iload_n 3, 1) := by decide +kernel
theorem dX4_first_3 : decode cX4_first 3 = .ok (.invokestatic 27, 3) := by decide +kernel
theorem dX4_first_6 : decode cX4_first 6 = .ok (.istore 4, 2) := by decide +kernel
theorem dX4_first_8 : decode cX4_first 8 = .ok (.iload 4, 2) := by decide +kernel
theorem dX4_first_10 : decode cX4_first 10 = .ok (.ifCond .lt 23, 3) := by decide +kernel
theorem dX4_first_13 : decode cX4_first 13 = .ok (.iload 4, 2) := by decide +kernel
theorem dX4_first_15 : decode cX4_first 15 = .ok (.aload_n 0, 1) := by decide +kernel
theorem dX4_first_16 : decode cX4_first 16 = .ok (.getfield 17, 3) := by decide +kernel
theorem dX4_first_19 : decode cX4_first 19 = .ok (.arraylength, 1) := by decide +kernel
theorem dX4_first_20 : decode cX4_first 20 = .ok (.if_icmp .ge 13, 3) := by decide +kernel
theorem dX4_first_23 : decode cX4_first 23 = .ok (.aload_n 0, 1) := by decide +kernel
theorem dX4_first_24 : decode cX4_first 24 = .ok (.getfield 17, 3) := by decide +kernel
theorem dX4_first_27 : decode cX4_first 27 = .ok (.iload 4, 2) := by decide +kernel
theorem dX4_first_29 : decode cX4_first 29 = .ok (.aaload, 1) := by decide +kernel
theorem dX4_first_30 : decode cX4_first 30 = .ok (.goto 4, 3) := by decide +kernel
theorem dX4_first_33 : decode cX4_first 33 = .ok (.aconst_null, 1) := by decide +kernel
theorem dX4_first_34 : decode cX4_first 34 = .ok (.areturn, 1) := by decide +kernel
set_option maxRecDepth 20000 in
theorem ggX4_send_X7_slot : GoodIn wsX4_send wsX7_slot := goodIn_r _ [18] rfl (by decide +kernel)
set_option maxRecDepth 20000 in
theorem gX4_send_X7_slot_n27 : GoodIn wsX4_send (wsX7_slot) := ggX4_send_X7_slot
set_option maxRecDepth 20000 in
theorem ggX4_send_X2_init : GoodIn wsX4_send wsX2_init := goodIn_r _ [20, 21, 22, 23] rfl (by decide +kernel)
set_option maxRecDepth 20000 in
theorem gX4_send_X2_init_n31 : GoodIn wsX4_send (wsX2_init) := ggX4_send_X2_init
theorem dX4_send_0 : decode cX4_send 0 = .ok (.iload_n 2, 1) := by decide +kernel
theorem dX4_send_1 : decode cX4_send 1 = .ok (.iload_n 3, 1) := by decide +kernel
theorem dX4_send_2 : decode cX4_send 2 = .ok (.iload 4, 2) := by decide +kernel
theorem dX4_send_4 : decode cX4_send 4 = .ok (.invokestatic 27, 3) := by decide +kernel
theorem dX4_send_7 : decode cX4_send 7 = .ok (.istore 8, 2) := by decide +kernel
theorem dX4_send_9 : decode cX4_send 9 = .ok (.iload 8, 2) := by decide +kernel
theorem dX4_send_11 : decode cX4_send 11 = .ok (.ifCond .lt 42, 3) := by decide +kernel
theorem dX4_send_14 : decode cX4_send 14 = .ok (.iload 8, 2) := by decide +kernel
theorem dX4_send_16 : decode cX4_send 16 = .ok (.aload_n 0, 1) := by decide +kernel
theorem dX4_send_17 : decode cX4_send 17 = .ok (.getfield 17, 3) := by decide +kernel
theorem dX4_send_20 : decode cX4_send 20 = .ok (.arraylength, 1) := by decide +kernel
theorem dX4_send_21 : decode cX4_send 21 = .ok (.if_icmp .ge 32, 3) := by decide +kernel
theorem dX4_send_24 : decode cX4_send 24 = .ok (.iload 8, 2) := by decide +kernel
theorem dX4_send_26 : decode cX4_send 26 = .ok (.aload_n 0, 1) := by decide +kernel
theorem dX4_send_27 : decode cX4_send 27 = .ok (.getfield 20, 3) := by decide +kernel
theorem dX4_send_30 : decode cX4_send 30 = .ok (.arraylength, 1) := by decide +kernel
theorem dX4_send_31 : decode cX4_send 31 = .ok (.if_icmp .ge 22, 3) := by decide +kernel
theorem dX4_send_34 : decode cX4_send 34 = .ok (.aload_n 0, 1) := by decide +kernel
theorem dX4_send_35 : decode cX4_send 35 = .ok (.getfield 23, 3) := by decide +kernel
theorem dX4_send_38 : decode cX4_send 38 = .ok (.ifCond .lt 15, 3) := by decide +kernel
theorem dX4_send_41 : decode cX4_send 41 = .ok (.aload_n 0, 1) := by decide +kernel
theorem dX4_send_42 : decode cX4_send 42 = .ok (.getfield 23, 3) := by decide +kernel
theorem dX4_send_45 : decode cX4_send 45 = .ok (.aload_n 0, 1) := by decide +kernel
theorem dX4_send_46 : decode cX4_send 46 = .ok (.getfield 11, 3) := by decide +kernel
theorem dX4_send_49 : decode cX4_send 49 = .ok (.arraylength, 1) := by decide +kernel
theorem dX4_send_50 : decode cX4_send 50 = .ok (.if_icmp .lt 4, 3) := by decide +kernel
theorem dX4_send_53 : decode cX4_send 53 = .ok (.return_, 1) := by decide +kernel
theorem dX4_send_54 : decode cX4_send 54 = .ok (.aload_n 0, 1) := by decide +kernel
theorem dX4_send_55 : decode cX4_send 55 = .ok (.getfield 11, 3) := by decide +kernel
theorem dX4_send_58 : decode cX4_send 58 = .ok (.aload_n 0, 1) := by decide +kernel
theorem dX4_send_59 : decode cX4_send 59 = .ok (.getfield 23, 3) := by decide +kernel
theorem dX4_send_62 : decode cX4_send 62 = .ok (.aaload, 1) := by decide +kernel
theorem dX4_send_63 : decode cX4_send 63 = .ok (.ifnonnull 19, 3) := by decide +kernel
theorem dX4_send_66 : decode cX4_send 66 = .ok (.aload_n 0, 1) := by decide +kernel
theorem dX4_send_67 : decode cX4_send 67 = .ok (.getfield 11, 3) := by decide +kernel
theorem dX4_send_70 : decode cX4_send 70 = .ok (.aload_n 0, 1) := by decide +kernel
theorem dX4_send_71 : decode cX4_send 71 = .ok (.getfield 23, 3) := by decide +kernel
theorem dX4_send_74 : decode cX4_send 74 = .ok (.new 9, 3) := by decide +kernel
theorem dX4_send_77 : decode cX4_send 77 = .ok (.dup, 1) := by decide +kernel
theorem dX4_send_78 : decode cX4_send 78 = .ok (.invokespecial 31, 3) := by decide +kernel
theorem dX4_send_81 : decode cX4_send 81 = .ok (.aastore, 1) := by decide +kernel
theorem dX4_send_82 : decode cX4_send 82 = .ok (.aload_n 0, 1) := by decide +kernel
theorem dX4_send_83 : decode cX4_send 83 = .ok (.getfield 11, 3) := by decide +kernel
theorem dX4_send_86 : decode cX4_send 86 = .ok (.aload_n 0, 1) := by decide +kernel
theorem dX4_send_87 : decode cX4_send 87 = .ok (.getfield 23, 3) := by decide +kernel
theorem dX4_send_90 : decode cX4_send 90 = .ok (.aaload, 1) := by decide +kernel
theorem dX4_send_91 : decode cX4_send 91 = .ok (.astore 9, 2) := by decide +kernel
theorem dX4_send_93 : decode cX4_send 93 = .ok (.aload 9, 2) := by decide +kernel
theorem dX4_send_95 : decode cX4_send 95 = .ok (.iload_n 1, 1) := by decide +kernel
theorem dX4_send_96 : decode cX4_send 96 = .ok (.putfield 32, 3) := by decide +kernel
theorem dX4_send_99 : decode cX4_send 99 = .ok (.aload 9, 2) := by decide +kernel
theorem dX4_send_101 : decode cX4_send 101 = .ok (.iload_n 2, 1) := by decide +kernel
theorem dX4_send_102 : decode cX4_send 102 = .ok (.putfield 35, 3) := by decide +kernel
theorem dX4_send_105 : decode cX4_send 105 = .ok (.aload 9, 2) := by decide +kernel
theorem dX4_send_107 : decode cX4_send 107 = .ok (.iload_n 3, 1) := by decide +kernel
theorem dX4_send_108 : decode cX4_send 108 = .ok (.putfield 38, 3) := by decide +kernel
theorem dX4_send_111 : decode cX4_send 111 = .ok (.aload 9, 2) := by decide +kernel
theorem dX4_send_113 : decode cX4_send 113 = .ok (.iload 4, 2) := by decide +kernel
theorem dX4_send_115 : decode cX4_send 115 = .ok (.putfield 41, 3) := by decide +kernel
theorem dX4_send_118 : decode cX4_send 118 = .ok (.aload 9, 2) := by decide +kernel
theorem dX4_send_120 : decode cX4_send 120 = .ok (.iload 5, 2) := by decide +kernel
theorem dX4_send_122 : decode cX4_send 122 = .ok (.putfield 44, 3) := by decide +kernel
theorem dX4_send_125 : decode cX4_send 125 = .ok (.aload 9, 2) := by decide +kernel
theorem dX4_send_127 : decode cX4_send 127 = .ok (.iload 6, 2) := by decide +kernel
theorem dX4_send_129 : decode cX4_send 129 = .ok (.putfield 47, 3) := by decide +kernel
theorem dX4_send_132 : decode cX4_send 132 = .ok (.aload 9, 2) := by decide +kernel
theorem dX4_send_134 : decode cX4_send 134 = .ok (.iload 7, 2) := by decide +kernel
theorem dX4_send_136 : decode cX4_send 136 = .ok (.putfield 50, 3) := by decide +kernel
theorem dX4_send_139 : decode cX4_send 139 = .ok (.aload 9, 2) := by decide +kernel
theorem dX4_send_141 : decode cX4_send 141 = .ok (.aconst_null, 1) := by decide +kernel
theorem dX4_send_142 : decode cX4_send 142 = .ok (.putfield 53, 3) := by decide +kernel
theorem dX4_send_145 : decode cX4_send 145 = .ok (.aload_n 0, 1) := by decide +kernel
theorem dX4_send_146 : decode cX4_send 146 = .ok (.getfield 20, 3) := by decide +kernel
theorem dX4_send_149 : decode cX4_send 149 = .ok (.iload 8, 2) := by decide +kernel
theorem dX4_send_151 : decode cX4_send 151 = .ok (.aaload, 1) := by decide +kernel
theorem dX4_send_152 : decode cX4_send 152 = .ok (.ifnonnull 15, 3) := by decide +kernel
theorem dX4_send_155 : decode cX4_send 155 = .ok (.aload_n 0, 1) := by decide +kernel
theorem dX4_send_156 : decode cX4_send 156 = .ok (.getfield 17, 3) := by decide +kernel
theorem dX4_send_159 : decode cX4_send 159 = .ok (.iload 8, 2) := by decide +kernel
theorem dX4_send_161 : decode cX4_send 161 = .ok (.aload 9, 2) := by decide +kernel
theorem dX4_send_163 : decode cX4_send 163 = .ok (.aastore, 1) := by decide +kernel
theorem dX4_send_164 : decode cX4_send 164 = .ok (.goto 15, 3) := by decide +kernel
theorem dX4_send_167 : decode cX4_send 167 = .ok (.aload_n 0, 1) := by decide +kernel
theorem dX4_send_168 : decode cX4_send 168 = .ok (.getfield 20, 3) := by decide +kernel
theorem dX4_send_171 : decode cX4_send 171 = .ok (.iload 8, 2) := by decide +kernel
theorem dX4_send_173 : decode cX4_send 173 = .ok (.aaload, 1) := by decide +kernel
theorem dX4_send_174 : decode cX4_send 174 = .ok (.aload 9, 2) := by decide +kernel
theorem dX4_send_176 : decode cX4_send 176 = .ok (.putfield 53, 3) := by decide +kernel
theorem dX4_send_179 : decode cX4_send 179 = .ok (.aload_n 0, 1) := by decide +kernel
theorem dX4_send_180 : decode cX4_send 180 = .ok (.getfield 20, 3) := by decide +kernel
theorem dX4_send_183 : decode cX4_send 183 = .ok (.iload 8, 2) := by decide +kernel
theorem dX4_send_185 : decode cX4_send 185 = .ok (.aload 9, 2) := by decide +kernel
theorem dX4_send_187 : decode cX4_send 187 = .ok (.aastore, 1) := by decide +kernel
theorem dX4_send_188 : decode cX4_send 188 = .ok (.aload_n 0, 1) := by decide +kernel
theorem dX4_send_189 : decode cX4_send 189 = .ok (.dup, 1) := by decide +kernel
theorem dX4_send_190 : decode cX4_send 190 = .ok (.getfield 23, 3) := by decide +kernel
theorem dX4_send_193 : decode cX4_send 193 = .ok (.iconst 1, 1) := by decide +kernel
theorem dX4_send_194 : decode cX4_send 194 = .ok (.iadd, 1) := by decide +kernel
theorem dX4_send_195 : decode cX4_send 195 = .ok (.putfield 23, 3) := by decide +kernel
theorem dX4_send_198 : decode cX4_send 198 = .ok (.return_, 1) := by decide +kernel
set_option maxRecDepth 20000 in
theorem ggX4_voters_X2_cameTo : GoodIn wsX4_voters wsX2_cameTo := goodIn_r _ [8, 9, 17, 18, 19, 20, 21, 22, 23, 24] rfl (by decide +kernel)
set_option maxRecDepth 20000 in
theorem gX4_voters_X2_cameTo : GoodIn wsX4_voters (wsV RX4 57 RX2 yX2_cameTo wsX2_cameTo) := goodIn_app (goodIn_of _ (by decide +kernel)) ggX4_voters_X2_cameTo
set_option maxRecDepth 20000 in
theorem ggX4_voters_J6_bitCount_0f7a4 : GoodIn wsX4_voters wsJ6_bitCount_0f7a4 := goodIn_r _ [13, 14, 15, 16] rfl (by decide +kernel)
set_option maxRecDepth 20000 in
theorem gX4_voters_J6_bitCount_0f7a4 : GoodIn wsX4_voters (va_wsS RX4 61 yJ6_bitCount_0f7a4 wsJ6_bitCount_0f7a4) := goodIn_app (goodIn_of _ (by decide +kernel)) ggX4_voters_J6_bitCount_0f7a4
theorem dX4_voters_0 : decode cX4_voters 0 = .ok (.iconst 0, 1) := by decide +kernel
theorem dX4_voters_1 : decode cX4_voters 1 = .ok (.istore_n 3, 1) := by decide +kernel
theorem dX4_voters_2 : decode cX4_voters 2 = .ok (.aload_n 0, 1) := by decide +kernel
theorem dX4_voters_3 : decode cX4_voters 3 = .ok (.astore 4, 2) := by decide +kernel
theorem dX4_voters_5 : decode cX4_voters 5 = .ok (.aload 4, 2) := by decide +kernel
theorem dX4_voters_7 : decode cX4_voters 7 = .ok (.ifnull 47, 3) := by decide +kernel
theorem dX4_voters_10 : decode cX4_voters 10 = .ok (.aload 4, 2) := by decide +kernel
theorem dX4_voters_12 : decode cX4_voters 12 = .ok (.iload_n 1, 1) := by decide +kernel
theorem dX4_voters_13 : decode cX4_voters 13 = .ok (.invokevirtual 57, 3) := by decide +kernel
theorem dX4_voters_16 : decode cX4_voters 16 = .ok (.ifCond .eq 28, 3) := by decide +kernel
theorem dX4_voters_19 : decode cX4_voters 19 = .ok (.iload_n 2, 1) := by decide +kernel
theorem dX4_voters_20 : decode cX4_voters 20 = .ok (.bipush (-2), 2) := by decide +kernel
theorem dX4_voters_22 : decode cX4_voters 22 = .ok (.if_icmp .eq 12, 3) := by decide +kernel
theorem dX4_voters_25 : decode cX4_voters 25 = .ok (.iload_n 2, 1) := by decide +kernel
theorem dX4_voters_26 : decode cX4_voters 26 = .ok (.aload 4, 2) := by decide +kernel
theorem dX4_voters_28 : decode cX4_voters 28 = .ok (.getfield 44, 3) := by decide +kernel
theorem dX4_voters_31 : decode cX4_voters 31 = .ok (.if_icmp .ne 13, 3) := by decide +kernel
theorem dX4_voters_34 : decode cX4_voters 34 = .ok (.iload_n 3, 1) := by decide +kernel
theorem dX4_voters_35 : decode cX4_voters 35 = .ok (.iconst 1, 1) := by decide +kernel
theorem dX4_voters_36 : decode cX4_voters 36 = .ok (.aload 4, 2) := by decide +kernel
theorem dX4_voters_38 : decode cX4_voters 38 = .ok (.getfield 32, 3) := by decide +kernel
theorem dX4_voters_41 : decode cX4_voters 41 = .ok (.ishl, 1) := by decide +kernel
theorem dX4_voters_42 : decode cX4_voters 42 = .ok (.ior, 1) := by decide +kernel
theorem dX4_voters_43 : decode cX4_voters 43 = .ok (.istore_n 3, 1) := by decide +kernel
theorem dX4_voters_44 : decode cX4_voters 44 = .ok (.aload 4, 2) := by decide +kernel
theorem dX4_voters_46 : decode cX4_voters 46 = .ok (.getfield 53, 3) := by decide +kernel
theorem dX4_voters_49 : decode cX4_voters 49 = .ok (.astore 4, 2) := by decide +kernel
theorem dX4_voters_51 : decode cX4_voters 51 = .ok (.goto (-46), 3) := by decide +kernel
theorem dX4_voters_54 : decode cX4_voters 54 = .ok (.iload_n 3, 1) := by decide +kernel
theorem dX4_voters_55 : decode cX4_voters 55 = .ok (.invokestatic 61, 3) := by decide +kernel
theorem dX4_voters_58 : decode cX4_voters 58 = .ok (.ireturn, 1) := by decide +kernel
set_option maxRecDepth 20000 in
theorem ggX4_shows_X2_cameTo : GoodIn wsX4_shows wsX2_cameTo := goodIn_r _ [8, 9, 20, 21, 22, 23, 24, 25, 26, 27] rfl (by decide +kernel)
set_option maxRecDepth 20000 in
theorem gX4_shows_X2_cameTo : GoodIn wsX4_shows (wsV RX4 57 RX2 yX2_cameTo wsX2_cameTo) := goodIn_app (goodIn_of _ (by decide +kernel)) ggX4_shows_X2_cameTo
set_option maxRecDepth 20000 in
theorem ggX4_shows_X2_isUnlike : GoodIn wsX4_shows wsX2_isUnlike := goodIn_r _ [13, 14, 15, 20, 21, 22, 23, 24, 25, 26, 27] rfl (by decide +kernel)
set_option maxRecDepth 20000 in
theorem gX4_shows_X2_isUnlike : GoodIn wsX4_shows (wsV RX4 67 RX2 yX2_isUnlike wsX2_isUnlike) := goodIn_app (goodIn_of _ (by decide +kernel)) ggX4_shows_X2_isUnlike
theorem dX4_shows_0 : decode cX4_shows 0 = .ok (.iconst 0, 1) := by decide +kernel
theorem dX4_shows_1 : decode cX4_shows 1 = .ok (.istore_n 3, 1) := by decide +kernel
theorem dX4_shows_2 : decode cX4_shows 2 = .ok (.iload_n 3, 1) := by decide +kernel
theorem dX4_shows_3 : decode cX4_shows 3 = .ok (.aload_n 0, 1) := by decide +kernel
theorem dX4_shows_4 : decode cX4_shows 4 = .ok (.getfield 17, 3) := by decide +kernel
theorem dX4_shows_7 : decode cX4_shows 7 = .ok (.arraylength, 1) := by decide +kernel
theorem dX4_shows_8 : decode cX4_shows 8 = .ok (.if_icmp .ge 69, 3) := by decide +kernel
theorem dX4_shows_11 : decode cX4_shows 11 = .ok (.aconst_null, 1) := by decide +kernel
theorem dX4_shows_12 : decode cX4_shows 12 = .ok (.astore 4, 2) := by decide +kernel
theorem dX4_shows_14 : decode cX4_shows 14 = .ok (.aload_n 0, 1) := by decide +kernel
theorem dX4_shows_15 : decode cX4_shows 15 = .ok (.getfield 17, 3) := by decide +kernel
theorem dX4_shows_18 : decode cX4_shows 18 = .ok (.iload_n 3, 1) := by decide +kernel
theorem dX4_shows_19 : decode cX4_shows 19 = .ok (.aaload, 1) := by decide +kernel
theorem dX4_shows_20 : decode cX4_shows 20 = .ok (.astore 5, 2) := by decide +kernel
theorem dX4_shows_22 : decode cX4_shows 22 = .ok (.aload 5, 2) := by decide +kernel
theorem dX4_shows_24 : decode cX4_shows 24 = .ok (.ifnull 47, 3) := by decide +kernel
theorem dX4_shows_27 : decode cX4_shows 27 = .ok (.aload 5, 2) := by decide +kernel
theorem dX4_shows_29 : decode cX4_shows 29 = .ok (.getfield 32, 3) := by decide +kernel
theorem dX4_shows_32 : decode cX4_shows 32 = .ok (.iload_n 2, 1) := by decide +kernel
theorem dX4_shows_33 : decode cX4_shows 33 = .ok (.if_icmp .ne 28, 3) := by decide +kernel
theorem dX4_shows_36 : decode cX4_shows 36 = .ok (.aload 5, 2) := by decide +kernel
theorem dX4_shows_38 : decode cX4_shows 38 = .ok (.iload_n 1, 1) := by decide +kernel
theorem dX4_shows_39 : decode cX4_shows 39 = .ok (.invokevirtual 57, 3) := by decide +kernel
theorem dX4_shows_42 : decode cX4_shows 42 = .ok (.ifCond .eq 19, 3) := by decide +kernel
theorem dX4_shows_45 : decode cX4_shows 45 = .ok (.aload 5, 2) := by decide +kernel
theorem dX4_shows_47 : decode cX4_shows 47 = .ok (.aload 4, 2) := by decide +kernel
theorem dX4_shows_49 : decode cX4_shows 49 = .ok (.invokevirtual 67, 3) := by decide +kernel
theorem dX4_shows_52 : decode cX4_shows 52 = .ok (.ifCond .eq 5, 3) := by decide +kernel
theorem dX4_shows_55 : decode cX4_shows 55 = .ok (.iconst 1, 1) := by decide +kernel
theorem dX4_shows_56 : decode cX4_shows 56 = .ok (.ireturn, 1) := by decide +kernel
theorem dX4_shows_57 : decode cX4_shows 57 = .ok (.aload 5, 2) := by decide +kernel
theorem dX4_shows_59 : decode cX4_shows 59 = .ok (.astore 4, 2) := by decide +kernel
theorem dX4_shows_61 : decode cX4_shows 61 = .ok (.aload 5, 2) := by decide +kernel
theorem dX4_shows_63 : decode cX4_shows 63 = .ok (.getfield 53, 3) := by decide +kernel
theorem dX4_shows_66 : decode cX4_shows 66 = .ok (.astore 5, 2) := by decide +kernel
theorem dX4_shows_68 : decode cX4_shows 68 = .ok (.goto (-46), 3) := by decide +kernel
theorem dX4_shows_71 : decode cX4_shows 71 = .ok (.iinc 3 1, 3) := by decide +kernel
theorem dX4_shows_74 : decode cX4_shows 74 = .ok (.goto (-72), 3) := by decide +kernel
theorem dX4_shows_77 : decode cX4_shows 77 = .ok (.iconst 0, 1) := by decide +kernel
theorem dX4_shows_78 : decode cX4_shows 78 = .ok (.ireturn, 1) := by decide +kernel
theorem dJ6_bitCount_0f7a4_0 : decode cJ6_bitCount_0f7a4 0 = .ok (.iload_n 0, 1) := by decide +kernel
theorem dJ6_bitCount_0f7a4_1 : decode cJ6_bitCount_0f7a4 1 = .ok (.iload_n 0, 1) := by decide +kernel
theorem dJ6_bitCount_0f7a4_2 : decode cJ6_bitCount_0f7a4 2 = .ok (.iconst 1, 1) := by decide +kernel
theorem dJ6_bitCount_0f7a4_3 : decode cJ6_bitCount_0f7a4 3 = .ok (.iushr, 1) := by decide +kernel
theorem dJ6_bitCount_0f7a4_4 : decode cJ6_bitCount_0f7a4 4 = .ok (.ldc_w 265, 3) := by decide +kernel
theorem dJ6_bitCount_0f7a4_7 : decode cJ6_bitCount_0f7a4 7 = .ok (.iand, 1) := by decide +kernel
theorem dJ6_bitCount_0f7a4_8 : decode cJ6_bitCount_0f7a4 8 = .ok (.isub, 1) := by decide +kernel
theorem dJ6_bitCount_0f7a4_9 : decode cJ6_bitCount_0f7a4 9 = .ok (.istore_n 0, 1) := by decide +kernel
theorem dJ6_bitCount_0f7a4_10 : decode cJ6_bitCount_0f7a4 10 = .ok (.iload_n 0, 1) := by decide +kernel
theorem dJ6_bitCount_0f7a4_11 : decode cJ6_bitCount_0f7a4 11 = .ok (.ldc_w 266, 3) := by decide +kernel
theorem dJ6_bitCount_0f7a4_14 : decode cJ6_bitCount_0f7a4 14 = .ok (.iand, 1) := by decide +kernel
theorem dJ6_bitCount_0f7a4_15 : decode cJ6_bitCount_0f7a4 15 = .ok (.iload_n 0, 1) := by decide +kernel
theorem dJ6_bitCount_0f7a4_16 : decode cJ6_bitCount_0f7a4 16 = .ok (.iconst 2, 1) := by decide +kernel
theorem dJ6_bitCount_0f7a4_17 : decode cJ6_bitCount_0f7a4 17 = .ok (.iushr, 1) := by decide +kernel
theorem dJ6_bitCount_0f7a4_18 : decode cJ6_bitCount_0f7a4 18 = .ok (.ldc_w 266, 3) := by decide +kernel
theorem dJ6_bitCount_0f7a4_21 : decode cJ6_bitCount_0f7a4 21 = .ok (.iand, 1) := by decide +kernel
theorem dJ6_bitCount_0f7a4_22 : decode cJ6_bitCount_0f7a4 22 = .ok (.iadd, 1) := by decide +kernel
theorem dJ6_bitCount_0f7a4_23 : decode cJ6_bitCount_0f7a4 23 = .ok (.istore_n 0, 1) := by decide +kernel
theorem dJ6_bitCount_0f7a4_24 : decode cJ6_bitCount_0f7a4 24 = .ok (.iload_n 0, 1) := by decide +kernel
theorem dJ6_bitCount_0f7a4_25 : decode cJ6_bitCount_0f7a4 25 = .ok (.iload_n 0, 1) := by decide +kernel
theorem dJ6_bitCount_0f7a4_26 : decode cJ6_bitCount_0f7a4 26 = .ok (.iconst 4, 1) := by decide +kernel
theorem dJ6_bitCount_0f7a4_27 : decode cJ6_bitCount_0f7a4 27 = .ok (.iushr, 1) := by decide +kernel
theorem dJ6_bitCount_0f7a4_28 : decode cJ6_bitCount_0f7a4 28 = .ok (.iadd, 1) := by decide +kernel
theorem dJ6_bitCount_0f7a4_29 : decode cJ6_bitCount_0f7a4 29 = .ok (.ldc_w 267, 3) := by decide +kernel
theorem dJ6_bitCount_0f7a4_32 : decode cJ6_bitCount_0f7a4 32 = .ok (.iand, 1) := by decide +kernel
theorem dJ6_bitCount_0f7a4_33 : decode cJ6_bitCount_0f7a4 33 = .ok (.istore_n 0, 1) := by decide +kernel
theorem dJ6_bitCount_0f7a4_34 : decode cJ6_bitCount_0f7a4 34 = .ok (.iload_n 0, 1) := by decide +kernel
theorem dJ6_bitCount_0f7a4_35 : decode cJ6_bitCount_0f7a4 35 = .ok (.iload_n 0, 1) := by decide +kernel
theorem dJ6_bitCount_0f7a4_36 : decode cJ6_bitCount_0f7a4 36 = .ok (.bipush 8, 2) := by decide +kernel
theorem dJ6_bitCount_0f7a4_38 : decode cJ6_bitCount_0f7a4 38 = .ok (.iushr, 1) := by decide +kernel
theorem dJ6_bitCount_0f7a4_39 : decode cJ6_bitCount_0f7a4 39 = .ok (.iadd, 1) := by decide +kernel
theorem dJ6_bitCount_0f7a4_40 : decode cJ6_bitCount_0f7a4 40 = .ok (.istore_n 0, 1) := by decide +kernel
theorem dJ6_bitCount_0f7a4_41 : decode cJ6_bitCount_0f7a4 41 = .ok (.iload_n 0, 1) := by decide +kernel
theorem dJ6_bitCount_0f7a4_42 : decode cJ6_bitCount_0f7a4 42 = .ok (.iload_n 0, 1) := by decide +kernel
theorem dJ6_bitCount_0f7a4_43 : decode cJ6_bitCount_0f7a4 43 = .ok (.bipush 16, 2) := by decide +kernel
theorem dJ6_bitCount_0f7a4_45 : decode cJ6_bitCount_0f7a4 45 = .ok (.iushr, 1) := by decide +kernel
theorem dJ6_bitCount_0f7a4_46 : decode cJ6_bitCount_0f7a4 46 = .ok (.iadd, 1) := by decide +kernel
theorem dJ6_bitCount_0f7a4_47 : decode cJ6_bitCount_0f7a4 47 = .ok (.istore_n 0, 1) := by decide +kernel
theorem dJ6_bitCount_0f7a4_48 : decode cJ6_bitCount_0f7a4 48 = .ok (.iload_n 0, 1) := by decide +kernel
theorem dJ6_bitCount_0f7a4_49 : decode cJ6_bitCount_0f7a4 49 = .ok (.bipush 63, 2) := by decide +kernel
theorem dJ6_bitCount_0f7a4_51 : decode cJ6_bitCount_0f7a4 51 = .ok (.iand, 1) := by decide +kernel
theorem dJ6_bitCount_0f7a4_52 : decode cJ6_bitCount_0f7a4 52 = .ok (.ireturn, 1) := by decide +kernel
theorem dJ9_max_7cf53_0 : decode cJ9_max_7cf53 0 = .ok (.iload_n 0, 1) := by decide +kernel
theorem dJ9_max_7cf53_1 : decode cJ9_max_7cf53 1 = .ok (.iload_n 1, 1) := by decide +kernel
theorem dJ9_max_7cf53_2 : decode cJ9_max_7cf53 2 = .ok (.if_icmp .lt 7, 3) := by decide +kernel
theorem dJ9_max_7cf53_5 : decode cJ9_max_7cf53 5 = .ok (.iload_n 0, 1) := by decide +kernel
theorem dJ9_max_7cf53_6 : decode cJ9_max_7cf53 6 = .ok (.goto 4, 3) := by decide +kernel
theorem dJ9_max_7cf53_9 : decode cJ9_max_7cf53 9 = .ok (.iload_n 1, 1) := by decide +kernel
theorem dJ9_max_7cf53_10 : decode cJ9_max_7cf53 10 = .ok (.ireturn, 1) := by decide +kernel
theorem dJ9_min_7cf53_0 : decode cJ9_min_7cf53 0 = .ok (.iload_n 0, 1) := by decide +kernel
theorem dJ9_min_7cf53_1 : decode cJ9_min_7cf53 1 = .ok (.iload_n 1, 1) := by decide +kernel
theorem dJ9_min_7cf53_2 : decode cJ9_min_7cf53 2 = .ok (.if_icmp .gt 7, 3) := by decide +kernel
theorem dJ9_min_7cf53_5 : decode cJ9_min_7cf53 5 = .ok (.iload_n 0, 1) := by decide +kernel
theorem dJ9_min_7cf53_6 : decode cJ9_min_7cf53 6 = .ok (.goto 4, 3) := by decide +kernel
theorem dJ9_min_7cf53_9 : decode cJ9_min_7cf53 9 = .ok (.iload_n 1, 1) := by decide +kernel
theorem dJ9_min_7cf53_10 : decode cJ9_min_7cf53 10 = .ok (.ireturn, 1) := by decide +kernel
theorem dJ7_fill_53178_0 : decode cJ7_fill_53178 0 = .ok (.iconst 0, 1) := by decide +kernel
theorem dJ7_fill_53178_1 : decode cJ7_fill_53178 1 = .ok (.istore_n 2, 1) := by decide +kernel
theorem dJ7_fill_53178_2 : decode cJ7_fill_53178 2 = .ok (.aload_n 0, 1) := by decide +kernel
theorem dJ7_fill_53178_3 : decode cJ7_fill_53178 3 = .ok (.arraylength, 1) := by decide +kernel
theorem dJ7_fill_53178_4 : decode cJ7_fill_53178 4 = .ok (.istore_n 3, 1) := by decide +kernel
theorem dJ7_fill_53178_5 : decode cJ7_fill_53178 5 = .ok (.iload_n 2, 1) := by decide +kernel
theorem dJ7_fill_53178_6 : decode cJ7_fill_53178 6 = .ok (.iload_n 3, 1) := by decide +kernel
theorem dJ7_fill_53178_7 : decode cJ7_fill_53178 7 = .ok (.if_icmp .ge 13, 3) := by decide +kernel
theorem dJ7_fill_53178_10 : decode cJ7_fill_53178 10 = .ok (.aload_n 0, 1) := by decide +kernel
theorem dJ7_fill_53178_11 : decode cJ7_fill_53178 11 = .ok (.iload_n 2, 1) := by decide +kernel
theorem dJ7_fill_53178_12 : decode cJ7_fill_53178 12 = .ok (.iload_n 1, 1) := by decide +kernel
theorem dJ7_fill_53178_13 : decode cJ7_fill_53178 13 = .ok (.iastore, 1) := by decide +kernel
theorem dJ7_fill_53178_14 : decode cJ7_fill_53178 14 = .ok (.iinc 2 1, 3) := by decide +kernel
theorem dJ7_fill_53178_17 : decode cJ7_fill_53178 17 = .ok (.goto (-12), 3) := by decide +kernel
theorem dJ7_fill_53178_20 : decode cJ7_fill_53178 20 = .ok (.return_, 1) := by decide +kernel
