set_option maxRecDepth 20000 in
theorem ggX6_init_X3_init : GoodIn wsX6_init wsX3_init := goodIn_r _ [19, 20, 2, 3, 21, 22, 63, 64] rfl (by decide +kernel)
set_option maxRecDepth 20000 in
theorem gX6_init_X3_init_n11 : GoodIn wsX6_init (wsX3_init) := ggX6_init_X3_init
set_option maxRecDepth 20000 in
theorem ggX6_init_X0_init : GoodIn wsX6_init wsX0_init := goodIn_r _ [24, 25, 2, 3, 15, 26, 27, 80, 81] rfl (by decide +kernel)
set_option maxRecDepth 20000 in
theorem gX6_init_X0_init_n23 : GoodIn wsX6_init (wsX0_init) := ggX6_init_X0_init
set_option maxRecDepth 20000 in
theorem ggX6_init_X6_clear : GoodIn wsX6_init wsX6_clear := goodIn_r _ [32, 33, 34, 35, 14, 12, 36, 37, 38, 11, 39, 26, 27, 40, 41, 42, 43, 44, 45, 46, 31, 47, 48, 7, 8, 16, 49, 50, 51, 6, 52, 21, 22, 53, 54, 55, 56, 57, 58, 59, 60, 61, 62, 65, 66, 67, 68, 69, 70, 71, 72, 73, 74, 75, 76, 77, 78, 79, 80, 81, 63, 64] rfl (by decide +kernel)
set_option maxRecDepth 20000 in
theorem gX6_init_X6_clear : GoodIn wsX6_init (wsV RX6 40 RX6 yX6_clear wsX6_clear) := goodIn_app (goodIn_of _ (by decide +kernel)) ggX6_init_X6_clear
theorem dX6_init_0 : decode cX6_init 0 = .ok (.aload_n 0, 1) := by decide +kernel
theorem dX6_init_1 : decode cX6_init 1 = .ok (.invokespecial 3, 3) := by decide +kernel
theorem dX6_init_4 : decode cX6_init 4 = .ok (.aload_n 0, 1) := by decide +kernel
theorem dX6_init_5 : decode cX6_init 5 = .ok (.new 9, 3) := by decide +kernel
theorem dX6_init_8 : decode cX6_init 8 = .ok (.dup, 1) := by decide +kernel
theorem dX6_init_9 : decode cX6_init 9 = .ok (.invokespecial 11, 3) := by decide +kernel
theorem dX6_init_12 : decode cX6_init 12 = .ok (.putfield 12, 3) := by decide +kernel
theorem dX6_init_15 : decode cX6_init 15 = .ok (.aload_n 0, 1) := by decide +kernel
theorem dX6_init_16 : decode cX6_init 16 = .ok (.new 9, 3) := by decide +kernel
theorem dX6_init_19 : decode cX6_init 19 = .ok (.dup, 1) := by decide +kernel
theorem dX6_init_20 : decode cX6_init 20 = .ok (.invokespecial 11, 3) := by decide +kernel
theorem dX6_init_23 : decode cX6_init 23 = .ok (.putfield 18, 3) := by decide +kernel
theorem dX6_init_26 : decode cX6_init 26 = .ok (.aload_n 0, 1) := by decide +kernel
theorem dX6_init_27 : decode cX6_init 27 = .ok (.new 21, 3) := by decide +kernel
theorem dX6_init_30 : decode cX6_init 30 = .ok (.dup, 1) := by decide +kernel
theorem dX6_init_31 : decode cX6_init 31 = .ok (.invokespecial 23, 3) := by decide +kernel
theorem dX6_init_34 : decode cX6_init 34 = .ok (.putfield 24, 3) := by decide +kernel
theorem dX6_init_37 : decode cX6_init 37 = .ok (.aload_n 0, 1) := by decide +kernel
theorem dX6_init_38 : decode cX6_init 38 = .ok (.bipush 100, 2) := by decide +kernel
theorem dX6_init_40 : decode cX6_init 40 = .ok (.newarray .boolean, 2) := by decide +kernel
theorem dX6_init_42 : decode cX6_init 42 = .ok (.putfield 28, 3) := by decide +kernel
theorem dX6_init_45 : decode cX6_init 45 = .ok (.aload_n 0, 1) := by decide +kernel
theorem dX6_init_46 : decode cX6_init 46 = .ok (.iconst 3, 1) := by decide +kernel
theorem dX6_init_47 : decode cX6_init 47 = .ok (.newarray .int, 2) := by decide +kernel
theorem dX6_init_49 : decode cX6_init 49 = .ok (.putfield 32, 3) := by decide +kernel
theorem dX6_init_52 : decode cX6_init 52 = .ok (.aload_n 0, 1) := by decide +kernel
theorem dX6_init_53 : decode cX6_init 53 = .ok (.iload_n 1, 1) := by decide +kernel
theorem dX6_init_54 : decode cX6_init 54 = .ok (.putfield 36, 3) := by decide +kernel
theorem dX6_init_57 : decode cX6_init 57 = .ok (.aload_n 0, 1) := by decide +kernel
theorem dX6_init_58 : decode cX6_init 58 = .ok (.invokevirtual 40, 3) := by decide +kernel
theorem dX6_init_61 : decode cX6_init 61 = .ok (.return_, 1) := by decide +kernel
set_option maxRecDepth 20000 in
theorem ggX6_clear_X0_clear : GoodIn wsX6_clear wsX0_clear := goodIn_r _ [10, 11, 12, 13, 14, 15, 16, 58, 59] rfl (by decide +kernel)
set_option maxRecDepth 20000 in
theorem gX6_clear_X0_clear : GoodIn wsX6_clear (wsV RX6 53 RX0 yX0_clear wsX0_clear) := goodIn_app (goodIn_of _ (by decide +kernel)) ggX6_clear_X0_clear
set_option maxRecDepth 20000 in
theorem ggX6_clear_X6_clearHeight : GoodIn wsX6_clear wsX6_clearHeight := goodIn_r _ [21, 22, 23, 24, 25, 26, 27, 28, 29, 30, 31, 32, 33, 14, 15, 16, 34, 35, 36, 20, 37, 38, 39, 40, 41, 42, 43, 44, 45, 46, 47, 48, 49, 50, 51, 52, 53, 54, 55, 56, 57, 60, 61] rfl (by decide +kernel)
set_option maxRecDepth 20000 in
theorem gX6_clear_X6_clearHeight : GoodIn wsX6_clear (wsV RX6 54 RX6 yX6_clearHeight wsX6_clearHeight) := goodIn_app (goodIn_of _ (by decide +kernel)) ggX6_clear_X6_clearHeight
theorem dX6_clear_0 : decode cX6_clear 0 = .ok (.aload_n 0, 1) := by decide +kernel
theorem dX6_clear_1 : decode cX6_clear 1 = .ok (.iconst 0, 1) := by decide +kernel
theorem dX6_clear_2 : decode cX6_clear 2 = .ok (.putfield 43, 3) := by decide +kernel
theorem dX6_clear_5 : decode cX6_clear 5 = .ok (.aload_n 0, 1) := by decide +kernel
theorem dX6_clear_6 : decode cX6_clear 6 = .ok (.iconst 0, 1) := by decide +kernel
theorem dX6_clear_7 : decode cX6_clear 7 = .ok (.putfield 47, 3) := by decide +kernel
theorem dX6_clear_10 : decode cX6_clear 10 = .ok (.aload_n 0, 1) := by decide +kernel
theorem dX6_clear_11 : decode cX6_clear 11 = .ok (.iconst 0, 1) := by decide +kernel
theorem dX6_clear_12 : decode cX6_clear 12 = .ok (.putfield 50, 3) := by decide +kernel
theorem dX6_clear_15 : decode cX6_clear 15 = .ok (.iconst 0, 1) := by decide +kernel
theorem dX6_clear_16 : decode cX6_clear 16 = .ok (.istore_n 1, 1) := by decide +kernel
theorem dX6_clear_17 : decode cX6_clear 17 = .ok (.iload_n 1, 1) := by decide +kernel
theorem dX6_clear_18 : decode cX6_clear 18 = .ok (.aload_n 0, 1) := by decide +kernel
theorem dX6_clear_19 : decode cX6_clear 19 = .ok (.getfield 28, 3) := by decide +kernel
theorem dX6_clear_22 : decode cX6_clear 22 = .ok (.arraylength, 1) := by decide +kernel
theorem dX6_clear_23 : decode cX6_clear 23 = .ok (.if_icmp .ge 16, 3) := by decide +kernel
theorem dX6_clear_26 : decode cX6_clear 26 = .ok (.aload_n 0, 1) := by decide +kernel
theorem dX6_clear_27 : decode cX6_clear 27 = .ok (.getfield 28, 3) := by decide +kernel
theorem dX6_clear_30 : decode cX6_clear 30 = .ok (.iload_n 1, 1) := by decide +kernel
theorem dX6_clear_31 : decode cX6_clear 31 = .ok (.iconst 0, 1) := by decide +kernel
theorem dX6_clear_32 : decode cX6_clear 32 = .ok (.bastore, 1) := by decide +kernel
theorem dX6_clear_33 : decode cX6_clear 33 = .ok (.iinc 1 1, 3) := by decide +kernel
theorem dX6_clear_36 : decode cX6_clear 36 = .ok (.goto (-19), 3) := by decide +kernel
theorem dX6_clear_39 : decode cX6_clear 39 = .ok (.aload_n 0, 1) := by decide +kernel
theorem dX6_clear_40 : decode cX6_clear 40 = .ok (.getfield 24, 3) := by decide +kernel
theorem dX6_clear_43 : decode cX6_clear 43 = .ok (.invokevirtual 53, 3) := by decide +kernel
theorem dX6_clear_46 : decode cX6_clear 46 = .ok (.aload_n 0, 1) := by decide +kernel
theorem dX6_clear_47 : decode cX6_clear 47 = .ok (.invokevirtual 54, 3) := by decide +kernel
theorem dX6_clear_50 : decode cX6_clear 50 = .ok (.return_, 1) := by decide +kernel
set_option maxRecDepth 20000 in
theorem ggX6_clearHeight_X3_clear : GoodIn wsX6_clearHeight wsX3_clear := goodIn_r _ [9, 10, 11, 41, 42] rfl (by decide +kernel)
set_option maxRecDepth 20000 in
theorem gX6_clearHeight_X3_clear : GoodIn wsX6_clearHeight (wsV RX6 60 RX3 yX3_clear wsX3_clear) := goodIn_app (goodIn_of _ (by decide +kernel)) ggX6_clearHeight_X3_clear
set_option maxRecDepth 20000 in
theorem ggX6_clearHeight_J7_fill_53178 : GoodIn wsX6_clearHeight wsJ7_fill_53178 := goodIn_r _ [15] rfl (by decide +kernel)
set_option maxRecDepth 20000 in
theorem gX6_clearHeight_J7_fill_53178 : GoodIn wsX6_clearHeight (va_wsS RX6 61 yJ7_fill_53178 wsJ7_fill_53178) := goodIn_app (goodIn_of _ (by decide +kernel)) ggX6_clearHeight_J7_fill_53178
set_option maxRecDepth 20000 in
theorem ggX6_clearHeight_X6_enter : GoodIn wsX6_clearHeight wsX6_enter := goodIn_r _ [20, 21, 22, 23, 24, 25, 26, 27, 28, 29, 30, 31, 32, 33, 34, 35, 36, 37, 38, 39, 40] rfl (by decide +kernel)
set_option maxRecDepth 20000 in
theorem gX6_clearHeight_X6_enter : GoodIn wsX6_clearHeight (wsV RX6 67 RX6 yX6_enter wsX6_enter) := goodIn_app (goodIn_of _ (by decide +kernel)) ggX6_clearHeight_X6_enter
theorem dX6_clearHeight_0 : decode cX6_clearHeight 0 = .ok (.aload_n 0, 1) := by decide +kernel
theorem dX6_clearHeight_1 : decode cX6_clearHeight 1 = .ok (.iconst 0, 1) := by decide +kernel
theorem dX6_clearHeight_2 : decode cX6_clearHeight 2 = .ok (.putfield 57, 3) := by decide +kernel
theorem dX6_clearHeight_5 : decode cX6_clearHeight 5 = .ok (.aload_n 0, 1) := by decide +kernel
theorem dX6_clearHeight_6 : decode cX6_clearHeight 6 = .ok (.getfield 12, 3) := by decide +kernel
theorem dX6_clearHeight_9 : decode cX6_clearHeight 9 = .ok (.invokevirtual 60, 3) := by decide +kernel
theorem dX6_clearHeight_12 : decode cX6_clearHeight 12 = .ok (.aload_n 0, 1) := by decide +kernel
theorem dX6_clearHeight_13 : decode cX6_clearHeight 13 = .ok (.getfield 18, 3) := by decide +kernel
theorem dX6_clearHeight_16 : decode cX6_clearHeight 16 = .ok (.invokevirtual 60, 3) := by decide +kernel
theorem dX6_clearHeight_19 : decode cX6_clearHeight 19 = .ok (.aload_n 0, 1) := by decide +kernel
theorem dX6_clearHeight_20 : decode cX6_clearHeight 20 = .ok (.getfield 32, 3) := by decide +kernel
theorem dX6_clearHeight_23 : decode cX6_clearHeight 23 = .ok (.iconst (-1), 1) := by decide +kernel
theorem dX6_clearHeight_24 : decode cX6_clearHeight 24 = .ok (.invokestatic 61, 3) := by decide +kernel
theorem dX6_clearHeight_27 : decode cX6_clearHeight 27 = .ok (.aload_n 0, 1) := by decide +kernel
theorem dX6_clearHeight_28 : decode cX6_clearHeight 28 = .ok (.iconst 0, 1) := by decide +kernel
theorem dX6_clearHeight_29 : decode cX6_clearHeight 29 = .ok (.invokevirtual 67, 3) := by decide +kernel
theorem dX6_clearHeight_32 : decode cX6_clearHeight 32 = .ok (.return_, 1) := by decide +kernel
theorem dX6_enter_0 : decode cX6_enter 0 = .ok (.aload_n 0, 1) := by decide +kernel
theorem dX6_enter_1 : decode cX6_enter 1 = .ok (.iload_n 1, 1) := by decide +kernel
theorem dX6_enter_2 : decode cX6_enter 2 = .ok (.putfield 71, 3) := by decide +kernel
theorem dX6_enter_5 : decode cX6_enter 5 = .ok (.aload_n 0, 1) := by decide +kernel
theorem dX6_enter_6 : decode cX6_enter 6 = .ok (.iconst 0, 1) := by decide +kernel
theorem dX6_enter_7 : decode cX6_enter 7 = .ok (.putfield 74, 3) := by decide +kernel
theorem dX6_enter_10 : decode cX6_enter 10 = .ok (.aload_n 0, 1) := by decide +kernel
theorem dX6_enter_11 : decode cX6_enter 11 = .ok (.iconst 0, 1) := by decide +kernel
theorem dX6_enter_12 : decode cX6_enter 12 = .ok (.putfield 77, 3) := by decide +kernel
theorem dX6_enter_15 : decode cX6_enter 15 = .ok (.aload_n 0, 1) := by decide +kernel
theorem dX6_enter_16 : decode cX6_enter 16 = .ok (.iconst 0, 1) := by decide +kernel
theorem dX6_enter_17 : decode cX6_enter 17 = .ok (.putfield 80, 3) := by decide +kernel
theorem dX6_enter_20 : decode cX6_enter 20 = .ok (.aload_n 0, 1) := by decide +kernel
theorem dX6_enter_21 : decode cX6_enter 21 = .ok (.iconst 0, 1) := by decide +kernel
theorem dX6_enter_22 : decode cX6_enter 22 = .ok (.putfield 83, 3) := by decide +kernel
theorem dX6_enter_25 : decode cX6_enter 25 = .ok (.return_, 1) := by decide +kernel
set_option maxRecDepth 20000 in
theorem ggX6_decide_X0_add : GoodIn wsX6_decide wsX0_add := goodIn_r _ [7, 8, 9, 54, 55] rfl (by decide +kernel)
set_option maxRecDepth 20000 in
theorem gX6_decide_X0_add : GoodIn wsX6_decide (wsV RX6 86 RX0 yX0_add wsX0_add) := goodIn_app (goodIn_of _ (by decide +kernel)) ggX6_decide_X0_add
set_option maxRecDepth 20000 in
theorem ggX6_decide_X6_clearHeight : GoodIn wsX6_decide wsX6_clearHeight := goodIn_r _ [14, 15, 16, 17, 18, 19, 20, 21, 22, 23, 24, 25, 26, 27, 28, 29, 30, 31, 32, 13, 33, 34, 35, 36, 37, 38, 39, 40, 41, 42, 43, 44, 45, 46, 47, 48, 49, 50, 51, 52, 53, 56, 57] rfl (by decide +kernel)
set_option maxRecDepth 20000 in
theorem gX6_decide_X6_clearHeight : GoodIn wsX6_decide (wsV RX6 54 RX6 yX6_clearHeight wsX6_clearHeight) := goodIn_app (goodIn_of _ (by decide +kernel)) ggX6_decide_X6_clearHeight
theorem dX6_decide_0 : decode cX6_decide 0 = .ok (.aload_n 0, 1) := by decide +kernel
theorem dX6_decide_1 : decode cX6_decide 1 = .ok (.getfield 24, 3) := by decide +kernel
theorem dX6_decide_4 : decode cX6_decide 4 = .ok (.aload_n 0, 1) := by decide +kernel
theorem dX6_decide_5 : decode cX6_decide 5 = .ok (.getfield 47, 3) := by decide +kernel
theorem dX6_decide_8 : decode cX6_decide 8 = .ok (.iload_n 1, 1) := by decide +kernel
theorem dX6_decide_9 : decode cX6_decide 9 = .ok (.iload_n 2, 1) := by decide +kernel
theorem dX6_decide_10 : decode cX6_decide 10 = .ok (.invokevirtual 86, 3) := by decide +kernel
theorem dX6_decide_13 : decode cX6_decide 13 = .ok (.aload_n 0, 1) := by decide +kernel
theorem dX6_decide_14 : decode cX6_decide 14 = .ok (.dup, 1) := by decide +kernel
theorem dX6_decide_15 : decode cX6_decide 15 = .ok (.getfield 47, 3) := by decide +kernel
theorem dX6_decide_18 : decode cX6_decide 18 = .ok (.iconst 1, 1) := by decide +kernel
theorem dX6_decide_19 : decode cX6_decide 19 = .ok (.iadd, 1) := by decide +kernel
theorem dX6_decide_20 : decode cX6_decide 20 = .ok (.putfield 47, 3) := by decide +kernel
theorem dX6_decide_23 : decode cX6_decide 23 = .ok (.aload_n 0, 1) := by decide +kernel
theorem dX6_decide_24 : decode cX6_decide 24 = .ok (.invokevirtual 54, 3) := by decide +kernel
theorem dX6_decide_27 : decode cX6_decide 27 = .ok (.return_, 1) := by decide +kernel
theorem dX6_isDone_0 : decode cX6_isDone 0 = .ok (.aload_n 0, 1) := by decide +kernel
theorem dX6_isDone_1 : decode cX6_isDone 1 = .ok (.getfield 47, 3) := by decide +kernel
theorem dX6_isDone_4 : decode cX6_isDone 4 = .ok (.bipush 6, 2) := by decide +kernel
theorem dX6_isDone_6 : decode cX6_isDone 6 = .ok (.if_icmp .lt 7, 3) := by decide +kernel
theorem dX6_isDone_9 : decode cX6_isDone 9 = .ok (.iconst 1, 1) := by decide +kernel
theorem dX6_isDone_10 : decode cX6_isDone 10 = .ok (.goto 4, 3) := by decide +kernel
theorem dX6_isDone_13 : decode cX6_isDone 13 = .ok (.iconst 0, 1) := by decide +kernel
theorem dX6_isDone_14 : decode cX6_isDone 14 = .ok (.ireturn, 1) := by decide +kernel
theorem dX6_take_0 : decode cX6_take 0 = .ok (.iload_n 1, 1) := by decide +kernel
theorem dX6_take_1 : decode cX6_take 1 = .ok (.ifCond .lt 21, 3) := by decide +kernel
theorem dX6_take_4 : decode cX6_take 4 = .ok (.iload_n 1, 1) := by decide +kernel
theorem dX6_take_5 : decode cX6_take 5 = .ok (.aload_n 0, 1) := by decide +kernel
theorem dX6_take_6 : decode cX6_take 6 = .ok (.getfield 28, 3) := by decide +kernel
theorem dX6_take_9 : decode cX6_take 9 = .ok (.arraylength, 1) := by decide +kernel
theorem dX6_take_10 : decode cX6_take 10 = .ok (.if_icmp .ge 12, 3) := by decide +kernel
theorem dX6_take_13 : decode cX6_take 13 = .ok (.aload_n 0, 1) := by decide +kernel
theorem dX6_take_14 : decode cX6_take 14 = .ok (.getfield 28, 3) := by decide +kernel
theorem dX6_take_17 : decode cX6_take 17 = .ok (.iload_n 1, 1) := by decide +kernel
theorem dX6_take_18 : decode cX6_take 18 = .ok (.baload, 1) := by decide +kernel
theorem dX6_take_19 : decode cX6_take 19 = .ok (.ifCond .eq 5, 3) := by decide +kernel
theorem dX6_take_22 : decode cX6_take 22 = .ok (.iconst 0, 1) := by decide +kernel
theorem dX6_take_23 : decode cX6_take 23 = .ok (.ireturn, 1) := by decide +kernel
theorem dX6_take_24 : decode cX6_take 24 = .ok (.aload_n 0, 1) := by decide +kernel
theorem dX6_take_25 : decode cX6_take 25 = .ok (.getfield 28, 3) := by decide +kernel
theorem dX6_take_28 : decode cX6_take 28 = .ok (.iload_n 1, 1) := by decide +kernel
theorem dX6_take_29 : decode cX6_take 29 = .ok (.iconst 1, 1) := by decide +kernel
theorem dX6_take_30 : decode cX6_take 30 = .ok (.bastore, 1) := by decide +kernel
theorem dX6_take_31 : decode cX6_take 31 = .ok (.aload_n 0, 1) := by decide +kernel
theorem dX6_take_32 : decode cX6_take 32 = .ok (.dup, 1) := by decide +kernel
theorem dX6_take_33 : decode cX6_take 33 = .ok (.getfield 50, 3) := by decide +kernel
theorem dX6_take_36 : decode cX6_take 36 = .ok (.iconst 1, 1) := by decide +kernel
theorem dX6_take_37 : decode cX6_take 37 = .ok (.iadd, 1) := by decide +kernel
theorem dX6_take_38 : decode cX6_take 38 = .ok (.putfield 50, 3) := by decide +kernel
theorem dX6_take_41 : decode cX6_take 41 = .ok (.iconst 1, 1) := by decide +kernel
theorem dX6_take_42 : decode cX6_take 42 = .ok (.ireturn, 1) := by decide +kernel
set_option maxRecDepth 20000 in
theorem ggX6_leastRightValue_X0_isRight : GoodIn wsX6_leastRightValue wsX0_isRight := goodIn_r _ [7, 8, 24, 25] rfl (by decide +kernel)
set_option maxRecDepth 20000 in
theorem gX6_leastRightValue_X0_isRight : GoodIn wsX6_leastRightValue (wsV RX6 90 RX0 yX0_isRight wsX0_isRight) := goodIn_app (goodIn_of _ (by decide +kernel)) ggX6_leastRightValue_X0_isRight
theorem dX6_leastRightValue_0 : decode cX6_leastRightValue 0 = .ok (.iconst 1, 1) := by decide +kernel
theorem dX6_leastRightValue_1 : decode cX6_leastRightValue 1 = .ok (.istore_n 1, 1) := by decide +kernel
theorem dX6_leastRightValue_2 : decode cX6_leastRightValue 2 = .ok (.iload_n 1, 1) := by decide +kernel
theorem dX6_leastRightValue_3 : decode cX6_leastRightValue 3 = .ok (.aload_n 0, 1) := by decide +kernel
theorem dX6_leastRightValue_4 : decode cX6_leastRightValue 4 = .ok (.getfield 28, 3) := by decide +kernel
theorem dX6_leastRightValue_7 : decode cX6_leastRightValue 7 = .ok (.arraylength, 1) := by decide +kernel
theorem dX6_leastRightValue_8 : decode cX6_leastRightValue 8 = .ok (.if_icmp .ge 31, 3) := by decide +kernel
theorem dX6_leastRightValue_11 : decode cX6_leastRightValue 11 = .ok (.aload_n 0, 1) := by decide +kernel
theorem dX6_leastRightValue_12 : decode cX6_leastRightValue 12 = .ok (.getfield 28, 3) := by decide +kernel
theorem dX6_leastRightValue_15 : decode cX6_leastRightValue 15 = .ok (.iload_n 1, 1) := by decide +kernel
theorem dX6_leastRightValue_16 : decode cX6_leastRightValue 16 = .ok (.baload, 1) := by decide +kernel
theorem dX6_leastRightValue_17 : decode cX6_leastRightValue 17 = .ok (.ifCond .eq 16, 3) := by decide +kernel
theorem dX6_leastRightValue_20 : decode cX6_leastRightValue 20 = .ok (.aload_n 0, 1) := by decide +kernel
theorem dX6_leastRightValue_21 : decode cX6_leastRightValue 21 = .ok (.getfield 24, 3) := by decide +kernel
theorem dX6_leastRightValue_24 : decode cX6_leastRightValue 24 = .ok (.iload_n 1, 1) := by decide +kernel
theorem dX6_leastRightValue_25 : decode cX6_leastRightValue 25 = .ok (.invokevirtual 90, 3) := by decide +kernel
theorem dX6_leastRightValue_28 : decode cX6_leastRightValue 28 = .ok (.ifCond .eq 5, 3) := by decide +kernel
theorem dX6_leastRightValue_31 : decode cX6_leastRightValue 31 = .ok (.iload_n 1, 1) := by decide +kernel
theorem dX6_leastRightValue_32 : decode cX6_leastRightValue 32 = .ok (.ireturn, 1) := by decide +kernel
theorem dX6_leastRightValue_33 : decode cX6_leastRightValue 33 = .ok (.iinc 1 1, 3) := by decide +kernel
theorem dX6_leastRightValue_36 : decode cX6_leastRightValue 36 = .ok (.goto (-34), 3) := by decide +kernel
theorem dX6_leastRightValue_39 : decode cX6_leastRightValue 39 = .ok (.iconst 0, 1) := by decide +kernel
theorem dX6_leastRightValue_40 : decode cX6_leastRightValue 40 = .ok (.ireturn, 1) := by decide +kernel
set_option maxRecDepth 20000 in
theorem ggX6_set_X6_moment : GoodIn wsX6_set wsX6_moment := goodIn_r _ [6, 7, 8, 9, 10, 11, 12, 13, 14, 15, 16, 17, 18, 19, 20, 21, 22, 23] rfl (by decide +kernel)
set_option maxRecDepth 20000 in
theorem gX6_set_X6_moment : GoodIn wsX6_set (wsV RX6 94 RX6 yX6_moment wsX6_moment) := goodIn_app (goodIn_of _ (by decide +kernel)) ggX6_set_X6_moment
theorem dX6_set_0 : decode cX6_set 0 = .ok (.iload_n 1, 1) := by decide +kernel
theorem dX6_set_1 : decode cX6_set 1 = .ok (.ifCond .lt 22, 3) := by decide +kernel
theorem dX6_set_4 : decode cX6_set 4 = .ok (.iload_n 1, 1) := by decide +kernel
theorem dX6_set_5 : decode cX6_set 5 = .ok (.aload_n 0, 1) := by decide +kernel
theorem dX6_set_6 : decode cX6_set 6 = .ok (.getfield 32, 3) := by decide +kernel
theorem dX6_set_9 : decode cX6_set 9 = .ok (.arraylength, 1) := by decide +kernel
theorem dX6_set_10 : decode cX6_set 10 = .ok (.if_icmp .ge 13, 3) := by decide +kernel
theorem dX6_set_13 : decode cX6_set 13 = .ok (.aload_n 0, 1) := by decide +kernel
theorem dX6_set_14 : decode cX6_set 14 = .ok (.getfield 32, 3) := by decide +kernel
theorem dX6_set_17 : decode cX6_set 17 = .ok (.iload_n 1, 1) := by decide +kernel
theorem dX6_set_18 : decode cX6_set 18 = .ok (.aload_n 0, 1) := by decide +kernel
theorem dX6_set_19 : decode cX6_set 19 = .ok (.invokevirtual 94, 3) := by decide +kernel
theorem dX6_set_22 : decode cX6_set 22 = .ok (.iastore, 1) := by decide +kernel
theorem dX6_set_23 : decode cX6_set 23 = .ok (.return_, 1) := by decide +kernel
theorem dX6_isSet_0 : decode cX6_isSet 0 = .ok (.iload_n 1, 1) := by decide +kernel
theorem dX6_isSet_1 : decode cX6_isSet 1 = .ok (.ifCond .lt 26, 3) := by decide +kernel
theorem dX6_isSet_4 : decode cX6_isSet 4 = .ok (.iload_n 1, 1) := by decide +kernel
theorem dX6_isSet_5 : decode cX6_isSet 5 = .ok (.aload_n 0, 1) := by decide +kernel
theorem dX6_isSet_6 : decode cX6_isSet 6 = .ok (.getfield 32, 3) := by decide +kernel
theorem dX6_isSet_9 : decode cX6_isSet 9 = .ok (.arraylength, 1) := by decide +kernel
theorem dX6_isSet_10 : decode cX6_isSet 10 = .ok (.if_icmp .ge 17, 3) := by decide +kernel
theorem dX6_isSet_13 : decode cX6_isSet 13 = .ok (.aload_n 0, 1) := by decide +kernel
theorem dX6_isSet_14 : decode cX6_isSet 14 = .ok (.getfield 32, 3) := by decide +kernel
theorem dX6_isSet_17 : decode cX6_isSet 17 = .ok (.iload_n 1, 1) := by decide +kernel
theorem dX6_isSet_18 : decode cX6_isSet 18 = .ok (.iaload, 1) := by decide +kernel
theorem dX6_isSet_19 : decode cX6_isSet 19 = .ok (.iconst (-1), 1) := by decide +kernel
theorem dX6_isSet_20 : decode cX6_isSet 20 = .ok (.if_icmp .eq 7, 3) := by decide +kernel
theorem dX6_isSet_23 : decode cX6_isSet 23 = .ok (.iconst 1, 1) := by decide +kernel
theorem dX6_isSet_24 : decode cX6_isSet 24 = .ok (.goto 4, 3) := by decide +kernel
theorem dX6_isSet_27 : decode cX6_isSet 27 = .ok (.iconst 0, 1) := by decide +kernel
theorem dX6_isSet_28 : decode cX6_isSet 28 = .ok (.ireturn, 1) := by decide +kernel
set_option maxRecDepth 20000 in
theorem ggX6_unset_X6_isSet : GoodIn wsX6_unset wsX6_isSet := goodIn_r _ [6, 1, 13, 14, 15, 16, 17, 18, 19, 20, 21, 22, 23, 24, 25, 26, 27] rfl (by decide +kernel)
set_option maxRecDepth 20000 in
theorem gX6_unset_X6_isSet : GoodIn wsX6_unset (wsV RX6 98 RX6 yX6_isSet wsX6_isSet) := goodIn_app (goodIn_of _ (by decide +kernel)) ggX6_unset_X6_isSet
set_option maxRecDepth 20000 in
theorem ggX6_unset_X6_moment : GoodIn wsX6_unset wsX6_moment := goodIn_r _ [10, 11, 12, 13, 14, 15, 16, 17, 18, 19, 20, 21, 22, 23, 24, 25, 26, 27] rfl (by decide +kernel)
set_option maxRecDepth 20000 in
theorem gX6_unset_X6_moment : GoodIn wsX6_unset (wsV RX6 94 RX6 yX6_moment wsX6_moment) := goodIn_app (goodIn_of _ (by decide +kernel)) ggX6_unset_X6_moment
theorem dX6_unset_0 : decode cX6_unset 0 = .ok (.aload_n 0, 1) := by decide +kernel
theorem dX6_unset_1 : decode cX6_unset 1 = .ok (.iload_n 1, 1) := by decide +kernel
theorem dX6_unset_2 : decode cX6_unset 2 = .ok (.invokevirtual 98, 3) := by decide +kernel
theorem dX6_unset_5 : decode cX6_unset 5 = .ok (.ifCond .ne 5, 3) := by decide +kernel
theorem dX6_unset_8 : decode cX6_unset 8 = .ok (.iconst 0, 1) := by decide +kernel
theorem dX6_unset_9 : decode cX6_unset 9 = .ok (.ireturn, 1) := by decide +kernel
theorem dX6_unset_10 : decode cX6_unset 10 = .ok (.aload_n 0, 1) := by decide +kernel
theorem dX6_unset_11 : decode cX6_unset 11 = .ok (.getfield 32, 3) := by decide +kernel
theorem dX6_unset_14 : decode cX6_unset 14 = .ok (.iload_n 1, 1) := by decide +kernel
theorem dX6_unset_15 : decode cX6_unset 15 = .ok (.iaload, 1) := by decide +kernel
theorem dX6_unset_16 : decode cX6_unset 16 = .ok (.aload_n 0, 1) := by decide +kernel
theorem dX6_unset_17 : decode cX6_unset 17 = .ok (.invokevirtual 94, 3) := by decide +kernel
theorem dX6_unset_20 : decode cX6_unset 20 = .ok (.if_icmp .ne 7, 3) := by decide +kernel
theorem dX6_unset_23 : decode cX6_unset 23 = .ok (.iconst 1, 1) := by decide +kernel
theorem dX6_unset_24 : decode cX6_unset 24 = .ok (.goto 4, 3) := by decide +kernel
theorem dX6_unset_27 : decode cX6_unset 27 = .ok (.iconst 0, 1) := by decide +kernel
theorem dX6_unset_28 : decode cX6_unset 28 = .ok (.istore_n 2, 1) := by decide +kernel
theorem dX6_unset_29 : decode cX6_unset 29 = .ok (.aload_n 0, 1) := by decide +kernel
theorem dX6_unset_30 : decode cX6_unset 30 = .ok (.getfield 32, 3) := by decide +kernel
theorem dX6_unset_33 : decode cX6_unset 33 = .ok (.iload_n 1, 1) := by decide +kernel
theorem dX6_unset_34 : decode cX6_unset 34 = .ok (.iconst (-1), 1) := by decide +kernel
theorem dX6_unset_35 : decode cX6_unset 35 = .ok (.iastore, 1) := by decide +kernel
theorem dX6_unset_36 : decode cX6_unset 36 = .ok (.iload_n 2, 1) := by decide +kernel
theorem dX6_unset_37 : decode cX6_unset 37 = .ok (.ireturn, 1) := by decide +kernel
set_option maxRecDepth 20000 in
theorem ggX6_timerBits_X6_isSet : GoodIn wsX6_timerBits wsX6_isSet := goodIn_r _ [6, 1, 7, 8, 9, 10, 11, 12, 13, 14, 15, 16, 17, 18, 19, 20, 21] rfl (by decide +kernel)
set_option maxRecDepth 20000 in
theorem gX6_timerBits_X6_isSet : GoodIn wsX6_timerBits (wsV RX6 98 RX6 yX6_isSet wsX6_isSet) := goodIn_app (goodIn_of _ (by decide +kernel)) ggX6_timerBits_X6_isSet
theorem dX6_timerBits_0 : decode cX6_timerBits 0 = .ok (.iconst 0, 1) := by decide +kernel
theorem dX6_timerBits_1 : decode cX6_timerBits 1 = .ok (.istore_n 1, 1) := by decide +kernel
theorem dX6_timerBits_2 : decode cX6_timerBits 2 = .ok (.iconst 0, 1) := by decide +kernel
theorem dX6_timerBits_3 : decode cX6_timerBits 3 = .ok (.istore_n 2, 1) := by decide +kernel
theorem dX6_timerBits_4 : decode cX6_timerBits 4 = .ok (.iload_n 2, 1) := by decide +kernel
theorem dX6_timerBits_5 : decode cX6_timerBits 5 = .ok (.aload_n 0, 1) := by decide +kernel
theorem dX6_timerBits_6 : decode cX6_timerBits 6 = .ok (.getfield 32, 3) := by decide +kernel
theorem dX6_timerBits_9 : decode cX6_timerBits 9 = .ok (.arraylength, 1) := by decide +kernel
theorem dX6_timerBits_10 : decode cX6_timerBits 10 = .ok (.if_icmp .ge 23, 3) := by decide +kernel
theorem dX6_timerBits_13 : decode cX6_timerBits 13 = .ok (.aload_n 0, 1) := by decide +kernel
theorem dX6_timerBits_14 : decode cX6_timerBits 14 = .ok (.iload_n 2, 1) := by decide +kernel
theorem dX6_timerBits_15 : decode cX6_timerBits 15 = .ok (.invokevirtual 98, 3) := by decide +kernel
theorem dX6_timerBits_18 : decode cX6_timerBits 18 = .ok (.ifCond .eq 9, 3) := by decide +kernel
theorem dX6_timerBits_21 : decode cX6_timerBits 21 = .ok (.iload_n 1, 1) := by decide +kernel
theorem dX6_timerBits_22 : decode cX6_timerBits 22 = .ok (.iconst 1, 1) := by decide +kernel
theorem dX6_timerBits_23 : decode cX6_timerBits 23 = .ok (.iload_n 2, 1) := by decide +kernel
theorem dX6_timerBits_24 : decode cX6_timerBits 24 = .ok (.ishl, 1) := by decide +kernel
theorem dX6_timerBits_25 : decode cX6_timerBits 25 = .ok (.ior, 1) := by decide +kernel
theorem dX6_timerBits_26 : decode cX6_timerBits 26 = .ok (.istore_n 1, 1) := by decide +kernel
theorem dX6_timerBits_27 : decode cX6_timerBits 27 = .ok (.iinc 2 1, 3) := by decide +kernel
theorem dX6_timerBits_30 : decode cX6_timerBits 30 = .ok (.goto (-26), 3) := by decide +kernel
theorem dX6_timerBits_33 : decode cX6_timerBits 33 = .ok (.iload_n 1, 1) := by decide +kernel
theorem dX6_timerBits_34 : decode cX6_timerBits 34 = .ok (.ireturn, 1) := by decide +kernel
set_option maxRecDepth 20000 in
theorem ggX6_standing_X6_isDone : GoodIn wsX6_standing wsX6_isDone := goodIn_r _ [7, 8, 9, 10, 11, 12, 13, 14, 15, 16, 17, 18, 19, 20, 21, 22, 23] rfl (by decide +kernel)
set_option maxRecDepth 20000 in
theorem gX6_standing_X6_isDone : GoodIn wsX6_standing (wsV RX6 101 RX6 yX6_isDone wsX6_isDone) := goodIn_app (goodIn_of _ (by decide +kernel)) ggX6_standing_X6_isDone
theorem dX6_standing_0 : decode cX6_standing 0 = .ok (.aload_n 0, 1) := by decide +kernel
theorem dX6_standing_1 : decode cX6_standing 1 = .ok (.getfield 43, 3) := by decide +kernel
theorem dX6_standing_4 : decode cX6_standing 4 = .ok (.ifCond .eq 5, 3) := by decide +kernel
theorem dX6_standing_7 : decode cX6_standing 7 = .ok (.iconst 1, 1) := by decide +kernel
theorem dX6_standing_8 : decode cX6_standing 8 = .ok (.ireturn, 1) := by decide +kernel
theorem dX6_standing_9 : decode cX6_standing 9 = .ok (.aload_n 0, 1) := by decide +kernel
theorem dX6_standing_10 : decode cX6_standing 10 = .ok (.invokevirtual 101, 3) := by decide +kernel
theorem dX6_standing_13 : decode cX6_standing 13 = .ok (.ifCond .eq 5, 3) := by decide +kernel
theorem dX6_standing_16 : decode cX6_standing 16 = .ok (.iconst 2, 1) := by decide +kernel
theorem dX6_standing_17 : decode cX6_standing 17 = .ok (.ireturn, 1) := by decide +kernel
theorem dX6_standing_18 : decode cX6_standing 18 = .ok (.aload_n 0, 1) := by decide +kernel
theorem dX6_standing_19 : decode cX6_standing 19 = .ok (.getfield 57, 3) := by decide +kernel
theorem dX6_standing_22 : decode cX6_standing 22 = .ok (.ifCond .eq 7, 3) := by decide +kernel
theorem dX6_standing_25 : decode cX6_standing 25 = .ok (.iconst 3, 1) := by decide +kernel
theorem dX6_standing_26 : decode cX6_standing 26 = .ok (.goto 4, 3) := by decide +kernel
theorem dX6_standing_29 : decode cX6_standing 29 = .ok (.iconst 0, 1) := by decide +kernel
theorem dX6_standing_30 : decode cX6_standing 30 = .ok (.ireturn, 1) := by decide +kernel
theorem dX6_moment_0 : decode cX6_moment 0 = .ok (.aload_n 0, 1) := by decide +kernel
theorem dX6_moment_1 : decode cX6_moment 1 = .ok (.getfield 47, 3) := by decide +kernel
theorem dX6_moment_4 : decode cX6_moment 4 = .ok (.bipush 10, 2) := by decide +kernel
theorem dX6_moment_6 : decode cX6_moment 6 = .ok (.imul, 1) := by decide +kernel
theorem dX6_moment_7 : decode cX6_moment 7 = .ok (.aload_n 0, 1) := by decide +kernel
theorem dX6_moment_8 : decode cX6_moment 8 = .ok (.getfield 71, 3) := by decide +kernel
theorem dX6_moment_11 : decode cX6_moment 11 = .ok (.iadd, 1) := by decide +kernel
theorem dX6_moment_12 : decode cX6_moment 12 = .ok (.ireturn, 1) := by decide +kernel
