theorem dX5_init_0 : decode cX5_init 0 = .ok (.aload_n 0, 1) := by decide +kernel
theorem dX5_init_1 : decode cX5_init 1 = .ok (.invokespecial 3, 3) := by decide +kernel
theorem dX5_init_4 : decode cX5_init 4 = .ok (.aload_n 0, 1) := by decide +kernel
theorem dX5_init_5 : decode cX5_init 5 = .ok (.aload_n 1, 1) := by decide +kernel
theorem dX5_init_6 : decode cX5_init 6 = .ok (.putfield 9, 3) := by decide +kernel
theorem dX5_init_9 : decode cX5_init 9 = .ok (.aload_n 0, 1) := by decide +kernel
theorem dX5_init_10 : decode cX5_init 10 = .ok (.aload_n 2, 1) := by decide +kernel
theorem dX5_init_11 : decode cX5_init 11 = .ok (.putfield 15, 3) := by decide +kernel
theorem dX5_init_14 : decode cX5_init 14 = .ok (.return_, 1) := by decide +kernel
set_option maxRecDepth 20000 in
theorem ggX5_ring_X6_unset : GoodIn wsX5_ring wsX6_unset := goodIn_r _ [7, 8, 9, 10, 11, 6, 12, 13, 14, 15, 16, 17, 18, 104, 105, 106, 107, 108, 109, 110, 111, 112, 113, 114, 115, 116, 117, 118] rfl (by decide +kernel)
set_option maxRecDepth 20000 in
theorem gX5_ring_X6_unset : GoodIn wsX5_ring (wsV RX5 19 RX6 yX6_unset wsX6_unset) := goodIn_app (goodIn_of _ (by decide +kernel)) ggX5_ring_X6_unset
set_option maxRecDepth 20000 in
theorem ggX5_ring_X5_vote : GoodIn wsX5_ring wsX5_vote := goodIn_r _ [23, 1, 24, 25, 26, 22, 27, 28, 29, 30, 2, 31, 32, 33, 34, 35, 36, 37, 38, 39, 40, 41, 42, 43, 44, 45, 46, 47, 48, 49, 50, 51, 52, 53, 54, 55, 56, 57, 58, 104, 105, 106, 107, 108, 109, 110, 111, 112, 113, 114, 115, 116, 117, 118, 119, 120, 121, 122, 123, 124, 125, 126, 127, 128, 129, 130, 131, 132] rfl (by decide +kernel)
set_option maxRecDepth 20000 in
theorem gX5_ring_X5_vote : GoodIn wsX5_ring (wsV RX5 29 RX5 yX5_vote wsX5_vote) := goodIn_app (goodIn_of _ (by decide +kernel)) ggX5_ring_X5_vote
set_option maxRecDepth 20000 in
theorem ggX5_ring_X5_start : GoodIn wsX5_ring wsX5_start := goodIn_r _ [62, 63, 64, 30, 29, 65, 66, 67, 68, 69, 70, 6, 71, 18, 72, 73, 74, 75, 76, 77, 78, 79, 80, 81, 82, 83, 84, 85, 8, 13, 14, 15, 16, 17, 86, 87, 88, 89, 90, 91, 92, 93, 94, 95, 96, 97, 98, 99, 100, 101, 102, 103, 24, 25, 26, 22, 27, 28, 2, 31, 32, 33, 34, 35, 36, 37, 38, 39, 40, 41, 42, 43, 44, 45, 46, 47, 48, 49, 50, 51, 52, 53, 54, 55, 56, 57, 58, 104, 105, 106, 107, 108, 109, 110, 111, 112, 113, 114, 115, 116, 117, 118, 119, 120, 133, 134, 135, 136, 137, 121, 122, 123, 124, 125, 126, 127, 128, 129, 130, 131, 132] rfl (by decide +kernel)
set_option maxRecDepth 20000 in
theorem gX5_ring_X5_start : GoodIn wsX5_ring (wsV RX5 36 RX5 yX5_start wsX5_start) := goodIn_app (goodIn_of _ (by decide +kernel)) ggX5_ring_X5_start
theorem dX5_ring_0 : decode cX5_ring 0 = .ok (.aload_n 1, 1) := by decide +kernel
theorem dX5_ring_1 : decode cX5_ring 1 = .ok (.iload_n 2, 1) := by decide +kernel
theorem dX5_ring_2 : decode cX5_ring 2 = .ok (.invokevirtual 19, 3) := by decide +kernel
theorem dX5_ring_5 : decode cX5_ring 5 = .ok (.ifCond .ne 4, 3) := by decide +kernel
theorem dX5_ring_8 : decode cX5_ring 8 = .ok (.return_, 1) := by decide +kernel
theorem dX5_ring_9 : decode cX5_ring 9 = .ok (.iload_n 2, 1) := by decide +kernel
theorem dX5_ring_10 : decode cX5_ring 10 = .ok (.ifCond .ne 20, 3) := by decide +kernel
theorem dX5_ring_13 : decode cX5_ring 13 = .ok (.aload_n 1, 1) := by decide +kernel
theorem dX5_ring_14 : decode cX5_ring 14 = .ok (.getfield 25, 3) := by decide +kernel
theorem dX5_ring_17 : decode cX5_ring 17 = .ok (.ifCond .ne 13, 3) := by decide +kernel
theorem dX5_ring_20 : decode cX5_ring 20 = .ok (.aload_n 0, 1) := by decide +kernel
theorem dX5_ring_21 : decode cX5_ring 21 = .ok (.aload_n 1, 1) := by decide +kernel
theorem dX5_ring_22 : decode cX5_ring 22 = .ok (.iconst 1, 1) := by decide +kernel
theorem dX5_ring_23 : decode cX5_ring 23 = .ok (.iconst (-1), 1) := by decide +kernel
theorem dX5_ring_24 : decode cX5_ring 24 = .ok (.invokevirtual 29, 3) := by decide +kernel
theorem dX5_ring_27 : decode cX5_ring 27 = .ok (.goto 42, 3) := by decide +kernel
theorem dX5_ring_30 : decode cX5_ring 30 = .ok (.iload_n 2, 1) := by decide +kernel
theorem dX5_ring_31 : decode cX5_ring 31 = .ok (.iconst 1, 1) := by decide +kernel
theorem dX5_ring_32 : decode cX5_ring 32 = .ok (.if_icmp .ne 21, 3) := by decide +kernel
theorem dX5_ring_35 : decode cX5_ring 35 = .ok (.aload_n 1, 1) := by decide +kernel
theorem dX5_ring_36 : decode cX5_ring 36 = .ok (.getfield 25, 3) := by decide +kernel
theorem dX5_ring_39 : decode cX5_ring 39 = .ok (.iconst 1, 1) := by decide +kernel
theorem dX5_ring_40 : decode cX5_ring 40 = .ok (.if_icmp .ne 13, 3) := by decide +kernel
theorem dX5_ring_43 : decode cX5_ring 43 = .ok (.aload_n 0, 1) := by decide +kernel
theorem dX5_ring_44 : decode cX5_ring 44 = .ok (.aload_n 1, 1) := by decide +kernel
theorem dX5_ring_45 : decode cX5_ring 45 = .ok (.iconst 2, 1) := by decide +kernel
theorem dX5_ring_46 : decode cX5_ring 46 = .ok (.iconst (-1), 1) := by decide +kernel
theorem dX5_ring_47 : decode cX5_ring 47 = .ok (.invokevirtual 29, 3) := by decide +kernel
theorem dX5_ring_50 : decode cX5_ring 50 = .ok (.goto 19, 3) := by decide +kernel
theorem dX5_ring_53 : decode cX5_ring 53 = .ok (.iload_n 2, 1) := by decide +kernel
theorem dX5_ring_54 : decode cX5_ring 54 = .ok (.iconst 2, 1) := by decide +kernel
theorem dX5_ring_55 : decode cX5_ring 55 = .ok (.if_icmp .ne 14, 3) := by decide +kernel
theorem dX5_ring_58 : decode cX5_ring 58 = .ok (.aload_n 0, 1) := by decide +kernel
theorem dX5_ring_59 : decode cX5_ring 59 = .ok (.aload_n 1, 1) := by decide +kernel
theorem dX5_ring_60 : decode cX5_ring 60 = .ok (.aload_n 1, 1) := by decide +kernel
theorem dX5_ring_61 : decode cX5_ring 61 = .ok (.getfield 33, 3) := by decide +kernel
theorem dX5_ring_64 : decode cX5_ring 64 = .ok (.iconst 1, 1) := by decide +kernel
theorem dX5_ring_65 : decode cX5_ring 65 = .ok (.iadd, 1) := by decide +kernel
theorem dX5_ring_66 : decode cX5_ring 66 = .ok (.invokevirtual 36, 3) := by decide +kernel
theorem dX5_ring_69 : decode cX5_ring 69 = .ok (.return_, 1) := by decide +kernel
set_option maxRecDepth 20000 in
theorem ggX5_start_X6_enter : GoodIn wsX5_start wsX6_enter := goodIn_r _ [12, 13, 14, 15, 16, 17, 87, 88, 89, 90, 91, 92, 93, 94, 95, 96, 97, 98, 99, 100, 101] rfl (by decide +kernel)
set_option maxRecDepth 20000 in
theorem gX5_start_X6_enter : GoodIn wsX5_start (wsV RX5 44 RX6 yX6_enter wsX6_enter) := goodIn_app (goodIn_of _ (by decide +kernel)) ggX5_start_X6_enter
set_option maxRecDepth 20000 in
theorem ggX5_start_X1_proposer : GoodIn wsX5_start wsX1_proposer := goodIn_r _ [22, 23, 106] rfl (by decide +kernel)
set_option maxRecDepth 20000 in
theorem gX5_start_X1_proposer : GoodIn wsX5_start (wsV RX5 51 RX1 yX1_proposer wsX1_proposer) := goodIn_app (goodIn_of _ (by decide +kernel)) ggX5_start_X1_proposer
set_option maxRecDepth 20000 in
theorem ggX5_start_X6_set : GoodIn wsX5_start wsX6_set := goodIn_r _ [27, 28, 29, 30, 31, 11, 32, 33, 13, 87, 88, 89, 90, 91, 92, 93, 94, 95, 96, 97, 98, 99, 100, 101] rfl (by decide +kernel)
set_option maxRecDepth 20000 in
theorem gX5_start_X6_set : GoodIn wsX5_start (wsV RX5 60 RX6 yX6_set wsX6_set) := goodIn_app (goodIn_of _ (by decide +kernel)) ggX5_start_X6_set
set_option maxRecDepth 20000 in
theorem ggX5_start_X3_isNone : GoodIn wsX5_start wsX3_isNone := goodIn_r _ [38, 39, 104, 105] rfl (by decide +kernel)
set_option maxRecDepth 20000 in
theorem gX5_start_X3_isNone : GoodIn wsX5_start (wsV RX5 67 RX3 yX3_isNone wsX3_isNone) := goodIn_app (goodIn_of _ (by decide +kernel)) ggX5_start_X3_isNone
set_option maxRecDepth 20000 in
theorem ggX5_start_X6_leastRightValue : GoodIn wsX5_start wsX6_leastRightValue := goodIn_r _ [43, 44, 45, 46, 47, 48, 49, 50, 51, 87, 88, 89, 90, 91, 92, 93, 94, 95, 96, 97, 98, 99, 100, 101, 107, 108] rfl (by decide +kernel)
set_option maxRecDepth 20000 in
theorem gX5_start_X6_leastRightValue : GoodIn wsX5_start (wsV RX5 73 RX6 yX6_leastRightValue wsX6_leastRightValue) := goodIn_app (goodIn_of _ (by decide +kernel)) ggX5_start_X6_leastRightValue
set_option maxRecDepth 20000 in
theorem ggX5_start_X5_send : GoodIn wsX5_start wsX5_send := goodIn_r _ [56, 57, 4, 3, 58, 59, 60, 61, 62, 63, 64, 65, 66, 67, 68, 69, 70, 71, 72, 73, 74, 75, 76, 77, 78, 79, 80, 81, 82, 83, 84, 85, 86, 102, 103, 87, 88, 89, 90, 91, 92, 93, 94, 95, 96, 97, 98, 99, 100, 101, 109, 110, 111, 112, 113, 114, 115, 116, 117, 118, 119, 120] rfl (by decide +kernel)
set_option maxRecDepth 20000 in
theorem gX5_start_X5_send : GoodIn wsX5_start (wsV RX5 77 RX5 yX5_send wsX5_send) := goodIn_app (goodIn_of _ (by decide +kernel)) ggX5_start_X5_send
theorem dX5_start_0 : decode cX5_start 0 = .ok (.iload_n 2, 1) := by decide +kernel
theorem dX5_start_1 : decode cX5_start 1 = .ok (.bipush 10, 2) := by decide +kernel
theorem dX5_start_3 : decode cX5_start 3 = .ok (.if_icmp .lt 9, 3) := by decide +kernel
theorem dX5_start_6 : decode cX5_start 6 = .ok (.aload_n 1, 1) := by decide +kernel
theorem dX5_start_7 : decode cX5_start 7 = .ok (.iconst 1, 1) := by decide +kernel
theorem dX5_start_8 : decode cX5_start 8 = .ok (.putfield 40, 3) := by decide +kernel
theorem dX5_start_11 : decode cX5_start 11 = .ok (.return_, 1) := by decide +kernel
theorem dX5_start_12 : decode cX5_start 12 = .ok (.aload_n 1, 1) := by decide +kernel
theorem dX5_start_13 : decode cX5_start 13 = .ok (.iload_n 2, 1) := by decide +kernel
theorem dX5_start_14 : decode cX5_start 14 = .ok (.invokevirtual 44, 3) := by decide +kernel
theorem dX5_start_17 : decode cX5_start 17 = .ok (.aload_n 0, 1) := by decide +kernel
theorem dX5_start_18 : decode cX5_start 18 = .ok (.getfield 9, 3) := by decide +kernel
theorem dX5_start_21 : decode cX5_start 21 = .ok (.aload_n 1, 1) := by decide +kernel
theorem dX5_start_22 : decode cX5_start 22 = .ok (.getfield 48, 3) := by decide +kernel
theorem dX5_start_25 : decode cX5_start 25 = .ok (.iload_n 2, 1) := by decide +kernel
theorem dX5_start_26 : decode cX5_start 26 = .ok (.invokevirtual 51, 3) := by decide +kernel
theorem dX5_start_29 : decode cX5_start 29 = .ok (.aload_n 1, 1) := by decide +kernel
theorem dX5_start_30 : decode cX5_start 30 = .ok (.getfield 57, 3) := by decide +kernel
theorem dX5_start_33 : decode cX5_start 33 = .ok (.if_icmp .eq 11, 3) := by decide +kernel
theorem dX5_start_36 : decode cX5_start 36 = .ok (.aload_n 1, 1) := by decide +kernel
theorem dX5_start_37 : decode cX5_start 37 = .ok (.iconst 0, 1) := by decide +kernel
theorem dX5_start_38 : decode cX5_start 38 = .ok (.invokevirtual 60, 3) := by decide +kernel
theorem dX5_start_41 : decode cX5_start 41 = .ok (.goto 47, 3) := by decide +kernel
theorem dX5_start_44 : decode cX5_start 44 = .ok (.aload_n 1, 1) := by decide +kernel
theorem dX5_start_45 : decode cX5_start 45 = .ok (.getfield 63, 3) := by decide +kernel
theorem dX5_start_48 : decode cX5_start 48 = .ok (.invokevirtual 67, 3) := by decide +kernel
theorem dX5_start_51 : decode cX5_start 51 = .ok (.ifCond .eq 17, 3) := by decide +kernel
theorem dX5_start_54 : decode cX5_start 54 = .ok (.aload_n 0, 1) := by decide +kernel
theorem dX5_start_55 : decode cX5_start 55 = .ok (.aload_n 1, 1) := by decide +kernel
theorem dX5_start_56 : decode cX5_start 56 = .ok (.iconst 0, 1) := by decide +kernel
theorem dX5_start_57 : decode cX5_start 57 = .ok (.aload_n 1, 1) := by decide +kernel
theorem dX5_start_58 : decode cX5_start 58 = .ok (.invokevirtual 73, 3) := by decide +kernel
theorem dX5_start_61 : decode cX5_start 61 = .ok (.iconst (-1), 1) := by decide +kernel
theorem dX5_start_62 : decode cX5_start 62 = .ok (.invokevirtual 77, 3) := by decide +kernel
theorem dX5_start_65 : decode cX5_start 65 = .ok (.goto 23, 3) := by decide +kernel
theorem dX5_start_68 : decode cX5_start 68 = .ok (.aload_n 0, 1) := by decide +kernel
theorem dX5_start_69 : decode cX5_start 69 = .ok (.aload_n 1, 1) := by decide +kernel
theorem dX5_start_70 : decode cX5_start 70 = .ok (.iconst 0, 1) := by decide +kernel
theorem dX5_start_71 : decode cX5_start 71 = .ok (.aload_n 1, 1) := by decide +kernel
theorem dX5_start_72 : decode cX5_start 72 = .ok (.getfield 63, 3) := by decide +kernel
theorem dX5_start_75 : decode cX5_start 75 = .ok (.getfield 81, 3) := by decide +kernel
theorem dX5_start_78 : decode cX5_start 78 = .ok (.aload_n 1, 1) := by decide +kernel
theorem dX5_start_79 : decode cX5_start 79 = .ok (.getfield 63, 3) := by decide +kernel
theorem dX5_start_82 : decode cX5_start 82 = .ok (.getfield 84, 3) := by decide +kernel
theorem dX5_start_85 : decode cX5_start 85 = .ok (.invokevirtual 77, 3) := by decide +kernel
theorem dX5_start_88 : decode cX5_start 88 = .ok (.return_, 1) := by decide +kernel
set_option maxRecDepth 20000 in
theorem ggX5_send_X4_send : GoodIn wsX5_send wsX4_send := goodIn_r _ [9, 10, 11, 12, 13, 14, 15, 16, 17, 18, 19, 20, 21, 22, 23, 24, 25, 26, 27, 28, 29, 30, 31, 32, 50, 51, 52, 53, 54, 55, 56, 57, 58, 59, 60, 61] rfl (by decide +kernel)
set_option maxRecDepth 20000 in
theorem gX5_send_X4_send : GoodIn wsX5_send (wsV RX5 85 RX4 yX4_send wsX4_send) := goodIn_app (goodIn_of _ (by decide +kernel)) ggX5_send_X4_send
theorem dX5_send_0 : decode cX5_send 0 = .ok (.aload_n 0, 1) := by decide +kernel
theorem dX5_send_1 : decode cX5_send 1 = .ok (.getfield 15, 3) := by decide +kernel
theorem dX5_send_4 : decode cX5_send 4 = .ok (.aload_n 1, 1) := by decide +kernel
theorem dX5_send_5 : decode cX5_send 5 = .ok (.getfield 57, 3) := by decide +kernel
theorem dX5_send_8 : decode cX5_send 8 = .ok (.iload_n 2, 1) := by decide +kernel
theorem dX5_send_9 : decode cX5_send 9 = .ok (.aload_n 1, 1) := by decide +kernel
theorem dX5_send_10 : decode cX5_send 10 = .ok (.getfield 48, 3) := by decide +kernel
theorem dX5_send_13 : decode cX5_send 13 = .ok (.aload_n 1, 1) := by decide +kernel
theorem dX5_send_14 : decode cX5_send 14 = .ok (.getfield 33, 3) := by decide +kernel
theorem dX5_send_17 : decode cX5_send 17 = .ok (.iload_n 3, 1) := by decide +kernel
theorem dX5_send_18 : decode cX5_send 18 = .ok (.iload 4, 2) := by decide +kernel
theorem dX5_send_20 : decode cX5_send 20 = .ok (.iconst 1, 1) := by decide +kernel
theorem dX5_send_21 : decode cX5_send 21 = .ok (.aload_n 1, 1) := by decide +kernel
theorem dX5_send_22 : decode cX5_send 22 = .ok (.getfield 57, 3) := by decide +kernel
theorem dX5_send_25 : decode cX5_send 25 = .ok (.ishl, 1) := by decide +kernel
theorem dX5_send_26 : decode cX5_send 26 = .ok (.invokevirtual 85, 3) := by decide +kernel
theorem dX5_send_29 : decode cX5_send 29 = .ok (.return_, 1) := by decide +kernel
set_option maxRecDepth 20000 in
theorem ggX5_vote_X5_send : GoodIn wsX5_vote wsX5_send := goodIn_r _ [6, 7, 8, 9, 10, 11, 12, 13, 14, 15, 16, 17, 18, 19, 20, 21, 22, 23, 24, 25, 26, 27, 28, 29, 30, 31, 32, 33, 34, 35, 36, 37, 38, 54, 55, 39, 40, 41, 42, 43, 44, 45, 46, 47, 48, 49, 50, 51, 52, 53, 56, 57, 58, 59, 60, 61, 62, 63, 64, 65, 66, 67] rfl (by decide +kernel)
set_option maxRecDepth 20000 in
theorem gX5_vote_X5_send : GoodIn wsX5_vote (wsV RX5 77 RX5 yX5_send wsX5_send) := goodIn_app (goodIn_of _ (by decide +kernel)) ggX5_vote_X5_send
theorem dX5_vote_0 : decode cX5_vote 0 = .ok (.aload_n 0, 1) := by decide +kernel
theorem dX5_vote_1 : decode cX5_vote 1 = .ok (.aload_n 1, 1) := by decide +kernel
theorem dX5_vote_2 : decode cX5_vote 2 = .ok (.iload_n 2, 1) := by decide +kernel
theorem dX5_vote_3 : decode cX5_vote 3 = .ok (.iload_n 3, 1) := by decide +kernel
theorem dX5_vote_4 : decode cX5_vote 4 = .ok (.iconst (-1), 1) := by decide +kernel
theorem dX5_vote_5 : decode cX5_vote 5 = .ok (.invokevirtual 77, 3) := by decide +kernel
theorem dX5_vote_8 : decode cX5_vote 8 = .ok (.aload_n 1, 1) := by decide +kernel
theorem dX5_vote_9 : decode cX5_vote 9 = .ok (.iload_n 2, 1) := by decide +kernel
theorem dX5_vote_10 : decode cX5_vote 10 = .ok (.putfield 25, 3) := by decide +kernel
theorem dX5_vote_13 : decode cX5_vote 13 = .ok (.return_, 1) := by decide +kernel
set_option maxRecDepth 20000 in
theorem ggX5_go_X6_isDone : GoodIn wsX5_go wsX6_isDone := goodIn_r _ [6, 7, 220, 221, 222, 223, 224, 225, 226, 227, 228, 229, 230, 231, 232, 233, 234] rfl (by decide +kernel)
set_option maxRecDepth 20000 in
theorem gX5_go_X6_isDone : GoodIn wsX5_go (wsV RX5 91 RX6 yX6_isDone wsX6_isDone) := goodIn_app (goodIn_of _ (by decide +kernel)) ggX5_go_X6_isDone
set_option maxRecDepth 20000 in
theorem ggX5_go_X5_decides : GoodIn wsX5_go wsX5_decides := goodIn_r _ [12, 13, 14, 15, 16, 11, 17, 18, 19, 20, 21, 22, 23, 24, 25, 26, 27, 28, 29, 30, 31, 32, 33, 34, 35, 36, 37, 38, 39, 40, 41, 42, 43, 44, 45, 46, 47, 48, 49, 50, 51, 52, 53, 54, 55, 56, 57, 58, 59, 60, 61, 62, 63, 64, 65, 66, 67, 68, 69, 70, 71, 72, 73, 74, 75, 76, 77, 78, 79, 80, 81, 82, 5, 83, 84, 7, 85, 86, 87, 88, 89, 90, 91, 92, 93, 94, 95, 96, 97, 98, 99, 100, 101, 102, 103, 104, 105, 106, 107, 108, 109, 110, 111, 112, 113, 114, 115, 116, 117, 2, 3, 4, 6, 118, 119, 120, 121, 122, 123, 124, 125, 126, 127, 128, 129, 130, 131, 132, 133, 134, 135, 136, 137, 138, 139, 140, 141, 142, 143, 144, 145, 146, 147, 148, 149, 150, 151, 152, 153, 154, 155, 156, 157, 158, 159, 160, 161, 162, 163, 164, 165, 166, 167, 168, 235, 236, 237, 238, 239, 240, 241, 242, 243, 244, 220, 221, 222, 223, 224, 225, 226, 227, 228, 229, 230, 231, 232, 233, 234, 245, 246, 247, 248, 249, 250, 251, 252, 253] rfl (by decide +kernel)
set_option maxRecDepth 20000 in
theorem gX5_go_X5_decides : GoodIn wsX5_go (wsV RX5 94 RX5 yX5_decides wsX5_decides) := goodIn_app (goodIn_of _ (by decide +kernel)) ggX5_go_X5_decides
set_option maxRecDepth 20000 in
theorem ggX5_go_X5_catchesUp : GoodIn wsX5_go wsX5_catchesUp := goodIn_r _ [172, 149, 37, 173, 174, 175, 11, 176, 18, 19, 35, 36, 21, 22, 23, 24, 25, 26, 27, 28, 29, 30, 40, 41, 42, 43, 44, 45, 177, 70, 71, 72, 73, 74, 75, 178, 179, 180, 49, 181, 51, 118, 119, 120, 121, 122, 123, 124, 125, 126, 110, 111, 5, 112, 113, 114, 115, 116, 117, 46, 47, 48, 50, 127, 128, 129, 130, 97, 131, 132, 133, 134, 7, 135, 136, 137, 101, 138, 103, 139, 140, 141, 142, 143, 84, 144, 53, 54, 55, 56, 57, 145, 146, 147, 148, 150, 151, 152, 153, 154, 155, 156, 157, 158, 66, 159, 160, 161, 65, 162, 163, 67, 164, 165, 166, 167, 168, 220, 221, 222, 223, 224, 225, 226, 227, 228, 229, 230, 231, 232, 233, 234, 243, 244, 235, 236, 237, 238, 239, 240, 241, 242, 245, 246, 247, 248, 249, 252, 253, 250, 251] rfl (by decide +kernel)
set_option maxRecDepth 20000 in
theorem gX5_go_X5_catchesUp : GoodIn wsX5_go (wsV RX5 98 RX5 yX5_catchesUp wsX5_catchesUp) := goodIn_app (goodIn_of _ (by decide +kernel)) ggX5_go_X5_catchesUp
set_option maxRecDepth 20000 in
theorem ggX5_go_X5_prevotesNew : GoodIn wsX5_go wsX5_prevotesNew := goodIn_r _ [185, 186, 18, 19, 149, 187, 188, 124, 13, 20, 21, 22, 23, 24, 25, 26, 27, 28, 29, 30, 31, 32, 33, 11, 34, 35, 36, 37, 38, 39, 40, 41, 42, 43, 44, 45, 46, 47, 48, 49, 50, 51, 135, 136, 137, 101, 138, 103, 52, 53, 54, 55, 56, 57, 189, 190, 191, 192, 145, 146, 147, 148, 150, 151, 152, 153, 154, 155, 156, 157, 158, 66, 159, 160, 161, 65, 162, 163, 67, 164, 165, 166, 167, 168, 220, 221, 222, 223, 224, 225, 226, 227, 228, 229, 230, 231, 232, 233, 234, 243, 244, 235, 236, 237, 238, 239, 240, 241, 242, 252, 253, 245, 246, 247, 248, 249, 250, 251] rfl (by decide +kernel)
set_option maxRecDepth 20000 in
theorem gX5_go_X5_prevotesNew : GoodIn wsX5_go (wsV RX5 101 RX5 yX5_prevotesNew wsX5_prevotesNew) := goodIn_app (goodIn_of _ (by decide +kernel)) ggX5_go_X5_prevotesNew
set_option maxRecDepth 20000 in
theorem ggX5_go_X5_prevotesOld : GoodIn wsX5_go wsX5_prevotesOld := goodIn_r _ [196, 186, 18, 19, 149, 187, 13, 188, 125, 124, 20, 21, 22, 23, 24, 25, 26, 27, 28, 29, 30, 31, 32, 33, 11, 34, 35, 36, 37, 38, 39, 40, 41, 42, 43, 44, 45, 46, 47, 48, 49, 50, 51, 58, 59, 60, 61, 62, 63, 64, 65, 66, 67, 68, 69, 70, 71, 72, 73, 74, 75, 76, 77, 78, 79, 135, 136, 137, 101, 138, 103, 52, 53, 54, 55, 56, 57, 189, 190, 191, 192, 145, 146, 147, 148, 150, 151, 152, 153, 154, 155, 156, 157, 158, 159, 160, 161, 162, 163, 164, 165, 166, 167, 168, 220, 221, 222, 223, 224, 225, 226, 227, 228, 229, 230, 231, 232, 233, 234, 243, 244, 235, 236, 237, 238, 239, 240, 241, 242, 252, 253, 245, 246, 247, 248, 249, 250, 251] rfl (by decide +kernel)
set_option maxRecDepth 20000 in
theorem gX5_go_X5_prevotesOld : GoodIn wsX5_go (wsV RX5 104 RX5 yX5_prevotesOld wsX5_prevotesOld) := goodIn_app (goodIn_of _ (by decide +kernel)) ggX5_go_X5_prevotesOld
set_option maxRecDepth 20000 in
theorem ggX5_go_X5_locks : GoodIn wsX5_go wsX5_locks := goodIn_r _ [200, 186, 201, 149, 188, 13, 123, 14, 15, 16, 11, 17, 18, 19, 20, 21, 22, 23, 24, 25, 26, 27, 28, 29, 30, 31, 32, 33, 34, 35, 36, 37, 38, 39, 40, 41, 42, 43, 44, 45, 46, 47, 48, 49, 50, 51, 52, 53, 54, 55, 56, 57, 58, 59, 60, 61, 62, 63, 64, 65, 66, 67, 68, 69, 70, 71, 72, 73, 74, 75, 76, 77, 78, 79, 202, 203, 204, 101, 205, 103, 104, 189, 190, 191, 192, 145, 146, 147, 148, 150, 151, 152, 153, 154, 155, 156, 157, 158, 159, 160, 161, 162, 163, 164, 165, 166, 167, 168, 220, 221, 222, 223, 224, 225, 226, 227, 228, 229, 230, 231, 232, 233, 234, 235, 236, 237, 238, 239, 240, 241, 242, 243, 244, 245, 246, 247, 248, 249, 250, 251, 252, 253] rfl (by decide +kernel)
set_option maxRecDepth 20000 in
theorem gX5_go_X5_locks : GoodIn wsX5_go (wsV RX5 107 RX5 yX5_locks wsX5_locks) := goodIn_app (goodIn_of _ (by decide +kernel)) ggX5_go_X5_locks
set_option maxRecDepth 20000 in
theorem ggX5_go_X5_givesUp : GoodIn wsX5_go wsX5_givesUp := goodIn_r _ [209, 186, 149, 58, 59, 60, 11, 61, 18, 19, 35, 37, 22, 23, 24, 25, 26, 27, 28, 29, 30, 62, 63, 64, 65, 66, 67, 68, 41, 42, 43, 44, 45, 69, 70, 71, 72, 73, 74, 75, 76, 77, 78, 49, 79, 51, 189, 190, 191, 192, 145, 146, 147, 148, 150, 151, 152, 153, 154, 155, 156, 157, 158, 159, 160, 161, 162, 163, 164, 165, 166, 167, 168, 220, 221, 222, 223, 224, 225, 226, 227, 228, 229, 230, 231, 232, 233, 234, 243, 244, 245, 246, 247, 248, 235, 236, 237, 238, 239, 240, 241, 242, 249] rfl (by decide +kernel)
set_option maxRecDepth 20000 in
theorem gX5_go_X5_givesUp : GoodIn wsX5_go (wsV RX5 110 RX5 yX5_givesUp wsX5_givesUp) := goodIn_app (goodIn_of _ (by decide +kernel)) ggX5_go_X5_givesUp
set_option maxRecDepth 20000 in
theorem ggX5_go_X5_timesPrevotes : GoodIn wsX5_go wsX5_timesPrevotes := goodIn_r _ [213, 186, 214, 149, 58, 59, 60, 11, 61, 18, 19, 35, 37, 22, 23, 24, 25, 26, 27, 28, 29, 30, 62, 63, 64, 65, 66, 67, 68, 41, 42, 43, 44, 45, 69, 70, 71, 72, 73, 74, 75, 76, 77, 78, 49, 79, 51, 127, 128, 129, 5, 130, 97, 131, 132, 133, 134, 7, 113, 220, 221, 222, 223, 224, 225, 226, 227, 228, 229, 230, 231, 232, 233, 234, 243, 244, 245, 246, 247, 248, 235, 236, 237, 238, 239, 240, 241, 242, 249] rfl (by decide +kernel)
set_option maxRecDepth 20000 in
theorem gX5_go_X5_timesPrevotes : GoodIn wsX5_go (wsV RX5 113 RX5 yX5_timesPrevotes wsX5_timesPrevotes) := goodIn_app (goodIn_of _ (by decide +kernel)) ggX5_go_X5_timesPrevotes
set_option maxRecDepth 20000 in
theorem ggX5_go_X5_timesPrecommits : GoodIn wsX5_go wsX5_timesPrecommits := goodIn_r _ [218, 219, 149, 58, 59, 60, 11, 61, 18, 19, 35, 37, 22, 23, 24, 25, 26, 27, 28, 29, 30, 62, 63, 64, 65, 66, 67, 68, 41, 42, 43, 44, 45, 69, 70, 71, 72, 73, 74, 75, 76, 77, 78, 49, 79, 51, 127, 128, 129, 5, 130, 97, 131, 132, 133, 134, 7, 113, 220, 221, 222, 223, 224, 225, 226, 227, 228, 229, 230, 231, 232, 233, 234, 243, 244, 245, 246, 247, 248, 235, 236, 237, 238, 239, 240, 241, 242, 249] rfl (by decide +kernel)
set_option maxRecDepth 20000 in
theorem gX5_go_X5_timesPrecommits : GoodIn wsX5_go (wsV RX5 116 RX5 yX5_timesPrecommits wsX5_timesPrecommits) := goodIn_app (goodIn_of _ (by decide +kernel)) ggX5_go_X5_timesPrecommits
theorem dX5_go_0 : decode cX5_go 0 = .ok (.iconst 1, 1) := by decide +kernel
theorem dX5_go_1 : decode cX5_go 1 = .ok (.istore_n 2, 1) := by decide +kernel
theorem dX5_go_2 : decode cX5_go 2 = .ok (.iconst 0, 1) := by decide +kernel
theorem dX5_go_3 : decode cX5_go 3 = .ok (.istore_n 3, 1) := by decide +kernel
theorem dX5_go_4 : decode cX5_go 4 = .ok (.iload_n 3, 1) := by decide +kernel
theorem dX5_go_5 : decode cX5_go 5 = .ok (.ldc 90, 2) := by decide +kernel
theorem dX5_go_7 : decode cX5_go 7 = .ok (.if_icmp .ge 90, 3) := by decide +kernel
theorem dX5_go_10 : decode cX5_go 10 = .ok (.iload_n 2, 1) := by decide +kernel
theorem dX5_go_11 : decode cX5_go 11 = .ok (.ifCond .eq 86, 3) := by decide +kernel
theorem dX5_go_14 : decode cX5_go 14 = .ok (.aload_n 1, 1) := by decide +kernel
theorem dX5_go_15 : decode cX5_go 15 = .ok (.invokevirtual 91, 3) := by decide +kernel
theorem dX5_go_18 : decode cX5_go 18 = .ok (.ifCond .ne 79, 3) := by decide +kernel
theorem dX5_go_21 : decode cX5_go 21 = .ok (.aload_n 0, 1) := by decide +kernel
theorem dX5_go_22 : decode cX5_go 22 = .ok (.aload_n 1, 1) := by decide +kernel
theorem dX5_go_23 : decode cX5_go 23 = .ok (.invokevirtual 94, 3) := by decide +kernel
theorem dX5_go_26 : decode cX5_go 26 = .ok (.ifCond .ne 59, 3) := by decide +kernel
theorem dX5_go_29 : decode cX5_go 29 = .ok (.aload_n 0, 1) := by decide +kernel
theorem dX5_go_30 : decode cX5_go 30 = .ok (.aload_n 1, 1) := by decide +kernel
theorem dX5_go_31 : decode cX5_go 31 = .ok (.invokevirtual 98, 3) := by decide +kernel
theorem dX5_go_34 : decode cX5_go 34 = .ok (.ifCond .ne 51, 3) := by decide +kernel
theorem dX5_go_37 : decode cX5_go 37 = .ok (.aload_n 0, 1) := by decide +kernel
theorem dX5_go_38 : decode cX5_go 38 = .ok (.aload_n 1, 1) := by decide +kernel
theorem dX5_go_39 : decode cX5_go 39 = .ok (.invokevirtual 101, 3) := by decide +kernel
theorem dX5_go_42 : decode cX5_go 42 = .ok (.ifCond .ne 43, 3) := by decide +kernel
theorem dX5_go_45 : decode cX5_go 45 = .ok (.aload_n 0, 1) := by decide +kernel
theorem dX5_go_46 : decode cX5_go 46 = .ok (.aload_n 1, 1) := by decide +kernel
theorem dX5_go_47 : decode cX5_go 47 = .ok (.invokevirtual 104, 3) := by decide +kernel
theorem dX5_go_50 : decode cX5_go 50 = .ok (.ifCond .ne 35, 3) := by decide +kernel
theorem dX5_go_53 : decode cX5_go 53 = .ok (.aload_n 0, 1) := by decide +kernel
theorem dX5_go_54 : decode cX5_go 54 = .ok (.aload_n 1, 1) := by decide +kernel
theorem dX5_go_55 : decode cX5_go 55 = .ok (.invokevirtual 107, 3) := by decide +kernel
theorem dX5_go_58 : decode cX5_go 58 = .ok (.ifCond .ne 27, 3) := by decide +kernel
theorem dX5_go_61 : decode cX5_go 61 = .ok (.aload_n 0, 1) := by decide +kernel
theorem dX5_go_62 : decode cX5_go 62 = .ok (.aload_n 1, 1) := by decide +kernel
theorem dX5_go_63 : decode cX5_go 63 = .ok (.invokevirtual 110, 3) := by decide +kernel
theorem dX5_go_66 : decode cX5_go 66 = .ok (.ifCond .ne 19, 3) := by decide +kernel
theorem dX5_go_69 : decode cX5_go 69 = .ok (.aload_n 0, 1) := by decide +kernel
theorem dX5_go_70 : decode cX5_go 70 = .ok (.aload_n 1, 1) := by decide +kernel
theorem dX5_go_71 : decode cX5_go 71 = .ok (.invokevirtual 113, 3) := by decide +kernel
theorem dX5_go_74 : decode cX5_go 74 = .ok (.ifCond .ne 11, 3) := by decide +kernel
theorem dX5_go_77 : decode cX5_go 77 = .ok (.aload_n 0, 1) := by decide +kernel
theorem dX5_go_78 : decode cX5_go 78 = .ok (.aload_n 1, 1) := by decide +kernel
theorem dX5_go_79 : decode cX5_go 79 = .ok (.invokevirtual 116, 3) := by decide +kernel
theorem dX5_go_82 : decode cX5_go 82 = .ok (.ifCond .eq 7, 3) := by decide +kernel
theorem dX5_go_85 : decode cX5_go 85 = .ok (.iconst 1, 1) := by decide +kernel
theorem dX5_go_86 : decode cX5_go 86 = .ok (.goto 4, 3) := by decide +kernel
theorem dX5_go_89 : decode cX5_go 89 = .ok (.iconst 0, 1) := by decide +kernel
theorem dX5_go_90 : decode cX5_go 90 = .ok (.istore_n 2, 1) := by decide +kernel
theorem dX5_go_91 : decode cX5_go 91 = .ok (.iinc 3 1, 3) := by decide +kernel
theorem dX5_go_94 : decode cX5_go 94 = .ok (.goto (-90), 3) := by decide +kernel
theorem dX5_go_97 : decode cX5_go 97 = .ok (.return_, 1) := by decide +kernel
set_option maxRecDepth 20000 in
theorem ggX5_decides_X5_supported : GoodIn wsX5_decides wsX5_supported := goodIn_r _ [6, 7, 8, 9, 1, 10, 11, 12, 13, 14, 15, 16, 17, 18, 19, 20, 21, 22, 5, 23, 24, 25, 26, 27, 28, 29, 30, 31, 32, 33, 34, 35, 36, 37, 38, 39, 40, 41, 42, 43, 44, 45, 46, 47, 48, 49, 50, 51, 52, 53, 54, 55, 56, 57, 58, 59, 60, 61, 62, 63, 64, 65, 66, 67, 68, 172, 173, 174, 175, 176, 177, 178, 179, 180, 181, 182, 183, 184, 185, 186, 187, 188, 164, 165, 166, 167, 168, 169, 170, 171, 189, 190, 191, 192, 193, 194, 195] rfl (by decide +kernel)
set_option maxRecDepth 20000 in
theorem gX5_decides_X5_supported : GoodIn wsX5_decides (wsV RX5 119 RX5 yX5_supported wsX5_supported) := goodIn_app (goodIn_of _ (by decide +kernel)) ggX5_decides_X5_supported
set_option maxRecDepth 20000 in
theorem ggX5_decides_X6_decide : GoodIn wsX5_decides wsX6_decide := goodIn_r _ [73, 74, 75, 76, 77, 78, 44, 79, 46, 80, 81, 82, 83, 72, 84, 85, 86, 87, 88, 89, 90, 91, 92, 93, 94, 95, 96, 97, 98, 99, 100, 101, 102, 103, 104, 105, 106, 107, 108, 174, 175, 176, 177, 178, 179, 180, 181, 182, 183, 184, 185, 186, 187, 188, 194, 195, 196, 197] rfl (by decide +kernel)
set_option maxRecDepth 20000 in
theorem gX5_decides_X6_decide : GoodIn wsX5_decides (wsV RX5 126 RX6 yX6_decide wsX6_decide) := goodIn_app (goodIn_of _ (by decide +kernel)) ggX5_decides_X6_decide
set_option maxRecDepth 20000 in
theorem ggX5_decides_X6_isDone : GoodIn wsX5_decides wsX6_isDone := goodIn_r _ [112, 75, 174, 175, 176, 177, 178, 179, 180, 181, 182, 183, 184, 185, 186, 187, 188] rfl (by decide +kernel)
set_option maxRecDepth 20000 in
theorem gX5_decides_X6_isDone : GoodIn wsX5_decides (wsV RX5 91 RX6 yX6_isDone wsX6_isDone) := goodIn_app (goodIn_of _ (by decide +kernel)) ggX5_decides_X6_isDone
set_option maxRecDepth 20000 in
theorem ggX5_decides_X5_start : GoodIn wsX5_decides wsX5_start := goodIn_r _ [116, 117, 26, 8, 24, 118, 119, 120, 121, 101, 102, 72, 103, 104, 105, 106, 107, 108, 35, 36, 37, 38, 39, 40, 122, 123, 124, 125, 88, 126, 127, 128, 129, 75, 130, 131, 132, 92, 133, 94, 134, 135, 136, 137, 138, 74, 139, 42, 43, 44, 45, 46, 140, 141, 142, 5, 143, 7, 144, 145, 146, 147, 14, 148, 16, 149, 150, 151, 152, 153, 32, 55, 154, 155, 156, 54, 157, 158, 56, 17, 18, 19, 159, 160, 161, 162, 163, 174, 175, 176, 177, 178, 179, 180, 181, 182, 183, 184, 185, 186, 187, 188, 172, 173, 196, 197, 193, 194, 195, 189, 190, 191, 192, 164, 165, 166, 167, 168, 169, 170, 171] rfl (by decide +kernel)
set_option maxRecDepth 20000 in
theorem gX5_decides_X5_start : GoodIn wsX5_decides (wsV RX5 36 RX5 yX5_start wsX5_start) := goodIn_app (goodIn_of _ (by decide +kernel)) ggX5_decides_X5_start
theorem dX5_decides_0 : decode cX5_decides 0 = .ok (.iconst 0, 1) := by decide +kernel
theorem dX5_decides_1 : decode cX5_decides 1 = .ok (.istore_n 2, 1) := by decide +kernel
theorem dX5_decides_2 : decode cX5_decides 2 = .ok (.iload_n 2, 1) := by decide +kernel
theorem dX5_decides_3 : decode cX5_decides 3 = .ok (.bipush 10, 2) := by decide +kernel
theorem dX5_decides_5 : decode cX5_decides 5 = .ok (.if_icmp .ge 45, 3) := by decide +kernel
theorem dX5_decides_8 : decode cX5_decides 8 = .ok (.aload_n 0, 1) := by decide +kernel
theorem dX5_decides_9 : decode cX5_decides 9 = .ok (.aload_n 1, 1) := by decide +kernel
theorem dX5_decides_10 : decode cX5_decides 10 = .ok (.iload_n 2, 1) := by decide +kernel
theorem dX5_decides_11 : decode cX5_decides 11 = .ok (.iconst 2, 1) := by decide +kernel
theorem dX5_decides_12 : decode cX5_decides 12 = .ok (.invokevirtual 119, 3) := by decide +kernel
theorem dX5_decides_15 : decode cX5_decides 15 = .ok (.astore_n 3, 1) := by decide +kernel
theorem dX5_decides_16 : decode cX5_decides 16 = .ok (.aload_n 3, 1) := by decide +kernel
theorem dX5_decides_17 : decode cX5_decides 17 = .ok (.ifnull 27, 3) := by decide +kernel
theorem dX5_decides_20 : decode cX5_decides 20 = .ok (.aload_n 1, 1) := by decide +kernel
theorem dX5_decides_21 : decode cX5_decides 21 = .ok (.aload_n 3, 1) := by decide +kernel
theorem dX5_decides_22 : decode cX5_decides 22 = .ok (.getfield 123, 3) := by decide +kernel
theorem dX5_decides_25 : decode cX5_decides 25 = .ok (.iload_n 2, 1) := by decide +kernel
theorem dX5_decides_26 : decode cX5_decides 26 = .ok (.invokevirtual 126, 3) := by decide +kernel
theorem dX5_decides_29 : decode cX5_decides 29 = .ok (.aload_n 1, 1) := by decide +kernel
theorem dX5_decides_30 : decode cX5_decides 30 = .ok (.invokevirtual 91, 3) := by decide +kernel
theorem dX5_decides_33 : decode cX5_decides 33 = .ok (.ifCond .ne 9, 3) := by decide +kernel
theorem dX5_decides_36 : decode cX5_decides 36 = .ok (.aload_n 0, 1) := by decide +kernel
theorem dX5_decides_37 : decode cX5_decides 37 = .ok (.aload_n 1, 1) := by decide +kernel
theorem dX5_decides_38 : decode cX5_decides 38 = .ok (.iconst 0, 1) := by decide +kernel
theorem dX5_decides_39 : decode cX5_decides 39 = .ok (.invokevirtual 36, 3) := by decide +kernel
theorem dX5_decides_42 : decode cX5_decides 42 = .ok (.iconst 1, 1) := by decide +kernel
theorem dX5_decides_43 : decode cX5_decides 43 = .ok (.ireturn, 1) := by decide +kernel
theorem dX5_decides_44 : decode cX5_decides 44 = .ok (.iinc 2 1, 3) := by decide +kernel
theorem dX5_decides_47 : decode cX5_decides 47 = .ok (.goto (-45), 3) := by decide +kernel
theorem dX5_decides_50 : decode cX5_decides 50 = .ok (.iconst 0, 1) := by decide +kernel
theorem dX5_decides_51 : decode cX5_decides 51 = .ok (.ireturn, 1) := by decide +kernel
set_option maxRecDepth 20000 in
theorem ggX5_catchesUp_X5_writers : GoodIn wsX5_catchesUp wsX5_writers := goodIn_r _ [7, 8, 9, 10, 11, 12, 13, 14, 15, 16, 17, 18, 19, 20, 21, 22, 23, 24, 25, 26, 27, 132, 133, 117, 118, 119, 120, 121, 122, 123, 124, 125, 126, 127, 128, 129, 130, 131, 134, 135, 136, 137, 138, 139, 140, 141, 142, 143, 144, 145] rfl (by decide +kernel)
set_option maxRecDepth 20000 in
theorem gX5_catchesUp_X5_writers : GoodIn wsX5_catchesUp (wsV RX5 130 RX5 yX5_writers wsX5_writers) := goodIn_app (goodIn_of _ (by decide +kernel)) ggX5_catchesUp_X5_writers
set_option maxRecDepth 20000 in
theorem ggX5_catchesUp_J6_bitCount_0f7a4 : GoodIn wsX5_catchesUp wsJ6_bitCount_0f7a4 := goodIn_r _ [31, 32, 33, 34] rfl (by decide +kernel)
set_option maxRecDepth 20000 in
theorem gX5_catchesUp_J6_bitCount_0f7a4 : GoodIn wsX5_catchesUp (va_wsS RX5 134 yJ6_bitCount_0f7a4 wsJ6_bitCount_0f7a4) := goodIn_app (goodIn_of _ (by decide +kernel)) ggX5_catchesUp_J6_bitCount_0f7a4
set_option maxRecDepth 20000 in
theorem ggX5_catchesUp_X1_some : GoodIn wsX5_catchesUp wsX1_some := goodIn_r _ [39, 40, 146] rfl (by decide +kernel)
set_option maxRecDepth 20000 in
theorem gX5_catchesUp_X1_some : GoodIn wsX5_catchesUp (wsV RX5 140 RX1 yX1_some wsX1_some) := goodIn_app (goodIn_of _ (by decide +kernel)) ggX5_catchesUp_X1_some
set_option maxRecDepth 20000 in
theorem ggX5_catchesUp_X5_start : GoodIn wsX5_catchesUp wsX5_start := goodIn_r _ [44, 45, 2, 9, 10, 46, 47, 48, 49, 50, 51, 52, 53, 54, 55, 56, 57, 58, 59, 60, 61, 38, 62, 40, 63, 64, 65, 66, 67, 68, 69, 70, 71, 72, 73, 74, 75, 76, 77, 78, 79, 80, 81, 82, 83, 84, 85, 86, 87, 88, 89, 90, 91, 92, 93, 6, 94, 8, 1, 95, 96, 97, 16, 98, 18, 99, 100, 101, 102, 103, 25, 104, 105, 106, 107, 108, 109, 110, 111, 19, 20, 21, 112, 113, 114, 115, 116, 117, 118, 119, 120, 121, 122, 123, 124, 125, 126, 127, 128, 129, 130, 131, 132, 133, 147, 148, 146, 149, 150, 142, 143, 144, 145, 134, 135, 136, 137, 138, 139, 140, 141] rfl (by decide +kernel)
set_option maxRecDepth 20000 in
theorem gX5_catchesUp_X5_start : GoodIn wsX5_catchesUp (wsV RX5 36 RX5 yX5_start wsX5_start) := goodIn_app (goodIn_of _ (by decide +kernel)) ggX5_catchesUp_X5_start
theorem dX5_catchesUp_0 : decode cX5_catchesUp 0 = .ok (.bipush 9, 2) := by decide +kernel
theorem dX5_catchesUp_2 : decode cX5_catchesUp 2 = .ok (.istore_n 2, 1) := by decide +kernel
theorem dX5_catchesUp_3 : decode cX5_catchesUp 3 = .ok (.iload_n 2, 1) := by decide +kernel
theorem dX5_catchesUp_4 : decode cX5_catchesUp 4 = .ok (.aload_n 1, 1) := by decide +kernel
theorem dX5_catchesUp_5 : decode cX5_catchesUp 5 = .ok (.getfield 33, 3) := by decide +kernel
theorem dX5_catchesUp_8 : decode cX5_catchesUp 8 = .ok (.if_icmp .le 36, 3) := by decide +kernel
theorem dX5_catchesUp_11 : decode cX5_catchesUp 11 = .ok (.aload_n 0, 1) := by decide +kernel
theorem dX5_catchesUp_12 : decode cX5_catchesUp 12 = .ok (.aload_n 1, 1) := by decide +kernel
theorem dX5_catchesUp_13 : decode cX5_catchesUp 13 = .ok (.iload_n 2, 1) := by decide +kernel
theorem dX5_catchesUp_14 : decode cX5_catchesUp 14 = .ok (.invokevirtual 130, 3) := by decide +kernel
theorem dX5_catchesUp_17 : decode cX5_catchesUp 17 = .ok (.invokestatic 134, 3) := by decide +kernel
theorem dX5_catchesUp_20 : decode cX5_catchesUp 20 = .ok (.aload_n 0, 1) := by decide +kernel
theorem dX5_catchesUp_21 : decode cX5_catchesUp 21 = .ok (.getfield 9, 3) := by decide +kernel
theorem dX5_catchesUp_24 : decode cX5_catchesUp 24 = .ok (.invokevirtual 140, 3) := by decide +kernel
theorem dX5_catchesUp_27 : decode cX5_catchesUp 27 = .ok (.if_icmp .lt 11, 3) := by decide +kernel
theorem dX5_catchesUp_30 : decode cX5_catchesUp 30 = .ok (.aload_n 0, 1) := by decide +kernel
theorem dX5_catchesUp_31 : decode cX5_catchesUp 31 = .ok (.aload_n 1, 1) := by decide +kernel
theorem dX5_catchesUp_32 : decode cX5_catchesUp 32 = .ok (.iload_n 2, 1) := by decide +kernel
theorem dX5_catchesUp_33 : decode cX5_catchesUp 33 = .ok (.invokevirtual 36, 3) := by decide +kernel
theorem dX5_catchesUp_36 : decode cX5_catchesUp 36 = .ok (.iconst 1, 1) := by decide +kernel
theorem dX5_catchesUp_37 : decode cX5_catchesUp 37 = .ok (.ireturn, 1) := by decide +kernel
theorem dX5_catchesUp_38 : decode cX5_catchesUp 38 = .ok (.iinc 2 (-1), 3) := by decide +kernel
theorem dX5_catchesUp_41 : decode cX5_catchesUp 41 = .ok (.goto (-38), 3) := by decide +kernel
theorem dX5_catchesUp_44 : decode cX5_catchesUp 44 = .ok (.iconst 0, 1) := by decide +kernel
theorem dX5_catchesUp_45 : decode cX5_catchesUp 45 = .ok (.ireturn, 1) := by decide +kernel
set_option maxRecDepth 20000 in
theorem ggX5_writers_X4_first : GoodIn wsX5_writers wsX4_first := goodIn_r _ [10, 11, 12, 13, 14, 46, 47, 48, 49] rfl (by decide +kernel)
set_option maxRecDepth 20000 in
theorem gX5_writers_X4_first : GoodIn wsX5_writers (wsV RX5 143 RX4 yX4_first wsX4_first) := goodIn_app (goodIn_of _ (by decide +kernel)) ggX5_writers_X4_first
set_option maxRecDepth 20000 in
theorem ggX5_writers_X2_cameTo : GoodIn wsX5_writers wsX2_cameTo := goodIn_r _ [19, 20, 38, 39, 40, 41, 42, 43, 44, 45] rfl (by decide +kernel)
set_option maxRecDepth 20000 in
theorem gX5_writers_X2_cameTo : GoodIn wsX5_writers (wsV RX5 147 RX2 yX2_cameTo wsX2_cameTo) := goodIn_app (goodIn_of _ (by decide +kernel)) ggX5_writers_X2_cameTo
theorem dX5_writers_0 : decode cX5_writers 0 = .ok (.iconst 0, 1) := by decide +kernel
theorem dX5_writers_1 : decode cX5_writers 1 = .ok (.istore_n 3, 1) := by decide +kernel
theorem dX5_writers_2 : decode cX5_writers 2 = .ok (.iconst 0, 1) := by decide +kernel
theorem dX5_writers_3 : decode cX5_writers 3 = .ok (.istore 4, 2) := by decide +kernel
theorem dX5_writers_5 : decode cX5_writers 5 = .ok (.iload 4, 2) := by decide +kernel
theorem dX5_writers_7 : decode cX5_writers 7 = .ok (.iconst 3, 1) := by decide +kernel
theorem dX5_writers_8 : decode cX5_writers 8 = .ok (.if_icmp .ge 62, 3) := by decide +kernel
theorem dX5_writers_11 : decode cX5_writers 11 = .ok (.aload_n 0, 1) := by decide +kernel
theorem dX5_writers_12 : decode cX5_writers 12 = .ok (.getfield 15, 3) := by decide +kernel
theorem dX5_writers_15 : decode cX5_writers 15 = .ok (.iload 4, 2) := by decide +kernel
theorem dX5_writers_17 : decode cX5_writers 17 = .ok (.aload_n 1, 1) := by decide +kernel
theorem dX5_writers_18 : decode cX5_writers 18 = .ok (.getfield 48, 3) := by decide +kernel
theorem dX5_writers_21 : decode cX5_writers 21 = .ok (.iload_n 2, 1) := by decide +kernel
theorem dX5_writers_22 : decode cX5_writers 22 = .ok (.invokevirtual 143, 3) := by decide +kernel
theorem dX5_writers_25 : decode cX5_writers 25 = .ok (.astore 5, 2) := by decide +kernel
theorem dX5_writers_27 : decode cX5_writers 27 = .ok (.aload 5, 2) := by decide +kernel
theorem dX5_writers_29 : decode cX5_writers 29 = .ok (.ifnull 35, 3) := by decide +kernel
theorem dX5_writers_32 : decode cX5_writers 32 = .ok (.aload 5, 2) := by decide +kernel
theorem dX5_writers_34 : decode cX5_writers 34 = .ok (.aload_n 1, 1) := by decide +kernel
theorem dX5_writers_35 : decode cX5_writers 35 = .ok (.getfield 57, 3) := by decide +kernel
theorem dX5_writers_38 : decode cX5_writers 38 = .ok (.invokevirtual 147, 3) := by decide +kernel
theorem dX5_writers_41 : decode cX5_writers 41 = .ok (.ifCond .eq 13, 3) := by decide +kernel
theorem dX5_writers_44 : decode cX5_writers 44 = .ok (.iload_n 3, 1) := by decide +kernel
theorem dX5_writers_45 : decode cX5_writers 45 = .ok (.iconst 1, 1) := by decide +kernel
theorem dX5_writers_46 : decode cX5_writers 46 = .ok (.aload 5, 2) := by decide +kernel
theorem dX5_writers_48 : decode cX5_writers 48 = .ok (.getfield 150, 3) := by decide +kernel
theorem dX5_writers_51 : decode cX5_writers 51 = .ok (.ishl, 1) := by decide +kernel
theorem dX5_writers_52 : decode cX5_writers 52 = .ok (.ior, 1) := by decide +kernel
theorem dX5_writers_53 : decode cX5_writers 53 = .ok (.istore_n 3, 1) := by decide +kernel
theorem dX5_writers_54 : decode cX5_writers 54 = .ok (.aload 5, 2) := by decide +kernel
theorem dX5_writers_56 : decode cX5_writers 56 = .ok (.getfield 153, 3) := by decide +kernel
theorem dX5_writers_59 : decode cX5_writers 59 = .ok (.astore 5, 2) := by decide +kernel
theorem dX5_writers_61 : decode cX5_writers 61 = .ok (.goto (-34), 3) := by decide +kernel
theorem dX5_writers_64 : decode cX5_writers 64 = .ok (.iinc 4 1, 3) := by decide +kernel
theorem dX5_writers_67 : decode cX5_writers 67 = .ok (.goto (-62), 3) := by decide +kernel
theorem dX5_writers_70 : decode cX5_writers 70 = .ok (.iload_n 3, 1) := by decide +kernel
theorem dX5_writers_71 : decode cX5_writers 71 = .ok (.ireturn, 1) := by decide +kernel
set_option maxRecDepth 20000 in
theorem ggX5_prevotesNew_X4_first : GoodIn wsX5_prevotesNew wsX4_first := goodIn_r _ [15, 16, 17, 18, 19, 111, 112, 113, 114] rfl (by decide +kernel)
set_option maxRecDepth 20000 in
theorem gX5_prevotesNew_X4_first : GoodIn wsX5_prevotesNew (wsV RX5 143 RX4 yX4_first wsX4_first) := goodIn_app (goodIn_of _ (by decide +kernel)) ggX5_prevotesNew_X4_first
set_option maxRecDepth 20000 in
theorem ggX5_prevotesNew_X5_counts : GoodIn wsX5_prevotesNew wsX5_counts := goodIn_r _ [24, 25, 26, 27, 28, 29, 30, 31, 32, 33, 34, 35, 36, 37, 38, 39, 40, 41, 84, 85, 86, 87, 88, 89, 90, 91, 92, 93, 94, 95, 96, 97, 98, 101, 102, 103, 104, 105, 106, 107, 108, 99, 100, 115] rfl (by decide +kernel)
set_option maxRecDepth 20000 in
theorem gX5_prevotesNew_X5_counts : GoodIn wsX5_prevotesNew (wsV RX5 157 RX5 yX5_counts wsX5_counts) := goodIn_app (goodIn_of _ (by decide +kernel)) ggX5_prevotesNew_X5_counts
set_option maxRecDepth 20000 in
theorem ggX5_prevotesNew_X3_isNone : GoodIn wsX5_prevotesNew wsX3_isNone := goodIn_r _ [46, 47, 109, 110] rfl (by decide +kernel)
set_option maxRecDepth 20000 in
theorem gX5_prevotesNew_X3_isNone : GoodIn wsX5_prevotesNew (wsV RX5 67 RX3 yX3_isNone wsX3_isNone) := goodIn_app (goodIn_of _ (by decide +kernel)) ggX5_prevotesNew_X3_isNone
set_option maxRecDepth 20000 in
theorem ggX5_prevotesNew_X0_isRight : GoodIn wsX5_prevotesNew wsX0_isRight := goodIn_r _ [52, 53, 116, 117] rfl (by decide +kernel)
set_option maxRecDepth 20000 in
theorem gX5_prevotesNew_X0_isRight : GoodIn wsX5_prevotesNew (wsV RX5 171 RX0 yX0_isRight wsX0_isRight) := goodIn_app (goodIn_of _ (by decide +kernel)) ggX5_prevotesNew_X0_isRight
set_option maxRecDepth 20000 in
theorem ggX5_prevotesNew_X5_vote : GoodIn wsX5_prevotesNew wsX5_vote := goodIn_r _ [57, 1, 58, 59, 60, 23, 61, 2, 25, 3, 4, 62, 63, 64, 14, 65, 16, 66, 67, 68, 69, 70, 33, 71, 72, 73, 74, 75, 76, 77, 78, 17, 18, 19, 79, 80, 81, 82, 83, 84, 85, 86, 87, 88, 89, 90, 91, 92, 93, 94, 95, 96, 97, 98, 99, 100, 111, 112, 113, 114, 101, 102, 103, 104, 105, 106, 107, 108] rfl (by decide +kernel)
set_option maxRecDepth 20000 in
theorem gX5_prevotesNew_X5_vote : GoodIn wsX5_prevotesNew (wsV RX5 29 RX5 yX5_vote wsX5_vote) := goodIn_app (goodIn_of _ (by decide +kernel)) ggX5_prevotesNew_X5_vote
theorem dX5_prevotesNew_0 : decode cX5_prevotesNew 0 = .ok (.aload_n 1, 1) := by decide +kernel
theorem dX5_prevotesNew_1 : decode cX5_prevotesNew 1 = .ok (.getfield 25, 3) := by decide +kernel
theorem dX5_prevotesNew_4 : decode cX5_prevotesNew 4 = .ok (.ifCond .eq 5, 3) := by decide +kernel
theorem dX5_prevotesNew_7 : decode cX5_prevotesNew 7 = .ok (.iconst 0, 1) := by decide +kernel
theorem dX5_prevotesNew_8 : decode cX5_prevotesNew 8 = .ok (.ireturn, 1) := by decide +kernel
theorem dX5_prevotesNew_9 : decode cX5_prevotesNew 9 = .ok (.aload_n 0, 1) := by decide +kernel
theorem dX5_prevotesNew_10 : decode cX5_prevotesNew 10 = .ok (.getfield 15, 3) := by decide +kernel
theorem dX5_prevotesNew_13 : decode cX5_prevotesNew 13 = .ok (.iconst 0, 1) := by decide +kernel
theorem dX5_prevotesNew_14 : decode cX5_prevotesNew 14 = .ok (.aload_n 1, 1) := by decide +kernel
theorem dX5_prevotesNew_15 : decode cX5_prevotesNew 15 = .ok (.getfield 48, 3) := by decide +kernel
theorem dX5_prevotesNew_18 : decode cX5_prevotesNew 18 = .ok (.aload_n 1, 1) := by decide +kernel
theorem dX5_prevotesNew_19 : decode cX5_prevotesNew 19 = .ok (.getfield 33, 3) := by decide +kernel
theorem dX5_prevotesNew_22 : decode cX5_prevotesNew 22 = .ok (.invokevirtual 143, 3) := by decide +kernel
theorem dX5_prevotesNew_25 : decode cX5_prevotesNew 25 = .ok (.astore_n 2, 1) := by decide +kernel
theorem dX5_prevotesNew_26 : decode cX5_prevotesNew 26 = .ok (.aload_n 2, 1) := by decide +kernel
theorem dX5_prevotesNew_27 : decode cX5_prevotesNew 27 = .ok (.ifnull 92, 3) := by decide +kernel
theorem dX5_prevotesNew_30 : decode cX5_prevotesNew 30 = .ok (.aload_n 0, 1) := by decide +kernel
theorem dX5_prevotesNew_31 : decode cX5_prevotesNew 31 = .ok (.aload_n 1, 1) := by decide +kernel
theorem dX5_prevotesNew_32 : decode cX5_prevotesNew 32 = .ok (.aload_n 2, 1) := by decide +kernel
theorem dX5_prevotesNew_33 : decode cX5_prevotesNew 33 = .ok (.invokevirtual 157, 3) := by decide +kernel
theorem dX5_prevotesNew_36 : decode cX5_prevotesNew 36 = .ok (.ifCond .eq 75, 3) := by decide +kernel
theorem dX5_prevotesNew_39 : decode cX5_prevotesNew 39 = .ok (.aload_n 2, 1) := by decide +kernel
theorem dX5_prevotesNew_40 : decode cX5_prevotesNew 40 = .ok (.getfield 161, 3) := by decide +kernel
theorem dX5_prevotesNew_43 : decode cX5_prevotesNew 43 = .ok (.iconst (-1), 1) := by decide +kernel
theorem dX5_prevotesNew_44 : decode cX5_prevotesNew 44 = .ok (.if_icmp .ne 67, 3) := by decide +kernel
theorem dX5_prevotesNew_47 : decode cX5_prevotesNew 47 = .ok (.aload_n 1, 1) := by decide +kernel
theorem dX5_prevotesNew_48 : decode cX5_prevotesNew 48 = .ok (.getfield 164, 3) := by decide +kernel
theorem dX5_prevotesNew_51 : decode cX5_prevotesNew 51 = .ok (.invokevirtual 67, 3) := by decide +kernel
theorem dX5_prevotesNew_54 : decode cX5_prevotesNew 54 = .ok (.ifCond .ne 17, 3) := by decide +kernel
theorem dX5_prevotesNew_57 : decode cX5_prevotesNew 57 = .ok (.aload_n 1, 1) := by decide +kernel
theorem dX5_prevotesNew_58 : decode cX5_prevotesNew 58 = .ok (.getfield 164, 3) := by decide +kernel
theorem dX5_prevotesNew_61 : decode cX5_prevotesNew 61 = .ok (.getfield 81, 3) := by decide +kernel
theorem dX5_prevotesNew_64 : decode cX5_prevotesNew 64 = .ok (.aload_n 2, 1) := by decide +kernel
theorem dX5_prevotesNew_65 : decode cX5_prevotesNew 65 = .ok (.getfield 123, 3) := by decide +kernel
theorem dX5_prevotesNew_68 : decode cX5_prevotesNew 68 = .ok (.if_icmp .ne 7, 3) := by decide +kernel
theorem dX5_prevotesNew_71 : decode cX5_prevotesNew 71 = .ok (.iconst 1, 1) := by decide +kernel
theorem dX5_prevotesNew_72 : decode cX5_prevotesNew 72 = .ok (.goto 4, 3) := by decide +kernel
theorem dX5_prevotesNew_75 : decode cX5_prevotesNew 75 = .ok (.iconst 0, 1) := by decide +kernel
theorem dX5_prevotesNew_76 : decode cX5_prevotesNew 76 = .ok (.istore_n 3, 1) := by decide +kernel
theorem dX5_prevotesNew_77 : decode cX5_prevotesNew 77 = .ok (.aload_n 0, 1) := by decide +kernel
theorem dX5_prevotesNew_78 : decode cX5_prevotesNew 78 = .ok (.aload_n 1, 1) := by decide +kernel
theorem dX5_prevotesNew_79 : decode cX5_prevotesNew 79 = .ok (.iconst 1, 1) := by decide +kernel
theorem dX5_prevotesNew_80 : decode cX5_prevotesNew 80 = .ok (.iload_n 3, 1) := by decide +kernel
theorem dX5_prevotesNew_81 : decode cX5_prevotesNew 81 = .ok (.ifCond .eq 24, 3) := by decide +kernel
theorem dX5_prevotesNew_84 : decode cX5_prevotesNew 84 = .ok (.aload_n 1, 1) := by decide +kernel
theorem dX5_prevotesNew_85 : decode cX5_prevotesNew 85 = .ok (.getfield 167, 3) := by decide +kernel
theorem dX5_prevotesNew_88 : decode cX5_prevotesNew 88 = .ok (.aload_n 2, 1) := by decide +kernel
theorem dX5_prevotesNew_89 : decode cX5_prevotesNew 89 = .ok (.getfield 123, 3) := by decide +kernel
theorem dX5_prevotesNew_92 : decode cX5_prevotesNew 92 = .ok (.invokevirtual 171, 3) := by decide +kernel
theorem dX5_prevotesNew_95 : decode cX5_prevotesNew 95 = .ok (.ifCond .eq 10, 3) := by decide +kernel
theorem dX5_prevotesNew_98 : decode cX5_prevotesNew 98 = .ok (.aload_n 2, 1) := by decide +kernel
theorem dX5_prevotesNew_99 : decode cX5_prevotesNew 99 = .ok (.getfield 123, 3) := by decide +kernel
theorem dX5_prevotesNew_102 : decode cX5_prevotesNew 102 = .ok (.goto 4, 3) := by decide +kernel
theorem dX5_prevotesNew_105 : decode cX5_prevotesNew 105 = .ok (.iconst (-1), 1) := by decide +kernel
theorem dX5_prevotesNew_106 : decode cX5_prevotesNew 106 = .ok (.invokevirtual 29, 3) := by decide +kernel
theorem dX5_prevotesNew_109 : decode cX5_prevotesNew 109 = .ok (.iconst 1, 1) := by decide +kernel
theorem dX5_prevotesNew_110 : decode cX5_prevotesNew 110 = .ok (.ireturn, 1) := by decide +kernel
theorem dX5_prevotesNew_111 : decode cX5_prevotesNew 111 = .ok (.aload_n 2, 1) := by decide +kernel
theorem dX5_prevotesNew_112 : decode cX5_prevotesNew 112 = .ok (.getfield 153, 3) := by decide +kernel
theorem dX5_prevotesNew_115 : decode cX5_prevotesNew 115 = .ok (.astore_n 2, 1) := by decide +kernel
theorem dX5_prevotesNew_116 : decode cX5_prevotesNew 116 = .ok (.goto (-90), 3) := by decide +kernel
theorem dX5_prevotesNew_119 : decode cX5_prevotesNew 119 = .ok (.iconst 0, 1) := by decide +kernel
theorem dX5_prevotesNew_120 : decode cX5_prevotesNew 120 = .ok (.ireturn, 1) := by decide +kernel
set_option maxRecDepth 20000 in
theorem ggX5_prevotesOld_X4_first : GoodIn wsX5_prevotesOld wsX4_first := goodIn_r _ [16, 17, 18, 19, 20, 131, 132, 133, 134] rfl (by decide +kernel)
set_option maxRecDepth 20000 in
theorem gX5_prevotesOld_X4_first : GoodIn wsX5_prevotesOld (wsV RX5 143 RX4 yX4_first wsX4_first) := goodIn_app (goodIn_of _ (by decide +kernel)) ggX5_prevotesOld_X4_first
set_option maxRecDepth 20000 in
theorem ggX5_prevotesOld_X5_counts : GoodIn wsX5_prevotesOld wsX5_counts := goodIn_r _ [25, 26, 27, 28, 29, 30, 31, 32, 33, 34, 35, 36, 37, 38, 39, 40, 41, 42, 104, 105, 106, 107, 108, 109, 110, 111, 112, 113, 114, 115, 116, 117, 118, 121, 122, 123, 124, 125, 126, 127, 128, 119, 120, 135] rfl (by decide +kernel)
set_option maxRecDepth 20000 in
theorem gX5_prevotesOld_X5_counts : GoodIn wsX5_prevotesOld (wsV RX5 157 RX5 yX5_counts wsX5_counts) := goodIn_app (goodIn_of _ (by decide +kernel)) ggX5_prevotesOld_X5_counts
set_option maxRecDepth 20000 in
theorem ggX5_prevotesOld_X5_hasMany : GoodIn wsX5_prevotesOld wsX5_hasMany := goodIn_r _ [46, 2, 3, 26, 28, 12, 13, 14, 15, 16, 17, 18, 19, 20, 47, 48, 49, 50, 51, 52, 53, 32, 33, 34, 35, 36, 54, 55, 56, 57, 58, 59, 60, 61, 62, 63, 40, 64, 42, 119, 120, 104, 105, 106, 107, 108, 109, 110, 111, 112, 113, 114, 115, 116, 117, 118, 131, 132, 133, 134, 121, 122, 123, 124, 125, 126, 127, 128, 135] rfl (by decide +kernel)
set_option maxRecDepth 20000 in
theorem gX5_prevotesOld_X5_hasMany : GoodIn wsX5_prevotesOld (wsV RX5 176 RX5 yX5_hasMany wsX5_hasMany) := goodIn_app (goodIn_of _ (by decide +kernel)) ggX5_prevotesOld_X5_hasMany
set_option maxRecDepth 20000 in
theorem ggX5_prevotesOld_X3_isNone : GoodIn wsX5_prevotesOld wsX3_isNone := goodIn_r _ [69, 70, 129, 130] rfl (by decide +kernel)
set_option maxRecDepth 20000 in
theorem gX5_prevotesOld_X3_isNone : GoodIn wsX5_prevotesOld (wsV RX5 67 RX3 yX3_isNone wsX3_isNone) := goodIn_app (goodIn_of _ (by decide +kernel)) ggX5_prevotesOld_X3_isNone
set_option maxRecDepth 20000 in
theorem ggX5_prevotesOld_X0_isRight : GoodIn wsX5_prevotesOld wsX0_isRight := goodIn_r _ [75, 76, 136, 137] rfl (by decide +kernel)
set_option maxRecDepth 20000 in
theorem gX5_prevotesOld_X0_isRight : GoodIn wsX5_prevotesOld (wsV RX5 171 RX0 yX0_isRight wsX0_isRight) := goodIn_app (goodIn_of _ (by decide +kernel)) ggX5_prevotesOld_X0_isRight
set_option maxRecDepth 20000 in
theorem ggX5_prevotesOld_X5_vote : GoodIn wsX5_prevotesOld wsX5_vote := goodIn_r _ [80, 1, 81, 82, 83, 24, 84, 2, 26, 3, 4, 85, 86, 87, 15, 88, 17, 89, 90, 91, 92, 93, 34, 51, 94, 95, 96, 50, 97, 98, 52, 18, 19, 20, 99, 100, 101, 102, 103, 104, 105, 106, 107, 108, 109, 110, 111, 112, 113, 114, 115, 116, 117, 118, 119, 120, 131, 132, 133, 134, 121, 122, 123, 124, 125, 126, 127, 128] rfl (by decide +kernel)
set_option maxRecDepth 20000 in
theorem gX5_prevotesOld_X5_vote : GoodIn wsX5_prevotesOld (wsV RX5 29 RX5 yX5_vote wsX5_vote) := goodIn_app (goodIn_of _ (by decide +kernel)) ggX5_prevotesOld_X5_vote
theorem dX5_prevotesOld_0 : decode cX5_prevotesOld 0 = .ok (.aload_n 1, 1) := by decide +kernel
theorem dX5_prevotesOld_1 : decode cX5_prevotesOld 1 = .ok (.getfield 25, 3) := by decide +kernel
theorem dX5_prevotesOld_4 : decode cX5_prevotesOld 4 = .ok (.ifCond .eq 5, 3) := by decide +kernel
theorem dX5_prevotesOld_7 : decode cX5_prevotesOld 7 = .ok (.iconst 0, 1) := by decide +kernel
theorem dX5_prevotesOld_8 : decode cX5_prevotesOld 8 = .ok (.ireturn, 1) := by decide +kernel
theorem dX5_prevotesOld_9 : decode cX5_prevotesOld 9 = .ok (.aload_n 0, 1) := by decide +kernel
theorem dX5_prevotesOld_10 : decode cX5_prevotesOld 10 = .ok (.getfield 15, 3) := by decide +kernel
theorem dX5_prevotesOld_13 : decode cX5_prevotesOld 13 = .ok (.iconst 0, 1) := by decide +kernel
theorem dX5_prevotesOld_14 : decode cX5_prevotesOld 14 = .ok (.aload_n 1, 1) := by decide +kernel
theorem dX5_prevotesOld_15 : decode cX5_prevotesOld 15 = .ok (.getfield 48, 3) := by decide +kernel
theorem dX5_prevotesOld_18 : decode cX5_prevotesOld 18 = .ok (.aload_n 1, 1) := by decide +kernel
theorem dX5_prevotesOld_19 : decode cX5_prevotesOld 19 = .ok (.getfield 33, 3) := by decide +kernel
theorem dX5_prevotesOld_22 : decode cX5_prevotesOld 22 = .ok (.invokevirtual 143, 3) := by decide +kernel
theorem dX5_prevotesOld_25 : decode cX5_prevotesOld 25 = .ok (.astore_n 2, 1) := by decide +kernel
theorem dX5_prevotesOld_26 : decode cX5_prevotesOld 26 = .ok (.aload_n 2, 1) := by decide +kernel
theorem dX5_prevotesOld_27 : decode cX5_prevotesOld 27 = .ok (.ifnull 146, 3) := by decide +kernel
theorem dX5_prevotesOld_30 : decode cX5_prevotesOld 30 = .ok (.aload_n 2, 1) := by decide +kernel
theorem dX5_prevotesOld_31 : decode cX5_prevotesOld 31 = .ok (.getfield 161, 3) := by decide +kernel
theorem dX5_prevotesOld_34 : decode cX5_prevotesOld 34 = .ok (.iconst (-1), 1) := by decide +kernel
theorem dX5_prevotesOld_35 : decode cX5_prevotesOld 35 = .ok (.if_icmp .eq 18, 3) := by decide +kernel
theorem dX5_prevotesOld_38 : decode cX5_prevotesOld 38 = .ok (.aload_n 2, 1) := by decide +kernel
theorem dX5_prevotesOld_39 : decode cX5_prevotesOld 39 = .ok (.getfield 161, 3) := by decide +kernel
theorem dX5_prevotesOld_42 : decode cX5_prevotesOld 42 = .ok (.aload_n 1, 1) := by decide +kernel
theorem dX5_prevotesOld_43 : decode cX5_prevotesOld 43 = .ok (.getfield 33, 3) := by decide +kernel
theorem dX5_prevotesOld_46 : decode cX5_prevotesOld 46 = .ok (.if_icmp .ge 7, 3) := by decide +kernel
theorem dX5_prevotesOld_49 : decode cX5_prevotesOld 49 = .ok (.iconst 1, 1) := by decide +kernel
theorem dX5_prevotesOld_50 : decode cX5_prevotesOld 50 = .ok (.goto 4, 3) := by decide +kernel
theorem dX5_prevotesOld_53 : decode cX5_prevotesOld 53 = .ok (.iconst 0, 1) := by decide +kernel
theorem dX5_prevotesOld_54 : decode cX5_prevotesOld 54 = .ok (.istore_n 3, 1) := by decide +kernel
theorem dX5_prevotesOld_55 : decode cX5_prevotesOld 55 = .ok (.iload_n 3, 1) := by decide +kernel
theorem dX5_prevotesOld_56 : decode cX5_prevotesOld 56 = .ok (.ifCond .eq 109, 3) := by decide +kernel
theorem dX5_prevotesOld_59 : decode cX5_prevotesOld 59 = .ok (.aload_n 0, 1) := by decide +kernel
theorem dX5_prevotesOld_60 : decode cX5_prevotesOld 60 = .ok (.aload_n 1, 1) := by decide +kernel
theorem dX5_prevotesOld_61 : decode cX5_prevotesOld 61 = .ok (.aload_n 2, 1) := by decide +kernel
theorem dX5_prevotesOld_62 : decode cX5_prevotesOld 62 = .ok (.invokevirtual 157, 3) := by decide +kernel
theorem dX5_prevotesOld_65 : decode cX5_prevotesOld 65 = .ok (.ifCond .eq 100, 3) := by decide +kernel
theorem dX5_prevotesOld_68 : decode cX5_prevotesOld 68 = .ok (.aload_n 0, 1) := by decide +kernel
theorem dX5_prevotesOld_69 : decode cX5_prevotesOld 69 = .ok (.aload_n 1, 1) := by decide +kernel
theorem dX5_prevotesOld_70 : decode cX5_prevotesOld 70 = .ok (.iconst 1, 1) := by decide +kernel
theorem dX5_prevotesOld_71 : decode cX5_prevotesOld 71 = .ok (.aload_n 2, 1) := by decide +kernel
theorem dX5_prevotesOld_72 : decode cX5_prevotesOld 72 = .ok (.getfield 161, 3) := by decide +kernel
theorem dX5_prevotesOld_75 : decode cX5_prevotesOld 75 = .ok (.aload_n 2, 1) := by decide +kernel
theorem dX5_prevotesOld_76 : decode cX5_prevotesOld 76 = .ok (.getfield 123, 3) := by decide +kernel
theorem dX5_prevotesOld_79 : decode cX5_prevotesOld 79 = .ok (.invokevirtual 176, 3) := by decide +kernel
theorem dX5_prevotesOld_82 : decode cX5_prevotesOld 82 = .ok (.ifCond .eq 83, 3) := by decide +kernel
theorem dX5_prevotesOld_85 : decode cX5_prevotesOld 85 = .ok (.aload_n 1, 1) := by decide +kernel
theorem dX5_prevotesOld_86 : decode cX5_prevotesOld 86 = .ok (.getfield 164, 3) := by decide +kernel
theorem dX5_prevotesOld_89 : decode cX5_prevotesOld 89 = .ok (.invokevirtual 67, 3) := by decide +kernel
theorem dX5_prevotesOld_92 : decode cX5_prevotesOld 92 = .ok (.ifCond .ne 31, 3) := by decide +kernel
theorem dX5_prevotesOld_95 : decode cX5_prevotesOld 95 = .ok (.aload_n 1, 1) := by decide +kernel
theorem dX5_prevotesOld_96 : decode cX5_prevotesOld 96 = .ok (.getfield 164, 3) := by decide +kernel
theorem dX5_prevotesOld_99 : decode cX5_prevotesOld 99 = .ok (.getfield 84, 3) := by decide +kernel
theorem dX5_prevotesOld_102 : decode cX5_prevotesOld 102 = .ok (.aload_n 2, 1) := by decide +kernel
theorem dX5_prevotesOld_103 : decode cX5_prevotesOld 103 = .ok (.getfield 161, 3) := by decide +kernel
theorem dX5_prevotesOld_106 : decode cX5_prevotesOld 106 = .ok (.if_icmp .le 17, 3) := by decide +kernel
theorem dX5_prevotesOld_109 : decode cX5_prevotesOld 109 = .ok (.aload_n 1, 1) := by decide +kernel
theorem dX5_prevotesOld_110 : decode cX5_prevotesOld 110 = .ok (.getfield 164, 3) := by decide +kernel
theorem dX5_prevotesOld_113 : decode cX5_prevotesOld 113 = .ok (.getfield 81, 3) := by decide +kernel
theorem dX5_prevotesOld_116 : decode cX5_prevotesOld 116 = .ok (.aload_n 2, 1) := by decide +kernel
theorem dX5_prevotesOld_117 : decode cX5_prevotesOld 117 = .ok (.getfield 123, 3) := by decide +kernel
theorem dX5_prevotesOld_120 : decode cX5_prevotesOld 120 = .ok (.if_icmp .ne 7, 3) := by decide +kernel
theorem dX5_prevotesOld_123 : decode cX5_prevotesOld 123 = .ok (.iconst 1, 1) := by decide +kernel
theorem dX5_prevotesOld_124 : decode cX5_prevotesOld 124 = .ok (.goto 4, 3) := by decide +kernel
theorem dX5_prevotesOld_127 : decode cX5_prevotesOld 127 = .ok (.iconst 0, 1) := by decide +kernel
theorem dX5_prevotesOld_128 : decode cX5_prevotesOld 128 = .ok (.istore 4, 2) := by decide +kernel
theorem dX5_prevotesOld_130 : decode cX5_prevotesOld 130 = .ok (.aload_n 0, 1) := by decide +kernel
theorem dX5_prevotesOld_131 : decode cX5_prevotesOld 131 = .ok (.aload_n 1, 1) := by decide +kernel
theorem dX5_prevotesOld_132 : decode cX5_prevotesOld 132 = .ok (.iconst 1, 1) := by decide +kernel
theorem dX5_prevotesOld_133 : decode cX5_prevotesOld 133 = .ok (.iload 4, 2) := by decide +kernel
theorem dX5_prevotesOld_135 : decode cX5_prevotesOld 135 = .ok (.ifCond .eq 24, 3) := by decide +kernel
theorem dX5_prevotesOld_138 : decode cX5_prevotesOld 138 = .ok (.aload_n 1, 1) := by decide +kernel
theorem dX5_prevotesOld_139 : decode cX5_prevotesOld 139 = .ok (.getfield 167, 3) := by decide +kernel
theorem dX5_prevotesOld_142 : decode cX5_prevotesOld 142 = .ok (.aload_n 2, 1) := by decide +kernel
theorem dX5_prevotesOld_143 : decode cX5_prevotesOld 143 = .ok (.getfield 123, 3) := by decide +kernel
theorem dX5_prevotesOld_146 : decode cX5_prevotesOld 146 = .ok (.invokevirtual 171, 3) := by decide +kernel
theorem dX5_prevotesOld_149 : decode cX5_prevotesOld 149 = .ok (.ifCond .eq 10, 3) := by decide +kernel
theorem dX5_prevotesOld_152 : decode cX5_prevotesOld 152 = .ok (.aload_n 2, 1) := by decide +kernel
theorem dX5_prevotesOld_153 : decode cX5_prevotesOld 153 = .ok (.getfield 123, 3) := by decide +kernel
theorem dX5_prevotesOld_156 : decode cX5_prevotesOld 156 = .ok (.goto 4, 3) := by decide +kernel
theorem dX5_prevotesOld_159 : decode cX5_prevotesOld 159 = .ok (.iconst (-1), 1) := by decide +kernel
theorem dX5_prevotesOld_160 : decode cX5_prevotesOld 160 = .ok (.invokevirtual 29, 3) := by decide +kernel
theorem dX5_prevotesOld_163 : decode cX5_prevotesOld 163 = .ok (.iconst 1, 1) := by decide +kernel
theorem dX5_prevotesOld_164 : decode cX5_prevotesOld 164 = .ok (.ireturn, 1) := by decide +kernel
theorem dX5_prevotesOld_165 : decode cX5_prevotesOld 165 = .ok (.aload_n 2, 1) := by decide +kernel
theorem dX5_prevotesOld_166 : decode cX5_prevotesOld 166 = .ok (.getfield 153, 3) := by decide +kernel
theorem dX5_prevotesOld_169 : decode cX5_prevotesOld 169 = .ok (.astore_n 2, 1) := by decide +kernel
theorem dX5_prevotesOld_170 : decode cX5_prevotesOld 170 = .ok (.goto (-144), 3) := by decide +kernel
theorem dX5_prevotesOld_173 : decode cX5_prevotesOld 173 = .ok (.iconst 0, 1) := by decide +kernel
theorem dX5_prevotesOld_174 : decode cX5_prevotesOld 174 = .ok (.ireturn, 1) := by decide +kernel
set_option maxRecDepth 20000 in
theorem ggX5_locks_X5_supported : GoodIn wsX5_locks wsX5_supported := goodIn_r _ [11, 12, 13, 14, 5, 15, 16, 17, 18, 19, 20, 21, 22, 23, 24, 25, 26, 27, 10, 28, 29, 30, 31, 32, 33, 34, 35, 36, 37, 38, 39, 40, 41, 42, 43, 44, 45, 46, 47, 48, 49, 50, 51, 52, 53, 54, 55, 56, 57, 58, 59, 60, 61, 62, 63, 64, 65, 66, 67, 68, 69, 70, 71, 72, 73, 131, 132, 108, 109, 110, 111, 112, 113, 114, 115, 116, 117, 118, 119, 120, 121, 122, 123, 124, 125, 126, 127, 128, 129, 130, 133, 134, 135, 136, 137, 138, 139] rfl (by decide +kernel)
set_option maxRecDepth 20000 in
theorem gX5_locks_X5_supported : GoodIn wsX5_locks (wsV RX5 119 RX5 yX5_supported wsX5_supported) := goodIn_app (goodIn_of _ (by decide +kernel)) ggX5_locks_X5_supported
set_option maxRecDepth 20000 in
theorem ggX5_locks_X3_put : GoodIn wsX5_locks wsX3_put := goodIn_r _ [78, 79, 80, 140, 141] rfl (by decide +kernel)
set_option maxRecDepth 20000 in
theorem gX5_locks_X3_put : GoodIn wsX5_locks (wsV RX5 183 RX3 yX3_put wsX3_put) := goodIn_app (goodIn_of _ (by decide +kernel)) ggX5_locks_X3_put
set_option maxRecDepth 20000 in
theorem ggX5_locks_X5_vote : GoodIn wsX5_locks wsX5_vote := goodIn_r _ [84, 1, 85, 86, 87, 10, 88, 12, 29, 13, 3, 89, 90, 91, 19, 92, 21, 93, 94, 95, 96, 97, 37, 60, 98, 99, 100, 59, 101, 102, 61, 22, 23, 24, 103, 104, 105, 106, 107, 108, 109, 110, 111, 112, 113, 114, 115, 116, 117, 118, 119, 120, 121, 122, 131, 132, 133, 134, 135, 136, 123, 124, 125, 126, 127, 128, 129, 130] rfl (by decide +kernel)
set_option maxRecDepth 20000 in
theorem gX5_locks_X5_vote : GoodIn wsX5_locks (wsV RX5 29 RX5 yX5_vote wsX5_vote) := goodIn_app (goodIn_of _ (by decide +kernel)) ggX5_locks_X5_vote
theorem dX5_locks_0 : decode cX5_locks 0 = .ok (.aload_n 1, 1) := by decide +kernel
theorem dX5_locks_1 : decode cX5_locks 1 = .ok (.getfield 25, 3) := by decide +kernel
theorem dX5_locks_4 : decode cX5_locks 4 = .ok (.ifCond .eq 10, 3) := by decide +kernel
theorem dX5_locks_7 : decode cX5_locks 7 = .ok (.aload_n 1, 1) := by decide +kernel
theorem dX5_locks_8 : decode cX5_locks 8 = .ok (.getfield 180, 3) := by decide +kernel
theorem dX5_locks_11 : decode cX5_locks 11 = .ok (.ifCond .eq 7, 3) := by decide +kernel
theorem dX5_locks_14 : decode cX5_locks 14 = .ok (.aconst_null, 1) := by decide +kernel
theorem dX5_locks_15 : decode cX5_locks 15 = .ok (.goto 13, 3) := by decide +kernel
theorem dX5_locks_18 : decode cX5_locks 18 = .ok (.aload_n 0, 1) := by decide +kernel
theorem dX5_locks_19 : decode cX5_locks 19 = .ok (.aload_n 1, 1) := by decide +kernel
theorem dX5_locks_20 : decode cX5_locks 20 = .ok (.aload_n 1, 1) := by decide +kernel
theorem dX5_locks_21 : decode cX5_locks 21 = .ok (.getfield 33, 3) := by decide +kernel
theorem dX5_locks_24 : decode cX5_locks 24 = .ok (.iconst 1, 1) := by decide +kernel
theorem dX5_locks_25 : decode cX5_locks 25 = .ok (.invokevirtual 119, 3) := by decide +kernel
theorem dX5_locks_28 : decode cX5_locks 28 = .ok (.astore_n 2, 1) := by decide +kernel
theorem dX5_locks_29 : decode cX5_locks 29 = .ok (.aload_n 2, 1) := by decide +kernel
theorem dX5_locks_30 : decode cX5_locks 30 = .ok (.ifnonnull 5, 3) := by decide +kernel
theorem dX5_locks_33 : decode cX5_locks 33 = .ok (.iconst 0, 1) := by decide +kernel
theorem dX5_locks_34 : decode cX5_locks 34 = .ok (.ireturn, 1) := by decide +kernel
theorem dX5_locks_35 : decode cX5_locks 35 = .ok (.aload_n 1, 1) := by decide +kernel
theorem dX5_locks_36 : decode cX5_locks 36 = .ok (.iconst 1, 1) := by decide +kernel
theorem dX5_locks_37 : decode cX5_locks 37 = .ok (.putfield 180, 3) := by decide +kernel
theorem dX5_locks_40 : decode cX5_locks 40 = .ok (.aload_n 1, 1) := by decide +kernel
theorem dX5_locks_41 : decode cX5_locks 41 = .ok (.getfield 25, 3) := by decide +kernel
theorem dX5_locks_44 : decode cX5_locks 44 = .ok (.iconst 1, 1) := by decide +kernel
theorem dX5_locks_45 : decode cX5_locks 45 = .ok (.if_icmp .ne 28, 3) := by decide +kernel
theorem dX5_locks_48 : decode cX5_locks 48 = .ok (.aload_n 1, 1) := by decide +kernel
theorem dX5_locks_49 : decode cX5_locks 49 = .ok (.getfield 164, 3) := by decide +kernel
theorem dX5_locks_52 : decode cX5_locks 52 = .ok (.aload_n 2, 1) := by decide +kernel
theorem dX5_locks_53 : decode cX5_locks 53 = .ok (.getfield 123, 3) := by decide +kernel
theorem dX5_locks_56 : decode cX5_locks 56 = .ok (.aload_n 1, 1) := by decide +kernel
theorem dX5_locks_57 : decode cX5_locks 57 = .ok (.getfield 33, 3) := by decide +kernel
theorem dX5_locks_60 : decode cX5_locks 60 = .ok (.invokevirtual 183, 3) := by decide +kernel
theorem dX5_locks_63 : decode cX5_locks 63 = .ok (.aload_n 0, 1) := by decide +kernel
theorem dX5_locks_64 : decode cX5_locks 64 = .ok (.aload_n 1, 1) := by decide +kernel
theorem dX5_locks_65 : decode cX5_locks 65 = .ok (.iconst 2, 1) := by decide +kernel
theorem dX5_locks_66 : decode cX5_locks 66 = .ok (.aload_n 2, 1) := by decide +kernel
theorem dX5_locks_67 : decode cX5_locks 67 = .ok (.getfield 123, 3) := by decide +kernel
theorem dX5_locks_70 : decode cX5_locks 70 = .ok (.invokevirtual 29, 3) := by decide +kernel
theorem dX5_locks_73 : decode cX5_locks 73 = .ok (.aload_n 1, 1) := by decide +kernel
theorem dX5_locks_74 : decode cX5_locks 74 = .ok (.getfield 63, 3) := by decide +kernel
theorem dX5_locks_77 : decode cX5_locks 77 = .ok (.aload_n 2, 1) := by decide +kernel
theorem dX5_locks_78 : decode cX5_locks 78 = .ok (.getfield 123, 3) := by decide +kernel
theorem dX5_locks_81 : decode cX5_locks 81 = .ok (.aload_n 1, 1) := by decide +kernel
theorem dX5_locks_82 : decode cX5_locks 82 = .ok (.getfield 33, 3) := by decide +kernel
theorem dX5_locks_85 : decode cX5_locks 85 = .ok (.invokevirtual 183, 3) := by decide +kernel
theorem dX5_locks_88 : decode cX5_locks 88 = .ok (.iconst 1, 1) := by decide +kernel
theorem dX5_locks_89 : decode cX5_locks 89 = .ok (.ireturn, 1) := by decide +kernel
set_option maxRecDepth 20000 in
theorem ggX5_givesUp_X5_hasMany : GoodIn wsX5_givesUp wsX5_hasMany := goodIn_r _ [7, 8, 9, 10, 11, 12, 13, 14, 15, 16, 17, 18, 19, 20, 21, 22, 23, 24, 25, 26, 27, 28, 29, 30, 31, 32, 33, 34, 35, 36, 37, 38, 39, 40, 41, 42, 43, 44, 45, 88, 89, 73, 74, 75, 76, 77, 78, 79, 80, 81, 82, 83, 84, 85, 86, 87, 90, 91, 92, 93, 94, 95, 96, 97, 98, 99, 100, 101, 102] rfl (by decide +kernel)
set_option maxRecDepth 20000 in
theorem gX5_givesUp_X5_hasMany : GoodIn wsX5_givesUp (wsV RX5 176 RX5 yX5_hasMany wsX5_hasMany) := goodIn_app (goodIn_of _ (by decide +kernel)) ggX5_givesUp_X5_hasMany
set_option maxRecDepth 20000 in
theorem ggX5_givesUp_X5_vote : GoodIn wsX5_givesUp wsX5_vote := goodIn_r _ [49, 1, 50, 51, 52, 6, 53, 8, 10, 9, 2, 54, 55, 56, 15, 57, 17, 58, 59, 60, 61, 62, 30, 25, 63, 64, 65, 24, 66, 67, 26, 18, 19, 20, 68, 69, 70, 71, 72, 73, 74, 75, 76, 77, 78, 79, 80, 81, 82, 83, 84, 85, 86, 87, 88, 89, 90, 91, 92, 93, 94, 95, 96, 97, 98, 99, 100, 101] rfl (by decide +kernel)
set_option maxRecDepth 20000 in
theorem gX5_givesUp_X5_vote : GoodIn wsX5_givesUp (wsV RX5 29 RX5 yX5_vote wsX5_vote) := goodIn_app (goodIn_of _ (by decide +kernel)) ggX5_givesUp_X5_vote
theorem dX5_givesUp_0 : decode cX5_givesUp 0 = .ok (.aload_n 1, 1) := by decide +kernel
theorem dX5_givesUp_1 : decode cX5_givesUp 1 = .ok (.getfield 25, 3) := by decide +kernel
theorem dX5_givesUp_4 : decode cX5_givesUp 4 = .ok (.iconst 1, 1) := by decide +kernel
theorem dX5_givesUp_5 : decode cX5_givesUp 5 = .ok (.if_icmp .ne 17, 3) := by decide +kernel
theorem dX5_givesUp_8 : decode cX5_givesUp 8 = .ok (.aload_n 0, 1) := by decide +kernel
theorem dX5_givesUp_9 : decode cX5_givesUp 9 = .ok (.aload_n 1, 1) := by decide +kernel
theorem dX5_givesUp_10 : decode cX5_givesUp 10 = .ok (.iconst 1, 1) := by decide +kernel
theorem dX5_givesUp_11 : decode cX5_givesUp 11 = .ok (.aload_n 1, 1) := by decide +kernel
theorem dX5_givesUp_12 : decode cX5_givesUp 12 = .ok (.getfield 33, 3) := by decide +kernel
theorem dX5_givesUp_15 : decode cX5_givesUp 15 = .ok (.iconst (-1), 1) := by decide +kernel
theorem dX5_givesUp_16 : decode cX5_givesUp 16 = .ok (.invokevirtual 176, 3) := by decide +kernel
theorem dX5_givesUp_19 : decode cX5_givesUp 19 = .ok (.ifCond .ne 5, 3) := by decide +kernel
theorem dX5_givesUp_22 : decode cX5_givesUp 22 = .ok (.iconst 0, 1) := by decide +kernel
theorem dX5_givesUp_23 : decode cX5_givesUp 23 = .ok (.ireturn, 1) := by decide +kernel
theorem dX5_givesUp_24 : decode cX5_givesUp 24 = .ok (.aload_n 0, 1) := by decide +kernel
theorem dX5_givesUp_25 : decode cX5_givesUp 25 = .ok (.aload_n 1, 1) := by decide +kernel
theorem dX5_givesUp_26 : decode cX5_givesUp 26 = .ok (.iconst 2, 1) := by decide +kernel
theorem dX5_givesUp_27 : decode cX5_givesUp 27 = .ok (.iconst (-1), 1) := by decide +kernel
theorem dX5_givesUp_28 : decode cX5_givesUp 28 = .ok (.invokevirtual 29, 3) := by decide +kernel
theorem dX5_givesUp_31 : decode cX5_givesUp 31 = .ok (.iconst 1, 1) := by decide +kernel
theorem dX5_givesUp_32 : decode cX5_givesUp 32 = .ok (.ireturn, 1) := by decide +kernel
set_option maxRecDepth 20000 in
theorem ggX5_timesPrevotes_X5_hasMany : GoodIn wsX5_timesPrevotes wsX5_hasMany := goodIn_r _ [8, 9, 10, 11, 12, 13, 14, 15, 16, 17, 18, 19, 20, 21, 22, 23, 24, 25, 26, 27, 28, 29, 30, 31, 32, 33, 34, 35, 36, 37, 38, 39, 40, 41, 42, 43, 44, 45, 46, 74, 75, 59, 60, 61, 62, 63, 64, 65, 66, 67, 68, 69, 70, 71, 72, 73, 76, 77, 78, 79, 80, 81, 82, 83, 84, 85, 86, 87, 88] rfl (by decide +kernel)
set_option maxRecDepth 20000 in
theorem gX5_timesPrevotes_X5_hasMany : GoodIn wsX5_timesPrevotes (wsV RX5 176 RX5 yX5_hasMany wsX5_hasMany) := goodIn_app (goodIn_of _ (by decide +kernel)) ggX5_timesPrevotes_X5_hasMany
set_option maxRecDepth 20000 in
theorem ggX5_timesPrevotes_X6_set : GoodIn wsX5_timesPrevotes wsX6_set := goodIn_r _ [51, 52, 53, 54, 55, 50, 56, 57, 58, 59, 60, 61, 62, 63, 64, 65, 66, 67, 68, 69, 70, 71, 72, 73] rfl (by decide +kernel)
set_option maxRecDepth 20000 in
theorem gX5_timesPrevotes_X6_set : GoodIn wsX5_timesPrevotes (wsV RX5 60 RX6 yX6_set wsX6_set) := goodIn_app (goodIn_of _ (by decide +kernel)) ggX5_timesPrevotes_X6_set
theorem dX5_timesPrevotes_0 : decode cX5_timesPrevotes 0 = .ok (.aload_n 1, 1) := by decide +kernel
theorem dX5_timesPrevotes_1 : decode cX5_timesPrevotes 1 = .ok (.getfield 25, 3) := by decide +kernel
theorem dX5_timesPrevotes_4 : decode cX5_timesPrevotes 4 = .ok (.iconst 1, 1) := by decide +kernel
theorem dX5_timesPrevotes_5 : decode cX5_timesPrevotes 5 = .ok (.if_icmp .ne 25, 3) := by decide +kernel
theorem dX5_timesPrevotes_8 : decode cX5_timesPrevotes 8 = .ok (.aload_n 1, 1) := by decide +kernel
theorem dX5_timesPrevotes_9 : decode cX5_timesPrevotes 9 = .ok (.getfield 186, 3) := by decide +kernel
theorem dX5_timesPrevotes_12 : decode cX5_timesPrevotes 12 = .ok (.ifCond .ne 18, 3) := by decide +kernel
theorem dX5_timesPrevotes_15 : decode cX5_timesPrevotes 15 = .ok (.aload_n 0, 1) := by decide +kernel
theorem dX5_timesPrevotes_16 : decode cX5_timesPrevotes 16 = .ok (.aload_n 1, 1) := by decide +kernel
theorem dX5_timesPrevotes_17 : decode cX5_timesPrevotes 17 = .ok (.iconst 1, 1) := by decide +kernel
theorem dX5_timesPrevotes_18 : decode cX5_timesPrevotes 18 = .ok (.aload_n 1, 1) := by decide +kernel
theorem dX5_timesPrevotes_19 : decode cX5_timesPrevotes 19 = .ok (.getfield 33, 3) := by decide +kernel
theorem dX5_timesPrevotes_22 : decode cX5_timesPrevotes 22 = .ok (.bipush (-2), 2) := by decide +kernel
theorem dX5_timesPrevotes_24 : decode cX5_timesPrevotes 24 = .ok (.invokevirtual 176, 3) := by decide +kernel
theorem dX5_timesPrevotes_27 : decode cX5_timesPrevotes 27 = .ok (.ifCond .ne 5, 3) := by decide +kernel
theorem dX5_timesPrevotes_30 : decode cX5_timesPrevotes 30 = .ok (.iconst 0, 1) := by decide +kernel
theorem dX5_timesPrevotes_31 : decode cX5_timesPrevotes 31 = .ok (.ireturn, 1) := by decide +kernel
theorem dX5_timesPrevotes_32 : decode cX5_timesPrevotes 32 = .ok (.aload_n 1, 1) := by decide +kernel
theorem dX5_timesPrevotes_33 : decode cX5_timesPrevotes 33 = .ok (.iconst 1, 1) := by decide +kernel
theorem dX5_timesPrevotes_34 : decode cX5_timesPrevotes 34 = .ok (.putfield 186, 3) := by decide +kernel
theorem dX5_timesPrevotes_37 : decode cX5_timesPrevotes 37 = .ok (.aload_n 1, 1) := by decide +kernel
theorem dX5_timesPrevotes_38 : decode cX5_timesPrevotes 38 = .ok (.iconst 1, 1) := by decide +kernel
theorem dX5_timesPrevotes_39 : decode cX5_timesPrevotes 39 = .ok (.invokevirtual 60, 3) := by decide +kernel
theorem dX5_timesPrevotes_42 : decode cX5_timesPrevotes 42 = .ok (.iconst 1, 1) := by decide +kernel
theorem dX5_timesPrevotes_43 : decode cX5_timesPrevotes 43 = .ok (.ireturn, 1) := by decide +kernel
set_option maxRecDepth 20000 in
theorem ggX5_timesPrecommits_X5_hasMany : GoodIn wsX5_timesPrecommits wsX5_hasMany := goodIn_r _ [7, 8, 9, 10, 11, 12, 13, 14, 15, 16, 17, 18, 19, 20, 21, 22, 23, 24, 25, 26, 27, 28, 29, 30, 31, 32, 33, 34, 35, 36, 37, 38, 39, 40, 41, 42, 43, 44, 45, 73, 74, 58, 59, 60, 61, 62, 63, 64, 65, 66, 67, 68, 69, 70, 71, 72, 75, 76, 77, 78, 79, 80, 81, 82, 83, 84, 85, 86, 87] rfl (by decide +kernel)
set_option maxRecDepth 20000 in
theorem gX5_timesPrecommits_X5_hasMany : GoodIn wsX5_timesPrecommits (wsV RX5 176 RX5 yX5_hasMany wsX5_hasMany) := goodIn_app (goodIn_of _ (by decide +kernel)) ggX5_timesPrecommits_X5_hasMany
set_option maxRecDepth 20000 in
theorem ggX5_timesPrecommits_X6_set : GoodIn wsX5_timesPrecommits wsX6_set := goodIn_r _ [50, 51, 52, 53, 54, 49, 55, 56, 57, 58, 59, 60, 61, 62, 63, 64, 65, 66, 67, 68, 69, 70, 71, 72] rfl (by decide +kernel)
set_option maxRecDepth 20000 in
theorem gX5_timesPrecommits_X6_set : GoodIn wsX5_timesPrecommits (wsV RX5 60 RX6 yX6_set wsX6_set) := goodIn_app (goodIn_of _ (by decide +kernel)) ggX5_timesPrecommits_X6_set
theorem dX5_timesPrecommits_0 : decode cX5_timesPrecommits 0 = .ok (.aload_n 1, 1) := by decide +kernel
theorem dX5_timesPrecommits_1 : decode cX5_timesPrecommits 1 = .ok (.getfield 189, 3) := by decide +kernel
theorem dX5_timesPrecommits_4 : decode cX5_timesPrecommits 4 = .ok (.ifCond .ne 18, 3) := by decide +kernel
theorem dX5_timesPrecommits_7 : decode cX5_timesPrecommits 7 = .ok (.aload_n 0, 1) := by decide +kernel
theorem dX5_timesPrecommits_8 : decode cX5_timesPrecommits 8 = .ok (.aload_n 1, 1) := by decide +kernel
theorem dX5_timesPrecommits_9 : decode cX5_timesPrecommits 9 = .ok (.iconst 2, 1) := by decide +kernel
theorem dX5_timesPrecommits_10 : decode cX5_timesPrecommits 10 = .ok (.aload_n 1, 1) := by decide +kernel
theorem dX5_timesPrecommits_11 : decode cX5_timesPrecommits 11 = .ok (.getfield 33, 3) := by decide +kernel
theorem dX5_timesPrecommits_14 : decode cX5_timesPrecommits 14 = .ok (.bipush (-2), 2) := by decide +kernel
theorem dX5_timesPrecommits_16 : decode cX5_timesPrecommits 16 = .ok (.invokevirtual 176, 3) := by decide +kernel
theorem dX5_timesPrecommits_19 : decode cX5_timesPrecommits 19 = .ok (.ifCond .ne 5, 3) := by decide +kernel
theorem dX5_timesPrecommits_22 : decode cX5_timesPrecommits 22 = .ok (.iconst 0, 1) := by decide +kernel
theorem dX5_timesPrecommits_23 : decode cX5_timesPrecommits 23 = .ok (.ireturn, 1) := by decide +kernel
theorem dX5_timesPrecommits_24 : decode cX5_timesPrecommits 24 = .ok (.aload_n 1, 1) := by decide +kernel
theorem dX5_timesPrecommits_25 : decode cX5_timesPrecommits 25 = .ok (.iconst 1, 1) := by decide +kernel
theorem dX5_timesPrecommits_26 : decode cX5_timesPrecommits 26 = .ok (.putfield 189, 3) := by decide +kernel
theorem dX5_timesPrecommits_29 : decode cX5_timesPrecommits 29 = .ok (.aload_n 1, 1) := by decide +kernel
theorem dX5_timesPrecommits_30 : decode cX5_timesPrecommits 30 = .ok (.iconst 2, 1) := by decide +kernel
theorem dX5_timesPrecommits_31 : decode cX5_timesPrecommits 31 = .ok (.invokevirtual 60, 3) := by decide +kernel
theorem dX5_timesPrecommits_34 : decode cX5_timesPrecommits 34 = .ok (.iconst 1, 1) := by decide +kernel
theorem dX5_timesPrecommits_35 : decode cX5_timesPrecommits 35 = .ok (.ireturn, 1) := by decide +kernel
set_option maxRecDepth 20000 in
theorem ggX5_supported_X4_first : GoodIn wsX5_supported wsX4_first := goodIn_r _ [10, 11, 12, 13, 14, 90, 91, 92, 93] rfl (by decide +kernel)
set_option maxRecDepth 20000 in
theorem gX5_supported_X4_first : GoodIn wsX5_supported (wsV RX5 143 RX4 yX4_first wsX4_first) := goodIn_app (goodIn_of _ (by decide +kernel)) ggX5_supported_X4_first
set_option maxRecDepth 20000 in
theorem ggX5_supported_X5_counts : GoodIn wsX5_supported wsX5_counts := goodIn_r _ [19, 20, 21, 22, 23, 24, 25, 26, 27, 28, 29, 30, 31, 32, 33, 34, 35, 36, 67, 68, 69, 70, 71, 72, 73, 74, 75, 76, 77, 78, 79, 80, 81, 82, 83, 84, 85, 86, 87, 88, 89, 65, 66, 94] rfl (by decide +kernel)
set_option maxRecDepth 20000 in
theorem gX5_supported_X5_counts : GoodIn wsX5_supported (wsV RX5 157 RX5 yX5_counts wsX5_counts) := goodIn_app (goodIn_of _ (by decide +kernel)) ggX5_supported_X5_counts
set_option maxRecDepth 20000 in
theorem ggX5_supported_X0_isRight : GoodIn wsX5_supported wsX0_isRight := goodIn_r _ [41, 42, 95, 96] rfl (by decide +kernel)
set_option maxRecDepth 20000 in
theorem gX5_supported_X0_isRight : GoodIn wsX5_supported (wsV RX5 171 RX0 yX0_isRight wsX0_isRight) := goodIn_app (goodIn_of _ (by decide +kernel)) ggX5_supported_X0_isRight
set_option maxRecDepth 20000 in
theorem ggX5_supported_X5_hasMany : GoodIn wsX5_supported wsX5_hasMany := goodIn_r _ [46, 1, 2, 20, 22, 6, 7, 8, 9, 10, 11, 12, 13, 14, 47, 48, 49, 50, 51, 52, 53, 26, 27, 28, 29, 30, 54, 55, 56, 57, 58, 59, 60, 61, 62, 63, 34, 64, 36, 65, 66, 67, 68, 69, 70, 71, 72, 73, 74, 75, 76, 77, 78, 79, 80, 81, 90, 91, 92, 93, 82, 83, 84, 85, 86, 87, 88, 89, 94] rfl (by decide +kernel)
set_option maxRecDepth 20000 in
theorem gX5_supported_X5_hasMany : GoodIn wsX5_supported (wsV RX5 176 RX5 yX5_hasMany wsX5_hasMany) := goodIn_app (goodIn_of _ (by decide +kernel)) ggX5_supported_X5_hasMany
theorem dX5_supported_0 : decode cX5_supported 0 = .ok (.aload_n 0, 1) := by decide +kernel
theorem dX5_supported_1 : decode cX5_supported 1 = .ok (.getfield 15, 3) := by decide +kernel
theorem dX5_supported_4 : decode cX5_supported 4 = .ok (.iconst 0, 1) := by decide +kernel
theorem dX5_supported_5 : decode cX5_supported 5 = .ok (.aload_n 1, 1) := by decide +kernel
theorem dX5_supported_6 : decode cX5_supported 6 = .ok (.getfield 48, 3) := by decide +kernel
theorem dX5_supported_9 : decode cX5_supported 9 = .ok (.iload_n 2, 1) := by decide +kernel
theorem dX5_supported_10 : decode cX5_supported 10 = .ok (.invokevirtual 143, 3) := by decide +kernel
theorem dX5_supported_13 : decode cX5_supported 13 = .ok (.astore 4, 2) := by decide +kernel
theorem dX5_supported_15 : decode cX5_supported 15 = .ok (.aload 4, 2) := by decide +kernel
theorem dX5_supported_17 : decode cX5_supported 17 = .ok (.ifnull 56, 3) := by decide +kernel
theorem dX5_supported_20 : decode cX5_supported 20 = .ok (.aload_n 0, 1) := by decide +kernel
theorem dX5_supported_21 : decode cX5_supported 21 = .ok (.aload_n 1, 1) := by decide +kernel
theorem dX5_supported_22 : decode cX5_supported 22 = .ok (.aload 4, 2) := by decide +kernel
theorem dX5_supported_24 : decode cX5_supported 24 = .ok (.invokevirtual 157, 3) := by decide +kernel
theorem dX5_supported_27 : decode cX5_supported 27 = .ok (.ifCond .eq 36, 3) := by decide +kernel
theorem dX5_supported_30 : decode cX5_supported 30 = .ok (.aload_n 1, 1) := by decide +kernel
theorem dX5_supported_31 : decode cX5_supported 31 = .ok (.getfield 167, 3) := by decide +kernel
theorem dX5_supported_34 : decode cX5_supported 34 = .ok (.aload 4, 2) := by decide +kernel
theorem dX5_supported_36 : decode cX5_supported 36 = .ok (.getfield 123, 3) := by decide +kernel
theorem dX5_supported_39 : decode cX5_supported 39 = .ok (.invokevirtual 171, 3) := by decide +kernel
theorem dX5_supported_42 : decode cX5_supported 42 = .ok (.ifCond .eq 21, 3) := by decide +kernel
theorem dX5_supported_45 : decode cX5_supported 45 = .ok (.aload_n 0, 1) := by decide +kernel
theorem dX5_supported_46 : decode cX5_supported 46 = .ok (.aload_n 1, 1) := by decide +kernel
theorem dX5_supported_47 : decode cX5_supported 47 = .ok (.iload_n 3, 1) := by decide +kernel
theorem dX5_supported_48 : decode cX5_supported 48 = .ok (.iload_n 2, 1) := by decide +kernel
theorem dX5_supported_49 : decode cX5_supported 49 = .ok (.aload 4, 2) := by decide +kernel
theorem dX5_supported_51 : decode cX5_supported 51 = .ok (.getfield 123, 3) := by decide +kernel
theorem dX5_supported_54 : decode cX5_supported 54 = .ok (.invokevirtual 176, 3) := by decide +kernel
theorem dX5_supported_57 : decode cX5_supported 57 = .ok (.ifCond .eq 6, 3) := by decide +kernel
theorem dX5_supported_60 : decode cX5_supported 60 = .ok (.aload 4, 2) := by decide +kernel
theorem dX5_supported_62 : decode cX5_supported 62 = .ok (.areturn, 1) := by decide +kernel
theorem dX5_supported_63 : decode cX5_supported 63 = .ok (.aload 4, 2) := by decide +kernel
theorem dX5_supported_65 : decode cX5_supported 65 = .ok (.getfield 153, 3) := by decide +kernel
theorem dX5_supported_68 : decode cX5_supported 68 = .ok (.astore 4, 2) := by decide +kernel
theorem dX5_supported_70 : decode cX5_supported 70 = .ok (.goto (-55), 3) := by decide +kernel
theorem dX5_supported_73 : decode cX5_supported 73 = .ok (.aconst_null, 1) := by decide +kernel
theorem dX5_supported_74 : decode cX5_supported 74 = .ok (.areturn, 1) := by decide +kernel
set_option maxRecDepth 20000 in
theorem ggX5_hasMany_X4_first : GoodIn wsX5_hasMany wsX4_first := goodIn_r _ [9, 10, 11, 12, 13, 56, 57, 58, 59] rfl (by decide +kernel)
set_option maxRecDepth 20000 in
theorem gX5_hasMany_X4_first : GoodIn wsX5_hasMany (wsV RX5 143 RX4 yX4_first wsX4_first) := goodIn_app (goodIn_of _ (by decide +kernel)) ggX5_hasMany_X4_first
set_option maxRecDepth 20000 in
theorem ggX5_hasMany_X4_voters : GoodIn wsX5_hasMany wsX4_voters := goodIn_r _ [16, 17, 18, 19, 20, 21, 22, 23, 24, 25, 26, 27, 28, 29, 30, 31, 32, 60, 61, 62, 63, 64, 65, 66, 67] rfl (by decide +kernel)
set_option maxRecDepth 20000 in
theorem gX5_hasMany_X4_voters : GoodIn wsX5_hasMany (va_wsS RX5 192 yX4_voters wsX4_voters) := goodIn_app (goodIn_of _ (by decide +kernel)) ggX5_hasMany_X4_voters
set_option maxRecDepth 20000 in
theorem ggX5_hasMany_X1_many : GoodIn wsX5_hasMany wsX1_many := goodIn_r _ [37, 38, 68] rfl (by decide +kernel)
set_option maxRecDepth 20000 in
theorem gX5_hasMany_X1_many : GoodIn wsX5_hasMany (wsV RX5 196 RX1 yX1_many wsX1_many) := goodIn_app (goodIn_of _ (by decide +kernel)) ggX5_hasMany_X1_many
theorem dX5_hasMany_0 : decode cX5_hasMany 0 = .ok (.aload_n 0, 1) := by decide +kernel
theorem dX5_hasMany_1 : decode cX5_hasMany 1 = .ok (.getfield 15, 3) := by decide +kernel
theorem dX5_hasMany_4 : decode cX5_hasMany 4 = .ok (.iload_n 2, 1) := by decide +kernel
theorem dX5_hasMany_5 : decode cX5_hasMany 5 = .ok (.aload_n 1, 1) := by decide +kernel
theorem dX5_hasMany_6 : decode cX5_hasMany 6 = .ok (.getfield 48, 3) := by decide +kernel
theorem dX5_hasMany_9 : decode cX5_hasMany 9 = .ok (.iload_n 3, 1) := by decide +kernel
theorem dX5_hasMany_10 : decode cX5_hasMany 10 = .ok (.invokevirtual 143, 3) := by decide +kernel
theorem dX5_hasMany_13 : decode cX5_hasMany 13 = .ok (.aload_n 1, 1) := by decide +kernel
theorem dX5_hasMany_14 : decode cX5_hasMany 14 = .ok (.getfield 57, 3) := by decide +kernel
theorem dX5_hasMany_17 : decode cX5_hasMany 17 = .ok (.iload 4, 2) := by decide +kernel
theorem dX5_hasMany_19 : decode cX5_hasMany 19 = .ok (.invokestatic 192, 3) := by decide +kernel
theorem dX5_hasMany_22 : decode cX5_hasMany 22 = .ok (.aload_n 0, 1) := by decide +kernel
theorem dX5_hasMany_23 : decode cX5_hasMany 23 = .ok (.getfield 9, 3) := by decide +kernel
theorem dX5_hasMany_26 : decode cX5_hasMany 26 = .ok (.invokevirtual 196, 3) := by decide +kernel
theorem dX5_hasMany_29 : decode cX5_hasMany 29 = .ok (.if_icmp .lt 7, 3) := by decide +kernel
theorem dX5_hasMany_32 : decode cX5_hasMany 32 = .ok (.iconst 1, 1) := by decide +kernel
theorem dX5_hasMany_33 : decode cX5_hasMany 33 = .ok (.goto 4, 3) := by decide +kernel
theorem dX5_hasMany_36 : decode cX5_hasMany 36 = .ok (.iconst 0, 1) := by decide +kernel
theorem dX5_hasMany_37 : decode cX5_hasMany 37 = .ok (.ireturn, 1) := by decide +kernel
set_option maxRecDepth 20000 in
theorem ggX5_counts_X2_cameTo : GoodIn wsX5_counts wsX2_cameTo := goodIn_r _ [10, 11, 33, 34, 35, 36, 37, 38, 39, 40] rfl (by decide +kernel)
set_option maxRecDepth 20000 in
theorem gX5_counts_X2_cameTo : GoodIn wsX5_counts (wsV RX5 147 RX2 yX2_cameTo wsX2_cameTo) := goodIn_app (goodIn_of _ (by decide +kernel)) ggX5_counts_X2_cameTo
set_option maxRecDepth 20000 in
theorem ggX5_counts_X1_proposer : GoodIn wsX5_counts wsX1_proposer := goodIn_r _ [16, 17, 43] rfl (by decide +kernel)
set_option maxRecDepth 20000 in
theorem gX5_counts_X1_proposer : GoodIn wsX5_counts (wsV RX5 51 RX1 yX1_proposer wsX1_proposer) := goodIn_app (goodIn_of _ (by decide +kernel)) ggX5_counts_X1_proposer
theorem dX5_counts_0 : decode cX5_counts 0 = .ok (.aload_n 2, 1) := by decide +kernel
theorem dX5_counts_1 : decode cX5_counts 1 = .ok (.aload_n 1, 1) := by decide +kernel
theorem dX5_counts_2 : decode cX5_counts 2 = .ok (.getfield 57, 3) := by decide +kernel
theorem dX5_counts_5 : decode cX5_counts 5 = .ok (.invokevirtual 147, 3) := by decide +kernel
theorem dX5_counts_8 : decode cX5_counts 8 = .ok (.ifCond .eq 29, 3) := by decide +kernel
theorem dX5_counts_11 : decode cX5_counts 11 = .ok (.aload_n 2, 1) := by decide +kernel
theorem dX5_counts_12 : decode cX5_counts 12 = .ok (.getfield 150, 3) := by decide +kernel
theorem dX5_counts_15 : decode cX5_counts 15 = .ok (.aload_n 0, 1) := by decide +kernel
theorem dX5_counts_16 : decode cX5_counts 16 = .ok (.getfield 9, 3) := by decide +kernel
theorem dX5_counts_19 : decode cX5_counts 19 = .ok (.aload_n 2, 1) := by decide +kernel
theorem dX5_counts_20 : decode cX5_counts 20 = .ok (.getfield 199, 3) := by decide +kernel
theorem dX5_counts_23 : decode cX5_counts 23 = .ok (.aload_n 2, 1) := by decide +kernel
theorem dX5_counts_24 : decode cX5_counts 24 = .ok (.getfield 200, 3) := by decide +kernel
theorem dX5_counts_27 : decode cX5_counts 27 = .ok (.invokevirtual 51, 3) := by decide +kernel
theorem dX5_counts_30 : decode cX5_counts 30 = .ok (.if_icmp .ne 7, 3) := by decide +kernel
theorem dX5_counts_33 : decode cX5_counts 33 = .ok (.iconst 1, 1) := by decide +kernel
theorem dX5_counts_34 : decode cX5_counts 34 = .ok (.goto 4, 3) := by decide +kernel
theorem dX5_counts_37 : decode cX5_counts 37 = .ok (.iconst 0, 1) := by decide +kernel
theorem dX5_counts_38 : decode cX5_counts 38 = .ok (.ireturn, 1) := by decide +kernel
