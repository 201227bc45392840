set_option maxRecDepth 20000 in
theorem gX6_luck_X6_within : GoodIn wsX6_luck (va_wsS RX6 57 yX6_within wsX6_within) := goodIn_app (goodIn_of _ (by decide +kernel)) ggX6_luck_X6_within
set_option maxRecDepth 20000 in
theorem ggX6_luck_X6_triedTale : GoodIn wsX6_luck wsX6_triedTale := goodIn_r _ [12, 3, 1, 13, 14, 15, 16, 17, 18, 19, 20, 21, 22, 23, 24, 25, 26, 27, 28, 29, 30, 31, 32, 33, 34, 35, 36, 37, 38, 39, 40, 41, 42, 43, 44, 45, 46, 47, 48, 49, 50, 51, 52, 7, 53, 54, 55, 56, 57, 58, 59, 60, 61, 62, 63, 64, 65, 66, 67, 68, 69, 70, 71, 72, 73, 74, 75, 76, 77, 78, 79, 80, 81, 82, 92, 93, 94, 95, 96, 97, 98, 99, 100, 101, 102, 103, 104, 105, 106, 107, 108, 109, 110] (by decide +kernel) (by decide +kernel)
set_option maxRecDepth 20000 in
theorem gX6_luck_X6_triedTale : GoodIn wsX6_luck (wsV RX6 143 RX6 yX6_triedTale wsX6_triedTale) := goodIn_app (goodIn_of _ (by decide +kernel)) ggX6_luck_X6_triedTale
set_option maxRecDepth 20000 in
theorem ggX6_luck_X4_copyFrom : GoodIn wsX6_luck wsX4_copyFrom := goodIn_r _ [17, 18, 19, 20, 21, 22, 23, 24, 25, 26, 27, 28, 29, 30, 31, 101, 102, 103, 104, 105, 106, 107, 108, 109, 110] (by decide +kernel) (by decide +kernel)
set_option maxRecDepth 20000 in
theorem gX6_luck_X4_copyFrom : GoodIn wsX6_luck (wsV RX6 82 RX4 yX4_copyFrom wsX4_copyFrom) := goodIn_app (goodIn_of _ (by decide +kernel)) ggX6_luck_X4_copyFrom
set_option maxRecDepth 20000 in
theorem ggX6_luck_X4_serveByDraws : GoodIn wsX6_luck wsX4_serveByDraws := goodIn_r _ [86, 28, 18, 24, 87, 88, 89, 16, 90, 31, 91, 36, 37, 38, 39, 25, 29, 40, 41, 42, 43, 27, 44, 45, 46, 47, 23, 48, 49, 50, 51, 30, 52, 7, 53, 54, 55, 56, 57, 58, 59, 60, 61, 62, 63, 64, 65, 66, 67, 68, 69, 70, 71, 72, 73, 74, 26, 75, 76, 77, 78, 79, 80, 81, 82, 101, 102, 103, 104, 105, 106, 107, 108, 109, 110] (by decide +kernel) (by decide +kernel)
set_option maxRecDepth 20000 in
theorem gX6_luck_X4_serveByDraws : GoodIn wsX6_luck (wsV RX6 137 RX4 yX4_serveByDraws wsX4_serveByDraws) := goodIn_app (goodIn_of _ (by decide +kernel)) ggX6_luck_X4_serveByDraws
theorem dX6_luck_0 : decode cX6_luck 0 = .ok (.iload_n 1, 1) := by decide +kernel
theorem dX6_luck_1 : decode cX6_luck 1 = .ok (.iconst 1, 1) := by decide +kernel
theorem dX6_luck_2 : decode cX6_luck 2 = .ok (.bipush 30, 2) := by decide +kernel
theorem dX6_luck_4 : decode cX6_luck 4 = .ok (.invokestatic 57, 3) := by decide +kernel
theorem dX6_luck_7 : decode cX6_luck 7 = .ok (.ifCond .ne 5, 3) := by decide +kernel
theorem dX6_luck_10 : decode cX6_luck 10 = .ok (.iconst (-1), 1) := by decide +kernel
theorem dX6_luck_11 : decode cX6_luck 11 = .ok (.ireturn, 1) := by decide +kernel
theorem dX6_luck_12 : decode cX6_luck 12 = .ok (.aload_n 0, 1) := by decide +kernel
theorem dX6_luck_13 : decode cX6_luck 13 = .ok (.iconst 1, 1) := by decide +kernel
theorem dX6_luck_14 : decode cX6_luck 14 = .ok (.invokevirtual 143, 3) := by decide +kernel
theorem dX6_luck_17 : decode cX6_luck 17 = .ok (.istore_n 2, 1) := by decide +kernel
theorem dX6_luck_18 : decode cX6_luck 18 = .ok (.iconst 0, 1) := by decide +kernel
theorem dX6_luck_19 : decode cX6_luck 19 = .ok (.istore_n 3, 1) := by decide +kernel
theorem dX6_luck_20 : decode cX6_luck 20 = .ok (.aload_n 0, 1) := by decide +kernel
theorem dX6_luck_21 : decode cX6_luck 21 = .ok (.getfield 10, 3) := by decide +kernel
theorem dX6_luck_24 : decode cX6_luck 24 = .ok (.getfield 72, 3) := by decide +kernel
theorem dX6_luck_27 : decode cX6_luck 27 = .ok (.istore 4, 2) := by decide +kernel
theorem dX6_luck_29 : decode cX6_luck 29 = .ok (.iconst 0, 1) := by decide +kernel
theorem dX6_luck_30 : decode cX6_luck 30 = .ok (.istore 5, 2) := by decide +kernel
theorem dX6_luck_32 : decode cX6_luck 32 = .ok (.iload 5, 2) := by decide +kernel
theorem dX6_luck_34 : decode cX6_luck 34 = .ok (.iload_n 1, 1) := by decide +kernel
theorem dX6_luck_35 : decode cX6_luck 35 = .ok (.if_icmp .ge 59, 3) := by decide +kernel
theorem dX6_luck_38 : decode cX6_luck 38 = .ok (.aload_n 0, 1) := by decide +kernel
theorem dX6_luck_39 : decode cX6_luck 39 = .ok (.getfield 16, 3) := by decide +kernel
theorem dX6_luck_42 : decode cX6_luck 42 = .ok (.aload_n 0, 1) := by decide +kernel
theorem dX6_luck_43 : decode cX6_luck 43 = .ok (.getfield 10, 3) := by decide +kernel
theorem dX6_luck_46 : decode cX6_luck 46 = .ok (.invokevirtual 82, 3) := by decide +kernel
theorem dX6_luck_49 : decode cX6_luck 49 = .ok (.aload_n 0, 1) := by decide +kernel
theorem dX6_luck_50 : decode cX6_luck 50 = .ok (.getfield 16, 3) := by decide +kernel
theorem dX6_luck_53 : decode cX6_luck 53 = .ok (.iload 4, 2) := by decide +kernel
theorem dX6_luck_55 : decode cX6_luck 55 = .ok (.putfield 72, 3) := by decide +kernel
theorem dX6_luck_58 : decode cX6_luck 58 = .ok (.aload_n 0, 1) := by decide +kernel
theorem dX6_luck_59 : decode cX6_luck 59 = .ok (.getfield 16, 3) := by decide +kernel
theorem dX6_luck_62 : decode cX6_luck 62 = .ok (.invokevirtual 137, 3) := by decide +kernel
theorem dX6_luck_65 : decode cX6_luck 65 = .ok (.aload_n 0, 1) := by decide +kernel
theorem dX6_luck_66 : decode cX6_luck 66 = .ok (.getfield 16, 3) := by decide +kernel
theorem dX6_luck_69 : decode cX6_luck 69 = .ok (.getfield 72, 3) := by decide +kernel
theorem dX6_luck_72 : decode cX6_luck 72 = .ok (.istore 4, 2) := by decide +kernel
theorem dX6_luck_74 : decode cX6_luck 74 = .ok (.aload_n 0, 1) := by decide +kernel
theorem dX6_luck_75 : decode cX6_luck 75 = .ok (.getfield 16, 3) := by decide +kernel
theorem dX6_luck_78 : decode cX6_luck 78 = .ok (.getfield 140, 3) := by decide +kernel
theorem dX6_luck_81 : decode cX6_luck 81 = .ok (.iload_n 2, 1) := by decide +kernel
theorem dX6_luck_82 : decode cX6_luck 82 = .ok (.if_icmp .le 6, 3) := by decide +kernel
theorem dX6_luck_85 : decode cX6_luck 85 = .ok (.iinc 3 1, 3) := by decide +kernel
theorem dX6_luck_88 : decode cX6_luck 88 = .ok (.iinc 5 1, 3) := by decide +kernel
theorem dX6_luck_91 : decode cX6_luck 91 = .ok (.goto (-59), 3) := by decide +kernel
theorem dX6_luck_94 : decode cX6_luck 94 = .ok (.iload_n 3, 1) := by decide +kernel
theorem dX6_luck_95 : decode cX6_luck 95 = .ok (.ireturn, 1) := by decide +kernel
set_option maxRecDepth 20000 in
theorem ggX6_state_X4_next : GoodIn wsX6_state wsX4_next := goodIn_r _ [9, 10, 36, 37, 38, 39, 40, 41, 42, 43, 44, 45] (by decide +kernel) (by decide +kernel)
set_option maxRecDepth 20000 in
theorem gX6_state_X4_next : GoodIn wsX6_state (wsV RX6 149 RX4 yX4_next wsX4_next) := goodIn_app (goodIn_of _ (by decide +kernel)) ggX6_state_X4_next
set_option maxRecDepth 20000 in
theorem ggX6_state_X4_goneTogether : GoodIn wsX6_state wsX4_goneTogether := goodIn_r _ [14, 15, 16, 36, 37, 38, 39, 40, 41, 42, 43, 44, 45] (by decide +kernel) (by decide +kernel)
set_option maxRecDepth 20000 in
theorem gX6_state_X4_goneTogether : GoodIn wsX6_state (wsV RX6 156 RX4 yX4_goneTogether wsX4_goneTogether) := goodIn_app (goodIn_of _ (by decide +kernel)) ggX6_state_X4_goneTogether
set_option maxRecDepth 20000 in
theorem ggX6_state_X4_gap : GoodIn wsX6_state wsX4_gap := goodIn_r _ [20, 21, 10, 22, 23, 24, 8, 25, 15, 26, 36, 37, 38, 39, 40, 41, 42, 43, 44, 45] (by decide +kernel) (by decide +kernel)
set_option maxRecDepth 20000 in
theorem gX6_state_X4_gap : GoodIn wsX6_state (wsV RX6 159 RX4 yX4_gap wsX4_gap) := goodIn_app (goodIn_of _ (by decide +kernel)) ggX6_state_X4_gap
theorem dX6_state_0 : decode cX6_state 0 = .ok (.iload_n 1, 1) := by decide +kernel
theorem dX6_state_1 : decode cX6_state 1 = .ok (.tableswitch 87 0 5 #[39, 47, 55, 63, 71, 79], 39) := by decide +kernel
theorem dX6_state_40 : decode cX6_state 40 = .ok (.aload_n 0, 1) := by decide +kernel
theorem dX6_state_41 : decode cX6_state 41 = .ok (.getfield 10, 3) := by decide +kernel
theorem dX6_state_44 : decode cX6_state 44 = .ok (.getfield 146, 3) := by decide +kernel
theorem dX6_state_47 : decode cX6_state 47 = .ok (.ireturn, 1) := by decide +kernel
theorem dX6_state_48 : decode cX6_state 48 = .ok (.aload_n 0, 1) := by decide +kernel
theorem dX6_state_49 : decode cX6_state 49 = .ok (.getfield 10, 3) := by decide +kernel
theorem dX6_state_52 : decode cX6_state 52 = .ok (.getfield 140, 3) := by decide +kernel
theorem dX6_state_55 : decode cX6_state 55 = .ok (.ireturn, 1) := by decide +kernel
theorem dX6_state_56 : decode cX6_state 56 = .ok (.aload_n 0, 1) := by decide +kernel
theorem dX6_state_57 : decode cX6_state 57 = .ok (.getfield 10, 3) := by decide +kernel
theorem dX6_state_60 : decode cX6_state 60 = .ok (.invokevirtual 149, 3) := by decide +kernel
theorem dX6_state_63 : decode cX6_state 63 = .ok (.ireturn, 1) := by decide +kernel
theorem dX6_state_64 : decode cX6_state 64 = .ok (.aload_n 0, 1) := by decide +kernel
theorem dX6_state_65 : decode cX6_state 65 = .ok (.getfield 10, 3) := by decide +kernel
theorem dX6_state_68 : decode cX6_state 68 = .ok (.getfield 153, 3) := by decide +kernel
theorem dX6_state_71 : decode cX6_state 71 = .ok (.ireturn, 1) := by decide +kernel
theorem dX6_state_72 : decode cX6_state 72 = .ok (.aload_n 0, 1) := by decide +kernel
theorem dX6_state_73 : decode cX6_state 73 = .ok (.getfield 10, 3) := by decide +kernel
theorem dX6_state_76 : decode cX6_state 76 = .ok (.invokevirtual 156, 3) := by decide +kernel
theorem dX6_state_79 : decode cX6_state 79 = .ok (.ireturn, 1) := by decide +kernel
theorem dX6_state_80 : decode cX6_state 80 = .ok (.aload_n 0, 1) := by decide +kernel
theorem dX6_state_81 : decode cX6_state 81 = .ok (.getfield 10, 3) := by decide +kernel
theorem dX6_state_84 : decode cX6_state 84 = .ok (.invokevirtual 159, 3) := by decide +kernel
theorem dX6_state_87 : decode cX6_state 87 = .ok (.ireturn, 1) := by decide +kernel
theorem dX6_state_88 : decode cX6_state 88 = .ok (.iconst (-1), 1) := by decide +kernel
theorem dX6_state_89 : decode cX6_state 89 = .ok (.ireturn, 1) := by decide +kernel
set_option maxRecDepth 20000 in
theorem ggX6_deep_X4_has : GoodIn wsX6_deep wsX4_has := goodIn_r _ [8, 9, 10, 11, 12, 95, 96, 97, 98, 99, 100, 101, 102, 103, 104] (by decide +kernel) (by decide +kernel)
set_option maxRecDepth 20000 in
theorem gX6_deep_X4_has : GoodIn wsX6_deep (wsV RX6 101 RX4 yX4_has wsX4_has) := goodIn_app (goodIn_of _ (by decide +kernel)) ggX6_deep_X4_has
set_option maxRecDepth 20000 in
theorem ggX6_deep_X6_within : GoodIn wsX6_deep wsX6_within := goodIn_r _ [12] (by decide +kernel) (by decide +kernel)
set_option maxRecDepth 20000 in
theorem gX6_deep_X6_within : GoodIn wsX6_deep (va_wsS RX6 57 yX6_within wsX6_within) := goodIn_app (goodIn_of _ (by decide +kernel)) ggX6_deep_X6_within
set_option maxRecDepth 20000 in
theorem ggX6_deep_X6_triedTale : GoodIn wsX6_deep wsX6_triedTale := goodIn_r _ [17, 2, 1, 18, 19, 20, 7, 21, 22, 23, 24, 25, 26, 27, 28, 29, 30, 31, 9, 32, 33, 34, 35, 36, 37, 38, 39, 40, 41, 42, 43, 44, 45, 46, 47, 48, 49, 50, 51, 52, 53, 54, 55, 11, 56, 57, 58, 59, 60, 61, 62, 63, 64, 65, 66, 67, 68, 69, 70, 71, 72, 73, 74, 75, 76, 77, 78, 79, 80, 81, 82, 83, 84, 85, 86, 87, 88, 89, 90, 91, 92, 93, 94, 95, 96, 97, 98, 99, 100, 101, 102, 103, 104] (by decide +kernel) (by decide +kernel)
set_option maxRecDepth 20000 in
theorem gX6_deep_X6_triedTale : GoodIn wsX6_deep (wsV RX6 143 RX6 yX6_triedTale wsX6_triedTale) := goodIn_app (goodIn_of _ (by decide +kernel)) ggX6_deep_X6_triedTale
theorem dX6_deep_0 : decode cX6_deep 0 = .ok (.aload_n 0, 1) := by decide +kernel
theorem dX6_deep_1 : decode cX6_deep 1 = .ok (.getfield 10, 3) := by decide +kernel
theorem dX6_deep_4 : decode cX6_deep 4 = .ok (.iload_n 1, 1) := by decide +kernel
theorem dX6_deep_5 : decode cX6_deep 5 = .ok (.invokevirtual 101, 3) := by decide +kernel
theorem dX6_deep_8 : decode cX6_deep 8 = .ok (.ifCond .eq 13, 3) := by decide +kernel
theorem dX6_deep_11 : decode cX6_deep 11 = .ok (.iload_n 2, 1) := by decide +kernel
theorem dX6_deep_12 : decode cX6_deep 12 = .ok (.iconst 0, 1) := by decide +kernel
theorem dX6_deep_13 : decode cX6_deep 13 = .ok (.bipush 60, 2) := by decide +kernel
theorem dX6_deep_15 : decode cX6_deep 15 = .ok (.invokestatic 57, 3) := by decide +kernel
theorem dX6_deep_18 : decode cX6_deep 18 = .ok (.ifCond .ne 5, 3) := by decide +kernel
theorem dX6_deep_21 : decode cX6_deep 21 = .ok (.iconst (-1), 1) := by decide +kernel
theorem dX6_deep_22 : decode cX6_deep 22 = .ok (.ireturn, 1) := by decide +kernel
theorem dX6_deep_23 : decode cX6_deep 23 = .ok (.aload_n 0, 1) := by decide +kernel
theorem dX6_deep_24 : decode cX6_deep 24 = .ok (.iload_n 2, 1) := by decide +kernel
theorem dX6_deep_25 : decode cX6_deep 25 = .ok (.invokevirtual 143, 3) := by decide +kernel
theorem dX6_deep_28 : decode cX6_deep 28 = .ok (.pop, 1) := by decide +kernel
theorem dX6_deep_29 : decode cX6_deep 29 = .ok (.aload_n 0, 1) := by decide +kernel
theorem dX6_deep_30 : decode cX6_deep 30 = .ok (.getfield 16, 3) := by decide +kernel
theorem dX6_deep_33 : decode cX6_deep 33 = .ok (.getfield 111, 3) := by decide +kernel
theorem dX6_deep_36 : decode cX6_deep 36 = .ok (.iload_n 1, 1) := by decide +kernel
theorem dX6_deep_37 : decode cX6_deep 37 = .ok (.iaload, 1) := by decide +kernel
theorem dX6_deep_38 : decode cX6_deep 38 = .ok (.ireturn, 1) := by decide +kernel
set_option maxRecDepth 20000 in
theorem ggX6_speaks_X4_has : GoodIn wsX6_speaks wsX4_has := goodIn_r _ [7, 8, 9, 10, 11, 89, 90, 91, 92, 93, 94, 95, 96, 97, 98] (by decide +kernel) (by decide +kernel)
set_option maxRecDepth 20000 in
theorem gX6_speaks_X4_has : GoodIn wsX6_speaks (wsV RX6 101 RX4 yX4_has wsX4_has) := goodIn_app (goodIn_of _ (by decide +kernel)) ggX6_speaks_X4_has
set_option maxRecDepth 20000 in
theorem ggX6_speaks_X4_copyFrom : GoodIn wsX6_speaks wsX4_copyFrom := goodIn_r _ [15, 16, 17, 18, 19, 20, 21, 22, 23, 24, 25, 8, 26, 27, 28, 89, 90, 91, 92, 93, 94, 95, 96, 97, 98] (by decide +kernel) (by decide +kernel)
set_option maxRecDepth 20000 in
theorem gX6_speaks_X4_copyFrom : GoodIn wsX6_speaks (wsV RX6 82 RX4 yX4_copyFrom wsX4_copyFrom) := goodIn_app (goodIn_of _ (by decide +kernel)) ggX6_speaks_X4_copyFrom
set_option maxRecDepth 20000 in
theorem ggX6_speaks_X4_coursesUntilTelling : GoodIn wsX6_speaks wsX4_coursesUntilTelling := goodIn_r _ [32, 24, 33, 34, 35, 6, 36, 25, 37, 38, 39, 40, 8, 23, 16, 26, 41, 42, 43, 44, 21, 22, 45, 46, 47, 48, 27, 49, 10, 50, 51, 52, 53, 54, 55, 56, 57, 58, 59, 60, 61, 62, 63, 64, 65, 66, 67, 68, 69, 70, 71, 72, 73, 74, 75, 76, 77, 78, 79, 89, 90, 91, 92, 93, 94, 95, 96, 97, 98] (by decide +kernel) (by decide +kernel)
set_option maxRecDepth 20000 in
theorem gX6_speaks_X4_coursesUntilTelling : GoodIn wsX6_speaks (wsV RX6 162 RX4 yX4_coursesUntilTelling wsX4_coursesUntilTelling) := goodIn_app (goodIn_of _ (by decide +kernel)) ggX6_speaks_X4_coursesUntilTelling
theorem dX6_speaks_0 : decode cX6_speaks 0 = .ok (.aload_n 0, 1) := by decide +kernel
theorem dX6_speaks_1 : decode cX6_speaks 1 = .ok (.getfield 10, 3) := by decide +kernel
theorem dX6_speaks_4 : decode cX6_speaks 4 = .ok (.iload_n 1, 1) := by decide +kernel
theorem dX6_speaks_5 : decode cX6_speaks 5 = .ok (.invokevirtual 101, 3) := by decide +kernel
theorem dX6_speaks_8 : decode cX6_speaks 8 = .ok (.ifCond .ne 5, 3) := by decide +kernel
theorem dX6_speaks_11 : decode cX6_speaks 11 = .ok (.iconst (-1), 1) := by decide +kernel
theorem dX6_speaks_12 : decode cX6_speaks 12 = .ok (.ireturn, 1) := by decide +kernel
theorem dX6_speaks_13 : decode cX6_speaks 13 = .ok (.aload_n 0, 1) := by decide +kernel
theorem dX6_speaks_14 : decode cX6_speaks 14 = .ok (.getfield 16, 3) := by decide +kernel
theorem dX6_speaks_17 : decode cX6_speaks 17 = .ok (.aload_n 0, 1) := by decide +kernel
theorem dX6_speaks_18 : decode cX6_speaks 18 = .ok (.getfield 10, 3) := by decide +kernel
theorem dX6_speaks_21 : decode cX6_speaks 21 = .ok (.invokevirtual 82, 3) := by decide +kernel
theorem dX6_speaks_24 : decode cX6_speaks 24 = .ok (.aload_n 0, 1) := by decide +kernel
theorem dX6_speaks_25 : decode cX6_speaks 25 = .ok (.getfield 16, 3) := by decide +kernel
theorem dX6_speaks_28 : decode cX6_speaks 28 = .ok (.iload_n 1, 1) := by decide +kernel
theorem dX6_speaks_29 : decode cX6_speaks 29 = .ok (.bipush 60, 2) := by decide +kernel
theorem dX6_speaks_31 : decode cX6_speaks 31 = .ok (.invokevirtual 162, 3) := by decide +kernel
theorem dX6_speaks_34 : decode cX6_speaks 34 = .ok (.ireturn, 1) := by decide +kernel
set_option maxRecDepth 20000 in
theorem ggX6_sinks_X4_has : GoodIn wsX6_sinks wsX4_has := goodIn_r _ [7, 8, 9, 10, 11, 89, 90, 91, 92, 93, 94, 95, 96, 97, 98] (by decide +kernel) (by decide +kernel)
set_option maxRecDepth 20000 in
theorem gX6_sinks_X4_has : GoodIn wsX6_sinks (wsV RX6 101 RX4 yX4_has wsX4_has) := goodIn_app (goodIn_of _ (by decide +kernel)) ggX6_sinks_X4_has
set_option maxRecDepth 20000 in
theorem ggX6_sinks_X4_copyFrom : GoodIn wsX6_sinks wsX4_copyFrom := goodIn_r _ [15, 16, 17, 18, 19, 20, 21, 22, 23, 24, 25, 8, 26, 27, 28, 89, 90, 91, 92, 93, 94, 95, 96, 97, 98] (by decide +kernel) (by decide +kernel)
set_option maxRecDepth 20000 in
theorem gX6_sinks_X4_copyFrom : GoodIn wsX6_sinks (wsV RX6 82 RX4 yX4_copyFrom wsX4_copyFrom) := goodIn_app (goodIn_of _ (by decide +kernel)) ggX6_sinks_X4_copyFrom
set_option maxRecDepth 20000 in
theorem ggX6_sinks_X4_coursesUntilDrowned : GoodIn wsX6_sinks wsX4_coursesUntilDrowned := goodIn_r _ [32, 33, 34, 35, 6, 36, 25, 37, 38, 39, 40, 8, 23, 16, 26, 41, 42, 43, 44, 21, 22, 45, 46, 47, 48, 27, 49, 10, 50, 51, 52, 53, 54, 55, 56, 57, 58, 59, 60, 61, 62, 63, 64, 65, 66, 67, 68, 69, 70, 71, 24, 72, 73, 74, 75, 76, 77, 78, 79, 89, 90, 91, 92, 93, 94, 95, 96, 97, 98] (by decide +kernel) (by decide +kernel)
set_option maxRecDepth 20000 in
theorem gX6_sinks_X4_coursesUntilDrowned : GoodIn wsX6_sinks (wsV RX6 165 RX4 yX4_coursesUntilDrowned wsX4_coursesUntilDrowned) := goodIn_app (goodIn_of _ (by decide +kernel)) ggX6_sinks_X4_coursesUntilDrowned
theorem dX6_sinks_0 : decode cX6_sinks 0 = .ok (.aload_n 0, 1) := by decide +kernel
theorem dX6_sinks_1 : decode cX6_sinks 1 = .ok (.getfield 10, 3) := by decide +kernel
theorem dX6_sinks_4 : decode cX6_sinks 4 = .ok (.iload_n 1, 1) := by decide +kernel
theorem dX6_sinks_5 : decode cX6_sinks 5 = .ok (.invokevirtual 101, 3) := by decide +kernel
theorem dX6_sinks_8 : decode cX6_sinks 8 = .ok (.ifCond .ne 5, 3) := by decide +kernel
theorem dX6_sinks_11 : decode cX6_sinks 11 = .ok (.iconst (-1), 1) := by decide +kernel
theorem dX6_sinks_12 : decode cX6_sinks 12 = .ok (.ireturn, 1) := by decide +kernel
theorem dX6_sinks_13 : decode cX6_sinks 13 = .ok (.aload_n 0, 1) := by decide +kernel
theorem dX6_sinks_14 : decode cX6_sinks 14 = .ok (.getfield 16, 3) := by decide +kernel
theorem dX6_sinks_17 : decode cX6_sinks 17 = .ok (.aload_n 0, 1) := by decide +kernel
theorem dX6_sinks_18 : decode cX6_sinks 18 = .ok (.getfield 10, 3) := by decide +kernel
theorem dX6_sinks_21 : decode cX6_sinks 21 = .ok (.invokevirtual 82, 3) := by decide +kernel
theorem dX6_sinks_24 : decode cX6_sinks 24 = .ok (.aload_n 0, 1) := by decide +kernel
theorem dX6_sinks_25 : decode cX6_sinks 25 = .ok (.getfield 16, 3) := by decide +kernel
theorem dX6_sinks_28 : decode cX6_sinks 28 = .ok (.iload_n 1, 1) := by decide +kernel
theorem dX6_sinks_29 : decode cX6_sinks 29 = .ok (.bipush 60, 2) := by decide +kernel
theorem dX6_sinks_31 : decode cX6_sinks 31 = .ok (.invokevirtual 165, 3) := by decide +kernel
theorem dX6_sinks_34 : decode cX6_sinks 34 = .ok (.ireturn, 1) := by decide +kernel
set_option maxRecDepth 20000 in
theorem ggX6_whole_X4_copyFrom : GoodIn wsX6_whole wsX4_copyFrom := goodIn_r _ [7, 8, 9, 10, 11, 12, 13, 14, 15, 16, 17, 18, 19, 20, 21, 83, 84, 85, 86, 87, 88, 89, 90, 91, 92] (by decide +kernel) (by decide +kernel)
set_option maxRecDepth 20000 in
theorem gX6_whole_X4_copyFrom : GoodIn wsX6_whole (wsV RX6 82 RX4 yX4_copyFrom wsX4_copyFrom) := goodIn_app (goodIn_of _ (by decide +kernel)) ggX6_whole_X4_copyFrom
set_option maxRecDepth 20000 in
theorem ggX6_whole_X4_coursesUntilWhole : GoodIn wsX6_whole wsX4_coursesUntilWhole := goodIn_r _ [25, 20, 26, 27, 28, 6, 29, 18, 15, 8, 19, 30, 31, 32, 33, 17, 34, 35, 36, 37, 13, 14, 38, 39, 40, 41, 42, 43, 44, 45, 46, 47, 48, 49, 50, 51, 52, 53, 54, 55, 56, 57, 58, 59, 60, 61, 62, 63, 64, 65, 16, 66, 67, 68, 69, 70, 71, 72, 73, 83, 84, 85, 86, 87, 88, 89, 90, 91, 92] (by decide +kernel) (by decide +kernel)
set_option maxRecDepth 20000 in
theorem gX6_whole_X4_coursesUntilWhole : GoodIn wsX6_whole (wsV RX6 168 RX4 yX4_coursesUntilWhole wsX4_coursesUntilWhole) := goodIn_app (goodIn_of _ (by decide +kernel)) ggX6_whole_X4_coursesUntilWhole
theorem dX6_whole_0 : decode cX6_whole 0 = .ok (.aload_n 0, 1) := by decide +kernel
theorem dX6_whole_1 : decode cX6_whole 1 = .ok (.getfield 16, 3) := by decide +kernel
theorem dX6_whole_4 : decode cX6_whole 4 = .ok (.aload_n 0, 1) := by decide +kernel
theorem dX6_whole_5 : decode cX6_whole 5 = .ok (.getfield 10, 3) := by decide +kernel
theorem dX6_whole_8 : decode cX6_whole 8 = .ok (.invokevirtual 82, 3) := by decide +kernel
theorem dX6_whole_11 : decode cX6_whole 11 = .ok (.aload_n 0, 1) := by decide +kernel
theorem dX6_whole_12 : decode cX6_whole 12 = .ok (.getfield 16, 3) := by decide +kernel
theorem dX6_whole_15 : decode cX6_whole 15 = .ok (.bipush 60, 2) := by decide +kernel
theorem dX6_whole_17 : decode cX6_whole 17 = .ok (.invokevirtual 168, 3) := by decide +kernel
theorem dX6_whole_20 : decode cX6_whole 20 = .ok (.ireturn, 1) := by decide +kernel
set_option maxRecDepth 20000 in
theorem ggX6_tale_X6_within : GoodIn wsX6_tale wsX6_within := goodIn_r _ [4] (by decide +kernel) (by decide +kernel)
set_option maxRecDepth 20000 in
theorem gX6_tale_X6_within : GoodIn wsX6_tale (va_wsS RX6 57 yX6_within wsX6_within) := goodIn_app (goodIn_of _ (by decide +kernel)) ggX6_tale_X6_within
set_option maxRecDepth 20000 in
theorem ggX6_tale_X6_triedTale : GoodIn wsX6_tale wsX6_triedTale := goodIn_r _ [8, 9, 10, 11, 12, 13, 14, 15, 16, 17, 18, 19, 20, 21, 22, 23, 24, 25, 26, 27, 28, 29, 30, 31, 32, 33, 34, 35, 36, 37, 38, 39, 40, 41, 42, 43, 44, 45, 46, 47, 48, 49, 50, 3, 51, 52, 53, 54, 55, 56, 57, 58, 59, 60, 61, 62, 63, 64, 65, 66, 67, 68, 69, 70, 71, 72, 73, 74, 75, 76, 77, 78, 79, 80, 81, 82, 83, 84, 85, 86, 87, 88, 89, 90, 91, 92, 93, 94, 95, 96, 97, 98, 99] (by decide +kernel) (by decide +kernel)
set_option maxRecDepth 20000 in
theorem gX6_tale_X6_triedTale : GoodIn wsX6_tale (wsV RX6 143 RX6 yX6_triedTale wsX6_triedTale) := goodIn_app (goodIn_of _ (by decide +kernel)) ggX6_tale_X6_triedTale
theorem dX6_tale_0 : decode cX6_tale 0 = .ok (.iload_n 1, 1) := by decide +kernel
theorem dX6_tale_1 : decode cX6_tale 1 = .ok (.iconst 0, 1) := by decide +kernel
theorem dX6_tale_2 : decode cX6_tale 2 = .ok (.bipush 60, 2) := by decide +kernel
theorem dX6_tale_4 : decode cX6_tale 4 = .ok (.invokestatic 57, 3) := by decide +kernel
theorem dX6_tale_7 : decode cX6_tale 7 = .ok (.ifCond .eq 11, 3) := by decide +kernel
theorem dX6_tale_10 : decode cX6_tale 10 = .ok (.aload_n 0, 1) := by decide +kernel
theorem dX6_tale_11 : decode cX6_tale 11 = .ok (.iload_n 1, 1) := by decide +kernel
theorem dX6_tale_12 : decode cX6_tale 12 = .ok (.invokevirtual 143, 3) := by decide +kernel
theorem dX6_tale_15 : decode cX6_tale 15 = .ok (.goto 4, 3) := by decide +kernel
theorem dX6_tale_18 : decode cX6_tale 18 = .ok (.iconst (-1), 1) := by decide +kernel
theorem dX6_tale_19 : decode cX6_tale 19 = .ok (.ireturn, 1) := by decide +kernel
set_option maxRecDepth 20000 in
theorem ggX6_pieceFor_X4_has : GoodIn wsX6_pieceFor wsX4_has := goodIn_r _ [8, 9, 10, 11, 12, 91, 92, 93, 94, 95, 96, 97, 98, 99, 100] (by decide +kernel) (by decide +kernel)
set_option maxRecDepth 20000 in
theorem gX6_pieceFor_X4_has : GoodIn wsX6_pieceFor (wsV RX6 101 RX4 yX4_has wsX4_has) := goodIn_app (goodIn_of _ (by decide +kernel)) ggX6_pieceFor_X4_has
set_option maxRecDepth 20000 in
theorem ggX6_pieceFor_X6_within : GoodIn wsX6_pieceFor wsX6_within := goodIn_r _ [12] (by decide +kernel) (by decide +kernel)
set_option maxRecDepth 20000 in
theorem gX6_pieceFor_X6_within : GoodIn wsX6_pieceFor (va_wsS RX6 57 yX6_within wsX6_within) := goodIn_app (goodIn_of _ (by decide +kernel)) ggX6_pieceFor_X6_within
set_option maxRecDepth 20000 in
theorem ggX6_pieceFor_X4_copyFrom : GoodIn wsX6_pieceFor wsX4_copyFrom := goodIn_r _ [17, 18, 19, 20, 21, 22, 23, 24, 25, 26, 27, 9, 28, 29, 30, 91, 92, 93, 94, 95, 96, 97, 98, 99, 100] (by decide +kernel) (by decide +kernel)
set_option maxRecDepth 20000 in
theorem gX6_pieceFor_X4_copyFrom : GoodIn wsX6_pieceFor (wsV RX6 82 RX4 yX4_copyFrom wsX4_copyFrom) := goodIn_app (goodIn_of _ (by decide +kernel)) ggX6_pieceFor_X4_copyFrom
set_option maxRecDepth 20000 in
theorem ggX6_pieceFor_X4_toldBehind : GoodIn wsX6_pieceFor wsX4_toldBehind := goodIn_r _ [34, 29, 35, 36, 37, 7, 38, 9, 25, 18, 28, 39, 40, 41, 42, 27, 43, 44, 45, 46, 23, 24, 47, 48, 49, 50, 51, 11, 52, 53, 54, 55, 56, 57, 58, 59, 60, 61, 62, 63, 64, 65, 66, 67, 68, 69, 70, 71, 72, 73, 26, 74, 75, 76, 77, 78, 79, 80, 81, 91, 92, 93, 94, 95, 96, 97, 98, 99, 100] (by decide +kernel) (by decide +kernel)
set_option maxRecDepth 20000 in
theorem gX6_pieceFor_X4_toldBehind : GoodIn wsX6_pieceFor (wsV RX6 134 RX4 yX4_toldBehind wsX4_toldBehind) := goodIn_app (goodIn_of _ (by decide +kernel)) ggX6_pieceFor_X4_toldBehind
theorem dX6_pieceFor_0 : decode cX6_pieceFor 0 = .ok (.aload_n 0, 1) := by decide +kernel
theorem dX6_pieceFor_1 : decode cX6_pieceFor 1 = .ok (.getfield 10, 3) := by decide +kernel
theorem dX6_pieceFor_4 : decode cX6_pieceFor 4 = .ok (.iload_n 1, 1) := by decide +kernel
theorem dX6_pieceFor_5 : decode cX6_pieceFor 5 = .ok (.invokevirtual 101, 3) := by decide +kernel
theorem dX6_pieceFor_8 : decode cX6_pieceFor 8 = .ok (.ifCond .eq 13, 3) := by decide +kernel
theorem dX6_pieceFor_11 : decode cX6_pieceFor 11 = .ok (.iload_n 2, 1) := by decide +kernel
theorem dX6_pieceFor_12 : decode cX6_pieceFor 12 = .ok (.iconst 1, 1) := by decide +kernel
theorem dX6_pieceFor_13 : decode cX6_pieceFor 13 = .ok (.bipush 40, 2) := by decide +kernel
theorem dX6_pieceFor_15 : decode cX6_pieceFor 15 = .ok (.invokestatic 57, 3) := by decide +kernel
theorem dX6_pieceFor_18 : decode cX6_pieceFor 18 = .ok (.ifCond .ne 5, 3) := by decide +kernel
theorem dX6_pieceFor_21 : decode cX6_pieceFor 21 = .ok (.iconst (-1), 1) := by decide +kernel
theorem dX6_pieceFor_22 : decode cX6_pieceFor 22 = .ok (.ireturn, 1) := by decide +kernel
theorem dX6_pieceFor_23 : decode cX6_pieceFor 23 = .ok (.iconst 0, 1) := by decide +kernel
theorem dX6_pieceFor_24 : decode cX6_pieceFor 24 = .ok (.istore_n 3, 1) := by decide +kernel
theorem dX6_pieceFor_25 : decode cX6_pieceFor 25 = .ok (.iconst (-1), 1) := by decide +kernel
theorem dX6_pieceFor_26 : decode cX6_pieceFor 26 = .ok (.istore 4, 2) := by decide +kernel
theorem dX6_pieceFor_28 : decode cX6_pieceFor 28 = .ok (.iconst 0, 1) := by decide +kernel
theorem dX6_pieceFor_29 : decode cX6_pieceFor 29 = .ok (.istore 5, 2) := by decide +kernel
theorem dX6_pieceFor_31 : decode cX6_pieceFor 31 = .ok (.iload 5, 2) := by decide +kernel
theorem dX6_pieceFor_33 : decode cX6_pieceFor 33 = .ok (.bipush 8, 2) := by decide +kernel
theorem dX6_pieceFor_35 : decode cX6_pieceFor 35 = .ok (.if_icmp .ge 55, 3) := by decide +kernel
theorem dX6_pieceFor_38 : decode cX6_pieceFor 38 = .ok (.aload_n 0, 1) := by decide +kernel
theorem dX6_pieceFor_39 : decode cX6_pieceFor 39 = .ok (.getfield 16, 3) := by decide +kernel
theorem dX6_pieceFor_42 : decode cX6_pieceFor 42 = .ok (.aload_n 0, 1) := by decide +kernel
theorem dX6_pieceFor_43 : decode cX6_pieceFor 43 = .ok (.getfield 10, 3) := by decide +kernel
theorem dX6_pieceFor_46 : decode cX6_pieceFor 46 = .ok (.invokevirtual 82, 3) := by decide +kernel
theorem dX6_pieceFor_49 : decode cX6_pieceFor 49 = .ok (.aload_n 0, 1) := by decide +kernel
theorem dX6_pieceFor_50 : decode cX6_pieceFor 50 = .ok (.getfield 16, 3) := by decide +kernel
theorem dX6_pieceFor_53 : decode cX6_pieceFor 53 = .ok (.getfield 108, 3) := by decide +kernel
theorem dX6_pieceFor_56 : decode cX6_pieceFor 56 = .ok (.iload_n 1, 1) := by decide +kernel
theorem dX6_pieceFor_57 : decode cX6_pieceFor 57 = .ok (.iload 5, 2) := by decide +kernel
theorem dX6_pieceFor_59 : decode cX6_pieceFor 59 = .ok (.iastore, 1) := by decide +kernel
theorem dX6_pieceFor_60 : decode cX6_pieceFor 60 = .ok (.aload_n 0, 1) := by decide +kernel
theorem dX6_pieceFor_61 : decode cX6_pieceFor 61 = .ok (.getfield 16, 3) := by decide +kernel
theorem dX6_pieceFor_64 : decode cX6_pieceFor 64 = .ok (.iload_n 2, 1) := by decide +kernel
theorem dX6_pieceFor_65 : decode cX6_pieceFor 65 = .ok (.invokevirtual 134, 3) := by decide +kernel
theorem dX6_pieceFor_68 : decode cX6_pieceFor 68 = .ok (.istore 6, 2) := by decide +kernel
theorem dX6_pieceFor_70 : decode cX6_pieceFor 70 = .ok (.iload 6, 2) := by decide +kernel
theorem dX6_pieceFor_72 : decode cX6_pieceFor 72 = .ok (.iload 4, 2) := by decide +kernel
theorem dX6_pieceFor_74 : decode cX6_pieceFor 74 = .ok (.if_icmp .le 10, 3) := by decide +kernel
theorem dX6_pieceFor_77 : decode cX6_pieceFor 77 = .ok (.iload 6, 2) := by decide +kernel
theorem dX6_pieceFor_79 : decode cX6_pieceFor 79 = .ok (.istore 4, 2) := by decide +kernel
theorem dX6_pieceFor_81 : decode cX6_pieceFor 81 = .ok (.iload 5, 2) := by decide +kernel
theorem dX6_pieceFor_83 : decode cX6_pieceFor 83 = .ok (.istore_n 3, 1) := by decide +kernel
theorem dX6_pieceFor_84 : decode cX6_pieceFor 84 = .ok (.iinc 5 1, 3) := by decide +kernel
theorem dX6_pieceFor_87 : decode cX6_pieceFor 87 = .ok (.goto (-56), 3) := by decide +kernel
theorem dX6_pieceFor_90 : decode cX6_pieceFor 90 = .ok (.iload_n 3, 1) := by decide +kernel
theorem dX6_pieceFor_91 : decode cX6_pieceFor 91 = .ok (.ireturn, 1) := by decide +kernel
set_option maxRecDepth 20000 in
theorem ggX6_kindFor_X4_has : GoodIn wsX6_kindFor wsX4_has := goodIn_r _ [8, 9, 10, 11, 12, 91, 92, 93, 94, 95, 96, 97, 98, 99, 100] (by decide +kernel) (by decide +kernel)
set_option maxRecDepth 20000 in
theorem gX6_kindFor_X4_has : GoodIn wsX6_kindFor (wsV RX6 101 RX4 yX4_has wsX4_has) := goodIn_app (goodIn_of _ (by decide +kernel)) ggX6_kindFor_X4_has
set_option maxRecDepth 20000 in
theorem ggX6_kindFor_X6_within : GoodIn wsX6_kindFor wsX6_within := goodIn_r _ [12] (by decide +kernel) (by decide +kernel)
set_option maxRecDepth 20000 in
theorem gX6_kindFor_X6_within : GoodIn wsX6_kindFor (va_wsS RX6 57 yX6_within wsX6_within) := goodIn_app (goodIn_of _ (by decide +kernel)) ggX6_kindFor_X6_within
set_option maxRecDepth 20000 in
theorem ggX6_kindFor_X4_copyFrom : GoodIn wsX6_kindFor wsX4_copyFrom := goodIn_r _ [17, 18, 19, 20, 21, 22, 23, 24, 25, 26, 27, 9, 28, 29, 30, 91, 92, 93, 94, 95, 96, 97, 98, 99, 100] (by decide +kernel) (by decide +kernel)
set_option maxRecDepth 20000 in
theorem gX6_kindFor_X4_copyFrom : GoodIn wsX6_kindFor (wsV RX6 82 RX4 yX4_copyFrom wsX4_copyFrom) := goodIn_app (goodIn_of _ (by decide +kernel)) ggX6_kindFor_X4_copyFrom
set_option maxRecDepth 20000 in
theorem ggX6_kindFor_X4_toldBehind : GoodIn wsX6_kindFor wsX4_toldBehind := goodIn_r _ [34, 29, 35, 36, 37, 7, 38, 9, 25, 18, 28, 39, 40, 41, 42, 27, 43, 44, 45, 46, 23, 24, 47, 48, 49, 50, 51, 11, 52, 53, 54, 55, 56, 57, 58, 59, 60, 61, 62, 63, 64, 65, 66, 67, 68, 69, 70, 71, 72, 73, 26, 74, 75, 76, 77, 78, 79, 80, 81, 91, 92, 93, 94, 95, 96, 97, 98, 99, 100] (by decide +kernel) (by decide +kernel)
set_option maxRecDepth 20000 in
theorem gX6_kindFor_X4_toldBehind : GoodIn wsX6_kindFor (wsV RX6 134 RX4 yX4_toldBehind wsX4_toldBehind) := goodIn_app (goodIn_of _ (by decide +kernel)) ggX6_kindFor_X4_toldBehind
theorem dX6_kindFor_0 : decode cX6_kindFor 0 = .ok (.aload_n 0, 1) := by decide +kernel
theorem dX6_kindFor_1 : decode cX6_kindFor 1 = .ok (.getfield 10, 3) := by decide +kernel
theorem dX6_kindFor_4 : decode cX6_kindFor 4 = .ok (.iload_n 1, 1) := by decide +kernel
theorem dX6_kindFor_5 : decode cX6_kindFor 5 = .ok (.invokevirtual 101, 3) := by decide +kernel
theorem dX6_kindFor_8 : decode cX6_kindFor 8 = .ok (.ifCond .eq 13, 3) := by decide +kernel
theorem dX6_kindFor_11 : decode cX6_kindFor 11 = .ok (.iload_n 2, 1) := by decide +kernel
theorem dX6_kindFor_12 : decode cX6_kindFor 12 = .ok (.iconst 1, 1) := by decide +kernel
theorem dX6_kindFor_13 : decode cX6_kindFor 13 = .ok (.bipush 40, 2) := by decide +kernel
theorem dX6_kindFor_15 : decode cX6_kindFor 15 = .ok (.invokestatic 57, 3) := by decide +kernel
theorem dX6_kindFor_18 : decode cX6_kindFor 18 = .ok (.ifCond .ne 5, 3) := by decide +kernel
theorem dX6_kindFor_21 : decode cX6_kindFor 21 = .ok (.iconst (-1), 1) := by decide +kernel
theorem dX6_kindFor_22 : decode cX6_kindFor 22 = .ok (.ireturn, 1) := by decide +kernel
theorem dX6_kindFor_23 : decode cX6_kindFor 23 = .ok (.iconst 0, 1) := by decide +kernel
theorem dX6_kindFor_24 : decode cX6_kindFor 24 = .ok (.istore_n 3, 1) := by decide +kernel
theorem dX6_kindFor_25 : decode cX6_kindFor 25 = .ok (.iconst (-1), 1) := by decide +kernel
theorem dX6_kindFor_26 : decode cX6_kindFor 26 = .ok (.istore 4, 2) := by decide +kernel
theorem dX6_kindFor_28 : decode cX6_kindFor 28 = .ok (.iconst 0, 1) := by decide +kernel
theorem dX6_kindFor_29 : decode cX6_kindFor 29 = .ok (.istore 5, 2) := by decide +kernel
theorem dX6_kindFor_31 : decode cX6_kindFor 31 = .ok (.iload 5, 2) := by decide +kernel
theorem dX6_kindFor_33 : decode cX6_kindFor 33 = .ok (.bipush 6, 2) := by decide +kernel
theorem dX6_kindFor_35 : decode cX6_kindFor 35 = .ok (.if_icmp .ge 55, 3) := by decide +kernel
theorem dX6_kindFor_38 : decode cX6_kindFor 38 = .ok (.aload_n 0, 1) := by decide +kernel
theorem dX6_kindFor_39 : decode cX6_kindFor 39 = .ok (.getfield 16, 3) := by decide +kernel
theorem dX6_kindFor_42 : decode cX6_kindFor 42 = .ok (.aload_n 0, 1) := by decide +kernel
theorem dX6_kindFor_43 : decode cX6_kindFor 43 = .ok (.getfield 10, 3) := by decide +kernel
theorem dX6_kindFor_46 : decode cX6_kindFor 46 = .ok (.invokevirtual 82, 3) := by decide +kernel
theorem dX6_kindFor_49 : decode cX6_kindFor 49 = .ok (.aload_n 0, 1) := by decide +kernel
theorem dX6_kindFor_50 : decode cX6_kindFor 50 = .ok (.getfield 16, 3) := by decide +kernel
theorem dX6_kindFor_53 : decode cX6_kindFor 53 = .ok (.getfield 105, 3) := by decide +kernel
theorem dX6_kindFor_56 : decode cX6_kindFor 56 = .ok (.iload_n 1, 1) := by decide +kernel
theorem dX6_kindFor_57 : decode cX6_kindFor 57 = .ok (.iload 5, 2) := by decide +kernel
theorem dX6_kindFor_59 : decode cX6_kindFor 59 = .ok (.iastore, 1) := by decide +kernel
theorem dX6_kindFor_60 : decode cX6_kindFor 60 = .ok (.aload_n 0, 1) := by decide +kernel
theorem dX6_kindFor_61 : decode cX6_kindFor 61 = .ok (.getfield 16, 3) := by decide +kernel
theorem dX6_kindFor_64 : decode cX6_kindFor 64 = .ok (.iload_n 2, 1) := by decide +kernel
theorem dX6_kindFor_65 : decode cX6_kindFor 65 = .ok (.invokevirtual 134, 3) := by decide +kernel
theorem dX6_kindFor_68 : decode cX6_kindFor 68 = .ok (.istore 6, 2) := by decide +kernel
theorem dX6_kindFor_70 : decode cX6_kindFor 70 = .ok (.iload 6, 2) := by decide +kernel
theorem dX6_kindFor_72 : decode cX6_kindFor 72 = .ok (.iload 4, 2) := by decide +kernel
theorem dX6_kindFor_74 : decode cX6_kindFor 74 = .ok (.if_icmp .le 10, 3) := by decide +kernel
theorem dX6_kindFor_77 : decode cX6_kindFor 77 = .ok (.iload 6, 2) := by decide +kernel
theorem dX6_kindFor_79 : decode cX6_kindFor 79 = .ok (.istore 4, 2) := by decide +kernel
theorem dX6_kindFor_81 : decode cX6_kindFor 81 = .ok (.iload 5, 2) := by decide +kernel
theorem dX6_kindFor_83 : decode cX6_kindFor 83 = .ok (.istore_n 3, 1) := by decide +kernel
theorem dX6_kindFor_84 : decode cX6_kindFor 84 = .ok (.iinc 5 1, 3) := by decide +kernel
theorem dX6_kindFor_87 : decode cX6_kindFor 87 = .ok (.goto (-56), 3) := by decide +kernel
theorem dX6_kindFor_90 : decode cX6_kindFor 90 = .ok (.iload_n 3, 1) := by decide +kernel
theorem dX6_kindFor_91 : decode cX6_kindFor 91 = .ok (.ireturn, 1) := by decide +kernel
set_option maxRecDepth 20000 in
theorem ggX6_goneFor_X4_has : GoodIn wsX6_goneFor wsX4_has := goodIn_r _ [8, 9, 10, 11, 12, 91, 92, 93, 94, 95, 96, 97, 98, 99, 100] (by decide +kernel) (by decide +kernel)
set_option maxRecDepth 20000 in
theorem gX6_goneFor_X4_has : GoodIn wsX6_goneFor (wsV RX6 101 RX4 yX4_has wsX4_has) := goodIn_app (goodIn_of _ (by decide +kernel)) ggX6_goneFor_X4_has
set_option maxRecDepth 20000 in
theorem ggX6_goneFor_X6_within : GoodIn wsX6_goneFor wsX6_within := goodIn_r _ [12] (by decide +kernel) (by decide +kernel)
set_option maxRecDepth 20000 in
theorem gX6_goneFor_X6_within : GoodIn wsX6_goneFor (va_wsS RX6 57 yX6_within wsX6_within) := goodIn_app (goodIn_of _ (by decide +kernel)) ggX6_goneFor_X6_within
set_option maxRecDepth 20000 in
theorem ggX6_goneFor_X4_copyFrom : GoodIn wsX6_goneFor wsX4_copyFrom := goodIn_r _ [17, 18, 19, 20, 21, 22, 23, 24, 25, 26, 27, 9, 28, 29, 30, 91, 92, 93, 94, 95, 96, 97, 98, 99, 100] (by decide +kernel) (by decide +kernel)
set_option maxRecDepth 20000 in
theorem gX6_goneFor_X4_copyFrom : GoodIn wsX6_goneFor (wsV RX6 82 RX4 yX4_copyFrom wsX4_copyFrom) := goodIn_app (goodIn_of _ (by decide +kernel)) ggX6_goneFor_X4_copyFrom
set_option maxRecDepth 20000 in
theorem ggX6_goneFor_X4_coursesUntilTelling : GoodIn wsX6_goneFor wsX4_coursesUntilTelling := goodIn_r _ [34, 26, 35, 36, 37, 7, 38, 27, 39, 40, 41, 42, 9, 25, 18, 28, 43, 44, 45, 46, 23, 24, 47, 48, 49, 50, 29, 51, 11, 52, 53, 54, 55, 56, 57, 58, 59, 60, 61, 62, 63, 64, 65, 66, 67, 68, 69, 70, 71, 72, 73, 74, 75, 76, 77, 78, 79, 80, 81, 91, 92, 93, 94, 95, 96, 97, 98, 99, 100] (by decide +kernel) (by decide +kernel)
set_option maxRecDepth 20000 in
theorem gX6_goneFor_X4_coursesUntilTelling : GoodIn wsX6_goneFor (wsV RX6 162 RX4 yX4_coursesUntilTelling wsX4_coursesUntilTelling) := goodIn_app (goodIn_of _ (by decide +kernel)) ggX6_goneFor_X4_coursesUntilTelling
theorem dX6_goneFor_0 : decode cX6_goneFor 0 = .ok (.aload_n 0, 1) := by decide +kernel
theorem dX6_goneFor_1 : decode cX6_goneFor 1 = .ok (.getfield 10, 3) := by decide +kernel
theorem dX6_goneFor_4 : decode cX6_goneFor 4 = .ok (.iload_n 1, 1) := by decide +kernel
theorem dX6_goneFor_5 : decode cX6_goneFor 5 = .ok (.invokevirtual 101, 3) := by decide +kernel
theorem dX6_goneFor_8 : decode cX6_goneFor 8 = .ok (.ifCond .eq 13, 3) := by decide +kernel
theorem dX6_goneFor_11 : decode cX6_goneFor 11 = .ok (.iload_n 2, 1) := by decide +kernel
theorem dX6_goneFor_12 : decode cX6_goneFor 12 = .ok (.iconst 1, 1) := by decide +kernel
theorem dX6_goneFor_13 : decode cX6_goneFor 13 = .ok (.bipush 40, 2) := by decide +kernel
theorem dX6_goneFor_15 : decode cX6_goneFor 15 = .ok (.invokestatic 57, 3) := by decide +kernel
theorem dX6_goneFor_18 : decode cX6_goneFor 18 = .ok (.ifCond .ne 5, 3) := by decide +kernel
theorem dX6_goneFor_21 : decode cX6_goneFor 21 = .ok (.iconst (-1), 1) := by decide +kernel
theorem dX6_goneFor_22 : decode cX6_goneFor 22 = .ok (.ireturn, 1) := by decide +kernel
theorem dX6_goneFor_23 : decode cX6_goneFor 23 = .ok (.iconst 0, 1) := by decide +kernel
theorem dX6_goneFor_24 : decode cX6_goneFor 24 = .ok (.istore_n 3, 1) := by decide +kernel
theorem dX6_goneFor_25 : decode cX6_goneFor 25 = .ok (.iload_n 3, 1) := by decide +kernel
theorem dX6_goneFor_26 : decode cX6_goneFor 26 = .ok (.bipush 99, 2) := by decide +kernel
theorem dX6_goneFor_28 : decode cX6_goneFor 28 = .ok (.if_icmp .gt 46, 3) := by decide +kernel
theorem dX6_goneFor_31 : decode cX6_goneFor 31 = .ok (.aload_n 0, 1) := by decide +kernel
theorem dX6_goneFor_32 : decode cX6_goneFor 32 = .ok (.getfield 16, 3) := by decide +kernel
theorem dX6_goneFor_35 : decode cX6_goneFor 35 = .ok (.aload_n 0, 1) := by decide +kernel
theorem dX6_goneFor_36 : decode cX6_goneFor 36 = .ok (.getfield 10, 3) := by decide +kernel
theorem dX6_goneFor_39 : decode cX6_goneFor 39 = .ok (.invokevirtual 82, 3) := by decide +kernel
theorem dX6_goneFor_42 : decode cX6_goneFor 42 = .ok (.aload_n 0, 1) := by decide +kernel
theorem dX6_goneFor_43 : decode cX6_goneFor 43 = .ok (.getfield 16, 3) := by decide +kernel
theorem dX6_goneFor_46 : decode cX6_goneFor 46 = .ok (.getfield 111, 3) := by decide +kernel
theorem dX6_goneFor_49 : decode cX6_goneFor 49 = .ok (.iload_n 1, 1) := by decide +kernel
theorem dX6_goneFor_50 : decode cX6_goneFor 50 = .ok (.iload_n 3, 1) := by decide +kernel
theorem dX6_goneFor_51 : decode cX6_goneFor 51 = .ok (.iastore, 1) := by decide +kernel
theorem dX6_goneFor_52 : decode cX6_goneFor 52 = .ok (.aload_n 0, 1) := by decide +kernel
theorem dX6_goneFor_53 : decode cX6_goneFor 53 = .ok (.getfield 16, 3) := by decide +kernel
theorem dX6_goneFor_56 : decode cX6_goneFor 56 = .ok (.iload_n 1, 1) := by decide +kernel
theorem dX6_goneFor_57 : decode cX6_goneFor 57 = .ok (.iload_n 2, 1) := by decide +kernel
theorem dX6_goneFor_58 : decode cX6_goneFor 58 = .ok (.invokevirtual 162, 3) := by decide +kernel
theorem dX6_goneFor_61 : decode cX6_goneFor 61 = .ok (.bipush (-3), 2) := by decide +kernel
theorem dX6_goneFor_63 : decode cX6_goneFor 63 = .ok (.if_icmp .eq 5, 3) := by decide +kernel
theorem dX6_goneFor_66 : decode cX6_goneFor 66 = .ok (.iload_n 3, 1) := by decide +kernel
theorem dX6_goneFor_67 : decode cX6_goneFor 67 = .ok (.ireturn, 1) := by decide +kernel
theorem dX6_goneFor_68 : decode cX6_goneFor 68 = .ok (.iinc 3 1, 3) := by decide +kernel
theorem dX6_goneFor_71 : decode cX6_goneFor 71 = .ok (.goto (-46), 3) := by decide +kernel
theorem dX6_goneFor_74 : decode cX6_goneFor 74 = .ok (.bipush (-3), 2) := by decide +kernel
theorem dX6_goneFor_76 : decode cX6_goneFor 76 = .ok (.ireturn, 1) := by decide +kernel
set_option maxRecDepth 20000 in
theorem ggX6_depthFor_X6_within : GoodIn wsX6_depthFor wsX6_within := goodIn_r _ [11] (by decide +kernel) (by decide +kernel)
set_option maxRecDepth 20000 in
theorem gX6_depthFor_X6_within : GoodIn wsX6_depthFor (va_wsS RX6 57 yX6_within wsX6_within) := goodIn_app (goodIn_of _ (by decide +kernel)) ggX6_depthFor_X6_within
set_option maxRecDepth 20000 in
theorem ggX6_depthFor_X4_copyFrom : GoodIn wsX6_depthFor wsX4_copyFrom := goodIn_r _ [16, 17, 18, 19, 20, 21, 22, 23, 24, 25, 26, 27, 28, 29, 30, 88, 89, 90, 91, 92, 93, 94, 95, 96, 97] (by decide +kernel) (by decide +kernel)
set_option maxRecDepth 20000 in
theorem gX6_depthFor_X4_copyFrom : GoodIn wsX6_depthFor (wsV RX6 82 RX4 yX4_copyFrom wsX4_copyFrom) := goodIn_app (goodIn_of _ (by decide +kernel)) ggX6_depthFor_X4_copyFrom
set_option maxRecDepth 20000 in
theorem ggX6_depthFor_X4_serve : GoodIn wsX6_depthFor wsX4_serve := goodIn_r _ [34, 27, 24, 17, 28, 35, 36, 37, 15, 38, 26, 39, 40, 41, 42, 22, 23, 43, 44, 45, 46, 29, 47, 10, 48, 49, 50, 6, 51, 4, 5, 7, 52, 53, 54, 55, 56, 57, 58, 59, 60, 61, 62, 63, 64, 65, 25, 66, 67, 68, 69, 70, 71, 72, 73, 88, 89, 90, 91, 92, 93, 94, 95, 96, 97] (by decide +kernel) (by decide +kernel)
set_option maxRecDepth 20000 in
theorem gX6_depthFor_X4_serve : GoodIn wsX6_depthFor (wsV RX6 171 RX4 yX4_serve wsX4_serve) := goodIn_app (goodIn_of _ (by decide +kernel)) ggX6_depthFor_X4_serve
set_option maxRecDepth 20000 in
theorem ggX6_depthFor_X4_deepestAlive : GoodIn wsX6_depthFor wsX4_deepestAlive := goodIn_r _ [77, 27, 24, 78, 5, 6, 7, 35, 36, 37, 15, 38, 26, 88, 89, 90, 91, 92, 93, 94, 95, 96, 97] (by decide +kernel) (by decide +kernel)
set_option maxRecDepth 20000 in
theorem gX6_depthFor_X4_deepestAlive : GoodIn wsX6_depthFor (wsV RX6 174 RX4 yX4_deepestAlive wsX4_deepestAlive) := goodIn_app (goodIn_of _ (by decide +kernel)) ggX6_depthFor_X4_deepestAlive
theorem dX6_depthFor_0 : decode cX6_depthFor 0 = .ok (.iload_n 1, 1) := by decide +kernel
theorem dX6_depthFor_1 : decode cX6_depthFor 1 = .ok (.iconst 1, 1) := by decide +kernel
theorem dX6_depthFor_2 : decode cX6_depthFor 2 = .ok (.bipush 40, 2) := by decide +kernel
theorem dX6_depthFor_4 : decode cX6_depthFor 4 = .ok (.invokestatic 57, 3) := by decide +kernel
theorem dX6_depthFor_7 : decode cX6_depthFor 7 = .ok (.ifCond .ne 5, 3) := by decide +kernel
theorem dX6_depthFor_10 : decode cX6_depthFor 10 = .ok (.iconst (-1), 1) := by decide +kernel
theorem dX6_depthFor_11 : decode cX6_depthFor 11 = .ok (.ireturn, 1) := by decide +kernel
theorem dX6_depthFor_12 : decode cX6_depthFor 12 = .ok (.aload_n 0, 1) := by decide +kernel
theorem dX6_depthFor_13 : decode cX6_depthFor 13 = .ok (.getfield 16, 3) := by decide +kernel
theorem dX6_depthFor_16 : decode cX6_depthFor 16 = .ok (.aload_n 0, 1) := by decide +kernel
theorem dX6_depthFor_17 : decode cX6_depthFor 17 = .ok (.getfield 10, 3) := by decide +kernel
theorem dX6_depthFor_20 : decode cX6_depthFor 20 = .ok (.invokevirtual 82, 3) := by decide +kernel
theorem dX6_depthFor_23 : decode cX6_depthFor 23 = .ok (.aload_n 0, 1) := by decide +kernel
theorem dX6_depthFor_24 : decode cX6_depthFor 24 = .ok (.getfield 16, 3) := by decide +kernel
theorem dX6_depthFor_27 : decode cX6_depthFor 27 = .ok (.getfield 94, 3) := by decide +kernel
theorem dX6_depthFor_30 : decode cX6_depthFor 30 = .ok (.iconst 2, 1) := by decide +kernel
theorem dX6_depthFor_31 : decode cX6_depthFor 31 = .ok (.bipush 99, 2) := by decide +kernel
theorem dX6_depthFor_33 : decode cX6_depthFor 33 = .ok (.iastore, 1) := by decide +kernel
theorem dX6_depthFor_34 : decode cX6_depthFor 34 = .ok (.iconst 0, 1) := by decide +kernel
theorem dX6_depthFor_35 : decode cX6_depthFor 35 = .ok (.istore_n 2, 1) := by decide +kernel
theorem dX6_depthFor_36 : decode cX6_depthFor 36 = .ok (.iconst 0, 1) := by decide +kernel
theorem dX6_depthFor_37 : decode cX6_depthFor 37 = .ok (.istore_n 3, 1) := by decide +kernel
theorem dX6_depthFor_38 : decode cX6_depthFor 38 = .ok (.iload_n 3, 1) := by decide +kernel
theorem dX6_depthFor_39 : decode cX6_depthFor 39 = .ok (.iload_n 1, 1) := by decide +kernel
theorem dX6_depthFor_40 : decode cX6_depthFor 40 = .ok (.if_icmp .ge 28, 3) := by decide +kernel
theorem dX6_depthFor_43 : decode cX6_depthFor 43 = .ok (.aload_n 0, 1) := by decide +kernel
theorem dX6_depthFor_44 : decode cX6_depthFor 44 = .ok (.getfield 16, 3) := by decide +kernel
theorem dX6_depthFor_47 : decode cX6_depthFor 47 = .ok (.invokevirtual 171, 3) := by decide +kernel
theorem dX6_depthFor_50 : decode cX6_depthFor 50 = .ok (.iload_n 2, 1) := by decide +kernel
theorem dX6_depthFor_51 : decode cX6_depthFor 51 = .ok (.aload_n 0, 1) := by decide +kernel
theorem dX6_depthFor_52 : decode cX6_depthFor 52 = .ok (.getfield 16, 3) := by decide +kernel
theorem dX6_depthFor_55 : decode cX6_depthFor 55 = .ok (.invokevirtual 174, 3) := by decide +kernel
theorem dX6_depthFor_58 : decode cX6_depthFor 58 = .ok (.invokestatic 177, 3) := by decide +kernel
theorem dX6_depthFor_61 : decode cX6_depthFor 61 = .ok (.istore_n 2, 1) := by decide +kernel
theorem dX6_depthFor_62 : decode cX6_depthFor 62 = .ok (.iinc 3 1, 3) := by decide +kernel
theorem dX6_depthFor_65 : decode cX6_depthFor 65 = .ok (.goto (-27), 3) := by decide +kernel
theorem dX6_depthFor_68 : decode cX6_depthFor 68 = .ok (.iload_n 2, 1) := by decide +kernel
theorem dX6_depthFor_69 : decode cX6_depthFor 69 = .ok (.ireturn, 1) := by decide +kernel
set_option maxRecDepth 20000 in
theorem ggX6_strangersFor_X6_within : GoodIn wsX6_strangersFor wsX6_within := goodIn_r _ [9] (by decide +kernel) (by decide +kernel)
set_option maxRecDepth 20000 in
theorem gX6_strangersFor_X6_within : GoodIn wsX6_strangersFor (va_wsS RX6 57 yX6_within wsX6_within) := goodIn_app (goodIn_of _ (by decide +kernel)) ggX6_strangersFor_X6_within
set_option maxRecDepth 20000 in
theorem ggX6_strangersFor_X4_piecesUntil : GoodIn wsX6_strangersFor wsX4_piecesUntil := goodIn_r _ [14, 15, 118, 119, 120, 121, 122, 123, 124, 125, 126, 127] (by decide +kernel) (by decide +kernel)
set_option maxRecDepth 20000 in
theorem gX6_strangersFor_X4_piecesUntil : GoodIn wsX6_strangersFor (wsV RX6 183 RX4 yX4_piecesUntil wsX4_piecesUntil) := goodIn_app (goodIn_of _ (by decide +kernel)) ggX6_strangersFor_X4_piecesUntil
set_option maxRecDepth 20000 in
theorem ggX6_strangersFor_X4_holdersOf : GoodIn wsX6_strangersFor wsX4_holdersOf := goodIn_r _ [19, 20, 21, 22, 23, 24, 13, 25, 26, 118, 119, 120, 121, 122, 123, 124, 125, 126, 127] (by decide +kernel) (by decide +kernel)
set_option maxRecDepth 20000 in
theorem gX6_strangersFor_X4_holdersOf : GoodIn wsX6_strangersFor (wsV RX6 186 RX4 yX4_holdersOf wsX4_holdersOf) := goodIn_app (goodIn_of _ (by decide +kernel)) ggX6_strangersFor_X4_holdersOf
set_option maxRecDepth 20000 in
theorem ggX6_strangersFor_X4_everyone : GoodIn wsX6_strangersFor wsX4_everyone := goodIn_r _ [30, 20, 118, 119, 120, 121, 122, 123, 124, 125, 126, 127] (by decide +kernel) (by decide +kernel)
set_option maxRecDepth 20000 in
theorem gX6_strangersFor_X4_everyone : GoodIn wsX6_strangersFor (wsV RX6 189 RX4 yX4_everyone wsX4_everyone) := goodIn_app (goodIn_of _ (by decide +kernel)) ggX6_strangersFor_X4_everyone
set_option maxRecDepth 20000 in
theorem ggX6_strangersFor_J6_bitCount_0f7a4 : GoodIn wsX6_strangersFor wsJ6_bitCount_0f7a4 := goodIn_r _ [34, 35, 36, 37] (by decide +kernel) (by decide +kernel)
set_option maxRecDepth 20000 in
theorem gX6_strangersFor_J6_bitCount_0f7a4 : GoodIn wsX6_strangersFor (va_wsS RX6 192 yJ6_bitCount_0f7a4 wsJ6_bitCount_0f7a4) := goodIn_app (goodIn_of _ (by decide +kernel)) ggX6_strangersFor_J6_bitCount_0f7a4
set_option maxRecDepth 20000 in
theorem ggX6_strangersFor_X4_piecesOf : GoodIn wsX6_strangersFor wsX4_piecesOf := goodIn_r _ [41, 20, 21, 118, 119, 120, 121, 122, 123, 124, 125, 126, 127] (by decide +kernel) (by decide +kernel)
set_option maxRecDepth 20000 in
theorem gX6_strangersFor_X4_piecesOf : GoodIn wsX6_strangersFor (wsV RX6 197 RX4 yX4_piecesOf wsX4_piecesOf) := goodIn_app (goodIn_of _ (by decide +kernel)) ggX6_strangersFor_X4_piecesOf
set_option maxRecDepth 20000 in
theorem ggX6_strangersFor_X6_reaches : GoodIn wsX6_strangersFor wsX6_reaches := goodIn_r _ [45, 46, 2, 47, 48, 49, 50, 13, 51, 52, 53, 54, 55, 56, 57, 21, 58, 59, 26, 20, 60, 15, 61, 27, 28, 29, 30, 62, 63, 64, 65, 66, 67, 68, 69, 22, 23, 24, 25, 70, 71, 72, 73, 74, 75, 76, 77, 78, 8, 79, 80, 81, 82, 83, 84, 85, 86, 87, 88, 89, 90, 91, 92, 93, 94, 95, 96, 97, 98, 99, 100, 101, 102, 103, 104, 105, 106, 107, 108, 109, 110, 111, 112, 113, 114, 115, 116, 117, 118, 119, 120, 121, 122, 123, 124, 125, 126, 127] (by decide +kernel) (by decide +kernel)
set_option maxRecDepth 20000 in
theorem gX6_strangersFor_X6_reaches : GoodIn wsX6_strangersFor (wsV RX6 200 RX6 yX6_reaches wsX6_reaches) := goodIn_app (goodIn_of _ (by decide +kernel)) ggX6_strangersFor_X6_reaches
theorem dX6_strangersFor_0 : decode cX6_strangersFor 0 = .ok (.iload_n 1, 1) := by decide +kernel
theorem dX6_strangersFor_1 : decode cX6_strangersFor 1 = .ok (.iconst 1, 1) := by decide +kernel
theorem dX6_strangersFor_2 : decode cX6_strangersFor 2 = .ok (.bipush 20, 2) := by decide +kernel
theorem dX6_strangersFor_4 : decode cX6_strangersFor 4 = .ok (.invokestatic 57, 3) := by decide +kernel
theorem dX6_strangersFor_7 : decode cX6_strangersFor 7 = .ok (.ifCond .eq 13, 3) := by decide +kernel
theorem dX6_strangersFor_10 : decode cX6_strangersFor 10 = .ok (.iload_n 2, 1) := by decide +kernel
theorem dX6_strangersFor_11 : decode cX6_strangersFor 11 = .ok (.iconst 0, 1) := by decide +kernel
theorem dX6_strangersFor_12 : decode cX6_strangersFor 12 = .ok (.ldc 182, 2) := by decide +kernel
theorem dX6_strangersFor_14 : decode cX6_strangersFor 14 = .ok (.invokestatic 57, 3) := by decide +kernel
theorem dX6_strangersFor_17 : decode cX6_strangersFor 17 = .ok (.ifCond .ne 5, 3) := by decide +kernel
theorem dX6_strangersFor_20 : decode cX6_strangersFor 20 = .ok (.iconst (-1), 1) := by decide +kernel
theorem dX6_strangersFor_21 : decode cX6_strangersFor 21 = .ok (.ireturn, 1) := by decide +kernel
theorem dX6_strangersFor_22 : decode cX6_strangersFor 22 = .ok (.aload_n 0, 1) := by decide +kernel
theorem dX6_strangersFor_23 : decode cX6_strangersFor 23 = .ok (.getfield 10, 3) := by decide +kernel
theorem dX6_strangersFor_26 : decode cX6_strangersFor 26 = .ok (.getfield 140, 3) := by decide +kernel
theorem dX6_strangersFor_29 : decode cX6_strangersFor 29 = .ok (.iload_n 2, 1) := by decide +kernel
theorem dX6_strangersFor_30 : decode cX6_strangersFor 30 = .ok (.if_icmp .lt 5, 3) := by decide +kernel
theorem dX6_strangersFor_33 : decode cX6_strangersFor 33 = .ok (.iconst 0, 1) := by decide +kernel
theorem dX6_strangersFor_34 : decode cX6_strangersFor 34 = .ok (.ireturn, 1) := by decide +kernel
theorem dX6_strangersFor_35 : decode cX6_strangersFor 35 = .ok (.iload_n 2, 1) := by decide +kernel
theorem dX6_strangersFor_36 : decode cX6_strangersFor 36 = .ok (.aload_n 0, 1) := by decide +kernel
theorem dX6_strangersFor_37 : decode cX6_strangersFor 37 = .ok (.getfield 10, 3) := by decide +kernel
theorem dX6_strangersFor_40 : decode cX6_strangersFor 40 = .ok (.getfield 140, 3) := by decide +kernel
theorem dX6_strangersFor_43 : decode cX6_strangersFor 43 = .ok (.isub, 1) := by decide +kernel
theorem dX6_strangersFor_44 : decode cX6_strangersFor 44 = .ok (.iload_n 1, 1) := by decide +kernel
theorem dX6_strangersFor_45 : decode cX6_strangersFor 45 = .ok (.aload_n 0, 1) := by decide +kernel
theorem dX6_strangersFor_46 : decode cX6_strangersFor 46 = .ok (.getfield 10, 3) := by decide +kernel
theorem dX6_strangersFor_49 : decode cX6_strangersFor 49 = .ok (.getfield 94, 3) := by decide +kernel
theorem dX6_strangersFor_52 : decode cX6_strangersFor 52 = .ok (.iconst 0, 1) := by decide +kernel
theorem dX6_strangersFor_53 : decode cX6_strangersFor 53 = .ok (.iaload, 1) := by decide +kernel
theorem dX6_strangersFor_54 : decode cX6_strangersFor 54 = .ok (.imul, 1) := by decide +kernel
theorem dX6_strangersFor_55 : decode cX6_strangersFor 55 = .ok (.if_icmp .le 6, 3) := by decide +kernel
theorem dX6_strangersFor_58 : decode cX6_strangersFor 58 = .ok (.bipush (-3), 2) := by decide +kernel
theorem dX6_strangersFor_60 : decode cX6_strangersFor 60 = .ok (.ireturn, 1) := by decide +kernel
theorem dX6_strangersFor_61 : decode cX6_strangersFor 61 = .ok (.aload_n 0, 1) := by decide +kernel
theorem dX6_strangersFor_62 : decode cX6_strangersFor 62 = .ok (.getfield 10, 3) := by decide +kernel
theorem dX6_strangersFor_65 : decode cX6_strangersFor 65 = .ok (.iload_n 2, 1) := by decide +kernel
theorem dX6_strangersFor_66 : decode cX6_strangersFor 66 = .ok (.invokevirtual 183, 3) := by decide +kernel
theorem dX6_strangersFor_69 : decode cX6_strangersFor 69 = .ok (.istore_n 3, 1) := by decide +kernel
theorem dX6_strangersFor_70 : decode cX6_strangersFor 70 = .ok (.aload_n 0, 1) := by decide +kernel
theorem dX6_strangersFor_71 : decode cX6_strangersFor 71 = .ok (.getfield 10, 3) := by decide +kernel
theorem dX6_strangersFor_74 : decode cX6_strangersFor 74 = .ok (.iload_n 3, 1) := by decide +kernel
theorem dX6_strangersFor_75 : decode cX6_strangersFor 75 = .ok (.invokevirtual 186, 3) := by decide +kernel
theorem dX6_strangersFor_78 : decode cX6_strangersFor 78 = .ok (.istore 4, 2) := by decide +kernel
theorem dX6_strangersFor_80 : decode cX6_strangersFor 80 = .ok (.iconst 1, 1) := by decide +kernel
theorem dX6_strangersFor_81 : decode cX6_strangersFor 81 = .ok (.istore 5, 2) := by decide +kernel
theorem dX6_strangersFor_83 : decode cX6_strangersFor 83 = .ok (.iload 5, 2) := by decide +kernel
theorem dX6_strangersFor_85 : decode cX6_strangersFor 85 = .ok (.aload_n 0, 1) := by decide +kernel
theorem dX6_strangersFor_86 : decode cX6_strangersFor 86 = .ok (.getfield 10, 3) := by decide +kernel
theorem dX6_strangersFor_89 : decode cX6_strangersFor 89 = .ok (.getfield 89, 3) := by decide +kernel
theorem dX6_strangersFor_92 : decode cX6_strangersFor 92 = .ok (.if_icmp .gt 77, 3) := by decide +kernel
theorem dX6_strangersFor_95 : decode cX6_strangersFor 95 = .ok (.iconst 1, 1) := by decide +kernel
theorem dX6_strangersFor_96 : decode cX6_strangersFor 96 = .ok (.istore 6, 2) := by decide +kernel
theorem dX6_strangersFor_98 : decode cX6_strangersFor 98 = .ok (.iload 6, 2) := by decide +kernel
theorem dX6_strangersFor_100 : decode cX6_strangersFor 100 = .ok (.aload_n 0, 1) := by decide +kernel
theorem dX6_strangersFor_101 : decode cX6_strangersFor 101 = .ok (.getfield 10, 3) := by decide +kernel
theorem dX6_strangersFor_104 : decode cX6_strangersFor 104 = .ok (.invokevirtual 189, 3) := by decide +kernel
theorem dX6_strangersFor_107 : decode cX6_strangersFor 107 = .ok (.if_icmp .gt 56, 3) := by decide +kernel
theorem dX6_strangersFor_110 : decode cX6_strangersFor 110 = .ok (.iload 6, 2) := by decide +kernel
theorem dX6_strangersFor_112 : decode cX6_strangersFor 112 = .ok (.invokestatic 192, 3) := by decide +kernel
theorem dX6_strangersFor_115 : decode cX6_strangersFor 115 = .ok (.iload 5, 2) := by decide +kernel
theorem dX6_strangersFor_117 : decode cX6_strangersFor 117 = .ok (.if_icmp .ne 40, 3) := by decide +kernel
theorem dX6_strangersFor_120 : decode cX6_strangersFor 120 = .ok (.iload 6, 2) := by decide +kernel
theorem dX6_strangersFor_122 : decode cX6_strangersFor 122 = .ok (.iload 4, 2) := by decide +kernel
theorem dX6_strangersFor_124 : decode cX6_strangersFor 124 = .ok (.iconst (-1), 1) := by decide +kernel
theorem dX6_strangersFor_125 : decode cX6_strangersFor 125 = .ok (.ixor, 1) := by decide +kernel
theorem dX6_strangersFor_126 : decode cX6_strangersFor 126 = .ok (.iand, 1) := by decide +kernel
theorem dX6_strangersFor_127 : decode cX6_strangersFor 127 = .ok (.ifCond .ne 30, 3) := by decide +kernel
theorem dX6_strangersFor_130 : decode cX6_strangersFor 130 = .ok (.aload_n 0, 1) := by decide +kernel
theorem dX6_strangersFor_131 : decode cX6_strangersFor 131 = .ok (.getfield 10, 3) := by decide +kernel
theorem dX6_strangersFor_134 : decode cX6_strangersFor 134 = .ok (.iload 6, 2) := by decide +kernel
theorem dX6_strangersFor_136 : decode cX6_strangersFor 136 = .ok (.invokevirtual 197, 3) := by decide +kernel
theorem dX6_strangersFor_139 : decode cX6_strangersFor 139 = .ok (.iload_n 3, 1) := by decide +kernel
theorem dX6_strangersFor_140 : decode cX6_strangersFor 140 = .ok (.if_icmp .ne 17, 3) := by decide +kernel
theorem dX6_strangersFor_143 : decode cX6_strangersFor 143 = .ok (.aload_n 0, 1) := by decide +kernel
theorem dX6_strangersFor_144 : decode cX6_strangersFor 144 = .ok (.iload 6, 2) := by decide +kernel
theorem dX6_strangersFor_146 : decode cX6_strangersFor 146 = .ok (.iload_n 1, 1) := by decide +kernel
theorem dX6_strangersFor_147 : decode cX6_strangersFor 147 = .ok (.iload_n 2, 1) := by decide +kernel
theorem dX6_strangersFor_148 : decode cX6_strangersFor 148 = .ok (.invokevirtual 200, 3) := by decide +kernel
theorem dX6_strangersFor_151 : decode cX6_strangersFor 151 = .ok (.ifCond .eq 6, 3) := by decide +kernel
theorem dX6_strangersFor_154 : decode cX6_strangersFor 154 = .ok (.iload 6, 2) := by decide +kernel
theorem dX6_strangersFor_156 : decode cX6_strangersFor 156 = .ok (.ireturn, 1) := by decide +kernel
theorem dX6_strangersFor_157 : decode cX6_strangersFor 157 = .ok (.iinc 6 1, 3) := by decide +kernel
theorem dX6_strangersFor_160 : decode cX6_strangersFor 160 = .ok (.goto (-62), 3) := by decide +kernel
theorem dX6_strangersFor_163 : decode cX6_strangersFor 163 = .ok (.iinc 5 1, 3) := by decide +kernel
theorem dX6_strangersFor_166 : decode cX6_strangersFor 166 = .ok (.goto (-83), 3) := by decide +kernel
theorem dX6_strangersFor_169 : decode cX6_strangersFor 169 = .ok (.bipush (-3), 2) := by decide +kernel
theorem dX6_strangersFor_171 : decode cX6_strangersFor 171 = .ok (.ireturn, 1) := by decide +kernel
set_option maxRecDepth 20000 in
theorem ggX6_reaches_X4_copyFrom : GoodIn wsX6_reaches wsX4_copyFrom := goodIn_r _ [8, 9, 10, 11, 12, 13, 14, 15, 16, 17, 18, 19, 20, 21, 22, 88, 89, 90, 91, 92, 93, 94, 95, 96, 97] (by decide +kernel) (by decide +kernel)
set_option maxRecDepth 20000 in
theorem gX6_reaches_X4_copyFrom : GoodIn wsX6_reaches (wsV RX6 82 RX4 yX4_copyFrom wsX4_copyFrom) := goodIn_app (goodIn_of _ (by decide +kernel)) ggX6_reaches_X4_copyFrom
set_option maxRecDepth 20000 in
theorem ggX6_reaches_X4_everyone : GoodIn wsX6_reaches wsX4_everyone := goodIn_r _ [26, 19, 88, 89, 90, 91, 92, 93, 94, 95, 96, 97] (by decide +kernel) (by decide +kernel)
set_option maxRecDepth 20000 in
theorem gX6_reaches_X4_everyone : GoodIn wsX6_reaches (wsV RX6 189 RX4 yX4_everyone wsX4_everyone) := goodIn_app (goodIn_of _ (by decide +kernel)) ggX6_reaches_X4_everyone
set_option maxRecDepth 20000 in
theorem ggX6_reaches_X4_toldBehind : GoodIn wsX6_reaches wsX4_toldBehind := goodIn_r _ [30, 21, 31, 32, 33, 7, 34, 19, 16, 9, 20, 35, 36, 37, 38, 18, 39, 40, 41, 42, 14, 15, 43, 44, 45, 46, 47, 48, 49, 50, 51, 52, 53, 54, 55, 56, 57, 58, 59, 60, 61, 62, 63, 64, 65, 66, 67, 68, 69, 70, 17, 71, 72, 73, 74, 75, 76, 77, 78, 88, 89, 90, 91, 92, 93, 94, 95, 96, 97] (by decide +kernel) (by decide +kernel)
set_option maxRecDepth 20000 in
theorem gX6_reaches_X4_toldBehind : GoodIn wsX6_reaches (wsV RX6 134 RX4 yX4_toldBehind wsX4_toldBehind) := goodIn_app (goodIn_of _ (by decide +kernel)) ggX6_reaches_X4_toldBehind
