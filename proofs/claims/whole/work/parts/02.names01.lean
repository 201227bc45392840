set_option maxRecDepth 20000 in
theorem ggX4_serve_X4_tellNext : GoodIn wsX4_serve wsX4_tellNext := goodIn_r _ [43, 44, 21, 45, 26, 27, 28, 46, 2, 47, 48, 49, 8, 50, 15, 3, 22, 23, 24, 25, 29, 30, 31, 55, 56, 57, 58, 59, 60, 61, 62, 63, 64] (by decide +kernel) (by decide +kernel)
set_option maxRecDepth 20000 in
theorem gX4_serve_X4_tellNext : GoodIn wsX4_serve (wsV RX4 81 RX4 yX4_tellNext wsX4_tellNext) := goodIn_app (goodIn_of _ (by decide +kernel)) ggX4_serve_X4_tellNext
set_option maxRecDepth 20000 in
theorem ggX4_serve_X4_drown : GoodIn wsX4_serve wsX4_drown := goodIn_r _ [54, 10, 55, 56, 57, 58, 59, 60, 61, 62, 63, 64] (by decide +kernel) (by decide +kernel)
set_option maxRecDepth 20000 in
theorem gX4_serve_X4_drown : GoodIn wsX4_serve (wsV RX4 59 RX4 yX4_drown wsX4_drown) := goodIn_app (goodIn_of _ (by decide +kernel)) ggX4_serve_X4_drown
theorem dX4_serve_0 : decode cX4_serve 0 = .ok (.iconst 0, 1) := by decide +kernel
theorem dX4_serve_1 : decode cX4_serve 1 = .ok (.istore_n 1, 1) := by decide +kernel
theorem dX4_serve_2 : decode cX4_serve 2 = .ok (.iload_n 1, 1) := by decide +kernel
theorem dX4_serve_3 : decode cX4_serve 3 = .ok (.aload_n 0, 1) := by decide +kernel
theorem dX4_serve_4 : decode cX4_serve 4 = .ok (.getfield 46, 3) := by decide +kernel
theorem dX4_serve_7 : decode cX4_serve 7 = .ok (.if_icmp .ge 38, 3) := by decide +kernel
theorem dX4_serve_10 : decode cX4_serve 10 = .ok (.aload_n 0, 1) := by decide +kernel
theorem dX4_serve_11 : decode cX4_serve 11 = .ok (.iload_n 1, 1) := by decide +kernel
theorem dX4_serve_12 : decode cX4_serve 12 = .ok (.invokevirtual 67, 3) := by decide +kernel
theorem dX4_serve_15 : decode cX4_serve 15 = .ok (.ifCond .ne 24, 3) := by decide +kernel
theorem dX4_serve_18 : decode cX4_serve 18 = .ok (.aload_n 0, 1) := by decide +kernel
theorem dX4_serve_19 : decode cX4_serve 19 = .ok (.getfield 21, 3) := by decide +kernel
theorem dX4_serve_22 : decode cX4_serve 22 = .ok (.iload_n 1, 1) := by decide +kernel
theorem dX4_serve_23 : decode cX4_serve 23 = .ok (.aload_n 0, 1) := by decide +kernel
theorem dX4_serve_24 : decode cX4_serve 24 = .ok (.getfield 21, 3) := by decide +kernel
theorem dX4_serve_27 : decode cX4_serve 27 = .ok (.iload_n 1, 1) := by decide +kernel
theorem dX4_serve_28 : decode cX4_serve 28 = .ok (.iaload, 1) := by decide +kernel
theorem dX4_serve_29 : decode cX4_serve 29 = .ok (.aload_n 0, 1) := by decide +kernel
theorem dX4_serve_30 : decode cX4_serve 30 = .ok (.iload_n 1, 1) := by decide +kernel
theorem dX4_serve_31 : decode cX4_serve 31 = .ok (.invokevirtual 71, 3) := by decide +kernel
theorem dX4_serve_34 : decode cX4_serve 34 = .ok (.iadd, 1) := by decide +kernel
theorem dX4_serve_35 : decode cX4_serve 35 = .ok (.invokestatic 75, 3) := by decide +kernel
theorem dX4_serve_38 : decode cX4_serve 38 = .ok (.iastore, 1) := by decide +kernel
theorem dX4_serve_39 : decode cX4_serve 39 = .ok (.iinc 1 1, 3) := by decide +kernel
theorem dX4_serve_42 : decode cX4_serve 42 = .ok (.goto (-40), 3) := by decide +kernel
theorem dX4_serve_45 : decode cX4_serve 45 = .ok (.iconst 0, 1) := by decide +kernel
theorem dX4_serve_46 : decode cX4_serve 46 = .ok (.istore_n 1, 1) := by decide +kernel
theorem dX4_serve_47 : decode cX4_serve 47 = .ok (.iload_n 1, 1) := by decide +kernel
theorem dX4_serve_48 : decode cX4_serve 48 = .ok (.aload_n 0, 1) := by decide +kernel
theorem dX4_serve_49 : decode cX4_serve 49 = .ok (.getfield 9, 3) := by decide +kernel
theorem dX4_serve_52 : decode cX4_serve 52 = .ok (.iconst 0, 1) := by decide +kernel
theorem dX4_serve_53 : decode cX4_serve 53 = .ok (.iaload, 1) := by decide +kernel
theorem dX4_serve_54 : decode cX4_serve 54 = .ok (.if_icmp .ge 28, 3) := by decide +kernel
theorem dX4_serve_57 : decode cX4_serve 57 = .ok (.aload_n 0, 1) := by decide +kernel
theorem dX4_serve_58 : decode cX4_serve 58 = .ok (.invokevirtual 78, 3) := by decide +kernel
theorem dX4_serve_61 : decode cX4_serve 61 = .ok (.istore_n 2, 1) := by decide +kernel
theorem dX4_serve_62 : decode cX4_serve 62 = .ok (.iload_n 2, 1) := by decide +kernel
theorem dX4_serve_63 : decode cX4_serve 63 = .ok (.bipush (-3), 2) := by decide +kernel
theorem dX4_serve_65 : decode cX4_serve 65 = .ok (.if_icmp .ne 6, 3) := by decide +kernel
theorem dX4_serve_68 : decode cX4_serve 68 = .ok (.goto 14, 3) := by decide +kernel
theorem dX4_serve_71 : decode cX4_serve 71 = .ok (.aload_n 0, 1) := by decide +kernel
theorem dX4_serve_72 : decode cX4_serve 72 = .ok (.iload_n 2, 1) := by decide +kernel
theorem dX4_serve_73 : decode cX4_serve 73 = .ok (.invokevirtual 81, 3) := by decide +kernel
theorem dX4_serve_76 : decode cX4_serve 76 = .ok (.iinc 1 1, 3) := by decide +kernel
theorem dX4_serve_79 : decode cX4_serve 79 = .ok (.goto (-32), 3) := by decide +kernel
theorem dX4_serve_82 : decode cX4_serve 82 = .ok (.iconst 0, 1) := by decide +kernel
theorem dX4_serve_83 : decode cX4_serve 83 = .ok (.istore_n 1, 1) := by decide +kernel
theorem dX4_serve_84 : decode cX4_serve 84 = .ok (.iload_n 1, 1) := by decide +kernel
theorem dX4_serve_85 : decode cX4_serve 85 = .ok (.aload_n 0, 1) := by decide +kernel
theorem dX4_serve_86 : decode cX4_serve 86 = .ok (.getfield 46, 3) := by decide +kernel
theorem dX4_serve_89 : decode cX4_serve 89 = .ok (.if_icmp .ge 30, 3) := by decide +kernel
theorem dX4_serve_92 : decode cX4_serve 92 = .ok (.aload_n 0, 1) := by decide +kernel
theorem dX4_serve_93 : decode cX4_serve 93 = .ok (.getfield 21, 3) := by decide +kernel
theorem dX4_serve_96 : decode cX4_serve 96 = .ok (.iload_n 1, 1) := by decide +kernel
theorem dX4_serve_97 : decode cX4_serve 97 = .ok (.iaload, 1) := by decide +kernel
theorem dX4_serve_98 : decode cX4_serve 98 = .ok (.aload_n 0, 1) := by decide +kernel
theorem dX4_serve_99 : decode cX4_serve 99 = .ok (.getfield 9, 3) := by decide +kernel
theorem dX4_serve_102 : decode cX4_serve 102 = .ok (.iconst 2, 1) := by decide +kernel
theorem dX4_serve_103 : decode cX4_serve 103 = .ok (.iaload, 1) := by decide +kernel
theorem dX4_serve_104 : decode cX4_serve 104 = .ok (.if_icmp .le 9, 3) := by decide +kernel
theorem dX4_serve_107 : decode cX4_serve 107 = .ok (.aload_n 0, 1) := by decide +kernel
theorem dX4_serve_108 : decode cX4_serve 108 = .ok (.iload_n 1, 1) := by decide +kernel
theorem dX4_serve_109 : decode cX4_serve 109 = .ok (.iconst 1, 1) := by decide +kernel
theorem dX4_serve_110 : decode cX4_serve 110 = .ok (.invokevirtual 59, 3) := by decide +kernel
theorem dX4_serve_113 : decode cX4_serve 113 = .ok (.iinc 1 1, 3) := by decide +kernel
theorem dX4_serve_116 : decode cX4_serve 116 = .ok (.goto (-32), 3) := by decide +kernel
theorem dX4_serve_119 : decode cX4_serve 119 = .ok (.aload_n 0, 1) := by decide +kernel
theorem dX4_serve_120 : decode cX4_serve 120 = .ok (.dup, 1) := by decide +kernel
theorem dX4_serve_121 : decode cX4_serve 121 = .ok (.getfield 49, 3) := by decide +kernel
theorem dX4_serve_124 : decode cX4_serve 124 = .ok (.iconst 1, 1) := by decide +kernel
theorem dX4_serve_125 : decode cX4_serve 125 = .ok (.iadd, 1) := by decide +kernel
theorem dX4_serve_126 : decode cX4_serve 126 = .ok (.putfield 49, 3) := by decide +kernel
theorem dX4_serve_129 : decode cX4_serve 129 = .ok (.return_, 1) := by decide +kernel
set_option maxRecDepth 20000 in
theorem ggX4_teller_X4_next : GoodIn wsX4_teller wsX4_next := goodIn_r _ [8, 9, 21, 22, 23, 24, 25, 26, 27, 28, 29, 30] (by decide +kernel) (by decide +kernel)
set_option maxRecDepth 20000 in
theorem gX4_teller_X4_next : GoodIn wsX4_teller (wsV RX4 63 RX4 yX4_next wsX4_next) := goodIn_app (goodIn_of _ (by decide +kernel)) ggX4_teller_X4_next
set_option maxRecDepth 20000 in
theorem ggX4_teller_X4_isDrowned : GoodIn wsX4_teller wsX4_isDrowned := goodIn_r _ [13, 14, 21, 22, 23, 24, 25, 26, 27, 28, 29, 30] (by decide +kernel) (by decide +kernel)
set_option maxRecDepth 20000 in
theorem gX4_teller_X4_isDrowned : GoodIn wsX4_teller (wsV RX4 67 RX4 yX4_isDrowned wsX4_isDrowned) := goodIn_app (goodIn_of _ (by decide +kernel)) ggX4_teller_X4_isDrowned
set_option maxRecDepth 20000 in
theorem ggX4_teller_X4_needs : GoodIn wsX4_teller wsX4_needs := goodIn_r _ [18, 19, 20, 3, 21, 22, 23, 24, 25, 26, 27, 28, 29, 30] (by decide +kernel) (by decide +kernel)
set_option maxRecDepth 20000 in
theorem gX4_teller_X4_needs : GoodIn wsX4_teller (wsV RX4 85 RX4 yX4_needs wsX4_needs) := goodIn_app (goodIn_of _ (by decide +kernel)) ggX4_teller_X4_needs
theorem dX4_teller_0 : decode cX4_teller 0 = .ok (.aload_n 0, 1) := by decide +kernel
theorem dX4_teller_1 : decode cX4_teller 1 = .ok (.invokevirtual 63, 3) := by decide +kernel
theorem dX4_teller_4 : decode cX4_teller 4 = .ok (.istore_n 1, 1) := by decide +kernel
theorem dX4_teller_5 : decode cX4_teller 5 = .ok (.iconst 0, 1) := by decide +kernel
theorem dX4_teller_6 : decode cX4_teller 6 = .ok (.istore_n 2, 1) := by decide +kernel
theorem dX4_teller_7 : decode cX4_teller 7 = .ok (.iload_n 2, 1) := by decide +kernel
theorem dX4_teller_8 : decode cX4_teller 8 = .ok (.aload_n 0, 1) := by decide +kernel
theorem dX4_teller_9 : decode cX4_teller 9 = .ok (.getfield 46, 3) := by decide +kernel
theorem dX4_teller_12 : decode cX4_teller 12 = .ok (.if_icmp .ge 43, 3) := by decide +kernel
theorem dX4_teller_15 : decode cX4_teller 15 = .ok (.aload_n 0, 1) := by decide +kernel
theorem dX4_teller_16 : decode cX4_teller 16 = .ok (.getfield 18, 3) := by decide +kernel
theorem dX4_teller_19 : decode cX4_teller 19 = .ok (.iload_n 2, 1) := by decide +kernel
theorem dX4_teller_20 : decode cX4_teller 20 = .ok (.iaload, 1) := by decide +kernel
theorem dX4_teller_21 : decode cX4_teller 21 = .ok (.iload_n 1, 1) := by decide +kernel
theorem dX4_teller_22 : decode cX4_teller 22 = .ok (.if_icmp .ne 27, 3) := by decide +kernel
theorem dX4_teller_25 : decode cX4_teller 25 = .ok (.aload_n 0, 1) := by decide +kernel
theorem dX4_teller_26 : decode cX4_teller 26 = .ok (.iload_n 2, 1) := by decide +kernel
theorem dX4_teller_27 : decode cX4_teller 27 = .ok (.invokevirtual 67, 3) := by decide +kernel
theorem dX4_teller_30 : decode cX4_teller 30 = .ok (.ifCond .ne 19, 3) := by decide +kernel
theorem dX4_teller_33 : decode cX4_teller 33 = .ok (.aload_n 0, 1) := by decide +kernel
theorem dX4_teller_34 : decode cX4_teller 34 = .ok (.getfield 21, 3) := by decide +kernel
theorem dX4_teller_37 : decode cX4_teller 37 = .ok (.iload_n 2, 1) := by decide +kernel
theorem dX4_teller_38 : decode cX4_teller 38 = .ok (.iaload, 1) := by decide +kernel
theorem dX4_teller_39 : decode cX4_teller 39 = .ok (.aload_n 0, 1) := by decide +kernel
theorem dX4_teller_40 : decode cX4_teller 40 = .ok (.iload_n 2, 1) := by decide +kernel
theorem dX4_teller_41 : decode cX4_teller 41 = .ok (.invokevirtual 85, 3) := by decide +kernel
theorem dX4_teller_44 : decode cX4_teller 44 = .ok (.if_icmp .lt 5, 3) := by decide +kernel
theorem dX4_teller_47 : decode cX4_teller 47 = .ok (.iload_n 2, 1) := by decide +kernel
theorem dX4_teller_48 : decode cX4_teller 48 = .ok (.ireturn, 1) := by decide +kernel
theorem dX4_teller_49 : decode cX4_teller 49 = .ok (.iinc 2 1, 3) := by decide +kernel
theorem dX4_teller_52 : decode cX4_teller 52 = .ok (.goto (-45), 3) := by decide +kernel
theorem dX4_teller_55 : decode cX4_teller 55 = .ok (.bipush (-3), 2) := by decide +kernel
theorem dX4_teller_57 : decode cX4_teller 57 = .ok (.ireturn, 1) := by decide +kernel
set_option maxRecDepth 20000 in
theorem ggX4_tellNext_X4_costs : GoodIn wsX4_tellNext wsX4_costs := goodIn_r _ [13, 14, 15, 23, 24, 25, 26, 27, 28, 29, 30, 31, 32] (by decide +kernel) (by decide +kernel)
set_option maxRecDepth 20000 in
theorem gX4_tellNext_X4_costs : GoodIn wsX4_tellNext (wsV RX4 88 RX4 yX4_costs wsX4_costs) := goodIn_app (goodIn_of _ (by decide +kernel)) ggX4_tellNext_X4_costs
set_option maxRecDepth 20000 in
theorem ggX4_tellNext_X6_held : GoodIn wsX4_tellNext wsX6_held := goodIn_r _ [18, 19, 4, 5, 6, 20, 21, 22] (by decide +kernel) (by decide +kernel)
set_option maxRecDepth 20000 in
theorem gX4_tellNext_X6_held_n75 : GoodIn wsX4_tellNext (wsX6_held) := ggX4_tellNext_X6_held
theorem dX4_tellNext_0 : decode cX4_tellNext 0 = .ok (.aload_n 0, 1) := by decide +kernel
theorem dX4_tellNext_1 : decode cX4_tellNext 1 = .ok (.iload_n 1, 1) := by decide +kernel
theorem dX4_tellNext_2 : decode cX4_tellNext 2 = .ok (.invokevirtual 88, 3) := by decide +kernel
theorem dX4_tellNext_5 : decode cX4_tellNext 5 = .ok (.istore_n 2, 1) := by decide +kernel
theorem dX4_tellNext_6 : decode cX4_tellNext 6 = .ok (.aload_n 0, 1) := by decide +kernel
theorem dX4_tellNext_7 : decode cX4_tellNext 7 = .ok (.ldc 91, 2) := by decide +kernel
theorem dX4_tellNext_9 : decode cX4_tellNext 9 = .ok (.aload_n 0, 1) := by decide +kernel
theorem dX4_tellNext_10 : decode cX4_tellNext 10 = .ok (.getfield 52, 3) := by decide +kernel
theorem dX4_tellNext_13 : decode cX4_tellNext 13 = .ok (.iconst 1, 1) := by decide +kernel
theorem dX4_tellNext_14 : decode cX4_tellNext 14 = .ok (.iadd, 1) := by decide +kernel
theorem dX4_tellNext_15 : decode cX4_tellNext 15 = .ok (.invokestatic 92, 3) := by decide +kernel
theorem dX4_tellNext_18 : decode cX4_tellNext 18 = .ok (.putfield 52, 3) := by decide +kernel
theorem dX4_tellNext_21 : decode cX4_tellNext 21 = .ok (.aload_n 0, 1) := by decide +kernel
theorem dX4_tellNext_22 : decode cX4_tellNext 22 = .ok (.getfield 24, 3) := by decide +kernel
theorem dX4_tellNext_25 : decode cX4_tellNext 25 = .ok (.iload_n 1, 1) := by decide +kernel
theorem dX4_tellNext_26 : decode cX4_tellNext 26 = .ok (.sipush 9999, 3) := by decide +kernel
theorem dX4_tellNext_29 : decode cX4_tellNext 29 = .ok (.aload_n 0, 1) := by decide +kernel
theorem dX4_tellNext_30 : decode cX4_tellNext 30 = .ok (.getfield 24, 3) := by decide +kernel
theorem dX4_tellNext_33 : decode cX4_tellNext 33 = .ok (.iload_n 1, 1) := by decide +kernel
theorem dX4_tellNext_34 : decode cX4_tellNext 34 = .ok (.iaload, 1) := by decide +kernel
theorem dX4_tellNext_35 : decode cX4_tellNext 35 = .ok (.iconst 1, 1) := by decide +kernel
theorem dX4_tellNext_36 : decode cX4_tellNext 36 = .ok (.iadd, 1) := by decide +kernel
theorem dX4_tellNext_37 : decode cX4_tellNext 37 = .ok (.invokestatic 92, 3) := by decide +kernel
theorem dX4_tellNext_40 : decode cX4_tellNext 40 = .ok (.iastore, 1) := by decide +kernel
theorem dX4_tellNext_41 : decode cX4_tellNext 41 = .ok (.aload_n 0, 1) := by decide +kernel
theorem dX4_tellNext_42 : decode cX4_tellNext 42 = .ok (.getfield 21, 3) := by decide +kernel
theorem dX4_tellNext_45 : decode cX4_tellNext 45 = .ok (.iload_n 1, 1) := by decide +kernel
theorem dX4_tellNext_46 : decode cX4_tellNext 46 = .ok (.aload_n 0, 1) := by decide +kernel
theorem dX4_tellNext_47 : decode cX4_tellNext 47 = .ok (.getfield 21, 3) := by decide +kernel
theorem dX4_tellNext_50 : decode cX4_tellNext 50 = .ok (.iload_n 1, 1) := by decide +kernel
theorem dX4_tellNext_51 : decode cX4_tellNext 51 = .ok (.iaload, 1) := by decide +kernel
theorem dX4_tellNext_52 : decode cX4_tellNext 52 = .ok (.iload_n 2, 1) := by decide +kernel
theorem dX4_tellNext_53 : decode cX4_tellNext 53 = .ok (.isub, 1) := by decide +kernel
theorem dX4_tellNext_54 : decode cX4_tellNext 54 = .ok (.invokestatic 75, 3) := by decide +kernel
theorem dX4_tellNext_57 : decode cX4_tellNext 57 = .ok (.iastore, 1) := by decide +kernel
theorem dX4_tellNext_58 : decode cX4_tellNext 58 = .ok (.return_, 1) := by decide +kernel
set_option maxRecDepth 20000 in
theorem ggX4_serveByDraws_X4_drawn : GoodIn wsX4_serveByDraws wsX4_drawn := goodIn_r _ [8, 9, 10, 65, 66, 67, 68, 69, 70, 71, 72, 73, 74] (by decide +kernel) (by decide +kernel)
set_option maxRecDepth 20000 in
theorem gX4_serveByDraws_X4_drawn : GoodIn wsX4_serveByDraws (wsV RX4 98 RX4 yX4_drawn wsX4_drawn) := goodIn_app (goodIn_of _ (by decide +kernel)) ggX4_serveByDraws_X4_drawn
set_option maxRecDepth 20000 in
theorem ggX4_serveByDraws_X4_serve : GoodIn wsX4_serveByDraws wsX4_serve := goodIn_r _ [14, 1, 15, 2, 16, 17, 18, 19, 7, 20, 21, 22, 23, 24, 25, 26, 3, 27, 28, 29, 30, 31, 32, 33, 34, 35, 36, 37, 38, 39, 40, 41, 42, 43, 44, 45, 46, 47, 48, 49, 50, 51, 52, 53, 54, 55, 56, 57, 58, 59, 60, 61, 62, 63, 64, 65, 66, 67, 68, 69, 70, 71, 72, 73, 74] (by decide +kernel) (by decide +kernel)
set_option maxRecDepth 20000 in
theorem gX4_serveByDraws_X4_serve : GoodIn wsX4_serveByDraws (wsV RX4 101 RX4 yX4_serve wsX4_serve) := goodIn_app (goodIn_of _ (by decide +kernel)) ggX4_serveByDraws_X4_serve
theorem dX4_serveByDraws_0 : decode cX4_serveByDraws 0 = .ok (.aload_n 0, 1) := by decide +kernel
theorem dX4_serveByDraws_1 : decode cX4_serveByDraws 1 = .ok (.getfield 46, 3) := by decide +kernel
theorem dX4_serveByDraws_4 : decode cX4_serveByDraws 4 = .ok (.ifCond .le 42, 3) := by decide +kernel
theorem dX4_serveByDraws_7 : decode cX4_serveByDraws 7 = .ok (.aload_n 0, 1) := by decide +kernel
theorem dX4_serveByDraws_8 : decode cX4_serveByDraws 8 = .ok (.invokevirtual 98, 3) := by decide +kernel
theorem dX4_serveByDraws_11 : decode cX4_serveByDraws 11 = .ok (.aload_n 0, 1) := by decide +kernel
theorem dX4_serveByDraws_12 : decode cX4_serveByDraws 12 = .ok (.getfield 46, 3) := by decide +kernel
theorem dX4_serveByDraws_15 : decode cX4_serveByDraws 15 = .ok (.irem, 1) := by decide +kernel
theorem dX4_serveByDraws_16 : decode cX4_serveByDraws 16 = .ok (.istore_n 1, 1) := by decide +kernel
theorem dX4_serveByDraws_17 : decode cX4_serveByDraws 17 = .ok (.aload_n 0, 1) := by decide +kernel
theorem dX4_serveByDraws_18 : decode cX4_serveByDraws 18 = .ok (.invokevirtual 98, 3) := by decide +kernel
theorem dX4_serveByDraws_21 : decode cX4_serveByDraws 21 = .ok (.bipush 100, 2) := by decide +kernel
theorem dX4_serveByDraws_23 : decode cX4_serveByDraws 23 = .ok (.irem, 1) := by decide +kernel
theorem dX4_serveByDraws_24 : decode cX4_serveByDraws 24 = .ok (.aload_n 0, 1) := by decide +kernel
theorem dX4_serveByDraws_25 : decode cX4_serveByDraws 25 = .ok (.getfield 9, 3) := by decide +kernel
theorem dX4_serveByDraws_28 : decode cX4_serveByDraws 28 = .ok (.iconst 3, 1) := by decide +kernel
theorem dX4_serveByDraws_29 : decode cX4_serveByDraws 29 = .ok (.iaload, 1) := by decide +kernel
theorem dX4_serveByDraws_30 : decode cX4_serveByDraws 30 = .ok (.if_icmp .ge 16, 3) := by decide +kernel
theorem dX4_serveByDraws_33 : decode cX4_serveByDraws 33 = .ok (.aload_n 0, 1) := by decide +kernel
theorem dX4_serveByDraws_34 : decode cX4_serveByDraws 34 = .ok (.getfield 18, 3) := by decide +kernel
theorem dX4_serveByDraws_37 : decode cX4_serveByDraws 37 = .ok (.iload_n 1, 1) := by decide +kernel
theorem dX4_serveByDraws_38 : decode cX4_serveByDraws 38 = .ok (.aload_n 0, 1) := by decide +kernel
theorem dX4_serveByDraws_39 : decode cX4_serveByDraws 39 = .ok (.invokevirtual 98, 3) := by decide +kernel
theorem dX4_serveByDraws_42 : decode cX4_serveByDraws 42 = .ok (.bipush 8, 2) := by decide +kernel
theorem dX4_serveByDraws_44 : decode cX4_serveByDraws 44 = .ok (.irem, 1) := by decide +kernel
theorem dX4_serveByDraws_45 : decode cX4_serveByDraws 45 = .ok (.iastore, 1) := by decide +kernel
theorem dX4_serveByDraws_46 : decode cX4_serveByDraws 46 = .ok (.aload_n 0, 1) := by decide +kernel
theorem dX4_serveByDraws_47 : decode cX4_serveByDraws 47 = .ok (.invokevirtual 101, 3) := by decide +kernel
theorem dX4_serveByDraws_50 : decode cX4_serveByDraws 50 = .ok (.return_, 1) := by decide +kernel
theorem dX4_drawn_0 : decode cX4_drawn 0 = .ok (.aload_n 0, 1) := by decide +kernel
theorem dX4_drawn_1 : decode cX4_drawn 1 = .ok (.aload_n 0, 1) := by decide +kernel
theorem dX4_drawn_2 : decode cX4_drawn 2 = .ok (.getfield 27, 3) := by decide +kernel
theorem dX4_drawn_5 : decode cX4_drawn 5 = .ok (.ldc 104, 2) := by decide +kernel
theorem dX4_drawn_7 : decode cX4_drawn 7 = .ok (.imul, 1) := by decide +kernel
theorem dX4_drawn_8 : decode cX4_drawn 8 = .ok (.sipush 12345, 3) := by decide +kernel
theorem dX4_drawn_11 : decode cX4_drawn 11 = .ok (.iadd, 1) := by decide +kernel
theorem dX4_drawn_12 : decode cX4_drawn 12 = .ok (.putfield 27, 3) := by decide +kernel
theorem dX4_drawn_15 : decode cX4_drawn 15 = .ok (.aload_n 0, 1) := by decide +kernel
theorem dX4_drawn_16 : decode cX4_drawn 16 = .ok (.getfield 27, 3) := by decide +kernel
theorem dX4_drawn_19 : decode cX4_drawn 19 = .ok (.bipush 16, 2) := by decide +kernel
theorem dX4_drawn_21 : decode cX4_drawn 21 = .ok (.iushr, 1) := by decide +kernel
theorem dX4_drawn_22 : decode cX4_drawn 22 = .ok (.ireturn, 1) := by decide +kernel
set_option maxRecDepth 20000 in
theorem ggX4_toldBehind_X4_serve : GoodIn wsX4_toldBehind wsX4_serve := goodIn_r _ [6, 7, 8, 9, 10, 11, 12, 13, 5, 14, 15, 16, 17, 18, 19, 20, 21, 22, 23, 24, 25, 1, 26, 27, 28, 29, 30, 31, 32, 33, 34, 35, 36, 37, 38, 39, 40, 41, 42, 43, 44, 45, 46, 47, 48, 49, 50, 51, 52, 53, 54, 55, 56, 57, 58, 59, 60, 61, 62, 63, 64, 65, 66, 67, 68] (by decide +kernel) (by decide +kernel)
set_option maxRecDepth 20000 in
theorem gX4_toldBehind_X4_serve : GoodIn wsX4_toldBehind (wsV RX4 101 RX4 yX4_serve wsX4_serve) := goodIn_app (goodIn_of _ (by decide +kernel)) ggX4_toldBehind_X4_serve
theorem dX4_toldBehind_0 : decode cX4_toldBehind 0 = .ok (.iconst 0, 1) := by decide +kernel
theorem dX4_toldBehind_1 : decode cX4_toldBehind 1 = .ok (.istore_n 2, 1) := by decide +kernel
theorem dX4_toldBehind_2 : decode cX4_toldBehind 2 = .ok (.iload_n 2, 1) := by decide +kernel
theorem dX4_toldBehind_3 : decode cX4_toldBehind 3 = .ok (.iload_n 1, 1) := by decide +kernel
theorem dX4_toldBehind_4 : decode cX4_toldBehind 4 = .ok (.if_icmp .ge 13, 3) := by decide +kernel
theorem dX4_toldBehind_7 : decode cX4_toldBehind 7 = .ok (.aload_n 0, 1) := by decide +kernel
theorem dX4_toldBehind_8 : decode cX4_toldBehind 8 = .ok (.invokevirtual 101, 3) := by decide +kernel
theorem dX4_toldBehind_11 : decode cX4_toldBehind 11 = .ok (.iinc 2 1, 3) := by decide +kernel
theorem dX4_toldBehind_14 : decode cX4_toldBehind 14 = .ok (.goto (-12), 3) := by decide +kernel
theorem dX4_toldBehind_17 : decode cX4_toldBehind 17 = .ok (.aload_n 0, 1) := by decide +kernel
theorem dX4_toldBehind_18 : decode cX4_toldBehind 18 = .ok (.getfield 52, 3) := by decide +kernel
theorem dX4_toldBehind_21 : decode cX4_toldBehind 21 = .ok (.ireturn, 1) := by decide +kernel
set_option maxRecDepth 20000 in
theorem ggX4_coursesUntilTelling_X4_isDrowned : GoodIn wsX4_coursesUntilTelling wsX4_isDrowned := goodIn_r _ [6, 7, 59, 60, 61, 62, 63, 64, 65, 66, 67, 68] (by decide +kernel) (by decide +kernel)
set_option maxRecDepth 20000 in
theorem gX4_coursesUntilTelling_X4_isDrowned : GoodIn wsX4_coursesUntilTelling (wsV RX4 67 RX4 yX4_isDrowned wsX4_isDrowned) := goodIn_app (goodIn_of _ (by decide +kernel)) ggX4_coursesUntilTelling_X4_isDrowned
set_option maxRecDepth 20000 in
theorem ggX4_coursesUntilTelling_X4_serve : GoodIn wsX4_coursesUntilTelling wsX4_serve := goodIn_r _ [11, 12, 13, 14, 15, 2, 3, 4, 5, 6, 7, 16, 17, 18, 19, 20, 21, 22, 23, 24, 25, 26, 27, 28, 29, 30, 31, 32, 33, 34, 35, 36, 37, 38, 39, 40, 41, 42, 43, 44, 45, 46, 47, 48, 49, 50, 1, 51, 52, 53, 54, 55, 56, 57, 58, 59, 60, 61, 62, 63, 64, 65, 66, 67, 68] (by decide +kernel) (by decide +kernel)
set_option maxRecDepth 20000 in
theorem gX4_coursesUntilTelling_X4_serve : GoodIn wsX4_coursesUntilTelling (wsV RX4 101 RX4 yX4_serve wsX4_serve) := goodIn_app (goodIn_of _ (by decide +kernel)) ggX4_coursesUntilTelling_X4_serve
theorem dX4_coursesUntilTelling_0 : decode cX4_coursesUntilTelling 0 = .ok (.aload_n 0, 1) := by decide +kernel
theorem dX4_coursesUntilTelling_1 : decode cX4_coursesUntilTelling 1 = .ok (.getfield 24, 3) := by decide +kernel
theorem dX4_coursesUntilTelling_4 : decode cX4_coursesUntilTelling 4 = .ok (.iload_n 1, 1) := by decide +kernel
theorem dX4_coursesUntilTelling_5 : decode cX4_coursesUntilTelling 5 = .ok (.iaload, 1) := by decide +kernel
theorem dX4_coursesUntilTelling_6 : decode cX4_coursesUntilTelling 6 = .ok (.istore_n 3, 1) := by decide +kernel
theorem dX4_coursesUntilTelling_7 : decode cX4_coursesUntilTelling 7 = .ok (.iconst 1, 1) := by decide +kernel
theorem dX4_coursesUntilTelling_8 : decode cX4_coursesUntilTelling 8 = .ok (.istore 4, 2) := by decide +kernel
theorem dX4_coursesUntilTelling_10 : decode cX4_coursesUntilTelling 10 = .ok (.iload 4, 2) := by decide +kernel
theorem dX4_coursesUntilTelling_12 : decode cX4_coursesUntilTelling 12 = .ok (.iload_n 2, 1) := by decide +kernel
theorem dX4_coursesUntilTelling_13 : decode cX4_coursesUntilTelling 13 = .ok (.if_icmp .gt 34, 3) := by decide +kernel
theorem dX4_coursesUntilTelling_16 : decode cX4_coursesUntilTelling 16 = .ok (.aload_n 0, 1) := by decide +kernel
theorem dX4_coursesUntilTelling_17 : decode cX4_coursesUntilTelling 17 = .ok (.iload_n 1, 1) := by decide +kernel
theorem dX4_coursesUntilTelling_18 : decode cX4_coursesUntilTelling 18 = .ok (.invokevirtual 67, 3) := by decide +kernel
theorem dX4_coursesUntilTelling_21 : decode cX4_coursesUntilTelling 21 = .ok (.ifCond .ne 26, 3) := by decide +kernel
theorem dX4_coursesUntilTelling_24 : decode cX4_coursesUntilTelling 24 = .ok (.aload_n 0, 1) := by decide +kernel
theorem dX4_coursesUntilTelling_25 : decode cX4_coursesUntilTelling 25 = .ok (.invokevirtual 101, 3) := by decide +kernel
theorem dX4_coursesUntilTelling_28 : decode cX4_coursesUntilTelling 28 = .ok (.aload_n 0, 1) := by decide +kernel
theorem dX4_coursesUntilTelling_29 : decode cX4_coursesUntilTelling 29 = .ok (.getfield 24, 3) := by decide +kernel
theorem dX4_coursesUntilTelling_32 : decode cX4_coursesUntilTelling 32 = .ok (.iload_n 1, 1) := by decide +kernel
theorem dX4_coursesUntilTelling_33 : decode cX4_coursesUntilTelling 33 = .ok (.iaload, 1) := by decide +kernel
theorem dX4_coursesUntilTelling_34 : decode cX4_coursesUntilTelling 34 = .ok (.iload_n 3, 1) := by decide +kernel
theorem dX4_coursesUntilTelling_35 : decode cX4_coursesUntilTelling 35 = .ok (.if_icmp .le 6, 3) := by decide +kernel
theorem dX4_coursesUntilTelling_38 : decode cX4_coursesUntilTelling 38 = .ok (.iload 4, 2) := by decide +kernel
theorem dX4_coursesUntilTelling_40 : decode cX4_coursesUntilTelling 40 = .ok (.ireturn, 1) := by decide +kernel
theorem dX4_coursesUntilTelling_41 : decode cX4_coursesUntilTelling 41 = .ok (.iinc 4 1, 3) := by decide +kernel
theorem dX4_coursesUntilTelling_44 : decode cX4_coursesUntilTelling 44 = .ok (.goto (-34), 3) := by decide +kernel
theorem dX4_coursesUntilTelling_47 : decode cX4_coursesUntilTelling 47 = .ok (.bipush (-3), 2) := by decide +kernel
theorem dX4_coursesUntilTelling_49 : decode cX4_coursesUntilTelling 49 = .ok (.ireturn, 1) := by decide +kernel
set_option maxRecDepth 20000 in
theorem ggX4_coursesUntilDrowned_X4_isDrowned : GoodIn wsX4_coursesUntilDrowned wsX4_isDrowned := goodIn_r _ [5, 6, 59, 60, 61, 62, 63, 64, 65, 66, 67, 68] (by decide +kernel) (by decide +kernel)
set_option maxRecDepth 20000 in
theorem gX4_coursesUntilDrowned_X4_isDrowned : GoodIn wsX4_coursesUntilDrowned (wsV RX4 67 RX4 yX4_isDrowned wsX4_isDrowned) := goodIn_app (goodIn_of _ (by decide +kernel)) ggX4_coursesUntilDrowned_X4_isDrowned
set_option maxRecDepth 20000 in
theorem ggX4_coursesUntilDrowned_X4_serve : GoodIn wsX4_coursesUntilDrowned wsX4_serve := goodIn_r _ [10, 11, 12, 13, 14, 1, 2, 3, 4, 5, 6, 15, 16, 17, 18, 19, 20, 21, 22, 23, 24, 25, 26, 27, 28, 29, 30, 31, 32, 33, 34, 35, 36, 37, 38, 39, 40, 41, 42, 43, 44, 45, 46, 47, 48, 49, 50, 51, 52, 53, 54, 55, 56, 57, 58, 59, 60, 61, 62, 63, 64, 65, 66, 67, 68] (by decide +kernel) (by decide +kernel)
set_option maxRecDepth 20000 in
theorem gX4_coursesUntilDrowned_X4_serve : GoodIn wsX4_coursesUntilDrowned (wsV RX4 101 RX4 yX4_serve wsX4_serve) := goodIn_app (goodIn_of _ (by decide +kernel)) ggX4_coursesUntilDrowned_X4_serve
theorem dX4_coursesUntilDrowned_0 : decode cX4_coursesUntilDrowned 0 = .ok (.iconst 0, 1) := by decide +kernel
theorem dX4_coursesUntilDrowned_1 : decode cX4_coursesUntilDrowned 1 = .ok (.istore_n 3, 1) := by decide +kernel
theorem dX4_coursesUntilDrowned_2 : decode cX4_coursesUntilDrowned 2 = .ok (.iload_n 3, 1) := by decide +kernel
theorem dX4_coursesUntilDrowned_3 : decode cX4_coursesUntilDrowned 3 = .ok (.iload_n 2, 1) := by decide +kernel
theorem dX4_coursesUntilDrowned_4 : decode cX4_coursesUntilDrowned 4 = .ok (.if_icmp .gt 23, 3) := by decide +kernel
theorem dX4_coursesUntilDrowned_7 : decode cX4_coursesUntilDrowned 7 = .ok (.aload_n 0, 1) := by decide +kernel
theorem dX4_coursesUntilDrowned_8 : decode cX4_coursesUntilDrowned 8 = .ok (.iload_n 1, 1) := by decide +kernel
theorem dX4_coursesUntilDrowned_9 : decode cX4_coursesUntilDrowned 9 = .ok (.invokevirtual 67, 3) := by decide +kernel
theorem dX4_coursesUntilDrowned_12 : decode cX4_coursesUntilDrowned 12 = .ok (.ifCond .eq 5, 3) := by decide +kernel
theorem dX4_coursesUntilDrowned_15 : decode cX4_coursesUntilDrowned 15 = .ok (.iload_n 3, 1) := by decide +kernel
theorem dX4_coursesUntilDrowned_16 : decode cX4_coursesUntilDrowned 16 = .ok (.ireturn, 1) := by decide +kernel
theorem dX4_coursesUntilDrowned_17 : decode cX4_coursesUntilDrowned 17 = .ok (.aload_n 0, 1) := by decide +kernel
theorem dX4_coursesUntilDrowned_18 : decode cX4_coursesUntilDrowned 18 = .ok (.invokevirtual 101, 3) := by decide +kernel
theorem dX4_coursesUntilDrowned_21 : decode cX4_coursesUntilDrowned 21 = .ok (.iinc 3 1, 3) := by decide +kernel
theorem dX4_coursesUntilDrowned_24 : decode cX4_coursesUntilDrowned 24 = .ok (.goto (-22), 3) := by decide +kernel
theorem dX4_coursesUntilDrowned_27 : decode cX4_coursesUntilDrowned 27 = .ok (.bipush (-3), 2) := by decide +kernel
theorem dX4_coursesUntilDrowned_29 : decode cX4_coursesUntilDrowned 29 = .ok (.ireturn, 1) := by decide +kernel
set_option maxRecDepth 20000 in
theorem ggX4_coursesUntilWhole_X4_serve : GoodIn wsX4_coursesUntilWhole wsX4_serve := goodIn_r _ [6, 7, 8, 9, 10, 11, 12, 13, 5, 14, 15, 16, 17, 18, 19, 20, 21, 22, 23, 24, 25, 1, 26, 27, 28, 29, 30, 31, 32, 33, 34, 35, 36, 37, 38, 39, 40, 41, 42, 43, 44, 45, 46, 47, 48, 49, 50, 51, 52, 53, 54, 55, 56, 57, 58, 59, 60, 61, 62, 63, 64, 65, 66, 67, 68] (by decide +kernel) (by decide +kernel)
set_option maxRecDepth 20000 in
theorem gX4_coursesUntilWhole_X4_serve : GoodIn wsX4_coursesUntilWhole (wsV RX4 101 RX4 yX4_serve wsX4_serve) := goodIn_app (goodIn_of _ (by decide +kernel)) ggX4_coursesUntilWhole_X4_serve
theorem dX4_coursesUntilWhole_0 : decode cX4_coursesUntilWhole 0 = .ok (.aload_n 0, 1) := by decide +kernel
theorem dX4_coursesUntilWhole_1 : decode cX4_coursesUntilWhole 1 = .ok (.getfield 52, 3) := by decide +kernel
theorem dX4_coursesUntilWhole_4 : decode cX4_coursesUntilWhole 4 = .ok (.bipush 8, 2) := by decide +kernel
theorem dX4_coursesUntilWhole_6 : decode cX4_coursesUntilWhole 6 = .ok (.idiv, 1) := by decide +kernel
theorem dX4_coursesUntilWhole_7 : decode cX4_coursesUntilWhole 7 = .ok (.istore_n 2, 1) := by decide +kernel
theorem dX4_coursesUntilWhole_8 : decode cX4_coursesUntilWhole 8 = .ok (.iconst 1, 1) := by decide +kernel
theorem dX4_coursesUntilWhole_9 : decode cX4_coursesUntilWhole 9 = .ok (.istore_n 3, 1) := by decide +kernel
theorem dX4_coursesUntilWhole_10 : decode cX4_coursesUntilWhole 10 = .ok (.iload_n 3, 1) := by decide +kernel
theorem dX4_coursesUntilWhole_11 : decode cX4_coursesUntilWhole 11 = .ok (.iload_n 1, 1) := by decide +kernel
theorem dX4_coursesUntilWhole_12 : decode cX4_coursesUntilWhole 12 = .ok (.if_icmp .gt 26, 3) := by decide +kernel
theorem dX4_coursesUntilWhole_15 : decode cX4_coursesUntilWhole 15 = .ok (.aload_n 0, 1) := by decide +kernel
theorem dX4_coursesUntilWhole_16 : decode cX4_coursesUntilWhole 16 = .ok (.invokevirtual 101, 3) := by decide +kernel
theorem dX4_coursesUntilWhole_19 : decode cX4_coursesUntilWhole 19 = .ok (.aload_n 0, 1) := by decide +kernel
theorem dX4_coursesUntilWhole_20 : decode cX4_coursesUntilWhole 20 = .ok (.getfield 52, 3) := by decide +kernel
theorem dX4_coursesUntilWhole_23 : decode cX4_coursesUntilWhole 23 = .ok (.bipush 8, 2) := by decide +kernel
theorem dX4_coursesUntilWhole_25 : decode cX4_coursesUntilWhole 25 = .ok (.idiv, 1) := by decide +kernel
theorem dX4_coursesUntilWhole_26 : decode cX4_coursesUntilWhole 26 = .ok (.iload_n 2, 1) := by decide +kernel
theorem dX4_coursesUntilWhole_27 : decode cX4_coursesUntilWhole 27 = .ok (.if_icmp .le 5, 3) := by decide +kernel
theorem dX4_coursesUntilWhole_30 : decode cX4_coursesUntilWhole 30 = .ok (.iload_n 3, 1) := by decide +kernel
theorem dX4_coursesUntilWhole_31 : decode cX4_coursesUntilWhole 31 = .ok (.ireturn, 1) := by decide +kernel
theorem dX4_coursesUntilWhole_32 : decode cX4_coursesUntilWhole 32 = .ok (.iinc 3 1, 3) := by decide +kernel
theorem dX4_coursesUntilWhole_35 : decode cX4_coursesUntilWhole 35 = .ok (.goto (-25), 3) := by decide +kernel
theorem dX4_coursesUntilWhole_38 : decode cX4_coursesUntilWhole 38 = .ok (.bipush (-3), 2) := by decide +kernel
theorem dX4_coursesUntilWhole_40 : decode cX4_coursesUntilWhole 40 = .ok (.ireturn, 1) := by decide +kernel
set_option maxRecDepth 20000 in
theorem ggX4_deepestAlive_X4_isDrowned : GoodIn wsX4_deepestAlive wsX4_isDrowned := goodIn_r _ [11, 12, 13, 14, 15, 16, 17, 18, 19, 20, 21, 22] (by decide +kernel) (by decide +kernel)
set_option maxRecDepth 20000 in
theorem gX4_deepestAlive_X4_isDrowned : GoodIn wsX4_deepestAlive (wsV RX4 67 RX4 yX4_isDrowned wsX4_isDrowned) := goodIn_app (goodIn_of _ (by decide +kernel)) ggX4_deepestAlive_X4_isDrowned
theorem dX4_deepestAlive_0 : decode cX4_deepestAlive 0 = .ok (.iconst 0, 1) := by decide +kernel
theorem dX4_deepestAlive_1 : decode cX4_deepestAlive 1 = .ok (.istore_n 1, 1) := by decide +kernel
theorem dX4_deepestAlive_2 : decode cX4_deepestAlive 2 = .ok (.iconst 0, 1) := by decide +kernel
theorem dX4_deepestAlive_3 : decode cX4_deepestAlive 3 = .ok (.istore_n 2, 1) := by decide +kernel
theorem dX4_deepestAlive_4 : decode cX4_deepestAlive 4 = .ok (.iload_n 2, 1) := by decide +kernel
theorem dX4_deepestAlive_5 : decode cX4_deepestAlive 5 = .ok (.aload_n 0, 1) := by decide +kernel
theorem dX4_deepestAlive_6 : decode cX4_deepestAlive 6 = .ok (.getfield 46, 3) := by decide +kernel
theorem dX4_deepestAlive_9 : decode cX4_deepestAlive 9 = .ok (.if_icmp .ge 28, 3) := by decide +kernel
theorem dX4_deepestAlive_12 : decode cX4_deepestAlive 12 = .ok (.aload_n 0, 1) := by decide +kernel
theorem dX4_deepestAlive_13 : decode cX4_deepestAlive 13 = .ok (.iload_n 2, 1) := by decide +kernel
theorem dX4_deepestAlive_14 : decode cX4_deepestAlive 14 = .ok (.invokevirtual 67, 3) := by decide +kernel
theorem dX4_deepestAlive_17 : decode cX4_deepestAlive 17 = .ok (.ifCond .ne 14, 3) := by decide +kernel
theorem dX4_deepestAlive_20 : decode cX4_deepestAlive 20 = .ok (.iload_n 1, 1) := by decide +kernel
theorem dX4_deepestAlive_21 : decode cX4_deepestAlive 21 = .ok (.aload_n 0, 1) := by decide +kernel
theorem dX4_deepestAlive_22 : decode cX4_deepestAlive 22 = .ok (.getfield 21, 3) := by decide +kernel
theorem dX4_deepestAlive_25 : decode cX4_deepestAlive 25 = .ok (.iload_n 2, 1) := by decide +kernel
theorem dX4_deepestAlive_26 : decode cX4_deepestAlive 26 = .ok (.iaload, 1) := by decide +kernel
theorem dX4_deepestAlive_27 : decode cX4_deepestAlive 27 = .ok (.invokestatic 105, 3) := by decide +kernel
theorem dX4_deepestAlive_30 : decode cX4_deepestAlive 30 = .ok (.istore_n 1, 1) := by decide +kernel
theorem dX4_deepestAlive_31 : decode cX4_deepestAlive 31 = .ok (.iinc 2 1, 3) := by decide +kernel
theorem dX4_deepestAlive_34 : decode cX4_deepestAlive 34 = .ok (.goto (-30), 3) := by decide +kernel
theorem dX4_deepestAlive_37 : decode cX4_deepestAlive 37 = .ok (.iload_n 1, 1) := by decide +kernel
theorem dX4_deepestAlive_38 : decode cX4_deepestAlive 38 = .ok (.ireturn, 1) := by decide +kernel
theorem dX4_goneTogether_0 : decode cX4_goneTogether 0 = .ok (.iconst 0, 1) := by decide +kernel
theorem dX4_goneTogether_1 : decode cX4_goneTogether 1 = .ok (.istore_n 1, 1) := by decide +kernel
theorem dX4_goneTogether_2 : decode cX4_goneTogether 2 = .ok (.iconst 0, 1) := by decide +kernel
theorem dX4_goneTogether_3 : decode cX4_goneTogether 3 = .ok (.istore_n 2, 1) := by decide +kernel
theorem dX4_goneTogether_4 : decode cX4_goneTogether 4 = .ok (.iload_n 2, 1) := by decide +kernel
theorem dX4_goneTogether_5 : decode cX4_goneTogether 5 = .ok (.aload_n 0, 1) := by decide +kernel
theorem dX4_goneTogether_6 : decode cX4_goneTogether 6 = .ok (.getfield 46, 3) := by decide +kernel
theorem dX4_goneTogether_9 : decode cX4_goneTogether 9 = .ok (.if_icmp .ge 18, 3) := by decide +kernel
theorem dX4_goneTogether_12 : decode cX4_goneTogether 12 = .ok (.iload_n 1, 1) := by decide +kernel
theorem dX4_goneTogether_13 : decode cX4_goneTogether 13 = .ok (.aload_n 0, 1) := by decide +kernel
theorem dX4_goneTogether_14 : decode cX4_goneTogether 14 = .ok (.getfield 21, 3) := by decide +kernel
theorem dX4_goneTogether_17 : decode cX4_goneTogether 17 = .ok (.iload_n 2, 1) := by decide +kernel
theorem dX4_goneTogether_18 : decode cX4_goneTogether 18 = .ok (.iaload, 1) := by decide +kernel
theorem dX4_goneTogether_19 : decode cX4_goneTogether 19 = .ok (.iadd, 1) := by decide +kernel
theorem dX4_goneTogether_20 : decode cX4_goneTogether 20 = .ok (.istore_n 1, 1) := by decide +kernel
theorem dX4_goneTogether_21 : decode cX4_goneTogether 21 = .ok (.iinc 2 1, 3) := by decide +kernel
theorem dX4_goneTogether_24 : decode cX4_goneTogether 24 = .ok (.goto (-20), 3) := by decide +kernel
theorem dX4_goneTogether_27 : decode cX4_goneTogether 27 = .ok (.iload_n 1, 1) := by decide +kernel
theorem dX4_goneTogether_28 : decode cX4_goneTogether 28 = .ok (.ireturn, 1) := by decide +kernel
theorem dX4_tellers_0 : decode cX4_tellers 0 = .ok (.iconst 0, 1) := by decide +kernel
theorem dX4_tellers_1 : decode cX4_tellers 1 = .ok (.istore_n 1, 1) := by decide +kernel
theorem dX4_tellers_2 : decode cX4_tellers 2 = .ok (.iconst 0, 1) := by decide +kernel
theorem dX4_tellers_3 : decode cX4_tellers 3 = .ok (.istore_n 2, 1) := by decide +kernel
theorem dX4_tellers_4 : decode cX4_tellers 4 = .ok (.iload_n 2, 1) := by decide +kernel
theorem dX4_tellers_5 : decode cX4_tellers 5 = .ok (.aload_n 0, 1) := by decide +kernel
theorem dX4_tellers_6 : decode cX4_tellers 6 = .ok (.getfield 46, 3) := by decide +kernel
theorem dX4_tellers_9 : decode cX4_tellers 9 = .ok (.if_icmp .ge 21, 3) := by decide +kernel
theorem dX4_tellers_12 : decode cX4_tellers 12 = .ok (.aload_n 0, 1) := by decide +kernel
theorem dX4_tellers_13 : decode cX4_tellers 13 = .ok (.getfield 24, 3) := by decide +kernel
theorem dX4_tellers_16 : decode cX4_tellers 16 = .ok (.iload_n 2, 1) := by decide +kernel
theorem dX4_tellers_17 : decode cX4_tellers 17 = .ok (.iaload, 1) := by decide +kernel
theorem dX4_tellers_18 : decode cX4_tellers 18 = .ok (.ifCond .le 6, 3) := by decide +kernel
theorem dX4_tellers_21 : decode cX4_tellers 21 = .ok (.iinc 1 1, 3) := by decide +kernel
theorem dX4_tellers_24 : decode cX4_tellers 24 = .ok (.iinc 2 1, 3) := by decide +kernel
theorem dX4_tellers_27 : decode cX4_tellers 27 = .ok (.goto (-23), 3) := by decide +kernel
theorem dX4_tellers_30 : decode cX4_tellers 30 = .ok (.iload_n 1, 1) := by decide +kernel
theorem dX4_tellers_31 : decode cX4_tellers 31 = .ok (.ireturn, 1) := by decide +kernel
theorem dX4_piecesOf_0 : decode cX4_piecesOf 0 = .ok (.iconst 0, 1) := by decide +kernel
theorem dX4_piecesOf_1 : decode cX4_piecesOf 1 = .ok (.istore_n 2, 1) := by decide +kernel
theorem dX4_piecesOf_2 : decode cX4_piecesOf 2 = .ok (.iconst 0, 1) := by decide +kernel
theorem dX4_piecesOf_3 : decode cX4_piecesOf 3 = .ok (.istore_n 3, 1) := by decide +kernel
theorem dX4_piecesOf_4 : decode cX4_piecesOf 4 = .ok (.iload_n 3, 1) := by decide +kernel
theorem dX4_piecesOf_5 : decode cX4_piecesOf 5 = .ok (.aload_n 0, 1) := by decide +kernel
theorem dX4_piecesOf_6 : decode cX4_piecesOf 6 = .ok (.getfield 46, 3) := by decide +kernel
theorem dX4_piecesOf_9 : decode cX4_piecesOf 9 = .ok (.if_icmp .ge 29, 3) := by decide +kernel
theorem dX4_piecesOf_12 : decode cX4_piecesOf 12 = .ok (.iload_n 1, 1) := by decide +kernel
theorem dX4_piecesOf_13 : decode cX4_piecesOf 13 = .ok (.iload_n 3, 1) := by decide +kernel
theorem dX4_piecesOf_14 : decode cX4_piecesOf 14 = .ok (.ishr, 1) := by decide +kernel
theorem dX4_piecesOf_15 : decode cX4_piecesOf 15 = .ok (.iconst 1, 1) := by decide +kernel
theorem dX4_piecesOf_16 : decode cX4_piecesOf 16 = .ok (.iand, 1) := by decide +kernel
theorem dX4_piecesOf_17 : decode cX4_piecesOf 17 = .ok (.iconst 1, 1) := by decide +kernel
theorem dX4_piecesOf_18 : decode cX4_piecesOf 18 = .ok (.if_icmp .ne 14, 3) := by decide +kernel
theorem dX4_piecesOf_21 : decode cX4_piecesOf 21 = .ok (.iload_n 2, 1) := by decide +kernel
theorem dX4_piecesOf_22 : decode cX4_piecesOf 22 = .ok (.iconst 1, 1) := by decide +kernel
theorem dX4_piecesOf_23 : decode cX4_piecesOf 23 = .ok (.aload_n 0, 1) := by decide +kernel
theorem dX4_piecesOf_24 : decode cX4_piecesOf 24 = .ok (.getfield 18, 3) := by decide +kernel
theorem dX4_piecesOf_27 : decode cX4_piecesOf 27 = .ok (.iload_n 3, 1) := by decide +kernel
theorem dX4_piecesOf_28 : decode cX4_piecesOf 28 = .ok (.iaload, 1) := by decide +kernel
theorem dX4_piecesOf_29 : decode cX4_piecesOf 29 = .ok (.ishl, 1) := by decide +kernel
theorem dX4_piecesOf_30 : decode cX4_piecesOf 30 = .ok (.ior, 1) := by decide +kernel
theorem dX4_piecesOf_31 : decode cX4_piecesOf 31 = .ok (.istore_n 2, 1) := by decide +kernel
theorem dX4_piecesOf_32 : decode cX4_piecesOf 32 = .ok (.iinc 3 1, 3) := by decide +kernel
theorem dX4_piecesOf_35 : decode cX4_piecesOf 35 = .ok (.goto (-31), 3) := by decide +kernel
theorem dX4_piecesOf_38 : decode cX4_piecesOf 38 = .ok (.iload_n 2, 1) := by decide +kernel
theorem dX4_piecesOf_39 : decode cX4_piecesOf 39 = .ok (.ireturn, 1) := by decide +kernel
theorem dX4_piecesUntil_0 : decode cX4_piecesUntil 0 = .ok (.iconst 0, 1) := by decide +kernel
theorem dX4_piecesUntil_1 : decode cX4_piecesUntil 1 = .ok (.istore_n 2, 1) := by decide +kernel
theorem dX4_piecesUntil_2 : decode cX4_piecesUntil 2 = .ok (.iconst 0, 1) := by decide +kernel
theorem dX4_piecesUntil_3 : decode cX4_piecesUntil 3 = .ok (.istore_n 3, 1) := by decide +kernel
theorem dX4_piecesUntil_4 : decode cX4_piecesUntil 4 = .ok (.iload_n 3, 1) := by decide +kernel
theorem dX4_piecesUntil_5 : decode cX4_piecesUntil 5 = .ok (.bipush 8, 2) := by decide +kernel
theorem dX4_piecesUntil_7 : decode cX4_piecesUntil 7 = .ok (.if_icmp .ge 33, 3) := by decide +kernel
theorem dX4_piecesUntil_10 : decode cX4_piecesUntil 10 = .ok (.aload_n 0, 1) := by decide +kernel
theorem dX4_piecesUntil_11 : decode cX4_piecesUntil 11 = .ok (.getfield 52, 3) := by decide +kernel
theorem dX4_piecesUntil_14 : decode cX4_piecesUntil 14 = .ok (.iload_n 3, 1) := by decide +kernel
theorem dX4_piecesUntil_15 : decode cX4_piecesUntil 15 = .ok (.iadd, 1) := by decide +kernel
theorem dX4_piecesUntil_16 : decode cX4_piecesUntil 16 = .ok (.iload_n 1, 1) := by decide +kernel
theorem dX4_piecesUntil_17 : decode cX4_piecesUntil 17 = .ok (.if_icmp .ge 23, 3) := by decide +kernel
theorem dX4_piecesUntil_20 : decode cX4_piecesUntil 20 = .ok (.iload_n 2, 1) := by decide +kernel
theorem dX4_piecesUntil_21 : decode cX4_piecesUntil 21 = .ok (.iconst 1, 1) := by decide +kernel
theorem dX4_piecesUntil_22 : decode cX4_piecesUntil 22 = .ok (.aload_n 0, 1) := by decide +kernel
theorem dX4_piecesUntil_23 : decode cX4_piecesUntil 23 = .ok (.getfield 52, 3) := by decide +kernel
theorem dX4_piecesUntil_26 : decode cX4_piecesUntil 26 = .ok (.iload_n 3, 1) := by decide +kernel
theorem dX4_piecesUntil_27 : decode cX4_piecesUntil 27 = .ok (.iadd, 1) := by decide +kernel
theorem dX4_piecesUntil_28 : decode cX4_piecesUntil 28 = .ok (.bipush 8, 2) := by decide +kernel
theorem dX4_piecesUntil_30 : decode cX4_piecesUntil 30 = .ok (.irem, 1) := by decide +kernel
theorem dX4_piecesUntil_31 : decode cX4_piecesUntil 31 = .ok (.ishl, 1) := by decide +kernel
theorem dX4_piecesUntil_32 : decode cX4_piecesUntil 32 = .ok (.ior, 1) := by decide +kernel
theorem dX4_piecesUntil_33 : decode cX4_piecesUntil 33 = .ok (.istore_n 2, 1) := by decide +kernel
theorem dX4_piecesUntil_34 : decode cX4_piecesUntil 34 = .ok (.iinc 3 1, 3) := by decide +kernel
theorem dX4_piecesUntil_37 : decode cX4_piecesUntil 37 = .ok (.goto (-33), 3) := by decide +kernel
theorem dX4_piecesUntil_40 : decode cX4_piecesUntil 40 = .ok (.iload_n 2, 1) := by decide +kernel
theorem dX4_piecesUntil_41 : decode cX4_piecesUntil 41 = .ok (.ireturn, 1) := by decide +kernel
set_option maxRecDepth 20000 in
theorem ggX4_holdersOf_X4_isDrowned : GoodIn wsX4_holdersOf wsX4_isDrowned := goodIn_r _ [7, 8, 9, 10, 11, 12, 13, 14, 15, 16, 17, 18] (by decide +kernel) (by decide +kernel)
set_option maxRecDepth 20000 in
theorem gX4_holdersOf_X4_isDrowned : GoodIn wsX4_holdersOf (wsV RX4 67 RX4 yX4_isDrowned wsX4_isDrowned) := goodIn_app (goodIn_of _ (by decide +kernel)) ggX4_holdersOf_X4_isDrowned
theorem dX4_holdersOf_0 : decode cX4_holdersOf 0 = .ok (.iconst 0, 1) := by decide +kernel
theorem dX4_holdersOf_1 : decode cX4_holdersOf 1 = .ok (.istore_n 2, 1) := by decide +kernel
theorem dX4_holdersOf_2 : decode cX4_holdersOf 2 = .ok (.iconst 0, 1) := by decide +kernel
theorem dX4_holdersOf_3 : decode cX4_holdersOf 3 = .ok (.istore_n 3, 1) := by decide +kernel
theorem dX4_holdersOf_4 : decode cX4_holdersOf 4 = .ok (.iload_n 3, 1) := by decide +kernel
theorem dX4_holdersOf_5 : decode cX4_holdersOf 5 = .ok (.aload_n 0, 1) := by decide +kernel
theorem dX4_holdersOf_6 : decode cX4_holdersOf 6 = .ok (.getfield 46, 3) := by decide +kernel
theorem dX4_holdersOf_9 : decode cX4_holdersOf 9 = .ok (.if_icmp .ge 37, 3) := by decide +kernel
theorem dX4_holdersOf_12 : decode cX4_holdersOf 12 = .ok (.aload_n 0, 1) := by decide +kernel
theorem dX4_holdersOf_13 : decode cX4_holdersOf 13 = .ok (.iload_n 3, 1) := by decide +kernel
theorem dX4_holdersOf_14 : decode cX4_holdersOf 14 = .ok (.invokevirtual 67, 3) := by decide +kernel
theorem dX4_holdersOf_17 : decode cX4_holdersOf 17 = .ok (.ifCond .ne 23, 3) := by decide +kernel
theorem dX4_holdersOf_20 : decode cX4_holdersOf 20 = .ok (.iload_n 1, 1) := by decide +kernel
theorem dX4_holdersOf_21 : decode cX4_holdersOf 21 = .ok (.aload_n 0, 1) := by decide +kernel
theorem dX4_holdersOf_22 : decode cX4_holdersOf 22 = .ok (.getfield 18, 3) := by decide +kernel
theorem dX4_holdersOf_25 : decode cX4_holdersOf 25 = .ok (.iload_n 3, 1) := by decide +kernel
theorem dX4_holdersOf_26 : decode cX4_holdersOf 26 = .ok (.iaload, 1) := by decide +kernel
theorem dX4_holdersOf_27 : decode cX4_holdersOf 27 = .ok (.ishr, 1) := by decide +kernel
theorem dX4_holdersOf_28 : decode cX4_holdersOf 28 = .ok (.iconst 1, 1) := by decide +kernel
theorem dX4_holdersOf_29 : decode cX4_holdersOf 29 = .ok (.iand, 1) := by decide +kernel
theorem dX4_holdersOf_30 : decode cX4_holdersOf 30 = .ok (.iconst 1, 1) := by decide +kernel
theorem dX4_holdersOf_31 : decode cX4_holdersOf 31 = .ok (.if_icmp .ne 9, 3) := by decide +kernel
theorem dX4_holdersOf_34 : decode cX4_holdersOf 34 = .ok (.iload_n 2, 1) := by decide +kernel
theorem dX4_holdersOf_35 : decode cX4_holdersOf 35 = .ok (.iconst 1, 1) := by decide +kernel
theorem dX4_holdersOf_36 : decode cX4_holdersOf 36 = .ok (.iload_n 3, 1) := by decide +kernel
theorem dX4_holdersOf_37 : decode cX4_holdersOf 37 = .ok (.ishl, 1) := by decide +kernel
theorem dX4_holdersOf_38 : decode cX4_holdersOf 38 = .ok (.ior, 1) := by decide +kernel
theorem dX4_holdersOf_39 : decode cX4_holdersOf 39 = .ok (.istore_n 2, 1) := by decide +kernel
theorem dX4_holdersOf_40 : decode cX4_holdersOf 40 = .ok (.iinc 3 1, 3) := by decide +kernel
theorem dX4_holdersOf_43 : decode cX4_holdersOf 43 = .ok (.goto (-39), 3) := by decide +kernel
theorem dX4_holdersOf_46 : decode cX4_holdersOf 46 = .ok (.iload_n 2, 1) := by decide +kernel
theorem dX4_holdersOf_47 : decode cX4_holdersOf 47 = .ok (.ireturn, 1) := by decide +kernel
set_option maxRecDepth 20000 in
theorem ggX4_gap_X4_piecesOf : GoodIn wsX4_gap wsX4_piecesOf := goodIn_r _ [7, 8, 9, 10, 11, 12, 13, 14, 15, 16, 17, 18, 19] (by decide +kernel) (by decide +kernel)
set_option maxRecDepth 20000 in
theorem gX4_gap_X4_piecesOf : GoodIn wsX4_gap (wsV RX4 108 RX4 yX4_piecesOf wsX4_piecesOf) := goodIn_app (goodIn_of _ (by decide +kernel)) ggX4_gap_X4_piecesOf
theorem dX4_gap_0 : decode cX4_gap 0 = .ok (.aload_n 0, 1) := by decide +kernel
theorem dX4_gap_1 : decode cX4_gap 1 = .ok (.aload_n 0, 1) := by decide +kernel
theorem dX4_gap_2 : decode cX4_gap 2 = .ok (.getfield 43, 3) := by decide +kernel
theorem dX4_gap_5 : decode cX4_gap 5 = .ok (.iconst (-1), 1) := by decide +kernel
theorem dX4_gap_6 : decode cX4_gap 6 = .ok (.ixor, 1) := by decide +kernel
theorem dX4_gap_7 : decode cX4_gap 7 = .ok (.invokevirtual 108, 3) := by decide +kernel
theorem dX4_gap_10 : decode cX4_gap 10 = .ok (.istore_n 1, 1) := by decide +kernel
theorem dX4_gap_11 : decode cX4_gap 11 = .ok (.iconst 0, 1) := by decide +kernel
theorem dX4_gap_12 : decode cX4_gap 12 = .ok (.istore_n 2, 1) := by decide +kernel
theorem dX4_gap_13 : decode cX4_gap 13 = .ok (.iload_n 2, 1) := by decide +kernel
theorem dX4_gap_14 : decode cX4_gap 14 = .ok (.bipush 8, 2) := by decide +kernel
theorem dX4_gap_16 : decode cX4_gap 16 = .ok (.if_icmp .ge 29, 3) := by decide +kernel
theorem dX4_gap_19 : decode cX4_gap 19 = .ok (.aload_n 0, 1) := by decide +kernel
theorem dX4_gap_20 : decode cX4_gap 20 = .ok (.getfield 52, 3) := by decide +kernel
theorem dX4_gap_23 : decode cX4_gap 23 = .ok (.iload_n 2, 1) := by decide +kernel
theorem dX4_gap_24 : decode cX4_gap 24 = .ok (.iadd, 1) := by decide +kernel
theorem dX4_gap_25 : decode cX4_gap 25 = .ok (.bipush 8, 2) := by decide +kernel
theorem dX4_gap_27 : decode cX4_gap 27 = .ok (.irem, 1) := by decide +kernel
theorem dX4_gap_28 : decode cX4_gap 28 = .ok (.istore_n 3, 1) := by decide +kernel
theorem dX4_gap_29 : decode cX4_gap 29 = .ok (.iload_n 1, 1) := by decide +kernel
theorem dX4_gap_30 : decode cX4_gap 30 = .ok (.iload_n 3, 1) := by decide +kernel
theorem dX4_gap_31 : decode cX4_gap 31 = .ok (.ishr, 1) := by decide +kernel
theorem dX4_gap_32 : decode cX4_gap 32 = .ok (.iconst 1, 1) := by decide +kernel
theorem dX4_gap_33 : decode cX4_gap 33 = .ok (.iand, 1) := by decide +kernel
theorem dX4_gap_34 : decode cX4_gap 34 = .ok (.ifCond .ne 5, 3) := by decide +kernel
theorem dX4_gap_37 : decode cX4_gap 37 = .ok (.iload_n 3, 1) := by decide +kernel
theorem dX4_gap_38 : decode cX4_gap 38 = .ok (.ireturn, 1) := by decide +kernel
theorem dX4_gap_39 : decode cX4_gap 39 = .ok (.iinc 2 1, 3) := by decide +kernel
theorem dX4_gap_42 : decode cX4_gap 42 = .ok (.goto (-29), 3) := by decide +kernel
theorem dX4_gap_45 : decode cX4_gap 45 = .ok (.bipush 8, 2) := by decide +kernel
theorem dX4_gap_47 : decode cX4_gap 47 = .ok (.ireturn, 1) := by decide +kernel
theorem dX5_init_0 : decode cX5_init 0 = .ok (.aload_n 0, 1) := by decide +kernel
theorem dX5_init_1 : decode cX5_init 1 = .ok (.invokespecial 3, 3) := by decide +kernel
theorem dX5_init_4 : decode cX5_init 4 = .ok (.aload_n 0, 1) := by decide +kernel
theorem dX5_init_5 : decode cX5_init 5 = .ok (.sipush 200, 3) := by decide +kernel
theorem dX5_init_8 : decode cX5_init 8 = .ok (.newarray .byte, 2) := by decide +kernel
theorem dX5_init_10 : decode cX5_init 10 = .ok (.putfield 9, 3) := by decide +kernel
theorem dX5_init_13 : decode cX5_init 13 = .ok (.return_, 1) := by decide +kernel
set_option maxRecDepth 20000 in
theorem ggX5_readInto_X5_step : GoodIn wsX5_readInto wsX5_step := goodIn_r _ [7, 1, 8, 9, 10, 2, 11, 12, 13, 6, 14, 117, 118, 119, 120, 121, 122] (by decide +kernel) (by decide +kernel)
set_option maxRecDepth 20000 in
theorem gX5_readInto_X5_step : GoodIn wsX5_readInto (wsV RX5 19 RX5 yX5_step wsX5_step) := goodIn_app (goodIn_of _ (by decide +kernel)) ggX5_readInto_X5_step
set_option maxRecDepth 20000 in
theorem ggX5_readInto_X5_readSentence : GoodIn wsX5_readInto wsX5_readSentence := goodIn_r _ [18, 19, 20, 21, 22, 23, 24, 25, 6, 26, 27, 28, 29, 30, 2, 1, 8, 10, 31, 32, 33, 34, 35, 36, 37, 38, 39, 40, 41, 42, 43, 44, 45, 46, 47, 48, 49, 50, 51, 52, 53, 54, 55, 56, 57, 58, 59, 60, 61, 62, 63, 64, 65, 66, 67, 68, 69, 70, 71, 72, 73, 74, 75, 76, 77, 78, 79, 80, 81, 82, 83, 84, 3, 4, 5, 7, 9, 11, 12, 13, 14, 85, 86, 87, 88, 89, 90, 91, 92, 93, 94, 95, 96, 97, 98, 99, 100, 101, 102, 103, 104, 105, 106, 107, 108, 109, 110, 111, 112, 113, 114, 115, 116, 123, 124, 125, 126, 127, 128, 129, 130, 131, 132, 117, 118, 119, 120, 121, 122] (by decide +kernel) (by decide +kernel)
set_option maxRecDepth 20000 in
theorem gX5_readInto_X5_readSentence : GoodIn wsX5_readInto (wsV RX5 25 RX5 yX5_readSentence wsX5_readSentence) := goodIn_app (goodIn_of _ (by decide +kernel)) ggX5_readInto_X5_readSentence
theorem dX5_readInto_0 : decode cX5_readInto 0 = .ok (.aload_n 0, 1) := by decide +kernel
theorem dX5_readInto_1 : decode cX5_readInto 1 = .ok (.iconst 0, 1) := by decide +kernel
theorem dX5_readInto_2 : decode cX5_readInto 2 = .ok (.putfield 15, 3) := by decide +kernel
theorem dX5_readInto_5 : decode cX5_readInto 5 = .ok (.iconst 0, 1) := by decide +kernel
theorem dX5_readInto_6 : decode cX5_readInto 6 = .ok (.istore_n 2, 1) := by decide +kernel
theorem dX5_readInto_7 : decode cX5_readInto 7 = .ok (.iload_n 2, 1) := by decide +kernel
theorem dX5_readInto_8 : decode cX5_readInto 8 = .ok (.sipush 200, 3) := by decide +kernel
theorem dX5_readInto_11 : decode cX5_readInto 11 = .ok (.if_icmp .gt 32, 3) := by decide +kernel
theorem dX5_readInto_14 : decode cX5_readInto 14 = .ok (.aload_n 0, 1) := by decide +kernel
theorem dX5_readInto_15 : decode cX5_readInto 15 = .ok (.invokevirtual 19, 3) := by decide +kernel
theorem dX5_readInto_18 : decode cX5_readInto 18 = .ok (.aload_n 0, 1) := by decide +kernel
theorem dX5_readInto_19 : decode cX5_readInto 19 = .ok (.getfield 22, 3) := by decide +kernel
theorem dX5_readInto_22 : decode cX5_readInto 22 = .ok (.ifCond .ne 5, 3) := by decide +kernel
theorem dX5_readInto_25 : decode cX5_readInto 25 = .ok (.iconst 1, 1) := by decide +kernel
theorem dX5_readInto_26 : decode cX5_readInto 26 = .ok (.ireturn, 1) := by decide +kernel
theorem dX5_readInto_27 : decode cX5_readInto 27 = .ok (.aload_n 0, 1) := by decide +kernel
theorem dX5_readInto_28 : decode cX5_readInto 28 = .ok (.aload_n 1, 1) := by decide +kernel
theorem dX5_readInto_29 : decode cX5_readInto 29 = .ok (.invokevirtual 25, 3) := by decide +kernel
theorem dX5_readInto_32 : decode cX5_readInto 32 = .ok (.ifCond .ne 5, 3) := by decide +kernel
theorem dX5_readInto_35 : decode cX5_readInto 35 = .ok (.iconst 0, 1) := by decide +kernel
theorem dX5_readInto_36 : decode cX5_readInto 36 = .ok (.ireturn, 1) := by decide +kernel
theorem dX5_readInto_37 : decode cX5_readInto 37 = .ok (.iinc 2 1, 3) := by decide +kernel
theorem dX5_readInto_40 : decode cX5_readInto 40 = .ok (.goto (-33), 3) := by decide +kernel
theorem dX5_readInto_43 : decode cX5_readInto 43 = .ok (.iconst 0, 1) := by decide +kernel
theorem dX5_readInto_44 : decode cX5_readInto 44 = .ok (.ireturn, 1) := by decide +kernel
set_option maxRecDepth 20000 in
theorem ggX5_readSentence_X5_kindNamed : GoodIn wsX5_readSentence wsX5_kindNamed := goodIn_r _ [9, 10, 11, 12, 8, 13, 14, 15, 16, 17, 18, 19, 20, 21, 22, 23, 24, 25, 26, 27, 28, 29, 30, 31, 32, 33, 34, 35, 36, 37, 38, 39, 40, 41, 42, 43, 44, 45, 46, 47, 48, 49, 50, 51, 52, 53, 54, 55, 56, 57, 58, 59, 60, 61, 62, 63, 64, 65, 66, 123, 124, 125, 126, 127, 128] (by decide +kernel) (by decide +kernel)
set_option maxRecDepth 20000 in
theorem gX5_readSentence_X5_kindNamed : GoodIn wsX5_readSentence (wsV RX5 29 RX5 yX5_kindNamed wsX5_kindNamed) := goodIn_app (goodIn_of _ (by decide +kernel)) ggX5_readSentence_X5_kindNamed
set_option maxRecDepth 20000 in
theorem ggX5_readSentence_X5_readGuest : GoodIn wsX5_readSentence wsX5_readGuest := goodIn_r _ [70, 2, 71, 72, 73, 74, 8, 75, 15, 16, 76, 17, 14, 77, 78, 79, 80, 10, 11, 12, 13, 18, 19, 20, 21, 22, 23, 24, 25, 26, 27, 28, 29, 30, 31, 32, 33, 34, 35, 36, 37, 38, 39, 40, 41, 42, 43, 44, 45, 46, 47, 48, 49, 50, 51, 52, 53, 54, 55, 56, 57, 58, 59, 60, 61, 62, 63, 64, 65, 66, 81, 82, 83, 84, 85, 86, 87, 88, 89, 90, 91, 92, 93, 94, 95, 96, 97, 98, 99, 100, 101, 102, 103, 104, 123, 124, 125, 126, 127, 128, 113, 114, 115, 116, 117, 118, 119, 120, 121, 122] (by decide +kernel) (by decide +kernel)
set_option maxRecDepth 20000 in
theorem gX5_readSentence_X5_readGuest : GoodIn wsX5_readSentence (wsV RX5 38 RX5 yX5_readGuest wsX5_readGuest) := goodIn_app (goodIn_of _ (by decide +kernel)) ggX5_readSentence_X5_readGuest
set_option maxRecDepth 20000 in
theorem ggX5_readSentence_X5_isName : GoodIn wsX5_readSentence wsX5_isName := goodIn_r _ [13, 14, 15, 16, 17, 18, 19, 20, 21, 22, 23, 24, 25, 26, 27, 28, 29, 30, 31, 32, 33, 34, 35, 36, 37, 38, 39, 40, 41, 42, 43, 44, 45, 46, 47, 48, 49, 50, 51, 52, 53, 54, 55, 56, 57, 58, 59, 60, 61, 62, 63, 64, 65, 66, 123, 124, 125, 126, 127, 128] (by decide +kernel) (by decide +kernel)
set_option maxRecDepth 20000 in
theorem gX5_readSentence_X5_isName : GoodIn wsX5_readSentence (wsV RX5 44 RX5 yX5_isName wsX5_isName) := goodIn_app (goodIn_of _ (by decide +kernel)) ggX5_readSentence_X5_isName
set_option maxRecDepth 20000 in
theorem ggX5_readSentence_X5_readNumber : GoodIn wsX5_readSentence wsX5_readNumber := goodIn_r _ [84, 14, 15, 16, 2, 17, 72, 73, 74, 8, 75, 76, 77, 78, 79, 80, 123, 124, 125, 126, 127, 128] (by decide +kernel) (by decide +kernel)
set_option maxRecDepth 20000 in
theorem gX5_readSentence_X5_readNumber : GoodIn wsX5_readSentence (wsV RX5 48 RX5 yX5_readNumber wsX5_readNumber) := goodIn_app (goodIn_of _ (by decide +kernel)) ggX5_readSentence_X5_readNumber
set_option maxRecDepth 20000 in
theorem ggX5_readSentence_X5_readStop : GoodIn wsX5_readSentence wsX5_readStop := goodIn_r _ [108, 72, 73, 74, 8, 75, 15, 16, 76, 17, 14, 77, 78, 79, 80, 101, 102, 103, 104, 123, 124, 125, 126, 127, 128] (by decide +kernel) (by decide +kernel)
set_option maxRecDepth 20000 in
theorem gX5_readSentence_X5_readStop : GoodIn wsX5_readSentence (wsV RX5 57 RX5 yX5_readStop wsX5_readStop) := goodIn_app (goodIn_of _ (by decide +kernel)) ggX5_readSentence_X5_readStop
set_option maxRecDepth 20000 in
theorem ggX5_readSentence_X5_lawNamed : GoodIn wsX5_readSentence wsX5_lawNamed := goodIn_r _ [112, 10, 11, 12, 8, 13, 14, 15, 16, 17, 18, 19, 20, 21, 22, 23, 24, 25, 26, 27, 28, 29, 30, 31, 32, 33, 34, 35, 36, 37, 38, 39, 40, 41, 42, 43, 44, 45, 46, 47, 48, 49, 50, 51, 52, 53, 54, 55, 56, 57, 58, 59, 60, 61, 62, 63, 64, 65, 66, 123, 124, 125, 126, 127, 128] (by decide +kernel) (by decide +kernel)
set_option maxRecDepth 20000 in
theorem gX5_readSentence_X5_lawNamed : GoodIn wsX5_readSentence (wsV RX5 61 RX5 yX5_lawNamed wsX5_lawNamed) := goodIn_app (goodIn_of _ (by decide +kernel)) ggX5_readSentence_X5_lawNamed
theorem dX5_readSentence_0 : decode cX5_readSentence 0 = .ok (.aload_n 0, 1) := by decide +kernel
theorem dX5_readSentence_1 : decode cX5_readSentence 1 = .ok (.invokevirtual 29, 3) := by decide +kernel
theorem dX5_readSentence_4 : decode cX5_readSentence 4 = .ok (.istore_n 2, 1) := by decide +kernel
theorem dX5_readSentence_5 : decode cX5_readSentence 5 = .ok (.iload_n 2, 1) := by decide +kernel
theorem dX5_readSentence_6 : decode cX5_readSentence 6 = .ok (.bipush (-3), 2) := by decide +kernel
theorem dX5_readSentence_8 : decode cX5_readSentence 8 = .ok (.if_icmp .eq 27, 3) := by decide +kernel
theorem dX5_readSentence_11 : decode cX5_readSentence 11 = .ok (.aload_n 1, 1) := by decide +kernel
theorem dX5_readSentence_12 : decode cX5_readSentence 12 = .ok (.getfield 33, 3) := by decide +kernel
theorem dX5_readSentence_15 : decode cX5_readSentence 15 = .ok (.bipush 8, 2) := by decide +kernel
theorem dX5_readSentence_17 : decode cX5_readSentence 17 = .ok (.if_icmp .ge 16, 3) := by decide +kernel
theorem dX5_readSentence_20 : decode cX5_readSentence 20 = .ok (.aload_n 0, 1) := by decide +kernel
theorem dX5_readSentence_21 : decode cX5_readSentence 21 = .ok (.aload_n 1, 1) := by decide +kernel
theorem dX5_readSentence_22 : decode cX5_readSentence 22 = .ok (.iload_n 2, 1) := by decide +kernel
theorem dX5_readSentence_23 : decode cX5_readSentence 23 = .ok (.invokevirtual 38, 3) := by decide +kernel
theorem dX5_readSentence_26 : decode cX5_readSentence 26 = .ok (.ifCond .eq 7, 3) := by decide +kernel
theorem dX5_readSentence_29 : decode cX5_readSentence 29 = .ok (.iconst 1, 1) := by decide +kernel
theorem dX5_readSentence_30 : decode cX5_readSentence 30 = .ok (.goto 4, 3) := by decide +kernel
theorem dX5_readSentence_33 : decode cX5_readSentence 33 = .ok (.iconst 0, 1) := by decide +kernel
theorem dX5_readSentence_34 : decode cX5_readSentence 34 = .ok (.ireturn, 1) := by decide +kernel
theorem dX5_readSentence_35 : decode cX5_readSentence 35 = .ok (.aload_n 0, 1) := by decide +kernel
theorem dX5_readSentence_36 : decode cX5_readSentence 36 = .ok (.ldc 42, 2) := by decide +kernel
theorem dX5_readSentence_38 : decode cX5_readSentence 38 = .ok (.invokevirtual 44, 3) := by decide +kernel
theorem dX5_readSentence_41 : decode cX5_readSentence 41 = .ok (.ifCond .eq 28, 3) := by decide +kernel
theorem dX5_readSentence_44 : decode cX5_readSentence 44 = .ok (.aload_n 0, 1) := by decide +kernel
theorem dX5_readSentence_45 : decode cX5_readSentence 45 = .ok (.sipush 999, 3) := by decide +kernel
theorem dX5_readSentence_48 : decode cX5_readSentence 48 = .ok (.invokevirtual 48, 3) := by decide +kernel
theorem dX5_readSentence_51 : decode cX5_readSentence 51 = .ok (.ifCond .ne 5, 3) := by decide +kernel
theorem dX5_readSentence_54 : decode cX5_readSentence 54 = .ok (.iconst 0, 1) := by decide +kernel
theorem dX5_readSentence_55 : decode cX5_readSentence 55 = .ok (.ireturn, 1) := by decide +kernel
theorem dX5_readSentence_56 : decode cX5_readSentence 56 = .ok (.aload_n 1, 1) := by decide +kernel
theorem dX5_readSentence_57 : decode cX5_readSentence 57 = .ok (.aload_n 0, 1) := by decide +kernel
theorem dX5_readSentence_58 : decode cX5_readSentence 58 = .ok (.getfield 52, 3) := by decide +kernel
theorem dX5_readSentence_61 : decode cX5_readSentence 61 = .ok (.putfield 55, 3) := by decide +kernel
theorem dX5_readSentence_64 : decode cX5_readSentence 64 = .ok (.aload_n 0, 1) := by decide +kernel
theorem dX5_readSentence_65 : decode cX5_readSentence 65 = .ok (.invokevirtual 57, 3) := by decide +kernel
theorem dX5_readSentence_68 : decode cX5_readSentence 68 = .ok (.ireturn, 1) := by decide +kernel
theorem dX5_readSentence_69 : decode cX5_readSentence 69 = .ok (.aload_n 0, 1) := by decide +kernel
theorem dX5_readSentence_70 : decode cX5_readSentence 70 = .ok (.invokevirtual 61, 3) := by decide +kernel
theorem dX5_readSentence_73 : decode cX5_readSentence 73 = .ok (.istore_n 3, 1) := by decide +kernel
theorem dX5_readSentence_74 : decode cX5_readSentence 74 = .ok (.iload_n 3, 1) := by decide +kernel
theorem dX5_readSentence_75 : decode cX5_readSentence 75 = .ok (.bipush (-3), 2) := by decide +kernel
theorem dX5_readSentence_77 : decode cX5_readSentence 77 = .ok (.if_icmp .eq 15, 3) := by decide +kernel
theorem dX5_readSentence_80 : decode cX5_readSentence 80 = .ok (.aload_n 0, 1) := by decide +kernel
theorem dX5_readSentence_81 : decode cX5_readSentence 81 = .ok (.getstatic 64, 3) := by decide +kernel
theorem dX5_readSentence_84 : decode cX5_readSentence 84 = .ok (.iload_n 3, 1) := by decide +kernel
theorem dX5_readSentence_85 : decode cX5_readSentence 85 = .ok (.iaload, 1) := by decide +kernel
theorem dX5_readSentence_86 : decode cX5_readSentence 86 = .ok (.invokevirtual 48, 3) := by decide +kernel
theorem dX5_readSentence_89 : decode cX5_readSentence 89 = .ok (.ifCond .ne 5, 3) := by decide +kernel
theorem dX5_readSentence_92 : decode cX5_readSentence 92 = .ok (.iconst 0, 1) := by decide +kernel
theorem dX5_readSentence_93 : decode cX5_readSentence 93 = .ok (.ireturn, 1) := by decide +kernel
theorem dX5_readSentence_94 : decode cX5_readSentence 94 = .ok (.aload_n 1, 1) := by decide +kernel
theorem dX5_readSentence_95 : decode cX5_readSentence 95 = .ok (.getfield 68, 3) := by decide +kernel
theorem dX5_readSentence_98 : decode cX5_readSentence 98 = .ok (.iload_n 3, 1) := by decide +kernel
theorem dX5_readSentence_99 : decode cX5_readSentence 99 = .ok (.aload_n 0, 1) := by decide +kernel
theorem dX5_readSentence_100 : decode cX5_readSentence 100 = .ok (.getfield 52, 3) := by decide +kernel
theorem dX5_readSentence_103 : decode cX5_readSentence 103 = .ok (.iastore, 1) := by decide +kernel
theorem dX5_readSentence_104 : decode cX5_readSentence 104 = .ok (.aload_n 0, 1) := by decide +kernel
theorem dX5_readSentence_105 : decode cX5_readSentence 105 = .ok (.invokevirtual 57, 3) := by decide +kernel
theorem dX5_readSentence_108 : decode cX5_readSentence 108 = .ok (.ireturn, 1) := by decide +kernel
set_option maxRecDepth 20000 in
theorem ggX5_readGuest_X5_step : GoodIn wsX5_readGuest wsX5_step := goodIn_r _ [7, 8, 9, 10, 11, 12, 13, 14, 15, 6, 16, 94, 95, 96, 97, 98, 99] (by decide +kernel) (by decide +kernel)
set_option maxRecDepth 20000 in
theorem gX5_readGuest_X5_step : GoodIn wsX5_readGuest (wsV RX5 19 RX5 yX5_step wsX5_step) := goodIn_app (goodIn_of _ (by decide +kernel)) ggX5_readGuest_X5_step
set_option maxRecDepth 20000 in
theorem ggX5_readGuest_X5_isName : GoodIn wsX5_readGuest wsX5_isName := goodIn_r _ [20, 12, 8, 9, 11, 21, 22, 23, 24, 25, 26, 27, 28, 29, 30, 31, 32, 33, 34, 35, 36, 37, 38, 39, 40, 41, 42, 43, 44, 45, 46, 47, 48, 49, 50, 51, 52, 53, 54, 55, 56, 57, 58, 59, 60, 61, 62, 63, 64, 65, 66, 67, 68, 69, 94, 95, 96, 97, 98, 99] (by decide +kernel) (by decide +kernel)
set_option maxRecDepth 20000 in
theorem gX5_readGuest_X5_isName : GoodIn wsX5_readGuest (wsV RX5 44 RX5 yX5_isName wsX5_isName) := goodIn_app (goodIn_of _ (by decide +kernel)) ggX5_readGuest_X5_isName
set_option maxRecDepth 20000 in
theorem ggX5_readGuest_X5_readNumber : GoodIn wsX5_readGuest wsX5_readNumber := goodIn_r _ [73, 12, 8, 9, 1, 11, 3, 4, 5, 6, 7, 10, 13, 14, 15, 16, 94, 95, 96, 97, 98, 99] (by decide +kernel) (by decide +kernel)
set_option maxRecDepth 20000 in
theorem gX5_readGuest_X5_readNumber : GoodIn wsX5_readGuest (wsV RX5 48 RX5 yX5_readNumber wsX5_readNumber) := goodIn_app (goodIn_of _ (by decide +kernel)) ggX5_readGuest_X5_readNumber
set_option maxRecDepth 20000 in
theorem ggX5_readGuest_X4_seat : GoodIn wsX5_readGuest wsX4_seat := goodIn_r _ [78, 79, 80, 81, 82, 83, 84, 85, 86, 77, 87, 88, 100, 101, 102, 103, 104, 105, 106, 107, 108, 109] (by decide +kernel) (by decide +kernel)
set_option maxRecDepth 20000 in
theorem gX5_readGuest_X4_seat : GoodIn wsX5_readGuest (wsV RX5 73 RX4 yX4_seat wsX4_seat) := goodIn_app (goodIn_of _ (by decide +kernel)) ggX5_readGuest_X4_seat
set_option maxRecDepth 20000 in
theorem ggX5_readGuest_X4_drown : GoodIn wsX5_readGuest wsX4_drown := goodIn_r _ [87, 88, 100, 101, 102, 103, 104, 105, 106, 107, 108, 109] (by decide +kernel) (by decide +kernel)
set_option maxRecDepth 20000 in
theorem gX5_readGuest_X4_drown : GoodIn wsX5_readGuest (wsV RX5 83 RX4 yX4_drown wsX4_drown) := goodIn_app (goodIn_of _ (by decide +kernel)) ggX5_readGuest_X4_drown
set_option maxRecDepth 20000 in
theorem ggX5_readGuest_X5_isStop : GoodIn wsX5_readGuest wsX5_isStop := goodIn_r _ [93, 12, 11, 9, 94, 95, 96, 97, 98, 99] (by decide +kernel) (by decide +kernel)
set_option maxRecDepth 20000 in
theorem gX5_readGuest_X5_isStop : GoodIn wsX5_readGuest (wsV RX5 87 RX5 yX5_isStop wsX5_isStop) := goodIn_app (goodIn_of _ (by decide +kernel)) ggX5_readGuest_X5_isStop
theorem dX5_readGuest_0 : decode cX5_readGuest 0 = .ok (.aload_n 0, 1) := by decide +kernel
theorem dX5_readGuest_1 : decode cX5_readGuest 1 = .ok (.invokevirtual 19, 3) := by decide +kernel
theorem dX5_readGuest_4 : decode cX5_readGuest 4 = .ok (.aload_n 0, 1) := by decide +kernel
theorem dX5_readGuest_5 : decode cX5_readGuest 5 = .ok (.ldc 71, 2) := by decide +kernel
theorem dX5_readGuest_7 : decode cX5_readGuest 7 = .ok (.invokevirtual 44, 3) := by decide +kernel
theorem dX5_readGuest_10 : decode cX5_readGuest 10 = .ok (.ifCond .eq 12, 3) := by decide +kernel
theorem dX5_readGuest_13 : decode cX5_readGuest 13 = .ok (.aload_n 0, 1) := by decide +kernel
theorem dX5_readGuest_14 : decode cX5_readGuest 14 = .ok (.bipush 7, 2) := by decide +kernel
theorem dX5_readGuest_16 : decode cX5_readGuest 16 = .ok (.invokevirtual 48, 3) := by decide +kernel
theorem dX5_readGuest_19 : decode cX5_readGuest 19 = .ok (.ifCond .ne 5, 3) := by decide +kernel
theorem dX5_readGuest_22 : decode cX5_readGuest 22 = .ok (.iconst 0, 1) := by decide +kernel
theorem dX5_readGuest_23 : decode cX5_readGuest 23 = .ok (.ireturn, 1) := by decide +kernel
theorem dX5_readGuest_24 : decode cX5_readGuest 24 = .ok (.aload_n 1, 1) := by decide +kernel
theorem dX5_readGuest_25 : decode cX5_readGuest 25 = .ok (.iload_n 2, 1) := by decide +kernel
theorem dX5_readGuest_26 : decode cX5_readGuest 26 = .ok (.aload_n 0, 1) := by decide +kernel
theorem dX5_readGuest_27 : decode cX5_readGuest 27 = .ok (.getfield 52, 3) := by decide +kernel
theorem dX5_readGuest_30 : decode cX5_readGuest 30 = .ok (.invokevirtual 73, 3) := by decide +kernel
theorem dX5_readGuest_33 : decode cX5_readGuest 33 = .ok (.istore_n 3, 1) := by decide +kernel
theorem dX5_readGuest_34 : decode cX5_readGuest 34 = .ok (.aload_n 0, 1) := by decide +kernel
theorem dX5_readGuest_35 : decode cX5_readGuest 35 = .ok (.invokevirtual 19, 3) := by decide +kernel
theorem dX5_readGuest_38 : decode cX5_readGuest 38 = .ok (.aload_n 0, 1) := by decide +kernel
theorem dX5_readGuest_39 : decode cX5_readGuest 39 = .ok (.ldc 77, 2) := by decide +kernel
theorem dX5_readGuest_41 : decode cX5_readGuest 41 = .ok (.invokevirtual 44, 3) := by decide +kernel
theorem dX5_readGuest_44 : decode cX5_readGuest 44 = .ok (.ifCond .eq 28, 3) := by decide +kernel
theorem dX5_readGuest_47 : decode cX5_readGuest 47 = .ok (.aload_n 0, 1) := by decide +kernel
theorem dX5_readGuest_48 : decode cX5_readGuest 48 = .ok (.bipush 99, 2) := by decide +kernel
theorem dX5_readGuest_50 : decode cX5_readGuest 50 = .ok (.invokevirtual 48, 3) := by decide +kernel
theorem dX5_readGuest_53 : decode cX5_readGuest 53 = .ok (.ifCond .ne 5, 3) := by decide +kernel
theorem dX5_readGuest_56 : decode cX5_readGuest 56 = .ok (.iconst 0, 1) := by decide +kernel
theorem dX5_readGuest_57 : decode cX5_readGuest 57 = .ok (.ireturn, 1) := by decide +kernel
theorem dX5_readGuest_58 : decode cX5_readGuest 58 = .ok (.aload_n 1, 1) := by decide +kernel
theorem dX5_readGuest_59 : decode cX5_readGuest 59 = .ok (.getfield 79, 3) := by decide +kernel
theorem dX5_readGuest_62 : decode cX5_readGuest 62 = .ok (.iload_n 3, 1) := by decide +kernel
theorem dX5_readGuest_63 : decode cX5_readGuest 63 = .ok (.aload_n 0, 1) := by decide +kernel
theorem dX5_readGuest_64 : decode cX5_readGuest 64 = .ok (.getfield 52, 3) := by decide +kernel
theorem dX5_readGuest_67 : decode cX5_readGuest 67 = .ok (.iastore, 1) := by decide +kernel
theorem dX5_readGuest_68 : decode cX5_readGuest 68 = .ok (.aload_n 0, 1) := by decide +kernel
theorem dX5_readGuest_69 : decode cX5_readGuest 69 = .ok (.invokevirtual 19, 3) := by decide +kernel
theorem dX5_readGuest_72 : decode cX5_readGuest 72 = .ok (.aload_n 0, 1) := by decide +kernel
theorem dX5_readGuest_73 : decode cX5_readGuest 73 = .ok (.ldc 81, 2) := by decide +kernel
theorem dX5_readGuest_75 : decode cX5_readGuest 75 = .ok (.invokevirtual 44, 3) := by decide +kernel
theorem dX5_readGuest_78 : decode cX5_readGuest 78 = .ok (.ifCond .eq 13, 3) := by decide +kernel
theorem dX5_readGuest_81 : decode cX5_readGuest 81 = .ok (.aload_n 1, 1) := by decide +kernel
theorem dX5_readGuest_82 : decode cX5_readGuest 82 = .ok (.iload_n 3, 1) := by decide +kernel
theorem dX5_readGuest_83 : decode cX5_readGuest 83 = .ok (.iconst 1, 1) := by decide +kernel
theorem dX5_readGuest_84 : decode cX5_readGuest 84 = .ok (.invokevirtual 83, 3) := by decide +kernel
theorem dX5_readGuest_87 : decode cX5_readGuest 87 = .ok (.aload_n 0, 1) := by decide +kernel
theorem dX5_readGuest_88 : decode cX5_readGuest 88 = .ok (.invokevirtual 19, 3) := by decide +kernel
theorem dX5_readGuest_91 : decode cX5_readGuest 91 = .ok (.aload_n 0, 1) := by decide +kernel
theorem dX5_readGuest_92 : decode cX5_readGuest 92 = .ok (.invokevirtual 87, 3) := by decide +kernel
theorem dX5_readGuest_95 : decode cX5_readGuest 95 = .ok (.ireturn, 1) := by decide +kernel
set_option maxRecDepth 20000 in
theorem ggX5_readStop_X5_step : GoodIn wsX5_readStop wsX5_step := goodIn_r _ [5, 6, 7, 8, 9, 10, 11, 12, 13, 4, 14, 19, 20, 21, 22, 23, 24] (by decide +kernel) (by decide +kernel)
set_option maxRecDepth 20000 in
theorem gX5_readStop_X5_step : GoodIn wsX5_readStop (wsV RX5 19 RX5 yX5_step wsX5_step) := goodIn_app (goodIn_of _ (by decide +kernel)) ggX5_readStop_X5_step
set_option maxRecDepth 20000 in
theorem ggX5_readStop_X5_isStop : GoodIn wsX5_readStop wsX5_isStop := goodIn_r _ [18, 10, 9, 7, 19, 20, 21, 22, 23, 24] (by decide +kernel) (by decide +kernel)
set_option maxRecDepth 20000 in
theorem gX5_readStop_X5_isStop : GoodIn wsX5_readStop (wsV RX5 87 RX5 yX5_isStop wsX5_isStop) := goodIn_app (goodIn_of _ (by decide +kernel)) ggX5_readStop_X5_isStop
theorem dX5_readStop_0 : decode cX5_readStop 0 = .ok (.aload_n 0, 1) := by decide +kernel
theorem dX5_readStop_1 : decode cX5_readStop 1 = .ok (.invokevirtual 19, 3) := by decide +kernel
theorem dX5_readStop_4 : decode cX5_readStop 4 = .ok (.aload_n 0, 1) := by decide +kernel
theorem dX5_readStop_5 : decode cX5_readStop 5 = .ok (.invokevirtual 87, 3) := by decide +kernel
theorem dX5_readStop_8 : decode cX5_readStop 8 = .ok (.ireturn, 1) := by decide +kernel
theorem dX5_isStop_0 : decode cX5_isStop 0 = .ok (.aload_n 0, 1) := by decide +kernel
theorem dX5_isStop_1 : decode cX5_isStop 1 = .ok (.getfield 22, 3) := by decide +kernel
theorem dX5_isStop_4 : decode cX5_isStop 4 = .ok (.iconst 3, 1) := by decide +kernel
theorem dX5_isStop_5 : decode cX5_isStop 5 = .ok (.if_icmp .ne 21, 3) := by decide +kernel
theorem dX5_isStop_8 : decode cX5_isStop 8 = .ok (.aload_n 0, 1) := by decide +kernel
theorem dX5_isStop_9 : decode cX5_isStop 9 = .ok (.getfield 9, 3) := by decide +kernel
theorem dX5_isStop_12 : decode cX5_isStop 12 = .ok (.aload_n 0, 1) := by decide +kernel
theorem dX5_isStop_13 : decode cX5_isStop 13 = .ok (.getfield 90, 3) := by decide +kernel
theorem dX5_isStop_16 : decode cX5_isStop 16 = .ok (.baload, 1) := by decide +kernel
theorem dX5_isStop_17 : decode cX5_isStop 17 = .ok (.bipush 59, 2) := by decide +kernel
theorem dX5_isStop_19 : decode cX5_isStop 19 = .ok (.if_icmp .ne 7, 3) := by decide +kernel
theorem dX5_isStop_22 : decode cX5_isStop 22 = .ok (.iconst 1, 1) := by decide +kernel
theorem dX5_isStop_23 : decode cX5_isStop 23 = .ok (.goto 4, 3) := by decide +kernel
theorem dX5_isStop_26 : decode cX5_isStop 26 = .ok (.iconst 0, 1) := by decide +kernel
theorem dX5_isStop_27 : decode cX5_isStop 27 = .ok (.ireturn, 1) := by decide +kernel
set_option maxRecDepth 20000 in
theorem ggX5_readNumber_X5_step : GoodIn wsX5_readNumber wsX5_step := goodIn_r _ [10, 2, 3, 11, 5, 1, 12, 13, 14, 9, 15, 16, 17, 18, 19, 20, 21] (by decide +kernel) (by decide +kernel)
set_option maxRecDepth 20000 in
theorem gX5_readNumber_X5_step : GoodIn wsX5_readNumber (wsV RX5 19 RX5 yX5_step wsX5_step) := goodIn_app (goodIn_of _ (by decide +kernel)) ggX5_readNumber_X5_step
theorem dX5_readNumber_0 : decode cX5_readNumber 0 = .ok (.aload_n 0, 1) := by decide +kernel
theorem dX5_readNumber_1 : decode cX5_readNumber 1 = .ok (.invokevirtual 19, 3) := by decide +kernel
theorem dX5_readNumber_4 : decode cX5_readNumber 4 = .ok (.aload_n 0, 1) := by decide +kernel
theorem dX5_readNumber_5 : decode cX5_readNumber 5 = .ok (.getfield 22, 3) := by decide +kernel
theorem dX5_readNumber_8 : decode cX5_readNumber 8 = .ok (.iconst 2, 1) := by decide +kernel
theorem dX5_readNumber_9 : decode cX5_readNumber 9 = .ok (.if_icmp .ne 16, 3) := by decide +kernel
theorem dX5_readNumber_12 : decode cX5_readNumber 12 = .ok (.aload_n 0, 1) := by decide +kernel
theorem dX5_readNumber_13 : decode cX5_readNumber 13 = .ok (.getfield 15, 3) := by decide +kernel
theorem dX5_readNumber_16 : decode cX5_readNumber 16 = .ok (.aload_n 0, 1) := by decide +kernel
theorem dX5_readNumber_17 : decode cX5_readNumber 17 = .ok (.getfield 90, 3) := by decide +kernel
theorem dX5_readNumber_20 : decode cX5_readNumber 20 = .ok (.isub, 1) := by decide +kernel
theorem dX5_readNumber_21 : decode cX5_readNumber 21 = .ok (.iconst 3, 1) := by decide +kernel
theorem dX5_readNumber_22 : decode cX5_readNumber 22 = .ok (.if_icmp .le 5, 3) := by decide +kernel
theorem dX5_readNumber_25 : decode cX5_readNumber 25 = .ok (.iconst 0, 1) := by decide +kernel
theorem dX5_readNumber_26 : decode cX5_readNumber 26 = .ok (.ireturn, 1) := by decide +kernel
theorem dX5_readNumber_27 : decode cX5_readNumber 27 = .ok (.aload_n 0, 1) := by decide +kernel
theorem dX5_readNumber_28 : decode cX5_readNumber 28 = .ok (.iconst 0, 1) := by decide +kernel
theorem dX5_readNumber_29 : decode cX5_readNumber 29 = .ok (.putfield 52, 3) := by decide +kernel
theorem dX5_readNumber_32 : decode cX5_readNumber 32 = .ok (.aload_n 0, 1) := by decide +kernel
theorem dX5_readNumber_33 : decode cX5_readNumber 33 = .ok (.getfield 90, 3) := by decide +kernel
theorem dX5_readNumber_36 : decode cX5_readNumber 36 = .ok (.istore_n 2, 1) := by decide +kernel
theorem dX5_readNumber_37 : decode cX5_readNumber 37 = .ok (.iload_n 2, 1) := by decide +kernel
theorem dX5_readNumber_38 : decode cX5_readNumber 38 = .ok (.aload_n 0, 1) := by decide +kernel
theorem dX5_readNumber_39 : decode cX5_readNumber 39 = .ok (.getfield 15, 3) := by decide +kernel
theorem dX5_readNumber_42 : decode cX5_readNumber 42 = .ok (.if_icmp .ge 30, 3) := by decide +kernel
theorem dX5_readNumber_45 : decode cX5_readNumber 45 = .ok (.aload_n 0, 1) := by decide +kernel
theorem dX5_readNumber_46 : decode cX5_readNumber 46 = .ok (.aload_n 0, 1) := by decide +kernel
theorem dX5_readNumber_47 : decode cX5_readNumber 47 = .ok (.getfield 52, 3) := by decide +kernel
theorem dX5_readNumber_50 : decode cX5_readNumber 50 = .ok (.bipush 10, 2) := by decide +kernel
theorem dX5_readNumber_52 : decode cX5_readNumber 52 = .ok (.imul, 1) := by decide +kernel
theorem dX5_readNumber_53 : decode cX5_readNumber 53 = .ok (.aload_n 0, 1) := by decide +kernel
theorem dX5_readNumber_54 : decode cX5_readNumber 54 = .ok (.getfield 9, 3) := by decide +kernel
theorem dX5_readNumber_57 : decode cX5_readNumber 57 = .ok (.iload_n 2, 1) := by decide +kernel
theorem dX5_readNumber_58 : decode cX5_readNumber 58 = .ok (.baload, 1) := by decide +kernel
theorem dX5_readNumber_59 : decode cX5_readNumber 59 = .ok (.bipush 48, 2) := by decide +kernel
theorem dX5_readNumber_61 : decode cX5_readNumber 61 = .ok (.isub, 1) := by decide +kernel
theorem dX5_readNumber_62 : decode cX5_readNumber 62 = .ok (.iadd, 1) := by decide +kernel
theorem dX5_readNumber_63 : decode cX5_readNumber 63 = .ok (.putfield 52, 3) := by decide +kernel
theorem dX5_readNumber_66 : decode cX5_readNumber 66 = .ok (.iinc 2 1, 3) := by decide +kernel
theorem dX5_readNumber_69 : decode cX5_readNumber 69 = .ok (.goto (-32), 3) := by decide +kernel
theorem dX5_readNumber_72 : decode cX5_readNumber 72 = .ok (.aload_n 0, 1) := by decide +kernel
theorem dX5_readNumber_73 : decode cX5_readNumber 73 = .ok (.getfield 52, 3) := by decide +kernel
theorem dX5_readNumber_76 : decode cX5_readNumber 76 = .ok (.iload_n 1, 1) := by decide +kernel
theorem dX5_readNumber_77 : decode cX5_readNumber 77 = .ok (.if_icmp .gt 7, 3) := by decide +kernel
theorem dX5_readNumber_80 : decode cX5_readNumber 80 = .ok (.iconst 1, 1) := by decide +kernel
theorem dX5_readNumber_81 : decode cX5_readNumber 81 = .ok (.goto 4, 3) := by decide +kernel
theorem dX5_readNumber_84 : decode cX5_readNumber 84 = .ok (.iconst 0, 1) := by decide +kernel
theorem dX5_readNumber_85 : decode cX5_readNumber 85 = .ok (.ireturn, 1) := by decide +kernel
set_option maxRecDepth 20000 in
theorem ggX5_step_X5_sortAt : GoodIn wsX5_step wsX5_sortAt := goodIn_r _ [10, 3, 4, 11, 12, 13, 14, 15, 16] (by decide +kernel) (by decide +kernel)
