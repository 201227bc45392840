theorem dX6_reaches_0 : decode cX6_reaches 0 = .ok (.aload_n 0, 1) := by decide +kernel
theorem dX6_reaches_1 : decode cX6_reaches 1 = .ok (.getfield 16, 3) := by decide +kernel
theorem dX6_reaches_4 : decode cX6_reaches 4 = .ok (.aload_n 0, 1) := by decide +kernel
theorem dX6_reaches_5 : decode cX6_reaches 5 = .ok (.getfield 10, 3) := by decide +kernel
theorem dX6_reaches_8 : decode cX6_reaches 8 = .ok (.invokevirtual 82, 3) := by decide +kernel
theorem dX6_reaches_11 : decode cX6_reaches 11 = .ok (.aload_n 0, 1) := by decide +kernel
theorem dX6_reaches_12 : decode cX6_reaches 12 = .ok (.getfield 16, 3) := by decide +kernel
theorem dX6_reaches_15 : decode cX6_reaches 15 = .ok (.dup, 1) := by decide +kernel
theorem dX6_reaches_16 : decode cX6_reaches 16 = .ok (.getfield 153, 3) := by decide +kernel
theorem dX6_reaches_19 : decode cX6_reaches 19 = .ok (.aload_n 0, 1) := by decide +kernel
theorem dX6_reaches_20 : decode cX6_reaches 20 = .ok (.getfield 16, 3) := by decide +kernel
theorem dX6_reaches_23 : decode cX6_reaches 23 = .ok (.invokevirtual 189, 3) := by decide +kernel
theorem dX6_reaches_26 : decode cX6_reaches 26 = .ok (.iload_n 1, 1) := by decide +kernel
theorem dX6_reaches_27 : decode cX6_reaches 27 = .ok (.iconst (-1), 1) := by decide +kernel
theorem dX6_reaches_28 : decode cX6_reaches 28 = .ok (.ixor, 1) := by decide +kernel
theorem dX6_reaches_29 : decode cX6_reaches 29 = .ok (.iand, 1) := by decide +kernel
theorem dX6_reaches_30 : decode cX6_reaches 30 = .ok (.ior, 1) := by decide +kernel
theorem dX6_reaches_31 : decode cX6_reaches 31 = .ok (.putfield 153, 3) := by decide +kernel
theorem dX6_reaches_34 : decode cX6_reaches 34 = .ok (.aload_n 0, 1) := by decide +kernel
theorem dX6_reaches_35 : decode cX6_reaches 35 = .ok (.getfield 16, 3) := by decide +kernel
theorem dX6_reaches_38 : decode cX6_reaches 38 = .ok (.iload_n 2, 1) := by decide +kernel
theorem dX6_reaches_39 : decode cX6_reaches 39 = .ok (.invokevirtual 134, 3) := by decide +kernel
theorem dX6_reaches_42 : decode cX6_reaches 42 = .ok (.iload_n 3, 1) := by decide +kernel
theorem dX6_reaches_43 : decode cX6_reaches 43 = .ok (.if_icmp .lt 7, 3) := by decide +kernel
theorem dX6_reaches_46 : decode cX6_reaches 46 = .ok (.iconst 1, 1) := by decide +kernel
theorem dX6_reaches_47 : decode cX6_reaches 47 = .ok (.goto 4, 3) := by decide +kernel
theorem dX6_reaches_50 : decode cX6_reaches 50 = .ok (.iconst 0, 1) := by decide +kernel
theorem dX6_reaches_51 : decode cX6_reaches 51 = .ok (.ireturn, 1) := by decide +kernel
set_option maxRecDepth 20000 in
theorem ggX6_fits_X6_within : GoodIn wsX6_fits wsX6_within := goodIn_r _ [9] (by decide +kernel) (by decide +kernel)
set_option maxRecDepth 20000 in
theorem gX6_fits_X6_within : GoodIn wsX6_fits (va_wsS RX6 57 yX6_within wsX6_within) := goodIn_app (goodIn_of _ (by decide +kernel)) ggX6_fits_X6_within
set_option maxRecDepth 20000 in
theorem ggX6_fits_X4_has : GoodIn wsX6_fits wsX4_has := goodIn_r _ [14, 15, 7, 8, 9, 100, 101, 102, 103, 104, 105, 106, 107, 108, 109] (by decide +kernel) (by decide +kernel)
set_option maxRecDepth 20000 in
theorem gX6_fits_X4_has : GoodIn wsX6_fits (wsV RX6 101 RX4 yX4_has wsX4_has) := goodIn_app (goodIn_of _ (by decide +kernel)) ggX6_fits_X4_has
set_option maxRecDepth 20000 in
theorem ggX6_fits_X4_copyFrom : GoodIn wsX6_fits wsX4_copyFrom := goodIn_r _ [19, 20, 21, 22, 23, 24, 25, 26, 27, 28, 29, 15, 30, 31, 32, 100, 101, 102, 103, 104, 105, 106, 107, 108, 109] (by decide +kernel) (by decide +kernel)
set_option maxRecDepth 20000 in
theorem gX6_fits_X4_copyFrom : GoodIn wsX6_fits (wsV RX6 82 RX4 yX4_copyFrom wsX4_copyFrom) := goodIn_app (goodIn_of _ (by decide +kernel)) ggX6_fits_X4_copyFrom
set_option maxRecDepth 20000 in
theorem ggX6_fits_X6_goesAs : GoodIn wsX6_fits wsX6_goesAs := goodIn_r _ [36, 37, 4, 38, 39, 40, 41, 42, 43, 13, 44, 15, 27, 20, 30, 45, 46, 47, 48, 29, 49, 50, 51, 52, 25, 26, 53, 54, 55, 56, 31, 57, 8, 58, 59, 60, 61, 62, 63, 64, 65, 66, 67, 68, 69, 70, 71, 72, 73, 74, 75, 76, 77, 78, 79, 28, 80, 81, 82, 83, 84, 85, 86, 87, 97, 98, 99, 88, 89, 90, 91, 92, 93, 94, 95, 96, 100, 101, 102, 103, 104, 105, 106, 107, 108, 109] (by decide +kernel) (by decide +kernel)
set_option maxRecDepth 20000 in
theorem gX6_fits_X6_goesAs : GoodIn wsX6_fits (wsV RX6 206 RX6 yX6_goesAs wsX6_goesAs) := goodIn_app (goodIn_of _ (by decide +kernel)) ggX6_fits_X6_goesAs
theorem dX6_fits_0 : decode cX6_fits 0 = .ok (.iload_n 1, 1) := by decide +kernel
theorem dX6_fits_1 : decode cX6_fits 1 = .ok (.iconst 0, 1) := by decide +kernel
theorem dX6_fits_2 : decode cX6_fits 2 = .ok (.iconst 3, 1) := by decide +kernel
theorem dX6_fits_3 : decode cX6_fits 3 = .ok (.invokestatic 57, 3) := by decide +kernel
theorem dX6_fits_6 : decode cX6_fits 6 = .ok (.ifCond .eq 23, 3) := by decide +kernel
theorem dX6_fits_9 : decode cX6_fits 9 = .ok (.aload_n 0, 1) := by decide +kernel
theorem dX6_fits_10 : decode cX6_fits 10 = .ok (.getfield 10, 3) := by decide +kernel
theorem dX6_fits_13 : decode cX6_fits 13 = .ok (.iload_n 2, 1) := by decide +kernel
theorem dX6_fits_14 : decode cX6_fits 14 = .ok (.invokevirtual 101, 3) := by decide +kernel
theorem dX6_fits_17 : decode cX6_fits 17 = .ok (.ifCond .eq 12, 3) := by decide +kernel
theorem dX6_fits_20 : decode cX6_fits 20 = .ok (.iload_n 3, 1) := by decide +kernel
theorem dX6_fits_21 : decode cX6_fits 21 = .ok (.iconst 0, 1) := by decide +kernel
theorem dX6_fits_22 : decode cX6_fits 22 = .ok (.iconst 1, 1) := by decide +kernel
theorem dX6_fits_23 : decode cX6_fits 23 = .ok (.invokestatic 57, 3) := by decide +kernel
theorem dX6_fits_26 : decode cX6_fits 26 = .ok (.ifCond .ne 5, 3) := by decide +kernel
theorem dX6_fits_29 : decode cX6_fits 29 = .ok (.iconst (-1), 1) := by decide +kernel
theorem dX6_fits_30 : decode cX6_fits 30 = .ok (.ireturn, 1) := by decide +kernel
theorem dX6_fits_31 : decode cX6_fits 31 = .ok (.aload_n 0, 1) := by decide +kernel
theorem dX6_fits_32 : decode cX6_fits 32 = .ok (.getfield 38, 3) := by decide +kernel
theorem dX6_fits_35 : decode cX6_fits 35 = .ok (.iload_n 1, 1) := by decide +kernel
theorem dX6_fits_36 : decode cX6_fits 36 = .ok (.aaload, 1) := by decide +kernel
theorem dX6_fits_37 : decode cX6_fits 37 = .ok (.astore 4, 2) := by decide +kernel
theorem dX6_fits_39 : decode cX6_fits 39 = .ok (.aload 4, 2) := by decide +kernel
theorem dX6_fits_41 : decode cX6_fits 41 = .ok (.getfield 203, 3) := by decide +kernel
theorem dX6_fits_44 : decode cX6_fits 44 = .ok (.iconst (-1), 1) := by decide +kernel
theorem dX6_fits_45 : decode cX6_fits 45 = .ok (.if_icmp .ne 6, 3) := by decide +kernel
theorem dX6_fits_48 : decode cX6_fits 48 = .ok (.bipush (-11), 2) := by decide +kernel
theorem dX6_fits_50 : decode cX6_fits 50 = .ok (.ireturn, 1) := by decide +kernel
theorem dX6_fits_51 : decode cX6_fits 51 = .ok (.iconst 0, 1) := by decide +kernel
theorem dX6_fits_52 : decode cX6_fits 52 = .ok (.istore 5, 2) := by decide +kernel
theorem dX6_fits_54 : decode cX6_fits 54 = .ok (.bipush (-3), 2) := by decide +kernel
theorem dX6_fits_56 : decode cX6_fits 56 = .ok (.istore 6, 2) := by decide +kernel
theorem dX6_fits_58 : decode cX6_fits 58 = .ok (.bipush 7, 2) := by decide +kernel
theorem dX6_fits_60 : decode cX6_fits 60 = .ok (.istore 7, 2) := by decide +kernel
theorem dX6_fits_62 : decode cX6_fits 62 = .ok (.iload 7, 2) := by decide +kernel
theorem dX6_fits_64 : decode cX6_fits 64 = .ok (.ifCond .lt 47, 3) := by decide +kernel
theorem dX6_fits_67 : decode cX6_fits 67 = .ok (.aload_n 0, 1) := by decide +kernel
theorem dX6_fits_68 : decode cX6_fits 68 = .ok (.getfield 16, 3) := by decide +kernel
theorem dX6_fits_71 : decode cX6_fits 71 = .ok (.aload_n 0, 1) := by decide +kernel
theorem dX6_fits_72 : decode cX6_fits 72 = .ok (.getfield 10, 3) := by decide +kernel
theorem dX6_fits_75 : decode cX6_fits 75 = .ok (.invokevirtual 82, 3) := by decide +kernel
theorem dX6_fits_78 : decode cX6_fits 78 = .ok (.aload_n 0, 1) := by decide +kernel
theorem dX6_fits_79 : decode cX6_fits 79 = .ok (.getfield 16, 3) := by decide +kernel
theorem dX6_fits_82 : decode cX6_fits 82 = .ok (.getfield 108, 3) := by decide +kernel
theorem dX6_fits_85 : decode cX6_fits 85 = .ok (.iload_n 2, 1) := by decide +kernel
theorem dX6_fits_86 : decode cX6_fits 86 = .ok (.iload 7, 2) := by decide +kernel
theorem dX6_fits_88 : decode cX6_fits 88 = .ok (.iastore, 1) := by decide +kernel
theorem dX6_fits_89 : decode cX6_fits 89 = .ok (.aload_n 0, 1) := by decide +kernel
theorem dX6_fits_90 : decode cX6_fits 90 = .ok (.aload 4, 2) := by decide +kernel
theorem dX6_fits_92 : decode cX6_fits 92 = .ok (.invokevirtual 206, 3) := by decide +kernel
theorem dX6_fits_95 : decode cX6_fits 95 = .ok (.ifCond .eq 10, 3) := by decide +kernel
theorem dX6_fits_98 : decode cX6_fits 98 = .ok (.iinc 5 1, 3) := by decide +kernel
theorem dX6_fits_101 : decode cX6_fits 101 = .ok (.iload 7, 2) := by decide +kernel
theorem dX6_fits_103 : decode cX6_fits 103 = .ok (.istore 6, 2) := by decide +kernel
theorem dX6_fits_105 : decode cX6_fits 105 = .ok (.iinc 7 (-1), 3) := by decide +kernel
theorem dX6_fits_108 : decode cX6_fits 108 = .ok (.goto (-46), 3) := by decide +kernel
theorem dX6_fits_111 : decode cX6_fits 111 = .ok (.iload_n 3, 1) := by decide +kernel
theorem dX6_fits_112 : decode cX6_fits 112 = .ok (.ifCond .ne 8, 3) := by decide +kernel
theorem dX6_fits_115 : decode cX6_fits 115 = .ok (.iload 5, 2) := by decide +kernel
theorem dX6_fits_117 : decode cX6_fits 117 = .ok (.goto 5, 3) := by decide +kernel
theorem dX6_fits_120 : decode cX6_fits 120 = .ok (.iload 6, 2) := by decide +kernel
theorem dX6_fits_122 : decode cX6_fits 122 = .ok (.ireturn, 1) := by decide +kernel
set_option maxRecDepth 20000 in
theorem ggX6_goesAs_X4_serve : GoodIn wsX6_goesAs wsX4_serve := goodIn_r _ [10, 11, 12, 13, 14, 15, 16, 17, 9, 18, 19, 20, 21, 22, 23, 24, 25, 26, 27, 28, 29, 30, 31, 32, 33, 34, 35, 36, 37, 38, 39, 40, 41, 42, 43, 44, 45, 46, 47, 48, 49, 50, 51, 52, 53, 54, 55, 56, 57, 58, 59, 60, 61, 62, 63, 76, 77, 78, 79, 80, 81, 82, 83, 84, 85] (by decide +kernel) (by decide +kernel)
set_option maxRecDepth 20000 in
theorem gX6_goesAs_X4_serve : GoodIn wsX6_goesAs (wsV RX6 171 RX4 yX4_serve wsX4_serve) := goodIn_app (goodIn_of _ (by decide +kernel)) ggX6_goesAs_X4_serve
theorem dX6_goesAs_0 : decode cX6_goesAs 0 = .ok (.iconst 0, 1) := by decide +kernel
theorem dX6_goesAs_1 : decode cX6_goesAs 1 = .ok (.istore_n 2, 1) := by decide +kernel
theorem dX6_goesAs_2 : decode cX6_goesAs 2 = .ok (.iload_n 2, 1) := by decide +kernel
theorem dX6_goesAs_3 : decode cX6_goesAs 3 = .ok (.aload_n 1, 1) := by decide +kernel
theorem dX6_goesAs_4 : decode cX6_goesAs 4 = .ok (.getfield 210, 3) := by decide +kernel
theorem dX6_goesAs_7 : decode cX6_goesAs 7 = .ok (.if_icmp .ge 49, 3) := by decide +kernel
theorem dX6_goesAs_10 : decode cX6_goesAs 10 = .ok (.aload_n 0, 1) := by decide +kernel
theorem dX6_goesAs_11 : decode cX6_goesAs 11 = .ok (.getfield 16, 3) := by decide +kernel
theorem dX6_goesAs_14 : decode cX6_goesAs 14 = .ok (.invokevirtual 171, 3) := by decide +kernel
theorem dX6_goesAs_17 : decode cX6_goesAs 17 = .ok (.aload_n 1, 1) := by decide +kernel
theorem dX6_goesAs_18 : decode cX6_goesAs 18 = .ok (.getfield 211, 3) := by decide +kernel
theorem dX6_goesAs_21 : decode cX6_goesAs 21 = .ok (.iload_n 2, 1) := by decide +kernel
theorem dX6_goesAs_22 : decode cX6_goesAs 22 = .ok (.laload, 1) := by decide +kernel
theorem dX6_goesAs_23 : decode cX6_goesAs 23 = .ok (.ldc2_w 215, 3) := by decide +kernel
theorem dX6_goesAs_26 : decode cX6_goesAs 26 = .ok (.lcmp, 1) := by decide +kernel
theorem dX6_goesAs_27 : decode cX6_goesAs 27 = .ok (.ifCond .eq 23, 3) := by decide +kernel
theorem dX6_goesAs_30 : decode cX6_goesAs 30 = .ok (.aload_n 1, 1) := by decide +kernel
theorem dX6_goesAs_31 : decode cX6_goesAs 31 = .ok (.getfield 211, 3) := by decide +kernel
theorem dX6_goesAs_34 : decode cX6_goesAs 34 = .ok (.iload_n 2, 1) := by decide +kernel
theorem dX6_goesAs_35 : decode cX6_goesAs 35 = .ok (.laload, 1) := by decide +kernel
theorem dX6_goesAs_36 : decode cX6_goesAs 36 = .ok (.aload_n 0, 1) := by decide +kernel
theorem dX6_goesAs_37 : decode cX6_goesAs 37 = .ok (.getfield 16, 3) := by decide +kernel
theorem dX6_goesAs_40 : decode cX6_goesAs 40 = .ok (.getfield 140, 3) := by decide +kernel
theorem dX6_goesAs_43 : decode cX6_goesAs 43 = .ok (.i2l, 1) := by decide +kernel
theorem dX6_goesAs_44 : decode cX6_goesAs 44 = .ok (.lcmp, 1) := by decide +kernel
theorem dX6_goesAs_45 : decode cX6_goesAs 45 = .ok (.ifCond .eq 5, 3) := by decide +kernel
theorem dX6_goesAs_48 : decode cX6_goesAs 48 = .ok (.iconst 0, 1) := by decide +kernel
theorem dX6_goesAs_49 : decode cX6_goesAs 49 = .ok (.ireturn, 1) := by decide +kernel
theorem dX6_goesAs_50 : decode cX6_goesAs 50 = .ok (.iinc 2 1, 3) := by decide +kernel
theorem dX6_goesAs_53 : decode cX6_goesAs 53 = .ok (.goto (-51), 3) := by decide +kernel
theorem dX6_goesAs_56 : decode cX6_goesAs 56 = .ok (.iconst 1, 1) := by decide +kernel
theorem dX6_goesAs_57 : decode cX6_goesAs 57 = .ok (.ireturn, 1) := by decide +kernel
set_option maxRecDepth 20000 in
theorem ggX6_triedTale_X4_copyFrom : GoodIn wsX6_triedTale wsX4_copyFrom := goodIn_r _ [7, 8, 9, 10, 11, 12, 13, 14, 15, 16, 17, 18, 19, 20, 21, 83, 84, 85, 86, 87, 88, 89, 90, 91, 92] (by decide +kernel) (by decide +kernel)
set_option maxRecDepth 20000 in
theorem gX6_triedTale_X4_copyFrom : GoodIn wsX6_triedTale (wsV RX6 82 RX4 yX4_copyFrom wsX4_copyFrom) := goodIn_app (goodIn_of _ (by decide +kernel)) ggX6_triedTale_X4_copyFrom
set_option maxRecDepth 20000 in
theorem ggX6_triedTale_X4_toldBehind : GoodIn wsX6_triedTale wsX4_toldBehind := goodIn_r _ [25, 20, 26, 27, 28, 6, 29, 18, 15, 8, 19, 30, 31, 32, 33, 17, 34, 35, 36, 37, 13, 14, 38, 39, 40, 41, 42, 43, 44, 45, 46, 47, 48, 49, 50, 51, 52, 53, 54, 55, 56, 57, 58, 59, 60, 61, 62, 63, 64, 65, 16, 66, 67, 68, 69, 70, 71, 72, 73, 83, 84, 85, 86, 87, 88, 89, 90, 91, 92] (by decide +kernel) (by decide +kernel)
set_option maxRecDepth 20000 in
theorem gX6_triedTale_X4_toldBehind : GoodIn wsX6_triedTale (wsV RX6 134 RX4 yX4_toldBehind wsX4_toldBehind) := goodIn_app (goodIn_of _ (by decide +kernel)) ggX6_triedTale_X4_toldBehind
theorem dX6_triedTale_0 : decode cX6_triedTale 0 = .ok (.aload_n 0, 1) := by decide +kernel
theorem dX6_triedTale_1 : decode cX6_triedTale 1 = .ok (.getfield 16, 3) := by decide +kernel
theorem dX6_triedTale_4 : decode cX6_triedTale 4 = .ok (.aload_n 0, 1) := by decide +kernel
theorem dX6_triedTale_5 : decode cX6_triedTale 5 = .ok (.getfield 10, 3) := by decide +kernel
theorem dX6_triedTale_8 : decode cX6_triedTale 8 = .ok (.invokevirtual 82, 3) := by decide +kernel
theorem dX6_triedTale_11 : decode cX6_triedTale 11 = .ok (.aload_n 0, 1) := by decide +kernel
theorem dX6_triedTale_12 : decode cX6_triedTale 12 = .ok (.getfield 16, 3) := by decide +kernel
theorem dX6_triedTale_15 : decode cX6_triedTale 15 = .ok (.iload_n 1, 1) := by decide +kernel
theorem dX6_triedTale_16 : decode cX6_triedTale 16 = .ok (.invokevirtual 134, 3) := by decide +kernel
theorem dX6_triedTale_19 : decode cX6_triedTale 19 = .ok (.ireturn, 1) := by decide +kernel
set_option maxRecDepth 20000 in
theorem ggX6_odds_X6_within : GoodIn wsX6_odds wsX6_within := goodIn_r _ [8] (by decide +kernel) (by decide +kernel)
set_option maxRecDepth 20000 in
theorem gX6_odds_X6_within : GoodIn wsX6_odds (va_wsS RX6 57 yX6_within wsX6_within) := goodIn_app (goodIn_of _ (by decide +kernel)) ggX6_odds_X6_within
set_option maxRecDepth 20000 in
theorem ggX6_odds_X6_waysToChoose : GoodIn wsX6_odds wsX6_waysToChoose := goodIn_r _ [11] (by decide +kernel) (by decide +kernel)
set_option maxRecDepth 20000 in
theorem gX6_odds_X6_waysToChoose : GoodIn wsX6_odds (va_wsS RX6 219 yX6_waysToChoose wsX6_waysToChoose) := goodIn_app (goodIn_of _ (by decide +kernel)) ggX6_odds_X6_waysToChoose
set_option maxRecDepth 20000 in
theorem ggX6_odds_X6_partOf : GoodIn wsX6_odds wsX6_partOf := goodIn_r _ [14, 15, 16, 7, 17] (by decide +kernel) (by decide +kernel)
set_option maxRecDepth 20000 in
theorem gX6_odds_X6_partOf : GoodIn wsX6_odds (va_wsS RX6 223 yX6_partOf wsX6_partOf) := goodIn_app (goodIn_of _ (by decide +kernel)) ggX6_odds_X6_partOf
theorem dX6_odds_0 : decode cX6_odds 0 = .ok (.iload_n 1, 1) := by decide +kernel
theorem dX6_odds_1 : decode cX6_odds 1 = .ok (.iconst 0, 1) := by decide +kernel
theorem dX6_odds_2 : decode cX6_odds 2 = .ok (.bipush 8, 2) := by decide +kernel
theorem dX6_odds_4 : decode cX6_odds 4 = .ok (.invokestatic 57, 3) := by decide +kernel
theorem dX6_odds_7 : decode cX6_odds 7 = .ok (.ifCond .eq 21, 3) := by decide +kernel
theorem dX6_odds_10 : decode cX6_odds 10 = .ok (.iload_n 2, 1) := by decide +kernel
theorem dX6_odds_11 : decode cX6_odds 11 = .ok (.iconst 0, 1) := by decide +kernel
theorem dX6_odds_12 : decode cX6_odds 12 = .ok (.iload_n 1, 1) := by decide +kernel
theorem dX6_odds_13 : decode cX6_odds 13 = .ok (.invokestatic 57, 3) := by decide +kernel
theorem dX6_odds_16 : decode cX6_odds 16 = .ok (.ifCond .eq 12, 3) := by decide +kernel
theorem dX6_odds_19 : decode cX6_odds 19 = .ok (.iload_n 3, 1) := by decide +kernel
theorem dX6_odds_20 : decode cX6_odds 20 = .ok (.iconst 0, 1) := by decide +kernel
theorem dX6_odds_21 : decode cX6_odds 21 = .ok (.iconst 1, 1) := by decide +kernel
theorem dX6_odds_22 : decode cX6_odds 22 = .ok (.invokestatic 57, 3) := by decide +kernel
theorem dX6_odds_25 : decode cX6_odds 25 = .ok (.ifCond .ne 7, 3) := by decide +kernel
theorem dX6_odds_28 : decode cX6_odds 28 = .ok (.ldc2_w 215, 3) := by decide +kernel
theorem dX6_odds_31 : decode cX6_odds 31 = .ok (.lreturn, 1) := by decide +kernel
theorem dX6_odds_32 : decode cX6_odds 32 = .ok (.lconst 1, 1) := by decide +kernel
theorem dX6_odds_33 : decode cX6_odds 33 = .ok (.lstore 4, 2) := by decide +kernel
theorem dX6_odds_35 : decode cX6_odds 35 = .ok (.lconst 1, 1) := by decide +kernel
theorem dX6_odds_36 : decode cX6_odds 36 = .ok (.lstore 6, 2) := by decide +kernel
theorem dX6_odds_38 : decode cX6_odds 38 = .ok (.iconst 0, 1) := by decide +kernel
theorem dX6_odds_39 : decode cX6_odds 39 = .ok (.istore 8, 2) := by decide +kernel
theorem dX6_odds_41 : decode cX6_odds 41 = .ok (.iload 8, 2) := by decide +kernel
theorem dX6_odds_43 : decode cX6_odds 43 = .ok (.iload_n 1, 1) := by decide +kernel
theorem dX6_odds_44 : decode cX6_odds 44 = .ok (.if_icmp .ge 54, 3) := by decide +kernel
theorem dX6_odds_47 : decode cX6_odds 47 = .ok (.lload 4, 2) := by decide +kernel
theorem dX6_odds_49 : decode cX6_odds 49 = .ok (.iload 8, 2) := by decide +kernel
theorem dX6_odds_51 : decode cX6_odds 51 = .ok (.iload_n 2, 1) := by decide +kernel
theorem dX6_odds_52 : decode cX6_odds 52 = .ok (.if_icmp .ge 16, 3) := by decide +kernel
theorem dX6_odds_55 : decode cX6_odds 55 = .ok (.aload_n 0, 1) := by decide +kernel
theorem dX6_odds_56 : decode cX6_odds 56 = .ok (.getfield 10, 3) := by decide +kernel
theorem dX6_odds_59 : decode cX6_odds 59 = .ok (.getfield 94, 3) := by decide +kernel
theorem dX6_odds_62 : decode cX6_odds 62 = .ok (.iconst 3, 1) := by decide +kernel
theorem dX6_odds_63 : decode cX6_odds 63 = .ok (.iaload, 1) := by decide +kernel
theorem dX6_odds_64 : decode cX6_odds 64 = .ok (.i2l, 1) := by decide +kernel
theorem dX6_odds_65 : decode cX6_odds 65 = .ok (.goto 16, 3) := by decide +kernel
theorem dX6_odds_68 : decode cX6_odds 68 = .ok (.bipush 100, 2) := by decide +kernel
theorem dX6_odds_70 : decode cX6_odds 70 = .ok (.aload_n 0, 1) := by decide +kernel
theorem dX6_odds_71 : decode cX6_odds 71 = .ok (.getfield 10, 3) := by decide +kernel
theorem dX6_odds_74 : decode cX6_odds 74 = .ok (.getfield 94, 3) := by decide +kernel
theorem dX6_odds_77 : decode cX6_odds 77 = .ok (.iconst 3, 1) := by decide +kernel
theorem dX6_odds_78 : decode cX6_odds 78 = .ok (.iaload, 1) := by decide +kernel
theorem dX6_odds_79 : decode cX6_odds 79 = .ok (.isub, 1) := by decide +kernel
theorem dX6_odds_80 : decode cX6_odds 80 = .ok (.i2l, 1) := by decide +kernel
theorem dX6_odds_81 : decode cX6_odds 81 = .ok (.lmul, 1) := by decide +kernel
theorem dX6_odds_82 : decode cX6_odds 82 = .ok (.lstore 4, 2) := by decide +kernel
theorem dX6_odds_84 : decode cX6_odds 84 = .ok (.lload 6, 2) := by decide +kernel
theorem dX6_odds_86 : decode cX6_odds 86 = .ok (.ldc2_w 217, 3) := by decide +kernel
theorem dX6_odds_89 : decode cX6_odds 89 = .ok (.lmul, 1) := by decide +kernel
theorem dX6_odds_90 : decode cX6_odds 90 = .ok (.lstore 6, 2) := by decide +kernel
theorem dX6_odds_92 : decode cX6_odds 92 = .ok (.iinc 8 1, 3) := by decide +kernel
theorem dX6_odds_95 : decode cX6_odds 95 = .ok (.goto (-54), 3) := by decide +kernel
theorem dX6_odds_98 : decode cX6_odds 98 = .ok (.lload 4, 2) := by decide +kernel
theorem dX6_odds_100 : decode cX6_odds 100 = .ok (.iload_n 1, 1) := by decide +kernel
theorem dX6_odds_101 : decode cX6_odds 101 = .ok (.iload_n 2, 1) := by decide +kernel
theorem dX6_odds_102 : decode cX6_odds 102 = .ok (.invokestatic 219, 3) := by decide +kernel
theorem dX6_odds_105 : decode cX6_odds 105 = .ok (.lmul, 1) := by decide +kernel
theorem dX6_odds_106 : decode cX6_odds 106 = .ok (.lload 6, 2) := by decide +kernel
theorem dX6_odds_108 : decode cX6_odds 108 = .ok (.iload_n 3, 1) := by decide +kernel
theorem dX6_odds_109 : decode cX6_odds 109 = .ok (.invokestatic 223, 3) := by decide +kernel
theorem dX6_odds_112 : decode cX6_odds 112 = .ok (.lreturn, 1) := by decide +kernel
set_option maxRecDepth 20000 in
theorem ggX6_hope_X6_within : GoodIn wsX6_hope wsX6_within := goodIn_r _ [8] (by decide +kernel) (by decide +kernel)
set_option maxRecDepth 20000 in
theorem gX6_hope_X6_within : GoodIn wsX6_hope (va_wsS RX6 57 yX6_within wsX6_within) := goodIn_app (goodIn_of _ (by decide +kernel)) ggX6_hope_X6_within
set_option maxRecDepth 20000 in
theorem ggX6_hope_X6_partOf : GoodIn wsX6_hope wsX6_partOf := goodIn_r _ [11, 12, 13, 7, 14] (by decide +kernel) (by decide +kernel)
set_option maxRecDepth 20000 in
theorem gX6_hope_X6_partOf : GoodIn wsX6_hope (va_wsS RX6 223 yX6_partOf wsX6_partOf) := goodIn_app (goodIn_of _ (by decide +kernel)) ggX6_hope_X6_partOf
theorem dX6_hope_0 : decode cX6_hope 0 = .ok (.iload_n 1, 1) := by decide +kernel
theorem dX6_hope_1 : decode cX6_hope 1 = .ok (.iconst 0, 1) := by decide +kernel
theorem dX6_hope_2 : decode cX6_hope 2 = .ok (.bipush 99, 2) := by decide +kernel
theorem dX6_hope_4 : decode cX6_hope 4 = .ok (.invokestatic 57, 3) := by decide +kernel
theorem dX6_hope_7 : decode cX6_hope 7 = .ok (.ifCond .eq 12, 3) := by decide +kernel
theorem dX6_hope_10 : decode cX6_hope 10 = .ok (.iload_n 2, 1) := by decide +kernel
theorem dX6_hope_11 : decode cX6_hope 11 = .ok (.iconst 0, 1) := by decide +kernel
theorem dX6_hope_12 : decode cX6_hope 12 = .ok (.iconst 1, 1) := by decide +kernel
theorem dX6_hope_13 : decode cX6_hope 13 = .ok (.invokestatic 57, 3) := by decide +kernel
theorem dX6_hope_16 : decode cX6_hope 16 = .ok (.ifCond .ne 7, 3) := by decide +kernel
theorem dX6_hope_19 : decode cX6_hope 19 = .ok (.ldc2_w 215, 3) := by decide +kernel
theorem dX6_hope_22 : decode cX6_hope 22 = .ok (.lreturn, 1) := by decide +kernel
theorem dX6_hope_23 : decode cX6_hope 23 = .ok (.iload_n 1, 1) := by decide +kernel
theorem dX6_hope_24 : decode cX6_hope 24 = .ok (.i2l, 1) := by decide +kernel
theorem dX6_hope_25 : decode cX6_hope 25 = .ok (.aload_n 0, 1) := by decide +kernel
theorem dX6_hope_26 : decode cX6_hope 26 = .ok (.getfield 10, 3) := by decide +kernel
theorem dX6_hope_29 : decode cX6_hope 29 = .ok (.getfield 94, 3) := by decide +kernel
theorem dX6_hope_32 : decode cX6_hope 32 = .ok (.iconst 3, 1) := by decide +kernel
theorem dX6_hope_33 : decode cX6_hope 33 = .ok (.iaload, 1) := by decide +kernel
theorem dX6_hope_34 : decode cX6_hope 34 = .ok (.i2l, 1) := by decide +kernel
theorem dX6_hope_35 : decode cX6_hope 35 = .ok (.lmul, 1) := by decide +kernel
theorem dX6_hope_36 : decode cX6_hope 36 = .ok (.ldc2_w 217, 3) := by decide +kernel
theorem dX6_hope_39 : decode cX6_hope 39 = .ok (.iload_n 2, 1) := by decide +kernel
theorem dX6_hope_40 : decode cX6_hope 40 = .ok (.invokestatic 223, 3) := by decide +kernel
theorem dX6_hope_43 : decode cX6_hope 43 = .ok (.lreturn, 1) := by decide +kernel
theorem dX6_waysToChoose_0 : decode cX6_waysToChoose 0 = .ok (.lconst 1, 1) := by decide +kernel
theorem dX6_waysToChoose_1 : decode cX6_waysToChoose 1 = .ok (.lstore_n 2, 1) := by decide +kernel
theorem dX6_waysToChoose_2 : decode cX6_waysToChoose 2 = .ok (.iconst 0, 1) := by decide +kernel
theorem dX6_waysToChoose_3 : decode cX6_waysToChoose 3 = .ok (.istore 4, 2) := by decide +kernel
theorem dX6_waysToChoose_5 : decode cX6_waysToChoose 5 = .ok (.iload 4, 2) := by decide +kernel
theorem dX6_waysToChoose_7 : decode cX6_waysToChoose 7 = .ok (.iload_n 1, 1) := by decide +kernel
theorem dX6_waysToChoose_8 : decode cX6_waysToChoose 8 = .ok (.if_icmp .ge 23, 3) := by decide +kernel
theorem dX6_waysToChoose_11 : decode cX6_waysToChoose 11 = .ok (.lload_n 2, 1) := by decide +kernel
theorem dX6_waysToChoose_12 : decode cX6_waysToChoose 12 = .ok (.iload_n 0, 1) := by decide +kernel
theorem dX6_waysToChoose_13 : decode cX6_waysToChoose 13 = .ok (.iload 4, 2) := by decide +kernel
theorem dX6_waysToChoose_15 : decode cX6_waysToChoose 15 = .ok (.isub, 1) := by decide +kernel
theorem dX6_waysToChoose_16 : decode cX6_waysToChoose 16 = .ok (.i2l, 1) := by decide +kernel
theorem dX6_waysToChoose_17 : decode cX6_waysToChoose 17 = .ok (.lmul, 1) := by decide +kernel
theorem dX6_waysToChoose_18 : decode cX6_waysToChoose 18 = .ok (.iload 4, 2) := by decide +kernel
theorem dX6_waysToChoose_20 : decode cX6_waysToChoose 20 = .ok (.iconst 1, 1) := by decide +kernel
theorem dX6_waysToChoose_21 : decode cX6_waysToChoose 21 = .ok (.iadd, 1) := by decide +kernel
theorem dX6_waysToChoose_22 : decode cX6_waysToChoose 22 = .ok (.i2l, 1) := by decide +kernel
theorem dX6_waysToChoose_23 : decode cX6_waysToChoose 23 = .ok (.ldiv, 1) := by decide +kernel
theorem dX6_waysToChoose_24 : decode cX6_waysToChoose 24 = .ok (.lstore_n 2, 1) := by decide +kernel
theorem dX6_waysToChoose_25 : decode cX6_waysToChoose 25 = .ok (.iinc 4 1, 3) := by decide +kernel
theorem dX6_waysToChoose_28 : decode cX6_waysToChoose 28 = .ok (.goto (-23), 3) := by decide +kernel
theorem dX6_waysToChoose_31 : decode cX6_waysToChoose 31 = .ok (.lload_n 2, 1) := by decide +kernel
theorem dX6_waysToChoose_32 : decode cX6_waysToChoose 32 = .ok (.lreturn, 1) := by decide +kernel
set_option maxRecDepth 20000 in
theorem ggX6_partOf_X6_commonDivisor : GoodIn wsX6_partOf wsX6_commonDivisor := goodIn_r _ [4] (by decide +kernel) (by decide +kernel)
set_option maxRecDepth 20000 in
theorem gX6_partOf_X6_commonDivisor : GoodIn wsX6_partOf (va_wsS RX6 227 yX6_commonDivisor wsX6_commonDivisor) := goodIn_app (goodIn_of _ (by decide +kernel)) ggX6_partOf_X6_commonDivisor
theorem dX6_partOf_0 : decode cX6_partOf 0 = .ok (.lload_n 0, 1) := by decide +kernel
theorem dX6_partOf_1 : decode cX6_partOf 1 = .ok (.lload_n 2, 1) := by decide +kernel
theorem dX6_partOf_2 : decode cX6_partOf 2 = .ok (.invokestatic 227, 3) := by decide +kernel
theorem dX6_partOf_5 : decode cX6_partOf 5 = .ok (.lstore 5, 2) := by decide +kernel
theorem dX6_partOf_7 : decode cX6_partOf 7 = .ok (.lload 5, 2) := by decide +kernel
theorem dX6_partOf_9 : decode cX6_partOf 9 = .ok (.lconst 0, 1) := by decide +kernel
theorem dX6_partOf_10 : decode cX6_partOf 10 = .ok (.lcmp, 1) := by decide +kernel
theorem dX6_partOf_11 : decode cX6_partOf 11 = .ok (.ifCond .ne 5, 3) := by decide +kernel
theorem dX6_partOf_14 : decode cX6_partOf 14 = .ok (.lconst 0, 1) := by decide +kernel
theorem dX6_partOf_15 : decode cX6_partOf 15 = .ok (.lreturn, 1) := by decide +kernel
theorem dX6_partOf_16 : decode cX6_partOf 16 = .ok (.iload 4, 2) := by decide +kernel
theorem dX6_partOf_18 : decode cX6_partOf 18 = .ok (.ifCond .ne 10, 3) := by decide +kernel
theorem dX6_partOf_21 : decode cX6_partOf 21 = .ok (.lload_n 0, 1) := by decide +kernel
theorem dX6_partOf_22 : decode cX6_partOf 22 = .ok (.lload 5, 2) := by decide +kernel
theorem dX6_partOf_24 : decode cX6_partOf 24 = .ok (.ldiv, 1) := by decide +kernel
theorem dX6_partOf_25 : decode cX6_partOf 25 = .ok (.goto 7, 3) := by decide +kernel
theorem dX6_partOf_28 : decode cX6_partOf 28 = .ok (.lload_n 2, 1) := by decide +kernel
theorem dX6_partOf_29 : decode cX6_partOf 29 = .ok (.lload 5, 2) := by decide +kernel
theorem dX6_partOf_31 : decode cX6_partOf 31 = .ok (.ldiv, 1) := by decide +kernel
theorem dX6_partOf_32 : decode cX6_partOf 32 = .ok (.lreturn, 1) := by decide +kernel
theorem dX6_commonDivisor_0 : decode cX6_commonDivisor 0 = .ok (.lload_n 0, 1) := by decide +kernel
theorem dX6_commonDivisor_1 : decode cX6_commonDivisor 1 = .ok (.lstore 4, 2) := by decide +kernel
theorem dX6_commonDivisor_3 : decode cX6_commonDivisor 3 = .ok (.lload_n 2, 1) := by decide +kernel
theorem dX6_commonDivisor_4 : decode cX6_commonDivisor 4 = .ok (.lstore 6, 2) := by decide +kernel
theorem dX6_commonDivisor_6 : decode cX6_commonDivisor 6 = .ok (.iconst 0, 1) := by decide +kernel
theorem dX6_commonDivisor_7 : decode cX6_commonDivisor 7 = .ok (.istore 8, 2) := by decide +kernel
theorem dX6_commonDivisor_9 : decode cX6_commonDivisor 9 = .ok (.iload 8, 2) := by decide +kernel
theorem dX6_commonDivisor_11 : decode cX6_commonDivisor 11 = .ok (.bipush 100, 2) := by decide +kernel
theorem dX6_commonDivisor_13 : decode cX6_commonDivisor 13 = .ok (.if_icmp .ge 31, 3) := by decide +kernel
theorem dX6_commonDivisor_16 : decode cX6_commonDivisor 16 = .ok (.lload 6, 2) := by decide +kernel
theorem dX6_commonDivisor_18 : decode cX6_commonDivisor 18 = .ok (.lconst 0, 1) := by decide +kernel
theorem dX6_commonDivisor_19 : decode cX6_commonDivisor 19 = .ok (.lcmp, 1) := by decide +kernel
theorem dX6_commonDivisor_20 : decode cX6_commonDivisor 20 = .ok (.ifCond .eq 24, 3) := by decide +kernel
theorem dX6_commonDivisor_23 : decode cX6_commonDivisor 23 = .ok (.lload 4, 2) := by decide +kernel
theorem dX6_commonDivisor_25 : decode cX6_commonDivisor 25 = .ok (.lload 6, 2) := by decide +kernel
theorem dX6_commonDivisor_27 : decode cX6_commonDivisor 27 = .ok (.lrem, 1) := by decide +kernel
theorem dX6_commonDivisor_28 : decode cX6_commonDivisor 28 = .ok (.lstore 9, 2) := by decide +kernel
theorem dX6_commonDivisor_30 : decode cX6_commonDivisor 30 = .ok (.lload 6, 2) := by decide +kernel
theorem dX6_commonDivisor_32 : decode cX6_commonDivisor 32 = .ok (.lstore 4, 2) := by decide +kernel
theorem dX6_commonDivisor_34 : decode cX6_commonDivisor 34 = .ok (.lload 9, 2) := by decide +kernel
theorem dX6_commonDivisor_36 : decode cX6_commonDivisor 36 = .ok (.lstore 6, 2) := by decide +kernel
theorem dX6_commonDivisor_38 : decode cX6_commonDivisor 38 = .ok (.iinc 8 1, 3) := by decide +kernel
theorem dX6_commonDivisor_41 : decode cX6_commonDivisor 41 = .ok (.goto (-32), 3) := by decide +kernel
theorem dX6_commonDivisor_44 : decode cX6_commonDivisor 44 = .ok (.lload 4, 2) := by decide +kernel
theorem dX6_commonDivisor_46 : decode cX6_commonDivisor 46 = .ok (.lreturn, 1) := by decide +kernel
set_option maxRecDepth 20000 in
theorem ggX6_prove_X4_has : GoodIn wsX6_prove wsX4_has := goodIn_r _ [10, 11, 12, 13, 14, 98, 99, 100, 101, 102, 103, 104, 105, 106, 107] (by decide +kernel) (by decide +kernel)
set_option maxRecDepth 20000 in
theorem gX6_prove_X4_has : GoodIn wsX6_prove (wsV RX6 101 RX4 yX4_has wsX4_has) := goodIn_app (goodIn_of _ (by decide +kernel)) ggX6_prove_X4_has
set_option maxRecDepth 20000 in
theorem ggX6_prove_X6_within : GoodIn wsX6_prove wsX6_within := goodIn_r _ [14] (by decide +kernel) (by decide +kernel)
set_option maxRecDepth 20000 in
theorem gX6_prove_X6_within : GoodIn wsX6_prove (va_wsS RX6 57 yX6_within wsX6_within) := goodIn_app (goodIn_of _ (by decide +kernel)) ggX6_prove_X6_within
set_option maxRecDepth 20000 in
theorem ggX6_prove_X4_copyFrom : GoodIn wsX6_prove wsX4_copyFrom := goodIn_r _ [19, 20, 21, 22, 23, 24, 25, 26, 27, 28, 29, 11, 30, 31, 32, 98, 99, 100, 101, 102, 103, 104, 105, 106, 107] (by decide +kernel) (by decide +kernel)
set_option maxRecDepth 20000 in
theorem gX6_prove_X4_copyFrom : GoodIn wsX6_prove (wsV RX6 82 RX4 yX4_copyFrom wsX4_copyFrom) := goodIn_app (goodIn_of _ (by decide +kernel)) ggX6_prove_X4_copyFrom
set_option maxRecDepth 20000 in
theorem ggX6_prove_X4_serve : GoodIn wsX6_prove wsX4_serve := goodIn_r _ [36, 11, 27, 20, 30, 37, 38, 39, 9, 40, 29, 41, 42, 43, 44, 25, 26, 45, 46, 47, 48, 31, 49, 13, 50, 51, 52, 53, 54, 55, 56, 57, 58, 59, 60, 61, 62, 63, 64, 65, 66, 67, 68, 69, 70, 71, 28, 72, 73, 74, 75, 76, 77, 78, 79, 98, 99, 100, 101, 102, 103, 104, 105, 106, 107] (by decide +kernel) (by decide +kernel)
set_option maxRecDepth 20000 in
theorem gX6_prove_X4_serve : GoodIn wsX6_prove (wsV RX6 171 RX4 yX4_serve wsX4_serve) := goodIn_app (goodIn_of _ (by decide +kernel)) ggX6_prove_X4_serve
set_option maxRecDepth 20000 in
theorem ggX6_prove_X6_triedCell : GoodIn wsX6_prove wsX6_triedCell := goodIn_r _ [83, 2, 84, 85, 86, 87, 88, 89, 90, 91, 92, 93, 94, 95, 98, 99, 100, 101, 102, 103, 104, 105, 106, 107] (by decide +kernel) (by decide +kernel)
set_option maxRecDepth 20000 in
theorem gX6_prove_X6_triedCell : GoodIn wsX6_prove (wsV RX6 234 RX6 yX6_triedCell wsX6_triedCell) := goodIn_app (goodIn_of _ (by decide +kernel)) ggX6_prove_X6_triedCell
theorem dX6_prove_0 : decode cX6_prove 0 = .ok (.aload_n 0, 1) := by decide +kernel
theorem dX6_prove_1 : decode cX6_prove 1 = .ok (.getfield 10, 3) := by decide +kernel
theorem dX6_prove_4 : decode cX6_prove 4 = .ok (.iload_n 1, 1) := by decide +kernel
theorem dX6_prove_5 : decode cX6_prove 5 = .ok (.invokevirtual 101, 3) := by decide +kernel
theorem dX6_prove_8 : decode cX6_prove 8 = .ok (.ifCond .eq 13, 3) := by decide +kernel
theorem dX6_prove_11 : decode cX6_prove 11 = .ok (.iload_n 2, 1) := by decide +kernel
theorem dX6_prove_12 : decode cX6_prove 12 = .ok (.iconst 1, 1) := by decide +kernel
theorem dX6_prove_13 : decode cX6_prove 13 = .ok (.bipush 10, 2) := by decide +kernel
theorem dX6_prove_15 : decode cX6_prove 15 = .ok (.invokestatic 57, 3) := by decide +kernel
theorem dX6_prove_18 : decode cX6_prove 18 = .ok (.ifCond .ne 5, 3) := by decide +kernel
theorem dX6_prove_21 : decode cX6_prove 21 = .ok (.iconst (-1), 1) := by decide +kernel
theorem dX6_prove_22 : decode cX6_prove 22 = .ok (.ireturn, 1) := by decide +kernel
theorem dX6_prove_23 : decode cX6_prove 23 = .ok (.aload_n 0, 1) := by decide +kernel
theorem dX6_prove_24 : decode cX6_prove 24 = .ok (.getfield 16, 3) := by decide +kernel
theorem dX6_prove_27 : decode cX6_prove 27 = .ok (.aload_n 0, 1) := by decide +kernel
theorem dX6_prove_28 : decode cX6_prove 28 = .ok (.getfield 10, 3) := by decide +kernel
theorem dX6_prove_31 : decode cX6_prove 31 = .ok (.invokevirtual 82, 3) := by decide +kernel
theorem dX6_prove_34 : decode cX6_prove 34 = .ok (.iconst 0, 1) := by decide +kernel
theorem dX6_prove_35 : decode cX6_prove 35 = .ok (.istore_n 3, 1) := by decide +kernel
theorem dX6_prove_36 : decode cX6_prove 36 = .ok (.iload_n 3, 1) := by decide +kernel
theorem dX6_prove_37 : decode cX6_prove 37 = .ok (.iload_n 2, 1) := by decide +kernel
theorem dX6_prove_38 : decode cX6_prove 38 = .ok (.if_icmp .ge 52, 3) := by decide +kernel
theorem dX6_prove_41 : decode cX6_prove 41 = .ok (.aload_n 0, 1) := by decide +kernel
theorem dX6_prove_42 : decode cX6_prove 42 = .ok (.getfield 16, 3) := by decide +kernel
theorem dX6_prove_45 : decode cX6_prove 45 = .ok (.invokevirtual 171, 3) := by decide +kernel
theorem dX6_prove_48 : decode cX6_prove 48 = .ok (.iconst 0, 1) := by decide +kernel
theorem dX6_prove_49 : decode cX6_prove 49 = .ok (.istore 4, 2) := by decide +kernel
theorem dX6_prove_51 : decode cX6_prove 51 = .ok (.iload 4, 2) := by decide +kernel
theorem dX6_prove_53 : decode cX6_prove 53 = .ok (.iconst 3, 1) := by decide +kernel
theorem dX6_prove_54 : decode cX6_prove 54 = .ok (.if_icmp .ge 30, 3) := by decide +kernel
theorem dX6_prove_57 : decode cX6_prove 57 = .ok (.aload_n 0, 1) := by decide +kernel
theorem dX6_prove_58 : decode cX6_prove 58 = .ok (.getfield 32, 3) := by decide +kernel
theorem dX6_prove_61 : decode cX6_prove 61 = .ok (.getfield 231, 3) := by decide +kernel
theorem dX6_prove_64 : decode cX6_prove 64 = .ok (.iload_n 3, 1) := by decide +kernel
theorem dX6_prove_65 : decode cX6_prove 65 = .ok (.iconst 3, 1) := by decide +kernel
theorem dX6_prove_66 : decode cX6_prove 66 = .ok (.imul, 1) := by decide +kernel
theorem dX6_prove_67 : decode cX6_prove 67 = .ok (.iload 4, 2) := by decide +kernel
theorem dX6_prove_69 : decode cX6_prove 69 = .ok (.iadd, 1) := by decide +kernel
theorem dX6_prove_70 : decode cX6_prove 70 = .ok (.aload_n 0, 1) := by decide +kernel
theorem dX6_prove_71 : decode cX6_prove 71 = .ok (.iload_n 1, 1) := by decide +kernel
theorem dX6_prove_72 : decode cX6_prove 72 = .ok (.iload 4, 2) := by decide +kernel
theorem dX6_prove_74 : decode cX6_prove 74 = .ok (.invokevirtual 234, 3) := by decide +kernel
theorem dX6_prove_77 : decode cX6_prove 77 = .ok (.iastore, 1) := by decide +kernel
theorem dX6_prove_78 : decode cX6_prove 78 = .ok (.iinc 4 1, 3) := by decide +kernel
theorem dX6_prove_81 : decode cX6_prove 81 = .ok (.goto (-30), 3) := by decide +kernel
theorem dX6_prove_84 : decode cX6_prove 84 = .ok (.iinc 3 1, 3) := by decide +kernel
theorem dX6_prove_87 : decode cX6_prove 87 = .ok (.goto (-51), 3) := by decide +kernel
theorem dX6_prove_90 : decode cX6_prove 90 = .ok (.aload_n 0, 1) := by decide +kernel
theorem dX6_prove_91 : decode cX6_prove 91 = .ok (.getfield 32, 3) := by decide +kernel
theorem dX6_prove_94 : decode cX6_prove 94 = .ok (.iload_n 2, 1) := by decide +kernel
theorem dX6_prove_95 : decode cX6_prove 95 = .ok (.putfield 86, 3) := by decide +kernel
theorem dX6_prove_98 : decode cX6_prove 98 = .ok (.iload_n 2, 1) := by decide +kernel
theorem dX6_prove_99 : decode cX6_prove 99 = .ok (.ireturn, 1) := by decide +kernel
set_option maxRecDepth 20000 in
theorem ggX6_row_X0_has : GoodIn wsX6_row wsX0_has := goodIn_r _ [7, 8, 9, 10, 11, 21, 22] (by decide +kernel) (by decide +kernel)
set_option maxRecDepth 20000 in
theorem gX6_row_X0_has : GoodIn wsX6_row (wsV RX6 237 RX0 yX0_has wsX0_has) := goodIn_app (goodIn_of _ (by decide +kernel)) ggX6_row_X0_has
theorem dX6_row_0 : decode cX6_row 0 = .ok (.aload_n 0, 1) := by decide +kernel
theorem dX6_row_1 : decode cX6_row 1 = .ok (.getfield 32, 3) := by decide +kernel
theorem dX6_row_4 : decode cX6_row 4 = .ok (.iload_n 1, 1) := by decide +kernel
theorem dX6_row_5 : decode cX6_row 5 = .ok (.iload_n 2, 1) := by decide +kernel
theorem dX6_row_6 : decode cX6_row 6 = .ok (.invokevirtual 237, 3) := by decide +kernel
theorem dX6_row_9 : decode cX6_row 9 = .ok (.ifCond .eq 19, 3) := by decide +kernel
theorem dX6_row_12 : decode cX6_row 12 = .ok (.aload_n 0, 1) := by decide +kernel
theorem dX6_row_13 : decode cX6_row 13 = .ok (.getfield 32, 3) := by decide +kernel
theorem dX6_row_16 : decode cX6_row 16 = .ok (.getfield 231, 3) := by decide +kernel
theorem dX6_row_19 : decode cX6_row 19 = .ok (.iload_n 1, 1) := by decide +kernel
theorem dX6_row_20 : decode cX6_row 20 = .ok (.iconst 3, 1) := by decide +kernel
theorem dX6_row_21 : decode cX6_row 21 = .ok (.imul, 1) := by decide +kernel
theorem dX6_row_22 : decode cX6_row 22 = .ok (.iload_n 2, 1) := by decide +kernel
theorem dX6_row_23 : decode cX6_row 23 = .ok (.iadd, 1) := by decide +kernel
theorem dX6_row_24 : decode cX6_row 24 = .ok (.iaload, 1) := by decide +kernel
theorem dX6_row_25 : decode cX6_row 25 = .ok (.goto 5, 3) := by decide +kernel
theorem dX6_row_28 : decode cX6_row 28 = .ok (.bipush (-9), 2) := by decide +kernel
theorem dX6_row_30 : decode cX6_row 30 = .ok (.ireturn, 1) := by decide +kernel
set_option maxRecDepth 20000 in
theorem ggX6_alterRow_X0_has : GoodIn wsX6_alterRow wsX0_has := goodIn_r _ [7, 8, 9, 10, 11, 21, 22] (by decide +kernel) (by decide +kernel)
set_option maxRecDepth 20000 in
theorem gX6_alterRow_X0_has : GoodIn wsX6_alterRow (wsV RX6 237 RX0 yX0_has wsX0_has) := goodIn_app (goodIn_of _ (by decide +kernel)) ggX6_alterRow_X0_has
theorem dX6_alterRow_0 : decode cX6_alterRow 0 = .ok (.aload_n 0, 1) := by decide +kernel
theorem dX6_alterRow_1 : decode cX6_alterRow 1 = .ok (.getfield 32, 3) := by decide +kernel
theorem dX6_alterRow_4 : decode cX6_alterRow 4 = .ok (.iload_n 1, 1) := by decide +kernel
theorem dX6_alterRow_5 : decode cX6_alterRow 5 = .ok (.iload_n 2, 1) := by decide +kernel
theorem dX6_alterRow_6 : decode cX6_alterRow 6 = .ok (.invokevirtual 237, 3) := by decide +kernel
theorem dX6_alterRow_9 : decode cX6_alterRow 9 = .ok (.ifCond .ne 6, 3) := by decide +kernel
theorem dX6_alterRow_12 : decode cX6_alterRow 12 = .ok (.bipush (-9), 2) := by decide +kernel
theorem dX6_alterRow_14 : decode cX6_alterRow 14 = .ok (.ireturn, 1) := by decide +kernel
theorem dX6_alterRow_15 : decode cX6_alterRow 15 = .ok (.aload_n 0, 1) := by decide +kernel
theorem dX6_alterRow_16 : decode cX6_alterRow 16 = .ok (.getfield 32, 3) := by decide +kernel
theorem dX6_alterRow_19 : decode cX6_alterRow 19 = .ok (.getfield 231, 3) := by decide +kernel
theorem dX6_alterRow_22 : decode cX6_alterRow 22 = .ok (.iload_n 1, 1) := by decide +kernel
theorem dX6_alterRow_23 : decode cX6_alterRow 23 = .ok (.iconst 3, 1) := by decide +kernel
theorem dX6_alterRow_24 : decode cX6_alterRow 24 = .ok (.imul, 1) := by decide +kernel
theorem dX6_alterRow_25 : decode cX6_alterRow 25 = .ok (.iload_n 2, 1) := by decide +kernel
theorem dX6_alterRow_26 : decode cX6_alterRow 26 = .ok (.iadd, 1) := by decide +kernel
theorem dX6_alterRow_27 : decode cX6_alterRow 27 = .ok (.iaload, 1) := by decide +kernel
theorem dX6_alterRow_28 : decode cX6_alterRow 28 = .ok (.istore 4, 2) := by decide +kernel
theorem dX6_alterRow_30 : decode cX6_alterRow 30 = .ok (.aload_n 0, 1) := by decide +kernel
theorem dX6_alterRow_31 : decode cX6_alterRow 31 = .ok (.getfield 32, 3) := by decide +kernel
theorem dX6_alterRow_34 : decode cX6_alterRow 34 = .ok (.getfield 231, 3) := by decide +kernel
theorem dX6_alterRow_37 : decode cX6_alterRow 37 = .ok (.iload_n 1, 1) := by decide +kernel
theorem dX6_alterRow_38 : decode cX6_alterRow 38 = .ok (.iconst 3, 1) := by decide +kernel
theorem dX6_alterRow_39 : decode cX6_alterRow 39 = .ok (.imul, 1) := by decide +kernel
theorem dX6_alterRow_40 : decode cX6_alterRow 40 = .ok (.iload_n 2, 1) := by decide +kernel
theorem dX6_alterRow_41 : decode cX6_alterRow 41 = .ok (.iadd, 1) := by decide +kernel
theorem dX6_alterRow_42 : decode cX6_alterRow 42 = .ok (.iload_n 3, 1) := by decide +kernel
theorem dX6_alterRow_43 : decode cX6_alterRow 43 = .ok (.iastore, 1) := by decide +kernel
theorem dX6_alterRow_44 : decode cX6_alterRow 44 = .ok (.iload 4, 2) := by decide +kernel
theorem dX6_alterRow_46 : decode cX6_alterRow 46 = .ok (.ireturn, 1) := by decide +kernel
set_option maxRecDepth 20000 in
theorem ggX6_judge_X4_has : GoodIn wsX6_judge wsX4_has := goodIn_r _ [10, 11, 12, 13, 14, 97, 98, 99, 100, 101, 102, 103, 104, 105, 106] (by decide +kernel) (by decide +kernel)
set_option maxRecDepth 20000 in
theorem gX6_judge_X4_has : GoodIn wsX6_judge (wsV RX6 101 RX4 yX4_has wsX4_has) := goodIn_app (goodIn_of _ (by decide +kernel)) ggX6_judge_X4_has
set_option maxRecDepth 20000 in
theorem ggX6_judge_X4_copyFrom : GoodIn wsX6_judge wsX4_copyFrom := goodIn_r _ [18, 19, 20, 21, 22, 23, 24, 25, 26, 27, 28, 11, 29, 30, 31, 97, 98, 99, 100, 101, 102, 103, 104, 105, 106] (by decide +kernel) (by decide +kernel)
set_option maxRecDepth 20000 in
theorem gX6_judge_X4_copyFrom : GoodIn wsX6_judge (wsV RX6 82 RX4 yX4_copyFrom wsX4_copyFrom) := goodIn_app (goodIn_of _ (by decide +kernel)) ggX6_judge_X4_copyFrom
set_option maxRecDepth 20000 in
theorem ggX6_judge_X4_serve : GoodIn wsX6_judge wsX4_serve := goodIn_r _ [35, 11, 26, 19, 29, 36, 37, 38, 9, 39, 28, 40, 41, 42, 43, 24, 25, 44, 45, 46, 47, 30, 48, 13, 49, 50, 51, 52, 53, 54, 55, 56, 57, 58, 59, 60, 61, 62, 63, 64, 65, 66, 67, 68, 69, 70, 27, 71, 72, 73, 74, 75, 76, 77, 78, 97, 98, 99, 100, 101, 102, 103, 104, 105, 106] (by decide +kernel) (by decide +kernel)
set_option maxRecDepth 20000 in
theorem gX6_judge_X4_serve : GoodIn wsX6_judge (wsV RX6 171 RX4 yX4_serve wsX4_serve) := goodIn_app (goodIn_of _ (by decide +kernel)) ggX6_judge_X4_serve
set_option maxRecDepth 20000 in
theorem ggX6_judge_X6_triedCell : GoodIn wsX6_judge wsX6_triedCell := goodIn_r _ [82, 2, 83, 84, 85, 86, 87, 88, 89, 90, 91, 92, 93, 94, 97, 98, 99, 100, 101, 102, 103, 104, 105, 106] (by decide +kernel) (by decide +kernel)
set_option maxRecDepth 20000 in
theorem gX6_judge_X6_triedCell : GoodIn wsX6_judge (wsV RX6 234 RX6 yX6_triedCell wsX6_triedCell) := goodIn_app (goodIn_of _ (by decide +kernel)) ggX6_judge_X6_triedCell
theorem dX6_judge_0 : decode cX6_judge 0 = .ok (.aload_n 0, 1) := by decide +kernel
theorem dX6_judge_1 : decode cX6_judge 1 = .ok (.getfield 10, 3) := by decide +kernel
theorem dX6_judge_4 : decode cX6_judge 4 = .ok (.iload_n 1, 1) := by decide +kernel
theorem dX6_judge_5 : decode cX6_judge 5 = .ok (.invokevirtual 101, 3) := by decide +kernel
theorem dX6_judge_8 : decode cX6_judge 8 = .ok (.ifCond .ne 5, 3) := by decide +kernel
theorem dX6_judge_11 : decode cX6_judge 11 = .ok (.iconst (-1), 1) := by decide +kernel
theorem dX6_judge_12 : decode cX6_judge 12 = .ok (.ireturn, 1) := by decide +kernel
theorem dX6_judge_13 : decode cX6_judge 13 = .ok (.aload_n 0, 1) := by decide +kernel
theorem dX6_judge_14 : decode cX6_judge 14 = .ok (.getfield 16, 3) := by decide +kernel
theorem dX6_judge_17 : decode cX6_judge 17 = .ok (.aload_n 0, 1) := by decide +kernel
theorem dX6_judge_18 : decode cX6_judge 18 = .ok (.getfield 10, 3) := by decide +kernel
theorem dX6_judge_21 : decode cX6_judge 21 = .ok (.invokevirtual 82, 3) := by decide +kernel
theorem dX6_judge_24 : decode cX6_judge 24 = .ok (.iconst 0, 1) := by decide +kernel
theorem dX6_judge_25 : decode cX6_judge 25 = .ok (.istore_n 2, 1) := by decide +kernel
theorem dX6_judge_26 : decode cX6_judge 26 = .ok (.iload_n 2, 1) := by decide +kernel
theorem dX6_judge_27 : decode cX6_judge 27 = .ok (.aload_n 0, 1) := by decide +kernel
theorem dX6_judge_28 : decode cX6_judge 28 = .ok (.getfield 32, 3) := by decide +kernel
theorem dX6_judge_31 : decode cX6_judge 31 = .ok (.getfield 86, 3) := by decide +kernel
theorem dX6_judge_34 : decode cX6_judge 34 = .ok (.if_icmp .ge 55, 3) := by decide +kernel
theorem dX6_judge_37 : decode cX6_judge 37 = .ok (.aload_n 0, 1) := by decide +kernel
theorem dX6_judge_38 : decode cX6_judge 38 = .ok (.getfield 16, 3) := by decide +kernel
theorem dX6_judge_41 : decode cX6_judge 41 = .ok (.invokevirtual 171, 3) := by decide +kernel
theorem dX6_judge_44 : decode cX6_judge 44 = .ok (.iconst 0, 1) := by decide +kernel
theorem dX6_judge_45 : decode cX6_judge 45 = .ok (.istore_n 3, 1) := by decide +kernel
theorem dX6_judge_46 : decode cX6_judge 46 = .ok (.iload_n 3, 1) := by decide +kernel
theorem dX6_judge_47 : decode cX6_judge 47 = .ok (.iconst 3, 1) := by decide +kernel
theorem dX6_judge_48 : decode cX6_judge 48 = .ok (.if_icmp .ge 35, 3) := by decide +kernel
theorem dX6_judge_51 : decode cX6_judge 51 = .ok (.aload_n 0, 1) := by decide +kernel
theorem dX6_judge_52 : decode cX6_judge 52 = .ok (.getfield 32, 3) := by decide +kernel
theorem dX6_judge_55 : decode cX6_judge 55 = .ok (.getfield 231, 3) := by decide +kernel
theorem dX6_judge_58 : decode cX6_judge 58 = .ok (.iload_n 2, 1) := by decide +kernel
theorem dX6_judge_59 : decode cX6_judge 59 = .ok (.iconst 3, 1) := by decide +kernel
theorem dX6_judge_60 : decode cX6_judge 60 = .ok (.imul, 1) := by decide +kernel
theorem dX6_judge_61 : decode cX6_judge 61 = .ok (.iload_n 3, 1) := by decide +kernel
theorem dX6_judge_62 : decode cX6_judge 62 = .ok (.iadd, 1) := by decide +kernel
theorem dX6_judge_63 : decode cX6_judge 63 = .ok (.iaload, 1) := by decide +kernel
theorem dX6_judge_64 : decode cX6_judge 64 = .ok (.aload_n 0, 1) := by decide +kernel
theorem dX6_judge_65 : decode cX6_judge 65 = .ok (.iload_n 1, 1) := by decide +kernel
theorem dX6_judge_66 : decode cX6_judge 66 = .ok (.iload_n 3, 1) := by decide +kernel
theorem dX6_judge_67 : decode cX6_judge 67 = .ok (.invokevirtual 234, 3) := by decide +kernel
theorem dX6_judge_70 : decode cX6_judge 70 = .ok (.if_icmp .eq 7, 3) := by decide +kernel
theorem dX6_judge_73 : decode cX6_judge 73 = .ok (.iload_n 2, 1) := by decide +kernel
theorem dX6_judge_74 : decode cX6_judge 74 = .ok (.iconst 1, 1) := by decide +kernel
theorem dX6_judge_75 : decode cX6_judge 75 = .ok (.iadd, 1) := by decide +kernel
theorem dX6_judge_76 : decode cX6_judge 76 = .ok (.ireturn, 1) := by decide +kernel
theorem dX6_judge_77 : decode cX6_judge 77 = .ok (.iinc 3 1, 3) := by decide +kernel
theorem dX6_judge_80 : decode cX6_judge 80 = .ok (.goto (-34), 3) := by decide +kernel
theorem dX6_judge_83 : decode cX6_judge 83 = .ok (.iinc 2 1, 3) := by decide +kernel
theorem dX6_judge_86 : decode cX6_judge 86 = .ok (.goto (-60), 3) := by decide +kernel
theorem dX6_judge_89 : decode cX6_judge 89 = .ok (.iconst 0, 1) := by decide +kernel
theorem dX6_judge_90 : decode cX6_judge 90 = .ok (.ireturn, 1) := by decide +kernel
theorem dX6_triedCell_0 : decode cX6_triedCell 0 = .ok (.iload_n 2, 1) := by decide +kernel
theorem dX6_triedCell_1 : decode cX6_triedCell 1 = .ok (.lookupswitch 47 #[(0, 27), (1, 37)], 27) := by decide +kernel
theorem dX6_triedCell_28 : decode cX6_triedCell 28 = .ok (.aload_n 0, 1) := by decide +kernel
theorem dX6_triedCell_29 : decode cX6_triedCell 29 = .ok (.getfield 16, 3) := by decide +kernel
theorem dX6_triedCell_32 : decode cX6_triedCell 32 = .ok (.getfield 111, 3) := by decide +kernel
theorem dX6_triedCell_35 : decode cX6_triedCell 35 = .ok (.iload_n 1, 1) := by decide +kernel
theorem dX6_triedCell_36 : decode cX6_triedCell 36 = .ok (.iaload, 1) := by decide +kernel
theorem dX6_triedCell_37 : decode cX6_triedCell 37 = .ok (.ireturn, 1) := by decide +kernel
theorem dX6_triedCell_38 : decode cX6_triedCell 38 = .ok (.aload_n 0, 1) := by decide +kernel
theorem dX6_triedCell_39 : decode cX6_triedCell 39 = .ok (.getfield 16, 3) := by decide +kernel
theorem dX6_triedCell_42 : decode cX6_triedCell 42 = .ok (.getfield 114, 3) := by decide +kernel
theorem dX6_triedCell_45 : decode cX6_triedCell 45 = .ok (.iload_n 1, 1) := by decide +kernel
theorem dX6_triedCell_46 : decode cX6_triedCell 46 = .ok (.iaload, 1) := by decide +kernel
theorem dX6_triedCell_47 : decode cX6_triedCell 47 = .ok (.ireturn, 1) := by decide +kernel
theorem dX6_triedCell_48 : decode cX6_triedCell 48 = .ok (.aload_n 0, 1) := by decide +kernel
theorem dX6_triedCell_49 : decode cX6_triedCell 49 = .ok (.getfield 16, 3) := by decide +kernel
theorem dX6_triedCell_52 : decode cX6_triedCell 52 = .ok (.getfield 140, 3) := by decide +kernel
theorem dX6_triedCell_55 : decode cX6_triedCell 55 = .ok (.ireturn, 1) := by decide +kernel
set_option maxRecDepth 20000 in
theorem ggX6_minds_X6_within : GoodIn wsX6_minds wsX6_within := goodIn_r _ [11] (by decide +kernel) (by decide +kernel)
set_option maxRecDepth 20000 in
theorem gX6_minds_X6_within : GoodIn wsX6_minds (va_wsS RX6 57 yX6_within wsX6_within) := goodIn_app (goodIn_of _ (by decide +kernel)) ggX6_minds_X6_within
set_option maxRecDepth 20000 in
theorem ggX6_minds_X4_has : GoodIn wsX6_minds wsX4_has := goodIn_r _ [16, 17, 9, 10, 11, 37, 38, 39, 40, 41, 42, 43, 44, 45, 46] (by decide +kernel) (by decide +kernel)
set_option maxRecDepth 20000 in
theorem gX6_minds_X4_has : GoodIn wsX6_minds (wsV RX6 101 RX4 yX4_has wsX4_has) := goodIn_app (goodIn_of _ (by decide +kernel)) ggX6_minds_X4_has
set_option maxRecDepth 20000 in
theorem ggX6_minds_X6_held : GoodIn wsX6_minds wsX6_held := goodIn_r _ [20, 21, 22, 23, 24, 25, 26, 27] (by decide +kernel) (by decide +kernel)
set_option maxRecDepth 20000 in
theorem gX6_minds_X6_held : GoodIn wsX6_minds (va_wsS RX6 240 yX6_held wsX6_held) := goodIn_app (goodIn_of _ (by decide +kernel)) ggX6_minds_X6_held
theorem dX6_minds_0 : decode cX6_minds 0 = .ok (.iload_n 1, 1) := by decide +kernel
theorem dX6_minds_1 : decode cX6_minds 1 = .ok (.iconst 0, 1) := by decide +kernel
theorem dX6_minds_2 : decode cX6_minds 2 = .ok (.iconst 3, 1) := by decide +kernel
theorem dX6_minds_3 : decode cX6_minds 3 = .ok (.invokestatic 57, 3) := by decide +kernel
theorem dX6_minds_6 : decode cX6_minds 6 = .ok (.ifCond .eq 39, 3) := by decide +kernel
theorem dX6_minds_9 : decode cX6_minds 9 = .ok (.aload_n 0, 1) := by decide +kernel
theorem dX6_minds_10 : decode cX6_minds 10 = .ok (.getfield 10, 3) := by decide +kernel
theorem dX6_minds_13 : decode cX6_minds 13 = .ok (.iload_n 3, 1) := by decide +kernel
theorem dX6_minds_14 : decode cX6_minds 14 = .ok (.invokevirtual 101, 3) := by decide +kernel
theorem dX6_minds_17 : decode cX6_minds 17 = .ok (.ifCond .eq 28, 3) := by decide +kernel
theorem dX6_minds_20 : decode cX6_minds 20 = .ok (.iload 4, 2) := by decide +kernel
theorem dX6_minds_22 : decode cX6_minds 22 = .ok (.iconst 0, 1) := by decide +kernel
theorem dX6_minds_23 : decode cX6_minds 23 = .ok (.bipush 8, 2) := by decide +kernel
theorem dX6_minds_25 : decode cX6_minds 25 = .ok (.invokestatic 57, 3) := by decide +kernel
theorem dX6_minds_28 : decode cX6_minds 28 = .ok (.ifCond .eq 17, 3) := by decide +kernel
theorem dX6_minds_31 : decode cX6_minds 31 = .ok (.iload_n 3, 1) := by decide +kernel
theorem dX6_minds_32 : decode cX6_minds 32 = .ok (.iload 4, 2) := by decide +kernel
theorem dX6_minds_34 : decode cX6_minds 34 = .ok (.iadd, 1) := by decide +kernel
theorem dX6_minds_35 : decode cX6_minds 35 = .ok (.aload_n 0, 1) := by decide +kernel
theorem dX6_minds_36 : decode cX6_minds 36 = .ok (.getfield 10, 3) := by decide +kernel
theorem dX6_minds_39 : decode cX6_minds 39 = .ok (.getfield 89, 3) := by decide +kernel
theorem dX6_minds_42 : decode cX6_minds 42 = .ok (.if_icmp .le 5, 3) := by decide +kernel
theorem dX6_minds_45 : decode cX6_minds 45 = .ok (.iconst (-1), 1) := by decide +kernel
theorem dX6_minds_46 : decode cX6_minds 46 = .ok (.ireturn, 1) := by decide +kernel
theorem dX6_minds_47 : decode cX6_minds 47 = .ok (.aload_n 0, 1) := by decide +kernel
theorem dX6_minds_48 : decode cX6_minds 48 = .ok (.getfield 38, 3) := by decide +kernel
theorem dX6_minds_51 : decode cX6_minds 51 = .ok (.iload_n 1, 1) := by decide +kernel
theorem dX6_minds_52 : decode cX6_minds 52 = .ok (.aaload, 1) := by decide +kernel
theorem dX6_minds_53 : decode cX6_minds 53 = .ok (.astore 5, 2) := by decide +kernel
theorem dX6_minds_55 : decode cX6_minds 55 = .ok (.aload 5, 2) := by decide +kernel
theorem dX6_minds_57 : decode cX6_minds 57 = .ok (.getfield 203, 3) := by decide +kernel
theorem dX6_minds_60 : decode cX6_minds 60 = .ok (.iconst (-1), 1) := by decide +kernel
theorem dX6_minds_61 : decode cX6_minds 61 = .ok (.if_icmp .ne 6, 3) := by decide +kernel
theorem dX6_minds_64 : decode cX6_minds 64 = .ok (.bipush (-11), 2) := by decide +kernel
theorem dX6_minds_66 : decode cX6_minds 66 = .ok (.ireturn, 1) := by decide +kernel
theorem dX6_minds_67 : decode cX6_minds 67 = .ok (.aload 5, 2) := by decide +kernel
theorem dX6_minds_69 : decode cX6_minds 69 = .ok (.getfield 203, 3) := by decide +kernel
theorem dX6_minds_72 : decode cX6_minds 72 = .ok (.ifCond .eq 6, 3) := by decide +kernel
theorem dX6_minds_75 : decode cX6_minds 75 = .ok (.bipush (-13), 2) := by decide +kernel
theorem dX6_minds_77 : decode cX6_minds 77 = .ok (.ireturn, 1) := by decide +kernel
theorem dX6_minds_78 : decode cX6_minds 78 = .ok (.iload_n 2, 1) := by decide +kernel
theorem dX6_minds_79 : decode cX6_minds 79 = .ok (.iconst 0, 1) := by decide +kernel
theorem dX6_minds_80 : decode cX6_minds 80 = .ok (.aload 5, 2) := by decide +kernel
theorem dX6_minds_82 : decode cX6_minds 82 = .ok (.getfield 210, 3) := by decide +kernel
theorem dX6_minds_85 : decode cX6_minds 85 = .ok (.invokestatic 57, 3) := by decide +kernel
theorem dX6_minds_88 : decode cX6_minds 88 = .ok (.ifCond .eq 15, 3) := by decide +kernel
theorem dX6_minds_91 : decode cX6_minds 91 = .ok (.iload_n 2, 1) := by decide +kernel
theorem dX6_minds_92 : decode cX6_minds 92 = .ok (.iload 4, 2) := by decide +kernel
theorem dX6_minds_94 : decode cX6_minds 94 = .ok (.iadd, 1) := by decide +kernel
theorem dX6_minds_95 : decode cX6_minds 95 = .ok (.aload 5, 2) := by decide +kernel
theorem dX6_minds_97 : decode cX6_minds 97 = .ok (.getfield 210, 3) := by decide +kernel
theorem dX6_minds_100 : decode cX6_minds 100 = .ok (.if_icmp .le 6, 3) := by decide +kernel
theorem dX6_minds_103 : decode cX6_minds 103 = .ok (.bipush (-12), 2) := by decide +kernel
theorem dX6_minds_105 : decode cX6_minds 105 = .ok (.ireturn, 1) := by decide +kernel
theorem dX6_minds_106 : decode cX6_minds 106 = .ok (.iconst 0, 1) := by decide +kernel
theorem dX6_minds_107 : decode cX6_minds 107 = .ok (.istore 6, 2) := by decide +kernel
theorem dX6_minds_109 : decode cX6_minds 109 = .ok (.iload 6, 2) := by decide +kernel
theorem dX6_minds_111 : decode cX6_minds 111 = .ok (.iload 4, 2) := by decide +kernel
theorem dX6_minds_113 : decode cX6_minds 113 = .ok (.if_icmp .ge 35, 3) := by decide +kernel
theorem dX6_minds_116 : decode cX6_minds 116 = .ok (.aload_n 0, 1) := by decide +kernel
theorem dX6_minds_117 : decode cX6_minds 117 = .ok (.getfield 10, 3) := by decide +kernel
theorem dX6_minds_120 : decode cX6_minds 120 = .ok (.getfield 111, 3) := by decide +kernel
theorem dX6_minds_123 : decode cX6_minds 123 = .ok (.iload_n 3, 1) := by decide +kernel
theorem dX6_minds_124 : decode cX6_minds 124 = .ok (.iload 6, 2) := by decide +kernel
theorem dX6_minds_126 : decode cX6_minds 126 = .ok (.iadd, 1) := by decide +kernel
theorem dX6_minds_127 : decode cX6_minds 127 = .ok (.aload 5, 2) := by decide +kernel
theorem dX6_minds_129 : decode cX6_minds 129 = .ok (.getfield 211, 3) := by decide +kernel
theorem dX6_minds_132 : decode cX6_minds 132 = .ok (.iload_n 2, 1) := by decide +kernel
theorem dX6_minds_133 : decode cX6_minds 133 = .ok (.iload 6, 2) := by decide +kernel
theorem dX6_minds_135 : decode cX6_minds 135 = .ok (.iadd, 1) := by decide +kernel
theorem dX6_minds_136 : decode cX6_minds 136 = .ok (.laload, 1) := by decide +kernel
theorem dX6_minds_137 : decode cX6_minds 137 = .ok (.l2i, 1) := by decide +kernel
theorem dX6_minds_138 : decode cX6_minds 138 = .ok (.invokestatic 240, 3) := by decide +kernel
theorem dX6_minds_141 : decode cX6_minds 141 = .ok (.iastore, 1) := by decide +kernel
theorem dX6_minds_142 : decode cX6_minds 142 = .ok (.iinc 6 1, 3) := by decide +kernel
theorem dX6_minds_145 : decode cX6_minds 145 = .ok (.goto (-36), 3) := by decide +kernel
theorem dX6_minds_148 : decode cX6_minds 148 = .ok (.iload 4, 2) := by decide +kernel
theorem dX6_minds_150 : decode cX6_minds 150 = .ok (.ireturn, 1) := by decide +kernel
set_option maxRecDepth 20000 in
theorem ggX6_sheet_X6_within : GoodIn wsX6_sheet wsX6_within := goodIn_r _ [5] (by decide +kernel) (by decide +kernel)
set_option maxRecDepth 20000 in
theorem gX6_sheet_X6_within : GoodIn wsX6_sheet (va_wsS RX6 57 yX6_within wsX6_within) := goodIn_app (goodIn_of _ (by decide +kernel)) ggX6_sheet_X6_within
set_option maxRecDepth 20000 in
theorem ggX6_sheet_X1_become : GoodIn wsX6_sheet wsX1_become := goodIn_r _ [10, 11, 12, 13, 14, 15, 16, 17, 27, 28, 29] (by decide +kernel) (by decide +kernel)
set_option maxRecDepth 20000 in
theorem gX6_sheet_X1_become : GoodIn wsX6_sheet (wsV RX6 243 RX1 yX1_become wsX1_become) := goodIn_app (goodIn_of _ (by decide +kernel)) ggX6_sheet_X1_become
theorem dX6_sheet_0 : decode cX6_sheet 0 = .ok (.iload_n 1, 1) := by decide +kernel
theorem dX6_sheet_1 : decode cX6_sheet 1 = .ok (.iconst 0, 1) := by decide +kernel
theorem dX6_sheet_2 : decode cX6_sheet 2 = .ok (.iconst 3, 1) := by decide +kernel
theorem dX6_sheet_3 : decode cX6_sheet 3 = .ok (.invokestatic 57, 3) := by decide +kernel
theorem dX6_sheet_6 : decode cX6_sheet 6 = .ok (.ifCond .eq 12, 3) := by decide +kernel
theorem dX6_sheet_9 : decode cX6_sheet 9 = .ok (.iload_n 2, 1) := by decide +kernel
theorem dX6_sheet_10 : decode cX6_sheet 10 = .ok (.iconst (-1), 1) := by decide +kernel
theorem dX6_sheet_11 : decode cX6_sheet 11 = .ok (.iconst 3, 1) := by decide +kernel
theorem dX6_sheet_12 : decode cX6_sheet 12 = .ok (.invokestatic 57, 3) := by decide +kernel
theorem dX6_sheet_15 : decode cX6_sheet 15 = .ok (.ifCond .ne 5, 3) := by decide +kernel
theorem dX6_sheet_18 : decode cX6_sheet 18 = .ok (.iconst (-1), 1) := by decide +kernel
theorem dX6_sheet_19 : decode cX6_sheet 19 = .ok (.ireturn, 1) := by decide +kernel
theorem dX6_sheet_20 : decode cX6_sheet 20 = .ok (.iload_n 2, 1) := by decide +kernel
theorem dX6_sheet_21 : decode cX6_sheet 21 = .ok (.iconst (-1), 1) := by decide +kernel
theorem dX6_sheet_22 : decode cX6_sheet 22 = .ok (.if_icmp .ne 16, 3) := by decide +kernel
theorem dX6_sheet_25 : decode cX6_sheet 25 = .ok (.aload_n 0, 1) := by decide +kernel
theorem dX6_sheet_26 : decode cX6_sheet 26 = .ok (.getfield 38, 3) := by decide +kernel
theorem dX6_sheet_29 : decode cX6_sheet 29 = .ok (.iload_n 1, 1) := by decide +kernel
theorem dX6_sheet_30 : decode cX6_sheet 30 = .ok (.aaload, 1) := by decide +kernel
theorem dX6_sheet_31 : decode cX6_sheet 31 = .ok (.iconst (-1), 1) := by decide +kernel
theorem dX6_sheet_32 : decode cX6_sheet 32 = .ok (.iconst 0, 1) := by decide +kernel
theorem dX6_sheet_33 : decode cX6_sheet 33 = .ok (.invokevirtual 243, 3) := by decide +kernel
theorem dX6_sheet_36 : decode cX6_sheet 36 = .ok (.iconst 1, 1) := by decide +kernel
theorem dX6_sheet_37 : decode cX6_sheet 37 = .ok (.ireturn, 1) := by decide +kernel
theorem dX6_sheet_38 : decode cX6_sheet 38 = .ok (.iload_n 3, 1) := by decide +kernel
theorem dX6_sheet_39 : decode cX6_sheet 39 = .ok (.bipush 40, 2) := by decide +kernel
theorem dX6_sheet_41 : decode cX6_sheet 41 = .ok (.if_icmp .le 5, 3) := by decide +kernel
theorem dX6_sheet_44 : decode cX6_sheet 44 = .ok (.iconst (-1), 1) := by decide +kernel
theorem dX6_sheet_45 : decode cX6_sheet 45 = .ok (.ireturn, 1) := by decide +kernel
theorem dX6_sheet_46 : decode cX6_sheet 46 = .ok (.iload_n 3, 1) := by decide +kernel
theorem dX6_sheet_47 : decode cX6_sheet 47 = .ok (.ifCond .ge 6, 3) := by decide +kernel
theorem dX6_sheet_50 : decode cX6_sheet 50 = .ok (.bipush (-14), 2) := by decide +kernel
theorem dX6_sheet_52 : decode cX6_sheet 52 = .ok (.ireturn, 1) := by decide +kernel
theorem dX6_sheet_53 : decode cX6_sheet 53 = .ok (.aload_n 0, 1) := by decide +kernel
theorem dX6_sheet_54 : decode cX6_sheet 54 = .ok (.getfield 38, 3) := by decide +kernel
theorem dX6_sheet_57 : decode cX6_sheet 57 = .ok (.iload_n 1, 1) := by decide +kernel
theorem dX6_sheet_58 : decode cX6_sheet 58 = .ok (.aaload, 1) := by decide +kernel
theorem dX6_sheet_59 : decode cX6_sheet 59 = .ok (.iload_n 2, 1) := by decide +kernel
theorem dX6_sheet_60 : decode cX6_sheet 60 = .ok (.iload_n 3, 1) := by decide +kernel
theorem dX6_sheet_61 : decode cX6_sheet 61 = .ok (.invokevirtual 243, 3) := by decide +kernel
theorem dX6_sheet_64 : decode cX6_sheet 64 = .ok (.iconst 1, 1) := by decide +kernel
theorem dX6_sheet_65 : decode cX6_sheet 65 = .ok (.ireturn, 1) := by decide +kernel
set_option maxRecDepth 20000 in
theorem ggX6_put_X6_within : GoodIn wsX6_put wsX6_within := goodIn_r _ [8] (by decide +kernel) (by decide +kernel)
set_option maxRecDepth 20000 in
theorem gX6_put_X6_within : GoodIn wsX6_put (va_wsS RX6 57 yX6_within wsX6_within) := goodIn_app (goodIn_of _ (by decide +kernel)) ggX6_put_X6_within
set_option maxRecDepth 20000 in
theorem ggX6_put_X6_narrowed : GoodIn wsX6_put wsX6_narrowed := goodIn_r _ [11] (by decide +kernel) (by decide +kernel)
set_option maxRecDepth 20000 in
theorem gX6_put_X6_narrowed : GoodIn wsX6_put (va_wsS RX6 247 yX6_narrowed wsX6_narrowed) := goodIn_app (goodIn_of _ (by decide +kernel)) ggX6_put_X6_narrowed
theorem dX6_put_0 : decode cX6_put 0 = .ok (.iload_n 1, 1) := by decide +kernel
theorem dX6_put_1 : decode cX6_put 1 = .ok (.iconst 0, 1) := by decide +kernel
theorem dX6_put_2 : decode cX6_put 2 = .ok (.iconst 3, 1) := by decide +kernel
theorem dX6_put_3 : decode cX6_put 3 = .ok (.invokestatic 57, 3) := by decide +kernel
theorem dX6_put_6 : decode cX6_put 6 = .ok (.ifCond .ne 5, 3) := by decide +kernel
theorem dX6_put_9 : decode cX6_put 9 = .ok (.iconst (-1), 1) := by decide +kernel
theorem dX6_put_10 : decode cX6_put 10 = .ok (.ireturn, 1) := by decide +kernel
theorem dX6_put_11 : decode cX6_put 11 = .ok (.aload_n 0, 1) := by decide +kernel
theorem dX6_put_12 : decode cX6_put 12 = .ok (.getfield 38, 3) := by decide +kernel
theorem dX6_put_15 : decode cX6_put 15 = .ok (.iload_n 1, 1) := by decide +kernel
theorem dX6_put_16 : decode cX6_put 16 = .ok (.aaload, 1) := by decide +kernel
theorem dX6_put_17 : decode cX6_put 17 = .ok (.astore 4, 2) := by decide +kernel
theorem dX6_put_19 : decode cX6_put 19 = .ok (.aload 4, 2) := by decide +kernel
theorem dX6_put_21 : decode cX6_put 21 = .ok (.getfield 203, 3) := by decide +kernel
theorem dX6_put_24 : decode cX6_put 24 = .ok (.iconst (-1), 1) := by decide +kernel
theorem dX6_put_25 : decode cX6_put 25 = .ok (.if_icmp .ne 6, 3) := by decide +kernel
theorem dX6_put_28 : decode cX6_put 28 = .ok (.bipush (-11), 2) := by decide +kernel
theorem dX6_put_30 : decode cX6_put 30 = .ok (.ireturn, 1) := by decide +kernel
theorem dX6_put_31 : decode cX6_put 31 = .ok (.iload_n 2, 1) := by decide +kernel
theorem dX6_put_32 : decode cX6_put 32 = .ok (.iconst 0, 1) := by decide +kernel
theorem dX6_put_33 : decode cX6_put 33 = .ok (.aload 4, 2) := by decide +kernel
theorem dX6_put_35 : decode cX6_put 35 = .ok (.getfield 210, 3) := by decide +kernel
theorem dX6_put_38 : decode cX6_put 38 = .ok (.iconst 1, 1) := by decide +kernel
theorem dX6_put_39 : decode cX6_put 39 = .ok (.isub, 1) := by decide +kernel
theorem dX6_put_40 : decode cX6_put 40 = .ok (.invokestatic 57, 3) := by decide +kernel
theorem dX6_put_43 : decode cX6_put 43 = .ok (.ifCond .ne 6, 3) := by decide +kernel
theorem dX6_put_46 : decode cX6_put 46 = .ok (.bipush (-12), 2) := by decide +kernel
theorem dX6_put_48 : decode cX6_put 48 = .ok (.ireturn, 1) := by decide +kernel
theorem dX6_put_49 : decode cX6_put 49 = .ok (.aload 4, 2) := by decide +kernel
theorem dX6_put_51 : decode cX6_put 51 = .ok (.getfield 211, 3) := by decide +kernel
theorem dX6_put_54 : decode cX6_put 54 = .ok (.iload_n 2, 1) := by decide +kernel
theorem dX6_put_55 : decode cX6_put 55 = .ok (.iload_n 3, 1) := by decide +kernel
theorem dX6_put_56 : decode cX6_put 56 = .ok (.aload 4, 2) := by decide +kernel
theorem dX6_put_58 : decode cX6_put 58 = .ok (.getfield 203, 3) := by decide +kernel
theorem dX6_put_61 : decode cX6_put 61 = .ok (.invokestatic 247, 3) := by decide +kernel
theorem dX6_put_64 : decode cX6_put 64 = .ok (.i2l, 1) := by decide +kernel
theorem dX6_put_65 : decode cX6_put 65 = .ok (.lastore, 1) := by decide +kernel
theorem dX6_put_66 : decode cX6_put 66 = .ok (.iconst 1, 1) := by decide +kernel
theorem dX6_put_67 : decode cX6_put 67 = .ok (.ireturn, 1) := by decide +kernel
set_option maxRecDepth 20000 in
theorem ggX6_item_X6_within : GoodIn wsX6_item wsX6_within := goodIn_r _ [8] (by decide +kernel) (by decide +kernel)
set_option maxRecDepth 20000 in
theorem gX6_item_X6_within : GoodIn wsX6_item (va_wsS RX6 57 yX6_within wsX6_within) := goodIn_app (goodIn_of _ (by decide +kernel)) ggX6_item_X6_within
theorem dX6_item_0 : decode cX6_item 0 = .ok (.iload_n 1, 1) := by decide +kernel
theorem dX6_item_1 : decode cX6_item 1 = .ok (.iconst 0, 1) := by decide +kernel
theorem dX6_item_2 : decode cX6_item 2 = .ok (.iconst 3, 1) := by decide +kernel
theorem dX6_item_3 : decode cX6_item 3 = .ok (.invokestatic 57, 3) := by decide +kernel
theorem dX6_item_6 : decode cX6_item 6 = .ok (.ifCond .eq 12, 3) := by decide +kernel
theorem dX6_item_9 : decode cX6_item 9 = .ok (.iload_n 2, 1) := by decide +kernel
theorem dX6_item_10 : decode cX6_item 10 = .ok (.iconst 0, 1) := by decide +kernel
theorem dX6_item_11 : decode cX6_item 11 = .ok (.iconst 3, 1) := by decide +kernel
theorem dX6_item_12 : decode cX6_item 12 = .ok (.invokestatic 57, 3) := by decide +kernel
theorem dX6_item_15 : decode cX6_item 15 = .ok (.ifCond .ne 5, 3) := by decide +kernel
theorem dX6_item_18 : decode cX6_item 18 = .ok (.iconst (-1), 1) := by decide +kernel
theorem dX6_item_19 : decode cX6_item 19 = .ok (.ireturn, 1) := by decide +kernel
theorem dX6_item_20 : decode cX6_item 20 = .ok (.aload_n 0, 1) := by decide +kernel
theorem dX6_item_21 : decode cX6_item 21 = .ok (.getfield 38, 3) := by decide +kernel
theorem dX6_item_24 : decode cX6_item 24 = .ok (.iload_n 1, 1) := by decide +kernel
theorem dX6_item_25 : decode cX6_item 25 = .ok (.aaload, 1) := by decide +kernel
theorem dX6_item_26 : decode cX6_item 26 = .ok (.astore 4, 2) := by decide +kernel
theorem dX6_item_28 : decode cX6_item 28 = .ok (.aload 4, 2) := by decide +kernel
theorem dX6_item_30 : decode cX6_item 30 = .ok (.getfield 203, 3) := by decide +kernel
theorem dX6_item_33 : decode cX6_item 33 = .ok (.iconst (-1), 1) := by decide +kernel
theorem dX6_item_34 : decode cX6_item 34 = .ok (.if_icmp .ne 6, 3) := by decide +kernel
theorem dX6_item_37 : decode cX6_item 37 = .ok (.bipush (-11), 2) := by decide +kernel
theorem dX6_item_39 : decode cX6_item 39 = .ok (.ireturn, 1) := by decide +kernel
theorem dX6_item_40 : decode cX6_item 40 = .ok (.aload 4, 2) := by decide +kernel
theorem dX6_item_42 : decode cX6_item 42 = .ok (.getfield 203, 3) := by decide +kernel
theorem dX6_item_45 : decode cX6_item 45 = .ok (.iload_n 2, 1) := by decide +kernel
theorem dX6_item_46 : decode cX6_item 46 = .ok (.if_icmp .eq 6, 3) := by decide +kernel
theorem dX6_item_49 : decode cX6_item 49 = .ok (.bipush (-13), 2) := by decide +kernel
theorem dX6_item_51 : decode cX6_item 51 = .ok (.ireturn, 1) := by decide +kernel
theorem dX6_item_52 : decode cX6_item 52 = .ok (.iload_n 3, 1) := by decide +kernel
theorem dX6_item_53 : decode cX6_item 53 = .ok (.iconst 0, 1) := by decide +kernel
theorem dX6_item_54 : decode cX6_item 54 = .ok (.aload 4, 2) := by decide +kernel
theorem dX6_item_56 : decode cX6_item 56 = .ok (.getfield 210, 3) := by decide +kernel
theorem dX6_item_59 : decode cX6_item 59 = .ok (.iconst 1, 1) := by decide +kernel
theorem dX6_item_60 : decode cX6_item 60 = .ok (.isub, 1) := by decide +kernel
theorem dX6_item_61 : decode cX6_item 61 = .ok (.invokestatic 57, 3) := by decide +kernel
theorem dX6_item_64 : decode cX6_item 64 = .ok (.ifCond .eq 14, 3) := by decide +kernel
theorem dX6_item_67 : decode cX6_item 67 = .ok (.aload 4, 2) := by decide +kernel
theorem dX6_item_69 : decode cX6_item 69 = .ok (.getfield 211, 3) := by decide +kernel
theorem dX6_item_72 : decode cX6_item 72 = .ok (.iload_n 3, 1) := by decide +kernel
theorem dX6_item_73 : decode cX6_item 73 = .ok (.laload, 1) := by decide +kernel
theorem dX6_item_74 : decode cX6_item 74 = .ok (.l2i, 1) := by decide +kernel
theorem dX6_item_75 : decode cX6_item 75 = .ok (.goto 5, 3) := by decide +kernel
theorem dX6_item_78 : decode cX6_item 78 = .ok (.bipush (-12), 2) := by decide +kernel
theorem dX6_item_80 : decode cX6_item 80 = .ok (.ireturn, 1) := by decide +kernel
theorem dX6_narrowed_0 : decode cX6_narrowed 0 = .ok (.iload_n 1, 1) := by decide +kernel
theorem dX6_narrowed_1 : decode cX6_narrowed 1 = .ok (.lookupswitch 33 #[(0, 27), (1, 30)], 27) := by decide +kernel
theorem dX6_narrowed_28 : decode cX6_narrowed 28 = .ok (.iload_n 0, 1) := by decide +kernel
theorem dX6_narrowed_29 : decode cX6_narrowed 29 = .ok (.i2b, 1) := by decide +kernel
theorem dX6_narrowed_30 : decode cX6_narrowed 30 = .ok (.ireturn, 1) := by decide +kernel
theorem dX6_narrowed_31 : decode cX6_narrowed 31 = .ok (.iload_n 0, 1) := by decide +kernel
theorem dX6_narrowed_32 : decode cX6_narrowed 32 = .ok (.i2s, 1) := by decide +kernel
theorem dX6_narrowed_33 : decode cX6_narrowed 33 = .ok (.ireturn, 1) := by decide +kernel
theorem dX6_narrowed_34 : decode cX6_narrowed 34 = .ok (.iload_n 0, 1) := by decide +kernel
theorem dX6_narrowed_35 : decode cX6_narrowed 35 = .ok (.ireturn, 1) := by decide +kernel
set_option maxRecDepth 20000 in
theorem ggX6_shelf_X6_within : GoodIn wsX6_shelf wsX6_within := goodIn_r _ [8] (by decide +kernel) (by decide +kernel)
set_option maxRecDepth 20000 in
theorem gX6_shelf_X6_within : GoodIn wsX6_shelf (va_wsS RX6 57 yX6_within wsX6_within) := goodIn_app (goodIn_of _ (by decide +kernel)) ggX6_shelf_X6_within
set_option maxRecDepth 20000 in
theorem ggX6_shelf_X4_has : GoodIn wsX6_shelf wsX4_has := goodIn_r _ [13, 14, 6, 7, 8, 43, 44, 45, 46, 47, 48, 49, 50, 51, 52] (by decide +kernel) (by decide +kernel)
set_option maxRecDepth 20000 in
theorem gX6_shelf_X4_has : GoodIn wsX6_shelf (wsV RX6 101 RX4 yX4_has wsX4_has) := goodIn_app (goodIn_of _ (by decide +kernel)) ggX6_shelf_X4_has
set_option maxRecDepth 20000 in
theorem ggX6_shelf_X2_holdGuest : GoodIn wsX6_shelf wsX2_holdGuest := goodIn_r _ [19, 20, 21, 39, 40, 41, 42] (by decide +kernel) (by decide +kernel)
set_option maxRecDepth 20000 in
theorem gX6_shelf_X2_holdGuest : GoodIn wsX6_shelf (wsV RX6 250 RX2 yX2_holdGuest wsX2_holdGuest) := goodIn_app (goodIn_of _ (by decide +kernel)) ggX6_shelf_X2_holdGuest
