set_option maxRecDepth 20000 in
theorem gX7_gap_X7_pieces : GoodIn wsX7_gap (wsV RX7 213 RX7 yX7_pieces wsX7_pieces) := goodIn_app (goodIn_of _ (by decide +kernel)) ggX7_gap_X7_pieces
set_option maxRecDepth 20000 in
theorem ggX7_gap_X7_next : GoodIn wsX7_gap wsX7_next := goodIn_r _ [14, 6, 15, 16, 17, 18, 19, 20, 21, 22, 23, 24, 25, 26, 27, 28, 29, 30, 31, 32, 33, 34, 35, 36, 37, 38, 39, 40] (by decide +kernel) (by decide +kernel)
set_option maxRecDepth 20000 in
theorem gX7_gap_X7_next : GoodIn wsX7_gap (wsV RX7 159 RX7 yX7_next wsX7_next) := goodIn_app (goodIn_of _ (by decide +kernel)) ggX7_gap_X7_next
theorem dX7_gap_0 : decode cX7_gap 0 = .ok (.aload_n 0, 1) := by decide +kernel
theorem dX7_gap_1 : decode cX7_gap 1 = .ok (.invokevirtual 213, 3) := by decide +kernel
theorem dX7_gap_4 : decode cX7_gap 4 = .ok (.istore_n 1, 1) := by decide +kernel
theorem dX7_gap_5 : decode cX7_gap 5 = .ok (.iconst 0, 1) := by decide +kernel
theorem dX7_gap_6 : decode cX7_gap 6 = .ok (.istore_n 2, 1) := by decide +kernel
theorem dX7_gap_7 : decode cX7_gap 7 = .ok (.iload_n 2, 1) := by decide +kernel
theorem dX7_gap_8 : decode cX7_gap 8 = .ok (.bipush 8, 2) := by decide +kernel
theorem dX7_gap_10 : decode cX7_gap 10 = .ok (.if_icmp .ge 29, 3) := by decide +kernel
theorem dX7_gap_13 : decode cX7_gap 13 = .ok (.aload_n 0, 1) := by decide +kernel
theorem dX7_gap_14 : decode cX7_gap 14 = .ok (.invokevirtual 159, 3) := by decide +kernel
theorem dX7_gap_17 : decode cX7_gap 17 = .ok (.iload_n 2, 1) := by decide +kernel
theorem dX7_gap_18 : decode cX7_gap 18 = .ok (.iadd, 1) := by decide +kernel
theorem dX7_gap_19 : decode cX7_gap 19 = .ok (.bipush 8, 2) := by decide +kernel
theorem dX7_gap_21 : decode cX7_gap 21 = .ok (.irem, 1) := by decide +kernel
theorem dX7_gap_22 : decode cX7_gap 22 = .ok (.istore_n 3, 1) := by decide +kernel
theorem dX7_gap_23 : decode cX7_gap 23 = .ok (.iload_n 1, 1) := by decide +kernel
theorem dX7_gap_24 : decode cX7_gap 24 = .ok (.iload_n 3, 1) := by decide +kernel
theorem dX7_gap_25 : decode cX7_gap 25 = .ok (.ishr, 1) := by decide +kernel
theorem dX7_gap_26 : decode cX7_gap 26 = .ok (.iconst 1, 1) := by decide +kernel
theorem dX7_gap_27 : decode cX7_gap 27 = .ok (.iand, 1) := by decide +kernel
theorem dX7_gap_28 : decode cX7_gap 28 = .ok (.ifCond .ne 5, 3) := by decide +kernel
theorem dX7_gap_31 : decode cX7_gap 31 = .ok (.iload_n 3, 1) := by decide +kernel
theorem dX7_gap_32 : decode cX7_gap 32 = .ok (.ireturn, 1) := by decide +kernel
theorem dX7_gap_33 : decode cX7_gap 33 = .ok (.iinc 2 1, 3) := by decide +kernel
theorem dX7_gap_36 : decode cX7_gap 36 = .ok (.goto (-29), 3) := by decide +kernel
theorem dX7_gap_39 : decode cX7_gap 39 = .ok (.bipush 8, 2) := by decide +kernel
theorem dX7_gap_41 : decode cX7_gap 41 = .ok (.ireturn, 1) := by decide +kernel
set_option maxRecDepth 20000 in
theorem ggX7_state_X7_next : GoodIn wsX7_state wsX7_next := goodIn_r _ [6, 1, 27, 28, 29, 30, 31, 32, 33, 34, 35, 36, 37, 38, 39, 40, 41, 42, 43, 44, 45, 46, 47, 48, 49, 50, 51, 52] (by decide +kernel) (by decide +kernel)
set_option maxRecDepth 20000 in
theorem gX7_state_X7_next : GoodIn wsX7_state (wsV RX7 159 RX7 yX7_next wsX7_next) := goodIn_app (goodIn_of _ (by decide +kernel)) ggX7_state_X7_next
set_option maxRecDepth 20000 in
theorem ggX7_state_X7_drownedOnes : GoodIn wsX7_state wsX7_drownedOnes := goodIn_r _ [10, 1, 11, 12, 13, 5, 14, 27, 28, 29, 30, 31, 32, 33, 34, 35, 36, 37, 38, 39, 40, 41, 42, 43, 44, 45, 46, 47, 48, 49, 50, 51, 52] (by decide +kernel) (by decide +kernel)
set_option maxRecDepth 20000 in
theorem gX7_state_X7_drownedOnes : GoodIn wsX7_state (wsV RX7 216 RX7 yX7_drownedOnes wsX7_drownedOnes) := goodIn_app (goodIn_of _ (by decide +kernel)) ggX7_state_X7_drownedOnes
set_option maxRecDepth 20000 in
theorem ggX7_state_X7_goneOfAll : GoodIn wsX7_state wsX7_goneOfAll := goodIn_r _ [18, 1, 11, 12, 13, 5, 14, 27, 28, 29, 30, 31, 32, 33, 34, 35, 36, 37, 38, 39, 40, 41, 42, 43, 44, 45, 46, 47, 48, 49, 50, 51, 52] (by decide +kernel) (by decide +kernel)
set_option maxRecDepth 20000 in
theorem gX7_state_X7_goneOfAll : GoodIn wsX7_state (wsV RX7 219 RX7 yX7_goneOfAll wsX7_goneOfAll) := goodIn_app (goodIn_of _ (by decide +kernel)) ggX7_state_X7_goneOfAll
set_option maxRecDepth 20000 in
theorem ggX7_state_X7_gap : GoodIn wsX7_state wsX7_gap := goodIn_r _ [22, 23, 24, 25, 5, 26, 1, 11, 12, 13, 14, 2, 3, 4, 6, 27, 28, 29, 30, 31, 32, 33, 34, 35, 36, 37, 38, 39, 40, 41, 42, 43, 44, 45, 46, 47, 48, 49, 50, 51, 52] (by decide +kernel) (by decide +kernel)
set_option maxRecDepth 20000 in
theorem gX7_state_X7_gap : GoodIn wsX7_state (wsV RX7 222 RX7 yX7_gap wsX7_gap) := goodIn_app (goodIn_of _ (by decide +kernel)) ggX7_state_X7_gap
theorem dX7_state_0 : decode cX7_state 0 = .ok (.iload_n 1, 1) := by decide +kernel
theorem dX7_state_1 : decode cX7_state 1 = .ok (.tableswitch 73 0 5 #[39, 46, 53, 58, 63, 68], 39) := by decide +kernel
theorem dX7_state_40 : decode cX7_state 40 = .ok (.aload_n 0, 1) := by decide +kernel
theorem dX7_state_41 : decode cX7_state 41 = .ok (.getfield 7, 3) := by decide +kernel
theorem dX7_state_44 : decode cX7_state 44 = .ok (.iconst 1, 1) := by decide +kernel
theorem dX7_state_45 : decode cX7_state 45 = .ok (.iaload, 1) := by decide +kernel
theorem dX7_state_46 : decode cX7_state 46 = .ok (.ireturn, 1) := by decide +kernel
theorem dX7_state_47 : decode cX7_state 47 = .ok (.aload_n 0, 1) := by decide +kernel
theorem dX7_state_48 : decode cX7_state 48 = .ok (.getfield 7, 3) := by decide +kernel
theorem dX7_state_51 : decode cX7_state 51 = .ok (.iconst 3, 1) := by decide +kernel
theorem dX7_state_52 : decode cX7_state 52 = .ok (.iaload, 1) := by decide +kernel
theorem dX7_state_53 : decode cX7_state 53 = .ok (.ireturn, 1) := by decide +kernel
theorem dX7_state_54 : decode cX7_state 54 = .ok (.aload_n 0, 1) := by decide +kernel
theorem dX7_state_55 : decode cX7_state 55 = .ok (.invokevirtual 159, 3) := by decide +kernel
theorem dX7_state_58 : decode cX7_state 58 = .ok (.ireturn, 1) := by decide +kernel
theorem dX7_state_59 : decode cX7_state 59 = .ok (.aload_n 0, 1) := by decide +kernel
theorem dX7_state_60 : decode cX7_state 60 = .ok (.invokevirtual 216, 3) := by decide +kernel
theorem dX7_state_63 : decode cX7_state 63 = .ok (.ireturn, 1) := by decide +kernel
theorem dX7_state_64 : decode cX7_state 64 = .ok (.aload_n 0, 1) := by decide +kernel
theorem dX7_state_65 : decode cX7_state 65 = .ok (.invokevirtual 219, 3) := by decide +kernel
theorem dX7_state_68 : decode cX7_state 68 = .ok (.ireturn, 1) := by decide +kernel
theorem dX7_state_69 : decode cX7_state 69 = .ok (.aload_n 0, 1) := by decide +kernel
theorem dX7_state_70 : decode cX7_state 70 = .ok (.invokevirtual 222, 3) := by decide +kernel
theorem dX7_state_73 : decode cX7_state 73 = .ok (.ireturn, 1) := by decide +kernel
theorem dX7_state_74 : decode cX7_state 74 = .ok (.iconst (-1), 1) := by decide +kernel
theorem dX7_state_75 : decode cX7_state 75 = .ok (.ireturn, 1) := by decide +kernel
set_option maxRecDepth 20000 in
theorem ggX7_deep_X7_isOne : GoodIn wsX7_deep wsX7_isOne := goodIn_r _ [8, 2, 58, 59, 60, 61, 62, 63, 64, 65, 66, 67, 68, 69, 70, 71, 72, 73, 74, 75, 76, 77, 78, 79, 80, 81, 82, 83] (by decide +kernel) (by decide +kernel)
set_option maxRecDepth 20000 in
theorem gX7_deep_X7_isOne : GoodIn wsX7_deep (wsV RX7 162 RX7 yX7_isOne wsX7_isOne) := goodIn_app (goodIn_of _ (by decide +kernel)) ggX7_deep_X7_isOne
set_option maxRecDepth 20000 in
theorem ggX7_deep_X7_isIn : GoodIn wsX7_deep wsX7_isIn := goodIn_r _ [11] (by decide +kernel) (by decide +kernel)
set_option maxRecDepth 20000 in
theorem gX7_deep_X7_isIn : GoodIn wsX7_deep (va_wsS RX7 54 yX7_isIn wsX7_isIn) := goodIn_app (goodIn_of _ (by decide +kernel)) ggX7_deep_X7_isIn
set_option maxRecDepth 20000 in
theorem ggX7_deep_X7_copyRow : GoodIn wsX7_deep wsX7_copyRow := goodIn_r _ [14] (by decide +kernel) (by decide +kernel)
set_option maxRecDepth 20000 in
theorem gX7_deep_X7_copyRow : GoodIn wsX7_deep (va_wsS RX7 133 yX7_copyRow wsX7_copyRow) := goodIn_app (goodIn_of _ (by decide +kernel)) ggX7_deep_X7_copyRow
set_option maxRecDepth 20000 in
theorem ggX7_deep_X7_goesOnMany : GoodIn wsX7_deep wsX7_goesOnMany := goodIn_r _ [18, 19, 20, 21, 7, 22, 2, 23, 24, 25, 26, 27, 28, 29, 30, 31, 32, 33, 34, 35, 36, 37, 38, 39, 40, 41, 42, 43, 44, 45, 46, 47, 48, 49, 50, 51, 52, 53, 54, 55, 56, 57, 58, 59, 60, 61, 62, 63, 64, 65, 66, 67, 68, 69, 70, 71, 72, 73, 74, 75, 76, 77, 78, 79, 80, 81, 82, 83] (by decide +kernel) (by decide +kernel)
set_option maxRecDepth 20000 in
theorem gX7_deep_X7_goesOnMany : GoodIn wsX7_deep (wsV RX7 198 RX7 yX7_goesOnMany wsX7_goesOnMany) := goodIn_app (goodIn_of _ (by decide +kernel)) ggX7_deep_X7_goesOnMany
set_option maxRecDepth 20000 in
theorem ggX7_deep_X7_its : GoodIn wsX7_deep wsX7_its := goodIn_r _ [30, 2, 58, 59, 60, 61, 62, 63, 64, 65, 66, 67, 68, 69, 70, 71, 72, 73, 74, 75, 76, 77, 78, 79, 80, 81, 82, 83] (by decide +kernel) (by decide +kernel)
set_option maxRecDepth 20000 in
theorem gX7_deep_X7_its : GoodIn wsX7_deep (wsV RX7 156 RX7 yX7_its wsX7_its) := goodIn_app (goodIn_of _ (by decide +kernel)) ggX7_deep_X7_its
theorem dX7_deep_0 : decode cX7_deep 0 = .ok (.aload_n 0, 1) := by decide +kernel
theorem dX7_deep_1 : decode cX7_deep 1 = .ok (.iload_n 1, 1) := by decide +kernel
theorem dX7_deep_2 : decode cX7_deep 2 = .ok (.invokevirtual 162, 3) := by decide +kernel
theorem dX7_deep_5 : decode cX7_deep 5 = .ok (.ifCond .eq 15, 3) := by decide +kernel
theorem dX7_deep_8 : decode cX7_deep 8 = .ok (.iload_n 2, 1) := by decide +kernel
theorem dX7_deep_9 : decode cX7_deep 9 = .ok (.i2l, 1) := by decide +kernel
theorem dX7_deep_10 : decode cX7_deep 10 = .ok (.lconst 0, 1) := by decide +kernel
theorem dX7_deep_11 : decode cX7_deep 11 = .ok (.ldc2_w 196, 3) := by decide +kernel
theorem dX7_deep_14 : decode cX7_deep 14 = .ok (.invokestatic 54, 3) := by decide +kernel
theorem dX7_deep_17 : decode cX7_deep 17 = .ok (.ifCond .ne 5, 3) := by decide +kernel
theorem dX7_deep_20 : decode cX7_deep 20 = .ok (.iconst (-1), 1) := by decide +kernel
theorem dX7_deep_21 : decode cX7_deep 21 = .ok (.ireturn, 1) := by decide +kernel
theorem dX7_deep_22 : decode cX7_deep 22 = .ok (.aload_n 0, 1) := by decide +kernel
theorem dX7_deep_23 : decode cX7_deep 23 = .ok (.getfield 7, 3) := by decide +kernel
theorem dX7_deep_26 : decode cX7_deep 26 = .ok (.aload_n 0, 1) := by decide +kernel
theorem dX7_deep_27 : decode cX7_deep 27 = .ok (.getfield 16, 3) := by decide +kernel
theorem dX7_deep_30 : decode cX7_deep 30 = .ok (.invokestatic 133, 3) := by decide +kernel
theorem dX7_deep_33 : decode cX7_deep 33 = .ok (.aload_n 0, 1) := by decide +kernel
theorem dX7_deep_34 : decode cX7_deep 34 = .ok (.iload_n 2, 1) := by decide +kernel
theorem dX7_deep_35 : decode cX7_deep 35 = .ok (.invokevirtual 198, 3) := by decide +kernel
theorem dX7_deep_38 : decode cX7_deep 38 = .ok (.aload_n 0, 1) := by decide +kernel
theorem dX7_deep_39 : decode cX7_deep 39 = .ok (.iload_n 1, 1) := by decide +kernel
theorem dX7_deep_40 : decode cX7_deep 40 = .ok (.iconst 2, 1) := by decide +kernel
theorem dX7_deep_41 : decode cX7_deep 41 = .ok (.invokevirtual 156, 3) := by decide +kernel
theorem dX7_deep_44 : decode cX7_deep 44 = .ok (.istore_n 3, 1) := by decide +kernel
theorem dX7_deep_45 : decode cX7_deep 45 = .ok (.aload_n 0, 1) := by decide +kernel
theorem dX7_deep_46 : decode cX7_deep 46 = .ok (.getfield 16, 3) := by decide +kernel
theorem dX7_deep_49 : decode cX7_deep 49 = .ok (.aload_n 0, 1) := by decide +kernel
theorem dX7_deep_50 : decode cX7_deep 50 = .ok (.getfield 7, 3) := by decide +kernel
theorem dX7_deep_53 : decode cX7_deep 53 = .ok (.invokestatic 133, 3) := by decide +kernel
theorem dX7_deep_56 : decode cX7_deep 56 = .ok (.iload_n 3, 1) := by decide +kernel
theorem dX7_deep_57 : decode cX7_deep 57 = .ok (.ireturn, 1) := by decide +kernel
set_option maxRecDepth 20000 in
theorem ggX7_speaksBy_X7_copyRow : GoodIn wsX7_speaksBy wsX7_copyRow := goodIn_r _ [6] (by decide +kernel) (by decide +kernel)
set_option maxRecDepth 20000 in
theorem gX7_speaksBy_X7_copyRow : GoodIn wsX7_speaksBy (va_wsS RX7 133 yX7_copyRow wsX7_copyRow) := goodIn_app (goodIn_of _ (by decide +kernel)) ggX7_speaksBy_X7_copyRow
set_option maxRecDepth 20000 in
theorem ggX7_speaksBy_X7_its : GoodIn wsX7_speaksBy wsX7_its := goodIn_r _ [10, 1, 46, 47, 48, 49, 50, 51, 52, 53, 54, 55, 56, 57, 58, 59, 60, 61, 62, 63, 64, 65, 66, 67, 68, 69, 70, 71] (by decide +kernel) (by decide +kernel)
set_option maxRecDepth 20000 in
theorem gX7_speaksBy_X7_its : GoodIn wsX7_speaksBy (wsV RX7 156 RX7 yX7_its wsX7_its) := goodIn_app (goodIn_of _ (by decide +kernel)) ggX7_speaksBy_X7_its
set_option maxRecDepth 20000 in
theorem ggX7_speaksBy_X7_goesOn : GoodIn wsX7_speaksBy wsX7_goesOn := goodIn_r _ [14, 1, 15, 16, 17, 5, 18, 7, 8, 9, 10, 19, 20, 21, 22, 23, 24, 25, 26, 27, 28, 29, 30, 31, 32, 33, 34, 35, 36, 37, 38, 39, 40, 41, 42, 43, 44, 45, 46, 47, 48, 49, 50, 51, 52, 53, 54, 55, 56, 57, 58, 59, 60, 61, 62, 63, 64, 65, 66, 67, 68, 69, 70, 71] (by decide +kernel) (by decide +kernel)
set_option maxRecDepth 20000 in
theorem gX7_speaksBy_X7_goesOn : GoodIn wsX7_speaksBy (wsV RX7 193 RX7 yX7_goesOn wsX7_goesOn) := goodIn_app (goodIn_of _ (by decide +kernel)) ggX7_speaksBy_X7_goesOn
theorem dX7_speaksBy_0 : decode cX7_speaksBy 0 = .ok (.aload_n 0, 1) := by decide +kernel
theorem dX7_speaksBy_1 : decode cX7_speaksBy 1 = .ok (.getfield 7, 3) := by decide +kernel
theorem dX7_speaksBy_4 : decode cX7_speaksBy 4 = .ok (.aload_n 0, 1) := by decide +kernel
theorem dX7_speaksBy_5 : decode cX7_speaksBy 5 = .ok (.getfield 16, 3) := by decide +kernel
theorem dX7_speaksBy_8 : decode cX7_speaksBy 8 = .ok (.invokestatic 133, 3) := by decide +kernel
theorem dX7_speaksBy_11 : decode cX7_speaksBy 11 = .ok (.aload_n 0, 1) := by decide +kernel
theorem dX7_speaksBy_12 : decode cX7_speaksBy 12 = .ok (.iload_n 1, 1) := by decide +kernel
theorem dX7_speaksBy_13 : decode cX7_speaksBy 13 = .ok (.iconst 3, 1) := by decide +kernel
theorem dX7_speaksBy_14 : decode cX7_speaksBy 14 = .ok (.invokevirtual 156, 3) := by decide +kernel
theorem dX7_speaksBy_17 : decode cX7_speaksBy 17 = .ok (.istore_n 3, 1) := by decide +kernel
theorem dX7_speaksBy_18 : decode cX7_speaksBy 18 = .ok (.iconst 0, 1) := by decide +kernel
theorem dX7_speaksBy_19 : decode cX7_speaksBy 19 = .ok (.istore 4, 2) := by decide +kernel
theorem dX7_speaksBy_21 : decode cX7_speaksBy 21 = .ok (.iload 4, 2) := by decide +kernel
theorem dX7_speaksBy_23 : decode cX7_speaksBy 23 = .ok (.iload_n 2, 1) := by decide +kernel
theorem dX7_speaksBy_24 : decode cX7_speaksBy 24 = .ok (.if_icmp .gt 23, 3) := by decide +kernel
theorem dX7_speaksBy_27 : decode cX7_speaksBy 27 = .ok (.aload_n 0, 1) := by decide +kernel
theorem dX7_speaksBy_28 : decode cX7_speaksBy 28 = .ok (.iload_n 1, 1) := by decide +kernel
theorem dX7_speaksBy_29 : decode cX7_speaksBy 29 = .ok (.iconst 3, 1) := by decide +kernel
theorem dX7_speaksBy_30 : decode cX7_speaksBy 30 = .ok (.invokevirtual 156, 3) := by decide +kernel
theorem dX7_speaksBy_33 : decode cX7_speaksBy 33 = .ok (.iload_n 3, 1) := by decide +kernel
theorem dX7_speaksBy_34 : decode cX7_speaksBy 34 = .ok (.if_icmp .ne 13, 3) := by decide +kernel
theorem dX7_speaksBy_37 : decode cX7_speaksBy 37 = .ok (.aload_n 0, 1) := by decide +kernel
theorem dX7_speaksBy_38 : decode cX7_speaksBy 38 = .ok (.invokevirtual 193, 3) := by decide +kernel
theorem dX7_speaksBy_41 : decode cX7_speaksBy 41 = .ok (.iinc 4 1, 3) := by decide +kernel
theorem dX7_speaksBy_44 : decode cX7_speaksBy 44 = .ok (.goto (-23), 3) := by decide +kernel
theorem dX7_speaksBy_47 : decode cX7_speaksBy 47 = .ok (.aload_n 0, 1) := by decide +kernel
theorem dX7_speaksBy_48 : decode cX7_speaksBy 48 = .ok (.getfield 16, 3) := by decide +kernel
theorem dX7_speaksBy_51 : decode cX7_speaksBy 51 = .ok (.aload_n 0, 1) := by decide +kernel
theorem dX7_speaksBy_52 : decode cX7_speaksBy 52 = .ok (.getfield 7, 3) := by decide +kernel
theorem dX7_speaksBy_55 : decode cX7_speaksBy 55 = .ok (.invokestatic 133, 3) := by decide +kernel
theorem dX7_speaksBy_58 : decode cX7_speaksBy 58 = .ok (.iload 4, 2) := by decide +kernel
theorem dX7_speaksBy_60 : decode cX7_speaksBy 60 = .ok (.ireturn, 1) := by decide +kernel
set_option maxRecDepth 20000 in
theorem ggX7_speaks_X7_isOne : GoodIn wsX7_speaks wsX7_isOne := goodIn_r _ [5, 6, 54, 55, 56, 57, 58, 59, 60, 61, 62, 63, 64, 65, 66, 67, 68, 69, 70, 71, 72, 73, 74, 75, 76, 77, 78, 79] (by decide +kernel) (by decide +kernel)
set_option maxRecDepth 20000 in
theorem gX7_speaks_X7_isOne : GoodIn wsX7_speaks (wsV RX7 162 RX7 yX7_isOne wsX7_isOne) := goodIn_app (goodIn_of _ (by decide +kernel)) ggX7_speaks_X7_isOne
set_option maxRecDepth 20000 in
theorem ggX7_speaks_X7_speaksBy : GoodIn wsX7_speaks wsX7_speaksBy := goodIn_r _ [10, 6, 11, 12, 13, 4, 14, 15, 16, 17, 18, 19, 20, 21, 22, 23, 24, 25, 26, 27, 28, 29, 30, 31, 32, 33, 34, 35, 36, 37, 38, 39, 40, 41, 42, 43, 44, 45, 46, 47, 48, 49, 50, 51, 52, 53, 54, 55, 56, 57, 58, 59, 60, 61, 62, 63, 64, 65, 66, 67, 68, 69, 70, 71, 72, 73, 74, 75, 76, 77, 78, 79] (by decide +kernel) (by decide +kernel)
set_option maxRecDepth 20000 in
theorem gX7_speaks_X7_speaksBy : GoodIn wsX7_speaks (wsV RX7 225 RX7 yX7_speaksBy wsX7_speaksBy) := goodIn_app (goodIn_of _ (by decide +kernel)) ggX7_speaks_X7_speaksBy
theorem dX7_speaks_0 : decode cX7_speaks 0 = .ok (.aload_n 0, 1) := by decide +kernel
theorem dX7_speaks_1 : decode cX7_speaks 1 = .ok (.iload_n 1, 1) := by decide +kernel
theorem dX7_speaks_2 : decode cX7_speaks 2 = .ok (.invokevirtual 162, 3) := by decide +kernel
theorem dX7_speaks_5 : decode cX7_speaks 5 = .ok (.ifCond .ne 5, 3) := by decide +kernel
theorem dX7_speaks_8 : decode cX7_speaks 8 = .ok (.iconst (-1), 1) := by decide +kernel
theorem dX7_speaks_9 : decode cX7_speaks 9 = .ok (.ireturn, 1) := by decide +kernel
theorem dX7_speaks_10 : decode cX7_speaks 10 = .ok (.aload_n 0, 1) := by decide +kernel
theorem dX7_speaks_11 : decode cX7_speaks 11 = .ok (.iload_n 1, 1) := by decide +kernel
theorem dX7_speaks_12 : decode cX7_speaks 12 = .ok (.bipush 60, 2) := by decide +kernel
theorem dX7_speaks_14 : decode cX7_speaks 14 = .ok (.invokevirtual 225, 3) := by decide +kernel
theorem dX7_speaks_17 : decode cX7_speaks 17 = .ok (.istore_n 2, 1) := by decide +kernel
theorem dX7_speaks_18 : decode cX7_speaks 18 = .ok (.iload_n 2, 1) := by decide +kernel
theorem dX7_speaks_19 : decode cX7_speaks 19 = .ok (.bipush 60, 2) := by decide +kernel
theorem dX7_speaks_21 : decode cX7_speaks 21 = .ok (.if_icmp .gt 7, 3) := by decide +kernel
theorem dX7_speaks_24 : decode cX7_speaks 24 = .ok (.iload_n 2, 1) := by decide +kernel
theorem dX7_speaks_25 : decode cX7_speaks 25 = .ok (.goto 5, 3) := by decide +kernel
theorem dX7_speaks_28 : decode cX7_speaks 28 = .ok (.bipush (-3), 2) := by decide +kernel
theorem dX7_speaks_30 : decode cX7_speaks 30 = .ok (.ireturn, 1) := by decide +kernel
set_option maxRecDepth 20000 in
theorem ggX7_sinks_X7_isOne : GoodIn wsX7_sinks wsX7_isOne := goodIn_r _ [7, 1, 50, 51, 52, 53, 54, 55, 56, 57, 58, 59, 60, 61, 62, 63, 64, 65, 66, 67, 68, 69, 70, 71, 72, 73, 74, 75] (by decide +kernel) (by decide +kernel)
set_option maxRecDepth 20000 in
theorem gX7_sinks_X7_isOne : GoodIn wsX7_sinks (wsV RX7 162 RX7 yX7_isOne wsX7_isOne) := goodIn_app (goodIn_of _ (by decide +kernel)) ggX7_sinks_X7_isOne
set_option maxRecDepth 20000 in
theorem ggX7_sinks_X7_copyRow : GoodIn wsX7_sinks wsX7_copyRow := goodIn_r _ [10] (by decide +kernel) (by decide +kernel)
set_option maxRecDepth 20000 in
theorem gX7_sinks_X7_copyRow : GoodIn wsX7_sinks (va_wsS RX7 133 yX7_copyRow wsX7_copyRow) := goodIn_app (goodIn_of _ (by decide +kernel)) ggX7_sinks_X7_copyRow
set_option maxRecDepth 20000 in
theorem ggX7_sinks_X7_its : GoodIn wsX7_sinks wsX7_its := goodIn_r _ [14, 1, 50, 51, 52, 53, 54, 55, 56, 57, 58, 59, 60, 61, 62, 63, 64, 65, 66, 67, 68, 69, 70, 71, 72, 73, 74, 75] (by decide +kernel) (by decide +kernel)
set_option maxRecDepth 20000 in
theorem gX7_sinks_X7_its : GoodIn wsX7_sinks (wsV RX7 156 RX7 yX7_its wsX7_its) := goodIn_app (goodIn_of _ (by decide +kernel)) ggX7_sinks_X7_its
set_option maxRecDepth 20000 in
theorem ggX7_sinks_X7_goesOn : GoodIn wsX7_sinks wsX7_goesOn := goodIn_r _ [18, 1, 19, 20, 21, 6, 22, 11, 12, 13, 14, 23, 24, 25, 26, 27, 28, 29, 30, 31, 32, 33, 34, 35, 36, 37, 38, 39, 40, 41, 42, 43, 44, 45, 46, 47, 48, 49, 50, 51, 52, 53, 54, 55, 56, 57, 58, 59, 60, 61, 62, 63, 64, 65, 66, 67, 68, 69, 70, 71, 72, 73, 74, 75] (by decide +kernel) (by decide +kernel)
set_option maxRecDepth 20000 in
theorem gX7_sinks_X7_goesOn : GoodIn wsX7_sinks (wsV RX7 193 RX7 yX7_goesOn wsX7_goesOn) := goodIn_app (goodIn_of _ (by decide +kernel)) ggX7_sinks_X7_goesOn
theorem dX7_sinks_0 : decode cX7_sinks 0 = .ok (.aload_n 0, 1) := by decide +kernel
theorem dX7_sinks_1 : decode cX7_sinks 1 = .ok (.iload_n 1, 1) := by decide +kernel
theorem dX7_sinks_2 : decode cX7_sinks 2 = .ok (.invokevirtual 162, 3) := by decide +kernel
theorem dX7_sinks_5 : decode cX7_sinks 5 = .ok (.ifCond .ne 5, 3) := by decide +kernel
theorem dX7_sinks_8 : decode cX7_sinks 8 = .ok (.iconst (-1), 1) := by decide +kernel
theorem dX7_sinks_9 : decode cX7_sinks 9 = .ok (.ireturn, 1) := by decide +kernel
theorem dX7_sinks_10 : decode cX7_sinks 10 = .ok (.aload_n 0, 1) := by decide +kernel
theorem dX7_sinks_11 : decode cX7_sinks 11 = .ok (.getfield 7, 3) := by decide +kernel
theorem dX7_sinks_14 : decode cX7_sinks 14 = .ok (.aload_n 0, 1) := by decide +kernel
theorem dX7_sinks_15 : decode cX7_sinks 15 = .ok (.getfield 16, 3) := by decide +kernel
theorem dX7_sinks_18 : decode cX7_sinks 18 = .ok (.invokestatic 133, 3) := by decide +kernel
theorem dX7_sinks_21 : decode cX7_sinks 21 = .ok (.iconst 0, 1) := by decide +kernel
theorem dX7_sinks_22 : decode cX7_sinks 22 = .ok (.istore_n 2, 1) := by decide +kernel
theorem dX7_sinks_23 : decode cX7_sinks 23 = .ok (.iload_n 2, 1) := by decide +kernel
theorem dX7_sinks_24 : decode cX7_sinks 24 = .ok (.bipush 60, 2) := by decide +kernel
theorem dX7_sinks_26 : decode cX7_sinks 26 = .ok (.if_icmp .gt 22, 3) := by decide +kernel
theorem dX7_sinks_29 : decode cX7_sinks 29 = .ok (.aload_n 0, 1) := by decide +kernel
theorem dX7_sinks_30 : decode cX7_sinks 30 = .ok (.iload_n 1, 1) := by decide +kernel
theorem dX7_sinks_31 : decode cX7_sinks 31 = .ok (.iconst 4, 1) := by decide +kernel
theorem dX7_sinks_32 : decode cX7_sinks 32 = .ok (.invokevirtual 156, 3) := by decide +kernel
theorem dX7_sinks_35 : decode cX7_sinks 35 = .ok (.ifCond .ne 13, 3) := by decide +kernel
theorem dX7_sinks_38 : decode cX7_sinks 38 = .ok (.aload_n 0, 1) := by decide +kernel
theorem dX7_sinks_39 : decode cX7_sinks 39 = .ok (.invokevirtual 193, 3) := by decide +kernel
theorem dX7_sinks_42 : decode cX7_sinks 42 = .ok (.iinc 2 1, 3) := by decide +kernel
theorem dX7_sinks_45 : decode cX7_sinks 45 = .ok (.goto (-22), 3) := by decide +kernel
theorem dX7_sinks_48 : decode cX7_sinks 48 = .ok (.aload_n 0, 1) := by decide +kernel
theorem dX7_sinks_49 : decode cX7_sinks 49 = .ok (.getfield 16, 3) := by decide +kernel
theorem dX7_sinks_52 : decode cX7_sinks 52 = .ok (.aload_n 0, 1) := by decide +kernel
theorem dX7_sinks_53 : decode cX7_sinks 53 = .ok (.getfield 7, 3) := by decide +kernel
theorem dX7_sinks_56 : decode cX7_sinks 56 = .ok (.invokestatic 133, 3) := by decide +kernel
theorem dX7_sinks_59 : decode cX7_sinks 59 = .ok (.iload_n 2, 1) := by decide +kernel
theorem dX7_sinks_60 : decode cX7_sinks 60 = .ok (.bipush 60, 2) := by decide +kernel
theorem dX7_sinks_62 : decode cX7_sinks 62 = .ok (.if_icmp .gt 7, 3) := by decide +kernel
theorem dX7_sinks_65 : decode cX7_sinks 65 = .ok (.iload_n 2, 1) := by decide +kernel
theorem dX7_sinks_66 : decode cX7_sinks 66 = .ok (.goto 5, 3) := by decide +kernel
theorem dX7_sinks_69 : decode cX7_sinks 69 = .ok (.bipush (-3), 2) := by decide +kernel
theorem dX7_sinks_71 : decode cX7_sinks 71 = .ok (.ireturn, 1) := by decide +kernel
set_option maxRecDepth 20000 in
theorem ggX7_whole_X7_copyRow : GoodIn wsX7_whole wsX7_copyRow := goodIn_r _ [6] (by decide +kernel) (by decide +kernel)
set_option maxRecDepth 20000 in
theorem gX7_whole_X7_copyRow : GoodIn wsX7_whole (va_wsS RX7 133 yX7_copyRow wsX7_copyRow) := goodIn_app (goodIn_of _ (by decide +kernel)) ggX7_whole_X7_copyRow
set_option maxRecDepth 20000 in
theorem ggX7_whole_X7_goesOn : GoodIn wsX7_whole wsX7_goesOn := goodIn_r _ [10, 1, 11, 12, 13, 5, 14, 15, 16, 17, 18, 19, 20, 21, 22, 23, 24, 25, 26, 27, 28, 29, 30, 31, 32, 33, 34, 35, 36, 37, 38, 39, 40, 41, 42, 43, 44, 45, 46, 47, 48, 49, 50, 51, 52, 53, 54, 55, 56, 57, 58, 59, 60, 61, 62, 63, 64, 65, 66, 67, 68, 69, 70, 71] (by decide +kernel) (by decide +kernel)
set_option maxRecDepth 20000 in
theorem gX7_whole_X7_goesOn : GoodIn wsX7_whole (wsV RX7 193 RX7 yX7_goesOn wsX7_goesOn) := goodIn_app (goodIn_of _ (by decide +kernel)) ggX7_whole_X7_goesOn
theorem dX7_whole_0 : decode cX7_whole 0 = .ok (.aload_n 0, 1) := by decide +kernel
theorem dX7_whole_1 : decode cX7_whole 1 = .ok (.getfield 7, 3) := by decide +kernel
theorem dX7_whole_4 : decode cX7_whole 4 = .ok (.aload_n 0, 1) := by decide +kernel
theorem dX7_whole_5 : decode cX7_whole 5 = .ok (.getfield 16, 3) := by decide +kernel
theorem dX7_whole_8 : decode cX7_whole 8 = .ok (.invokestatic 133, 3) := by decide +kernel
theorem dX7_whole_11 : decode cX7_whole 11 = .ok (.aload_n 0, 1) := by decide +kernel
theorem dX7_whole_12 : decode cX7_whole 12 = .ok (.getfield 7, 3) := by decide +kernel
theorem dX7_whole_15 : decode cX7_whole 15 = .ok (.iconst 3, 1) := by decide +kernel
theorem dX7_whole_16 : decode cX7_whole 16 = .ok (.iaload, 1) := by decide +kernel
theorem dX7_whole_17 : decode cX7_whole 17 = .ok (.bipush 8, 2) := by decide +kernel
theorem dX7_whole_19 : decode cX7_whole 19 = .ok (.idiv, 1) := by decide +kernel
theorem dX7_whole_20 : decode cX7_whole 20 = .ok (.istore_n 1, 1) := by decide +kernel
theorem dX7_whole_21 : decode cX7_whole 21 = .ok (.iconst 0, 1) := by decide +kernel
theorem dX7_whole_22 : decode cX7_whole 22 = .ok (.istore_n 2, 1) := by decide +kernel
theorem dX7_whole_23 : decode cX7_whole 23 = .ok (.iload_n 2, 1) := by decide +kernel
theorem dX7_whole_24 : decode cX7_whole 24 = .ok (.bipush 60, 2) := by decide +kernel
theorem dX7_whole_26 : decode cX7_whole 26 = .ok (.if_icmp .gt 26, 3) := by decide +kernel
theorem dX7_whole_29 : decode cX7_whole 29 = .ok (.aload_n 0, 1) := by decide +kernel
theorem dX7_whole_30 : decode cX7_whole 30 = .ok (.getfield 7, 3) := by decide +kernel
theorem dX7_whole_33 : decode cX7_whole 33 = .ok (.iconst 3, 1) := by decide +kernel
theorem dX7_whole_34 : decode cX7_whole 34 = .ok (.iaload, 1) := by decide +kernel
theorem dX7_whole_35 : decode cX7_whole 35 = .ok (.bipush 8, 2) := by decide +kernel
theorem dX7_whole_37 : decode cX7_whole 37 = .ok (.idiv, 1) := by decide +kernel
theorem dX7_whole_38 : decode cX7_whole 38 = .ok (.iload_n 1, 1) := by decide +kernel
theorem dX7_whole_39 : decode cX7_whole 39 = .ok (.if_icmp .ne 13, 3) := by decide +kernel
theorem dX7_whole_42 : decode cX7_whole 42 = .ok (.aload_n 0, 1) := by decide +kernel
theorem dX7_whole_43 : decode cX7_whole 43 = .ok (.invokevirtual 193, 3) := by decide +kernel
theorem dX7_whole_46 : decode cX7_whole 46 = .ok (.iinc 2 1, 3) := by decide +kernel
theorem dX7_whole_49 : decode cX7_whole 49 = .ok (.goto (-26), 3) := by decide +kernel
theorem dX7_whole_52 : decode cX7_whole 52 = .ok (.aload_n 0, 1) := by decide +kernel
theorem dX7_whole_53 : decode cX7_whole 53 = .ok (.getfield 16, 3) := by decide +kernel
theorem dX7_whole_56 : decode cX7_whole 56 = .ok (.aload_n 0, 1) := by decide +kernel
theorem dX7_whole_57 : decode cX7_whole 57 = .ok (.getfield 7, 3) := by decide +kernel
theorem dX7_whole_60 : decode cX7_whole 60 = .ok (.invokestatic 133, 3) := by decide +kernel
theorem dX7_whole_63 : decode cX7_whole 63 = .ok (.iload_n 2, 1) := by decide +kernel
theorem dX7_whole_64 : decode cX7_whole 64 = .ok (.bipush 60, 2) := by decide +kernel
theorem dX7_whole_66 : decode cX7_whole 66 = .ok (.if_icmp .gt 7, 3) := by decide +kernel
theorem dX7_whole_69 : decode cX7_whole 69 = .ok (.iload_n 2, 1) := by decide +kernel
theorem dX7_whole_70 : decode cX7_whole 70 = .ok (.goto 5, 3) := by decide +kernel
theorem dX7_whole_73 : decode cX7_whole 73 = .ok (.bipush (-3), 2) := by decide +kernel
theorem dX7_whole_75 : decode cX7_whole 75 = .ok (.ireturn, 1) := by decide +kernel
set_option maxRecDepth 20000 in
theorem ggX7_taleBy_X7_copyRow : GoodIn wsX7_taleBy wsX7_copyRow := goodIn_r _ [6] (by decide +kernel) (by decide +kernel)
set_option maxRecDepth 20000 in
theorem gX7_taleBy_X7_copyRow : GoodIn wsX7_taleBy (va_wsS RX7 133 yX7_copyRow wsX7_copyRow) := goodIn_app (goodIn_of _ (by decide +kernel)) ggX7_taleBy_X7_copyRow
set_option maxRecDepth 20000 in
theorem ggX7_taleBy_X7_goesOnMany : GoodIn wsX7_taleBy wsX7_goesOnMany := goodIn_r _ [10, 11, 12, 13, 5, 14, 1, 15, 16, 17, 18, 19, 20, 21, 22, 23, 24, 25, 26, 27, 28, 29, 30, 31, 32, 33, 34, 35, 36, 37, 38, 39, 40, 41, 42, 43, 44, 45, 46, 47, 48, 49, 50, 51, 52, 53, 54, 55, 56, 57, 58, 59, 60, 61, 62, 63, 64, 65, 66, 67, 68, 69, 70, 71, 72, 73, 74, 75] (by decide +kernel) (by decide +kernel)
set_option maxRecDepth 20000 in
theorem gX7_taleBy_X7_goesOnMany : GoodIn wsX7_taleBy (wsV RX7 198 RX7 yX7_goesOnMany wsX7_goesOnMany) := goodIn_app (goodIn_of _ (by decide +kernel)) ggX7_taleBy_X7_goesOnMany
theorem dX7_taleBy_0 : decode cX7_taleBy 0 = .ok (.aload_n 0, 1) := by decide +kernel
theorem dX7_taleBy_1 : decode cX7_taleBy 1 = .ok (.getfield 7, 3) := by decide +kernel
theorem dX7_taleBy_4 : decode cX7_taleBy 4 = .ok (.aload_n 0, 1) := by decide +kernel
theorem dX7_taleBy_5 : decode cX7_taleBy 5 = .ok (.getfield 16, 3) := by decide +kernel
theorem dX7_taleBy_8 : decode cX7_taleBy 8 = .ok (.invokestatic 133, 3) := by decide +kernel
theorem dX7_taleBy_11 : decode cX7_taleBy 11 = .ok (.aload_n 0, 1) := by decide +kernel
theorem dX7_taleBy_12 : decode cX7_taleBy 12 = .ok (.iload_n 1, 1) := by decide +kernel
theorem dX7_taleBy_13 : decode cX7_taleBy 13 = .ok (.invokevirtual 198, 3) := by decide +kernel
theorem dX7_taleBy_16 : decode cX7_taleBy 16 = .ok (.aload_n 0, 1) := by decide +kernel
theorem dX7_taleBy_17 : decode cX7_taleBy 17 = .ok (.getfield 7, 3) := by decide +kernel
theorem dX7_taleBy_20 : decode cX7_taleBy 20 = .ok (.iconst 3, 1) := by decide +kernel
theorem dX7_taleBy_21 : decode cX7_taleBy 21 = .ok (.iaload, 1) := by decide +kernel
theorem dX7_taleBy_22 : decode cX7_taleBy 22 = .ok (.istore_n 2, 1) := by decide +kernel
theorem dX7_taleBy_23 : decode cX7_taleBy 23 = .ok (.aload_n 0, 1) := by decide +kernel
theorem dX7_taleBy_24 : decode cX7_taleBy 24 = .ok (.getfield 16, 3) := by decide +kernel
theorem dX7_taleBy_27 : decode cX7_taleBy 27 = .ok (.aload_n 0, 1) := by decide +kernel
theorem dX7_taleBy_28 : decode cX7_taleBy 28 = .ok (.getfield 7, 3) := by decide +kernel
theorem dX7_taleBy_31 : decode cX7_taleBy 31 = .ok (.invokestatic 133, 3) := by decide +kernel
theorem dX7_taleBy_34 : decode cX7_taleBy 34 = .ok (.iload_n 2, 1) := by decide +kernel
theorem dX7_taleBy_35 : decode cX7_taleBy 35 = .ok (.ireturn, 1) := by decide +kernel
set_option maxRecDepth 20000 in
theorem ggX7_tale_X7_isIn : GoodIn wsX7_tale wsX7_isIn := goodIn_r _ [5] (by decide +kernel) (by decide +kernel)
set_option maxRecDepth 20000 in
theorem gX7_tale_X7_isIn : GoodIn wsX7_tale (va_wsS RX7 54 yX7_isIn wsX7_isIn) := goodIn_app (goodIn_of _ (by decide +kernel)) ggX7_tale_X7_isIn
set_option maxRecDepth 20000 in
theorem ggX7_tale_X7_taleBy : GoodIn wsX7_tale wsX7_taleBy := goodIn_r _ [9, 10, 11, 12, 13, 4, 14, 15, 16, 17, 18, 19, 20, 21, 22, 23, 24, 25, 26, 27, 28, 29, 30, 31, 32, 33, 34, 35, 36, 37, 38, 39, 40, 41, 42, 43, 44, 45, 46, 47, 48, 49, 50, 51, 52, 53, 54, 55, 56, 57, 58, 59, 60, 61, 62, 63, 64, 65, 66, 67, 68, 69, 70, 71, 72, 73, 74, 75, 76, 77, 78, 79, 80, 81, 82, 83] (by decide +kernel) (by decide +kernel)
set_option maxRecDepth 20000 in
theorem gX7_tale_X7_taleBy : GoodIn wsX7_tale (wsV RX7 207 RX7 yX7_taleBy wsX7_taleBy) := goodIn_app (goodIn_of _ (by decide +kernel)) ggX7_tale_X7_taleBy
theorem dX7_tale_0 : decode cX7_tale 0 = .ok (.iload_n 1, 1) := by decide +kernel
theorem dX7_tale_1 : decode cX7_tale 1 = .ok (.i2l, 1) := by decide +kernel
theorem dX7_tale_2 : decode cX7_tale 2 = .ok (.lconst 0, 1) := by decide +kernel
theorem dX7_tale_3 : decode cX7_tale 3 = .ok (.ldc2_w 196, 3) := by decide +kernel
theorem dX7_tale_6 : decode cX7_tale 6 = .ok (.invokestatic 54, 3) := by decide +kernel
theorem dX7_tale_9 : decode cX7_tale 9 = .ok (.ifCond .eq 11, 3) := by decide +kernel
theorem dX7_tale_12 : decode cX7_tale 12 = .ok (.aload_n 0, 1) := by decide +kernel
theorem dX7_tale_13 : decode cX7_tale 13 = .ok (.iload_n 1, 1) := by decide +kernel
theorem dX7_tale_14 : decode cX7_tale 14 = .ok (.invokevirtual 207, 3) := by decide +kernel
theorem dX7_tale_17 : decode cX7_tale 17 = .ok (.goto 4, 3) := by decide +kernel
theorem dX7_tale_20 : decode cX7_tale 20 = .ok (.iconst (-1), 1) := by decide +kernel
theorem dX7_tale_21 : decode cX7_tale 21 = .ok (.ireturn, 1) := by decide +kernel
set_option maxRecDepth 20000 in
theorem ggX7_isShort_X7_isIn : GoodIn wsX7_isShort wsX7_isIn := goodIn_r _ [5] (by decide +kernel) (by decide +kernel)
set_option maxRecDepth 20000 in
theorem gX7_isShort_X7_isIn : GoodIn wsX7_isShort (va_wsS RX7 54 yX7_isIn wsX7_isIn) := goodIn_app (goodIn_of _ (by decide +kernel)) ggX7_isShort_X7_isIn
theorem dX7_isShort_0 : decode cX7_isShort 0 = .ok (.iload_n 0, 1) := by decide +kernel
theorem dX7_isShort_1 : decode cX7_isShort 1 = .ok (.i2l, 1) := by decide +kernel
theorem dX7_isShort_2 : decode cX7_isShort 2 = .ok (.lconst 1, 1) := by decide +kernel
theorem dX7_isShort_3 : decode cX7_isShort 3 = .ok (.ldc2_w 228, 3) := by decide +kernel
theorem dX7_isShort_6 : decode cX7_isShort 6 = .ok (.invokestatic 54, 3) := by decide +kernel
theorem dX7_isShort_9 : decode cX7_isShort 9 = .ok (.ireturn, 1) := by decide +kernel
set_option maxRecDepth 20000 in
theorem ggX7_mostBy_X7_taleBy : GoodIn wsX7_mostBy wsX7_taleBy := goodIn_r _ [6, 1, 7, 8, 9, 5, 10, 11, 12, 13, 14, 15, 16, 17, 18, 19, 20, 21, 22, 23, 24, 25, 26, 27, 28, 29, 30, 31, 32, 33, 34, 35, 36, 37, 38, 39, 40, 41, 42, 43, 44, 45, 46, 47, 48, 49, 50, 51, 52, 53, 57, 58, 59, 60, 61, 62, 63, 64, 65, 66, 67, 68, 69, 70, 71, 72, 73, 74, 75, 76, 77, 78, 79, 80, 81, 82] (by decide +kernel) (by decide +kernel)
set_option maxRecDepth 20000 in
theorem gX7_mostBy_X7_taleBy : GoodIn wsX7_mostBy (wsV RX7 207 RX7 yX7_taleBy wsX7_taleBy) := goodIn_app (goodIn_of _ (by decide +kernel)) ggX7_mostBy_X7_taleBy
set_option maxRecDepth 20000 in
theorem ggX7_mostBy_X7_greatest : GoodIn wsX7_mostBy wsX7_greatest := goodIn_r _ [56] (by decide +kernel) (by decide +kernel)
set_option maxRecDepth 20000 in
theorem gX7_mostBy_X7_greatest : GoodIn wsX7_mostBy (va_wsS RX7 230 yX7_greatest wsX7_greatest) := goodIn_app (goodIn_of _ (by decide +kernel)) ggX7_mostBy_X7_greatest
theorem dX7_mostBy_0 : decode cX7_mostBy 0 = .ok (.aload_n 0, 1) := by decide +kernel
theorem dX7_mostBy_1 : decode cX7_mostBy 1 = .ok (.getfield 7, 3) := by decide +kernel
theorem dX7_mostBy_4 : decode cX7_mostBy 4 = .ok (.iload_n 1, 1) := by decide +kernel
theorem dX7_mostBy_5 : decode cX7_mostBy 5 = .ok (.iaload, 1) := by decide +kernel
theorem dX7_mostBy_6 : decode cX7_mostBy 6 = .ok (.istore 4, 2) := by decide +kernel
theorem dX7_mostBy_8 : decode cX7_mostBy 8 = .ok (.iconst 0, 1) := by decide +kernel
theorem dX7_mostBy_9 : decode cX7_mostBy 9 = .ok (.istore 5, 2) := by decide +kernel
theorem dX7_mostBy_11 : decode cX7_mostBy 11 = .ok (.iconst (-1), 1) := by decide +kernel
theorem dX7_mostBy_12 : decode cX7_mostBy 12 = .ok (.istore 6, 2) := by decide +kernel
theorem dX7_mostBy_14 : decode cX7_mostBy 14 = .ok (.iconst 0, 1) := by decide +kernel
theorem dX7_mostBy_15 : decode cX7_mostBy 15 = .ok (.istore 7, 2) := by decide +kernel
theorem dX7_mostBy_17 : decode cX7_mostBy 17 = .ok (.iload 7, 2) := by decide +kernel
theorem dX7_mostBy_19 : decode cX7_mostBy 19 = .ok (.iload_n 2, 1) := by decide +kernel
theorem dX7_mostBy_20 : decode cX7_mostBy 20 = .ok (.if_icmp .gt 49, 3) := by decide +kernel
theorem dX7_mostBy_23 : decode cX7_mostBy 23 = .ok (.aload_n 0, 1) := by decide +kernel
theorem dX7_mostBy_24 : decode cX7_mostBy 24 = .ok (.getfield 7, 3) := by decide +kernel
theorem dX7_mostBy_27 : decode cX7_mostBy 27 = .ok (.iload_n 1, 1) := by decide +kernel
theorem dX7_mostBy_28 : decode cX7_mostBy 28 = .ok (.iload 7, 2) := by decide +kernel
theorem dX7_mostBy_30 : decode cX7_mostBy 30 = .ok (.iastore, 1) := by decide +kernel
theorem dX7_mostBy_31 : decode cX7_mostBy 31 = .ok (.aload_n 0, 1) := by decide +kernel
theorem dX7_mostBy_32 : decode cX7_mostBy 32 = .ok (.iload_n 3, 1) := by decide +kernel
theorem dX7_mostBy_33 : decode cX7_mostBy 33 = .ok (.invokevirtual 207, 3) := by decide +kernel
theorem dX7_mostBy_36 : decode cX7_mostBy 36 = .ok (.istore 8, 2) := by decide +kernel
theorem dX7_mostBy_38 : decode cX7_mostBy 38 = .ok (.iload 8, 2) := by decide +kernel
theorem dX7_mostBy_40 : decode cX7_mostBy 40 = .ok (.iload 6, 2) := by decide +kernel
theorem dX7_mostBy_42 : decode cX7_mostBy 42 = .ok (.if_icmp .le 8, 3) := by decide +kernel
theorem dX7_mostBy_45 : decode cX7_mostBy 45 = .ok (.iload 7, 2) := by decide +kernel
theorem dX7_mostBy_47 : decode cX7_mostBy 47 = .ok (.goto 5, 3) := by decide +kernel
theorem dX7_mostBy_50 : decode cX7_mostBy 50 = .ok (.iload 5, 2) := by decide +kernel
theorem dX7_mostBy_52 : decode cX7_mostBy 52 = .ok (.istore 5, 2) := by decide +kernel
theorem dX7_mostBy_54 : decode cX7_mostBy 54 = .ok (.iload 6, 2) := by decide +kernel
theorem dX7_mostBy_56 : decode cX7_mostBy 56 = .ok (.iload 8, 2) := by decide +kernel
theorem dX7_mostBy_58 : decode cX7_mostBy 58 = .ok (.invokestatic 230, 3) := by decide +kernel
theorem dX7_mostBy_61 : decode cX7_mostBy 61 = .ok (.istore 6, 2) := by decide +kernel
theorem dX7_mostBy_63 : decode cX7_mostBy 63 = .ok (.iinc 7 1, 3) := by decide +kernel
theorem dX7_mostBy_66 : decode cX7_mostBy 66 = .ok (.goto (-49), 3) := by decide +kernel
theorem dX7_mostBy_69 : decode cX7_mostBy 69 = .ok (.aload_n 0, 1) := by decide +kernel
theorem dX7_mostBy_70 : decode cX7_mostBy 70 = .ok (.getfield 7, 3) := by decide +kernel
theorem dX7_mostBy_73 : decode cX7_mostBy 73 = .ok (.iload_n 1, 1) := by decide +kernel
theorem dX7_mostBy_74 : decode cX7_mostBy 74 = .ok (.iload 4, 2) := by decide +kernel
theorem dX7_mostBy_76 : decode cX7_mostBy 76 = .ok (.iastore, 1) := by decide +kernel
theorem dX7_mostBy_77 : decode cX7_mostBy 77 = .ok (.iload 5, 2) := by decide +kernel
theorem dX7_mostBy_79 : decode cX7_mostBy 79 = .ok (.ireturn, 1) := by decide +kernel
set_option maxRecDepth 20000 in
theorem ggX7_pieceFor_X7_isOne : GoodIn wsX7_pieceFor wsX7_isOne := goodIn_r _ [5, 6, 72, 73, 74, 75, 76, 77, 78, 79, 80, 81, 82, 83, 84, 85, 86, 87, 88, 89, 90, 91, 92, 93, 94, 95, 96, 97] (by decide +kernel) (by decide +kernel)
set_option maxRecDepth 20000 in
theorem gX7_pieceFor_X7_isOne : GoodIn wsX7_pieceFor (wsV RX7 162 RX7 yX7_isOne wsX7_isOne) := goodIn_app (goodIn_of _ (by decide +kernel)) ggX7_pieceFor_X7_isOne
set_option maxRecDepth 20000 in
theorem ggX7_pieceFor_X7_isShort : GoodIn wsX7_pieceFor wsX7_isShort := goodIn_r _ [9, 10, 11, 12, 4, 13] (by decide +kernel) (by decide +kernel)
set_option maxRecDepth 20000 in
theorem gX7_pieceFor_X7_isShort : GoodIn wsX7_pieceFor (va_wsS RX7 233 yX7_isShort wsX7_isShort) := goodIn_app (goodIn_of _ (by decide +kernel)) ggX7_pieceFor_X7_isShort
set_option maxRecDepth 20000 in
theorem ggX7_pieceFor_X7_mostBy : GoodIn wsX7_pieceFor wsX7_mostBy := goodIn_r _ [17, 6, 18, 19, 20, 4, 21, 22, 23, 24, 25, 26, 27, 28, 29, 30, 31, 32, 33, 34, 35, 36, 37, 38, 39, 40, 41, 42, 43, 44, 45, 46, 47, 48, 49, 50, 51, 52, 53, 54, 55, 56, 57, 58, 59, 60, 61, 62, 63, 64, 65, 66, 67, 68, 69, 70, 71, 72, 73, 74, 75, 76, 77, 78, 79, 80, 81, 82, 83, 84, 85, 86, 87, 88, 89, 90, 91, 92, 93, 94, 95, 96, 97] (by decide +kernel) (by decide +kernel)
set_option maxRecDepth 20000 in
theorem gX7_pieceFor_X7_mostBy : GoodIn wsX7_pieceFor (wsV RX7 236 RX7 yX7_mostBy wsX7_mostBy) := goodIn_app (goodIn_of _ (by decide +kernel)) ggX7_pieceFor_X7_mostBy
theorem dX7_pieceFor_0 : decode cX7_pieceFor 0 = .ok (.aload_n 0, 1) := by decide +kernel
theorem dX7_pieceFor_1 : decode cX7_pieceFor 1 = .ok (.iload_n 1, 1) := by decide +kernel
theorem dX7_pieceFor_2 : decode cX7_pieceFor 2 = .ok (.invokevirtual 162, 3) := by decide +kernel
theorem dX7_pieceFor_5 : decode cX7_pieceFor 5 = .ok (.ifCond .eq 28, 3) := by decide +kernel
theorem dX7_pieceFor_8 : decode cX7_pieceFor 8 = .ok (.iload_n 2, 1) := by decide +kernel
theorem dX7_pieceFor_9 : decode cX7_pieceFor 9 = .ok (.invokestatic 233, 3) := by decide +kernel
theorem dX7_pieceFor_12 : decode cX7_pieceFor 12 = .ok (.ifCond .eq 21, 3) := by decide +kernel
theorem dX7_pieceFor_15 : decode cX7_pieceFor 15 = .ok (.aload_n 0, 1) := by decide +kernel
theorem dX7_pieceFor_16 : decode cX7_pieceFor 16 = .ok (.bipush 8, 2) := by decide +kernel
theorem dX7_pieceFor_18 : decode cX7_pieceFor 18 = .ok (.iconst 5, 1) := by decide +kernel
theorem dX7_pieceFor_19 : decode cX7_pieceFor 19 = .ok (.iload_n 1, 1) := by decide +kernel
theorem dX7_pieceFor_20 : decode cX7_pieceFor 20 = .ok (.imul, 1) := by decide +kernel
theorem dX7_pieceFor_21 : decode cX7_pieceFor 21 = .ok (.iadd, 1) := by decide +kernel
theorem dX7_pieceFor_22 : decode cX7_pieceFor 22 = .ok (.iconst 1, 1) := by decide +kernel
theorem dX7_pieceFor_23 : decode cX7_pieceFor 23 = .ok (.iadd, 1) := by decide +kernel
theorem dX7_pieceFor_24 : decode cX7_pieceFor 24 = .ok (.bipush 7, 2) := by decide +kernel
theorem dX7_pieceFor_26 : decode cX7_pieceFor 26 = .ok (.iload_n 2, 1) := by decide +kernel
theorem dX7_pieceFor_27 : decode cX7_pieceFor 27 = .ok (.invokevirtual 236, 3) := by decide +kernel
theorem dX7_pieceFor_30 : decode cX7_pieceFor 30 = .ok (.goto 4, 3) := by decide +kernel
theorem dX7_pieceFor_33 : decode cX7_pieceFor 33 = .ok (.iconst (-1), 1) := by decide +kernel
theorem dX7_pieceFor_34 : decode cX7_pieceFor 34 = .ok (.ireturn, 1) := by decide +kernel
set_option maxRecDepth 20000 in
theorem ggX7_kindFor_X7_isOne : GoodIn wsX7_kindFor wsX7_isOne := goodIn_r _ [5, 6, 72, 73, 74, 75, 76, 77, 78, 79, 80, 81, 82, 83, 84, 85, 86, 87, 88, 89, 90, 91, 92, 93, 94, 95, 96, 97] (by decide +kernel) (by decide +kernel)
set_option maxRecDepth 20000 in
theorem gX7_kindFor_X7_isOne : GoodIn wsX7_kindFor (wsV RX7 162 RX7 yX7_isOne wsX7_isOne) := goodIn_app (goodIn_of _ (by decide +kernel)) ggX7_kindFor_X7_isOne
set_option maxRecDepth 20000 in
theorem ggX7_kindFor_X7_isShort : GoodIn wsX7_kindFor wsX7_isShort := goodIn_r _ [9, 10, 11, 12, 4, 13] (by decide +kernel) (by decide +kernel)
set_option maxRecDepth 20000 in
theorem gX7_kindFor_X7_isShort : GoodIn wsX7_kindFor (va_wsS RX7 233 yX7_isShort wsX7_isShort) := goodIn_app (goodIn_of _ (by decide +kernel)) ggX7_kindFor_X7_isShort
set_option maxRecDepth 20000 in
theorem ggX7_kindFor_X7_mostBy : GoodIn wsX7_kindFor wsX7_mostBy := goodIn_r _ [17, 6, 18, 19, 20, 4, 21, 22, 23, 24, 25, 26, 27, 28, 29, 30, 31, 32, 33, 34, 35, 36, 37, 38, 39, 40, 41, 42, 43, 44, 45, 46, 47, 48, 49, 50, 51, 52, 53, 54, 55, 56, 57, 58, 59, 60, 61, 62, 63, 64, 65, 66, 67, 68, 69, 70, 71, 72, 73, 74, 75, 76, 77, 78, 79, 80, 81, 82, 83, 84, 85, 86, 87, 88, 89, 90, 91, 92, 93, 94, 95, 96, 97] (by decide +kernel) (by decide +kernel)
set_option maxRecDepth 20000 in
theorem gX7_kindFor_X7_mostBy : GoodIn wsX7_kindFor (wsV RX7 236 RX7 yX7_mostBy wsX7_mostBy) := goodIn_app (goodIn_of _ (by decide +kernel)) ggX7_kindFor_X7_mostBy
theorem dX7_kindFor_0 : decode cX7_kindFor 0 = .ok (.aload_n 0, 1) := by decide +kernel
theorem dX7_kindFor_1 : decode cX7_kindFor 1 = .ok (.iload_n 1, 1) := by decide +kernel
theorem dX7_kindFor_2 : decode cX7_kindFor 2 = .ok (.invokevirtual 162, 3) := by decide +kernel
theorem dX7_kindFor_5 : decode cX7_kindFor 5 = .ok (.ifCond .eq 25, 3) := by decide +kernel
theorem dX7_kindFor_8 : decode cX7_kindFor 8 = .ok (.iload_n 2, 1) := by decide +kernel
theorem dX7_kindFor_9 : decode cX7_kindFor 9 = .ok (.invokestatic 233, 3) := by decide +kernel
theorem dX7_kindFor_12 : decode cX7_kindFor 12 = .ok (.ifCond .eq 18, 3) := by decide +kernel
theorem dX7_kindFor_15 : decode cX7_kindFor 15 = .ok (.aload_n 0, 1) := by decide +kernel
theorem dX7_kindFor_16 : decode cX7_kindFor 16 = .ok (.bipush 8, 2) := by decide +kernel
theorem dX7_kindFor_18 : decode cX7_kindFor 18 = .ok (.iconst 5, 1) := by decide +kernel
theorem dX7_kindFor_19 : decode cX7_kindFor 19 = .ok (.iload_n 1, 1) := by decide +kernel
theorem dX7_kindFor_20 : decode cX7_kindFor 20 = .ok (.imul, 1) := by decide +kernel
theorem dX7_kindFor_21 : decode cX7_kindFor 21 = .ok (.iadd, 1) := by decide +kernel
theorem dX7_kindFor_22 : decode cX7_kindFor 22 = .ok (.iconst 5, 1) := by decide +kernel
theorem dX7_kindFor_23 : decode cX7_kindFor 23 = .ok (.iload_n 2, 1) := by decide +kernel
theorem dX7_kindFor_24 : decode cX7_kindFor 24 = .ok (.invokevirtual 236, 3) := by decide +kernel
theorem dX7_kindFor_27 : decode cX7_kindFor 27 = .ok (.goto 4, 3) := by decide +kernel
theorem dX7_kindFor_30 : decode cX7_kindFor 30 = .ok (.iconst (-1), 1) := by decide +kernel
theorem dX7_kindFor_31 : decode cX7_kindFor 31 = .ok (.ireturn, 1) := by decide +kernel
set_option maxRecDepth 20000 in
theorem ggX7_goneFor_X7_isOne : GoodIn wsX7_goneFor wsX7_isOne := goodIn_r _ [6, 1, 61, 62, 63, 64, 65, 66, 67, 68, 69, 70, 71, 72, 73, 74, 75, 76, 77, 78, 79, 80, 81, 82, 83, 84, 85, 86] (by decide +kernel) (by decide +kernel)
set_option maxRecDepth 20000 in
theorem gX7_goneFor_X7_isOne : GoodIn wsX7_goneFor (wsV RX7 162 RX7 yX7_isOne wsX7_isOne) := goodIn_app (goodIn_of _ (by decide +kernel)) ggX7_goneFor_X7_isOne
set_option maxRecDepth 20000 in
theorem ggX7_goneFor_X7_isShort : GoodIn wsX7_goneFor wsX7_isShort := goodIn_r _ [9, 10, 11, 12, 5, 13] (by decide +kernel) (by decide +kernel)
set_option maxRecDepth 20000 in
theorem gX7_goneFor_X7_isShort : GoodIn wsX7_goneFor (va_wsS RX7 233 yX7_isShort wsX7_isShort) := goodIn_app (goodIn_of _ (by decide +kernel)) ggX7_goneFor_X7_isShort
set_option maxRecDepth 20000 in
theorem ggX7_goneFor_X7_speaksBy : GoodIn wsX7_goneFor wsX7_speaksBy := goodIn_r _ [17, 1, 18, 19, 20, 5, 21, 22, 23, 24, 25, 26, 27, 28, 29, 30, 31, 32, 33, 34, 35, 36, 37, 38, 39, 40, 41, 42, 43, 44, 45, 46, 47, 48, 49, 50, 51, 52, 53, 54, 55, 56, 57, 58, 59, 60, 61, 62, 63, 64, 65, 66, 67, 68, 69, 70, 71, 72, 73, 74, 75, 76, 77, 78, 79, 80, 81, 82, 83, 84, 85, 86] (by decide +kernel) (by decide +kernel)
set_option maxRecDepth 20000 in
theorem gX7_goneFor_X7_speaksBy : GoodIn wsX7_goneFor (wsV RX7 225 RX7 yX7_speaksBy wsX7_speaksBy) := goodIn_app (goodIn_of _ (by decide +kernel)) ggX7_goneFor_X7_speaksBy
theorem dX7_goneFor_0 : decode cX7_goneFor 0 = .ok (.aload_n 0, 1) := by decide +kernel
theorem dX7_goneFor_1 : decode cX7_goneFor 1 = .ok (.iload_n 1, 1) := by decide +kernel
theorem dX7_goneFor_2 : decode cX7_goneFor 2 = .ok (.invokevirtual 162, 3) := by decide +kernel
theorem dX7_goneFor_5 : decode cX7_goneFor 5 = .ok (.ifCond .eq 10, 3) := by decide +kernel
theorem dX7_goneFor_8 : decode cX7_goneFor 8 = .ok (.iload_n 2, 1) := by decide +kernel
theorem dX7_goneFor_9 : decode cX7_goneFor 9 = .ok (.invokestatic 233, 3) := by decide +kernel
theorem dX7_goneFor_12 : decode cX7_goneFor 12 = .ok (.ifCond .ne 5, 3) := by decide +kernel
theorem dX7_goneFor_15 : decode cX7_goneFor 15 = .ok (.iconst (-1), 1) := by decide +kernel
theorem dX7_goneFor_16 : decode cX7_goneFor 16 = .ok (.ireturn, 1) := by decide +kernel
theorem dX7_goneFor_17 : decode cX7_goneFor 17 = .ok (.bipush 8, 2) := by decide +kernel
theorem dX7_goneFor_19 : decode cX7_goneFor 19 = .ok (.iconst 5, 1) := by decide +kernel
theorem dX7_goneFor_20 : decode cX7_goneFor 20 = .ok (.iload_n 1, 1) := by decide +kernel
theorem dX7_goneFor_21 : decode cX7_goneFor 21 = .ok (.imul, 1) := by decide +kernel
theorem dX7_goneFor_22 : decode cX7_goneFor 22 = .ok (.iadd, 1) := by decide +kernel
theorem dX7_goneFor_23 : decode cX7_goneFor 23 = .ok (.iconst 2, 1) := by decide +kernel
theorem dX7_goneFor_24 : decode cX7_goneFor 24 = .ok (.iadd, 1) := by decide +kernel
theorem dX7_goneFor_25 : decode cX7_goneFor 25 = .ok (.istore_n 3, 1) := by decide +kernel
theorem dX7_goneFor_26 : decode cX7_goneFor 26 = .ok (.aload_n 0, 1) := by decide +kernel
theorem dX7_goneFor_27 : decode cX7_goneFor 27 = .ok (.getfield 7, 3) := by decide +kernel
theorem dX7_goneFor_30 : decode cX7_goneFor 30 = .ok (.iload_n 3, 1) := by decide +kernel
theorem dX7_goneFor_31 : decode cX7_goneFor 31 = .ok (.iaload, 1) := by decide +kernel
theorem dX7_goneFor_32 : decode cX7_goneFor 32 = .ok (.istore 4, 2) := by decide +kernel
theorem dX7_goneFor_34 : decode cX7_goneFor 34 = .ok (.bipush (-3), 2) := by decide +kernel
theorem dX7_goneFor_36 : decode cX7_goneFor 36 = .ok (.istore 5, 2) := by decide +kernel
theorem dX7_goneFor_38 : decode cX7_goneFor 38 = .ok (.iconst 0, 1) := by decide +kernel
theorem dX7_goneFor_39 : decode cX7_goneFor 39 = .ok (.istore 6, 2) := by decide +kernel
theorem dX7_goneFor_41 : decode cX7_goneFor 41 = .ok (.iload 6, 2) := by decide +kernel
theorem dX7_goneFor_43 : decode cX7_goneFor 43 = .ok (.bipush 99, 2) := by decide +kernel
theorem dX7_goneFor_45 : decode cX7_goneFor 45 = .ok (.if_icmp .gt 41, 3) := by decide +kernel
theorem dX7_goneFor_48 : decode cX7_goneFor 48 = .ok (.iload 5, 2) := by decide +kernel
theorem dX7_goneFor_50 : decode cX7_goneFor 50 = .ok (.ifCond .ge 36, 3) := by decide +kernel
theorem dX7_goneFor_53 : decode cX7_goneFor 53 = .ok (.aload_n 0, 1) := by decide +kernel
theorem dX7_goneFor_54 : decode cX7_goneFor 54 = .ok (.getfield 7, 3) := by decide +kernel
theorem dX7_goneFor_57 : decode cX7_goneFor 57 = .ok (.iload_n 3, 1) := by decide +kernel
theorem dX7_goneFor_58 : decode cX7_goneFor 58 = .ok (.iload 6, 2) := by decide +kernel
theorem dX7_goneFor_60 : decode cX7_goneFor 60 = .ok (.iastore, 1) := by decide +kernel
theorem dX7_goneFor_61 : decode cX7_goneFor 61 = .ok (.aload_n 0, 1) := by decide +kernel
theorem dX7_goneFor_62 : decode cX7_goneFor 62 = .ok (.iload_n 1, 1) := by decide +kernel
theorem dX7_goneFor_63 : decode cX7_goneFor 63 = .ok (.iload_n 2, 1) := by decide +kernel
theorem dX7_goneFor_64 : decode cX7_goneFor 64 = .ok (.invokevirtual 225, 3) := by decide +kernel
theorem dX7_goneFor_67 : decode cX7_goneFor 67 = .ok (.iload_n 2, 1) := by decide +kernel
theorem dX7_goneFor_68 : decode cX7_goneFor 68 = .ok (.if_icmp .gt 8, 3) := by decide +kernel
theorem dX7_goneFor_71 : decode cX7_goneFor 71 = .ok (.iload 6, 2) := by decide +kernel
theorem dX7_goneFor_73 : decode cX7_goneFor 73 = .ok (.goto 5, 3) := by decide +kernel
theorem dX7_goneFor_76 : decode cX7_goneFor 76 = .ok (.bipush (-3), 2) := by decide +kernel
theorem dX7_goneFor_78 : decode cX7_goneFor 78 = .ok (.istore 5, 2) := by decide +kernel
theorem dX7_goneFor_80 : decode cX7_goneFor 80 = .ok (.iinc 6 1, 3) := by decide +kernel
theorem dX7_goneFor_83 : decode cX7_goneFor 83 = .ok (.goto (-42), 3) := by decide +kernel
theorem dX7_goneFor_86 : decode cX7_goneFor 86 = .ok (.aload_n 0, 1) := by decide +kernel
theorem dX7_goneFor_87 : decode cX7_goneFor 87 = .ok (.getfield 7, 3) := by decide +kernel
theorem dX7_goneFor_90 : decode cX7_goneFor 90 = .ok (.iload_n 3, 1) := by decide +kernel
theorem dX7_goneFor_91 : decode cX7_goneFor 91 = .ok (.iload 4, 2) := by decide +kernel
theorem dX7_goneFor_93 : decode cX7_goneFor 93 = .ok (.iastore, 1) := by decide +kernel
theorem dX7_goneFor_94 : decode cX7_goneFor 94 = .ok (.iload 5, 2) := by decide +kernel
theorem dX7_goneFor_96 : decode cX7_goneFor 96 = .ok (.ireturn, 1) := by decide +kernel
set_option maxRecDepth 20000 in
theorem ggX7_depthFor_X7_isShort : GoodIn wsX7_depthFor wsX7_isShort := goodIn_r _ [6, 7, 8, 9, 5, 10] (by decide +kernel) (by decide +kernel)
set_option maxRecDepth 20000 in
theorem gX7_depthFor_X7_isShort : GoodIn wsX7_depthFor (va_wsS RX7 233 yX7_isShort wsX7_isShort) := goodIn_app (goodIn_of _ (by decide +kernel)) ggX7_depthFor_X7_isShort
set_option maxRecDepth 20000 in
theorem ggX7_depthFor_X7_copyRow : GoodIn wsX7_depthFor wsX7_copyRow := goodIn_r _ [13] (by decide +kernel) (by decide +kernel)
set_option maxRecDepth 20000 in
theorem gX7_depthFor_X7_copyRow : GoodIn wsX7_depthFor (va_wsS RX7 133 yX7_copyRow wsX7_copyRow) := goodIn_app (goodIn_of _ (by decide +kernel)) ggX7_depthFor_X7_copyRow
set_option maxRecDepth 20000 in
theorem ggX7_depthFor_X7_drownedOnes : GoodIn wsX7_depthFor wsX7_drownedOnes := goodIn_r _ [17, 1, 18, 19, 20, 5, 21, 61, 62, 63, 64, 65, 66, 67, 68, 69, 70, 71, 72, 73, 74, 75, 76, 77, 78, 79, 80, 81, 82, 83, 84, 85, 86] (by decide +kernel) (by decide +kernel)
set_option maxRecDepth 20000 in
theorem gX7_depthFor_X7_drownedOnes : GoodIn wsX7_depthFor (wsV RX7 216 RX7 yX7_drownedOnes wsX7_drownedOnes) := goodIn_app (goodIn_of _ (by decide +kernel)) ggX7_depthFor_X7_drownedOnes
set_option maxRecDepth 20000 in
theorem ggX7_depthFor_X7_goesOnMany : GoodIn wsX7_depthFor wsX7_goesOnMany := goodIn_r _ [25, 26, 27, 28, 5, 29, 1, 30, 31, 32, 33, 18, 19, 20, 21, 34, 35, 36, 37, 38, 39, 40, 41, 42, 43, 44, 45, 46, 47, 48, 49, 50, 51, 52, 53, 54, 55, 56, 57, 58, 59, 60, 61, 62, 63, 64, 65, 66, 67, 68, 69, 70, 71, 72, 73, 74, 75, 76, 77, 78, 79, 80, 81, 82, 83, 84, 85, 86] (by decide +kernel) (by decide +kernel)
set_option maxRecDepth 20000 in
theorem gX7_depthFor_X7_goesOnMany : GoodIn wsX7_depthFor (wsV RX7 198 RX7 yX7_goesOnMany wsX7_goesOnMany) := goodIn_app (goodIn_of _ (by decide +kernel)) ggX7_depthFor_X7_goesOnMany
theorem dX7_depthFor_0 : decode cX7_depthFor 0 = .ok (.iload_n 1, 1) := by decide +kernel
theorem dX7_depthFor_1 : decode cX7_depthFor 1 = .ok (.invokestatic 233, 3) := by decide +kernel
theorem dX7_depthFor_4 : decode cX7_depthFor 4 = .ok (.ifCond .ne 5, 3) := by decide +kernel
theorem dX7_depthFor_7 : decode cX7_depthFor 7 = .ok (.iconst (-1), 1) := by decide +kernel
theorem dX7_depthFor_8 : decode cX7_depthFor 8 = .ok (.ireturn, 1) := by decide +kernel
theorem dX7_depthFor_9 : decode cX7_depthFor 9 = .ok (.aload_n 0, 1) := by decide +kernel
theorem dX7_depthFor_10 : decode cX7_depthFor 10 = .ok (.getfield 7, 3) := by decide +kernel
theorem dX7_depthFor_13 : decode cX7_depthFor 13 = .ok (.bipush 6, 2) := by decide +kernel
theorem dX7_depthFor_15 : decode cX7_depthFor 15 = .ok (.iaload, 1) := by decide +kernel
theorem dX7_depthFor_16 : decode cX7_depthFor 16 = .ok (.istore_n 2, 1) := by decide +kernel
theorem dX7_depthFor_17 : decode cX7_depthFor 17 = .ok (.bipush (-3), 2) := by decide +kernel
theorem dX7_depthFor_19 : decode cX7_depthFor 19 = .ok (.istore_n 3, 1) := by decide +kernel
theorem dX7_depthFor_20 : decode cX7_depthFor 20 = .ok (.iconst 0, 1) := by decide +kernel
theorem dX7_depthFor_21 : decode cX7_depthFor 21 = .ok (.istore 4, 2) := by decide +kernel
theorem dX7_depthFor_23 : decode cX7_depthFor 23 = .ok (.iload 4, 2) := by decide +kernel
theorem dX7_depthFor_25 : decode cX7_depthFor 25 = .ok (.bipush 99, 2) := by decide +kernel
theorem dX7_depthFor_27 : decode cX7_depthFor 27 = .ok (.if_icmp .gt 72, 3) := by decide +kernel
theorem dX7_depthFor_30 : decode cX7_depthFor 30 = .ok (.iload_n 3, 1) := by decide +kernel
theorem dX7_depthFor_31 : decode cX7_depthFor 31 = .ok (.ifCond .ge 68, 3) := by decide +kernel
theorem dX7_depthFor_34 : decode cX7_depthFor 34 = .ok (.aload_n 0, 1) := by decide +kernel
theorem dX7_depthFor_35 : decode cX7_depthFor 35 = .ok (.getfield 7, 3) := by decide +kernel
theorem dX7_depthFor_38 : decode cX7_depthFor 38 = .ok (.bipush 6, 2) := by decide +kernel
theorem dX7_depthFor_40 : decode cX7_depthFor 40 = .ok (.iload 4, 2) := by decide +kernel
theorem dX7_depthFor_42 : decode cX7_depthFor 42 = .ok (.iastore, 1) := by decide +kernel
theorem dX7_depthFor_43 : decode cX7_depthFor 43 = .ok (.aload_n 0, 1) := by decide +kernel
theorem dX7_depthFor_44 : decode cX7_depthFor 44 = .ok (.getfield 7, 3) := by decide +kernel
theorem dX7_depthFor_47 : decode cX7_depthFor 47 = .ok (.aload_n 0, 1) := by decide +kernel
theorem dX7_depthFor_48 : decode cX7_depthFor 48 = .ok (.getfield 16, 3) := by decide +kernel
theorem dX7_depthFor_51 : decode cX7_depthFor 51 = .ok (.invokestatic 133, 3) := by decide +kernel
theorem dX7_depthFor_54 : decode cX7_depthFor 54 = .ok (.aload_n 0, 1) := by decide +kernel
theorem dX7_depthFor_55 : decode cX7_depthFor 55 = .ok (.invokevirtual 216, 3) := by decide +kernel
theorem dX7_depthFor_58 : decode cX7_depthFor 58 = .ok (.istore 5, 2) := by decide +kernel
theorem dX7_depthFor_60 : decode cX7_depthFor 60 = .ok (.aload_n 0, 1) := by decide +kernel
theorem dX7_depthFor_61 : decode cX7_depthFor 61 = .ok (.iload_n 1, 1) := by decide +kernel
theorem dX7_depthFor_62 : decode cX7_depthFor 62 = .ok (.invokevirtual 198, 3) := by decide +kernel
theorem dX7_depthFor_65 : decode cX7_depthFor 65 = .ok (.aload_n 0, 1) := by decide +kernel
theorem dX7_depthFor_66 : decode cX7_depthFor 66 = .ok (.invokevirtual 216, 3) := by decide +kernel
theorem dX7_depthFor_69 : decode cX7_depthFor 69 = .ok (.iload 5, 2) := by decide +kernel
theorem dX7_depthFor_71 : decode cX7_depthFor 71 = .ok (.if_icmp .ne 8, 3) := by decide +kernel
theorem dX7_depthFor_74 : decode cX7_depthFor 74 = .ok (.iload 4, 2) := by decide +kernel
theorem dX7_depthFor_76 : decode cX7_depthFor 76 = .ok (.goto 5, 3) := by decide +kernel
theorem dX7_depthFor_79 : decode cX7_depthFor 79 = .ok (.bipush (-3), 2) := by decide +kernel
theorem dX7_depthFor_81 : decode cX7_depthFor 81 = .ok (.istore_n 3, 1) := by decide +kernel
theorem dX7_depthFor_82 : decode cX7_depthFor 82 = .ok (.aload_n 0, 1) := by decide +kernel
theorem dX7_depthFor_83 : decode cX7_depthFor 83 = .ok (.getfield 16, 3) := by decide +kernel
theorem dX7_depthFor_86 : decode cX7_depthFor 86 = .ok (.aload_n 0, 1) := by decide +kernel
theorem dX7_depthFor_87 : decode cX7_depthFor 87 = .ok (.getfield 7, 3) := by decide +kernel
theorem dX7_depthFor_90 : decode cX7_depthFor 90 = .ok (.invokestatic 133, 3) := by decide +kernel
theorem dX7_depthFor_93 : decode cX7_depthFor 93 = .ok (.iinc 4 1, 3) := by decide +kernel
theorem dX7_depthFor_96 : decode cX7_depthFor 96 = .ok (.goto (-73), 3) := by decide +kernel
theorem dX7_depthFor_99 : decode cX7_depthFor 99 = .ok (.aload_n 0, 1) := by decide +kernel
theorem dX7_depthFor_100 : decode cX7_depthFor 100 = .ok (.getfield 7, 3) := by decide +kernel
theorem dX7_depthFor_103 : decode cX7_depthFor 103 = .ok (.bipush 6, 2) := by decide +kernel
theorem dX7_depthFor_105 : decode cX7_depthFor 105 = .ok (.iload_n 2, 1) := by decide +kernel
theorem dX7_depthFor_106 : decode cX7_depthFor 106 = .ok (.iastore, 1) := by decide +kernel
theorem dX7_depthFor_107 : decode cX7_depthFor 107 = .ok (.iload_n 3, 1) := by decide +kernel
theorem dX7_depthFor_108 : decode cX7_depthFor 108 = .ok (.ireturn, 1) := by decide +kernel
set_option maxRecDepth 20000 in
theorem ggX7_taleOf_X7_copyRow : GoodIn wsX7_taleOf wsX7_copyRow := goodIn_r _ [6] (by decide +kernel) (by decide +kernel)
set_option maxRecDepth 20000 in
theorem gX7_taleOf_X7_copyRow : GoodIn wsX7_taleOf (va_wsS RX7 133 yX7_copyRow wsX7_copyRow) := goodIn_app (goodIn_of _ (by decide +kernel)) ggX7_taleOf_X7_copyRow
set_option maxRecDepth 20000 in
theorem ggX7_taleOf_X7_goesOnMany : GoodIn wsX7_taleOf wsX7_goesOnMany := goodIn_r _ [10, 11, 12, 13, 5, 14, 1, 15, 16, 17, 18, 19, 20, 21, 22, 23, 24, 25, 26, 27, 28, 29, 30, 31, 32, 33, 34, 35, 36, 37, 38, 39, 40, 41, 42, 43, 44, 45, 46, 47, 48, 49, 50, 51, 52, 53, 54, 55, 56, 57, 58, 59, 60, 61, 62, 63, 64, 65, 66, 67, 68, 69, 70, 71, 72, 73, 74, 75] (by decide +kernel) (by decide +kernel)
set_option maxRecDepth 20000 in
theorem gX7_taleOf_X7_goesOnMany : GoodIn wsX7_taleOf (wsV RX7 198 RX7 yX7_goesOnMany wsX7_goesOnMany) := goodIn_app (goodIn_of _ (by decide +kernel)) ggX7_taleOf_X7_goesOnMany
theorem dX7_taleOf_0 : decode cX7_taleOf 0 = .ok (.aload_n 0, 1) := by decide +kernel
theorem dX7_taleOf_1 : decode cX7_taleOf 1 = .ok (.getfield 7, 3) := by decide +kernel
theorem dX7_taleOf_4 : decode cX7_taleOf 4 = .ok (.aload_n 0, 1) := by decide +kernel
theorem dX7_taleOf_5 : decode cX7_taleOf 5 = .ok (.getfield 16, 3) := by decide +kernel
theorem dX7_taleOf_8 : decode cX7_taleOf 8 = .ok (.invokestatic 133, 3) := by decide +kernel
theorem dX7_taleOf_11 : decode cX7_taleOf 11 = .ok (.iconst 0, 1) := by decide +kernel
theorem dX7_taleOf_12 : decode cX7_taleOf 12 = .ok (.istore_n 3, 1) := by decide +kernel
theorem dX7_taleOf_13 : decode cX7_taleOf 13 = .ok (.iload_n 3, 1) := by decide +kernel
theorem dX7_taleOf_14 : decode cX7_taleOf 14 = .ok (.aload_n 0, 1) := by decide +kernel
theorem dX7_taleOf_15 : decode cX7_taleOf 15 = .ok (.getfield 7, 3) := by decide +kernel
theorem dX7_taleOf_18 : decode cX7_taleOf 18 = .ok (.iconst 0, 1) := by decide +kernel
