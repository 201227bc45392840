set_option maxRecDepth 20000 in
theorem ggX7_kindHere_X7_isSame : GoodIn wsX7_kindHere wsX7_isSame := goodIn_r _ [22, 6, 13, 14, 15, 4, 16, 17, 18, 27, 28, 29, 30, 31, 32, 33, 34, 35, 36, 37, 38, 39, 40, 41, 42, 43, 44, 45, 46, 47, 48, 49, 50, 51, 52] (by decide +kernel) (by decide +kernel)
set_option maxRecDepth 20000 in
theorem gX7_kindHere_X7_isSame : GoodIn wsX7_kindHere (wsV RX7 101 RX7 yX7_isSame wsX7_isSame) := goodIn_app (goodIn_of _ (by decide +kernel)) ggX7_kindHere_X7_isSame
set_option maxRecDepth 20000 in
theorem ggX7_kindHere_X7_isFour : GoodIn wsX7_kindHere wsX7_isFour := goodIn_r _ [26, 7, 8, 9, 4, 10, 11, 12, 6, 13, 14, 15, 16, 17, 18, 27, 28, 29, 30, 31, 32, 33, 34, 35, 36, 37, 38, 39, 40, 41, 42, 43, 44, 45, 46, 47, 48, 49, 50, 51, 52] (by decide +kernel) (by decide +kernel)
set_option maxRecDepth 20000 in
theorem gX7_kindHere_X7_isFour : GoodIn wsX7_kindHere (wsV RX7 105 RX7 yX7_isFour wsX7_isFour) := goodIn_app (goodIn_of _ (by decide +kernel)) ggX7_kindHere_X7_isFour
theorem dX7_kindHere_0 : decode cX7_kindHere 0 = .ok (.aload_n 0, 1) := by decide +kernel
theorem dX7_kindHere_1 : decode cX7_kindHere 1 = .ok (.bipush 103, 2) := by decide +kernel
theorem dX7_kindHere_3 : decode cX7_kindHere 3 = .ok (.bipush 117, 2) := by decide +kernel
theorem dX7_kindHere_5 : decode cX7_kindHere 5 = .ok (.bipush 101, 2) := by decide +kernel
theorem dX7_kindHere_7 : decode cX7_kindHere 7 = .ok (.bipush 115, 2) := by decide +kernel
theorem dX7_kindHere_9 : decode cX7_kindHere 9 = .ok (.bipush 116, 2) := by decide +kernel
theorem dX7_kindHere_11 : decode cX7_kindHere 11 = .ok (.invokevirtual 98, 3) := by decide +kernel
theorem dX7_kindHere_14 : decode cX7_kindHere 14 = .ok (.ifCond .eq 5, 3) := by decide +kernel
theorem dX7_kindHere_17 : decode cX7_kindHere 17 = .ok (.iconst 0, 1) := by decide +kernel
theorem dX7_kindHere_18 : decode cX7_kindHere 18 = .ok (.ireturn, 1) := by decide +kernel
theorem dX7_kindHere_19 : decode cX7_kindHere 19 = .ok (.aload_n 0, 1) := by decide +kernel
theorem dX7_kindHere_20 : decode cX7_kindHere 20 = .ok (.bipush 110, 2) := by decide +kernel
theorem dX7_kindHere_22 : decode cX7_kindHere 22 = .ok (.bipush 105, 2) := by decide +kernel
theorem dX7_kindHere_24 : decode cX7_kindHere 24 = .ok (.bipush 101, 2) := by decide +kernel
theorem dX7_kindHere_26 : decode cX7_kindHere 26 = .ok (.bipush 99, 2) := by decide +kernel
theorem dX7_kindHere_28 : decode cX7_kindHere 28 = .ok (.bipush 101, 2) := by decide +kernel
theorem dX7_kindHere_30 : decode cX7_kindHere 30 = .ok (.invokevirtual 98, 3) := by decide +kernel
theorem dX7_kindHere_33 : decode cX7_kindHere 33 = .ok (.ifCond .eq 5, 3) := by decide +kernel
theorem dX7_kindHere_36 : decode cX7_kindHere 36 = .ok (.iconst 1, 1) := by decide +kernel
theorem dX7_kindHere_37 : decode cX7_kindHere 37 = .ok (.ireturn, 1) := by decide +kernel
theorem dX7_kindHere_38 : decode cX7_kindHere 38 = .ok (.aload_n 0, 1) := by decide +kernel
theorem dX7_kindHere_39 : decode cX7_kindHere 39 = .ok (.bipush 7, 2) := by decide +kernel
theorem dX7_kindHere_41 : decode cX7_kindHere 41 = .ok (.bipush 97, 2) := by decide +kernel
theorem dX7_kindHere_43 : decode cX7_kindHere 43 = .ok (.bipush 99, 2) := by decide +kernel
theorem dX7_kindHere_45 : decode cX7_kindHere 45 = .ok (.bipush 116, 2) := by decide +kernel
theorem dX7_kindHere_47 : decode cX7_kindHere 47 = .ok (.bipush 121, 2) := by decide +kernel
theorem dX7_kindHere_49 : decode cX7_kindHere 49 = .ok (.invokevirtual 94, 3) := by decide +kernel
theorem dX7_kindHere_52 : decode cX7_kindHere 52 = .ok (.ifCond .eq 19, 3) := by decide +kernel
theorem dX7_kindHere_55 : decode cX7_kindHere 55 = .ok (.aload_n 0, 1) := by decide +kernel
theorem dX7_kindHere_56 : decode cX7_kindHere 56 = .ok (.iconst 3, 1) := by decide +kernel
theorem dX7_kindHere_57 : decode cX7_kindHere 57 = .ok (.bipush 117, 2) := by decide +kernel
theorem dX7_kindHere_59 : decode cX7_kindHere 59 = .ok (.bipush 97, 2) := by decide +kernel
theorem dX7_kindHere_61 : decode cX7_kindHere 61 = .ok (.bipush 114, 2) := by decide +kernel
theorem dX7_kindHere_63 : decode cX7_kindHere 63 = .ok (.invokevirtual 101, 3) := by decide +kernel
theorem dX7_kindHere_66 : decode cX7_kindHere 66 = .ok (.ifCond .eq 5, 3) := by decide +kernel
theorem dX7_kindHere_69 : decode cX7_kindHere 69 = .ok (.iconst 2, 1) := by decide +kernel
theorem dX7_kindHere_70 : decode cX7_kindHere 70 = .ok (.ireturn, 1) := by decide +kernel
theorem dX7_kindHere_71 : decode cX7_kindHere 71 = .ok (.aload_n 0, 1) := by decide +kernel
theorem dX7_kindHere_72 : decode cX7_kindHere 72 = .ok (.bipush 104, 2) := by decide +kernel
theorem dX7_kindHere_74 : decode cX7_kindHere 74 = .ok (.bipush 101, 2) := by decide +kernel
theorem dX7_kindHere_76 : decode cX7_kindHere 76 = .ok (.bipush 105, 2) := by decide +kernel
theorem dX7_kindHere_78 : decode cX7_kindHere 78 = .ok (.bipush 114, 2) := by decide +kernel
theorem dX7_kindHere_80 : decode cX7_kindHere 80 = .ok (.invokevirtual 105, 3) := by decide +kernel
theorem dX7_kindHere_83 : decode cX7_kindHere 83 = .ok (.ifCond .eq 5, 3) := by decide +kernel
theorem dX7_kindHere_86 : decode cX7_kindHere 86 = .ok (.iconst 3, 1) := by decide +kernel
theorem dX7_kindHere_87 : decode cX7_kindHere 87 = .ok (.ireturn, 1) := by decide +kernel
theorem dX7_kindHere_88 : decode cX7_kindHere 88 = .ok (.aload_n 0, 1) := by decide +kernel
theorem dX7_kindHere_89 : decode cX7_kindHere 89 = .ok (.bipush 99, 2) := by decide +kernel
theorem dX7_kindHere_91 : decode cX7_kindHere 91 = .ok (.bipush 108, 2) := by decide +kernel
theorem dX7_kindHere_93 : decode cX7_kindHere 93 = .ok (.bipush 101, 2) := by decide +kernel
theorem dX7_kindHere_95 : decode cX7_kindHere 95 = .ok (.bipush 114, 2) := by decide +kernel
theorem dX7_kindHere_97 : decode cX7_kindHere 97 = .ok (.bipush 107, 2) := by decide +kernel
theorem dX7_kindHere_99 : decode cX7_kindHere 99 = .ok (.invokevirtual 98, 3) := by decide +kernel
theorem dX7_kindHere_102 : decode cX7_kindHere 102 = .ok (.ifCond .eq 5, 3) := by decide +kernel
theorem dX7_kindHere_105 : decode cX7_kindHere 105 = .ok (.iconst 4, 1) := by decide +kernel
theorem dX7_kindHere_106 : decode cX7_kindHere 106 = .ok (.ireturn, 1) := by decide +kernel
theorem dX7_kindHere_107 : decode cX7_kindHere 107 = .ok (.aload_n 0, 1) := by decide +kernel
theorem dX7_kindHere_108 : decode cX7_kindHere 108 = .ok (.bipush 103, 2) := by decide +kernel
theorem dX7_kindHere_110 : decode cX7_kindHere 110 = .ok (.bipush 105, 2) := by decide +kernel
theorem dX7_kindHere_112 : decode cX7_kindHere 112 = .ok (.bipush 114, 2) := by decide +kernel
theorem dX7_kindHere_114 : decode cX7_kindHere 114 = .ok (.bipush 108, 2) := by decide +kernel
theorem dX7_kindHere_116 : decode cX7_kindHere 116 = .ok (.invokevirtual 105, 3) := by decide +kernel
theorem dX7_kindHere_119 : decode cX7_kindHere 119 = .ok (.ifCond .eq 7, 3) := by decide +kernel
theorem dX7_kindHere_122 : decode cX7_kindHere 122 = .ok (.iconst 5, 1) := by decide +kernel
theorem dX7_kindHere_123 : decode cX7_kindHere 123 = .ok (.goto 4, 3) := by decide +kernel
theorem dX7_kindHere_126 : decode cX7_kindHere 126 = .ok (.iconst (-1), 1) := by decide +kernel
theorem dX7_kindHere_127 : decode cX7_kindHere 127 = .ok (.ireturn, 1) := by decide +kernel
set_option maxRecDepth 20000 in
theorem ggX7_numberTo_X7_needs : GoodIn wsX7_numberTo wsX7_needs := goodIn_r _ [11, 5, 12, 13, 14, 10, 15, 2, 3, 1, 4, 16, 17, 18, 19, 20, 21, 22, 23, 24, 25, 26, 27, 28, 29, 30, 31, 32, 33, 34, 35, 36, 37, 38, 39, 40, 41, 42, 43, 44, 45, 46, 47, 48, 49, 50, 51, 52, 53] (by decide +kernel) (by decide +kernel)
set_option maxRecDepth 20000 in
theorem gX7_numberTo_X7_needs : GoodIn wsX7_numberTo (wsV RX7 108 RX7 yX7_needs wsX7_needs) := goodIn_app (goodIn_of _ (by decide +kernel)) ggX7_numberTo_X7_needs
theorem dX7_numberTo_0 : decode cX7_numberTo 0 = .ok (.aload_n 0, 1) := by decide +kernel
theorem dX7_numberTo_1 : decode cX7_numberTo 1 = .ok (.getfield 81, 3) := by decide +kernel
theorem dX7_numberTo_4 : decode cX7_numberTo 4 = .ok (.iconst 2, 1) := by decide +kernel
theorem dX7_numberTo_5 : decode cX7_numberTo 5 = .ok (.if_icmp .ne 28, 3) := by decide +kernel
theorem dX7_numberTo_8 : decode cX7_numberTo 8 = .ok (.aload_n 0, 1) := by decide +kernel
theorem dX7_numberTo_9 : decode cX7_numberTo 9 = .ok (.getfield 64, 3) := by decide +kernel
theorem dX7_numberTo_12 : decode cX7_numberTo 12 = .ok (.aload_n 0, 1) := by decide +kernel
theorem dX7_numberTo_13 : decode cX7_numberTo 13 = .ok (.getfield 67, 3) := by decide +kernel
theorem dX7_numberTo_16 : decode cX7_numberTo 16 = .ok (.isub, 1) := by decide +kernel
theorem dX7_numberTo_17 : decode cX7_numberTo 17 = .ok (.iconst 3, 1) := by decide +kernel
theorem dX7_numberTo_18 : decode cX7_numberTo 18 = .ok (.if_icmp .gt 15, 3) := by decide +kernel
theorem dX7_numberTo_21 : decode cX7_numberTo 21 = .ok (.aload_n 0, 1) := by decide +kernel
theorem dX7_numberTo_22 : decode cX7_numberTo 22 = .ok (.getfield 84, 3) := by decide +kernel
theorem dX7_numberTo_25 : decode cX7_numberTo 25 = .ok (.iload_n 2, 1) := by decide +kernel
theorem dX7_numberTo_26 : decode cX7_numberTo 26 = .ok (.if_icmp .gt 7, 3) := by decide +kernel
theorem dX7_numberTo_29 : decode cX7_numberTo 29 = .ok (.iconst 1, 1) := by decide +kernel
theorem dX7_numberTo_30 : decode cX7_numberTo 30 = .ok (.goto 4, 3) := by decide +kernel
theorem dX7_numberTo_33 : decode cX7_numberTo 33 = .ok (.iconst 0, 1) := by decide +kernel
theorem dX7_numberTo_34 : decode cX7_numberTo 34 = .ok (.istore_n 3, 1) := by decide +kernel
theorem dX7_numberTo_35 : decode cX7_numberTo 35 = .ok (.iload_n 3, 1) := by decide +kernel
theorem dX7_numberTo_36 : decode cX7_numberTo 36 = .ok (.ifCond .eq 20, 3) := by decide +kernel
theorem dX7_numberTo_39 : decode cX7_numberTo 39 = .ok (.aload_n 0, 1) := by decide +kernel
theorem dX7_numberTo_40 : decode cX7_numberTo 40 = .ok (.getfield 87, 3) := by decide +kernel
theorem dX7_numberTo_43 : decode cX7_numberTo 43 = .ok (.ifCond .ne 13, 3) := by decide +kernel
theorem dX7_numberTo_46 : decode cX7_numberTo 46 = .ok (.aload_n 0, 1) := by decide +kernel
theorem dX7_numberTo_47 : decode cX7_numberTo 47 = .ok (.getfield 7, 3) := by decide +kernel
theorem dX7_numberTo_50 : decode cX7_numberTo 50 = .ok (.iload_n 1, 1) := by decide +kernel
theorem dX7_numberTo_51 : decode cX7_numberTo 51 = .ok (.aload_n 0, 1) := by decide +kernel
theorem dX7_numberTo_52 : decode cX7_numberTo 52 = .ok (.getfield 84, 3) := by decide +kernel
theorem dX7_numberTo_55 : decode cX7_numberTo 55 = .ok (.iastore, 1) := by decide +kernel
theorem dX7_numberTo_56 : decode cX7_numberTo 56 = .ok (.aload_n 0, 1) := by decide +kernel
theorem dX7_numberTo_57 : decode cX7_numberTo 57 = .ok (.iload_n 3, 1) := by decide +kernel
theorem dX7_numberTo_58 : decode cX7_numberTo 58 = .ok (.invokevirtual 108, 3) := by decide +kernel
theorem dX7_numberTo_61 : decode cX7_numberTo 61 = .ok (.return_, 1) := by decide +kernel
set_option maxRecDepth 20000 in
theorem ggX7_guestHere_X7_needs : GoodIn wsX7_guestHere wsX7_needs := goodIn_r _ [7, 2, 8, 9, 10, 6, 11, 12, 13, 14, 15, 16, 17, 18, 19, 20, 21, 22, 23, 24, 25, 26, 27, 48, 49, 50, 51, 52, 53, 54, 55, 56, 57, 58, 59, 60, 61, 62, 63, 64, 65, 66, 67, 68, 69, 70, 71, 72, 73] (by decide +kernel) (by decide +kernel)
set_option maxRecDepth 20000 in
theorem gX7_guestHere_X7_needs : GoodIn wsX7_guestHere (wsV RX7 108 RX7 yX7_needs wsX7_needs) := goodIn_app (goodIn_of _ (by decide +kernel)) ggX7_guestHere_X7_needs
set_option maxRecDepth 20000 in
theorem ggX7_guestHere_X7_isFour : GoodIn wsX7_guestHere wsX7_isFour := goodIn_r _ [31, 32, 33, 34, 6, 35, 14, 12, 13, 16, 17, 18, 19, 20, 21, 48, 49, 50, 51, 52, 53, 54, 55, 56, 57, 58, 59, 60, 61, 62, 63, 64, 65, 66, 67, 68, 69, 70, 71, 72, 73] (by decide +kernel) (by decide +kernel)
set_option maxRecDepth 20000 in
theorem gX7_guestHere_X7_isFour : GoodIn wsX7_guestHere (wsV RX7 105 RX7 yX7_isFour wsX7_isFour) := goodIn_app (goodIn_of _ (by decide +kernel)) ggX7_guestHere_X7_isFour
set_option maxRecDepth 20000 in
theorem ggX7_guestHere_X7_comes : GoodIn wsX7_guestHere wsX7_comes := goodIn_r _ [39, 1, 48, 49, 50, 51, 52, 53, 54, 55, 56, 57, 58, 59, 60, 61, 62, 63, 64, 65, 66, 67, 68, 69, 70, 71, 72, 73] (by decide +kernel) (by decide +kernel)
set_option maxRecDepth 20000 in
theorem gX7_guestHere_X7_comes : GoodIn wsX7_guestHere (wsV RX7 112 RX7 yX7_comes wsX7_comes) := goodIn_app (goodIn_of _ (by decide +kernel)) ggX7_guestHere_X7_comes
set_option maxRecDepth 20000 in
theorem ggX7_guestHere_X7_numberTo : GoodIn wsX7_guestHere wsX7_numberTo := goodIn_r _ [43, 14, 12, 13, 15, 2, 1, 3, 4, 5, 6, 7, 8, 9, 10, 11, 16, 17, 18, 19, 20, 21, 22, 23, 24, 25, 26, 27, 48, 49, 50, 51, 52, 53, 54, 55, 56, 57, 58, 59, 60, 61, 62, 63, 64, 65, 66, 67, 68, 69, 70, 71, 72, 73] (by decide +kernel) (by decide +kernel)
set_option maxRecDepth 20000 in
theorem gX7_guestHere_X7_numberTo : GoodIn wsX7_guestHere (wsV RX7 116 RX7 yX7_numberTo wsX7_numberTo) := goodIn_app (goodIn_of _ (by decide +kernel)) ggX7_guestHere_X7_numberTo
set_option maxRecDepth 20000 in
theorem ggX7_guestHere_X7_nextToken : GoodIn wsX7_guestHere wsX7_nextToken := goodIn_r _ [11, 12, 13, 14, 15, 16, 17, 18, 6, 19, 20, 21, 22, 23, 24, 25, 26, 27, 48, 49, 50, 51, 52, 53, 54, 55, 56, 57, 58, 59, 60, 61, 62, 63, 64, 65, 66, 67, 68, 69, 70, 71, 72, 73] (by decide +kernel) (by decide +kernel)
set_option maxRecDepth 20000 in
theorem gX7_guestHere_X7_nextToken : GoodIn wsX7_guestHere (wsV RX7 91 RX7 yX7_nextToken wsX7_nextToken) := goodIn_app (goodIn_of _ (by decide +kernel)) ggX7_guestHere_X7_nextToken
set_option maxRecDepth 20000 in
theorem ggX7_guestHere_X7_isName : GoodIn wsX7_guestHere wsX7_isName := goodIn_r _ [35, 14, 12, 13, 16, 17, 18, 6, 19, 20, 21, 48, 49, 50, 51, 52, 53, 54, 55, 56, 57, 58, 59, 60, 61, 62, 63, 64, 65, 66, 67, 68, 69, 70, 71, 72, 73] (by decide +kernel) (by decide +kernel)
set_option maxRecDepth 20000 in
theorem gX7_guestHere_X7_isName : GoodIn wsX7_guestHere (wsV RX7 94 RX7 yX7_isName wsX7_isName) := goodIn_app (goodIn_of _ (by decide +kernel)) ggX7_guestHere_X7_isName
set_option maxRecDepth 20000 in
theorem ggX7_guestHere_X7_isSame : GoodIn wsX7_guestHere wsX7_isSame := goodIn_r _ [47, 13, 16, 17, 18, 6, 19, 20, 21, 48, 49, 50, 51, 52, 53, 54, 55, 56, 57, 58, 59, 60, 61, 62, 63, 64, 65, 66, 67, 68, 69, 70, 71, 72, 73] (by decide +kernel) (by decide +kernel)
set_option maxRecDepth 20000 in
theorem gX7_guestHere_X7_isSame : GoodIn wsX7_guestHere (wsV RX7 101 RX7 yX7_isSame wsX7_isSame) := goodIn_app (goodIn_of _ (by decide +kernel)) ggX7_guestHere_X7_isSame
theorem dX7_guestHere_0 : decode cX7_guestHere 0 = .ok (.bipush 8, 2) := by decide +kernel
theorem dX7_guestHere_2 : decode cX7_guestHere 2 = .ok (.iconst 5, 1) := by decide +kernel
theorem dX7_guestHere_3 : decode cX7_guestHere 3 = .ok (.aload_n 0, 1) := by decide +kernel
theorem dX7_guestHere_4 : decode cX7_guestHere 4 = .ok (.getfield 7, 3) := by decide +kernel
theorem dX7_guestHere_7 : decode cX7_guestHere 7 = .ok (.iconst 0, 1) := by decide +kernel
theorem dX7_guestHere_8 : decode cX7_guestHere 8 = .ok (.iaload, 1) := by decide +kernel
theorem dX7_guestHere_9 : decode cX7_guestHere 9 = .ok (.imul, 1) := by decide +kernel
theorem dX7_guestHere_10 : decode cX7_guestHere 10 = .ok (.iadd, 1) := by decide +kernel
theorem dX7_guestHere_11 : decode cX7_guestHere 11 = .ok (.istore_n 2, 1) := by decide +kernel
theorem dX7_guestHere_12 : decode cX7_guestHere 12 = .ok (.aload_n 0, 1) := by decide +kernel
theorem dX7_guestHere_13 : decode cX7_guestHere 13 = .ok (.aload_n 0, 1) := by decide +kernel
theorem dX7_guestHere_14 : decode cX7_guestHere 14 = .ok (.getfield 7, 3) := by decide +kernel
theorem dX7_guestHere_17 : decode cX7_guestHere 17 = .ok (.iconst 0, 1) := by decide +kernel
theorem dX7_guestHere_18 : decode cX7_guestHere 18 = .ok (.iaload, 1) := by decide +kernel
theorem dX7_guestHere_19 : decode cX7_guestHere 19 = .ok (.bipush 8, 2) := by decide +kernel
theorem dX7_guestHere_21 : decode cX7_guestHere 21 = .ok (.if_icmp .ge 7, 3) := by decide +kernel
theorem dX7_guestHere_24 : decode cX7_guestHere 24 = .ok (.iconst 1, 1) := by decide +kernel
theorem dX7_guestHere_25 : decode cX7_guestHere 25 = .ok (.goto 4, 3) := by decide +kernel
theorem dX7_guestHere_28 : decode cX7_guestHere 28 = .ok (.iconst 0, 1) := by decide +kernel
theorem dX7_guestHere_29 : decode cX7_guestHere 29 = .ok (.invokevirtual 108, 3) := by decide +kernel
theorem dX7_guestHere_32 : decode cX7_guestHere 32 = .ok (.aload_n 0, 1) := by decide +kernel
theorem dX7_guestHere_33 : decode cX7_guestHere 33 = .ok (.aload_n 0, 1) := by decide +kernel
theorem dX7_guestHere_34 : decode cX7_guestHere 34 = .ok (.bipush 119, 2) := by decide +kernel
theorem dX7_guestHere_36 : decode cX7_guestHere 36 = .ok (.bipush 105, 2) := by decide +kernel
theorem dX7_guestHere_38 : decode cX7_guestHere 38 = .ok (.bipush 116, 2) := by decide +kernel
theorem dX7_guestHere_40 : decode cX7_guestHere 40 = .ok (.bipush 104, 2) := by decide +kernel
theorem dX7_guestHere_42 : decode cX7_guestHere 42 = .ok (.invokevirtual 105, 3) := by decide +kernel
theorem dX7_guestHere_45 : decode cX7_guestHere 45 = .ok (.invokevirtual 108, 3) := by decide +kernel
theorem dX7_guestHere_48 : decode cX7_guestHere 48 = .ok (.aload_n 0, 1) := by decide +kernel
theorem dX7_guestHere_49 : decode cX7_guestHere 49 = .ok (.getfield 87, 3) := by decide +kernel
theorem dX7_guestHere_52 : decode cX7_guestHere 52 = .ok (.ifCond .ne 9, 3) := by decide +kernel
theorem dX7_guestHere_55 : decode cX7_guestHere 55 = .ok (.aload_n 0, 1) := by decide +kernel
theorem dX7_guestHere_56 : decode cX7_guestHere 56 = .ok (.iload_n 1, 1) := by decide +kernel
theorem dX7_guestHere_57 : decode cX7_guestHere 57 = .ok (.iconst 0, 1) := by decide +kernel
theorem dX7_guestHere_58 : decode cX7_guestHere 58 = .ok (.invokevirtual 112, 3) := by decide +kernel
theorem dX7_guestHere_61 : decode cX7_guestHere 61 = .ok (.aload_n 0, 1) := by decide +kernel
theorem dX7_guestHere_62 : decode cX7_guestHere 62 = .ok (.aload_n 0, 1) := by decide +kernel
theorem dX7_guestHere_63 : decode cX7_guestHere 63 = .ok (.getfield 87, 3) := by decide +kernel
theorem dX7_guestHere_66 : decode cX7_guestHere 66 = .ok (.ifCond .eq 7, 3) := by decide +kernel
theorem dX7_guestHere_69 : decode cX7_guestHere 69 = .ok (.iconst 0, 1) := by decide +kernel
theorem dX7_guestHere_70 : decode cX7_guestHere 70 = .ok (.goto 6, 3) := by decide +kernel
theorem dX7_guestHere_73 : decode cX7_guestHere 73 = .ok (.iload_n 2, 1) := by decide +kernel
theorem dX7_guestHere_74 : decode cX7_guestHere 74 = .ok (.iconst 1, 1) := by decide +kernel
theorem dX7_guestHere_75 : decode cX7_guestHere 75 = .ok (.iadd, 1) := by decide +kernel
theorem dX7_guestHere_76 : decode cX7_guestHere 76 = .ok (.bipush 7, 2) := by decide +kernel
theorem dX7_guestHere_78 : decode cX7_guestHere 78 = .ok (.invokevirtual 116, 3) := by decide +kernel
theorem dX7_guestHere_81 : decode cX7_guestHere 81 = .ok (.aload_n 0, 1) := by decide +kernel
theorem dX7_guestHere_82 : decode cX7_guestHere 82 = .ok (.getfield 87, 3) := by decide +kernel
theorem dX7_guestHere_85 : decode cX7_guestHere 85 = .ok (.ifCond .ne 31, 3) := by decide +kernel
theorem dX7_guestHere_88 : decode cX7_guestHere 88 = .ok (.aload_n 0, 1) := by decide +kernel
theorem dX7_guestHere_89 : decode cX7_guestHere 89 = .ok (.bipush 103, 2) := by decide +kernel
theorem dX7_guestHere_91 : decode cX7_guestHere 91 = .ok (.bipush 111, 2) := by decide +kernel
theorem dX7_guestHere_93 : decode cX7_guestHere 93 = .ok (.bipush 110, 2) := by decide +kernel
theorem dX7_guestHere_95 : decode cX7_guestHere 95 = .ok (.bipush 101, 2) := by decide +kernel
theorem dX7_guestHere_97 : decode cX7_guestHere 97 = .ok (.invokevirtual 105, 3) := by decide +kernel
theorem dX7_guestHere_100 : decode cX7_guestHere 100 = .ok (.ifCond .eq 16, 3) := by decide +kernel
theorem dX7_guestHere_103 : decode cX7_guestHere 103 = .ok (.aload_n 0, 1) := by decide +kernel
theorem dX7_guestHere_104 : decode cX7_guestHere 104 = .ok (.invokevirtual 91, 3) := by decide +kernel
theorem dX7_guestHere_107 : decode cX7_guestHere 107 = .ok (.aload_n 0, 1) := by decide +kernel
theorem dX7_guestHere_108 : decode cX7_guestHere 108 = .ok (.iload_n 2, 1) := by decide +kernel
theorem dX7_guestHere_109 : decode cX7_guestHere 109 = .ok (.iconst 2, 1) := by decide +kernel
theorem dX7_guestHere_110 : decode cX7_guestHere 110 = .ok (.iadd, 1) := by decide +kernel
theorem dX7_guestHere_111 : decode cX7_guestHere 111 = .ok (.bipush 99, 2) := by decide +kernel
theorem dX7_guestHere_113 : decode cX7_guestHere 113 = .ok (.invokevirtual 116, 3) := by decide +kernel
theorem dX7_guestHere_116 : decode cX7_guestHere 116 = .ok (.aload_n 0, 1) := by decide +kernel
theorem dX7_guestHere_117 : decode cX7_guestHere 117 = .ok (.getfield 87, 3) := by decide +kernel
theorem dX7_guestHere_120 : decode cX7_guestHere 120 = .ok (.ifCond .ne 47, 3) := by decide +kernel
theorem dX7_guestHere_123 : decode cX7_guestHere 123 = .ok (.aload_n 0, 1) := by decide +kernel
theorem dX7_guestHere_124 : decode cX7_guestHere 124 = .ok (.bipush 7, 2) := by decide +kernel
theorem dX7_guestHere_126 : decode cX7_guestHere 126 = .ok (.bipush 100, 2) := by decide +kernel
theorem dX7_guestHere_128 : decode cX7_guestHere 128 = .ok (.bipush 114, 2) := by decide +kernel
theorem dX7_guestHere_130 : decode cX7_guestHere 130 = .ok (.bipush 111, 2) := by decide +kernel
theorem dX7_guestHere_132 : decode cX7_guestHere 132 = .ok (.bipush 100, 2) := by decide +kernel
theorem dX7_guestHere_134 : decode cX7_guestHere 134 = .ok (.invokevirtual 94, 3) := by decide +kernel
theorem dX7_guestHere_137 : decode cX7_guestHere 137 = .ok (.ifCond .eq 30, 3) := by decide +kernel
theorem dX7_guestHere_140 : decode cX7_guestHere 140 = .ok (.aload_n 0, 1) := by decide +kernel
theorem dX7_guestHere_141 : decode cX7_guestHere 141 = .ok (.iconst 3, 1) := by decide +kernel
theorem dX7_guestHere_142 : decode cX7_guestHere 142 = .ok (.bipush 119, 2) := by decide +kernel
theorem dX7_guestHere_144 : decode cX7_guestHere 144 = .ok (.bipush 110, 2) := by decide +kernel
theorem dX7_guestHere_146 : decode cX7_guestHere 146 = .ok (.bipush 101, 2) := by decide +kernel
theorem dX7_guestHere_148 : decode cX7_guestHere 148 = .ok (.invokevirtual 101, 3) := by decide +kernel
theorem dX7_guestHere_151 : decode cX7_guestHere 151 = .ok (.ifCond .eq 16, 3) := by decide +kernel
theorem dX7_guestHere_154 : decode cX7_guestHere 154 = .ok (.aload_n 0, 1) := by decide +kernel
theorem dX7_guestHere_155 : decode cX7_guestHere 155 = .ok (.invokevirtual 91, 3) := by decide +kernel
theorem dX7_guestHere_158 : decode cX7_guestHere 158 = .ok (.aload_n 0, 1) := by decide +kernel
theorem dX7_guestHere_159 : decode cX7_guestHere 159 = .ok (.getfield 7, 3) := by decide +kernel
theorem dX7_guestHere_162 : decode cX7_guestHere 162 = .ok (.iload_n 2, 1) := by decide +kernel
theorem dX7_guestHere_163 : decode cX7_guestHere 163 = .ok (.iconst 4, 1) := by decide +kernel
theorem dX7_guestHere_164 : decode cX7_guestHere 164 = .ok (.iadd, 1) := by decide +kernel
theorem dX7_guestHere_165 : decode cX7_guestHere 165 = .ok (.iconst 1, 1) := by decide +kernel
theorem dX7_guestHere_166 : decode cX7_guestHere 166 = .ok (.iastore, 1) := by decide +kernel
theorem dX7_guestHere_167 : decode cX7_guestHere 167 = .ok (.return_, 1) := by decide +kernel
set_option maxRecDepth 20000 in
theorem ggX7_lawHere_X7_isName : GoodIn wsX7_lawHere wsX7_isName := goodIn_r _ [5, 6, 7, 8, 9, 10, 11, 4, 12, 13, 14, 27, 28, 29, 30, 31, 32, 33, 34, 35, 36, 37, 38, 39, 40, 41, 42, 43, 44, 45, 46, 47, 48, 49, 50, 51, 52] (by decide +kernel) (by decide +kernel)
set_option maxRecDepth 20000 in
theorem gX7_lawHere_X7_isName : GoodIn wsX7_lawHere (wsV RX7 94 RX7 yX7_isName wsX7_isName) := goodIn_app (goodIn_of _ (by decide +kernel)) ggX7_lawHere_X7_isName
set_option maxRecDepth 20000 in
theorem ggX7_lawHere_X7_isSame : GoodIn wsX7_lawHere wsX7_isSame := goodIn_r _ [18, 8, 9, 10, 11, 4, 12, 13, 14, 27, 28, 29, 30, 31, 32, 33, 34, 35, 36, 37, 38, 39, 40, 41, 42, 43, 44, 45, 46, 47, 48, 49, 50, 51, 52] (by decide +kernel) (by decide +kernel)
set_option maxRecDepth 20000 in
theorem gX7_lawHere_X7_isSame : GoodIn wsX7_lawHere (wsV RX7 101 RX7 yX7_isSame wsX7_isSame) := goodIn_app (goodIn_of _ (by decide +kernel)) ggX7_lawHere_X7_isSame
set_option maxRecDepth 20000 in
theorem ggX7_lawHere_X7_isFour : GoodIn wsX7_lawHere wsX7_isFour := goodIn_r _ [22, 1, 2, 3, 4, 5, 6, 7, 8, 9, 10, 11, 12, 13, 14, 27, 28, 29, 30, 31, 32, 33, 34, 35, 36, 37, 38, 39, 40, 41, 42, 43, 44, 45, 46, 47, 48, 49, 50, 51, 52] (by decide +kernel) (by decide +kernel)
set_option maxRecDepth 20000 in
theorem gX7_lawHere_X7_isFour : GoodIn wsX7_lawHere (wsV RX7 105 RX7 yX7_isFour wsX7_isFour) := goodIn_app (goodIn_of _ (by decide +kernel)) ggX7_lawHere_X7_isFour
set_option maxRecDepth 20000 in
theorem ggX7_lawHere_X7_isFive : GoodIn wsX7_lawHere wsX7_isFive := goodIn_r _ [26, 8, 1, 2, 3, 4, 5, 6, 7, 9, 10, 11, 12, 13, 14, 27, 28, 29, 30, 31, 32, 33, 34, 35, 36, 37, 38, 39, 40, 41, 42, 43, 44, 45, 46, 47, 48, 49, 50, 51, 52] (by decide +kernel) (by decide +kernel)
set_option maxRecDepth 20000 in
theorem gX7_lawHere_X7_isFive : GoodIn wsX7_lawHere (wsV RX7 98 RX7 yX7_isFive wsX7_isFive) := goodIn_app (goodIn_of _ (by decide +kernel)) ggX7_lawHere_X7_isFive
theorem dX7_lawHere_0 : decode cX7_lawHere 0 = .ok (.aload_n 0, 1) := by decide +kernel
theorem dX7_lawHere_1 : decode cX7_lawHere 1 = .ok (.bipush 6, 2) := by decide +kernel
theorem dX7_lawHere_3 : decode cX7_lawHere 3 = .ok (.bipush 98, 2) := by decide +kernel
theorem dX7_lawHere_5 : decode cX7_lawHere 5 = .ok (.bipush 114, 2) := by decide +kernel
theorem dX7_lawHere_7 : decode cX7_lawHere 7 = .ok (.bipush 101, 2) := by decide +kernel
theorem dX7_lawHere_9 : decode cX7_lawHere 9 = .ok (.bipush 104, 2) := by decide +kernel
theorem dX7_lawHere_11 : decode cX7_lawHere 11 = .ok (.invokevirtual 94, 3) := by decide +kernel
theorem dX7_lawHere_14 : decode cX7_lawHere 14 = .ok (.ifCond .eq 19, 3) := by decide +kernel
theorem dX7_lawHere_17 : decode cX7_lawHere 17 = .ok (.aload_n 0, 1) := by decide +kernel
theorem dX7_lawHere_18 : decode cX7_lawHere 18 = .ok (.iconst 3, 1) := by decide +kernel
theorem dX7_lawHere_19 : decode cX7_lawHere 19 = .ok (.bipush 97, 2) := by decide +kernel
theorem dX7_lawHere_21 : decode cX7_lawHere 21 = .ok (.bipush 116, 2) := by decide +kernel
theorem dX7_lawHere_23 : decode cX7_lawHere 23 = .ok (.bipush 104, 2) := by decide +kernel
theorem dX7_lawHere_25 : decode cX7_lawHere 25 = .ok (.invokevirtual 101, 3) := by decide +kernel
theorem dX7_lawHere_28 : decode cX7_lawHere 28 = .ok (.ifCond .eq 5, 3) := by decide +kernel
theorem dX7_lawHere_31 : decode cX7_lawHere 31 = .ok (.iconst 4, 1) := by decide +kernel
theorem dX7_lawHere_32 : decode cX7_lawHere 32 = .ok (.ireturn, 1) := by decide +kernel
theorem dX7_lawHere_33 : decode cX7_lawHere 33 = .ok (.aload_n 0, 1) := by decide +kernel
theorem dX7_lawHere_34 : decode cX7_lawHere 34 = .ok (.bipush 115, 2) := by decide +kernel
theorem dX7_lawHere_36 : decode cX7_lawHere 36 = .ok (.bipush 97, 2) := by decide +kernel
theorem dX7_lawHere_38 : decode cX7_lawHere 38 = .ok (.bipush 108, 2) := by decide +kernel
theorem dX7_lawHere_40 : decode cX7_lawHere 40 = .ok (.bipush 116, 2) := by decide +kernel
theorem dX7_lawHere_42 : decode cX7_lawHere 42 = .ok (.invokevirtual 105, 3) := by decide +kernel
theorem dX7_lawHere_45 : decode cX7_lawHere 45 = .ok (.ifCond .eq 5, 3) := by decide +kernel
theorem dX7_lawHere_48 : decode cX7_lawHere 48 = .ok (.iconst 5, 1) := by decide +kernel
theorem dX7_lawHere_49 : decode cX7_lawHere 49 = .ok (.ireturn, 1) := by decide +kernel
theorem dX7_lawHere_50 : decode cX7_lawHere 50 = .ok (.aload_n 0, 1) := by decide +kernel
theorem dX7_lawHere_51 : decode cX7_lawHere 51 = .ok (.bipush 100, 2) := by decide +kernel
theorem dX7_lawHere_53 : decode cX7_lawHere 53 = .ok (.bipush 101, 2) := by decide +kernel
theorem dX7_lawHere_55 : decode cX7_lawHere 55 = .ok (.bipush 112, 2) := by decide +kernel
theorem dX7_lawHere_57 : decode cX7_lawHere 57 = .ok (.bipush 116, 2) := by decide +kernel
theorem dX7_lawHere_59 : decode cX7_lawHere 59 = .ok (.bipush 104, 2) := by decide +kernel
theorem dX7_lawHere_61 : decode cX7_lawHere 61 = .ok (.invokevirtual 98, 3) := by decide +kernel
theorem dX7_lawHere_64 : decode cX7_lawHere 64 = .ok (.ifCond .eq 6, 3) := by decide +kernel
theorem dX7_lawHere_67 : decode cX7_lawHere 67 = .ok (.bipush 6, 2) := by decide +kernel
theorem dX7_lawHere_69 : decode cX7_lawHere 69 = .ok (.ireturn, 1) := by decide +kernel
theorem dX7_lawHere_70 : decode cX7_lawHere 70 = .ok (.aload_n 0, 1) := by decide +kernel
theorem dX7_lawHere_71 : decode cX7_lawHere 71 = .ok (.bipush 115, 2) := by decide +kernel
theorem dX7_lawHere_73 : decode cX7_lawHere 73 = .ok (.bipush 108, 2) := by decide +kernel
theorem dX7_lawHere_75 : decode cX7_lawHere 75 = .ok (.bipush 105, 2) := by decide +kernel
theorem dX7_lawHere_77 : decode cX7_lawHere 77 = .ok (.bipush 112, 2) := by decide +kernel
theorem dX7_lawHere_79 : decode cX7_lawHere 79 = .ok (.invokevirtual 105, 3) := by decide +kernel
theorem dX7_lawHere_82 : decode cX7_lawHere 82 = .ok (.ifCond .eq 6, 3) := by decide +kernel
theorem dX7_lawHere_85 : decode cX7_lawHere 85 = .ok (.bipush 7, 2) := by decide +kernel
theorem dX7_lawHere_87 : decode cX7_lawHere 87 = .ok (.ireturn, 1) := by decide +kernel
theorem dX7_lawHere_88 : decode cX7_lawHere 88 = .ok (.aload_n 0, 1) := by decide +kernel
theorem dX7_lawHere_89 : decode cX7_lawHere 89 = .ok (.bipush 116, 2) := by decide +kernel
theorem dX7_lawHere_91 : decode cX7_lawHere 91 = .ok (.bipush 111, 2) := by decide +kernel
theorem dX7_lawHere_93 : decode cX7_lawHere 93 = .ok (.bipush 108, 2) := by decide +kernel
theorem dX7_lawHere_95 : decode cX7_lawHere 95 = .ok (.bipush 100, 2) := by decide +kernel
theorem dX7_lawHere_97 : decode cX7_lawHere 97 = .ok (.invokevirtual 105, 3) := by decide +kernel
theorem dX7_lawHere_100 : decode cX7_lawHere 100 = .ok (.ifCond .eq 7, 3) := by decide +kernel
theorem dX7_lawHere_103 : decode cX7_lawHere 103 = .ok (.iconst 3, 1) := by decide +kernel
theorem dX7_lawHere_104 : decode cX7_lawHere 104 = .ok (.goto 4, 3) := by decide +kernel
theorem dX7_lawHere_107 : decode cX7_lawHere 107 = .ok (.iconst (-1), 1) := by decide +kernel
theorem dX7_lawHere_108 : decode cX7_lawHere 108 = .ok (.ireturn, 1) := by decide +kernel
theorem dX7_mostOf_0 : decode cX7_mostOf 0 = .ok (.iload_n 0, 1) := by decide +kernel
theorem dX7_mostOf_1 : decode cX7_mostOf 1 = .ok (.iconst 2, 1) := by decide +kernel
theorem dX7_mostOf_2 : decode cX7_mostOf 2 = .ok (.if_icmp .ge 8, 3) := by decide +kernel
theorem dX7_mostOf_5 : decode cX7_mostOf 5 = .ok (.bipush 9, 2) := by decide +kernel
theorem dX7_mostOf_7 : decode cX7_mostOf 7 = .ok (.goto 5, 3) := by decide +kernel
theorem dX7_mostOf_10 : decode cX7_mostOf 10 = .ok (.bipush 99, 2) := by decide +kernel
theorem dX7_mostOf_12 : decode cX7_mostOf 12 = .ok (.ireturn, 1) := by decide +kernel
set_option maxRecDepth 20000 in
theorem ggX7_itemHere_X7_kindHere : GoodIn wsX7_itemHere wsX7_kindHere := goodIn_r _ [8, 9, 10, 11, 7, 12, 3, 13, 14, 15, 16, 2, 17, 18, 19, 20, 21, 22, 23, 24, 25, 26, 27, 28, 29, 30, 31, 67, 68, 69, 70, 71, 72, 73, 74, 75, 76, 77, 78, 79, 80, 81, 82, 83, 84, 85, 86, 87, 88, 89, 90, 91, 92] (by decide +kernel) (by decide +kernel)
set_option maxRecDepth 20000 in
theorem gX7_itemHere_X7_kindHere : GoodIn wsX7_itemHere (wsV RX7 119 RX7 yX7_kindHere wsX7_kindHere) := goodIn_app (goodIn_of _ (by decide +kernel)) ggX7_itemHere_X7_kindHere
set_option maxRecDepth 20000 in
theorem ggX7_itemHere_X7_lawHere : GoodIn wsX7_itemHere wsX7_lawHere := goodIn_r _ [35, 13, 14, 15, 7, 16, 2, 17, 3, 18, 19, 20, 21, 22, 23, 24, 25, 26, 27, 28, 29, 30, 31, 9, 10, 11, 12, 67, 68, 69, 70, 71, 72, 73, 74, 75, 76, 77, 78, 79, 80, 81, 82, 83, 84, 85, 86, 87, 88, 89, 90, 91, 92] (by decide +kernel) (by decide +kernel)
set_option maxRecDepth 20000 in
theorem gX7_itemHere_X7_lawHere : GoodIn wsX7_itemHere (wsV RX7 123 RX7 yX7_lawHere wsX7_lawHere) := goodIn_app (goodIn_of _ (by decide +kernel)) ggX7_itemHere_X7_lawHere
set_option maxRecDepth 20000 in
theorem ggX7_itemHere_X7_guestHere : GoodIn wsX7_itemHere wsX7_guestHere := goodIn_r _ [39, 40, 1, 41, 42, 43, 7, 44, 45, 46, 47, 48, 17, 3, 2, 49, 18, 19, 20, 21, 22, 23, 50, 51, 52, 53, 54, 55, 28, 29, 30, 31, 13, 14, 15, 16, 56, 57, 58, 59, 60, 61, 62, 63, 24, 25, 26, 27, 67, 68, 69, 70, 71, 72, 73, 74, 75, 76, 77, 78, 79, 80, 81, 82, 83, 84, 85, 86, 87, 88, 89, 90, 91, 92] (by decide +kernel) (by decide +kernel)
set_option maxRecDepth 20000 in
theorem gX7_itemHere_X7_guestHere : GoodIn wsX7_itemHere (wsV RX7 126 RX7 yX7_guestHere wsX7_guestHere) := goodIn_app (goodIn_of _ (by decide +kernel)) ggX7_itemHere_X7_guestHere
set_option maxRecDepth 20000 in
theorem ggX7_itemHere_X7_needs : GoodIn wsX7_itemHere wsX7_needs := goodIn_r _ [44, 1, 45, 46, 47, 7, 48, 17, 3, 2, 49, 18, 19, 20, 21, 22, 23, 50, 51, 52, 53, 54, 55, 67, 68, 69, 70, 71, 72, 73, 74, 75, 76, 77, 78, 79, 80, 81, 82, 83, 84, 85, 86, 87, 88, 89, 90, 91, 92] (by decide +kernel) (by decide +kernel)
set_option maxRecDepth 20000 in
theorem gX7_itemHere_X7_needs : GoodIn wsX7_itemHere (wsV RX7 108 RX7 yX7_needs wsX7_needs) := goodIn_app (goodIn_of _ (by decide +kernel)) ggX7_itemHere_X7_needs
set_option maxRecDepth 20000 in
theorem ggX7_itemHere_X7_mostOf : GoodIn wsX7_itemHere wsX7_mostOf := goodIn_r _ [66] (by decide +kernel) (by decide +kernel)
set_option maxRecDepth 20000 in
theorem gX7_itemHere_X7_mostOf : GoodIn wsX7_itemHere (va_wsS RX7 130 yX7_mostOf wsX7_mostOf) := goodIn_app (goodIn_of _ (by decide +kernel)) ggX7_itemHere_X7_mostOf
set_option maxRecDepth 20000 in
theorem ggX7_itemHere_X7_numberTo : GoodIn wsX7_itemHere wsX7_numberTo := goodIn_r _ [63, 2, 17, 3, 49, 1, 40, 41, 42, 43, 7, 44, 45, 46, 47, 48, 18, 19, 20, 21, 22, 23, 50, 51, 52, 53, 54, 55, 67, 68, 69, 70, 71, 72, 73, 74, 75, 76, 77, 78, 79, 80, 81, 82, 83, 84, 85, 86, 87, 88, 89, 90, 91, 92] (by decide +kernel) (by decide +kernel)
set_option maxRecDepth 20000 in
theorem gX7_itemHere_X7_numberTo : GoodIn wsX7_itemHere (wsV RX7 116 RX7 yX7_numberTo wsX7_numberTo) := goodIn_app (goodIn_of _ (by decide +kernel)) ggX7_itemHere_X7_numberTo
set_option maxRecDepth 20000 in
theorem ggX7_itemHere_X7_byteAt : GoodIn wsX7_itemHere wsX7_byteAt := goodIn_r _ [21, 22, 23, 67, 68, 69, 70, 71, 72, 73, 74, 75, 76, 77, 78, 79, 80, 81, 82, 83, 84, 85, 86, 87, 88, 89, 90, 91, 92] (by decide +kernel) (by decide +kernel)
set_option maxRecDepth 20000 in
theorem gX7_itemHere_X7_byteAt : GoodIn wsX7_itemHere (wsV RX7 70 RX7 yX7_byteAt wsX7_byteAt) := goodIn_app (goodIn_of _ (by decide +kernel)) ggX7_itemHere_X7_byteAt
theorem dX7_itemHere_0 : decode cX7_itemHere 0 = .ok (.aload_n 0, 1) := by decide +kernel
theorem dX7_itemHere_1 : decode cX7_itemHere 1 = .ok (.invokevirtual 119, 3) := by decide +kernel
theorem dX7_itemHere_4 : decode cX7_itemHere 4 = .ok (.istore_n 1, 1) := by decide +kernel
theorem dX7_itemHere_5 : decode cX7_itemHere 5 = .ok (.aload_n 0, 1) := by decide +kernel
theorem dX7_itemHere_6 : decode cX7_itemHere 6 = .ok (.invokevirtual 123, 3) := by decide +kernel
theorem dX7_itemHere_9 : decode cX7_itemHere 9 = .ok (.istore_n 2, 1) := by decide +kernel
theorem dX7_itemHere_10 : decode cX7_itemHere 10 = .ok (.iload_n 1, 1) := by decide +kernel
theorem dX7_itemHere_11 : decode cX7_itemHere 11 = .ok (.ifCond .lt 11, 3) := by decide +kernel
theorem dX7_itemHere_14 : decode cX7_itemHere 14 = .ok (.aload_n 0, 1) := by decide +kernel
theorem dX7_itemHere_15 : decode cX7_itemHere 15 = .ok (.iload_n 1, 1) := by decide +kernel
theorem dX7_itemHere_16 : decode cX7_itemHere 16 = .ok (.invokevirtual 126, 3) := by decide +kernel
theorem dX7_itemHere_19 : decode cX7_itemHere 19 = .ok (.goto 49, 3) := by decide +kernel
theorem dX7_itemHere_22 : decode cX7_itemHere 22 = .ok (.aload_n 0, 1) := by decide +kernel
theorem dX7_itemHere_23 : decode cX7_itemHere 23 = .ok (.iload_n 2, 1) := by decide +kernel
theorem dX7_itemHere_24 : decode cX7_itemHere 24 = .ok (.ifCond .lt 7, 3) := by decide +kernel
theorem dX7_itemHere_27 : decode cX7_itemHere 27 = .ok (.iconst 1, 1) := by decide +kernel
theorem dX7_itemHere_28 : decode cX7_itemHere 28 = .ok (.goto 4, 3) := by decide +kernel
theorem dX7_itemHere_31 : decode cX7_itemHere 31 = .ok (.iconst 0, 1) := by decide +kernel
theorem dX7_itemHere_32 : decode cX7_itemHere 32 = .ok (.invokevirtual 108, 3) := by decide +kernel
theorem dX7_itemHere_35 : decode cX7_itemHere 35 = .ok (.aload_n 0, 1) := by decide +kernel
theorem dX7_itemHere_36 : decode cX7_itemHere 36 = .ok (.aload_n 0, 1) := by decide +kernel
theorem dX7_itemHere_37 : decode cX7_itemHere 37 = .ok (.getfield 87, 3) := by decide +kernel
theorem dX7_itemHere_40 : decode cX7_itemHere 40 = .ok (.ifCond .eq 7, 3) := by decide +kernel
theorem dX7_itemHere_43 : decode cX7_itemHere 43 = .ok (.iconst 0, 1) := by decide +kernel
theorem dX7_itemHere_44 : decode cX7_itemHere 44 = .ok (.goto 4, 3) := by decide +kernel
theorem dX7_itemHere_47 : decode cX7_itemHere 47 = .ok (.iload_n 2, 1) := by decide +kernel
theorem dX7_itemHere_48 : decode cX7_itemHere 48 = .ok (.iload_n 2, 1) := by decide +kernel
theorem dX7_itemHere_49 : decode cX7_itemHere 49 = .ok (.iconst 3, 1) := by decide +kernel
theorem dX7_itemHere_50 : decode cX7_itemHere 50 = .ok (.if_icmp .ne 9, 3) := by decide +kernel
theorem dX7_itemHere_53 : decode cX7_itemHere 53 = .ok (.sipush 999, 3) := by decide +kernel
theorem dX7_itemHere_56 : decode cX7_itemHere 56 = .ok (.goto 9, 3) := by decide +kernel
theorem dX7_itemHere_59 : decode cX7_itemHere 59 = .ok (.iload_n 2, 1) := by decide +kernel
theorem dX7_itemHere_60 : decode cX7_itemHere 60 = .ok (.iconst 4, 1) := by decide +kernel
theorem dX7_itemHere_61 : decode cX7_itemHere 61 = .ok (.isub, 1) := by decide +kernel
theorem dX7_itemHere_62 : decode cX7_itemHere 62 = .ok (.invokestatic 130, 3) := by decide +kernel
theorem dX7_itemHere_65 : decode cX7_itemHere 65 = .ok (.invokevirtual 116, 3) := by decide +kernel
theorem dX7_itemHere_68 : decode cX7_itemHere 68 = .ok (.aload_n 0, 1) := by decide +kernel
theorem dX7_itemHere_69 : decode cX7_itemHere 69 = .ok (.aload_n 0, 1) := by decide +kernel
theorem dX7_itemHere_70 : decode cX7_itemHere 70 = .ok (.getfield 81, 3) := by decide +kernel
theorem dX7_itemHere_73 : decode cX7_itemHere 73 = .ok (.iconst 3, 1) := by decide +kernel
theorem dX7_itemHere_74 : decode cX7_itemHere 74 = .ok (.if_icmp .ne 20, 3) := by decide +kernel
theorem dX7_itemHere_77 : decode cX7_itemHere 77 = .ok (.aload_n 0, 1) := by decide +kernel
theorem dX7_itemHere_78 : decode cX7_itemHere 78 = .ok (.aload_n 0, 1) := by decide +kernel
theorem dX7_itemHere_79 : decode cX7_itemHere 79 = .ok (.getfield 67, 3) := by decide +kernel
theorem dX7_itemHere_82 : decode cX7_itemHere 82 = .ok (.invokevirtual 70, 3) := by decide +kernel
theorem dX7_itemHere_85 : decode cX7_itemHere 85 = .ok (.bipush 59, 2) := by decide +kernel
theorem dX7_itemHere_87 : decode cX7_itemHere 87 = .ok (.if_icmp .ne 7, 3) := by decide +kernel
theorem dX7_itemHere_90 : decode cX7_itemHere 90 = .ok (.iconst 1, 1) := by decide +kernel
theorem dX7_itemHere_91 : decode cX7_itemHere 91 = .ok (.goto 4, 3) := by decide +kernel
theorem dX7_itemHere_94 : decode cX7_itemHere 94 = .ok (.iconst 0, 1) := by decide +kernel
theorem dX7_itemHere_95 : decode cX7_itemHere 95 = .ok (.invokevirtual 108, 3) := by decide +kernel
theorem dX7_itemHere_98 : decode cX7_itemHere 98 = .ok (.return_, 1) := by decide +kernel
set_option maxRecDepth 20000 in
theorem ggX7_feast_X7_copyRow : GoodIn wsX7_feast wsX7_copyRow := goodIn_r _ [12] (by decide +kernel) (by decide +kernel)
set_option maxRecDepth 20000 in
theorem gX7_feast_X7_copyRow : GoodIn wsX7_feast (va_wsS RX7 133 yX7_copyRow wsX7_copyRow) := goodIn_app (goodIn_of _ (by decide +kernel)) ggX7_feast_X7_copyRow
set_option maxRecDepth 20000 in
theorem ggX7_feast_X7_begins : GoodIn wsX7_feast wsX7_begins := goodIn_r _ [16, 1, 80, 81, 82, 83, 84, 85, 86, 87, 88, 89, 90, 91, 92, 93, 94, 95, 96, 97, 98, 99, 100, 101, 102, 103, 104, 105] (by decide +kernel) (by decide +kernel)
set_option maxRecDepth 20000 in
theorem gX7_feast_X7_begins : GoodIn wsX7_feast (wsV RX7 49 RX7 yX7_begins wsX7_begins) := goodIn_app (goodIn_of _ (by decide +kernel)) ggX7_feast_X7_begins
set_option maxRecDepth 20000 in
theorem ggX7_feast_X7_nextToken : GoodIn wsX7_feast wsX7_nextToken := goodIn_r _ [20, 3, 7, 5, 21, 22, 23, 24, 11, 25, 6, 26, 27, 28, 29, 30, 31, 32, 80, 81, 82, 83, 84, 85, 86, 87, 88, 89, 90, 91, 92, 93, 94, 95, 96, 97, 98, 99, 100, 101, 102, 103, 104, 105] (by decide +kernel) (by decide +kernel)
set_option maxRecDepth 20000 in
theorem gX7_feast_X7_nextToken : GoodIn wsX7_feast (wsV RX7 91 RX7 yX7_nextToken wsX7_nextToken) := goodIn_app (goodIn_of _ (by decide +kernel)) ggX7_feast_X7_nextToken
set_option maxRecDepth 20000 in
theorem ggX7_feast_X7_itemHere : GoodIn wsX7_feast wsX7_itemHere := goodIn_r _ [36, 4, 5, 7, 37, 38, 39, 11, 40, 41, 42, 43, 44, 45, 46, 47, 48, 3, 22, 23, 24, 25, 6, 26, 49, 50, 51, 52, 53, 54, 55, 56, 57, 58, 59, 60, 61, 62, 63, 64, 1, 65, 66, 67, 68, 17, 18, 19, 20, 21, 27, 28, 29, 30, 31, 32, 69, 70, 71, 72, 73, 74, 75, 76, 77, 78, 79, 80, 81, 82, 83, 84, 85, 86, 87, 88, 89, 90, 91, 92, 93, 94, 95, 96, 97, 98, 99, 100, 101, 102, 103, 104, 105] (by decide +kernel) (by decide +kernel)
set_option maxRecDepth 20000 in
theorem gX7_feast_X7_itemHere : GoodIn wsX7_feast (wsV RX7 137 RX7 yX7_itemHere wsX7_itemHere) := goodIn_app (goodIn_of _ (by decide +kernel)) ggX7_feast_X7_itemHere
theorem dX7_feast_0 : decode cX7_feast 0 = .ok (.aload_n 0, 1) := by decide +kernel
theorem dX7_feast_1 : decode cX7_feast 1 = .ok (.getfield 7, 3) := by decide +kernel
theorem dX7_feast_4 : decode cX7_feast 4 = .ok (.aload_n 0, 1) := by decide +kernel
theorem dX7_feast_5 : decode cX7_feast 5 = .ok (.getfield 19, 3) := by decide +kernel
theorem dX7_feast_8 : decode cX7_feast 8 = .ok (.invokestatic 133, 3) := by decide +kernel
theorem dX7_feast_11 : decode cX7_feast 11 = .ok (.aload_n 0, 1) := by decide +kernel
theorem dX7_feast_12 : decode cX7_feast 12 = .ok (.invokevirtual 49, 3) := by decide +kernel
theorem dX7_feast_15 : decode cX7_feast 15 = .ok (.aload_n 0, 1) := by decide +kernel
theorem dX7_feast_16 : decode cX7_feast 16 = .ok (.iconst 0, 1) := by decide +kernel
theorem dX7_feast_17 : decode cX7_feast 17 = .ok (.putfield 64, 3) := by decide +kernel
theorem dX7_feast_20 : decode cX7_feast 20 = .ok (.aload_n 0, 1) := by decide +kernel
theorem dX7_feast_21 : decode cX7_feast 21 = .ok (.iconst 0, 1) := by decide +kernel
theorem dX7_feast_22 : decode cX7_feast 22 = .ok (.putfield 87, 3) := by decide +kernel
theorem dX7_feast_25 : decode cX7_feast 25 = .ok (.aload_n 0, 1) := by decide +kernel
theorem dX7_feast_26 : decode cX7_feast 26 = .ok (.invokevirtual 91, 3) := by decide +kernel
theorem dX7_feast_29 : decode cX7_feast 29 = .ok (.aload_n 0, 1) := by decide +kernel
theorem dX7_feast_30 : decode cX7_feast 30 = .ok (.getfield 87, 3) := by decide +kernel
theorem dX7_feast_33 : decode cX7_feast 33 = .ok (.ifCond .ne 17, 3) := by decide +kernel
theorem dX7_feast_36 : decode cX7_feast 36 = .ok (.aload_n 0, 1) := by decide +kernel
theorem dX7_feast_37 : decode cX7_feast 37 = .ok (.getfield 81, 3) := by decide +kernel
theorem dX7_feast_40 : decode cX7_feast 40 = .ok (.ifCond .eq 10, 3) := by decide +kernel
theorem dX7_feast_43 : decode cX7_feast 43 = .ok (.aload_n 0, 1) := by decide +kernel
theorem dX7_feast_44 : decode cX7_feast 44 = .ok (.invokevirtual 137, 3) := by decide +kernel
theorem dX7_feast_47 : decode cX7_feast 47 = .ok (.goto (-18), 3) := by decide +kernel
theorem dX7_feast_50 : decode cX7_feast 50 = .ok (.aload_n 0, 1) := by decide +kernel
theorem dX7_feast_51 : decode cX7_feast 51 = .ok (.iconst 0, 1) := by decide +kernel
theorem dX7_feast_52 : decode cX7_feast 52 = .ok (.putfield 58, 3) := by decide +kernel
theorem dX7_feast_55 : decode cX7_feast 55 = .ok (.aload_n 0, 1) := by decide +kernel
theorem dX7_feast_56 : decode cX7_feast 56 = .ok (.getfield 87, 3) := by decide +kernel
theorem dX7_feast_59 : decode cX7_feast 59 = .ok (.ifCond .eq 22, 3) := by decide +kernel
theorem dX7_feast_62 : decode cX7_feast 62 = .ok (.aload_n 0, 1) := by decide +kernel
theorem dX7_feast_63 : decode cX7_feast 63 = .ok (.getfield 19, 3) := by decide +kernel
theorem dX7_feast_66 : decode cX7_feast 66 = .ok (.aload_n 0, 1) := by decide +kernel
theorem dX7_feast_67 : decode cX7_feast 67 = .ok (.getfield 7, 3) := by decide +kernel
theorem dX7_feast_70 : decode cX7_feast 70 = .ok (.invokestatic 133, 3) := by decide +kernel
theorem dX7_feast_73 : decode cX7_feast 73 = .ok (.bipush (-100), 2) := by decide +kernel
theorem dX7_feast_75 : decode cX7_feast 75 = .ok (.aload_n 0, 1) := by decide +kernel
theorem dX7_feast_76 : decode cX7_feast 76 = .ok (.getfield 67, 3) := by decide +kernel
theorem dX7_feast_79 : decode cX7_feast 79 = .ok (.isub, 1) := by decide +kernel
theorem dX7_feast_80 : decode cX7_feast 80 = .ok (.ireturn, 1) := by decide +kernel
theorem dX7_feast_81 : decode cX7_feast 81 = .ok (.aload_n 0, 1) := by decide +kernel
theorem dX7_feast_82 : decode cX7_feast 82 = .ok (.iconst 0, 1) := by decide +kernel
theorem dX7_feast_83 : decode cX7_feast 83 = .ok (.putfield 140, 3) := by decide +kernel
theorem dX7_feast_86 : decode cX7_feast 86 = .ok (.aload_n 0, 1) := by decide +kernel
theorem dX7_feast_87 : decode cX7_feast 87 = .ok (.getfield 7, 3) := by decide +kernel
theorem dX7_feast_90 : decode cX7_feast 90 = .ok (.iconst 0, 1) := by decide +kernel
theorem dX7_feast_91 : decode cX7_feast 91 = .ok (.iaload, 1) := by decide +kernel
theorem dX7_feast_92 : decode cX7_feast 92 = .ok (.ireturn, 1) := by decide +kernel
set_option maxRecDepth 20000 in
theorem ggX7_set_X7_isIn : GoodIn wsX7_set wsX7_isIn := goodIn_r _ [5] (by decide +kernel) (by decide +kernel)
set_option maxRecDepth 20000 in
theorem gX7_set_X7_isIn : GoodIn wsX7_set (va_wsS RX7 54 yX7_isIn wsX7_isIn) := goodIn_app (goodIn_of _ (by decide +kernel)) ggX7_set_X7_isIn
set_option maxRecDepth 20000 in
theorem ggX7_set_X7_mostOf : GoodIn wsX7_set wsX7_mostOf := goodIn_r _ [8] (by decide +kernel) (by decide +kernel)
set_option maxRecDepth 20000 in
theorem gX7_set_X7_mostOf : GoodIn wsX7_set (va_wsS RX7 130 yX7_mostOf wsX7_mostOf) := goodIn_app (goodIn_of _ (by decide +kernel)) ggX7_set_X7_mostOf
set_option maxRecDepth 20000 in
theorem ggX7_set_X7_becomes : GoodIn wsX7_set wsX7_becomes := goodIn_r _ [12, 13, 14, 15, 16, 17, 18, 19, 20, 21, 22, 23, 24, 25, 26, 27, 28, 29, 30, 31, 32, 33, 34, 35, 36, 37, 38, 39] (by decide +kernel) (by decide +kernel)
set_option maxRecDepth 20000 in
theorem gX7_set_X7_becomes : GoodIn wsX7_set (wsV RX7 145 RX7 yX7_becomes wsX7_becomes) := goodIn_app (goodIn_of _ (by decide +kernel)) ggX7_set_X7_becomes
theorem dX7_set_0 : decode cX7_set 0 = .ok (.iload_n 1, 1) := by decide +kernel
theorem dX7_set_1 : decode cX7_set 1 = .ok (.i2l, 1) := by decide +kernel
theorem dX7_set_2 : decode cX7_set 2 = .ok (.lconst 0, 1) := by decide +kernel
theorem dX7_set_3 : decode cX7_set 3 = .ok (.ldc2_w 143, 3) := by decide +kernel
theorem dX7_set_6 : decode cX7_set 6 = .ok (.invokestatic 54, 3) := by decide +kernel
theorem dX7_set_9 : decode cX7_set 9 = .ok (.ifCond .eq 28, 3) := by decide +kernel
theorem dX7_set_12 : decode cX7_set 12 = .ok (.iload_n 2, 1) := by decide +kernel
theorem dX7_set_13 : decode cX7_set 13 = .ok (.i2l, 1) := by decide +kernel
theorem dX7_set_14 : decode cX7_set 14 = .ok (.lconst 0, 1) := by decide +kernel
theorem dX7_set_15 : decode cX7_set 15 = .ok (.iload_n 1, 1) := by decide +kernel
theorem dX7_set_16 : decode cX7_set 16 = .ok (.invokestatic 130, 3) := by decide +kernel
theorem dX7_set_19 : decode cX7_set 19 = .ok (.i2l, 1) := by decide +kernel
theorem dX7_set_20 : decode cX7_set 20 = .ok (.invokestatic 54, 3) := by decide +kernel
theorem dX7_set_23 : decode cX7_set 23 = .ok (.ifCond .eq 14, 3) := by decide +kernel
theorem dX7_set_26 : decode cX7_set 26 = .ok (.aload_n 0, 1) := by decide +kernel
theorem dX7_set_27 : decode cX7_set 27 = .ok (.iconst 4, 1) := by decide +kernel
theorem dX7_set_28 : decode cX7_set 28 = .ok (.iload_n 1, 1) := by decide +kernel
theorem dX7_set_29 : decode cX7_set 29 = .ok (.iadd, 1) := by decide +kernel
theorem dX7_set_30 : decode cX7_set 30 = .ok (.iload_n 2, 1) := by decide +kernel
theorem dX7_set_31 : decode cX7_set 31 = .ok (.invokevirtual 145, 3) := by decide +kernel
theorem dX7_set_34 : decode cX7_set 34 = .ok (.goto 4, 3) := by decide +kernel
theorem dX7_set_37 : decode cX7_set 37 = .ok (.iconst (-1), 1) := by decide +kernel
theorem dX7_set_38 : decode cX7_set 38 = .ok (.ireturn, 1) := by decide +kernel
set_option maxRecDepth 20000 in
theorem ggX7_lawOf_X7_isIn : GoodIn wsX7_lawOf wsX7_isIn := goodIn_r _ [6] (by decide +kernel) (by decide +kernel)
set_option maxRecDepth 20000 in
theorem gX7_lawOf_X7_isIn : GoodIn wsX7_lawOf (va_wsS RX7 54 yX7_isIn wsX7_isIn) := goodIn_app (goodIn_of _ (by decide +kernel)) ggX7_lawOf_X7_isIn
theorem dX7_lawOf_0 : decode cX7_lawOf 0 = .ok (.iload_n 1, 1) := by decide +kernel
theorem dX7_lawOf_1 : decode cX7_lawOf 1 = .ok (.i2l, 1) := by decide +kernel
theorem dX7_lawOf_2 : decode cX7_lawOf 2 = .ok (.lconst 0, 1) := by decide +kernel
theorem dX7_lawOf_3 : decode cX7_lawOf 3 = .ok (.ldc2_w 143, 3) := by decide +kernel
theorem dX7_lawOf_6 : decode cX7_lawOf 6 = .ok (.invokestatic 54, 3) := by decide +kernel
theorem dX7_lawOf_9 : decode cX7_lawOf 9 = .ok (.ifCond .eq 14, 3) := by decide +kernel
theorem dX7_lawOf_12 : decode cX7_lawOf 12 = .ok (.aload_n 0, 1) := by decide +kernel
theorem dX7_lawOf_13 : decode cX7_lawOf 13 = .ok (.getfield 7, 3) := by decide +kernel
theorem dX7_lawOf_16 : decode cX7_lawOf 16 = .ok (.iconst 4, 1) := by decide +kernel
theorem dX7_lawOf_17 : decode cX7_lawOf 17 = .ok (.iload_n 1, 1) := by decide +kernel
theorem dX7_lawOf_18 : decode cX7_lawOf 18 = .ok (.iadd, 1) := by decide +kernel
theorem dX7_lawOf_19 : decode cX7_lawOf 19 = .ok (.iaload, 1) := by decide +kernel
theorem dX7_lawOf_20 : decode cX7_lawOf 20 = .ok (.goto 4, 3) := by decide +kernel
theorem dX7_lawOf_23 : decode cX7_lawOf 23 = .ok (.iconst (-1), 1) := by decide +kernel
theorem dX7_lawOf_24 : decode cX7_lawOf 24 = .ok (.ireturn, 1) := by decide +kernel
theorem dX7_comes_0 : decode cX7_comes 0 = .ok (.bipush 8, 2) := by decide +kernel
theorem dX7_comes_2 : decode cX7_comes 2 = .ok (.iconst 5, 1) := by decide +kernel
theorem dX7_comes_3 : decode cX7_comes 3 = .ok (.aload_n 0, 1) := by decide +kernel
theorem dX7_comes_4 : decode cX7_comes 4 = .ok (.getfield 7, 3) := by decide +kernel
theorem dX7_comes_7 : decode cX7_comes 7 = .ok (.iconst 0, 1) := by decide +kernel
theorem dX7_comes_8 : decode cX7_comes 8 = .ok (.iaload, 1) := by decide +kernel
theorem dX7_comes_9 : decode cX7_comes 9 = .ok (.imul, 1) := by decide +kernel
theorem dX7_comes_10 : decode cX7_comes 10 = .ok (.iadd, 1) := by decide +kernel
theorem dX7_comes_11 : decode cX7_comes 11 = .ok (.istore_n 3, 1) := by decide +kernel
theorem dX7_comes_12 : decode cX7_comes 12 = .ok (.aload_n 0, 1) := by decide +kernel
theorem dX7_comes_13 : decode cX7_comes 13 = .ok (.getfield 7, 3) := by decide +kernel
theorem dX7_comes_16 : decode cX7_comes 16 = .ok (.iload_n 3, 1) := by decide +kernel
theorem dX7_comes_17 : decode cX7_comes 17 = .ok (.iload_n 1, 1) := by decide +kernel
theorem dX7_comes_18 : decode cX7_comes 18 = .ok (.iastore, 1) := by decide +kernel
theorem dX7_comes_19 : decode cX7_comes 19 = .ok (.aload_n 0, 1) := by decide +kernel
theorem dX7_comes_20 : decode cX7_comes 20 = .ok (.getfield 7, 3) := by decide +kernel
theorem dX7_comes_23 : decode cX7_comes 23 = .ok (.iload_n 3, 1) := by decide +kernel
theorem dX7_comes_24 : decode cX7_comes 24 = .ok (.iconst 1, 1) := by decide +kernel
theorem dX7_comes_25 : decode cX7_comes 25 = .ok (.iadd, 1) := by decide +kernel
theorem dX7_comes_26 : decode cX7_comes 26 = .ok (.iload_n 2, 1) := by decide +kernel
theorem dX7_comes_27 : decode cX7_comes 27 = .ok (.iastore, 1) := by decide +kernel
theorem dX7_comes_28 : decode cX7_comes 28 = .ok (.aload_n 0, 1) := by decide +kernel
theorem dX7_comes_29 : decode cX7_comes 29 = .ok (.getfield 7, 3) := by decide +kernel
theorem dX7_comes_32 : decode cX7_comes 32 = .ok (.iload_n 3, 1) := by decide +kernel
theorem dX7_comes_33 : decode cX7_comes 33 = .ok (.iconst 2, 1) := by decide +kernel
theorem dX7_comes_34 : decode cX7_comes 34 = .ok (.iadd, 1) := by decide +kernel
theorem dX7_comes_35 : decode cX7_comes 35 = .ok (.iconst 0, 1) := by decide +kernel
theorem dX7_comes_36 : decode cX7_comes 36 = .ok (.iastore, 1) := by decide +kernel
theorem dX7_comes_37 : decode cX7_comes 37 = .ok (.aload_n 0, 1) := by decide +kernel
theorem dX7_comes_38 : decode cX7_comes 38 = .ok (.getfield 7, 3) := by decide +kernel
theorem dX7_comes_41 : decode cX7_comes 41 = .ok (.iload_n 3, 1) := by decide +kernel
theorem dX7_comes_42 : decode cX7_comes 42 = .ok (.iconst 3, 1) := by decide +kernel
theorem dX7_comes_43 : decode cX7_comes 43 = .ok (.iadd, 1) := by decide +kernel
theorem dX7_comes_44 : decode cX7_comes 44 = .ok (.iconst 0, 1) := by decide +kernel
theorem dX7_comes_45 : decode cX7_comes 45 = .ok (.iastore, 1) := by decide +kernel
theorem dX7_comes_46 : decode cX7_comes 46 = .ok (.aload_n 0, 1) := by decide +kernel
theorem dX7_comes_47 : decode cX7_comes 47 = .ok (.getfield 7, 3) := by decide +kernel
theorem dX7_comes_50 : decode cX7_comes 50 = .ok (.iload_n 3, 1) := by decide +kernel
theorem dX7_comes_51 : decode cX7_comes 51 = .ok (.iconst 4, 1) := by decide +kernel
theorem dX7_comes_52 : decode cX7_comes 52 = .ok (.iadd, 1) := by decide +kernel
theorem dX7_comes_53 : decode cX7_comes 53 = .ok (.iconst 0, 1) := by decide +kernel
theorem dX7_comes_54 : decode cX7_comes 54 = .ok (.iastore, 1) := by decide +kernel
theorem dX7_comes_55 : decode cX7_comes 55 = .ok (.aload_n 0, 1) := by decide +kernel
theorem dX7_comes_56 : decode cX7_comes 56 = .ok (.getfield 7, 3) := by decide +kernel
theorem dX7_comes_59 : decode cX7_comes 59 = .ok (.iconst 0, 1) := by decide +kernel
theorem dX7_comes_60 : decode cX7_comes 60 = .ok (.dup2, 1) := by decide +kernel
theorem dX7_comes_61 : decode cX7_comes 61 = .ok (.iaload, 1) := by decide +kernel
theorem dX7_comes_62 : decode cX7_comes 62 = .ok (.iconst 1, 1) := by decide +kernel
theorem dX7_comes_63 : decode cX7_comes 63 = .ok (.iadd, 1) := by decide +kernel
theorem dX7_comes_64 : decode cX7_comes 64 = .ok (.iastore, 1) := by decide +kernel
theorem dX7_comes_65 : decode cX7_comes 65 = .ok (.return_, 1) := by decide +kernel
set_option maxRecDepth 20000 in
theorem ggX7_isPiece_X7_isIn : GoodIn wsX7_isPiece wsX7_isIn := goodIn_r _ [5] (by decide +kernel) (by decide +kernel)
set_option maxRecDepth 20000 in
theorem gX7_isPiece_X7_isIn : GoodIn wsX7_isPiece (va_wsS RX7 54 yX7_isIn wsX7_isIn) := goodIn_app (goodIn_of _ (by decide +kernel)) ggX7_isPiece_X7_isIn
theorem dX7_isPiece_0 : decode cX7_isPiece 0 = .ok (.iload_n 0, 1) := by decide +kernel
theorem dX7_isPiece_1 : decode cX7_isPiece 1 = .ok (.i2l, 1) := by decide +kernel
theorem dX7_isPiece_2 : decode cX7_isPiece 2 = .ok (.lconst 0, 1) := by decide +kernel
theorem dX7_isPiece_3 : decode cX7_isPiece 3 = .ok (.ldc2_w 149, 3) := by decide +kernel
theorem dX7_isPiece_6 : decode cX7_isPiece 6 = .ok (.invokestatic 54, 3) := by decide +kernel
theorem dX7_isPiece_9 : decode cX7_isPiece 9 = .ok (.ireturn, 1) := by decide +kernel
set_option maxRecDepth 20000 in
theorem ggX7_guest_X7_isIn : GoodIn wsX7_guest wsX7_isIn := goodIn_r _ [6] (by decide +kernel) (by decide +kernel)
set_option maxRecDepth 20000 in
theorem gX7_guest_X7_isIn : GoodIn wsX7_guest (va_wsS RX7 54 yX7_isIn wsX7_isIn) := goodIn_app (goodIn_of _ (by decide +kernel)) ggX7_guest_X7_isIn
set_option maxRecDepth 20000 in
theorem ggX7_guest_X7_isPiece : GoodIn wsX7_guest wsX7_isPiece := goodIn_r _ [9, 10, 3, 4, 5, 6] (by decide +kernel) (by decide +kernel)
set_option maxRecDepth 20000 in
theorem gX7_guest_X7_isPiece : GoodIn wsX7_guest (va_wsS RX7 153 yX7_isPiece wsX7_isPiece) := goodIn_app (goodIn_of _ (by decide +kernel)) ggX7_guest_X7_isPiece
set_option maxRecDepth 20000 in
theorem ggX7_guest_X7_comes : GoodIn wsX7_guest wsX7_comes := goodIn_r _ [14, 2, 15, 16, 17, 18, 19, 20, 21, 22, 23, 24, 25, 26, 27, 28, 29, 30, 31, 32, 33, 34, 35, 36, 37, 38, 39, 40] (by decide +kernel) (by decide +kernel)
set_option maxRecDepth 20000 in
theorem gX7_guest_X7_comes : GoodIn wsX7_guest (wsV RX7 112 RX7 yX7_comes wsX7_comes) := goodIn_app (goodIn_of _ (by decide +kernel)) ggX7_guest_X7_comes
theorem dX7_guest_0 : decode cX7_guest 0 = .ok (.iload_n 1, 1) := by decide +kernel
theorem dX7_guest_1 : decode cX7_guest 1 = .ok (.i2l, 1) := by decide +kernel
theorem dX7_guest_2 : decode cX7_guest 2 = .ok (.lconst 0, 1) := by decide +kernel
theorem dX7_guest_3 : decode cX7_guest 3 = .ok (.ldc2_w 151, 3) := by decide +kernel
theorem dX7_guest_6 : decode cX7_guest 6 = .ok (.invokestatic 54, 3) := by decide +kernel
theorem dX7_guest_9 : decode cX7_guest 9 = .ok (.ifCond .eq 10, 3) := by decide +kernel
theorem dX7_guest_12 : decode cX7_guest 12 = .ok (.iload_n 2, 1) := by decide +kernel
theorem dX7_guest_13 : decode cX7_guest 13 = .ok (.invokestatic 153, 3) := by decide +kernel
theorem dX7_guest_16 : decode cX7_guest 16 = .ok (.ifCond .ne 5, 3) := by decide +kernel
theorem dX7_guest_19 : decode cX7_guest 19 = .ok (.iconst (-1), 1) := by decide +kernel
theorem dX7_guest_20 : decode cX7_guest 20 = .ok (.ireturn, 1) := by decide +kernel
theorem dX7_guest_21 : decode cX7_guest 21 = .ok (.aload_n 0, 1) := by decide +kernel
theorem dX7_guest_22 : decode cX7_guest 22 = .ok (.getfield 7, 3) := by decide +kernel
theorem dX7_guest_25 : decode cX7_guest 25 = .ok (.iconst 0, 1) := by decide +kernel
theorem dX7_guest_26 : decode cX7_guest 26 = .ok (.iaload, 1) := by decide +kernel
theorem dX7_guest_27 : decode cX7_guest 27 = .ok (.bipush 8, 2) := by decide +kernel
theorem dX7_guest_29 : decode cX7_guest 29 = .ok (.if_icmp .ne 6, 3) := by decide +kernel
theorem dX7_guest_32 : decode cX7_guest 32 = .ok (.bipush (-2), 2) := by decide +kernel
theorem dX7_guest_34 : decode cX7_guest 34 = .ok (.ireturn, 1) := by decide +kernel
theorem dX7_guest_35 : decode cX7_guest 35 = .ok (.aload_n 0, 1) := by decide +kernel
theorem dX7_guest_36 : decode cX7_guest 36 = .ok (.iload_n 1, 1) := by decide +kernel
theorem dX7_guest_37 : decode cX7_guest 37 = .ok (.iload_n 2, 1) := by decide +kernel
theorem dX7_guest_38 : decode cX7_guest 38 = .ok (.invokevirtual 112, 3) := by decide +kernel
theorem dX7_guest_41 : decode cX7_guest 41 = .ok (.aload_n 0, 1) := by decide +kernel
theorem dX7_guest_42 : decode cX7_guest 42 = .ok (.getfield 7, 3) := by decide +kernel
theorem dX7_guest_45 : decode cX7_guest 45 = .ok (.iconst 0, 1) := by decide +kernel
theorem dX7_guest_46 : decode cX7_guest 46 = .ok (.iaload, 1) := by decide +kernel
theorem dX7_guest_47 : decode cX7_guest 47 = .ok (.iconst 1, 1) := by decide +kernel
theorem dX7_guest_48 : decode cX7_guest 48 = .ok (.isub, 1) := by decide +kernel
theorem dX7_guest_49 : decode cX7_guest 49 = .ok (.ireturn, 1) := by decide +kernel
theorem dX7_next_0 : decode cX7_next 0 = .ok (.aload_n 0, 1) := by decide +kernel
theorem dX7_next_1 : decode cX7_next 1 = .ok (.getfield 7, 3) := by decide +kernel
theorem dX7_next_4 : decode cX7_next 4 = .ok (.iconst 3, 1) := by decide +kernel
theorem dX7_next_5 : decode cX7_next 5 = .ok (.iaload, 1) := by decide +kernel
theorem dX7_next_6 : decode cX7_next 6 = .ok (.bipush 8, 2) := by decide +kernel
theorem dX7_next_8 : decode cX7_next 8 = .ok (.irem, 1) := by decide +kernel
theorem dX7_next_9 : decode cX7_next 9 = .ok (.ireturn, 1) := by decide +kernel
set_option maxRecDepth 20000 in
theorem ggX7_takes_X7_its : GoodIn wsX7_takes wsX7_its := goodIn_r _ [6, 1, 11, 12, 13, 14, 15, 16, 17, 18, 19, 20, 21, 22, 23, 24, 25, 26, 27, 28, 29, 30, 31, 32, 33, 34, 35, 36] (by decide +kernel) (by decide +kernel)
set_option maxRecDepth 20000 in
theorem gX7_takes_X7_its : GoodIn wsX7_takes (wsV RX7 156 RX7 yX7_its wsX7_its) := goodIn_app (goodIn_of _ (by decide +kernel)) ggX7_takes_X7_its
set_option maxRecDepth 20000 in
theorem ggX7_takes_X7_next : GoodIn wsX7_takes wsX7_next := goodIn_r _ [10, 1, 11, 12, 13, 14, 15, 16, 17, 18, 19, 20, 21, 22, 23, 24, 25, 26, 27, 28, 29, 30, 31, 32, 33, 34, 35, 36] (by decide +kernel) (by decide +kernel)
set_option maxRecDepth 20000 in
theorem gX7_takes_X7_next : GoodIn wsX7_takes (wsV RX7 159 RX7 yX7_next wsX7_next) := goodIn_app (goodIn_of _ (by decide +kernel)) ggX7_takes_X7_next
theorem dX7_takes_0 : decode cX7_takes 0 = .ok (.aload_n 0, 1) := by decide +kernel
theorem dX7_takes_1 : decode cX7_takes 1 = .ok (.getfield 7, 3) := by decide +kernel
theorem dX7_takes_4 : decode cX7_takes 4 = .ok (.iconst 5, 1) := by decide +kernel
theorem dX7_takes_5 : decode cX7_takes 5 = .ok (.iaload, 1) := by decide +kernel
theorem dX7_takes_6 : decode cX7_takes 6 = .ok (.istore_n 2, 1) := by decide +kernel
theorem dX7_takes_7 : decode cX7_takes 7 = .ok (.aload_n 0, 1) := by decide +kernel
theorem dX7_takes_8 : decode cX7_takes 8 = .ok (.iload_n 1, 1) := by decide +kernel
theorem dX7_takes_9 : decode cX7_takes 9 = .ok (.iconst 0, 1) := by decide +kernel
theorem dX7_takes_10 : decode cX7_takes 10 = .ok (.invokevirtual 156, 3) := by decide +kernel
theorem dX7_takes_13 : decode cX7_takes 13 = .ok (.tableswitch 71 1 5 #[35, 39, 41, 47, 51], 35) := by decide +kernel
theorem dX7_takes_48 : decode cX7_takes 48 = .ok (.iconst 4, 1) := by decide +kernel
theorem dX7_takes_49 : decode cX7_takes 49 = .ok (.iload_n 2, 1) := by decide +kernel
theorem dX7_takes_50 : decode cX7_takes 50 = .ok (.iadd, 1) := by decide +kernel
theorem dX7_takes_51 : decode cX7_takes 51 = .ok (.ireturn, 1) := by decide +kernel
theorem dX7_takes_52 : decode cX7_takes 52 = .ok (.iconst 2, 1) := by decide +kernel
theorem dX7_takes_53 : decode cX7_takes 53 = .ok (.ireturn, 1) := by decide +kernel
theorem dX7_takes_54 : decode cX7_takes 54 = .ok (.iconst 2, 1) := by decide +kernel
theorem dX7_takes_55 : decode cX7_takes 55 = .ok (.iconst 4, 1) := by decide +kernel
theorem dX7_takes_56 : decode cX7_takes 56 = .ok (.iload_n 2, 1) := by decide +kernel
theorem dX7_takes_57 : decode cX7_takes 57 = .ok (.iadd, 1) := by decide +kernel
theorem dX7_takes_58 : decode cX7_takes 58 = .ok (.imul, 1) := by decide +kernel
theorem dX7_takes_59 : decode cX7_takes 59 = .ok (.ireturn, 1) := by decide +kernel
theorem dX7_takes_60 : decode cX7_takes 60 = .ok (.iconst 2, 1) := by decide +kernel
theorem dX7_takes_61 : decode cX7_takes 61 = .ok (.iload_n 2, 1) := by decide +kernel
theorem dX7_takes_62 : decode cX7_takes 62 = .ok (.isub, 1) := by decide +kernel
theorem dX7_takes_63 : decode cX7_takes 63 = .ok (.ireturn, 1) := by decide +kernel
theorem dX7_takes_64 : decode cX7_takes 64 = .ok (.aload_n 0, 1) := by decide +kernel
theorem dX7_takes_65 : decode cX7_takes 65 = .ok (.iload_n 1, 1) := by decide +kernel
theorem dX7_takes_66 : decode cX7_takes 66 = .ok (.iconst 1, 1) := by decide +kernel
theorem dX7_takes_67 : decode cX7_takes 67 = .ok (.invokevirtual 156, 3) := by decide +kernel
theorem dX7_takes_70 : decode cX7_takes 70 = .ok (.aload_n 0, 1) := by decide +kernel
theorem dX7_takes_71 : decode cX7_takes 71 = .ok (.invokevirtual 159, 3) := by decide +kernel
theorem dX7_takes_74 : decode cX7_takes 74 = .ok (.if_icmp .ne 8, 3) := by decide +kernel
theorem dX7_takes_77 : decode cX7_takes 77 = .ok (.bipush 9, 2) := by decide +kernel
theorem dX7_takes_79 : decode cX7_takes 79 = .ok (.goto 4, 3) := by decide +kernel
theorem dX7_takes_82 : decode cX7_takes 82 = .ok (.iconst 4, 1) := by decide +kernel
theorem dX7_takes_83 : decode cX7_takes 83 = .ok (.ireturn, 1) := by decide +kernel
theorem dX7_takes_84 : decode cX7_takes 84 = .ok (.iconst 4, 1) := by decide +kernel
theorem dX7_takes_85 : decode cX7_takes 85 = .ok (.ireturn, 1) := by decide +kernel
set_option maxRecDepth 20000 in
theorem ggX7_needsOf_X7_its : GoodIn wsX7_needsOf wsX7_its := goodIn_r _ [6, 1, 7, 8, 9, 10, 11, 12, 13, 14, 15, 16, 17, 18, 19, 20, 21, 22, 23, 24, 25, 26, 27, 28, 29, 30, 31, 32] (by decide +kernel) (by decide +kernel)
set_option maxRecDepth 20000 in
theorem gX7_needsOf_X7_its : GoodIn wsX7_needsOf (wsV RX7 156 RX7 yX7_its wsX7_its) := goodIn_app (goodIn_of _ (by decide +kernel)) ggX7_needsOf_X7_its
theorem dX7_needsOf_0 : decode cX7_needsOf 0 = .ok (.aload_n 0, 1) := by decide +kernel
theorem dX7_needsOf_1 : decode cX7_needsOf 1 = .ok (.iload_n 1, 1) := by decide +kernel
theorem dX7_needsOf_2 : decode cX7_needsOf 2 = .ok (.iconst 0, 1) := by decide +kernel
theorem dX7_needsOf_3 : decode cX7_needsOf 3 = .ok (.invokevirtual 156, 3) := by decide +kernel
theorem dX7_needsOf_6 : decode cX7_needsOf 6 = .ok (.tableswitch 66 1 5 #[34, 37, 40, 50, 63], 34) := by decide +kernel
theorem dX7_needsOf_40 : decode cX7_needsOf 40 = .ok (.bipush 15, 2) := by decide +kernel
theorem dX7_needsOf_42 : decode cX7_needsOf 42 = .ok (.ireturn, 1) := by decide +kernel
theorem dX7_needsOf_43 : decode cX7_needsOf 43 = .ok (.bipush 30, 2) := by decide +kernel
theorem dX7_needsOf_45 : decode cX7_needsOf 45 = .ok (.ireturn, 1) := by decide +kernel
theorem dX7_needsOf_46 : decode cX7_needsOf 46 = .ok (.bipush 15, 2) := by decide +kernel
theorem dX7_needsOf_48 : decode cX7_needsOf 48 = .ok (.aload_n 0, 1) := by decide +kernel
theorem dX7_needsOf_49 : decode cX7_needsOf 49 = .ok (.getfield 7, 3) := by decide +kernel
theorem dX7_needsOf_52 : decode cX7_needsOf 52 = .ok (.iconst 5, 1) := by decide +kernel
theorem dX7_needsOf_53 : decode cX7_needsOf 53 = .ok (.iaload, 1) := by decide +kernel
theorem dX7_needsOf_54 : decode cX7_needsOf 54 = .ok (.isub, 1) := by decide +kernel
theorem dX7_needsOf_55 : decode cX7_needsOf 55 = .ok (.ireturn, 1) := by decide +kernel
theorem dX7_needsOf_56 : decode cX7_needsOf 56 = .ok (.bipush 30, 2) := by decide +kernel
theorem dX7_needsOf_58 : decode cX7_needsOf 58 = .ok (.aload_n 0, 1) := by decide +kernel
theorem dX7_needsOf_59 : decode cX7_needsOf 59 = .ok (.iload_n 1, 1) := by decide +kernel
theorem dX7_needsOf_60 : decode cX7_needsOf 60 = .ok (.iconst 2, 1) := by decide +kernel
theorem dX7_needsOf_61 : decode cX7_needsOf 61 = .ok (.invokevirtual 156, 3) := by decide +kernel
theorem dX7_needsOf_64 : decode cX7_needsOf 64 = .ok (.bipush 10, 2) := by decide +kernel
theorem dX7_needsOf_66 : decode cX7_needsOf 66 = .ok (.idiv, 1) := by decide +kernel
theorem dX7_needsOf_67 : decode cX7_needsOf 67 = .ok (.isub, 1) := by decide +kernel
theorem dX7_needsOf_68 : decode cX7_needsOf 68 = .ok (.ireturn, 1) := by decide +kernel
theorem dX7_needsOf_69 : decode cX7_needsOf 69 = .ok (.bipush 10, 2) := by decide +kernel
theorem dX7_needsOf_71 : decode cX7_needsOf 71 = .ok (.ireturn, 1) := by decide +kernel
theorem dX7_needsOf_72 : decode cX7_needsOf 72 = .ok (.bipush 20, 2) := by decide +kernel
theorem dX7_needsOf_74 : decode cX7_needsOf 74 = .ok (.ireturn, 1) := by decide +kernel
set_option maxRecDepth 20000 in
theorem ggX7_costs_X7_its : GoodIn wsX7_costs wsX7_its := goodIn_r _ [6, 1, 7, 8, 9, 10, 11, 12, 13, 14, 15, 16, 17, 18, 19, 20, 21, 22, 23, 24, 25, 26, 27, 28, 29, 30, 31, 32] (by decide +kernel) (by decide +kernel)
set_option maxRecDepth 20000 in
theorem gX7_costs_X7_its : GoodIn wsX7_costs (wsV RX7 156 RX7 yX7_its wsX7_its) := goodIn_app (goodIn_of _ (by decide +kernel)) ggX7_costs_X7_its
theorem dX7_costs_0 : decode cX7_costs 0 = .ok (.aload_n 0, 1) := by decide +kernel
theorem dX7_costs_1 : decode cX7_costs 1 = .ok (.iload_n 1, 1) := by decide +kernel
theorem dX7_costs_2 : decode cX7_costs 2 = .ok (.iconst 0, 1) := by decide +kernel
theorem dX7_costs_3 : decode cX7_costs 3 = .ok (.invokevirtual 156, 3) := by decide +kernel
theorem dX7_costs_6 : decode cX7_costs 6 = .ok (.tableswitch 47 2 5 #[30, 33, 35, 45], 30) := by decide +kernel
theorem dX7_costs_36 : decode cX7_costs 36 = .ok (.bipush 15, 2) := by decide +kernel
theorem dX7_costs_38 : decode cX7_costs 38 = .ok (.ireturn, 1) := by decide +kernel
theorem dX7_costs_39 : decode cX7_costs 39 = .ok (.iconst 5, 1) := by decide +kernel
theorem dX7_costs_40 : decode cX7_costs 40 = .ok (.ireturn, 1) := by decide +kernel
theorem dX7_costs_41 : decode cX7_costs 41 = .ok (.bipush 15, 2) := by decide +kernel
theorem dX7_costs_43 : decode cX7_costs 43 = .ok (.aload_n 0, 1) := by decide +kernel
theorem dX7_costs_44 : decode cX7_costs 44 = .ok (.getfield 7, 3) := by decide +kernel
theorem dX7_costs_47 : decode cX7_costs 47 = .ok (.iconst 5, 1) := by decide +kernel
theorem dX7_costs_48 : decode cX7_costs 48 = .ok (.iaload, 1) := by decide +kernel
theorem dX7_costs_49 : decode cX7_costs 49 = .ok (.isub, 1) := by decide +kernel
theorem dX7_costs_50 : decode cX7_costs 50 = .ok (.ireturn, 1) := by decide +kernel
theorem dX7_costs_51 : decode cX7_costs 51 = .ok (.iconst 0, 1) := by decide +kernel
theorem dX7_costs_52 : decode cX7_costs 52 = .ok (.ireturn, 1) := by decide +kernel
theorem dX7_costs_53 : decode cX7_costs 53 = .ok (.bipush 10, 2) := by decide +kernel
theorem dX7_costs_55 : decode cX7_costs 55 = .ok (.ireturn, 1) := by decide +kernel
set_option maxRecDepth 20000 in
theorem ggX7_of_X7_isOne : GoodIn wsX7_of wsX7_isOne := goodIn_r _ [6, 7, 15, 16, 17, 18, 19, 20, 21, 22, 23, 24, 25, 26, 27, 28, 29, 30, 31, 32, 33, 34, 35, 36, 37, 38, 39, 40] (by decide +kernel) (by decide +kernel)
set_option maxRecDepth 20000 in
theorem gX7_of_X7_isOne : GoodIn wsX7_of (wsV RX7 162 RX7 yX7_isOne wsX7_isOne) := goodIn_app (goodIn_of _ (by decide +kernel)) ggX7_of_X7_isOne
set_option maxRecDepth 20000 in
theorem ggX7_of_X7_isIn : GoodIn wsX7_of wsX7_isIn := goodIn_r _ [10] (by decide +kernel) (by decide +kernel)
set_option maxRecDepth 20000 in
theorem gX7_of_X7_isIn : GoodIn wsX7_of (va_wsS RX7 54 yX7_isIn wsX7_isIn) := goodIn_app (goodIn_of _ (by decide +kernel)) ggX7_of_X7_isIn
