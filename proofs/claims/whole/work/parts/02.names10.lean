set_option maxRecDepth 20000 in
theorem gX7_item_X7_isIn : GoodIn wsX7_item (va_wsS RX7 54 yX7_isIn wsX7_isIn) := goodIn_app (goodIn_of _ (by decide +kernel)) ggX7_item_X7_isIn
set_option maxRecDepth 20000 in
theorem ggX7_item_X7_lacks : GoodIn wsX7_item wsX7_lacks := goodIn_r _ [14, 15, 16, 17, 18, 19, 20, 21, 22, 23, 24, 25, 26, 27, 28, 29, 30, 31, 32, 33, 34, 35, 36, 37, 38, 39, 40, 41] (by decide +kernel) (by decide +kernel)
set_option maxRecDepth 20000 in
theorem gX7_item_X7_lacks : GoodIn wsX7_item (wsV RX7 274 RX7 yX7_lacks wsX7_lacks) := goodIn_app (goodIn_of _ (by decide +kernel)) ggX7_item_X7_lacks
theorem dX7_item_0 : decode cX7_item 0 = .ok (.iload_n 1, 1) := by decide +kernel
theorem dX7_item_1 : decode cX7_item 1 = .ok (.invokestatic 250, 3) := by decide +kernel
theorem dX7_item_4 : decode cX7_item 4 = .ok (.ifCond .eq 15, 3) := by decide +kernel
theorem dX7_item_7 : decode cX7_item 7 = .ok (.iload_n 2, 1) := by decide +kernel
theorem dX7_item_8 : decode cX7_item 8 = .ok (.i2l, 1) := by decide +kernel
theorem dX7_item_9 : decode cX7_item 9 = .ok (.lconst 0, 1) := by decide +kernel
theorem dX7_item_10 : decode cX7_item 10 = .ok (.ldc2_w 143, 3) := by decide +kernel
theorem dX7_item_13 : decode cX7_item 13 = .ok (.invokestatic 54, 3) := by decide +kernel
theorem dX7_item_16 : decode cX7_item 16 = .ok (.ifCond .ne 5, 3) := by decide +kernel
theorem dX7_item_19 : decode cX7_item 19 = .ok (.iconst (-1), 1) := by decide +kernel
theorem dX7_item_20 : decode cX7_item 20 = .ok (.ireturn, 1) := by decide +kernel
theorem dX7_item_21 : decode cX7_item 21 = .ok (.aload_n 0, 1) := by decide +kernel
theorem dX7_item_22 : decode cX7_item 22 = .ok (.iload_n 1, 1) := by decide +kernel
theorem dX7_item_23 : decode cX7_item 23 = .ok (.iload_n 2, 1) := by decide +kernel
theorem dX7_item_24 : decode cX7_item 24 = .ok (.invokevirtual 274, 3) := by decide +kernel
theorem dX7_item_27 : decode cX7_item 27 = .ok (.ifCond .eq 10, 3) := by decide +kernel
theorem dX7_item_30 : decode cX7_item 30 = .ok (.aload_n 0, 1) := by decide +kernel
theorem dX7_item_31 : decode cX7_item 31 = .ok (.iload_n 1, 1) := by decide +kernel
theorem dX7_item_32 : decode cX7_item 32 = .ok (.iload_n 2, 1) := by decide +kernel
theorem dX7_item_33 : decode cX7_item 33 = .ok (.invokevirtual 274, 3) := by decide +kernel
theorem dX7_item_36 : decode cX7_item 36 = .ok (.ireturn, 1) := by decide +kernel
theorem dX7_item_37 : decode cX7_item 37 = .ok (.iload_n 3, 1) := by decide +kernel
theorem dX7_item_38 : decode cX7_item 38 = .ok (.i2l, 1) := by decide +kernel
theorem dX7_item_39 : decode cX7_item 39 = .ok (.lconst 0, 1) := by decide +kernel
theorem dX7_item_40 : decode cX7_item 40 = .ok (.aload_n 0, 1) := by decide +kernel
theorem dX7_item_41 : decode cX7_item 41 = .ok (.getfield 31, 3) := by decide +kernel
theorem dX7_item_44 : decode cX7_item 44 = .ok (.iload_n 1, 1) := by decide +kernel
theorem dX7_item_45 : decode cX7_item 45 = .ok (.iaload, 1) := by decide +kernel
theorem dX7_item_46 : decode cX7_item 46 = .ok (.iconst 1, 1) := by decide +kernel
theorem dX7_item_47 : decode cX7_item 47 = .ok (.isub, 1) := by decide +kernel
theorem dX7_item_48 : decode cX7_item 48 = .ok (.i2l, 1) := by decide +kernel
theorem dX7_item_49 : decode cX7_item 49 = .ok (.invokestatic 54, 3) := by decide +kernel
theorem dX7_item_52 : decode cX7_item 52 = .ok (.ifCond .eq 17, 3) := by decide +kernel
theorem dX7_item_55 : decode cX7_item 55 = .ok (.aload_n 0, 1) := by decide +kernel
theorem dX7_item_56 : decode cX7_item 56 = .ok (.getfield 34, 3) := by decide +kernel
theorem dX7_item_59 : decode cX7_item 59 = .ok (.bipush 40, 2) := by decide +kernel
theorem dX7_item_61 : decode cX7_item 61 = .ok (.iload_n 1, 1) := by decide +kernel
theorem dX7_item_62 : decode cX7_item 62 = .ok (.imul, 1) := by decide +kernel
theorem dX7_item_63 : decode cX7_item 63 = .ok (.iload_n 3, 1) := by decide +kernel
theorem dX7_item_64 : decode cX7_item 64 = .ok (.iadd, 1) := by decide +kernel
theorem dX7_item_65 : decode cX7_item 65 = .ok (.iaload, 1) := by decide +kernel
theorem dX7_item_66 : decode cX7_item 66 = .ok (.goto 5, 3) := by decide +kernel
theorem dX7_item_69 : decode cX7_item 69 = .ok (.bipush (-12), 2) := by decide +kernel
theorem dX7_item_71 : decode cX7_item 71 = .ok (.ireturn, 1) := by decide +kernel
set_option maxRecDepth 20000 in
theorem ggX7_minds_X7_isSheet : GoodIn wsX7_minds wsX7_isSheet := goodIn_r _ [8, 9, 10, 11, 7, 12] (by decide +kernel) (by decide +kernel)
set_option maxRecDepth 20000 in
theorem gX7_minds_X7_isSheet : GoodIn wsX7_minds (va_wsS RX7 250 yX7_isSheet wsX7_isSheet) := goodIn_app (goodIn_of _ (by decide +kernel)) ggX7_minds_X7_isSheet
set_option maxRecDepth 20000 in
theorem ggX7_minds_X7_isOne : GoodIn wsX7_minds wsX7_isOne := goodIn_r _ [16, 2, 25, 26, 27, 28, 29, 30, 31, 32, 33, 34, 35, 36, 37, 38, 39, 40, 41, 42, 43, 44, 45, 46, 47, 48, 49, 50] (by decide +kernel) (by decide +kernel)
set_option maxRecDepth 20000 in
theorem gX7_minds_X7_isOne : GoodIn wsX7_minds (wsV RX7 162 RX7 yX7_isOne wsX7_isOne) := goodIn_app (goodIn_of _ (by decide +kernel)) ggX7_minds_X7_isOne
set_option maxRecDepth 20000 in
theorem ggX7_minds_X7_isIn : GoodIn wsX7_minds wsX7_isIn := goodIn_r _ [12] (by decide +kernel) (by decide +kernel)
set_option maxRecDepth 20000 in
theorem gX7_minds_X7_isIn : GoodIn wsX7_minds (va_wsS RX7 54 yX7_isIn wsX7_isIn) := goodIn_app (goodIn_of _ (by decide +kernel)) ggX7_minds_X7_isIn
set_option maxRecDepth 20000 in
theorem ggX7_minds_X7_lacks : GoodIn wsX7_minds wsX7_lacks := goodIn_r _ [20, 21, 25, 26, 27, 28, 29, 30, 31, 32, 33, 34, 35, 36, 37, 38, 39, 40, 41, 42, 43, 44, 45, 46, 47, 48, 49, 50] (by decide +kernel) (by decide +kernel)
set_option maxRecDepth 20000 in
theorem gX7_minds_X7_lacks : GoodIn wsX7_minds (wsV RX7 274 RX7 yX7_lacks wsX7_lacks) := goodIn_app (goodIn_of _ (by decide +kernel)) ggX7_minds_X7_lacks
set_option maxRecDepth 20000 in
theorem ggX7_minds_X7_within : GoodIn wsX7_minds wsX7_within := goodIn_r _ [24] (by decide +kernel) (by decide +kernel)
set_option maxRecDepth 20000 in
theorem gX7_minds_X7_within : GoodIn wsX7_minds (va_wsS RX7 184 yX7_within wsX7_within) := goodIn_app (goodIn_of _ (by decide +kernel)) ggX7_minds_X7_within
theorem dX7_minds_0 : decode cX7_minds 0 = .ok (.iload_n 1, 1) := by decide +kernel
theorem dX7_minds_1 : decode cX7_minds 1 = .ok (.invokestatic 250, 3) := by decide +kernel
theorem dX7_minds_4 : decode cX7_minds 4 = .ok (.ifCond .eq 37, 3) := by decide +kernel
theorem dX7_minds_7 : decode cX7_minds 7 = .ok (.aload_n 0, 1) := by decide +kernel
theorem dX7_minds_8 : decode cX7_minds 8 = .ok (.iload_n 3, 1) := by decide +kernel
theorem dX7_minds_9 : decode cX7_minds 9 = .ok (.invokevirtual 162, 3) := by decide +kernel
theorem dX7_minds_12 : decode cX7_minds 12 = .ok (.ifCond .eq 29, 3) := by decide +kernel
theorem dX7_minds_15 : decode cX7_minds 15 = .ok (.iload 4, 2) := by decide +kernel
theorem dX7_minds_17 : decode cX7_minds 17 = .ok (.i2l, 1) := by decide +kernel
theorem dX7_minds_18 : decode cX7_minds 18 = .ok (.lconst 0, 1) := by decide +kernel
theorem dX7_minds_19 : decode cX7_minds 19 = .ok (.ldc2_w 52, 3) := by decide +kernel
theorem dX7_minds_22 : decode cX7_minds 22 = .ok (.invokestatic 54, 3) := by decide +kernel
theorem dX7_minds_25 : decode cX7_minds 25 = .ok (.ifCond .eq 16, 3) := by decide +kernel
theorem dX7_minds_28 : decode cX7_minds 28 = .ok (.iload_n 3, 1) := by decide +kernel
theorem dX7_minds_29 : decode cX7_minds 29 = .ok (.iload 4, 2) := by decide +kernel
theorem dX7_minds_31 : decode cX7_minds 31 = .ok (.iadd, 1) := by decide +kernel
theorem dX7_minds_32 : decode cX7_minds 32 = .ok (.aload_n 0, 1) := by decide +kernel
theorem dX7_minds_33 : decode cX7_minds 33 = .ok (.getfield 7, 3) := by decide +kernel
theorem dX7_minds_36 : decode cX7_minds 36 = .ok (.iconst 0, 1) := by decide +kernel
theorem dX7_minds_37 : decode cX7_minds 37 = .ok (.iaload, 1) := by decide +kernel
theorem dX7_minds_38 : decode cX7_minds 38 = .ok (.if_icmp .le 5, 3) := by decide +kernel
theorem dX7_minds_41 : decode cX7_minds 41 = .ok (.iconst (-1), 1) := by decide +kernel
theorem dX7_minds_42 : decode cX7_minds 42 = .ok (.ireturn, 1) := by decide +kernel
theorem dX7_minds_43 : decode cX7_minds 43 = .ok (.aload_n 0, 1) := by decide +kernel
theorem dX7_minds_44 : decode cX7_minds 44 = .ok (.iload_n 1, 1) := by decide +kernel
theorem dX7_minds_45 : decode cX7_minds 45 = .ok (.iconst 0, 1) := by decide +kernel
theorem dX7_minds_46 : decode cX7_minds 46 = .ok (.invokevirtual 274, 3) := by decide +kernel
theorem dX7_minds_49 : decode cX7_minds 49 = .ok (.ifCond .eq 10, 3) := by decide +kernel
theorem dX7_minds_52 : decode cX7_minds 52 = .ok (.aload_n 0, 1) := by decide +kernel
theorem dX7_minds_53 : decode cX7_minds 53 = .ok (.iload_n 1, 1) := by decide +kernel
theorem dX7_minds_54 : decode cX7_minds 54 = .ok (.iconst 0, 1) := by decide +kernel
theorem dX7_minds_55 : decode cX7_minds 55 = .ok (.invokevirtual 274, 3) := by decide +kernel
theorem dX7_minds_58 : decode cX7_minds 58 = .ok (.ireturn, 1) := by decide +kernel
theorem dX7_minds_59 : decode cX7_minds 59 = .ok (.iload_n 2, 1) := by decide +kernel
theorem dX7_minds_60 : decode cX7_minds 60 = .ok (.i2l, 1) := by decide +kernel
theorem dX7_minds_61 : decode cX7_minds 61 = .ok (.lconst 0, 1) := by decide +kernel
theorem dX7_minds_62 : decode cX7_minds 62 = .ok (.aload_n 0, 1) := by decide +kernel
theorem dX7_minds_63 : decode cX7_minds 63 = .ok (.getfield 31, 3) := by decide +kernel
theorem dX7_minds_66 : decode cX7_minds 66 = .ok (.iload_n 1, 1) := by decide +kernel
theorem dX7_minds_67 : decode cX7_minds 67 = .ok (.iaload, 1) := by decide +kernel
theorem dX7_minds_68 : decode cX7_minds 68 = .ok (.i2l, 1) := by decide +kernel
theorem dX7_minds_69 : decode cX7_minds 69 = .ok (.invokestatic 54, 3) := by decide +kernel
theorem dX7_minds_72 : decode cX7_minds 72 = .ok (.ifCond .eq 20, 3) := by decide +kernel
theorem dX7_minds_75 : decode cX7_minds 75 = .ok (.iload_n 2, 1) := by decide +kernel
theorem dX7_minds_76 : decode cX7_minds 76 = .ok (.i2l, 1) := by decide +kernel
theorem dX7_minds_77 : decode cX7_minds 77 = .ok (.iload 4, 2) := by decide +kernel
theorem dX7_minds_79 : decode cX7_minds 79 = .ok (.i2l, 1) := by decide +kernel
theorem dX7_minds_80 : decode cX7_minds 80 = .ok (.ladd, 1) := by decide +kernel
theorem dX7_minds_81 : decode cX7_minds 81 = .ok (.aload_n 0, 1) := by decide +kernel
theorem dX7_minds_82 : decode cX7_minds 82 = .ok (.getfield 31, 3) := by decide +kernel
theorem dX7_minds_85 : decode cX7_minds 85 = .ok (.iload_n 1, 1) := by decide +kernel
theorem dX7_minds_86 : decode cX7_minds 86 = .ok (.iaload, 1) := by decide +kernel
theorem dX7_minds_87 : decode cX7_minds 87 = .ok (.i2l, 1) := by decide +kernel
theorem dX7_minds_88 : decode cX7_minds 88 = .ok (.lcmp, 1) := by decide +kernel
theorem dX7_minds_89 : decode cX7_minds 89 = .ok (.ifCond .le 6, 3) := by decide +kernel
theorem dX7_minds_92 : decode cX7_minds 92 = .ok (.bipush (-12), 2) := by decide +kernel
theorem dX7_minds_94 : decode cX7_minds 94 = .ok (.ireturn, 1) := by decide +kernel
theorem dX7_minds_95 : decode cX7_minds 95 = .ok (.iconst 0, 1) := by decide +kernel
theorem dX7_minds_96 : decode cX7_minds 96 = .ok (.istore 5, 2) := by decide +kernel
theorem dX7_minds_98 : decode cX7_minds 98 = .ok (.iload 5, 2) := by decide +kernel
theorem dX7_minds_100 : decode cX7_minds 100 = .ok (.iload 4, 2) := by decide +kernel
theorem dX7_minds_102 : decode cX7_minds 102 = .ok (.if_icmp .ge 42, 3) := by decide +kernel
theorem dX7_minds_105 : decode cX7_minds 105 = .ok (.aload_n 0, 1) := by decide +kernel
theorem dX7_minds_106 : decode cX7_minds 106 = .ok (.getfield 7, 3) := by decide +kernel
theorem dX7_minds_109 : decode cX7_minds 109 = .ok (.bipush 8, 2) := by decide +kernel
theorem dX7_minds_111 : decode cX7_minds 111 = .ok (.iconst 5, 1) := by decide +kernel
theorem dX7_minds_112 : decode cX7_minds 112 = .ok (.iload_n 3, 1) := by decide +kernel
theorem dX7_minds_113 : decode cX7_minds 113 = .ok (.iload 5, 2) := by decide +kernel
theorem dX7_minds_115 : decode cX7_minds 115 = .ok (.iadd, 1) := by decide +kernel
theorem dX7_minds_116 : decode cX7_minds 116 = .ok (.imul, 1) := by decide +kernel
theorem dX7_minds_117 : decode cX7_minds 117 = .ok (.iadd, 1) := by decide +kernel
theorem dX7_minds_118 : decode cX7_minds 118 = .ok (.iconst 2, 1) := by decide +kernel
theorem dX7_minds_119 : decode cX7_minds 119 = .ok (.iadd, 1) := by decide +kernel
theorem dX7_minds_120 : decode cX7_minds 120 = .ok (.aload_n 0, 1) := by decide +kernel
theorem dX7_minds_121 : decode cX7_minds 121 = .ok (.getfield 34, 3) := by decide +kernel
theorem dX7_minds_124 : decode cX7_minds 124 = .ok (.bipush 40, 2) := by decide +kernel
theorem dX7_minds_126 : decode cX7_minds 126 = .ok (.iload_n 1, 1) := by decide +kernel
theorem dX7_minds_127 : decode cX7_minds 127 = .ok (.imul, 1) := by decide +kernel
theorem dX7_minds_128 : decode cX7_minds 128 = .ok (.iload_n 2, 1) := by decide +kernel
theorem dX7_minds_129 : decode cX7_minds 129 = .ok (.iadd, 1) := by decide +kernel
theorem dX7_minds_130 : decode cX7_minds 130 = .ok (.iload 5, 2) := by decide +kernel
theorem dX7_minds_132 : decode cX7_minds 132 = .ok (.iadd, 1) := by decide +kernel
theorem dX7_minds_133 : decode cX7_minds 133 = .ok (.iaload, 1) := by decide +kernel
theorem dX7_minds_134 : decode cX7_minds 134 = .ok (.invokestatic 184, 3) := by decide +kernel
theorem dX7_minds_137 : decode cX7_minds 137 = .ok (.iastore, 1) := by decide +kernel
theorem dX7_minds_138 : decode cX7_minds 138 = .ok (.iinc 5 1, 3) := by decide +kernel
theorem dX7_minds_141 : decode cX7_minds 141 = .ok (.goto (-43), 3) := by decide +kernel
theorem dX7_minds_144 : decode cX7_minds 144 = .ok (.iload 4, 2) := by decide +kernel
theorem dX7_minds_146 : decode cX7_minds 146 = .ok (.ireturn, 1) := by decide +kernel
set_option maxRecDepth 20000 in
theorem ggX7_shelf_X7_isShelf : GoodIn wsX7_shelf wsX7_isShelf := goodIn_r _ [10, 11, 12, 13, 9, 14] (by decide +kernel) (by decide +kernel)
set_option maxRecDepth 20000 in
theorem gX7_shelf_X7_isShelf : GoodIn wsX7_shelf (va_wsS RX7 277 yX7_isShelf wsX7_isShelf) := goodIn_app (goodIn_of _ (by decide +kernel)) ggX7_shelf_X7_isShelf
set_option maxRecDepth 20000 in
theorem ggX7_shelf_X7_isIn : GoodIn wsX7_shelf wsX7_isIn := goodIn_r _ [14] (by decide +kernel) (by decide +kernel)
set_option maxRecDepth 20000 in
theorem gX7_shelf_X7_isIn : GoodIn wsX7_shelf (va_wsS RX7 54 yX7_isIn wsX7_isIn) := goodIn_app (goodIn_of _ (by decide +kernel)) ggX7_shelf_X7_isIn
set_option maxRecDepth 20000 in
theorem ggX7_shelf_X7_isOne : GoodIn wsX7_shelf wsX7_isOne := goodIn_r _ [18, 19, 23, 24, 25, 26, 27, 28, 29, 30, 31, 32, 33, 34, 35, 36, 37, 38, 39, 40, 41, 42, 43, 44, 45, 46, 47, 48] (by decide +kernel) (by decide +kernel)
set_option maxRecDepth 20000 in
theorem gX7_shelf_X7_isOne : GoodIn wsX7_shelf (wsV RX7 162 RX7 yX7_isOne wsX7_isOne) := goodIn_app (goodIn_of _ (by decide +kernel)) ggX7_shelf_X7_isOne
set_option maxRecDepth 20000 in
theorem ggX7_shelf_X7_isSheet : GoodIn wsX7_shelf wsX7_isSheet := goodIn_r _ [22, 11, 12, 13, 9, 14] (by decide +kernel) (by decide +kernel)
set_option maxRecDepth 20000 in
theorem gX7_shelf_X7_isSheet : GoodIn wsX7_shelf (va_wsS RX7 250 yX7_isSheet wsX7_isSheet) := goodIn_app (goodIn_of _ (by decide +kernel)) ggX7_shelf_X7_isSheet
theorem dX7_shelf_0 : decode cX7_shelf 0 = .ok (.iload_n 1, 1) := by decide +kernel
theorem dX7_shelf_1 : decode cX7_shelf 1 = .ok (.invokestatic 277, 3) := by decide +kernel
theorem dX7_shelf_4 : decode cX7_shelf 4 = .ok (.ifCond .eq 39, 3) := by decide +kernel
theorem dX7_shelf_7 : decode cX7_shelf 7 = .ok (.iload_n 2, 1) := by decide +kernel
theorem dX7_shelf_8 : decode cX7_shelf 8 = .ok (.i2l, 1) := by decide +kernel
theorem dX7_shelf_9 : decode cX7_shelf 9 = .ok (.lconst 0, 1) := by decide +kernel
theorem dX7_shelf_10 : decode cX7_shelf 10 = .ok (.ldc2_w 167, 3) := by decide +kernel
theorem dX7_shelf_13 : decode cX7_shelf 13 = .ok (.invokestatic 54, 3) := by decide +kernel
theorem dX7_shelf_16 : decode cX7_shelf 16 = .ok (.ifCond .eq 27, 3) := by decide +kernel
theorem dX7_shelf_19 : decode cX7_shelf 19 = .ok (.iload_n 2, 1) := by decide +kernel
theorem dX7_shelf_20 : decode cX7_shelf 20 = .ok (.ifCond .ne 11, 3) := by decide +kernel
theorem dX7_shelf_23 : decode cX7_shelf 23 = .ok (.aload_n 0, 1) := by decide +kernel
theorem dX7_shelf_24 : decode cX7_shelf 24 = .ok (.iload_n 3, 1) := by decide +kernel
theorem dX7_shelf_25 : decode cX7_shelf 25 = .ok (.invokevirtual 162, 3) := by decide +kernel
theorem dX7_shelf_28 : decode cX7_shelf 28 = .ok (.ifCond .eq 15, 3) := by decide +kernel
theorem dX7_shelf_31 : decode cX7_shelf 31 = .ok (.iload_n 2, 1) := by decide +kernel
theorem dX7_shelf_32 : decode cX7_shelf 32 = .ok (.iconst 1, 1) := by decide +kernel
theorem dX7_shelf_33 : decode cX7_shelf 33 = .ok (.if_icmp .ne 12, 3) := by decide +kernel
theorem dX7_shelf_36 : decode cX7_shelf 36 = .ok (.iload_n 3, 1) := by decide +kernel
theorem dX7_shelf_37 : decode cX7_shelf 37 = .ok (.invokestatic 250, 3) := by decide +kernel
theorem dX7_shelf_40 : decode cX7_shelf 40 = .ok (.ifCond .ne 5, 3) := by decide +kernel
theorem dX7_shelf_43 : decode cX7_shelf 43 = .ok (.iconst (-1), 1) := by decide +kernel
theorem dX7_shelf_44 : decode cX7_shelf 44 = .ok (.ireturn, 1) := by decide +kernel
theorem dX7_shelf_45 : decode cX7_shelf 45 = .ok (.iload_n 2, 1) := by decide +kernel
theorem dX7_shelf_46 : decode cX7_shelf 46 = .ok (.iconst 1, 1) := by decide +kernel
theorem dX7_shelf_47 : decode cX7_shelf 47 = .ok (.if_icmp .ne 16, 3) := by decide +kernel
theorem dX7_shelf_50 : decode cX7_shelf 50 = .ok (.aload_n 0, 1) := by decide +kernel
theorem dX7_shelf_51 : decode cX7_shelf 51 = .ok (.getfield 28, 3) := by decide +kernel
theorem dX7_shelf_54 : decode cX7_shelf 54 = .ok (.iload_n 3, 1) := by decide +kernel
theorem dX7_shelf_55 : decode cX7_shelf 55 = .ok (.iaload, 1) := by decide +kernel
theorem dX7_shelf_56 : decode cX7_shelf 56 = .ok (.ifCond .lt 7, 3) := by decide +kernel
theorem dX7_shelf_59 : decode cX7_shelf 59 = .ok (.iconst 1, 1) := by decide +kernel
theorem dX7_shelf_60 : decode cX7_shelf 60 = .ok (.goto 4, 3) := by decide +kernel
theorem dX7_shelf_63 : decode cX7_shelf 63 = .ok (.iconst 0, 1) := by decide +kernel
theorem dX7_shelf_64 : decode cX7_shelf 64 = .ok (.istore 4, 2) := by decide +kernel
theorem dX7_shelf_66 : decode cX7_shelf 66 = .ok (.aload_n 0, 1) := by decide +kernel
theorem dX7_shelf_67 : decode cX7_shelf 67 = .ok (.getfield 37, 3) := by decide +kernel
theorem dX7_shelf_70 : decode cX7_shelf 70 = .ok (.iload_n 1, 1) := by decide +kernel
theorem dX7_shelf_71 : decode cX7_shelf 71 = .ok (.iload_n 2, 1) := by decide +kernel
theorem dX7_shelf_72 : decode cX7_shelf 72 = .ok (.ifCond .ne 7, 3) := by decide +kernel
theorem dX7_shelf_75 : decode cX7_shelf 75 = .ok (.iconst 1, 1) := by decide +kernel
theorem dX7_shelf_76 : decode cX7_shelf 76 = .ok (.goto 13, 3) := by decide +kernel
theorem dX7_shelf_79 : decode cX7_shelf 79 = .ok (.iload 4, 2) := by decide +kernel
theorem dX7_shelf_81 : decode cX7_shelf 81 = .ok (.ifCond .eq 7, 3) := by decide +kernel
theorem dX7_shelf_84 : decode cX7_shelf 84 = .ok (.iconst 2, 1) := by decide +kernel
theorem dX7_shelf_85 : decode cX7_shelf 85 = .ok (.goto 4, 3) := by decide +kernel
theorem dX7_shelf_88 : decode cX7_shelf 88 = .ok (.iconst 0, 1) := by decide +kernel
theorem dX7_shelf_89 : decode cX7_shelf 89 = .ok (.iastore, 1) := by decide +kernel
theorem dX7_shelf_90 : decode cX7_shelf 90 = .ok (.aload_n 0, 1) := by decide +kernel
theorem dX7_shelf_91 : decode cX7_shelf 91 = .ok (.getfield 40, 3) := by decide +kernel
theorem dX7_shelf_94 : decode cX7_shelf 94 = .ok (.iload_n 1, 1) := by decide +kernel
theorem dX7_shelf_95 : decode cX7_shelf 95 = .ok (.iload_n 2, 1) := by decide +kernel
theorem dX7_shelf_96 : decode cX7_shelf 96 = .ok (.ifCond .ne 7, 3) := by decide +kernel
theorem dX7_shelf_99 : decode cX7_shelf 99 = .ok (.iload_n 3, 1) := by decide +kernel
theorem dX7_shelf_100 : decode cX7_shelf 100 = .ok (.goto 18, 3) := by decide +kernel
theorem dX7_shelf_103 : decode cX7_shelf 103 = .ok (.iload 4, 2) := by decide +kernel
theorem dX7_shelf_105 : decode cX7_shelf 105 = .ok (.ifCond .eq 12, 3) := by decide +kernel
theorem dX7_shelf_108 : decode cX7_shelf 108 = .ok (.aload_n 0, 1) := by decide +kernel
theorem dX7_shelf_109 : decode cX7_shelf 109 = .ok (.getfield 28, 3) := by decide +kernel
theorem dX7_shelf_112 : decode cX7_shelf 112 = .ok (.iload_n 3, 1) := by decide +kernel
theorem dX7_shelf_113 : decode cX7_shelf 113 = .ok (.iaload, 1) := by decide +kernel
theorem dX7_shelf_114 : decode cX7_shelf 114 = .ok (.goto 4, 3) := by decide +kernel
theorem dX7_shelf_117 : decode cX7_shelf 117 = .ok (.iconst 0, 1) := by decide +kernel
theorem dX7_shelf_118 : decode cX7_shelf 118 = .ok (.iastore, 1) := by decide +kernel
theorem dX7_shelf_119 : decode cX7_shelf 119 = .ok (.aload_n 0, 1) := by decide +kernel
theorem dX7_shelf_120 : decode cX7_shelf 120 = .ok (.getfield 43, 3) := by decide +kernel
theorem dX7_shelf_123 : decode cX7_shelf 123 = .ok (.iload_n 1, 1) := by decide +kernel
theorem dX7_shelf_124 : decode cX7_shelf 124 = .ok (.iload 4, 2) := by decide +kernel
theorem dX7_shelf_126 : decode cX7_shelf 126 = .ok (.ifCond .eq 12, 3) := by decide +kernel
theorem dX7_shelf_129 : decode cX7_shelf 129 = .ok (.aload_n 0, 1) := by decide +kernel
theorem dX7_shelf_130 : decode cX7_shelf 130 = .ok (.getfield 31, 3) := by decide +kernel
theorem dX7_shelf_133 : decode cX7_shelf 133 = .ok (.iload_n 3, 1) := by decide +kernel
theorem dX7_shelf_134 : decode cX7_shelf 134 = .ok (.iaload, 1) := by decide +kernel
theorem dX7_shelf_135 : decode cX7_shelf 135 = .ok (.goto 4, 3) := by decide +kernel
theorem dX7_shelf_138 : decode cX7_shelf 138 = .ok (.iconst 0, 1) := by decide +kernel
theorem dX7_shelf_139 : decode cX7_shelf 139 = .ok (.iastore, 1) := by decide +kernel
theorem dX7_shelf_140 : decode cX7_shelf 140 = .ok (.iconst 1, 1) := by decide +kernel
theorem dX7_shelf_141 : decode cX7_shelf 141 = .ok (.ireturn, 1) := by decide +kernel
set_option maxRecDepth 20000 in
theorem ggX7_heldOn_X7_isOne : GoodIn wsX7_heldOn wsX7_isOne := goodIn_r _ [7, 8, 9, 10, 11, 12, 13, 14, 15, 16, 17, 18, 19, 20, 21, 22, 23, 24, 25, 26, 27, 28, 29, 30, 31, 32, 33, 34] (by decide +kernel) (by decide +kernel)
set_option maxRecDepth 20000 in
theorem gX7_heldOn_X7_isOne : GoodIn wsX7_heldOn (wsV RX7 162 RX7 yX7_isOne wsX7_isOne) := goodIn_app (goodIn_of _ (by decide +kernel)) ggX7_heldOn_X7_isOne
theorem dX7_heldOn_0 : decode cX7_heldOn 0 = .ok (.aload_n 0, 1) := by decide +kernel
theorem dX7_heldOn_1 : decode cX7_heldOn 1 = .ok (.getfield 37, 3) := by decide +kernel
theorem dX7_heldOn_4 : decode cX7_heldOn 4 = .ok (.iload_n 1, 1) := by decide +kernel
theorem dX7_heldOn_5 : decode cX7_heldOn 5 = .ok (.iaload, 1) := by decide +kernel
theorem dX7_heldOn_6 : decode cX7_heldOn 6 = .ok (.iconst 1, 1) := by decide +kernel
theorem dX7_heldOn_7 : decode cX7_heldOn 7 = .ok (.if_icmp .ne 20, 3) := by decide +kernel
theorem dX7_heldOn_10 : decode cX7_heldOn 10 = .ok (.aload_n 0, 1) := by decide +kernel
theorem dX7_heldOn_11 : decode cX7_heldOn 11 = .ok (.aload_n 0, 1) := by decide +kernel
theorem dX7_heldOn_12 : decode cX7_heldOn 12 = .ok (.getfield 40, 3) := by decide +kernel
theorem dX7_heldOn_15 : decode cX7_heldOn 15 = .ok (.iload_n 1, 1) := by decide +kernel
theorem dX7_heldOn_16 : decode cX7_heldOn 16 = .ok (.iaload, 1) := by decide +kernel
theorem dX7_heldOn_17 : decode cX7_heldOn 17 = .ok (.invokevirtual 162, 3) := by decide +kernel
theorem dX7_heldOn_20 : decode cX7_heldOn 20 = .ok (.ifCond .ne 7, 3) := by decide +kernel
theorem dX7_heldOn_23 : decode cX7_heldOn 23 = .ok (.iconst 0, 1) := by decide +kernel
theorem dX7_heldOn_24 : decode cX7_heldOn 24 = .ok (.goto 9, 3) := by decide +kernel
theorem dX7_heldOn_27 : decode cX7_heldOn 27 = .ok (.aload_n 0, 1) := by decide +kernel
theorem dX7_heldOn_28 : decode cX7_heldOn 28 = .ok (.getfield 37, 3) := by decide +kernel
theorem dX7_heldOn_31 : decode cX7_heldOn 31 = .ok (.iload_n 1, 1) := by decide +kernel
theorem dX7_heldOn_32 : decode cX7_heldOn 32 = .ok (.iaload, 1) := by decide +kernel
theorem dX7_heldOn_33 : decode cX7_heldOn 33 = .ok (.ireturn, 1) := by decide +kernel
set_option maxRecDepth 20000 in
theorem ggX7_taken_X7_isShelf : GoodIn wsX7_taken wsX7_isShelf := goodIn_r _ [9, 10, 11, 12, 8, 13] (by decide +kernel) (by decide +kernel)
set_option maxRecDepth 20000 in
theorem gX7_taken_X7_isShelf : GoodIn wsX7_taken (va_wsS RX7 277 yX7_isShelf wsX7_isShelf) := goodIn_app (goodIn_of _ (by decide +kernel)) ggX7_taken_X7_isShelf
set_option maxRecDepth 20000 in
theorem ggX7_taken_X7_isIn : GoodIn wsX7_taken wsX7_isIn := goodIn_r _ [13] (by decide +kernel) (by decide +kernel)
set_option maxRecDepth 20000 in
theorem gX7_taken_X7_isIn : GoodIn wsX7_taken (va_wsS RX7 54 yX7_isIn wsX7_isIn) := goodIn_app (goodIn_of _ (by decide +kernel)) ggX7_taken_X7_isIn
set_option maxRecDepth 20000 in
theorem ggX7_taken_X7_heldOn : GoodIn wsX7_taken wsX7_heldOn := goodIn_r _ [17, 18, 4, 19, 20, 21, 8, 22, 23, 31, 32, 33, 34, 35, 36, 37, 38, 39, 40, 41, 42, 43, 44, 45, 46, 47, 48, 49, 50, 51, 52, 53, 54, 55, 56] (by decide +kernel) (by decide +kernel)
set_option maxRecDepth 20000 in
theorem gX7_taken_X7_heldOn : GoodIn wsX7_taken (wsV RX7 286 RX7 yX7_heldOn wsX7_heldOn) := goodIn_app (goodIn_of _ (by decide +kernel)) ggX7_taken_X7_heldOn
set_option maxRecDepth 20000 in
theorem ggX7_taken_X7_its : GoodIn wsX7_taken wsX7_its := goodIn_r _ [27, 23, 31, 32, 33, 34, 35, 36, 37, 38, 39, 40, 41, 42, 43, 44, 45, 46, 47, 48, 49, 50, 51, 52, 53, 54, 55, 56] (by decide +kernel) (by decide +kernel)
set_option maxRecDepth 20000 in
theorem gX7_taken_X7_its : GoodIn wsX7_taken (wsV RX7 156 RX7 yX7_its wsX7_its) := goodIn_app (goodIn_of _ (by decide +kernel)) ggX7_taken_X7_its
set_option maxRecDepth 20000 in
theorem ggX7_taken_X7_isUnder : GoodIn wsX7_taken wsX7_isUnder := goodIn_r _ [30] (by decide +kernel) (by decide +kernel)
set_option maxRecDepth 20000 in
theorem gX7_taken_X7_isUnder : GoodIn wsX7_taken (va_wsS RX7 289 yX7_isUnder wsX7_isUnder) := goodIn_app (goodIn_of _ (by decide +kernel)) ggX7_taken_X7_isUnder
theorem dX7_taken_0 : decode cX7_taken 0 = .ok (.iload_n 1, 1) := by decide +kernel
theorem dX7_taken_1 : decode cX7_taken 1 = .ok (.invokestatic 277, 3) := by decide +kernel
theorem dX7_taken_4 : decode cX7_taken 4 = .ok (.ifCond .eq 29, 3) := by decide +kernel
theorem dX7_taken_7 : decode cX7_taken 7 = .ok (.iload_n 2, 1) := by decide +kernel
theorem dX7_taken_8 : decode cX7_taken 8 = .ok (.i2l, 1) := by decide +kernel
theorem dX7_taken_9 : decode cX7_taken 9 = .ok (.lconst 0, 1) := by decide +kernel
theorem dX7_taken_10 : decode cX7_taken 10 = .ok (.ldc2_w 280, 3) := by decide +kernel
theorem dX7_taken_13 : decode cX7_taken 13 = .ok (.invokestatic 54, 3) := by decide +kernel
theorem dX7_taken_16 : decode cX7_taken 16 = .ok (.ifCond .eq 17, 3) := by decide +kernel
theorem dX7_taken_19 : decode cX7_taken 19 = .ok (.iload_n 2, 1) := by decide +kernel
theorem dX7_taken_20 : decode cX7_taken 20 = .ok (.i2l, 1) := by decide +kernel
theorem dX7_taken_21 : decode cX7_taken 21 = .ok (.ldc2_w 282, 3) := by decide +kernel
theorem dX7_taken_24 : decode cX7_taken 24 = .ok (.ldc2_w 284, 3) := by decide +kernel
theorem dX7_taken_27 : decode cX7_taken 27 = .ok (.invokestatic 54, 3) := by decide +kernel
theorem dX7_taken_30 : decode cX7_taken 30 = .ok (.ifCond .eq 5, 3) := by decide +kernel
theorem dX7_taken_33 : decode cX7_taken 33 = .ok (.iconst (-1), 1) := by decide +kernel
theorem dX7_taken_34 : decode cX7_taken 34 = .ok (.ireturn, 1) := by decide +kernel
theorem dX7_taken_35 : decode cX7_taken 35 = .ok (.aload_n 0, 1) := by decide +kernel
theorem dX7_taken_36 : decode cX7_taken 36 = .ok (.iload_n 1, 1) := by decide +kernel
theorem dX7_taken_37 : decode cX7_taken 37 = .ok (.invokevirtual 286, 3) := by decide +kernel
theorem dX7_taken_40 : decode cX7_taken 40 = .ok (.istore_n 3, 1) := by decide +kernel
theorem dX7_taken_41 : decode cX7_taken 41 = .ok (.iload_n 3, 1) := by decide +kernel
theorem dX7_taken_42 : decode cX7_taken 42 = .ok (.ifCond .ne 6, 3) := by decide +kernel
theorem dX7_taken_45 : decode cX7_taken 45 = .ok (.bipush (-11), 2) := by decide +kernel
theorem dX7_taken_47 : decode cX7_taken 47 = .ok (.ireturn, 1) := by decide +kernel
theorem dX7_taken_48 : decode cX7_taken 48 = .ok (.iload_n 2, 1) := by decide +kernel
theorem dX7_taken_49 : decode cX7_taken 49 = .ok (.bipush 10, 2) := by decide +kernel
theorem dX7_taken_51 : decode cX7_taken 51 = .ok (.if_icmp .ge 38, 3) := by decide +kernel
theorem dX7_taken_54 : decode cX7_taken 54 = .ok (.iload_n 3, 1) := by decide +kernel
theorem dX7_taken_55 : decode cX7_taken 55 = .ok (.iconst 1, 1) := by decide +kernel
theorem dX7_taken_56 : decode cX7_taken 56 = .ok (.if_icmp .ne 30, 3) := by decide +kernel
theorem dX7_taken_59 : decode cX7_taken 59 = .ok (.aload_n 0, 1) := by decide +kernel
theorem dX7_taken_60 : decode cX7_taken 60 = .ok (.aload_n 0, 1) := by decide +kernel
theorem dX7_taken_61 : decode cX7_taken 61 = .ok (.getfield 40, 3) := by decide +kernel
theorem dX7_taken_64 : decode cX7_taken 64 = .ok (.iload_n 1, 1) := by decide +kernel
theorem dX7_taken_65 : decode cX7_taken 65 = .ok (.iaload, 1) := by decide +kernel
theorem dX7_taken_66 : decode cX7_taken 66 = .ok (.iconst 0, 1) := by decide +kernel
theorem dX7_taken_67 : decode cX7_taken 67 = .ok (.invokevirtual 156, 3) := by decide +kernel
theorem dX7_taken_70 : decode cX7_taken 70 = .ok (.iload_n 2, 1) := by decide +kernel
theorem dX7_taken_71 : decode cX7_taken 71 = .ok (.invokestatic 289, 3) := by decide +kernel
theorem dX7_taken_74 : decode cX7_taken 74 = .ok (.ifCond .eq 12, 3) := by decide +kernel
theorem dX7_taken_77 : decode cX7_taken 77 = .ok (.aload_n 0, 1) := by decide +kernel
theorem dX7_taken_78 : decode cX7_taken 78 = .ok (.getfield 40, 3) := by decide +kernel
theorem dX7_taken_81 : decode cX7_taken 81 = .ok (.iload_n 1, 1) := by decide +kernel
theorem dX7_taken_82 : decode cX7_taken 82 = .ok (.iaload, 1) := by decide +kernel
theorem dX7_taken_83 : decode cX7_taken 83 = .ok (.goto 5, 3) := by decide +kernel
theorem dX7_taken_86 : decode cX7_taken 86 = .ok (.bipush (-13), 2) := by decide +kernel
theorem dX7_taken_88 : decode cX7_taken 88 = .ok (.ireturn, 1) := by decide +kernel
theorem dX7_taken_89 : decode cX7_taken 89 = .ok (.iload_n 3, 1) := by decide +kernel
theorem dX7_taken_90 : decode cX7_taken 90 = .ok (.iconst 2, 1) := by decide +kernel
theorem dX7_taken_91 : decode cX7_taken 91 = .ok (.if_icmp .ne 25, 3) := by decide +kernel
theorem dX7_taken_94 : decode cX7_taken 94 = .ok (.aload_n 0, 1) := by decide +kernel
theorem dX7_taken_95 : decode cX7_taken 95 = .ok (.getfield 40, 3) := by decide +kernel
theorem dX7_taken_98 : decode cX7_taken 98 = .ok (.iload_n 1, 1) := by decide +kernel
theorem dX7_taken_99 : decode cX7_taken 99 = .ok (.iaload, 1) := by decide +kernel
theorem dX7_taken_100 : decode cX7_taken 100 = .ok (.iload_n 2, 1) := by decide +kernel
theorem dX7_taken_101 : decode cX7_taken 101 = .ok (.bipush 10, 2) := by decide +kernel
theorem dX7_taken_103 : decode cX7_taken 103 = .ok (.isub, 1) := by decide +kernel
theorem dX7_taken_104 : decode cX7_taken 104 = .ok (.if_icmp .ne 12, 3) := by decide +kernel
theorem dX7_taken_107 : decode cX7_taken 107 = .ok (.aload_n 0, 1) := by decide +kernel
theorem dX7_taken_108 : decode cX7_taken 108 = .ok (.getfield 43, 3) := by decide +kernel
theorem dX7_taken_111 : decode cX7_taken 111 = .ok (.iload_n 1, 1) := by decide +kernel
theorem dX7_taken_112 : decode cX7_taken 112 = .ok (.iaload, 1) := by decide +kernel
theorem dX7_taken_113 : decode cX7_taken 113 = .ok (.goto 5, 3) := by decide +kernel
theorem dX7_taken_116 : decode cX7_taken 116 = .ok (.bipush (-13), 2) := by decide +kernel
theorem dX7_taken_118 : decode cX7_taken 118 = .ok (.ireturn, 1) := by decide +kernel
theorem dX7_runs_0 : decode cX7_runs 0 = .ok (.aload_n 0, 1) := by decide +kernel
theorem dX7_runs_1 : decode cX7_runs 1 = .ok (.getfield 292, 3) := by decide +kernel
theorem dX7_runs_4 : decode cX7_runs 4 = .ok (.bipush 30, 2) := by decide +kernel
theorem dX7_runs_6 : decode cX7_runs 6 = .ok (.if_icmp .ge 23, 3) := by decide +kernel
theorem dX7_runs_9 : decode cX7_runs 9 = .ok (.aload_n 0, 1) := by decide +kernel
theorem dX7_runs_10 : decode cX7_runs 10 = .ok (.getfield 46, 3) := by decide +kernel
theorem dX7_runs_13 : decode cX7_runs 13 = .ok (.aload_n 0, 1) := by decide +kernel
theorem dX7_runs_14 : decode cX7_runs 14 = .ok (.getfield 292, 3) := by decide +kernel
theorem dX7_runs_17 : decode cX7_runs 17 = .ok (.iload_n 1, 1) := by decide +kernel
theorem dX7_runs_18 : decode cX7_runs 18 = .ok (.iastore, 1) := by decide +kernel
theorem dX7_runs_19 : decode cX7_runs 19 = .ok (.aload_n 0, 1) := by decide +kernel
theorem dX7_runs_20 : decode cX7_runs 20 = .ok (.dup, 1) := by decide +kernel
theorem dX7_runs_21 : decode cX7_runs 21 = .ok (.getfield 292, 3) := by decide +kernel
theorem dX7_runs_24 : decode cX7_runs 24 = .ok (.iconst 1, 1) := by decide +kernel
theorem dX7_runs_25 : decode cX7_runs 25 = .ok (.iadd, 1) := by decide +kernel
theorem dX7_runs_26 : decode cX7_runs 26 = .ok (.putfield 292, 3) := by decide +kernel
theorem dX7_runs_29 : decode cX7_runs 29 = .ok (.return_, 1) := by decide +kernel
set_option maxRecDepth 20000 in
theorem ggX7_liftsPlain_X7_runs : GoodIn wsX7_liftsPlain wsX7_runs := goodIn_r _ [6, 7, 8, 9, 10, 11, 12, 13, 14, 15, 16, 17, 18, 19, 20, 21, 22, 23, 24, 25, 26, 27, 28, 29, 30, 31, 32, 33, 34] (by decide +kernel) (by decide +kernel)
set_option maxRecDepth 20000 in
theorem gX7_liftsPlain_X7_runs : GoodIn wsX7_liftsPlain (wsV RX7 295 RX7 yX7_runs wsX7_runs) := goodIn_app (goodIn_of _ (by decide +kernel)) ggX7_liftsPlain_X7_runs
theorem dX7_liftsPlain_0 : decode cX7_liftsPlain 0 = .ok (.aload_n 0, 1) := by decide +kernel
theorem dX7_liftsPlain_1 : decode cX7_liftsPlain 1 = .ok (.bipush 10, 2) := by decide +kernel
theorem dX7_liftsPlain_3 : decode cX7_liftsPlain 3 = .ok (.invokevirtual 295, 3) := by decide +kernel
theorem dX7_liftsPlain_6 : decode cX7_liftsPlain 6 = .ok (.iload_n 1, 1) := by decide +kernel
theorem dX7_liftsPlain_7 : decode cX7_liftsPlain 7 = .ok (.iconst 2, 1) := by decide +kernel
theorem dX7_liftsPlain_8 : decode cX7_liftsPlain 8 = .ok (.imul, 1) := by decide +kernel
theorem dX7_liftsPlain_9 : decode cX7_liftsPlain 9 = .ok (.aload_n 0, 1) := by decide +kernel
theorem dX7_liftsPlain_10 : decode cX7_liftsPlain 10 = .ok (.getfield 298, 3) := by decide +kernel
theorem dX7_liftsPlain_13 : decode cX7_liftsPlain 13 = .ok (.iadd, 1) := by decide +kernel
theorem dX7_liftsPlain_14 : decode cX7_liftsPlain 14 = .ok (.ireturn, 1) := by decide +kernel
set_option maxRecDepth 20000 in
theorem ggX7_liftsOfActuary_X7_runs : GoodIn wsX7_liftsOfActuary wsX7_runs := goodIn_r _ [5, 6, 7, 13, 14, 15, 16, 17, 18, 19, 20, 21, 22, 23, 24, 25, 26, 27, 28, 29, 30, 31, 32, 33, 34, 35, 36, 37, 38] (by decide +kernel) (by decide +kernel)
set_option maxRecDepth 20000 in
theorem gX7_liftsOfActuary_X7_runs : GoodIn wsX7_liftsOfActuary (wsV RX7 295 RX7 yX7_runs wsX7_runs) := goodIn_app (goodIn_of _ (by decide +kernel)) ggX7_liftsOfActuary_X7_runs
set_option maxRecDepth 20000 in
theorem ggX7_liftsOfActuary_X7_liftsPlain : GoodIn wsX7_liftsOfActuary wsX7_liftsPlain := goodIn_r _ [11, 12, 1, 2, 3, 4, 5, 6, 7, 13, 14, 15, 16, 17, 18, 19, 20, 21, 22, 23, 24, 25, 26, 27, 28, 29, 30, 31, 32, 33, 34, 35, 36, 37, 38] (by decide +kernel) (by decide +kernel)
set_option maxRecDepth 20000 in
theorem gX7_liftsOfActuary_X7_liftsPlain : GoodIn wsX7_liftsOfActuary (wsV RX7 301 RX7 yX7_liftsPlain wsX7_liftsPlain) := goodIn_app (goodIn_of _ (by decide +kernel)) ggX7_liftsOfActuary_X7_liftsPlain
theorem dX7_liftsOfActuary_0 : decode cX7_liftsOfActuary 0 = .ok (.aload_n 0, 1) := by decide +kernel
theorem dX7_liftsOfActuary_1 : decode cX7_liftsOfActuary 1 = .ok (.bipush 30, 2) := by decide +kernel
theorem dX7_liftsOfActuary_3 : decode cX7_liftsOfActuary 3 = .ok (.invokevirtual 295, 3) := by decide +kernel
theorem dX7_liftsOfActuary_6 : decode cX7_liftsOfActuary 6 = .ok (.aload_n 0, 1) := by decide +kernel
theorem dX7_liftsOfActuary_7 : decode cX7_liftsOfActuary 7 = .ok (.iload_n 1, 1) := by decide +kernel
theorem dX7_liftsOfActuary_8 : decode cX7_liftsOfActuary 8 = .ok (.invokevirtual 301, 3) := by decide +kernel
theorem dX7_liftsOfActuary_11 : decode cX7_liftsOfActuary 11 = .ok (.iconst 3, 1) := by decide +kernel
theorem dX7_liftsOfActuary_12 : decode cX7_liftsOfActuary 12 = .ok (.imul, 1) := by decide +kernel
theorem dX7_liftsOfActuary_13 : decode cX7_liftsOfActuary 13 = .ok (.ireturn, 1) := by decide +kernel
set_option maxRecDepth 20000 in
theorem ggX7_lifts_X7_liftsOfActuary : GoodIn wsX7_lifts wsX7_liftsOfActuary := goodIn_r _ [7, 8, 9, 10, 6, 11, 12, 13, 14, 15, 16, 17, 18, 19, 20, 21, 22, 23, 24, 25, 26, 27, 28, 29, 30, 31, 32, 33, 34, 35, 36, 37, 38, 39, 40, 41, 42, 43, 44] (by decide +kernel) (by decide +kernel)
set_option maxRecDepth 20000 in
theorem gX7_lifts_X7_liftsOfActuary : GoodIn wsX7_lifts (wsV RX7 307 RX7 yX7_liftsOfActuary wsX7_liftsOfActuary) := goodIn_app (goodIn_of _ (by decide +kernel)) ggX7_lifts_X7_liftsOfActuary
set_option maxRecDepth 20000 in
theorem ggX7_lifts_X7_runs : GoodIn wsX7_lifts wsX7_runs := goodIn_r _ [11, 12, 13, 19, 20, 21, 22, 23, 24, 25, 26, 27, 28, 29, 30, 31, 32, 33, 34, 35, 36, 37, 38, 39, 40, 41, 42, 43, 44] (by decide +kernel) (by decide +kernel)
set_option maxRecDepth 20000 in
theorem gX7_lifts_X7_runs : GoodIn wsX7_lifts (wsV RX7 295 RX7 yX7_runs wsX7_runs) := goodIn_app (goodIn_of _ (by decide +kernel)) ggX7_lifts_X7_runs
set_option maxRecDepth 20000 in
theorem ggX7_lifts_X7_liftsPlain : GoodIn wsX7_lifts wsX7_liftsPlain := goodIn_r _ [17, 18, 8, 9, 10, 6, 11, 12, 13, 19, 20, 21, 22, 23, 24, 25, 26, 27, 28, 29, 30, 31, 32, 33, 34, 35, 36, 37, 38, 39, 40, 41, 42, 43, 44] (by decide +kernel) (by decide +kernel)
set_option maxRecDepth 20000 in
theorem gX7_lifts_X7_liftsPlain : GoodIn wsX7_lifts (wsV RX7 301 RX7 yX7_liftsPlain wsX7_liftsPlain) := goodIn_app (goodIn_of _ (by decide +kernel)) ggX7_lifts_X7_liftsPlain
theorem dX7_lifts_0 : decode cX7_lifts 0 = .ok (.aload_n 0, 1) := by decide +kernel
theorem dX7_lifts_1 : decode cX7_lifts 1 = .ok (.getfield 304, 3) := by decide +kernel
theorem dX7_lifts_4 : decode cX7_lifts 4 = .ok (.tableswitch 65 2 4 #[28, 48, 34], 28) := by decide +kernel
theorem dX7_lifts_32 : decode cX7_lifts 32 = .ok (.aload_n 0, 1) := by decide +kernel
theorem dX7_lifts_33 : decode cX7_lifts 33 = .ok (.iload_n 1, 1) := by decide +kernel
theorem dX7_lifts_34 : decode cX7_lifts 34 = .ok (.invokevirtual 307, 3) := by decide +kernel
theorem dX7_lifts_37 : decode cX7_lifts 37 = .ok (.ireturn, 1) := by decide +kernel
theorem dX7_lifts_38 : decode cX7_lifts 38 = .ok (.aload_n 0, 1) := by decide +kernel
theorem dX7_lifts_39 : decode cX7_lifts 39 = .ok (.bipush 40, 2) := by decide +kernel
theorem dX7_lifts_41 : decode cX7_lifts 41 = .ok (.invokevirtual 295, 3) := by decide +kernel
theorem dX7_lifts_44 : decode cX7_lifts 44 = .ok (.iconst 0, 1) := by decide +kernel
theorem dX7_lifts_45 : decode cX7_lifts 45 = .ok (.aload_n 0, 1) := by decide +kernel
theorem dX7_lifts_46 : decode cX7_lifts 46 = .ok (.iload_n 1, 1) := by decide +kernel
theorem dX7_lifts_47 : decode cX7_lifts 47 = .ok (.invokevirtual 307, 3) := by decide +kernel
theorem dX7_lifts_50 : decode cX7_lifts 50 = .ok (.isub, 1) := by decide +kernel
theorem dX7_lifts_51 : decode cX7_lifts 51 = .ok (.ireturn, 1) := by decide +kernel
theorem dX7_lifts_52 : decode cX7_lifts 52 = .ok (.aload_n 0, 1) := by decide +kernel
theorem dX7_lifts_53 : decode cX7_lifts 53 = .ok (.bipush 51, 2) := by decide +kernel
theorem dX7_lifts_55 : decode cX7_lifts 55 = .ok (.invokevirtual 295, 3) := by decide +kernel
theorem dX7_lifts_58 : decode cX7_lifts 58 = .ok (.aload_n 0, 1) := by decide +kernel
theorem dX7_lifts_59 : decode cX7_lifts 59 = .ok (.iload_n 1, 1) := by decide +kernel
theorem dX7_lifts_60 : decode cX7_lifts 60 = .ok (.invokevirtual 301, 3) := by decide +kernel
theorem dX7_lifts_63 : decode cX7_lifts 63 = .ok (.aload_n 0, 1) := by decide +kernel
theorem dX7_lifts_64 : decode cX7_lifts 64 = .ok (.getfield 310, 3) := by decide +kernel
theorem dX7_lifts_67 : decode cX7_lifts 67 = .ok (.isub, 1) := by decide +kernel
theorem dX7_lifts_68 : decode cX7_lifts 68 = .ok (.ireturn, 1) := by decide +kernel
theorem dX7_lifts_69 : decode cX7_lifts 69 = .ok (.aload_n 0, 1) := by decide +kernel
theorem dX7_lifts_70 : decode cX7_lifts 70 = .ok (.iload_n 1, 1) := by decide +kernel
theorem dX7_lifts_71 : decode cX7_lifts 71 = .ok (.invokevirtual 301, 3) := by decide +kernel
theorem dX7_lifts_74 : decode cX7_lifts 74 = .ok (.ireturn, 1) := by decide +kernel
set_option maxRecDepth 20000 in
theorem ggX7_cutsPlain_X7_runs : GoodIn wsX7_cutsPlain wsX7_runs := goodIn_r _ [6, 7, 8, 23, 24, 25, 26, 27, 28, 29, 30, 31, 32, 33, 34, 35, 36, 37, 38, 39, 40, 41, 42, 43, 44, 45, 46, 47, 48] (by decide +kernel) (by decide +kernel)
set_option maxRecDepth 20000 in
theorem gX7_cutsPlain_X7_runs : GoodIn wsX7_cutsPlain (wsV RX7 295 RX7 yX7_runs wsX7_runs) := goodIn_app (goodIn_of _ (by decide +kernel)) ggX7_cutsPlain_X7_runs
set_option maxRecDepth 20000 in
theorem ggX7_cutsPlain_X7_lifts : GoodIn wsX7_cutsPlain wsX7_lifts := goodIn_r _ [12, 13, 1, 14, 15, 16, 5, 17, 2, 3, 4, 6, 7, 8, 18, 19, 20, 21, 22, 23, 24, 25, 26, 27, 28, 29, 30, 31, 32, 33, 34, 35, 36, 37, 38, 39, 40, 41, 42, 43, 44, 45, 46, 47, 48] (by decide +kernel) (by decide +kernel)
set_option maxRecDepth 20000 in
theorem gX7_cutsPlain_X7_lifts : GoodIn wsX7_cutsPlain (wsV RX7 313 RX7 yX7_lifts wsX7_lifts) := goodIn_app (goodIn_of _ (by decide +kernel)) ggX7_cutsPlain_X7_lifts
theorem dX7_cutsPlain_0 : decode cX7_cutsPlain 0 = .ok (.aload_n 0, 1) := by decide +kernel
theorem dX7_cutsPlain_1 : decode cX7_cutsPlain 1 = .ok (.bipush 11, 2) := by decide +kernel
theorem dX7_cutsPlain_3 : decode cX7_cutsPlain 3 = .ok (.invokevirtual 295, 3) := by decide +kernel
theorem dX7_cutsPlain_6 : decode cX7_cutsPlain 6 = .ok (.aload_n 0, 1) := by decide +kernel
theorem dX7_cutsPlain_7 : decode cX7_cutsPlain 7 = .ok (.iload_n 1, 1) := by decide +kernel
theorem dX7_cutsPlain_8 : decode cX7_cutsPlain 8 = .ok (.invokevirtual 313, 3) := by decide +kernel
theorem dX7_cutsPlain_11 : decode cX7_cutsPlain 11 = .ok (.aload_n 0, 1) := by decide +kernel
theorem dX7_cutsPlain_12 : decode cX7_cutsPlain 12 = .ok (.getfield 310, 3) := by decide +kernel
theorem dX7_cutsPlain_15 : decode cX7_cutsPlain 15 = .ok (.iconst 3, 1) := by decide +kernel
theorem dX7_cutsPlain_16 : decode cX7_cutsPlain 16 = .ok (.imul, 1) := by decide +kernel
theorem dX7_cutsPlain_17 : decode cX7_cutsPlain 17 = .ok (.isub, 1) := by decide +kernel
theorem dX7_cutsPlain_18 : decode cX7_cutsPlain 18 = .ok (.ireturn, 1) := by decide +kernel
set_option maxRecDepth 20000 in
theorem ggX7_cuts_X7_runs : GoodIn wsX7_cuts wsX7_runs := goodIn_r _ [7, 8, 9, 27, 28, 29, 30, 31, 32, 33, 34, 35, 36, 37, 38, 39, 40, 41, 42, 43, 44, 45, 46, 47, 48, 49, 50, 51, 52] (by decide +kernel) (by decide +kernel)
set_option maxRecDepth 20000 in
theorem gX7_cuts_X7_runs : GoodIn wsX7_cuts (wsV RX7 295 RX7 yX7_runs wsX7_runs) := goodIn_app (goodIn_of _ (by decide +kernel)) ggX7_cuts_X7_runs
set_option maxRecDepth 20000 in
theorem ggX7_cuts_X7_cutsPlain : GoodIn wsX7_cuts wsX7_cutsPlain := goodIn_r _ [13, 2, 3, 4, 5, 6, 7, 8, 9, 14, 15, 16, 17, 1, 18, 19, 20, 21, 22, 23, 24, 25, 26, 27, 28, 29, 30, 31, 32, 33, 34, 35, 36, 37, 38, 39, 40, 41, 42, 43, 44, 45, 46, 47, 48, 49, 50, 51, 52] (by decide +kernel) (by decide +kernel)
set_option maxRecDepth 20000 in
theorem gX7_cuts_X7_cutsPlain : GoodIn wsX7_cuts (wsV RX7 316 RX7 yX7_cutsPlain wsX7_cutsPlain) := goodIn_app (goodIn_of _ (by decide +kernel)) ggX7_cuts_X7_cutsPlain
set_option maxRecDepth 20000 in
theorem ggX7_cuts_X7_lifts : GoodIn wsX7_cuts wsX7_lifts := goodIn_r _ [17, 1, 2, 18, 19, 20, 6, 21, 3, 4, 5, 7, 8, 9, 22, 23, 24, 25, 26, 27, 28, 29, 30, 31, 32, 33, 34, 35, 36, 37, 38, 39, 40, 41, 42, 43, 44, 45, 46, 47, 48, 49, 50, 51, 52] (by decide +kernel) (by decide +kernel)
set_option maxRecDepth 20000 in
theorem gX7_cuts_X7_lifts : GoodIn wsX7_cuts (wsV RX7 313 RX7 yX7_lifts wsX7_lifts) := goodIn_app (goodIn_of _ (by decide +kernel)) ggX7_cuts_X7_lifts
theorem dX7_cuts_0 : decode cX7_cuts 0 = .ok (.aload_n 0, 1) := by decide +kernel
theorem dX7_cuts_1 : decode cX7_cuts 1 = .ok (.getfield 304, 3) := by decide +kernel
theorem dX7_cuts_4 : decode cX7_cuts 4 = .ok (.iconst 1, 1) := by decide +kernel
theorem dX7_cuts_5 : decode cX7_cuts 5 = .ok (.if_icmp .eq 11, 3) := by decide +kernel
theorem dX7_cuts_8 : decode cX7_cuts 8 = .ok (.aload_n 0, 1) := by decide +kernel
theorem dX7_cuts_9 : decode cX7_cuts 9 = .ok (.getfield 304, 3) := by decide +kernel
theorem dX7_cuts_12 : decode cX7_cuts 12 = .ok (.iconst 3, 1) := by decide +kernel
theorem dX7_cuts_13 : decode cX7_cuts 13 = .ok (.if_icmp .ne 18, 3) := by decide +kernel
theorem dX7_cuts_16 : decode cX7_cuts 16 = .ok (.aload_n 0, 1) := by decide +kernel
theorem dX7_cuts_17 : decode cX7_cuts 17 = .ok (.bipush 20, 2) := by decide +kernel
theorem dX7_cuts_19 : decode cX7_cuts 19 = .ok (.invokevirtual 295, 3) := by decide +kernel
theorem dX7_cuts_22 : decode cX7_cuts 22 = .ok (.aload_n 0, 1) := by decide +kernel
theorem dX7_cuts_23 : decode cX7_cuts 23 = .ok (.iload_n 1, 1) := by decide +kernel
theorem dX7_cuts_24 : decode cX7_cuts 24 = .ok (.invokevirtual 316, 3) := by decide +kernel
theorem dX7_cuts_27 : decode cX7_cuts 27 = .ok (.bipush 7, 2) := by decide +kernel
theorem dX7_cuts_29 : decode cX7_cuts 29 = .ok (.iadd, 1) := by decide +kernel
theorem dX7_cuts_30 : decode cX7_cuts 30 = .ok (.ireturn, 1) := by decide +kernel
theorem dX7_cuts_31 : decode cX7_cuts 31 = .ok (.aload_n 0, 1) := by decide +kernel
theorem dX7_cuts_32 : decode cX7_cuts 32 = .ok (.getfield 304, 3) := by decide +kernel
theorem dX7_cuts_35 : decode cX7_cuts 35 = .ok (.iconst 4, 1) := by decide +kernel
theorem dX7_cuts_36 : decode cX7_cuts 36 = .ok (.if_icmp .ne 26, 3) := by decide +kernel
theorem dX7_cuts_39 : decode cX7_cuts 39 = .ok (.aload_n 0, 1) := by decide +kernel
theorem dX7_cuts_40 : decode cX7_cuts 40 = .ok (.bipush 41, 2) := by decide +kernel
theorem dX7_cuts_42 : decode cX7_cuts 42 = .ok (.invokevirtual 295, 3) := by decide +kernel
theorem dX7_cuts_45 : decode cX7_cuts 45 = .ok (.aload_n 0, 1) := by decide +kernel
theorem dX7_cuts_46 : decode cX7_cuts 46 = .ok (.iload_n 1, 1) := by decide +kernel
theorem dX7_cuts_47 : decode cX7_cuts 47 = .ok (.invokevirtual 316, 3) := by decide +kernel
theorem dX7_cuts_50 : decode cX7_cuts 50 = .ok (.istore_n 2, 1) := by decide +kernel
theorem dX7_cuts_51 : decode cX7_cuts 51 = .ok (.iload_n 2, 1) := by decide +kernel
theorem dX7_cuts_52 : decode cX7_cuts 52 = .ok (.aload_n 0, 1) := by decide +kernel
theorem dX7_cuts_53 : decode cX7_cuts 53 = .ok (.aload_n 0, 1) := by decide +kernel
theorem dX7_cuts_54 : decode cX7_cuts 54 = .ok (.getfield 310, 3) := by decide +kernel
theorem dX7_cuts_57 : decode cX7_cuts 57 = .ok (.invokevirtual 313, 3) := by decide +kernel
theorem dX7_cuts_60 : decode cX7_cuts 60 = .ok (.iadd, 1) := by decide +kernel
theorem dX7_cuts_61 : decode cX7_cuts 61 = .ok (.ireturn, 1) := by decide +kernel
theorem dX7_cuts_62 : decode cX7_cuts 62 = .ok (.aload_n 0, 1) := by decide +kernel
theorem dX7_cuts_63 : decode cX7_cuts 63 = .ok (.iload_n 1, 1) := by decide +kernel
theorem dX7_cuts_64 : decode cX7_cuts 64 = .ok (.invokevirtual 316, 3) := by decide +kernel
theorem dX7_cuts_67 : decode cX7_cuts 67 = .ok (.ireturn, 1) := by decide +kernel
set_option maxRecDepth 20000 in
theorem ggX7_partsPlain_X7_runs : GoodIn wsX7_partsPlain wsX7_runs := goodIn_r _ [8, 9, 10, 11, 12, 13, 14, 15, 16, 17, 18, 19, 20, 21, 22, 23, 24, 25, 26, 27, 28, 29, 30, 31, 32, 33, 34, 35, 36] (by decide +kernel) (by decide +kernel)
set_option maxRecDepth 20000 in
theorem gX7_partsPlain_X7_runs : GoodIn wsX7_partsPlain (wsV RX7 295 RX7 yX7_runs wsX7_runs) := goodIn_app (goodIn_of _ (by decide +kernel)) ggX7_partsPlain_X7_runs
theorem dX7_partsPlain_0 : decode cX7_partsPlain 0 = .ok (.aload_n 0, 1) := by decide +kernel
theorem dX7_partsPlain_1 : decode cX7_partsPlain 1 = .ok (.bipush 12, 2) := by decide +kernel
theorem dX7_partsPlain_3 : decode cX7_partsPlain 3 = .ok (.invokevirtual 295, 3) := by decide +kernel
theorem dX7_partsPlain_6 : decode cX7_partsPlain 6 = .ok (.aload_n 0, 1) := by decide +kernel
theorem dX7_partsPlain_7 : decode cX7_partsPlain 7 = .ok (.aload_n 0, 1) := by decide +kernel
theorem dX7_partsPlain_8 : decode cX7_partsPlain 8 = .ok (.getfield 319, 3) := by decide +kernel
theorem dX7_partsPlain_11 : decode cX7_partsPlain 11 = .ok (.ifCond .ne 14, 3) := by decide +kernel
theorem dX7_partsPlain_14 : decode cX7_partsPlain 14 = .ok (.aload_n 0, 1) := by decide +kernel
theorem dX7_partsPlain_15 : decode cX7_partsPlain 15 = .ok (.getfield 298, 3) := by decide +kernel
theorem dX7_partsPlain_18 : decode cX7_partsPlain 18 = .ok (.aload_n 0, 1) := by decide +kernel
theorem dX7_partsPlain_19 : decode cX7_partsPlain 19 = .ok (.getfield 310, 3) := by decide +kernel
theorem dX7_partsPlain_22 : decode cX7_partsPlain 22 = .ok (.if_icmp .ne 7, 3) := by decide +kernel
theorem dX7_partsPlain_25 : decode cX7_partsPlain 25 = .ok (.iconst 1, 1) := by decide +kernel
theorem dX7_partsPlain_26 : decode cX7_partsPlain 26 = .ok (.goto 4, 3) := by decide +kernel
theorem dX7_partsPlain_29 : decode cX7_partsPlain 29 = .ok (.iconst 0, 1) := by decide +kernel
theorem dX7_partsPlain_30 : decode cX7_partsPlain 30 = .ok (.putfield 319, 3) := by decide +kernel
theorem dX7_partsPlain_33 : decode cX7_partsPlain 33 = .ok (.aload_n 0, 1) := by decide +kernel
theorem dX7_partsPlain_34 : decode cX7_partsPlain 34 = .ok (.getfield 319, 3) := by decide +kernel
theorem dX7_partsPlain_37 : decode cX7_partsPlain 37 = .ok (.ifCond .eq 7, 3) := by decide +kernel
theorem dX7_partsPlain_40 : decode cX7_partsPlain 40 = .ok (.iconst 0, 1) := by decide +kernel
theorem dX7_partsPlain_41 : decode cX7_partsPlain 41 = .ok (.goto 14, 3) := by decide +kernel
theorem dX7_partsPlain_44 : decode cX7_partsPlain 44 = .ok (.iload_n 1, 1) := by decide +kernel
theorem dX7_partsPlain_45 : decode cX7_partsPlain 45 = .ok (.aload_n 0, 1) := by decide +kernel
theorem dX7_partsPlain_46 : decode cX7_partsPlain 46 = .ok (.getfield 310, 3) := by decide +kernel
theorem dX7_partsPlain_49 : decode cX7_partsPlain 49 = .ok (.aload_n 0, 1) := by decide +kernel
theorem dX7_partsPlain_50 : decode cX7_partsPlain 50 = .ok (.getfield 298, 3) := by decide +kernel
theorem dX7_partsPlain_53 : decode cX7_partsPlain 53 = .ok (.isub, 1) := by decide +kernel
theorem dX7_partsPlain_54 : decode cX7_partsPlain 54 = .ok (.idiv, 1) := by decide +kernel
theorem dX7_partsPlain_55 : decode cX7_partsPlain 55 = .ok (.ireturn, 1) := by decide +kernel
set_option maxRecDepth 20000 in
theorem ggX7_parts_X7_runs : GoodIn wsX7_parts wsX7_runs := goodIn_r _ [8, 9, 10, 28, 29, 30, 31, 32, 33, 34, 35, 36, 37, 38, 39, 40, 41, 42, 43, 44, 45, 46, 47, 48, 49, 50, 51, 52, 53] (by decide +kernel) (by decide +kernel)
set_option maxRecDepth 20000 in
theorem gX7_parts_X7_runs : GoodIn wsX7_parts (wsV RX7 295 RX7 yX7_runs wsX7_runs) := goodIn_app (goodIn_of _ (by decide +kernel)) ggX7_parts_X7_runs
set_option maxRecDepth 20000 in
theorem ggX7_parts_X7_partsPlain : GoodIn wsX7_parts wsX7_partsPlain := goodIn_r _ [14, 2, 3, 15, 4, 5, 6, 7, 8, 9, 10, 28, 29, 30, 31, 32, 33, 34, 35, 36, 37, 38, 39, 40, 41, 42, 43, 44, 45, 46, 47, 48, 49, 50, 51, 52, 53] (by decide +kernel) (by decide +kernel)
set_option maxRecDepth 20000 in
theorem gX7_parts_X7_partsPlain : GoodIn wsX7_parts (wsV RX7 322 RX7 yX7_partsPlain wsX7_partsPlain) := goodIn_app (goodIn_of _ (by decide +kernel)) ggX7_parts_X7_partsPlain
set_option maxRecDepth 20000 in
theorem ggX7_parts_X7_lifts : GoodIn wsX7_parts wsX7_lifts := goodIn_r _ [19, 1, 15, 20, 21, 22, 7, 23, 4, 5, 6, 8, 9, 10, 24, 25, 26, 27, 3, 28, 29, 30, 31, 32, 33, 34, 35, 36, 37, 38, 39, 40, 41, 42, 43, 44, 45, 46, 47, 48, 49, 50, 51, 52, 53] (by decide +kernel) (by decide +kernel)
set_option maxRecDepth 20000 in
theorem gX7_parts_X7_lifts : GoodIn wsX7_parts (wsV RX7 313 RX7 yX7_lifts wsX7_lifts) := goodIn_app (goodIn_of _ (by decide +kernel)) ggX7_parts_X7_lifts
theorem dX7_parts_0 : decode cX7_parts 0 = .ok (.aload_n 0, 1) := by decide +kernel
theorem dX7_parts_1 : decode cX7_parts 1 = .ok (.getfield 304, 3) := by decide +kernel
theorem dX7_parts_4 : decode cX7_parts 4 = .ok (.iconst 3, 1) := by decide +kernel
theorem dX7_parts_5 : decode cX7_parts 5 = .ok (.if_icmp .ne 19, 3) := by decide +kernel
theorem dX7_parts_8 : decode cX7_parts 8 = .ok (.aload_n 0, 1) := by decide +kernel
theorem dX7_parts_9 : decode cX7_parts 9 = .ok (.bipush 50, 2) := by decide +kernel
theorem dX7_parts_11 : decode cX7_parts 11 = .ok (.invokevirtual 295, 3) := by decide +kernel
theorem dX7_parts_14 : decode cX7_parts 14 = .ok (.aload_n 0, 1) := by decide +kernel
theorem dX7_parts_15 : decode cX7_parts 15 = .ok (.iload_n 1, 1) := by decide +kernel
theorem dX7_parts_16 : decode cX7_parts 16 = .ok (.iconst 2, 1) := by decide +kernel
theorem dX7_parts_17 : decode cX7_parts 17 = .ok (.imul, 1) := by decide +kernel
theorem dX7_parts_18 : decode cX7_parts 18 = .ok (.invokevirtual 322, 3) := by decide +kernel
theorem dX7_parts_21 : decode cX7_parts 21 = .ok (.iconst 3, 1) := by decide +kernel
theorem dX7_parts_22 : decode cX7_parts 22 = .ok (.ixor, 1) := by decide +kernel
theorem dX7_parts_23 : decode cX7_parts 23 = .ok (.ireturn, 1) := by decide +kernel
theorem dX7_parts_24 : decode cX7_parts 24 = .ok (.aload_n 0, 1) := by decide +kernel
theorem dX7_parts_25 : decode cX7_parts 25 = .ok (.getfield 304, 3) := by decide +kernel
theorem dX7_parts_28 : decode cX7_parts 28 = .ok (.iconst 5, 1) := by decide +kernel
theorem dX7_parts_29 : decode cX7_parts 29 = .ok (.if_icmp .ne 37, 3) := by decide +kernel
theorem dX7_parts_32 : decode cX7_parts 32 = .ok (.aload_n 0, 1) := by decide +kernel
theorem dX7_parts_33 : decode cX7_parts 33 = .ok (.bipush 61, 2) := by decide +kernel
theorem dX7_parts_35 : decode cX7_parts 35 = .ok (.invokevirtual 295, 3) := by decide +kernel
theorem dX7_parts_38 : decode cX7_parts 38 = .ok (.aload_n 0, 1) := by decide +kernel
theorem dX7_parts_39 : decode cX7_parts 39 = .ok (.iload_n 1, 1) := by decide +kernel
theorem dX7_parts_40 : decode cX7_parts 40 = .ok (.invokevirtual 322, 3) := by decide +kernel
theorem dX7_parts_43 : decode cX7_parts 43 = .ok (.istore_n 2, 1) := by decide +kernel
theorem dX7_parts_44 : decode cX7_parts 44 = .ok (.aload_n 0, 1) := by decide +kernel
theorem dX7_parts_45 : decode cX7_parts 45 = .ok (.getfield 319, 3) := by decide +kernel
theorem dX7_parts_48 : decode cX7_parts 48 = .ok (.ifCond .eq 7, 3) := by decide +kernel
theorem dX7_parts_51 : decode cX7_parts 51 = .ok (.iconst 0, 1) := by decide +kernel
theorem dX7_parts_52 : decode cX7_parts 52 = .ok (.goto 13, 3) := by decide +kernel
theorem dX7_parts_55 : decode cX7_parts 55 = .ok (.iload_n 2, 1) := by decide +kernel
theorem dX7_parts_56 : decode cX7_parts 56 = .ok (.aload_n 0, 1) := by decide +kernel
theorem dX7_parts_57 : decode cX7_parts 57 = .ok (.aload_n 0, 1) := by decide +kernel
theorem dX7_parts_58 : decode cX7_parts 58 = .ok (.getfield 298, 3) := by decide +kernel
theorem dX7_parts_61 : decode cX7_parts 61 = .ok (.invokevirtual 313, 3) := by decide +kernel
theorem dX7_parts_64 : decode cX7_parts 64 = .ok (.iadd, 1) := by decide +kernel
theorem dX7_parts_65 : decode cX7_parts 65 = .ok (.ireturn, 1) := by decide +kernel
theorem dX7_parts_66 : decode cX7_parts 66 = .ok (.aload_n 0, 1) := by decide +kernel
theorem dX7_parts_67 : decode cX7_parts 67 = .ok (.iload_n 1, 1) := by decide +kernel
theorem dX7_parts_68 : decode cX7_parts 68 = .ok (.invokevirtual 322, 3) := by decide +kernel
theorem dX7_parts_71 : decode cX7_parts 71 = .ok (.ireturn, 1) := by decide +kernel
set_option maxRecDepth 20000 in
theorem ggX7_tellsPlain_X7_runs : GoodIn wsX7_tellsPlain wsX7_runs := goodIn_r _ [5, 6, 7, 31, 32, 33, 34, 35, 36, 37, 38, 39, 40, 41, 42, 43, 44, 45, 46, 47, 48, 49, 50, 51, 52, 53, 54, 55, 56] (by decide +kernel) (by decide +kernel)
set_option maxRecDepth 20000 in
theorem gX7_tellsPlain_X7_runs : GoodIn wsX7_tellsPlain (wsV RX7 295 RX7 yX7_runs wsX7_runs) := goodIn_app (goodIn_of _ (by decide +kernel)) ggX7_tellsPlain_X7_runs
set_option maxRecDepth 20000 in
theorem ggX7_tellsPlain_X7_cuts : GoodIn wsX7_tellsPlain wsX7_cuts := goodIn_r _ [11, 12, 13, 1, 2, 3, 4, 5, 6, 7, 14, 15, 16, 17, 18, 19, 20, 21, 22, 23, 24, 25, 26, 27, 28, 29, 30, 31, 32, 33, 34, 35, 36, 37, 38, 39, 40, 41, 42, 43, 44, 45, 46, 47, 48, 49, 50, 51, 52, 53, 54, 55, 56] (by decide +kernel) (by decide +kernel)
set_option maxRecDepth 20000 in
theorem gX7_tellsPlain_X7_cuts : GoodIn wsX7_tellsPlain (wsV RX7 325 RX7 yX7_cuts wsX7_cuts) := goodIn_app (goodIn_of _ (by decide +kernel)) ggX7_tellsPlain_X7_cuts
theorem dX7_tellsPlain_0 : decode cX7_tellsPlain 0 = .ok (.aload_n 0, 1) := by decide +kernel
theorem dX7_tellsPlain_1 : decode cX7_tellsPlain 1 = .ok (.bipush 13, 2) := by decide +kernel
theorem dX7_tellsPlain_3 : decode cX7_tellsPlain 3 = .ok (.invokevirtual 295, 3) := by decide +kernel
theorem dX7_tellsPlain_6 : decode cX7_tellsPlain 6 = .ok (.aload_n 0, 1) := by decide +kernel
theorem dX7_tellsPlain_7 : decode cX7_tellsPlain 7 = .ok (.iload_n 1, 1) := by decide +kernel
theorem dX7_tellsPlain_8 : decode cX7_tellsPlain 8 = .ok (.invokevirtual 325, 3) := by decide +kernel
theorem dX7_tellsPlain_11 : decode cX7_tellsPlain 11 = .ok (.sipush 210, 3) := by decide +kernel
theorem dX7_tellsPlain_14 : decode cX7_tellsPlain 14 = .ok (.ixor, 1) := by decide +kernel
theorem dX7_tellsPlain_15 : decode cX7_tellsPlain 15 = .ok (.ireturn, 1) := by decide +kernel
set_option maxRecDepth 20000 in
theorem ggX7_tells_X7_runs : GoodIn wsX7_tells wsX7_runs := goodIn_r _ [7, 8, 9, 44, 45, 46, 47, 48, 49, 50, 51, 52, 53, 54, 55, 56, 57, 58, 59, 60, 61, 62, 63, 64, 65, 66, 67, 68, 69] (by decide +kernel) (by decide +kernel)
set_option maxRecDepth 20000 in
theorem gX7_tells_X7_runs : GoodIn wsX7_tells (wsV RX7 295 RX7 yX7_runs wsX7_runs) := goodIn_app (goodIn_of _ (by decide +kernel)) ggX7_tells_X7_runs
set_option maxRecDepth 20000 in
theorem ggX7_tells_X7_tellsPlain : GoodIn wsX7_tells wsX7_tellsPlain := goodIn_r _ [13, 3, 4, 5, 6, 7, 8, 9, 14, 15, 16, 17, 1, 18, 19, 20, 21, 22, 23, 24, 25, 26, 27, 28, 29, 30, 31, 32, 33, 34, 2, 44, 45, 46, 47, 48, 49, 50, 51, 52, 53, 54, 55, 56, 57, 58, 59, 60, 61, 62, 63, 64, 65, 66, 67, 68, 69] (by decide +kernel) (by decide +kernel)
set_option maxRecDepth 20000 in
theorem gX7_tells_X7_tellsPlain : GoodIn wsX7_tells (wsV RX7 328 RX7 yX7_tellsPlain wsX7_tellsPlain) := goodIn_app (goodIn_of _ (by decide +kernel)) ggX7_tells_X7_tellsPlain
set_option maxRecDepth 20000 in
theorem ggX7_tells_X7_parts : GoodIn wsX7_tells wsX7_parts := goodIn_r _ [38, 1, 39, 2, 3, 4, 5, 6, 7, 8, 9, 40, 41, 42, 43, 18, 23, 24, 25, 26, 27, 28, 29, 30, 31, 32, 33, 34, 44, 45, 46, 47, 48, 49, 50, 51, 52, 53, 54, 55, 56, 57, 58, 59, 60, 61, 62, 63, 64, 65, 66, 67, 68, 69] (by decide +kernel) (by decide +kernel)
set_option maxRecDepth 20000 in
theorem gX7_tells_X7_parts : GoodIn wsX7_tells (wsV RX7 331 RX7 yX7_parts wsX7_parts) := goodIn_app (goodIn_of _ (by decide +kernel)) ggX7_tells_X7_parts
theorem dX7_tells_0 : decode cX7_tells 0 = .ok (.aload_n 0, 1) := by decide +kernel
theorem dX7_tells_1 : decode cX7_tells 1 = .ok (.getfield 304, 3) := by decide +kernel
theorem dX7_tells_4 : decode cX7_tells 4 = .ok (.iconst 2, 1) := by decide +kernel
theorem dX7_tells_5 : decode cX7_tells 5 = .ok (.if_icmp .eq 11, 3) := by decide +kernel
theorem dX7_tells_8 : decode cX7_tells 8 = .ok (.aload_n 0, 1) := by decide +kernel
theorem dX7_tells_9 : decode cX7_tells 9 = .ok (.getfield 304, 3) := by decide +kernel
theorem dX7_tells_12 : decode cX7_tells 12 = .ok (.iconst 4, 1) := by decide +kernel
theorem dX7_tells_13 : decode cX7_tells 13 = .ok (.if_icmp .ne 26, 3) := by decide +kernel
theorem dX7_tells_16 : decode cX7_tells 16 = .ok (.aload_n 0, 1) := by decide +kernel
theorem dX7_tells_17 : decode cX7_tells 17 = .ok (.bipush 31, 2) := by decide +kernel
theorem dX7_tells_19 : decode cX7_tells 19 = .ok (.invokevirtual 295, 3) := by decide +kernel
theorem dX7_tells_22 : decode cX7_tells 22 = .ok (.aload_n 0, 1) := by decide +kernel
theorem dX7_tells_23 : decode cX7_tells 23 = .ok (.iload_n 1, 1) := by decide +kernel
theorem dX7_tells_24 : decode cX7_tells 24 = .ok (.invokevirtual 328, 3) := by decide +kernel
theorem dX7_tells_27 : decode cX7_tells 27 = .ok (.istore_n 2, 1) := by decide +kernel
theorem dX7_tells_28 : decode cX7_tells 28 = .ok (.iload_n 2, 1) := by decide +kernel
theorem dX7_tells_29 : decode cX7_tells 29 = .ok (.aload_n 0, 1) := by decide +kernel
theorem dX7_tells_30 : decode cX7_tells 30 = .ok (.aload_n 0, 1) := by decide +kernel
theorem dX7_tells_31 : decode cX7_tells 31 = .ok (.getfield 298, 3) := by decide +kernel
theorem dX7_tells_34 : decode cX7_tells 34 = .ok (.invokevirtual 331, 3) := by decide +kernel
theorem dX7_tells_37 : decode cX7_tells 37 = .ok (.isub, 1) := by decide +kernel
theorem dX7_tells_38 : decode cX7_tells 38 = .ok (.ireturn, 1) := by decide +kernel
theorem dX7_tells_39 : decode cX7_tells 39 = .ok (.aload_n 0, 1) := by decide +kernel
theorem dX7_tells_40 : decode cX7_tells 40 = .ok (.getfield 304, 3) := by decide +kernel
theorem dX7_tells_43 : decode cX7_tells 43 = .ok (.iconst 5, 1) := by decide +kernel
theorem dX7_tells_44 : decode cX7_tells 44 = .ok (.if_icmp .ne 17, 3) := by decide +kernel
theorem dX7_tells_47 : decode cX7_tells 47 = .ok (.aload_n 0, 1) := by decide +kernel
theorem dX7_tells_48 : decode cX7_tells 48 = .ok (.bipush 60, 2) := by decide +kernel
theorem dX7_tells_50 : decode cX7_tells 50 = .ok (.invokevirtual 295, 3) := by decide +kernel
theorem dX7_tells_53 : decode cX7_tells 53 = .ok (.aload_n 0, 1) := by decide +kernel
theorem dX7_tells_54 : decode cX7_tells 54 = .ok (.iload_n 1, 1) := by decide +kernel
theorem dX7_tells_55 : decode cX7_tells 55 = .ok (.invokevirtual 328, 3) := by decide +kernel
theorem dX7_tells_58 : decode cX7_tells 58 = .ok (.iconst 4, 1) := by decide +kernel
theorem dX7_tells_59 : decode cX7_tells 59 = .ok (.imul, 1) := by decide +kernel
theorem dX7_tells_60 : decode cX7_tells 60 = .ok (.ireturn, 1) := by decide +kernel
theorem dX7_tells_61 : decode cX7_tells 61 = .ok (.aload_n 0, 1) := by decide +kernel
theorem dX7_tells_62 : decode cX7_tells 62 = .ok (.iload_n 1, 1) := by decide +kernel
theorem dX7_tells_63 : decode cX7_tells 63 = .ok (.invokevirtual 328, 3) := by decide +kernel
theorem dX7_tells_66 : decode cX7_tells 66 = .ok (.ireturn, 1) := by decide +kernel
set_option maxRecDepth 20000 in
theorem ggX7_act_X7_isShelf : GoodIn wsX7_act wsX7_isShelf := goodIn_r _ [11, 2, 12, 13, 10, 14] (by decide +kernel) (by decide +kernel)
set_option maxRecDepth 20000 in
theorem gX7_act_X7_isShelf : GoodIn wsX7_act (va_wsS RX7 277 yX7_isShelf wsX7_isShelf) := goodIn_app (goodIn_of _ (by decide +kernel)) ggX7_act_X7_isShelf
set_option maxRecDepth 20000 in
theorem ggX7_act_X7_isIn : GoodIn wsX7_act wsX7_isIn := goodIn_r _ [14] (by decide +kernel) (by decide +kernel)
set_option maxRecDepth 20000 in
theorem gX7_act_X7_isIn : GoodIn wsX7_act (va_wsS RX7 54 yX7_isIn wsX7_isIn) := goodIn_app (goodIn_of _ (by decide +kernel)) ggX7_act_X7_isIn
set_option maxRecDepth 20000 in
theorem ggX7_act_X7_heldOn : GoodIn wsX7_act wsX7_heldOn := goodIn_r _ [18, 19, 4, 20, 21, 22, 10, 23, 24, 70, 71, 72, 73, 74, 75, 76, 77, 78, 79, 80, 81, 82, 83, 84, 85, 86, 87, 88, 89, 90, 91, 92, 93, 94, 95] (by decide +kernel) (by decide +kernel)
set_option maxRecDepth 20000 in
theorem gX7_act_X7_heldOn : GoodIn wsX7_act (wsV RX7 286 RX7 yX7_heldOn wsX7_heldOn) := goodIn_app (goodIn_of _ (by decide +kernel)) ggX7_act_X7_heldOn
set_option maxRecDepth 20000 in
theorem ggX7_act_X7_its : GoodIn wsX7_act wsX7_its := goodIn_r _ [28, 24, 70, 71, 72, 73, 74, 75, 76, 77, 78, 79, 80, 81, 82, 83, 84, 85, 86, 87, 88, 89, 90, 91, 92, 93, 94, 95] (by decide +kernel) (by decide +kernel)
set_option maxRecDepth 20000 in
theorem gX7_act_X7_its : GoodIn wsX7_act (wsV RX7 156 RX7 yX7_its wsX7_its) := goodIn_app (goodIn_of _ (by decide +kernel)) ggX7_act_X7_its
