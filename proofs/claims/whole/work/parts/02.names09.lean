theorem dX7_taleOf_19 : decode cX7_taleOf 19 = .ok (.iaload, 1) := by decide +kernel
theorem dX7_taleOf_20 : decode cX7_taleOf 20 = .ok (.if_icmp .ge 38, 3) := by decide +kernel
theorem dX7_taleOf_23 : decode cX7_taleOf 23 = .ok (.aload_n 0, 1) := by decide +kernel
theorem dX7_taleOf_24 : decode cX7_taleOf 24 = .ok (.getfield 7, 3) := by decide +kernel
theorem dX7_taleOf_27 : decode cX7_taleOf 27 = .ok (.bipush 8, 2) := by decide +kernel
theorem dX7_taleOf_29 : decode cX7_taleOf 29 = .ok (.iconst 5, 1) := by decide +kernel
theorem dX7_taleOf_30 : decode cX7_taleOf 30 = .ok (.iload_n 3, 1) := by decide +kernel
theorem dX7_taleOf_31 : decode cX7_taleOf 31 = .ok (.imul, 1) := by decide +kernel
theorem dX7_taleOf_32 : decode cX7_taleOf 32 = .ok (.iadd, 1) := by decide +kernel
theorem dX7_taleOf_33 : decode cX7_taleOf 33 = .ok (.iconst 4, 1) := by decide +kernel
theorem dX7_taleOf_34 : decode cX7_taleOf 34 = .ok (.iadd, 1) := by decide +kernel
theorem dX7_taleOf_35 : decode cX7_taleOf 35 = .ok (.dup2, 1) := by decide +kernel
theorem dX7_taleOf_36 : decode cX7_taleOf 36 = .ok (.iaload, 1) := by decide +kernel
theorem dX7_taleOf_37 : decode cX7_taleOf 37 = .ok (.iload_n 1, 1) := by decide +kernel
theorem dX7_taleOf_38 : decode cX7_taleOf 38 = .ok (.iload_n 3, 1) := by decide +kernel
theorem dX7_taleOf_39 : decode cX7_taleOf 39 = .ok (.ishr, 1) := by decide +kernel
theorem dX7_taleOf_40 : decode cX7_taleOf 40 = .ok (.iconst 1, 1) := by decide +kernel
theorem dX7_taleOf_41 : decode cX7_taleOf 41 = .ok (.iand, 1) := by decide +kernel
theorem dX7_taleOf_42 : decode cX7_taleOf 42 = .ok (.ifCond .ne 7, 3) := by decide +kernel
theorem dX7_taleOf_45 : decode cX7_taleOf 45 = .ok (.iconst 1, 1) := by decide +kernel
theorem dX7_taleOf_46 : decode cX7_taleOf 46 = .ok (.goto 4, 3) := by decide +kernel
theorem dX7_taleOf_49 : decode cX7_taleOf 49 = .ok (.iconst 0, 1) := by decide +kernel
theorem dX7_taleOf_50 : decode cX7_taleOf 50 = .ok (.ior, 1) := by decide +kernel
theorem dX7_taleOf_51 : decode cX7_taleOf 51 = .ok (.iastore, 1) := by decide +kernel
theorem dX7_taleOf_52 : decode cX7_taleOf 52 = .ok (.iinc 3 1, 3) := by decide +kernel
theorem dX7_taleOf_55 : decode cX7_taleOf 55 = .ok (.goto (-42), 3) := by decide +kernel
theorem dX7_taleOf_58 : decode cX7_taleOf 58 = .ok (.aload_n 0, 1) := by decide +kernel
theorem dX7_taleOf_59 : decode cX7_taleOf 59 = .ok (.iload_n 2, 1) := by decide +kernel
theorem dX7_taleOf_60 : decode cX7_taleOf 60 = .ok (.invokevirtual 198, 3) := by decide +kernel
theorem dX7_taleOf_63 : decode cX7_taleOf 63 = .ok (.aload_n 0, 1) := by decide +kernel
theorem dX7_taleOf_64 : decode cX7_taleOf 64 = .ok (.getfield 7, 3) := by decide +kernel
theorem dX7_taleOf_67 : decode cX7_taleOf 67 = .ok (.iconst 3, 1) := by decide +kernel
theorem dX7_taleOf_68 : decode cX7_taleOf 68 = .ok (.iaload, 1) := by decide +kernel
theorem dX7_taleOf_69 : decode cX7_taleOf 69 = .ok (.istore_n 3, 1) := by decide +kernel
theorem dX7_taleOf_70 : decode cX7_taleOf 70 = .ok (.aload_n 0, 1) := by decide +kernel
theorem dX7_taleOf_71 : decode cX7_taleOf 71 = .ok (.getfield 16, 3) := by decide +kernel
theorem dX7_taleOf_74 : decode cX7_taleOf 74 = .ok (.aload_n 0, 1) := by decide +kernel
theorem dX7_taleOf_75 : decode cX7_taleOf 75 = .ok (.getfield 7, 3) := by decide +kernel
theorem dX7_taleOf_78 : decode cX7_taleOf 78 = .ok (.invokestatic 133, 3) := by decide +kernel
theorem dX7_taleOf_81 : decode cX7_taleOf 81 = .ok (.iload_n 3, 1) := by decide +kernel
theorem dX7_taleOf_82 : decode cX7_taleOf 82 = .ok (.ireturn, 1) := by decide +kernel
set_option maxRecDepth 20000 in
theorem ggX7_strangersFor_X7_isIn : GoodIn wsX7_strangersFor wsX7_isIn := goodIn_r _ [7] (by decide +kernel) (by decide +kernel)
set_option maxRecDepth 20000 in
theorem gX7_strangersFor_X7_isIn : GoodIn wsX7_strangersFor (va_wsS RX7 54 yX7_isIn wsX7_isIn) := goodIn_app (goodIn_of _ (by decide +kernel)) ggX7_strangersFor_X7_isIn
set_option maxRecDepth 20000 in
theorem ggX7_strangersFor_X7_size : GoodIn wsX7_strangersFor wsX7_size := goodIn_r _ [10] (by decide +kernel) (by decide +kernel)
set_option maxRecDepth 20000 in
theorem gX7_strangersFor_X7_size : GoodIn wsX7_strangersFor (va_wsS RX7 244 yX7_size wsX7_size) := goodIn_app (goodIn_of _ (by decide +kernel)) ggX7_strangersFor_X7_size
set_option maxRecDepth 20000 in
theorem ggX7_strangersFor_X7_taleOf : GoodIn wsX7_strangersFor wsX7_taleOf := goodIn_r _ [14, 3, 15, 16, 17, 6, 18, 19, 20, 21, 22, 23, 24, 25, 26, 27, 28, 29, 30, 31, 32, 33, 34, 35, 36, 37, 38, 39, 40, 41, 42, 43, 44, 45, 46, 47, 48, 49, 50, 51, 52, 53, 54, 55, 56, 57, 58, 59, 60, 61, 62, 63, 64, 65, 66, 67, 68, 69, 70, 71, 72, 73, 74, 75, 76, 77, 78, 79, 80, 81, 82, 83, 84, 85, 86, 87] (by decide +kernel) (by decide +kernel)
set_option maxRecDepth 20000 in
theorem gX7_strangersFor_X7_taleOf : GoodIn wsX7_strangersFor (wsV RX7 247 RX7 yX7_taleOf wsX7_taleOf) := goodIn_app (goodIn_of _ (by decide +kernel)) ggX7_strangersFor_X7_taleOf
theorem dX7_strangersFor_0 : decode cX7_strangersFor 0 = .ok (.iload_n 1, 1) := by decide +kernel
theorem dX7_strangersFor_1 : decode cX7_strangersFor 1 = .ok (.i2l, 1) := by decide +kernel
theorem dX7_strangersFor_2 : decode cX7_strangersFor 2 = .ok (.lconst 1, 1) := by decide +kernel
theorem dX7_strangersFor_3 : decode cX7_strangersFor 3 = .ok (.ldc2_w 240, 3) := by decide +kernel
theorem dX7_strangersFor_6 : decode cX7_strangersFor 6 = .ok (.invokestatic 54, 3) := by decide +kernel
theorem dX7_strangersFor_9 : decode cX7_strangersFor 9 = .ok (.ifCond .eq 15, 3) := by decide +kernel
theorem dX7_strangersFor_12 : decode cX7_strangersFor 12 = .ok (.iload_n 2, 1) := by decide +kernel
theorem dX7_strangersFor_13 : decode cX7_strangersFor 13 = .ok (.i2l, 1) := by decide +kernel
theorem dX7_strangersFor_14 : decode cX7_strangersFor 14 = .ok (.lconst 0, 1) := by decide +kernel
theorem dX7_strangersFor_15 : decode cX7_strangersFor 15 = .ok (.ldc2_w 242, 3) := by decide +kernel
theorem dX7_strangersFor_18 : decode cX7_strangersFor 18 = .ok (.invokestatic 54, 3) := by decide +kernel
theorem dX7_strangersFor_21 : decode cX7_strangersFor 21 = .ok (.ifCond .ne 5, 3) := by decide +kernel
theorem dX7_strangersFor_24 : decode cX7_strangersFor 24 = .ok (.iconst (-1), 1) := by decide +kernel
theorem dX7_strangersFor_25 : decode cX7_strangersFor 25 = .ok (.ireturn, 1) := by decide +kernel
theorem dX7_strangersFor_26 : decode cX7_strangersFor 26 = .ok (.bipush (-3), 2) := by decide +kernel
theorem dX7_strangersFor_28 : decode cX7_strangersFor 28 = .ok (.istore_n 3, 1) := by decide +kernel
theorem dX7_strangersFor_29 : decode cX7_strangersFor 29 = .ok (.iconst 0, 1) := by decide +kernel
theorem dX7_strangersFor_30 : decode cX7_strangersFor 30 = .ok (.istore 4, 2) := by decide +kernel
theorem dX7_strangersFor_32 : decode cX7_strangersFor 32 = .ok (.iload 4, 2) := by decide +kernel
theorem dX7_strangersFor_34 : decode cX7_strangersFor 34 = .ok (.iconst 1, 1) := by decide +kernel
theorem dX7_strangersFor_35 : decode cX7_strangersFor 35 = .ok (.aload_n 0, 1) := by decide +kernel
theorem dX7_strangersFor_36 : decode cX7_strangersFor 36 = .ok (.getfield 7, 3) := by decide +kernel
theorem dX7_strangersFor_39 : decode cX7_strangersFor 39 = .ok (.iconst 0, 1) := by decide +kernel
theorem dX7_strangersFor_40 : decode cX7_strangersFor 40 = .ok (.iaload, 1) := by decide +kernel
theorem dX7_strangersFor_41 : decode cX7_strangersFor 41 = .ok (.ishl, 1) := by decide +kernel
theorem dX7_strangersFor_42 : decode cX7_strangersFor 42 = .ok (.if_icmp .ge 43, 3) := by decide +kernel
theorem dX7_strangersFor_45 : decode cX7_strangersFor 45 = .ok (.iload_n 3, 1) := by decide +kernel
theorem dX7_strangersFor_46 : decode cX7_strangersFor 46 = .ok (.ifCond .lt 15, 3) := by decide +kernel
theorem dX7_strangersFor_49 : decode cX7_strangersFor 49 = .ok (.iload 4, 2) := by decide +kernel
theorem dX7_strangersFor_51 : decode cX7_strangersFor 51 = .ok (.invokestatic 244, 3) := by decide +kernel
theorem dX7_strangersFor_54 : decode cX7_strangersFor 54 = .ok (.iload_n 3, 1) := by decide +kernel
theorem dX7_strangersFor_55 : decode cX7_strangersFor 55 = .ok (.invokestatic 244, 3) := by decide +kernel
theorem dX7_strangersFor_58 : decode cX7_strangersFor 58 = .ok (.if_icmp .ge 19, 3) := by decide +kernel
theorem dX7_strangersFor_61 : decode cX7_strangersFor 61 = .ok (.aload_n 0, 1) := by decide +kernel
theorem dX7_strangersFor_62 : decode cX7_strangersFor 62 = .ok (.iload 4, 2) := by decide +kernel
theorem dX7_strangersFor_64 : decode cX7_strangersFor 64 = .ok (.iload_n 1, 1) := by decide +kernel
theorem dX7_strangersFor_65 : decode cX7_strangersFor 65 = .ok (.invokevirtual 247, 3) := by decide +kernel
theorem dX7_strangersFor_68 : decode cX7_strangersFor 68 = .ok (.iload_n 2, 1) := by decide +kernel
theorem dX7_strangersFor_69 : decode cX7_strangersFor 69 = .ok (.if_icmp .lt 8, 3) := by decide +kernel
theorem dX7_strangersFor_72 : decode cX7_strangersFor 72 = .ok (.iload 4, 2) := by decide +kernel
theorem dX7_strangersFor_74 : decode cX7_strangersFor 74 = .ok (.goto 4, 3) := by decide +kernel
theorem dX7_strangersFor_77 : decode cX7_strangersFor 77 = .ok (.iload_n 3, 1) := by decide +kernel
theorem dX7_strangersFor_78 : decode cX7_strangersFor 78 = .ok (.istore_n 3, 1) := by decide +kernel
theorem dX7_strangersFor_79 : decode cX7_strangersFor 79 = .ok (.iinc 4 1, 3) := by decide +kernel
theorem dX7_strangersFor_82 : decode cX7_strangersFor 82 = .ok (.goto (-50), 3) := by decide +kernel
theorem dX7_strangersFor_85 : decode cX7_strangersFor 85 = .ok (.iload_n 3, 1) := by decide +kernel
theorem dX7_strangersFor_86 : decode cX7_strangersFor 86 = .ok (.ireturn, 1) := by decide +kernel
theorem dX7_product_0 : decode cX7_product 0 = .ok (.lconst 1, 1) := by decide +kernel
theorem dX7_product_1 : decode cX7_product 1 = .ok (.lstore_n 1, 1) := by decide +kernel
theorem dX7_product_2 : decode cX7_product 2 = .ok (.iconst 2, 1) := by decide +kernel
theorem dX7_product_3 : decode cX7_product 3 = .ok (.istore_n 3, 1) := by decide +kernel
theorem dX7_product_4 : decode cX7_product 4 = .ok (.iload_n 3, 1) := by decide +kernel
theorem dX7_product_5 : decode cX7_product 5 = .ok (.iload_n 0, 1) := by decide +kernel
theorem dX7_product_6 : decode cX7_product 6 = .ok (.if_icmp .gt 14, 3) := by decide +kernel
theorem dX7_product_9 : decode cX7_product 9 = .ok (.lload_n 1, 1) := by decide +kernel
theorem dX7_product_10 : decode cX7_product 10 = .ok (.iload_n 3, 1) := by decide +kernel
theorem dX7_product_11 : decode cX7_product 11 = .ok (.i2l, 1) := by decide +kernel
theorem dX7_product_12 : decode cX7_product 12 = .ok (.lmul, 1) := by decide +kernel
theorem dX7_product_13 : decode cX7_product 13 = .ok (.lstore_n 1, 1) := by decide +kernel
theorem dX7_product_14 : decode cX7_product 14 = .ok (.iinc 3 1, 3) := by decide +kernel
theorem dX7_product_17 : decode cX7_product 17 = .ok (.goto (-13), 3) := by decide +kernel
theorem dX7_product_20 : decode cX7_product 20 = .ok (.lload_n 1, 1) := by decide +kernel
theorem dX7_product_21 : decode cX7_product 21 = .ok (.lreturn, 1) := by decide +kernel
theorem dX7_partOf_0 : decode cX7_partOf 0 = .ok (.lload_n 2, 1) := by decide +kernel
theorem dX7_partOf_1 : decode cX7_partOf 1 = .ok (.lstore 5, 2) := by decide +kernel
theorem dX7_partOf_3 : decode cX7_partOf 3 = .ok (.lload_n 0, 1) := by decide +kernel
theorem dX7_partOf_4 : decode cX7_partOf 4 = .ok (.lstore 7, 2) := by decide +kernel
theorem dX7_partOf_6 : decode cX7_partOf 6 = .ok (.lload 7, 2) := by decide +kernel
theorem dX7_partOf_8 : decode cX7_partOf 8 = .ok (.lconst 0, 1) := by decide +kernel
theorem dX7_partOf_9 : decode cX7_partOf 9 = .ok (.lcmp, 1) := by decide +kernel
theorem dX7_partOf_10 : decode cX7_partOf 10 = .ok (.ifCond .eq 21, 3) := by decide +kernel
theorem dX7_partOf_13 : decode cX7_partOf 13 = .ok (.lload 5, 2) := by decide +kernel
theorem dX7_partOf_15 : decode cX7_partOf 15 = .ok (.lload 7, 2) := by decide +kernel
theorem dX7_partOf_17 : decode cX7_partOf 17 = .ok (.lrem, 1) := by decide +kernel
theorem dX7_partOf_18 : decode cX7_partOf 18 = .ok (.lstore 9, 2) := by decide +kernel
theorem dX7_partOf_20 : decode cX7_partOf 20 = .ok (.lload 7, 2) := by decide +kernel
theorem dX7_partOf_22 : decode cX7_partOf 22 = .ok (.lstore 5, 2) := by decide +kernel
theorem dX7_partOf_24 : decode cX7_partOf 24 = .ok (.lload 9, 2) := by decide +kernel
theorem dX7_partOf_26 : decode cX7_partOf 26 = .ok (.lstore 7, 2) := by decide +kernel
theorem dX7_partOf_28 : decode cX7_partOf 28 = .ok (.goto (-22), 3) := by decide +kernel
theorem dX7_partOf_31 : decode cX7_partOf 31 = .ok (.iload 4, 2) := by decide +kernel
theorem dX7_partOf_33 : decode cX7_partOf 33 = .ok (.ifCond .ne 10, 3) := by decide +kernel
theorem dX7_partOf_36 : decode cX7_partOf 36 = .ok (.lload_n 0, 1) := by decide +kernel
theorem dX7_partOf_37 : decode cX7_partOf 37 = .ok (.lload 5, 2) := by decide +kernel
theorem dX7_partOf_39 : decode cX7_partOf 39 = .ok (.ldiv, 1) := by decide +kernel
theorem dX7_partOf_40 : decode cX7_partOf 40 = .ok (.goto 7, 3) := by decide +kernel
theorem dX7_partOf_43 : decode cX7_partOf 43 = .ok (.lload_n 2, 1) := by decide +kernel
theorem dX7_partOf_44 : decode cX7_partOf 44 = .ok (.lload 5, 2) := by decide +kernel
theorem dX7_partOf_46 : decode cX7_partOf 46 = .ok (.ldiv, 1) := by decide +kernel
theorem dX7_partOf_47 : decode cX7_partOf 47 = .ok (.lreturn, 1) := by decide +kernel
set_option maxRecDepth 20000 in
theorem ggX7_isTold_X7_copyRow : GoodIn wsX7_isTold wsX7_copyRow := goodIn_r _ [8] (by decide +kernel) (by decide +kernel)
set_option maxRecDepth 20000 in
theorem gX7_isTold_X7_copyRow : GoodIn wsX7_isTold (va_wsS RX7 133 yX7_copyRow wsX7_copyRow) := goodIn_app (goodIn_of _ (by decide +kernel)) ggX7_isTold_X7_copyRow
set_option maxRecDepth 20000 in
theorem ggX7_isTold_X7_goesOn : GoodIn wsX7_isTold wsX7_goesOn := goodIn_r _ [12, 1, 13, 14, 15, 7, 16, 17, 18, 19, 20, 21, 22, 23, 24, 25, 26, 27, 28, 29, 30, 31, 32, 33, 34, 35, 36, 37, 38, 39, 40, 41, 42, 43, 44, 45, 46, 47, 48, 49, 50, 51, 52, 53, 54, 55, 56, 57, 58, 59, 60, 61, 62, 63, 64, 65, 66, 67, 68, 69, 70, 71, 72, 73] (by decide +kernel) (by decide +kernel)
set_option maxRecDepth 20000 in
theorem gX7_isTold_X7_goesOn : GoodIn wsX7_isTold (wsV RX7 193 RX7 yX7_goesOn wsX7_goesOn) := goodIn_app (goodIn_of _ (by decide +kernel)) ggX7_isTold_X7_goesOn
theorem dX7_isTold_0 : decode cX7_isTold 0 = .ok (.aload_n 0, 1) := by decide +kernel
theorem dX7_isTold_1 : decode cX7_isTold 1 = .ok (.getfield 7, 3) := by decide +kernel
theorem dX7_isTold_4 : decode cX7_isTold 4 = .ok (.aload_n 0, 1) := by decide +kernel
theorem dX7_isTold_5 : decode cX7_isTold 5 = .ok (.getfield 16, 3) := by decide +kernel
theorem dX7_isTold_8 : decode cX7_isTold 8 = .ok (.invokestatic 133, 3) := by decide +kernel
theorem dX7_isTold_11 : decode cX7_isTold 11 = .ok (.iconst 1, 1) := by decide +kernel
theorem dX7_isTold_12 : decode cX7_isTold 12 = .ok (.istore_n 2, 1) := by decide +kernel
theorem dX7_isTold_13 : decode cX7_isTold 13 = .ok (.iconst 0, 1) := by decide +kernel
theorem dX7_isTold_14 : decode cX7_isTold 14 = .ok (.istore_n 3, 1) := by decide +kernel
theorem dX7_isTold_15 : decode cX7_isTold 15 = .ok (.iload_n 3, 1) := by decide +kernel
theorem dX7_isTold_16 : decode cX7_isTold 16 = .ok (.aload_n 0, 1) := by decide +kernel
theorem dX7_isTold_17 : decode cX7_isTold 17 = .ok (.getfield 31, 3) := by decide +kernel
theorem dX7_isTold_20 : decode cX7_isTold 20 = .ok (.iload_n 1, 1) := by decide +kernel
theorem dX7_isTold_21 : decode cX7_isTold 21 = .ok (.iaload, 1) := by decide +kernel
theorem dX7_isTold_22 : decode cX7_isTold 22 = .ok (.if_icmp .ge 58, 3) := by decide +kernel
theorem dX7_isTold_25 : decode cX7_isTold 25 = .ok (.iload_n 2, 1) := by decide +kernel
theorem dX7_isTold_26 : decode cX7_isTold 26 = .ok (.ifCond .eq 54, 3) := by decide +kernel
theorem dX7_isTold_29 : decode cX7_isTold 29 = .ok (.aload_n 0, 1) := by decide +kernel
theorem dX7_isTold_30 : decode cX7_isTold 30 = .ok (.invokevirtual 193, 3) := by decide +kernel
theorem dX7_isTold_33 : decode cX7_isTold 33 = .ok (.aload_n 0, 1) := by decide +kernel
theorem dX7_isTold_34 : decode cX7_isTold 34 = .ok (.getfield 34, 3) := by decide +kernel
theorem dX7_isTold_37 : decode cX7_isTold 37 = .ok (.bipush 40, 2) := by decide +kernel
theorem dX7_isTold_39 : decode cX7_isTold 39 = .ok (.iload_n 1, 1) := by decide +kernel
theorem dX7_isTold_40 : decode cX7_isTold 40 = .ok (.imul, 1) := by decide +kernel
theorem dX7_isTold_41 : decode cX7_isTold 41 = .ok (.iload_n 3, 1) := by decide +kernel
theorem dX7_isTold_42 : decode cX7_isTold 42 = .ok (.iadd, 1) := by decide +kernel
theorem dX7_isTold_43 : decode cX7_isTold 43 = .ok (.iaload, 1) := by decide +kernel
theorem dX7_isTold_44 : decode cX7_isTold 44 = .ok (.iconst (-1), 1) := by decide +kernel
theorem dX7_isTold_45 : decode cX7_isTold 45 = .ok (.if_icmp .eq 23, 3) := by decide +kernel
theorem dX7_isTold_48 : decode cX7_isTold 48 = .ok (.aload_n 0, 1) := by decide +kernel
theorem dX7_isTold_49 : decode cX7_isTold 49 = .ok (.getfield 34, 3) := by decide +kernel
theorem dX7_isTold_52 : decode cX7_isTold 52 = .ok (.bipush 40, 2) := by decide +kernel
theorem dX7_isTold_54 : decode cX7_isTold 54 = .ok (.iload_n 1, 1) := by decide +kernel
theorem dX7_isTold_55 : decode cX7_isTold 55 = .ok (.imul, 1) := by decide +kernel
theorem dX7_isTold_56 : decode cX7_isTold 56 = .ok (.iload_n 3, 1) := by decide +kernel
theorem dX7_isTold_57 : decode cX7_isTold 57 = .ok (.iadd, 1) := by decide +kernel
theorem dX7_isTold_58 : decode cX7_isTold 58 = .ok (.iaload, 1) := by decide +kernel
theorem dX7_isTold_59 : decode cX7_isTold 59 = .ok (.aload_n 0, 1) := by decide +kernel
theorem dX7_isTold_60 : decode cX7_isTold 60 = .ok (.getfield 7, 3) := by decide +kernel
theorem dX7_isTold_63 : decode cX7_isTold 63 = .ok (.iconst 3, 1) := by decide +kernel
theorem dX7_isTold_64 : decode cX7_isTold 64 = .ok (.iaload, 1) := by decide +kernel
theorem dX7_isTold_65 : decode cX7_isTold 65 = .ok (.if_icmp .ne 7, 3) := by decide +kernel
theorem dX7_isTold_68 : decode cX7_isTold 68 = .ok (.iconst 1, 1) := by decide +kernel
theorem dX7_isTold_69 : decode cX7_isTold 69 = .ok (.goto 4, 3) := by decide +kernel
theorem dX7_isTold_72 : decode cX7_isTold 72 = .ok (.iconst 0, 1) := by decide +kernel
theorem dX7_isTold_73 : decode cX7_isTold 73 = .ok (.istore_n 2, 1) := by decide +kernel
theorem dX7_isTold_74 : decode cX7_isTold 74 = .ok (.iinc 3 1, 3) := by decide +kernel
theorem dX7_isTold_77 : decode cX7_isTold 77 = .ok (.goto (-62), 3) := by decide +kernel
theorem dX7_isTold_80 : decode cX7_isTold 80 = .ok (.aload_n 0, 1) := by decide +kernel
theorem dX7_isTold_81 : decode cX7_isTold 81 = .ok (.getfield 16, 3) := by decide +kernel
theorem dX7_isTold_84 : decode cX7_isTold 84 = .ok (.aload_n 0, 1) := by decide +kernel
theorem dX7_isTold_85 : decode cX7_isTold 85 = .ok (.getfield 7, 3) := by decide +kernel
theorem dX7_isTold_88 : decode cX7_isTold 88 = .ok (.invokestatic 133, 3) := by decide +kernel
theorem dX7_isTold_91 : decode cX7_isTold 91 = .ok (.iload_n 2, 1) := by decide +kernel
theorem dX7_isTold_92 : decode cX7_isTold 92 = .ok (.ireturn, 1) := by decide +kernel
set_option maxRecDepth 20000 in
theorem ggX7_fits_X7_isSheet : GoodIn wsX7_fits wsX7_isSheet := goodIn_r _ [6, 7, 8, 9, 5, 10] (by decide +kernel) (by decide +kernel)
set_option maxRecDepth 20000 in
theorem gX7_fits_X7_isSheet : GoodIn wsX7_fits (va_wsS RX7 250 yX7_isSheet wsX7_isSheet) := goodIn_app (goodIn_of _ (by decide +kernel)) ggX7_fits_X7_isSheet
set_option maxRecDepth 20000 in
theorem ggX7_fits_X7_isOne : GoodIn wsX7_fits wsX7_isOne := goodIn_r _ [14, 2, 64, 65, 66, 67, 68, 69, 70, 71, 72, 73, 74, 75, 76, 77, 78, 79, 80, 81, 82, 83, 84, 85, 86, 87, 88, 89] (by decide +kernel) (by decide +kernel)
set_option maxRecDepth 20000 in
theorem gX7_fits_X7_isOne : GoodIn wsX7_fits (wsV RX7 162 RX7 yX7_isOne wsX7_isOne) := goodIn_app (goodIn_of _ (by decide +kernel)) ggX7_fits_X7_isOne
set_option maxRecDepth 20000 in
theorem ggX7_fits_X7_isIn : GoodIn wsX7_fits wsX7_isIn := goodIn_r _ [10] (by decide +kernel) (by decide +kernel)
set_option maxRecDepth 20000 in
theorem gX7_fits_X7_isIn : GoodIn wsX7_fits (va_wsS RX7 54 yX7_isIn wsX7_isIn) := goodIn_app (goodIn_of _ (by decide +kernel)) ggX7_fits_X7_isIn
set_option maxRecDepth 20000 in
theorem ggX7_fits_X7_isTold : GoodIn wsX7_fits wsX7_isTold := goodIn_r _ [18, 2, 19, 20, 21, 22, 23, 5, 24, 25, 26, 27, 28, 29, 30, 31, 32, 33, 34, 35, 36, 37, 38, 39, 40, 41, 42, 43, 44, 45, 46, 47, 48, 49, 50, 51, 52, 53, 54, 55, 56, 57, 58, 59, 60, 61, 62, 63, 64, 65, 66, 67, 68, 69, 70, 71, 72, 73, 74, 75, 76, 77, 78, 79, 80, 81, 82, 83, 84, 85, 86, 87, 88, 89] (by decide +kernel) (by decide +kernel)
set_option maxRecDepth 20000 in
theorem gX7_fits_X7_isTold : GoodIn wsX7_fits (wsV RX7 253 RX7 yX7_isTold wsX7_isTold) := goodIn_app (goodIn_of _ (by decide +kernel)) ggX7_fits_X7_isTold
theorem dX7_fits_0 : decode cX7_fits 0 = .ok (.iload_n 1, 1) := by decide +kernel
theorem dX7_fits_1 : decode cX7_fits 1 = .ok (.invokestatic 250, 3) := by decide +kernel
theorem dX7_fits_4 : decode cX7_fits 4 = .ok (.ifCond .eq 21, 3) := by decide +kernel
theorem dX7_fits_7 : decode cX7_fits 7 = .ok (.aload_n 0, 1) := by decide +kernel
theorem dX7_fits_8 : decode cX7_fits 8 = .ok (.iload_n 2, 1) := by decide +kernel
theorem dX7_fits_9 : decode cX7_fits 9 = .ok (.invokevirtual 162, 3) := by decide +kernel
theorem dX7_fits_12 : decode cX7_fits 12 = .ok (.ifCond .eq 13, 3) := by decide +kernel
theorem dX7_fits_15 : decode cX7_fits 15 = .ok (.iload_n 3, 1) := by decide +kernel
theorem dX7_fits_16 : decode cX7_fits 16 = .ok (.i2l, 1) := by decide +kernel
theorem dX7_fits_17 : decode cX7_fits 17 = .ok (.lconst 0, 1) := by decide +kernel
theorem dX7_fits_18 : decode cX7_fits 18 = .ok (.lconst 1, 1) := by decide +kernel
theorem dX7_fits_19 : decode cX7_fits 19 = .ok (.invokestatic 54, 3) := by decide +kernel
theorem dX7_fits_22 : decode cX7_fits 22 = .ok (.ifCond .ne 5, 3) := by decide +kernel
theorem dX7_fits_25 : decode cX7_fits 25 = .ok (.iconst (-1), 1) := by decide +kernel
theorem dX7_fits_26 : decode cX7_fits 26 = .ok (.ireturn, 1) := by decide +kernel
theorem dX7_fits_27 : decode cX7_fits 27 = .ok (.aload_n 0, 1) := by decide +kernel
theorem dX7_fits_28 : decode cX7_fits 28 = .ok (.getfield 28, 3) := by decide +kernel
theorem dX7_fits_31 : decode cX7_fits 31 = .ok (.iload_n 1, 1) := by decide +kernel
theorem dX7_fits_32 : decode cX7_fits 32 = .ok (.iaload, 1) := by decide +kernel
theorem dX7_fits_33 : decode cX7_fits 33 = .ok (.ifCond .ge 6, 3) := by decide +kernel
theorem dX7_fits_36 : decode cX7_fits 36 = .ok (.bipush (-11), 2) := by decide +kernel
theorem dX7_fits_38 : decode cX7_fits 38 = .ok (.ireturn, 1) := by decide +kernel
theorem dX7_fits_39 : decode cX7_fits 39 = .ok (.bipush 8, 2) := by decide +kernel
theorem dX7_fits_41 : decode cX7_fits 41 = .ok (.iconst 5, 1) := by decide +kernel
theorem dX7_fits_42 : decode cX7_fits 42 = .ok (.iload_n 2, 1) := by decide +kernel
theorem dX7_fits_43 : decode cX7_fits 43 = .ok (.imul, 1) := by decide +kernel
theorem dX7_fits_44 : decode cX7_fits 44 = .ok (.iadd, 1) := by decide +kernel
theorem dX7_fits_45 : decode cX7_fits 45 = .ok (.iconst 1, 1) := by decide +kernel
theorem dX7_fits_46 : decode cX7_fits 46 = .ok (.iadd, 1) := by decide +kernel
theorem dX7_fits_47 : decode cX7_fits 47 = .ok (.istore 4, 2) := by decide +kernel
theorem dX7_fits_49 : decode cX7_fits 49 = .ok (.aload_n 0, 1) := by decide +kernel
theorem dX7_fits_50 : decode cX7_fits 50 = .ok (.getfield 7, 3) := by decide +kernel
theorem dX7_fits_53 : decode cX7_fits 53 = .ok (.iload 4, 2) := by decide +kernel
theorem dX7_fits_55 : decode cX7_fits 55 = .ok (.iaload, 1) := by decide +kernel
theorem dX7_fits_56 : decode cX7_fits 56 = .ok (.istore 5, 2) := by decide +kernel
theorem dX7_fits_58 : decode cX7_fits 58 = .ok (.iconst 0, 1) := by decide +kernel
theorem dX7_fits_59 : decode cX7_fits 59 = .ok (.istore 6, 2) := by decide +kernel
theorem dX7_fits_61 : decode cX7_fits 61 = .ok (.bipush (-3), 2) := by decide +kernel
theorem dX7_fits_63 : decode cX7_fits 63 = .ok (.istore 7, 2) := by decide +kernel
theorem dX7_fits_65 : decode cX7_fits 65 = .ok (.bipush 7, 2) := by decide +kernel
theorem dX7_fits_67 : decode cX7_fits 67 = .ok (.istore 8, 2) := by decide +kernel
theorem dX7_fits_69 : decode cX7_fits 69 = .ok (.iload 8, 2) := by decide +kernel
theorem dX7_fits_71 : decode cX7_fits 71 = .ok (.ifCond .lt 54, 3) := by decide +kernel
theorem dX7_fits_74 : decode cX7_fits 74 = .ok (.aload_n 0, 1) := by decide +kernel
theorem dX7_fits_75 : decode cX7_fits 75 = .ok (.getfield 7, 3) := by decide +kernel
theorem dX7_fits_78 : decode cX7_fits 78 = .ok (.iload 4, 2) := by decide +kernel
theorem dX7_fits_80 : decode cX7_fits 80 = .ok (.iload 8, 2) := by decide +kernel
theorem dX7_fits_82 : decode cX7_fits 82 = .ok (.iastore, 1) := by decide +kernel
theorem dX7_fits_83 : decode cX7_fits 83 = .ok (.aload_n 0, 1) := by decide +kernel
theorem dX7_fits_84 : decode cX7_fits 84 = .ok (.iload_n 1, 1) := by decide +kernel
theorem dX7_fits_85 : decode cX7_fits 85 = .ok (.invokevirtual 253, 3) := by decide +kernel
theorem dX7_fits_88 : decode cX7_fits 88 = .ok (.istore 9, 2) := by decide +kernel
theorem dX7_fits_90 : decode cX7_fits 90 = .ok (.iload 6, 2) := by decide +kernel
theorem dX7_fits_92 : decode cX7_fits 92 = .ok (.iload 9, 2) := by decide +kernel
theorem dX7_fits_94 : decode cX7_fits 94 = .ok (.ifCond .eq 7, 3) := by decide +kernel
theorem dX7_fits_97 : decode cX7_fits 97 = .ok (.iconst 1, 1) := by decide +kernel
theorem dX7_fits_98 : decode cX7_fits 98 = .ok (.goto 4, 3) := by decide +kernel
theorem dX7_fits_101 : decode cX7_fits 101 = .ok (.iconst 0, 1) := by decide +kernel
theorem dX7_fits_102 : decode cX7_fits 102 = .ok (.iadd, 1) := by decide +kernel
theorem dX7_fits_103 : decode cX7_fits 103 = .ok (.istore 6, 2) := by decide +kernel
theorem dX7_fits_105 : decode cX7_fits 105 = .ok (.iload 9, 2) := by decide +kernel
theorem dX7_fits_107 : decode cX7_fits 107 = .ok (.ifCond .eq 8, 3) := by decide +kernel
theorem dX7_fits_110 : decode cX7_fits 110 = .ok (.iload 8, 2) := by decide +kernel
theorem dX7_fits_112 : decode cX7_fits 112 = .ok (.goto 5, 3) := by decide +kernel
theorem dX7_fits_115 : decode cX7_fits 115 = .ok (.iload 7, 2) := by decide +kernel
theorem dX7_fits_117 : decode cX7_fits 117 = .ok (.istore 7, 2) := by decide +kernel
theorem dX7_fits_119 : decode cX7_fits 119 = .ok (.iinc 8 (-1), 3) := by decide +kernel
theorem dX7_fits_122 : decode cX7_fits 122 = .ok (.goto (-53), 3) := by decide +kernel
theorem dX7_fits_125 : decode cX7_fits 125 = .ok (.aload_n 0, 1) := by decide +kernel
theorem dX7_fits_126 : decode cX7_fits 126 = .ok (.getfield 7, 3) := by decide +kernel
theorem dX7_fits_129 : decode cX7_fits 129 = .ok (.iload 4, 2) := by decide +kernel
theorem dX7_fits_131 : decode cX7_fits 131 = .ok (.iload 5, 2) := by decide +kernel
theorem dX7_fits_133 : decode cX7_fits 133 = .ok (.iastore, 1) := by decide +kernel
theorem dX7_fits_134 : decode cX7_fits 134 = .ok (.iload_n 3, 1) := by decide +kernel
theorem dX7_fits_135 : decode cX7_fits 135 = .ok (.ifCond .ne 8, 3) := by decide +kernel
theorem dX7_fits_138 : decode cX7_fits 138 = .ok (.iload 6, 2) := by decide +kernel
theorem dX7_fits_140 : decode cX7_fits 140 = .ok (.goto 5, 3) := by decide +kernel
theorem dX7_fits_143 : decode cX7_fits 143 = .ok (.iload 7, 2) := by decide +kernel
theorem dX7_fits_145 : decode cX7_fits 145 = .ok (.ireturn, 1) := by decide +kernel
set_option maxRecDepth 20000 in
theorem ggX7_odds_X7_isIn : GoodIn wsX7_odds wsX7_isIn := goodIn_r _ [8] (by decide +kernel) (by decide +kernel)
set_option maxRecDepth 20000 in
theorem gX7_odds_X7_isIn : GoodIn wsX7_odds (va_wsS RX7 54 yX7_isIn wsX7_isIn) := goodIn_app (goodIn_of _ (by decide +kernel)) ggX7_odds_X7_isIn
set_option maxRecDepth 20000 in
theorem ggX7_odds_X7_product : GoodIn wsX7_odds wsX7_product := goodIn_r _ [11] (by decide +kernel) (by decide +kernel)
set_option maxRecDepth 20000 in
theorem gX7_odds_X7_product : GoodIn wsX7_odds (va_wsS RX7 258 yX7_product wsX7_product) := goodIn_app (goodIn_of _ (by decide +kernel)) ggX7_odds_X7_product
set_option maxRecDepth 20000 in
theorem ggX7_odds_X7_partOf : GoodIn wsX7_odds wsX7_partOf := goodIn_r _ [14] (by decide +kernel) (by decide +kernel)
set_option maxRecDepth 20000 in
theorem gX7_odds_X7_partOf : GoodIn wsX7_odds (va_wsS RX7 264 yX7_partOf wsX7_partOf) := goodIn_app (goodIn_of _ (by decide +kernel)) ggX7_odds_X7_partOf
theorem dX7_odds_0 : decode cX7_odds 0 = .ok (.iload_n 1, 1) := by decide +kernel
theorem dX7_odds_1 : decode cX7_odds 1 = .ok (.i2l, 1) := by decide +kernel
theorem dX7_odds_2 : decode cX7_odds 2 = .ok (.lconst 0, 1) := by decide +kernel
theorem dX7_odds_3 : decode cX7_odds 3 = .ok (.ldc2_w 52, 3) := by decide +kernel
theorem dX7_odds_6 : decode cX7_odds 6 = .ok (.invokestatic 54, 3) := by decide +kernel
theorem dX7_odds_9 : decode cX7_odds 9 = .ok (.ifCond .eq 24, 3) := by decide +kernel
theorem dX7_odds_12 : decode cX7_odds 12 = .ok (.iload_n 2, 1) := by decide +kernel
theorem dX7_odds_13 : decode cX7_odds 13 = .ok (.i2l, 1) := by decide +kernel
theorem dX7_odds_14 : decode cX7_odds 14 = .ok (.lconst 0, 1) := by decide +kernel
theorem dX7_odds_15 : decode cX7_odds 15 = .ok (.iload_n 1, 1) := by decide +kernel
theorem dX7_odds_16 : decode cX7_odds 16 = .ok (.i2l, 1) := by decide +kernel
theorem dX7_odds_17 : decode cX7_odds 17 = .ok (.invokestatic 54, 3) := by decide +kernel
theorem dX7_odds_20 : decode cX7_odds 20 = .ok (.ifCond .eq 13, 3) := by decide +kernel
theorem dX7_odds_23 : decode cX7_odds 23 = .ok (.iload_n 3, 1) := by decide +kernel
theorem dX7_odds_24 : decode cX7_odds 24 = .ok (.i2l, 1) := by decide +kernel
theorem dX7_odds_25 : decode cX7_odds 25 = .ok (.lconst 0, 1) := by decide +kernel
theorem dX7_odds_26 : decode cX7_odds 26 = .ok (.lconst 1, 1) := by decide +kernel
theorem dX7_odds_27 : decode cX7_odds 27 = .ok (.invokestatic 54, 3) := by decide +kernel
theorem dX7_odds_30 : decode cX7_odds 30 = .ok (.ifCond .ne 7, 3) := by decide +kernel
theorem dX7_odds_33 : decode cX7_odds 33 = .ok (.ldc2_w 256, 3) := by decide +kernel
theorem dX7_odds_36 : decode cX7_odds 36 = .ok (.lreturn, 1) := by decide +kernel
theorem dX7_odds_37 : decode cX7_odds 37 = .ok (.iload_n 1, 1) := by decide +kernel
theorem dX7_odds_38 : decode cX7_odds 38 = .ok (.invokestatic 258, 3) := by decide +kernel
theorem dX7_odds_41 : decode cX7_odds 41 = .ok (.iload_n 2, 1) := by decide +kernel
theorem dX7_odds_42 : decode cX7_odds 42 = .ok (.invokestatic 258, 3) := by decide +kernel
theorem dX7_odds_45 : decode cX7_odds 45 = .ok (.ldiv, 1) := by decide +kernel
theorem dX7_odds_46 : decode cX7_odds 46 = .ok (.iload_n 1, 1) := by decide +kernel
theorem dX7_odds_47 : decode cX7_odds 47 = .ok (.iload_n 2, 1) := by decide +kernel
theorem dX7_odds_48 : decode cX7_odds 48 = .ok (.isub, 1) := by decide +kernel
theorem dX7_odds_49 : decode cX7_odds 49 = .ok (.invokestatic 258, 3) := by decide +kernel
theorem dX7_odds_52 : decode cX7_odds 52 = .ok (.ldiv, 1) := by decide +kernel
theorem dX7_odds_53 : decode cX7_odds 53 = .ok (.lstore 4, 2) := by decide +kernel
theorem dX7_odds_55 : decode cX7_odds 55 = .ok (.lconst 1, 1) := by decide +kernel
theorem dX7_odds_56 : decode cX7_odds 56 = .ok (.lstore 6, 2) := by decide +kernel
theorem dX7_odds_58 : decode cX7_odds 58 = .ok (.iconst 0, 1) := by decide +kernel
theorem dX7_odds_59 : decode cX7_odds 59 = .ok (.istore 8, 2) := by decide +kernel
theorem dX7_odds_61 : decode cX7_odds 61 = .ok (.iload 8, 2) := by decide +kernel
theorem dX7_odds_63 : decode cX7_odds 63 = .ok (.iload_n 1, 1) := by decide +kernel
theorem dX7_odds_64 : decode cX7_odds 64 = .ok (.if_icmp .ge 50, 3) := by decide +kernel
theorem dX7_odds_67 : decode cX7_odds 67 = .ok (.lload 4, 2) := by decide +kernel
theorem dX7_odds_69 : decode cX7_odds 69 = .ok (.iload 8, 2) := by decide +kernel
theorem dX7_odds_71 : decode cX7_odds 71 = .ok (.iload_n 2, 1) := by decide +kernel
theorem dX7_odds_72 : decode cX7_odds 72 = .ok (.if_icmp .ge 14, 3) := by decide +kernel
theorem dX7_odds_75 : decode cX7_odds 75 = .ok (.aload_n 0, 1) := by decide +kernel
theorem dX7_odds_76 : decode cX7_odds 76 = .ok (.getfield 7, 3) := by decide +kernel
theorem dX7_odds_79 : decode cX7_odds 79 = .ok (.bipush 7, 2) := by decide +kernel
theorem dX7_odds_81 : decode cX7_odds 81 = .ok (.iaload, 1) := by decide +kernel
theorem dX7_odds_82 : decode cX7_odds 82 = .ok (.i2l, 1) := by decide +kernel
theorem dX7_odds_83 : decode cX7_odds 83 = .ok (.goto 14, 3) := by decide +kernel
theorem dX7_odds_86 : decode cX7_odds 86 = .ok (.bipush 100, 2) := by decide +kernel
theorem dX7_odds_88 : decode cX7_odds 88 = .ok (.aload_n 0, 1) := by decide +kernel
theorem dX7_odds_89 : decode cX7_odds 89 = .ok (.getfield 7, 3) := by decide +kernel
theorem dX7_odds_92 : decode cX7_odds 92 = .ok (.bipush 7, 2) := by decide +kernel
theorem dX7_odds_94 : decode cX7_odds 94 = .ok (.iaload, 1) := by decide +kernel
theorem dX7_odds_95 : decode cX7_odds 95 = .ok (.isub, 1) := by decide +kernel
theorem dX7_odds_96 : decode cX7_odds 96 = .ok (.i2l, 1) := by decide +kernel
theorem dX7_odds_97 : decode cX7_odds 97 = .ok (.lmul, 1) := by decide +kernel
theorem dX7_odds_98 : decode cX7_odds 98 = .ok (.lstore 4, 2) := by decide +kernel
theorem dX7_odds_100 : decode cX7_odds 100 = .ok (.lload 6, 2) := by decide +kernel
theorem dX7_odds_102 : decode cX7_odds 102 = .ok (.ldc2_w 262, 3) := by decide +kernel
theorem dX7_odds_105 : decode cX7_odds 105 = .ok (.lmul, 1) := by decide +kernel
theorem dX7_odds_106 : decode cX7_odds 106 = .ok (.lstore 6, 2) := by decide +kernel
theorem dX7_odds_108 : decode cX7_odds 108 = .ok (.iinc 8 1, 3) := by decide +kernel
theorem dX7_odds_111 : decode cX7_odds 111 = .ok (.goto (-50), 3) := by decide +kernel
theorem dX7_odds_114 : decode cX7_odds 114 = .ok (.lload 4, 2) := by decide +kernel
theorem dX7_odds_116 : decode cX7_odds 116 = .ok (.lload 6, 2) := by decide +kernel
theorem dX7_odds_118 : decode cX7_odds 118 = .ok (.iload_n 3, 1) := by decide +kernel
theorem dX7_odds_119 : decode cX7_odds 119 = .ok (.invokestatic 264, 3) := by decide +kernel
theorem dX7_odds_122 : decode cX7_odds 122 = .ok (.lreturn, 1) := by decide +kernel
set_option maxRecDepth 20000 in
theorem ggX7_hope_X7_isIn : GoodIn wsX7_hope wsX7_isIn := goodIn_r _ [8] (by decide +kernel) (by decide +kernel)
set_option maxRecDepth 20000 in
theorem gX7_hope_X7_isIn : GoodIn wsX7_hope (va_wsS RX7 54 yX7_isIn wsX7_isIn) := goodIn_app (goodIn_of _ (by decide +kernel)) ggX7_hope_X7_isIn
set_option maxRecDepth 20000 in
theorem ggX7_hope_X7_partOf : GoodIn wsX7_hope wsX7_partOf := goodIn_r _ [11] (by decide +kernel) (by decide +kernel)
set_option maxRecDepth 20000 in
theorem gX7_hope_X7_partOf : GoodIn wsX7_hope (va_wsS RX7 264 yX7_partOf wsX7_partOf) := goodIn_app (goodIn_of _ (by decide +kernel)) ggX7_hope_X7_partOf
theorem dX7_hope_0 : decode cX7_hope 0 = .ok (.iload_n 1, 1) := by decide +kernel
theorem dX7_hope_1 : decode cX7_hope 1 = .ok (.i2l, 1) := by decide +kernel
theorem dX7_hope_2 : decode cX7_hope 2 = .ok (.lconst 0, 1) := by decide +kernel
theorem dX7_hope_3 : decode cX7_hope 3 = .ok (.ldc2_w 178, 3) := by decide +kernel
theorem dX7_hope_6 : decode cX7_hope 6 = .ok (.invokestatic 54, 3) := by decide +kernel
theorem dX7_hope_9 : decode cX7_hope 9 = .ok (.ifCond .eq 34, 3) := by decide +kernel
theorem dX7_hope_12 : decode cX7_hope 12 = .ok (.iload_n 2, 1) := by decide +kernel
theorem dX7_hope_13 : decode cX7_hope 13 = .ok (.i2l, 1) := by decide +kernel
theorem dX7_hope_14 : decode cX7_hope 14 = .ok (.lconst 0, 1) := by decide +kernel
theorem dX7_hope_15 : decode cX7_hope 15 = .ok (.lconst 1, 1) := by decide +kernel
theorem dX7_hope_16 : decode cX7_hope 16 = .ok (.invokestatic 54, 3) := by decide +kernel
theorem dX7_hope_19 : decode cX7_hope 19 = .ok (.ifCond .eq 24, 3) := by decide +kernel
theorem dX7_hope_22 : decode cX7_hope 22 = .ok (.iload_n 1, 1) := by decide +kernel
theorem dX7_hope_23 : decode cX7_hope 23 = .ok (.i2l, 1) := by decide +kernel
theorem dX7_hope_24 : decode cX7_hope 24 = .ok (.aload_n 0, 1) := by decide +kernel
theorem dX7_hope_25 : decode cX7_hope 25 = .ok (.getfield 7, 3) := by decide +kernel
theorem dX7_hope_28 : decode cX7_hope 28 = .ok (.bipush 7, 2) := by decide +kernel
theorem dX7_hope_30 : decode cX7_hope 30 = .ok (.iaload, 1) := by decide +kernel
theorem dX7_hope_31 : decode cX7_hope 31 = .ok (.i2l, 1) := by decide +kernel
theorem dX7_hope_32 : decode cX7_hope 32 = .ok (.lmul, 1) := by decide +kernel
theorem dX7_hope_33 : decode cX7_hope 33 = .ok (.ldc2_w 262, 3) := by decide +kernel
theorem dX7_hope_36 : decode cX7_hope 36 = .ok (.iload_n 2, 1) := by decide +kernel
theorem dX7_hope_37 : decode cX7_hope 37 = .ok (.invokestatic 264, 3) := by decide +kernel
theorem dX7_hope_40 : decode cX7_hope 40 = .ok (.goto 6, 3) := by decide +kernel
theorem dX7_hope_43 : decode cX7_hope 43 = .ok (.ldc2_w 256, 3) := by decide +kernel
theorem dX7_hope_46 : decode cX7_hope 46 = .ok (.lreturn, 1) := by decide +kernel
set_option maxRecDepth 20000 in
theorem ggX7_prove_X7_isOne : GoodIn wsX7_prove wsX7_isOne := goodIn_r _ [10, 2, 56, 57, 58, 59, 60, 61, 62, 63, 64, 65, 66, 67, 68, 69, 70, 71, 72, 73, 74, 75, 76, 77, 78, 79, 80, 81] (by decide +kernel) (by decide +kernel)
set_option maxRecDepth 20000 in
theorem gX7_prove_X7_isOne : GoodIn wsX7_prove (wsV RX7 162 RX7 yX7_isOne wsX7_isOne) := goodIn_app (goodIn_of _ (by decide +kernel)) ggX7_prove_X7_isOne
set_option maxRecDepth 20000 in
theorem ggX7_prove_X7_isIn : GoodIn wsX7_prove wsX7_isIn := goodIn_r _ [13] (by decide +kernel) (by decide +kernel)
set_option maxRecDepth 20000 in
theorem gX7_prove_X7_isIn : GoodIn wsX7_prove (va_wsS RX7 54 yX7_isIn wsX7_isIn) := goodIn_app (goodIn_of _ (by decide +kernel)) ggX7_prove_X7_isIn
set_option maxRecDepth 20000 in
theorem ggX7_prove_X7_copyRow : GoodIn wsX7_prove wsX7_copyRow := goodIn_r _ [16] (by decide +kernel) (by decide +kernel)
set_option maxRecDepth 20000 in
theorem gX7_prove_X7_copyRow : GoodIn wsX7_prove (va_wsS RX7 133 yX7_copyRow wsX7_copyRow) := goodIn_app (goodIn_of _ (by decide +kernel)) ggX7_prove_X7_copyRow
set_option maxRecDepth 20000 in
theorem ggX7_prove_X7_goesOn : GoodIn wsX7_prove wsX7_goesOn := goodIn_r _ [20, 2, 21, 22, 23, 9, 24, 25, 26, 27, 28, 29, 30, 31, 32, 33, 34, 35, 36, 37, 38, 39, 40, 41, 42, 43, 44, 45, 46, 47, 48, 49, 50, 51, 52, 53, 54, 55, 56, 57, 58, 59, 60, 61, 62, 63, 64, 65, 66, 67, 68, 69, 70, 71, 72, 73, 74, 75, 76, 77, 78, 79, 80, 81] (by decide +kernel) (by decide +kernel)
set_option maxRecDepth 20000 in
theorem gX7_prove_X7_goesOn : GoodIn wsX7_prove (wsV RX7 193 RX7 yX7_goesOn wsX7_goesOn) := goodIn_app (goodIn_of _ (by decide +kernel)) ggX7_prove_X7_goesOn
set_option maxRecDepth 20000 in
theorem ggX7_prove_X7_its : GoodIn wsX7_prove wsX7_its := goodIn_r _ [28, 2, 56, 57, 58, 59, 60, 61, 62, 63, 64, 65, 66, 67, 68, 69, 70, 71, 72, 73, 74, 75, 76, 77, 78, 79, 80, 81] (by decide +kernel) (by decide +kernel)
set_option maxRecDepth 20000 in
theorem gX7_prove_X7_its : GoodIn wsX7_prove (wsV RX7 156 RX7 yX7_its wsX7_its) := goodIn_app (goodIn_of _ (by decide +kernel)) ggX7_prove_X7_its
theorem dX7_prove_0 : decode cX7_prove 0 = .ok (.aload_n 0, 1) := by decide +kernel
theorem dX7_prove_1 : decode cX7_prove 1 = .ok (.iload_n 1, 1) := by decide +kernel
theorem dX7_prove_2 : decode cX7_prove 2 = .ok (.invokevirtual 162, 3) := by decide +kernel
theorem dX7_prove_5 : decode cX7_prove 5 = .ok (.ifCond .eq 15, 3) := by decide +kernel
theorem dX7_prove_8 : decode cX7_prove 8 = .ok (.iload_n 2, 1) := by decide +kernel
theorem dX7_prove_9 : decode cX7_prove 9 = .ok (.i2l, 1) := by decide +kernel
theorem dX7_prove_10 : decode cX7_prove 10 = .ok (.lconst 1, 1) := by decide +kernel
theorem dX7_prove_11 : decode cX7_prove 11 = .ok (.ldc2_w 268, 3) := by decide +kernel
theorem dX7_prove_14 : decode cX7_prove 14 = .ok (.invokestatic 54, 3) := by decide +kernel
theorem dX7_prove_17 : decode cX7_prove 17 = .ok (.ifCond .ne 5, 3) := by decide +kernel
theorem dX7_prove_20 : decode cX7_prove 20 = .ok (.iconst (-1), 1) := by decide +kernel
theorem dX7_prove_21 : decode cX7_prove 21 = .ok (.ireturn, 1) := by decide +kernel
theorem dX7_prove_22 : decode cX7_prove 22 = .ok (.aload_n 0, 1) := by decide +kernel
theorem dX7_prove_23 : decode cX7_prove 23 = .ok (.getfield 7, 3) := by decide +kernel
theorem dX7_prove_26 : decode cX7_prove 26 = .ok (.aload_n 0, 1) := by decide +kernel
theorem dX7_prove_27 : decode cX7_prove 27 = .ok (.getfield 16, 3) := by decide +kernel
theorem dX7_prove_30 : decode cX7_prove 30 = .ok (.invokestatic 133, 3) := by decide +kernel
theorem dX7_prove_33 : decode cX7_prove 33 = .ok (.iconst 0, 1) := by decide +kernel
theorem dX7_prove_34 : decode cX7_prove 34 = .ok (.istore_n 3, 1) := by decide +kernel
theorem dX7_prove_35 : decode cX7_prove 35 = .ok (.iload_n 3, 1) := by decide +kernel
theorem dX7_prove_36 : decode cX7_prove 36 = .ok (.iload_n 2, 1) := by decide +kernel
theorem dX7_prove_37 : decode cX7_prove 37 = .ok (.if_icmp .ge 59, 3) := by decide +kernel
theorem dX7_prove_40 : decode cX7_prove 40 = .ok (.aload_n 0, 1) := by decide +kernel
theorem dX7_prove_41 : decode cX7_prove 41 = .ok (.invokevirtual 193, 3) := by decide +kernel
theorem dX7_prove_44 : decode cX7_prove 44 = .ok (.aload_n 0, 1) := by decide +kernel
theorem dX7_prove_45 : decode cX7_prove 45 = .ok (.getfield 25, 3) := by decide +kernel
theorem dX7_prove_48 : decode cX7_prove 48 = .ok (.iconst 3, 1) := by decide +kernel
theorem dX7_prove_49 : decode cX7_prove 49 = .ok (.iload_n 3, 1) := by decide +kernel
theorem dX7_prove_50 : decode cX7_prove 50 = .ok (.imul, 1) := by decide +kernel
theorem dX7_prove_51 : decode cX7_prove 51 = .ok (.aload_n 0, 1) := by decide +kernel
theorem dX7_prove_52 : decode cX7_prove 52 = .ok (.iload_n 1, 1) := by decide +kernel
theorem dX7_prove_53 : decode cX7_prove 53 = .ok (.iconst 2, 1) := by decide +kernel
theorem dX7_prove_54 : decode cX7_prove 54 = .ok (.invokevirtual 156, 3) := by decide +kernel
theorem dX7_prove_57 : decode cX7_prove 57 = .ok (.iastore, 1) := by decide +kernel
theorem dX7_prove_58 : decode cX7_prove 58 = .ok (.aload_n 0, 1) := by decide +kernel
theorem dX7_prove_59 : decode cX7_prove 59 = .ok (.getfield 25, 3) := by decide +kernel
theorem dX7_prove_62 : decode cX7_prove 62 = .ok (.iconst 3, 1) := by decide +kernel
theorem dX7_prove_63 : decode cX7_prove 63 = .ok (.iload_n 3, 1) := by decide +kernel
theorem dX7_prove_64 : decode cX7_prove 64 = .ok (.imul, 1) := by decide +kernel
theorem dX7_prove_65 : decode cX7_prove 65 = .ok (.iconst 1, 1) := by decide +kernel
theorem dX7_prove_66 : decode cX7_prove 66 = .ok (.iadd, 1) := by decide +kernel
theorem dX7_prove_67 : decode cX7_prove 67 = .ok (.aload_n 0, 1) := by decide +kernel
theorem dX7_prove_68 : decode cX7_prove 68 = .ok (.iload_n 1, 1) := by decide +kernel
theorem dX7_prove_69 : decode cX7_prove 69 = .ok (.iconst 3, 1) := by decide +kernel
theorem dX7_prove_70 : decode cX7_prove 70 = .ok (.invokevirtual 156, 3) := by decide +kernel
theorem dX7_prove_73 : decode cX7_prove 73 = .ok (.iastore, 1) := by decide +kernel
theorem dX7_prove_74 : decode cX7_prove 74 = .ok (.aload_n 0, 1) := by decide +kernel
theorem dX7_prove_75 : decode cX7_prove 75 = .ok (.getfield 25, 3) := by decide +kernel
theorem dX7_prove_78 : decode cX7_prove 78 = .ok (.iconst 3, 1) := by decide +kernel
theorem dX7_prove_79 : decode cX7_prove 79 = .ok (.iload_n 3, 1) := by decide +kernel
theorem dX7_prove_80 : decode cX7_prove 80 = .ok (.imul, 1) := by decide +kernel
theorem dX7_prove_81 : decode cX7_prove 81 = .ok (.iconst 2, 1) := by decide +kernel
theorem dX7_prove_82 : decode cX7_prove 82 = .ok (.iadd, 1) := by decide +kernel
theorem dX7_prove_83 : decode cX7_prove 83 = .ok (.aload_n 0, 1) := by decide +kernel
theorem dX7_prove_84 : decode cX7_prove 84 = .ok (.getfield 7, 3) := by decide +kernel
theorem dX7_prove_87 : decode cX7_prove 87 = .ok (.iconst 3, 1) := by decide +kernel
theorem dX7_prove_88 : decode cX7_prove 88 = .ok (.iaload, 1) := by decide +kernel
theorem dX7_prove_89 : decode cX7_prove 89 = .ok (.iastore, 1) := by decide +kernel
theorem dX7_prove_90 : decode cX7_prove 90 = .ok (.iinc 3 1, 3) := by decide +kernel
theorem dX7_prove_93 : decode cX7_prove 93 = .ok (.goto (-58), 3) := by decide +kernel
theorem dX7_prove_96 : decode cX7_prove 96 = .ok (.aload_n 0, 1) := by decide +kernel
theorem dX7_prove_97 : decode cX7_prove 97 = .ok (.getfield 16, 3) := by decide +kernel
theorem dX7_prove_100 : decode cX7_prove 100 = .ok (.aload_n 0, 1) := by decide +kernel
theorem dX7_prove_101 : decode cX7_prove 101 = .ok (.getfield 7, 3) := by decide +kernel
theorem dX7_prove_104 : decode cX7_prove 104 = .ok (.invokestatic 133, 3) := by decide +kernel
theorem dX7_prove_107 : decode cX7_prove 107 = .ok (.aload_n 0, 1) := by decide +kernel
theorem dX7_prove_108 : decode cX7_prove 108 = .ok (.iload_n 2, 1) := by decide +kernel
theorem dX7_prove_109 : decode cX7_prove 109 = .ok (.putfield 140, 3) := by decide +kernel
theorem dX7_prove_112 : decode cX7_prove 112 = .ok (.iload_n 2, 1) := by decide +kernel
theorem dX7_prove_113 : decode cX7_prove 113 = .ok (.ireturn, 1) := by decide +kernel
set_option maxRecDepth 20000 in
theorem ggX7_isRow_X7_isIn : GoodIn wsX7_isRow wsX7_isIn := goodIn_r _ [6] (by decide +kernel) (by decide +kernel)
set_option maxRecDepth 20000 in
theorem gX7_isRow_X7_isIn : GoodIn wsX7_isRow (va_wsS RX7 54 yX7_isIn wsX7_isIn) := goodIn_app (goodIn_of _ (by decide +kernel)) ggX7_isRow_X7_isIn
theorem dX7_isRow_0 : decode cX7_isRow 0 = .ok (.iload_n 1, 1) := by decide +kernel
theorem dX7_isRow_1 : decode cX7_isRow 1 = .ok (.i2l, 1) := by decide +kernel
theorem dX7_isRow_2 : decode cX7_isRow 2 = .ok (.lconst 0, 1) := by decide +kernel
theorem dX7_isRow_3 : decode cX7_isRow 3 = .ok (.aload_n 0, 1) := by decide +kernel
theorem dX7_isRow_4 : decode cX7_isRow 4 = .ok (.getfield 140, 3) := by decide +kernel
theorem dX7_isRow_7 : decode cX7_isRow 7 = .ok (.iconst 1, 1) := by decide +kernel
theorem dX7_isRow_8 : decode cX7_isRow 8 = .ok (.isub, 1) := by decide +kernel
theorem dX7_isRow_9 : decode cX7_isRow 9 = .ok (.i2l, 1) := by decide +kernel
theorem dX7_isRow_10 : decode cX7_isRow 10 = .ok (.invokestatic 54, 3) := by decide +kernel
theorem dX7_isRow_13 : decode cX7_isRow 13 = .ok (.ifCond .eq 19, 3) := by decide +kernel
theorem dX7_isRow_16 : decode cX7_isRow 16 = .ok (.iload_n 2, 1) := by decide +kernel
theorem dX7_isRow_17 : decode cX7_isRow 17 = .ok (.i2l, 1) := by decide +kernel
theorem dX7_isRow_18 : decode cX7_isRow 18 = .ok (.lconst 0, 1) := by decide +kernel
theorem dX7_isRow_19 : decode cX7_isRow 19 = .ok (.ldc2_w 167, 3) := by decide +kernel
theorem dX7_isRow_22 : decode cX7_isRow 22 = .ok (.invokestatic 54, 3) := by decide +kernel
theorem dX7_isRow_25 : decode cX7_isRow 25 = .ok (.ifCond .eq 7, 3) := by decide +kernel
theorem dX7_isRow_28 : decode cX7_isRow 28 = .ok (.iconst 1, 1) := by decide +kernel
theorem dX7_isRow_29 : decode cX7_isRow 29 = .ok (.goto 4, 3) := by decide +kernel
theorem dX7_isRow_32 : decode cX7_isRow 32 = .ok (.iconst 0, 1) := by decide +kernel
theorem dX7_isRow_33 : decode cX7_isRow 33 = .ok (.ireturn, 1) := by decide +kernel
set_option maxRecDepth 20000 in
theorem ggX7_row_X7_isRow : GoodIn wsX7_row wsX7_isRow := goodIn_r _ [6, 7, 8, 9, 10, 5, 11, 12, 13, 14, 15, 16, 17, 18, 19, 20, 21, 22, 23, 24, 25, 26, 27, 28, 29, 30, 31, 32, 33, 34, 35, 36, 37] (by decide +kernel) (by decide +kernel)
set_option maxRecDepth 20000 in
theorem gX7_row_X7_isRow : GoodIn wsX7_row (wsV RX7 270 RX7 yX7_isRow wsX7_isRow) := goodIn_app (goodIn_of _ (by decide +kernel)) ggX7_row_X7_isRow
theorem dX7_row_0 : decode cX7_row 0 = .ok (.aload_n 0, 1) := by decide +kernel
theorem dX7_row_1 : decode cX7_row 1 = .ok (.iload_n 1, 1) := by decide +kernel
theorem dX7_row_2 : decode cX7_row 2 = .ok (.iload_n 2, 1) := by decide +kernel
theorem dX7_row_3 : decode cX7_row 3 = .ok (.invokevirtual 270, 3) := by decide +kernel
theorem dX7_row_6 : decode cX7_row 6 = .ok (.ifCond .eq 16, 3) := by decide +kernel
theorem dX7_row_9 : decode cX7_row 9 = .ok (.aload_n 0, 1) := by decide +kernel
theorem dX7_row_10 : decode cX7_row 10 = .ok (.getfield 25, 3) := by decide +kernel
theorem dX7_row_13 : decode cX7_row 13 = .ok (.iconst 3, 1) := by decide +kernel
theorem dX7_row_14 : decode cX7_row 14 = .ok (.iload_n 1, 1) := by decide +kernel
theorem dX7_row_15 : decode cX7_row 15 = .ok (.imul, 1) := by decide +kernel
theorem dX7_row_16 : decode cX7_row 16 = .ok (.iload_n 2, 1) := by decide +kernel
theorem dX7_row_17 : decode cX7_row 17 = .ok (.iadd, 1) := by decide +kernel
theorem dX7_row_18 : decode cX7_row 18 = .ok (.iaload, 1) := by decide +kernel
theorem dX7_row_19 : decode cX7_row 19 = .ok (.goto 5, 3) := by decide +kernel
theorem dX7_row_22 : decode cX7_row 22 = .ok (.bipush (-9), 2) := by decide +kernel
theorem dX7_row_24 : decode cX7_row 24 = .ok (.ireturn, 1) := by decide +kernel
set_option maxRecDepth 20000 in
theorem ggX7_alterRow_X7_isRow : GoodIn wsX7_alterRow wsX7_isRow := goodIn_r _ [6, 7, 8, 9, 10, 5, 11, 12, 13, 14, 15, 16, 17, 18, 19, 20, 21, 22, 23, 24, 25, 26, 27, 28, 29, 30, 31, 32, 33, 34, 35, 36, 37] (by decide +kernel) (by decide +kernel)
set_option maxRecDepth 20000 in
theorem gX7_alterRow_X7_isRow : GoodIn wsX7_alterRow (wsV RX7 270 RX7 yX7_isRow wsX7_isRow) := goodIn_app (goodIn_of _ (by decide +kernel)) ggX7_alterRow_X7_isRow
theorem dX7_alterRow_0 : decode cX7_alterRow 0 = .ok (.aload_n 0, 1) := by decide +kernel
theorem dX7_alterRow_1 : decode cX7_alterRow 1 = .ok (.iload_n 1, 1) := by decide +kernel
theorem dX7_alterRow_2 : decode cX7_alterRow 2 = .ok (.iload_n 2, 1) := by decide +kernel
theorem dX7_alterRow_3 : decode cX7_alterRow 3 = .ok (.invokevirtual 270, 3) := by decide +kernel
theorem dX7_alterRow_6 : decode cX7_alterRow 6 = .ok (.ifCond .ne 6, 3) := by decide +kernel
theorem dX7_alterRow_9 : decode cX7_alterRow 9 = .ok (.bipush (-9), 2) := by decide +kernel
theorem dX7_alterRow_11 : decode cX7_alterRow 11 = .ok (.ireturn, 1) := by decide +kernel
theorem dX7_alterRow_12 : decode cX7_alterRow 12 = .ok (.aload_n 0, 1) := by decide +kernel
theorem dX7_alterRow_13 : decode cX7_alterRow 13 = .ok (.getfield 25, 3) := by decide +kernel
theorem dX7_alterRow_16 : decode cX7_alterRow 16 = .ok (.iconst 3, 1) := by decide +kernel
theorem dX7_alterRow_17 : decode cX7_alterRow 17 = .ok (.iload_n 1, 1) := by decide +kernel
theorem dX7_alterRow_18 : decode cX7_alterRow 18 = .ok (.imul, 1) := by decide +kernel
theorem dX7_alterRow_19 : decode cX7_alterRow 19 = .ok (.iload_n 2, 1) := by decide +kernel
theorem dX7_alterRow_20 : decode cX7_alterRow 20 = .ok (.iadd, 1) := by decide +kernel
theorem dX7_alterRow_21 : decode cX7_alterRow 21 = .ok (.iaload, 1) := by decide +kernel
theorem dX7_alterRow_22 : decode cX7_alterRow 22 = .ok (.istore 4, 2) := by decide +kernel
theorem dX7_alterRow_24 : decode cX7_alterRow 24 = .ok (.aload_n 0, 1) := by decide +kernel
theorem dX7_alterRow_25 : decode cX7_alterRow 25 = .ok (.getfield 25, 3) := by decide +kernel
theorem dX7_alterRow_28 : decode cX7_alterRow 28 = .ok (.iconst 3, 1) := by decide +kernel
theorem dX7_alterRow_29 : decode cX7_alterRow 29 = .ok (.iload_n 1, 1) := by decide +kernel
theorem dX7_alterRow_30 : decode cX7_alterRow 30 = .ok (.imul, 1) := by decide +kernel
theorem dX7_alterRow_31 : decode cX7_alterRow 31 = .ok (.iload_n 2, 1) := by decide +kernel
theorem dX7_alterRow_32 : decode cX7_alterRow 32 = .ok (.iadd, 1) := by decide +kernel
theorem dX7_alterRow_33 : decode cX7_alterRow 33 = .ok (.iload_n 3, 1) := by decide +kernel
theorem dX7_alterRow_34 : decode cX7_alterRow 34 = .ok (.iastore, 1) := by decide +kernel
theorem dX7_alterRow_35 : decode cX7_alterRow 35 = .ok (.iload 4, 2) := by decide +kernel
theorem dX7_alterRow_37 : decode cX7_alterRow 37 = .ok (.ireturn, 1) := by decide +kernel
set_option maxRecDepth 20000 in
theorem ggX7_judge_X7_isOne : GoodIn wsX7_judge wsX7_isOne := goodIn_r _ [9, 1, 52, 53, 54, 55, 56, 57, 58, 59, 60, 61, 62, 63, 64, 65, 66, 67, 68, 69, 70, 71, 72, 73, 74, 75, 76, 77] (by decide +kernel) (by decide +kernel)
set_option maxRecDepth 20000 in
theorem gX7_judge_X7_isOne : GoodIn wsX7_judge (wsV RX7 162 RX7 yX7_isOne wsX7_isOne) := goodIn_app (goodIn_of _ (by decide +kernel)) ggX7_judge_X7_isOne
set_option maxRecDepth 20000 in
theorem ggX7_judge_X7_copyRow : GoodIn wsX7_judge wsX7_copyRow := goodIn_r _ [12] (by decide +kernel) (by decide +kernel)
set_option maxRecDepth 20000 in
theorem gX7_judge_X7_copyRow : GoodIn wsX7_judge (va_wsS RX7 133 yX7_copyRow wsX7_copyRow) := goodIn_app (goodIn_of _ (by decide +kernel)) ggX7_judge_X7_copyRow
set_option maxRecDepth 20000 in
theorem ggX7_judge_X7_goesOn : GoodIn wsX7_judge wsX7_goesOn := goodIn_r _ [16, 1, 17, 18, 19, 8, 20, 21, 22, 23, 24, 25, 26, 27, 28, 29, 30, 31, 32, 33, 34, 35, 36, 37, 38, 39, 40, 41, 42, 43, 44, 45, 46, 47, 48, 49, 50, 51, 52, 53, 54, 55, 56, 57, 58, 59, 60, 61, 62, 63, 64, 65, 66, 67, 68, 69, 70, 71, 72, 73, 74, 75, 76, 77] (by decide +kernel) (by decide +kernel)
set_option maxRecDepth 20000 in
theorem gX7_judge_X7_goesOn : GoodIn wsX7_judge (wsV RX7 193 RX7 yX7_goesOn wsX7_goesOn) := goodIn_app (goodIn_of _ (by decide +kernel)) ggX7_judge_X7_goesOn
set_option maxRecDepth 20000 in
theorem ggX7_judge_X7_its : GoodIn wsX7_judge wsX7_its := goodIn_r _ [24, 1, 52, 53, 54, 55, 56, 57, 58, 59, 60, 61, 62, 63, 64, 65, 66, 67, 68, 69, 70, 71, 72, 73, 74, 75, 76, 77] (by decide +kernel) (by decide +kernel)
set_option maxRecDepth 20000 in
theorem gX7_judge_X7_its : GoodIn wsX7_judge (wsV RX7 156 RX7 yX7_its wsX7_its) := goodIn_app (goodIn_of _ (by decide +kernel)) ggX7_judge_X7_its
theorem dX7_judge_0 : decode cX7_judge 0 = .ok (.aload_n 0, 1) := by decide +kernel
theorem dX7_judge_1 : decode cX7_judge 1 = .ok (.iload_n 1, 1) := by decide +kernel
theorem dX7_judge_2 : decode cX7_judge 2 = .ok (.invokevirtual 162, 3) := by decide +kernel
theorem dX7_judge_5 : decode cX7_judge 5 = .ok (.ifCond .ne 5, 3) := by decide +kernel
theorem dX7_judge_8 : decode cX7_judge 8 = .ok (.iconst (-1), 1) := by decide +kernel
theorem dX7_judge_9 : decode cX7_judge 9 = .ok (.ireturn, 1) := by decide +kernel
theorem dX7_judge_10 : decode cX7_judge 10 = .ok (.aload_n 0, 1) := by decide +kernel
theorem dX7_judge_11 : decode cX7_judge 11 = .ok (.getfield 7, 3) := by decide +kernel
theorem dX7_judge_14 : decode cX7_judge 14 = .ok (.aload_n 0, 1) := by decide +kernel
theorem dX7_judge_15 : decode cX7_judge 15 = .ok (.getfield 16, 3) := by decide +kernel
theorem dX7_judge_18 : decode cX7_judge 18 = .ok (.invokestatic 133, 3) := by decide +kernel
theorem dX7_judge_21 : decode cX7_judge 21 = .ok (.iconst 0, 1) := by decide +kernel
theorem dX7_judge_22 : decode cX7_judge 22 = .ok (.istore_n 2, 1) := by decide +kernel
theorem dX7_judge_23 : decode cX7_judge 23 = .ok (.iconst 1, 1) := by decide +kernel
theorem dX7_judge_24 : decode cX7_judge 24 = .ok (.istore_n 3, 1) := by decide +kernel
theorem dX7_judge_25 : decode cX7_judge 25 = .ok (.iload_n 2, 1) := by decide +kernel
theorem dX7_judge_26 : decode cX7_judge 26 = .ok (.aload_n 0, 1) := by decide +kernel
theorem dX7_judge_27 : decode cX7_judge 27 = .ok (.getfield 140, 3) := by decide +kernel
theorem dX7_judge_30 : decode cX7_judge 30 = .ok (.if_icmp .ge 78, 3) := by decide +kernel
theorem dX7_judge_33 : decode cX7_judge 33 = .ok (.iload_n 3, 1) := by decide +kernel
theorem dX7_judge_34 : decode cX7_judge 34 = .ok (.ifCond .eq 74, 3) := by decide +kernel
theorem dX7_judge_37 : decode cX7_judge 37 = .ok (.aload_n 0, 1) := by decide +kernel
theorem dX7_judge_38 : decode cX7_judge 38 = .ok (.invokevirtual 193, 3) := by decide +kernel
theorem dX7_judge_41 : decode cX7_judge 41 = .ok (.aload_n 0, 1) := by decide +kernel
theorem dX7_judge_42 : decode cX7_judge 42 = .ok (.getfield 25, 3) := by decide +kernel
theorem dX7_judge_45 : decode cX7_judge 45 = .ok (.iconst 3, 1) := by decide +kernel
theorem dX7_judge_46 : decode cX7_judge 46 = .ok (.iload_n 2, 1) := by decide +kernel
theorem dX7_judge_47 : decode cX7_judge 47 = .ok (.imul, 1) := by decide +kernel
theorem dX7_judge_48 : decode cX7_judge 48 = .ok (.iaload, 1) := by decide +kernel
theorem dX7_judge_49 : decode cX7_judge 49 = .ok (.aload_n 0, 1) := by decide +kernel
theorem dX7_judge_50 : decode cX7_judge 50 = .ok (.iload_n 1, 1) := by decide +kernel
theorem dX7_judge_51 : decode cX7_judge 51 = .ok (.iconst 2, 1) := by decide +kernel
theorem dX7_judge_52 : decode cX7_judge 52 = .ok (.invokevirtual 156, 3) := by decide +kernel
theorem dX7_judge_55 : decode cX7_judge 55 = .ok (.if_icmp .ne 45, 3) := by decide +kernel
theorem dX7_judge_58 : decode cX7_judge 58 = .ok (.aload_n 0, 1) := by decide +kernel
theorem dX7_judge_59 : decode cX7_judge 59 = .ok (.getfield 25, 3) := by decide +kernel
theorem dX7_judge_62 : decode cX7_judge 62 = .ok (.iconst 3, 1) := by decide +kernel
theorem dX7_judge_63 : decode cX7_judge 63 = .ok (.iload_n 2, 1) := by decide +kernel
theorem dX7_judge_64 : decode cX7_judge 64 = .ok (.imul, 1) := by decide +kernel
theorem dX7_judge_65 : decode cX7_judge 65 = .ok (.iconst 1, 1) := by decide +kernel
theorem dX7_judge_66 : decode cX7_judge 66 = .ok (.iadd, 1) := by decide +kernel
theorem dX7_judge_67 : decode cX7_judge 67 = .ok (.iaload, 1) := by decide +kernel
theorem dX7_judge_68 : decode cX7_judge 68 = .ok (.aload_n 0, 1) := by decide +kernel
theorem dX7_judge_69 : decode cX7_judge 69 = .ok (.iload_n 1, 1) := by decide +kernel
theorem dX7_judge_70 : decode cX7_judge 70 = .ok (.iconst 3, 1) := by decide +kernel
theorem dX7_judge_71 : decode cX7_judge 71 = .ok (.invokevirtual 156, 3) := by decide +kernel
theorem dX7_judge_74 : decode cX7_judge 74 = .ok (.if_icmp .ne 26, 3) := by decide +kernel
theorem dX7_judge_77 : decode cX7_judge 77 = .ok (.aload_n 0, 1) := by decide +kernel
theorem dX7_judge_78 : decode cX7_judge 78 = .ok (.getfield 25, 3) := by decide +kernel
theorem dX7_judge_81 : decode cX7_judge 81 = .ok (.iconst 3, 1) := by decide +kernel
theorem dX7_judge_82 : decode cX7_judge 82 = .ok (.iload_n 2, 1) := by decide +kernel
theorem dX7_judge_83 : decode cX7_judge 83 = .ok (.imul, 1) := by decide +kernel
theorem dX7_judge_84 : decode cX7_judge 84 = .ok (.iconst 2, 1) := by decide +kernel
theorem dX7_judge_85 : decode cX7_judge 85 = .ok (.iadd, 1) := by decide +kernel
theorem dX7_judge_86 : decode cX7_judge 86 = .ok (.iaload, 1) := by decide +kernel
theorem dX7_judge_87 : decode cX7_judge 87 = .ok (.aload_n 0, 1) := by decide +kernel
theorem dX7_judge_88 : decode cX7_judge 88 = .ok (.getfield 7, 3) := by decide +kernel
theorem dX7_judge_91 : decode cX7_judge 91 = .ok (.iconst 3, 1) := by decide +kernel
theorem dX7_judge_92 : decode cX7_judge 92 = .ok (.iaload, 1) := by decide +kernel
theorem dX7_judge_93 : decode cX7_judge 93 = .ok (.if_icmp .ne 7, 3) := by decide +kernel
theorem dX7_judge_96 : decode cX7_judge 96 = .ok (.iconst 1, 1) := by decide +kernel
theorem dX7_judge_97 : decode cX7_judge 97 = .ok (.goto 4, 3) := by decide +kernel
theorem dX7_judge_100 : decode cX7_judge 100 = .ok (.iconst 0, 1) := by decide +kernel
theorem dX7_judge_101 : decode cX7_judge 101 = .ok (.istore_n 3, 1) := by decide +kernel
theorem dX7_judge_102 : decode cX7_judge 102 = .ok (.iinc 2 1, 3) := by decide +kernel
theorem dX7_judge_105 : decode cX7_judge 105 = .ok (.goto (-80), 3) := by decide +kernel
theorem dX7_judge_108 : decode cX7_judge 108 = .ok (.aload_n 0, 1) := by decide +kernel
theorem dX7_judge_109 : decode cX7_judge 109 = .ok (.getfield 16, 3) := by decide +kernel
theorem dX7_judge_112 : decode cX7_judge 112 = .ok (.aload_n 0, 1) := by decide +kernel
theorem dX7_judge_113 : decode cX7_judge 113 = .ok (.getfield 7, 3) := by decide +kernel
theorem dX7_judge_116 : decode cX7_judge 116 = .ok (.invokestatic 133, 3) := by decide +kernel
theorem dX7_judge_119 : decode cX7_judge 119 = .ok (.iload_n 3, 1) := by decide +kernel
theorem dX7_judge_120 : decode cX7_judge 120 = .ok (.ifCond .eq 7, 3) := by decide +kernel
theorem dX7_judge_123 : decode cX7_judge 123 = .ok (.iconst 0, 1) := by decide +kernel
theorem dX7_judge_124 : decode cX7_judge 124 = .ok (.goto 4, 3) := by decide +kernel
theorem dX7_judge_127 : decode cX7_judge 127 = .ok (.iload_n 2, 1) := by decide +kernel
theorem dX7_judge_128 : decode cX7_judge 128 = .ok (.ireturn, 1) := by decide +kernel
set_option maxRecDepth 20000 in
theorem ggX7_isSheet_X7_isIn : GoodIn wsX7_isSheet wsX7_isIn := goodIn_r _ [5] (by decide +kernel) (by decide +kernel)
set_option maxRecDepth 20000 in
theorem gX7_isSheet_X7_isIn : GoodIn wsX7_isSheet (va_wsS RX7 54 yX7_isIn wsX7_isIn) := goodIn_app (goodIn_of _ (by decide +kernel)) ggX7_isSheet_X7_isIn
theorem dX7_isSheet_0 : decode cX7_isSheet 0 = .ok (.iload_n 0, 1) := by decide +kernel
theorem dX7_isSheet_1 : decode cX7_isSheet 1 = .ok (.i2l, 1) := by decide +kernel
theorem dX7_isSheet_2 : decode cX7_isSheet 2 = .ok (.lconst 0, 1) := by decide +kernel
theorem dX7_isSheet_3 : decode cX7_isSheet 3 = .ok (.ldc2_w 143, 3) := by decide +kernel
theorem dX7_isSheet_6 : decode cX7_isSheet 6 = .ok (.invokestatic 54, 3) := by decide +kernel
theorem dX7_isSheet_9 : decode cX7_isSheet 9 = .ok (.ireturn, 1) := by decide +kernel
set_option maxRecDepth 20000 in
theorem ggX7_isShelf_X7_isIn : GoodIn wsX7_isShelf wsX7_isIn := goodIn_r _ [5] (by decide +kernel) (by decide +kernel)
set_option maxRecDepth 20000 in
theorem gX7_isShelf_X7_isIn : GoodIn wsX7_isShelf (va_wsS RX7 54 yX7_isIn wsX7_isIn) := goodIn_app (goodIn_of _ (by decide +kernel)) ggX7_isShelf_X7_isIn
theorem dX7_isShelf_0 : decode cX7_isShelf 0 = .ok (.iload_n 0, 1) := by decide +kernel
theorem dX7_isShelf_1 : decode cX7_isShelf 1 = .ok (.i2l, 1) := by decide +kernel
theorem dX7_isShelf_2 : decode cX7_isShelf 2 = .ok (.lconst 0, 1) := by decide +kernel
theorem dX7_isShelf_3 : decode cX7_isShelf 3 = .ok (.ldc2_w 143, 3) := by decide +kernel
theorem dX7_isShelf_6 : decode cX7_isShelf 6 = .ok (.invokestatic 54, 3) := by decide +kernel
theorem dX7_isShelf_9 : decode cX7_isShelf 9 = .ok (.ireturn, 1) := by decide +kernel
set_option maxRecDepth 20000 in
theorem ggX7_sheet_X7_isSheet : GoodIn wsX7_sheet wsX7_isSheet := goodIn_r _ [9, 2, 10, 11, 8, 12] (by decide +kernel) (by decide +kernel)
set_option maxRecDepth 20000 in
theorem gX7_sheet_X7_isSheet : GoodIn wsX7_sheet (va_wsS RX7 250 yX7_isSheet wsX7_isSheet) := goodIn_app (goodIn_of _ (by decide +kernel)) ggX7_sheet_X7_isSheet
set_option maxRecDepth 20000 in
theorem ggX7_sheet_X7_isIn : GoodIn wsX7_sheet wsX7_isIn := goodIn_r _ [12] (by decide +kernel) (by decide +kernel)
set_option maxRecDepth 20000 in
theorem gX7_sheet_X7_isIn : GoodIn wsX7_sheet (va_wsS RX7 54 yX7_isIn wsX7_isIn) := goodIn_app (goodIn_of _ (by decide +kernel)) ggX7_sheet_X7_isIn
theorem dX7_sheet_0 : decode cX7_sheet 0 = .ok (.iload_n 1, 1) := by decide +kernel
theorem dX7_sheet_1 : decode cX7_sheet 1 = .ok (.invokestatic 250, 3) := by decide +kernel
theorem dX7_sheet_4 : decode cX7_sheet 4 = .ok (.ifCond .eq 27, 3) := by decide +kernel
theorem dX7_sheet_7 : decode cX7_sheet 7 = .ok (.iload_n 2, 1) := by decide +kernel
theorem dX7_sheet_8 : decode cX7_sheet 8 = .ok (.i2l, 1) := by decide +kernel
theorem dX7_sheet_9 : decode cX7_sheet 9 = .ok (.ldc2_w 256, 3) := by decide +kernel
theorem dX7_sheet_12 : decode cX7_sheet 12 = .ok (.ldc2_w 143, 3) := by decide +kernel
theorem dX7_sheet_15 : decode cX7_sheet 15 = .ok (.invokestatic 54, 3) := by decide +kernel
theorem dX7_sheet_18 : decode cX7_sheet 18 = .ok (.ifCond .eq 13, 3) := by decide +kernel
theorem dX7_sheet_21 : decode cX7_sheet 21 = .ok (.iload_n 2, 1) := by decide +kernel
theorem dX7_sheet_22 : decode cX7_sheet 22 = .ok (.ifCond .lt 11, 3) := by decide +kernel
theorem dX7_sheet_25 : decode cX7_sheet 25 = .ok (.iload_n 3, 1) := by decide +kernel
theorem dX7_sheet_26 : decode cX7_sheet 26 = .ok (.bipush 40, 2) := by decide +kernel
theorem dX7_sheet_28 : decode cX7_sheet 28 = .ok (.if_icmp .le 5, 3) := by decide +kernel
theorem dX7_sheet_31 : decode cX7_sheet 31 = .ok (.iconst (-1), 1) := by decide +kernel
theorem dX7_sheet_32 : decode cX7_sheet 32 = .ok (.ireturn, 1) := by decide +kernel
theorem dX7_sheet_33 : decode cX7_sheet 33 = .ok (.iload_n 2, 1) := by decide +kernel
theorem dX7_sheet_34 : decode cX7_sheet 34 = .ok (.ifCond .lt 10, 3) := by decide +kernel
theorem dX7_sheet_37 : decode cX7_sheet 37 = .ok (.iload_n 3, 1) := by decide +kernel
theorem dX7_sheet_38 : decode cX7_sheet 38 = .ok (.ifCond .ge 6, 3) := by decide +kernel
theorem dX7_sheet_41 : decode cX7_sheet 41 = .ok (.bipush (-14), 2) := by decide +kernel
theorem dX7_sheet_43 : decode cX7_sheet 43 = .ok (.ireturn, 1) := by decide +kernel
theorem dX7_sheet_44 : decode cX7_sheet 44 = .ok (.aload_n 0, 1) := by decide +kernel
theorem dX7_sheet_45 : decode cX7_sheet 45 = .ok (.getfield 28, 3) := by decide +kernel
theorem dX7_sheet_48 : decode cX7_sheet 48 = .ok (.iload_n 1, 1) := by decide +kernel
theorem dX7_sheet_49 : decode cX7_sheet 49 = .ok (.iload_n 2, 1) := by decide +kernel
theorem dX7_sheet_50 : decode cX7_sheet 50 = .ok (.iastore, 1) := by decide +kernel
theorem dX7_sheet_51 : decode cX7_sheet 51 = .ok (.aload_n 0, 1) := by decide +kernel
theorem dX7_sheet_52 : decode cX7_sheet 52 = .ok (.getfield 31, 3) := by decide +kernel
theorem dX7_sheet_55 : decode cX7_sheet 55 = .ok (.iload_n 1, 1) := by decide +kernel
theorem dX7_sheet_56 : decode cX7_sheet 56 = .ok (.iload_n 2, 1) := by decide +kernel
theorem dX7_sheet_57 : decode cX7_sheet 57 = .ok (.ifCond .ge 7, 3) := by decide +kernel
theorem dX7_sheet_60 : decode cX7_sheet 60 = .ok (.iconst 0, 1) := by decide +kernel
theorem dX7_sheet_61 : decode cX7_sheet 61 = .ok (.goto 4, 3) := by decide +kernel
theorem dX7_sheet_64 : decode cX7_sheet 64 = .ok (.iload_n 3, 1) := by decide +kernel
theorem dX7_sheet_65 : decode cX7_sheet 65 = .ok (.iastore, 1) := by decide +kernel
theorem dX7_sheet_66 : decode cX7_sheet 66 = .ok (.iconst 0, 1) := by decide +kernel
theorem dX7_sheet_67 : decode cX7_sheet 67 = .ok (.istore 4, 2) := by decide +kernel
theorem dX7_sheet_69 : decode cX7_sheet 69 = .ok (.iload 4, 2) := by decide +kernel
theorem dX7_sheet_71 : decode cX7_sheet 71 = .ok (.bipush 40, 2) := by decide +kernel
theorem dX7_sheet_73 : decode cX7_sheet 73 = .ok (.if_icmp .ge 22, 3) := by decide +kernel
theorem dX7_sheet_76 : decode cX7_sheet 76 = .ok (.aload_n 0, 1) := by decide +kernel
theorem dX7_sheet_77 : decode cX7_sheet 77 = .ok (.getfield 34, 3) := by decide +kernel
theorem dX7_sheet_80 : decode cX7_sheet 80 = .ok (.bipush 40, 2) := by decide +kernel
theorem dX7_sheet_82 : decode cX7_sheet 82 = .ok (.iload_n 1, 1) := by decide +kernel
theorem dX7_sheet_83 : decode cX7_sheet 83 = .ok (.imul, 1) := by decide +kernel
theorem dX7_sheet_84 : decode cX7_sheet 84 = .ok (.iload 4, 2) := by decide +kernel
theorem dX7_sheet_86 : decode cX7_sheet 86 = .ok (.iadd, 1) := by decide +kernel
theorem dX7_sheet_87 : decode cX7_sheet 87 = .ok (.iconst 0, 1) := by decide +kernel
theorem dX7_sheet_88 : decode cX7_sheet 88 = .ok (.iastore, 1) := by decide +kernel
theorem dX7_sheet_89 : decode cX7_sheet 89 = .ok (.iinc 4 1, 3) := by decide +kernel
theorem dX7_sheet_92 : decode cX7_sheet 92 = .ok (.goto (-23), 3) := by decide +kernel
theorem dX7_sheet_95 : decode cX7_sheet 95 = .ok (.iconst 1, 1) := by decide +kernel
theorem dX7_sheet_96 : decode cX7_sheet 96 = .ok (.ireturn, 1) := by decide +kernel
set_option maxRecDepth 20000 in
theorem ggX7_put_X7_isSheet : GoodIn wsX7_put wsX7_isSheet := goodIn_r _ [7, 8, 9, 10, 6, 11] (by decide +kernel) (by decide +kernel)
set_option maxRecDepth 20000 in
theorem gX7_put_X7_isSheet : GoodIn wsX7_put (va_wsS RX7 250 yX7_isSheet wsX7_isSheet) := goodIn_app (goodIn_of _ (by decide +kernel)) ggX7_put_X7_isSheet
set_option maxRecDepth 20000 in
theorem ggX7_put_X7_isIn : GoodIn wsX7_put wsX7_isIn := goodIn_r _ [11] (by decide +kernel) (by decide +kernel)
set_option maxRecDepth 20000 in
theorem gX7_put_X7_isIn : GoodIn wsX7_put (va_wsS RX7 54 yX7_isIn wsX7_isIn) := goodIn_app (goodIn_of _ (by decide +kernel)) ggX7_put_X7_isIn
theorem dX7_put_0 : decode cX7_put 0 = .ok (.iload_n 1, 1) := by decide +kernel
theorem dX7_put_1 : decode cX7_put 1 = .ok (.invokestatic 250, 3) := by decide +kernel
theorem dX7_put_4 : decode cX7_put 4 = .ok (.ifCond .ne 5, 3) := by decide +kernel
theorem dX7_put_7 : decode cX7_put 7 = .ok (.iconst (-1), 1) := by decide +kernel
theorem dX7_put_8 : decode cX7_put 8 = .ok (.ireturn, 1) := by decide +kernel
theorem dX7_put_9 : decode cX7_put 9 = .ok (.aload_n 0, 1) := by decide +kernel
theorem dX7_put_10 : decode cX7_put 10 = .ok (.getfield 28, 3) := by decide +kernel
theorem dX7_put_13 : decode cX7_put 13 = .ok (.iload_n 1, 1) := by decide +kernel
theorem dX7_put_14 : decode cX7_put 14 = .ok (.iaload, 1) := by decide +kernel
theorem dX7_put_15 : decode cX7_put 15 = .ok (.ifCond .ge 6, 3) := by decide +kernel
theorem dX7_put_18 : decode cX7_put 18 = .ok (.bipush (-11), 2) := by decide +kernel
theorem dX7_put_20 : decode cX7_put 20 = .ok (.ireturn, 1) := by decide +kernel
theorem dX7_put_21 : decode cX7_put 21 = .ok (.iload_n 2, 1) := by decide +kernel
theorem dX7_put_22 : decode cX7_put 22 = .ok (.i2l, 1) := by decide +kernel
theorem dX7_put_23 : decode cX7_put 23 = .ok (.lconst 0, 1) := by decide +kernel
theorem dX7_put_24 : decode cX7_put 24 = .ok (.aload_n 0, 1) := by decide +kernel
theorem dX7_put_25 : decode cX7_put 25 = .ok (.getfield 31, 3) := by decide +kernel
theorem dX7_put_28 : decode cX7_put 28 = .ok (.iload_n 1, 1) := by decide +kernel
theorem dX7_put_29 : decode cX7_put 29 = .ok (.iaload, 1) := by decide +kernel
theorem dX7_put_30 : decode cX7_put 30 = .ok (.iconst 1, 1) := by decide +kernel
theorem dX7_put_31 : decode cX7_put 31 = .ok (.isub, 1) := by decide +kernel
theorem dX7_put_32 : decode cX7_put 32 = .ok (.i2l, 1) := by decide +kernel
theorem dX7_put_33 : decode cX7_put 33 = .ok (.invokestatic 54, 3) := by decide +kernel
theorem dX7_put_36 : decode cX7_put 36 = .ok (.ifCond .ne 6, 3) := by decide +kernel
theorem dX7_put_39 : decode cX7_put 39 = .ok (.bipush (-12), 2) := by decide +kernel
theorem dX7_put_41 : decode cX7_put 41 = .ok (.ireturn, 1) := by decide +kernel
theorem dX7_put_42 : decode cX7_put 42 = .ok (.aload_n 0, 1) := by decide +kernel
theorem dX7_put_43 : decode cX7_put 43 = .ok (.getfield 34, 3) := by decide +kernel
theorem dX7_put_46 : decode cX7_put 46 = .ok (.bipush 40, 2) := by decide +kernel
theorem dX7_put_48 : decode cX7_put 48 = .ok (.iload_n 1, 1) := by decide +kernel
theorem dX7_put_49 : decode cX7_put 49 = .ok (.imul, 1) := by decide +kernel
theorem dX7_put_50 : decode cX7_put 50 = .ok (.iload_n 2, 1) := by decide +kernel
theorem dX7_put_51 : decode cX7_put 51 = .ok (.iadd, 1) := by decide +kernel
theorem dX7_put_52 : decode cX7_put 52 = .ok (.aload_n 0, 1) := by decide +kernel
theorem dX7_put_53 : decode cX7_put 53 = .ok (.getfield 28, 3) := by decide +kernel
theorem dX7_put_56 : decode cX7_put 56 = .ok (.iload_n 1, 1) := by decide +kernel
theorem dX7_put_57 : decode cX7_put 57 = .ok (.iaload, 1) := by decide +kernel
theorem dX7_put_58 : decode cX7_put 58 = .ok (.ifCond .ne 8, 3) := by decide +kernel
theorem dX7_put_61 : decode cX7_put 61 = .ok (.iload_n 3, 1) := by decide +kernel
theorem dX7_put_62 : decode cX7_put 62 = .ok (.i2b, 1) := by decide +kernel
theorem dX7_put_63 : decode cX7_put 63 = .ok (.goto 19, 3) := by decide +kernel
theorem dX7_put_66 : decode cX7_put 66 = .ok (.aload_n 0, 1) := by decide +kernel
theorem dX7_put_67 : decode cX7_put 67 = .ok (.getfield 28, 3) := by decide +kernel
theorem dX7_put_70 : decode cX7_put 70 = .ok (.iload_n 1, 1) := by decide +kernel
theorem dX7_put_71 : decode cX7_put 71 = .ok (.iaload, 1) := by decide +kernel
theorem dX7_put_72 : decode cX7_put 72 = .ok (.iconst 1, 1) := by decide +kernel
theorem dX7_put_73 : decode cX7_put 73 = .ok (.if_icmp .ne 8, 3) := by decide +kernel
theorem dX7_put_76 : decode cX7_put 76 = .ok (.iload_n 3, 1) := by decide +kernel
theorem dX7_put_77 : decode cX7_put 77 = .ok (.i2s, 1) := by decide +kernel
theorem dX7_put_78 : decode cX7_put 78 = .ok (.goto 4, 3) := by decide +kernel
theorem dX7_put_81 : decode cX7_put 81 = .ok (.iload_n 3, 1) := by decide +kernel
theorem dX7_put_82 : decode cX7_put 82 = .ok (.iastore, 1) := by decide +kernel
theorem dX7_put_83 : decode cX7_put 83 = .ok (.iconst 1, 1) := by decide +kernel
theorem dX7_put_84 : decode cX7_put 84 = .ok (.ireturn, 1) := by decide +kernel
theorem dX7_lacks_0 : decode cX7_lacks 0 = .ok (.aload_n 0, 1) := by decide +kernel
theorem dX7_lacks_1 : decode cX7_lacks 1 = .ok (.getfield 28, 3) := by decide +kernel
theorem dX7_lacks_4 : decode cX7_lacks 4 = .ok (.iload_n 1, 1) := by decide +kernel
theorem dX7_lacks_5 : decode cX7_lacks 5 = .ok (.iaload, 1) := by decide +kernel
theorem dX7_lacks_6 : decode cX7_lacks 6 = .ok (.ifCond .ge 8, 3) := by decide +kernel
theorem dX7_lacks_9 : decode cX7_lacks 9 = .ok (.bipush (-11), 2) := by decide +kernel
theorem dX7_lacks_11 : decode cX7_lacks 11 = .ok (.goto 19, 3) := by decide +kernel
theorem dX7_lacks_14 : decode cX7_lacks 14 = .ok (.aload_n 0, 1) := by decide +kernel
theorem dX7_lacks_15 : decode cX7_lacks 15 = .ok (.getfield 28, 3) := by decide +kernel
theorem dX7_lacks_18 : decode cX7_lacks 18 = .ok (.iload_n 1, 1) := by decide +kernel
theorem dX7_lacks_19 : decode cX7_lacks 19 = .ok (.iaload, 1) := by decide +kernel
theorem dX7_lacks_20 : decode cX7_lacks 20 = .ok (.iload_n 2, 1) := by decide +kernel
theorem dX7_lacks_21 : decode cX7_lacks 21 = .ok (.if_icmp .eq 8, 3) := by decide +kernel
theorem dX7_lacks_24 : decode cX7_lacks 24 = .ok (.bipush (-13), 2) := by decide +kernel
theorem dX7_lacks_26 : decode cX7_lacks 26 = .ok (.goto 4, 3) := by decide +kernel
theorem dX7_lacks_29 : decode cX7_lacks 29 = .ok (.iconst 0, 1) := by decide +kernel
theorem dX7_lacks_30 : decode cX7_lacks 30 = .ok (.ireturn, 1) := by decide +kernel
set_option maxRecDepth 20000 in
theorem ggX7_item_X7_isSheet : GoodIn wsX7_item wsX7_isSheet := goodIn_r _ [7, 1, 8, 9, 6, 10] (by decide +kernel) (by decide +kernel)
set_option maxRecDepth 20000 in
theorem gX7_item_X7_isSheet : GoodIn wsX7_item (va_wsS RX7 250 yX7_isSheet wsX7_isSheet) := goodIn_app (goodIn_of _ (by decide +kernel)) ggX7_item_X7_isSheet
set_option maxRecDepth 20000 in
theorem ggX7_item_X7_isIn : GoodIn wsX7_item wsX7_isIn := goodIn_r _ [10] (by decide +kernel) (by decide +kernel)
