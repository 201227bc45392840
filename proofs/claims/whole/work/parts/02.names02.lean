set_option maxRecDepth 20000 in
theorem gX5_step_X5_sortAt : GoodIn wsX5_step (wsV RX5 96 RX5 yX5_sortAt wsX5_sortAt) := goodIn_app (goodIn_of _ (by decide +kernel)) ggX5_step_X5_sortAt
theorem dX5_step_0 : decode cX5_step 0 = .ok (.aload_n 0, 1) := by decide +kernel
theorem dX5_step_1 : decode cX5_step 1 = .ok (.aload_n 0, 1) := by decide +kernel
theorem dX5_step_2 : decode cX5_step 2 = .ok (.getfield 15, 3) := by decide +kernel
theorem dX5_step_5 : decode cX5_step 5 = .ok (.putfield 90, 3) := by decide +kernel
theorem dX5_step_8 : decode cX5_step 8 = .ok (.aload_n 0, 1) := by decide +kernel
theorem dX5_step_9 : decode cX5_step 9 = .ok (.getfield 90, 3) := by decide +kernel
theorem dX5_step_12 : decode cX5_step 12 = .ok (.aload_n 0, 1) := by decide +kernel
theorem dX5_step_13 : decode cX5_step 13 = .ok (.getfield 93, 3) := by decide +kernel
theorem dX5_step_16 : decode cX5_step 16 = .ok (.if_icmp .ge 30, 3) := by decide +kernel
theorem dX5_step_19 : decode cX5_step 19 = .ok (.aload_n 0, 1) := by decide +kernel
theorem dX5_step_20 : decode cX5_step 20 = .ok (.getfield 9, 3) := by decide +kernel
theorem dX5_step_23 : decode cX5_step 23 = .ok (.aload_n 0, 1) := by decide +kernel
theorem dX5_step_24 : decode cX5_step 24 = .ok (.getfield 90, 3) := by decide +kernel
theorem dX5_step_27 : decode cX5_step 27 = .ok (.baload, 1) := by decide +kernel
theorem dX5_step_28 : decode cX5_step 28 = .ok (.bipush 32, 2) := by decide +kernel
theorem dX5_step_30 : decode cX5_step 30 = .ok (.if_icmp .ne 16, 3) := by decide +kernel
theorem dX5_step_33 : decode cX5_step 33 = .ok (.aload_n 0, 1) := by decide +kernel
theorem dX5_step_34 : decode cX5_step 34 = .ok (.dup, 1) := by decide +kernel
theorem dX5_step_35 : decode cX5_step 35 = .ok (.getfield 90, 3) := by decide +kernel
theorem dX5_step_38 : decode cX5_step 38 = .ok (.iconst 1, 1) := by decide +kernel
theorem dX5_step_39 : decode cX5_step 39 = .ok (.iadd, 1) := by decide +kernel
theorem dX5_step_40 : decode cX5_step 40 = .ok (.putfield 90, 3) := by decide +kernel
theorem dX5_step_43 : decode cX5_step 43 = .ok (.goto (-35), 3) := by decide +kernel
theorem dX5_step_46 : decode cX5_step 46 = .ok (.aload_n 0, 1) := by decide +kernel
theorem dX5_step_47 : decode cX5_step 47 = .ok (.aload_n 0, 1) := by decide +kernel
theorem dX5_step_48 : decode cX5_step 48 = .ok (.aload_n 0, 1) := by decide +kernel
theorem dX5_step_49 : decode cX5_step 49 = .ok (.getfield 90, 3) := by decide +kernel
theorem dX5_step_52 : decode cX5_step 52 = .ok (.invokevirtual 96, 3) := by decide +kernel
theorem dX5_step_55 : decode cX5_step 55 = .ok (.putfield 22, 3) := by decide +kernel
theorem dX5_step_58 : decode cX5_step 58 = .ok (.aload_n 0, 1) := by decide +kernel
theorem dX5_step_59 : decode cX5_step 59 = .ok (.aload_n 0, 1) := by decide +kernel
theorem dX5_step_60 : decode cX5_step 60 = .ok (.getfield 90, 3) := by decide +kernel
theorem dX5_step_63 : decode cX5_step 63 = .ok (.putfield 15, 3) := by decide +kernel
theorem dX5_step_66 : decode cX5_step 66 = .ok (.aload_n 0, 1) := by decide +kernel
theorem dX5_step_67 : decode cX5_step 67 = .ok (.getfield 22, 3) := by decide +kernel
theorem dX5_step_70 : decode cX5_step 70 = .ok (.iconst 3, 1) := by decide +kernel
theorem dX5_step_71 : decode cX5_step 71 = .ok (.if_icmp .ne 16, 3) := by decide +kernel
theorem dX5_step_74 : decode cX5_step 74 = .ok (.aload_n 0, 1) := by decide +kernel
theorem dX5_step_75 : decode cX5_step 75 = .ok (.dup, 1) := by decide +kernel
theorem dX5_step_76 : decode cX5_step 76 = .ok (.getfield 15, 3) := by decide +kernel
theorem dX5_step_79 : decode cX5_step 79 = .ok (.iconst 1, 1) := by decide +kernel
theorem dX5_step_80 : decode cX5_step 80 = .ok (.iadd, 1) := by decide +kernel
theorem dX5_step_81 : decode cX5_step 81 = .ok (.putfield 15, 3) := by decide +kernel
theorem dX5_step_84 : decode cX5_step 84 = .ok (.goto 49, 3) := by decide +kernel
theorem dX5_step_87 : decode cX5_step 87 = .ok (.aload_n 0, 1) := by decide +kernel
theorem dX5_step_88 : decode cX5_step 88 = .ok (.getfield 22, 3) := by decide +kernel
theorem dX5_step_91 : decode cX5_step 91 = .ok (.ifCond .eq 42, 3) := by decide +kernel
theorem dX5_step_94 : decode cX5_step 94 = .ok (.aload_n 0, 1) := by decide +kernel
theorem dX5_step_95 : decode cX5_step 95 = .ok (.getfield 15, 3) := by decide +kernel
theorem dX5_step_98 : decode cX5_step 98 = .ok (.aload_n 0, 1) := by decide +kernel
theorem dX5_step_99 : decode cX5_step 99 = .ok (.getfield 93, 3) := by decide +kernel
theorem dX5_step_102 : decode cX5_step 102 = .ok (.if_icmp .ge 31, 3) := by decide +kernel
theorem dX5_step_105 : decode cX5_step 105 = .ok (.aload_n 0, 1) := by decide +kernel
theorem dX5_step_106 : decode cX5_step 106 = .ok (.aload_n 0, 1) := by decide +kernel
theorem dX5_step_107 : decode cX5_step 107 = .ok (.getfield 15, 3) := by decide +kernel
theorem dX5_step_110 : decode cX5_step 110 = .ok (.invokevirtual 96, 3) := by decide +kernel
theorem dX5_step_113 : decode cX5_step 113 = .ok (.aload_n 0, 1) := by decide +kernel
theorem dX5_step_114 : decode cX5_step 114 = .ok (.getfield 22, 3) := by decide +kernel
theorem dX5_step_117 : decode cX5_step 117 = .ok (.if_icmp .ne 16, 3) := by decide +kernel
theorem dX5_step_120 : decode cX5_step 120 = .ok (.aload_n 0, 1) := by decide +kernel
theorem dX5_step_121 : decode cX5_step 121 = .ok (.dup, 1) := by decide +kernel
theorem dX5_step_122 : decode cX5_step 122 = .ok (.getfield 15, 3) := by decide +kernel
theorem dX5_step_125 : decode cX5_step 125 = .ok (.iconst 1, 1) := by decide +kernel
theorem dX5_step_126 : decode cX5_step 126 = .ok (.iadd, 1) := by decide +kernel
theorem dX5_step_127 : decode cX5_step 127 = .ok (.putfield 15, 3) := by decide +kernel
theorem dX5_step_130 : decode cX5_step 130 = .ok (.goto (-36), 3) := by decide +kernel
theorem dX5_step_133 : decode cX5_step 133 = .ok (.return_, 1) := by decide +kernel
theorem dX5_sortAt_0 : decode cX5_sortAt 0 = .ok (.iload_n 1, 1) := by decide +kernel
theorem dX5_sortAt_1 : decode cX5_sortAt 1 = .ok (.aload_n 0, 1) := by decide +kernel
theorem dX5_sortAt_2 : decode cX5_sortAt 2 = .ok (.getfield 93, 3) := by decide +kernel
theorem dX5_sortAt_5 : decode cX5_sortAt 5 = .ok (.if_icmp .lt 5, 3) := by decide +kernel
theorem dX5_sortAt_8 : decode cX5_sortAt 8 = .ok (.iconst 0, 1) := by decide +kernel
theorem dX5_sortAt_9 : decode cX5_sortAt 9 = .ok (.ireturn, 1) := by decide +kernel
theorem dX5_sortAt_10 : decode cX5_sortAt 10 = .ok (.aload_n 0, 1) := by decide +kernel
theorem dX5_sortAt_11 : decode cX5_sortAt 11 = .ok (.getfield 9, 3) := by decide +kernel
theorem dX5_sortAt_14 : decode cX5_sortAt 14 = .ok (.iload_n 1, 1) := by decide +kernel
theorem dX5_sortAt_15 : decode cX5_sortAt 15 = .ok (.baload, 1) := by decide +kernel
theorem dX5_sortAt_16 : decode cX5_sortAt 16 = .ok (.bipush 97, 2) := by decide +kernel
theorem dX5_sortAt_18 : decode cX5_sortAt 18 = .ok (.if_icmp .lt 16, 3) := by decide +kernel
theorem dX5_sortAt_21 : decode cX5_sortAt 21 = .ok (.aload_n 0, 1) := by decide +kernel
theorem dX5_sortAt_22 : decode cX5_sortAt 22 = .ok (.getfield 9, 3) := by decide +kernel
theorem dX5_sortAt_25 : decode cX5_sortAt 25 = .ok (.iload_n 1, 1) := by decide +kernel
theorem dX5_sortAt_26 : decode cX5_sortAt 26 = .ok (.baload, 1) := by decide +kernel
theorem dX5_sortAt_27 : decode cX5_sortAt 27 = .ok (.bipush 122, 2) := by decide +kernel
theorem dX5_sortAt_29 : decode cX5_sortAt 29 = .ok (.if_icmp .gt 5, 3) := by decide +kernel
theorem dX5_sortAt_32 : decode cX5_sortAt 32 = .ok (.iconst 1, 1) := by decide +kernel
theorem dX5_sortAt_33 : decode cX5_sortAt 33 = .ok (.ireturn, 1) := by decide +kernel
theorem dX5_sortAt_34 : decode cX5_sortAt 34 = .ok (.aload_n 0, 1) := by decide +kernel
theorem dX5_sortAt_35 : decode cX5_sortAt 35 = .ok (.getfield 9, 3) := by decide +kernel
theorem dX5_sortAt_38 : decode cX5_sortAt 38 = .ok (.iload_n 1, 1) := by decide +kernel
theorem dX5_sortAt_39 : decode cX5_sortAt 39 = .ok (.baload, 1) := by decide +kernel
theorem dX5_sortAt_40 : decode cX5_sortAt 40 = .ok (.bipush 48, 2) := by decide +kernel
theorem dX5_sortAt_42 : decode cX5_sortAt 42 = .ok (.if_icmp .lt 18, 3) := by decide +kernel
theorem dX5_sortAt_45 : decode cX5_sortAt 45 = .ok (.aload_n 0, 1) := by decide +kernel
theorem dX5_sortAt_46 : decode cX5_sortAt 46 = .ok (.getfield 9, 3) := by decide +kernel
theorem dX5_sortAt_49 : decode cX5_sortAt 49 = .ok (.iload_n 1, 1) := by decide +kernel
theorem dX5_sortAt_50 : decode cX5_sortAt 50 = .ok (.baload, 1) := by decide +kernel
theorem dX5_sortAt_51 : decode cX5_sortAt 51 = .ok (.bipush 57, 2) := by decide +kernel
theorem dX5_sortAt_53 : decode cX5_sortAt 53 = .ok (.if_icmp .gt 7, 3) := by decide +kernel
theorem dX5_sortAt_56 : decode cX5_sortAt 56 = .ok (.iconst 2, 1) := by decide +kernel
theorem dX5_sortAt_57 : decode cX5_sortAt 57 = .ok (.goto 4, 3) := by decide +kernel
theorem dX5_sortAt_60 : decode cX5_sortAt 60 = .ok (.iconst 3, 1) := by decide +kernel
theorem dX5_sortAt_61 : decode cX5_sortAt 61 = .ok (.ireturn, 1) := by decide +kernel
set_option maxRecDepth 20000 in
theorem ggX5_isName_J0_length_8abf5 : GoodIn wsX5_isName wsJ0_length_8abf5 := goodIn_r _ [9, 10, 11, 12, 13, 8, 14, 15, 16] (by decide +kernel) (by decide +kernel)
set_option maxRecDepth 20000 in
theorem gX5_isName_J0_length_8abf5 : GoodIn wsX5_isName (wsV RX5 100 RJ0 yJ0_length_8abf5 wsJ0_length_8abf5) := goodIn_app (goodIn_of _ (by decide +kernel)) ggX5_isName_J0_length_8abf5
set_option maxRecDepth 20000 in
theorem ggX5_isName_J0_charAt_5068e : GoodIn wsX5_isName wsJ0_charAt_5068e := goodIn_r _ [20, 10, 21, 22, 23, 8, 24, 15, 16, 25, 26, 27, 28, 29, 30, 31, 32, 33, 34, 35, 36, 37, 38, 39, 40, 41, 42, 43, 44, 45, 46, 47, 48, 49, 50, 51, 52, 53] (by decide +kernel) (by decide +kernel)
set_option maxRecDepth 20000 in
theorem gX5_isName_J0_charAt_5068e : GoodIn wsX5_isName (wsV RX5 104 RJ0 yJ0_charAt_5068e wsJ0_charAt_5068e) := goodIn_app (goodIn_of _ (by decide +kernel)) ggX5_isName_J0_charAt_5068e
theorem dX5_isName_0 : decode cX5_isName 0 = .ok (.aload_n 0, 1) := by decide +kernel
theorem dX5_isName_1 : decode cX5_isName 1 = .ok (.getfield 22, 3) := by decide +kernel
theorem dX5_isName_4 : decode cX5_isName 4 = .ok (.iconst 1, 1) := by decide +kernel
theorem dX5_isName_5 : decode cX5_isName 5 = .ok (.if_icmp .ne 19, 3) := by decide +kernel
theorem dX5_isName_8 : decode cX5_isName 8 = .ok (.aload_n 0, 1) := by decide +kernel
theorem dX5_isName_9 : decode cX5_isName 9 = .ok (.getfield 15, 3) := by decide +kernel
theorem dX5_isName_12 : decode cX5_isName 12 = .ok (.aload_n 0, 1) := by decide +kernel
theorem dX5_isName_13 : decode cX5_isName 13 = .ok (.getfield 90, 3) := by decide +kernel
theorem dX5_isName_16 : decode cX5_isName 16 = .ok (.isub, 1) := by decide +kernel
theorem dX5_isName_17 : decode cX5_isName 17 = .ok (.aload_n 1, 1) := by decide +kernel
theorem dX5_isName_18 : decode cX5_isName 18 = .ok (.invokevirtual 100, 3) := by decide +kernel
theorem dX5_isName_21 : decode cX5_isName 21 = .ok (.if_icmp .eq 5, 3) := by decide +kernel
theorem dX5_isName_24 : decode cX5_isName 24 = .ok (.iconst 0, 1) := by decide +kernel
theorem dX5_isName_25 : decode cX5_isName 25 = .ok (.ireturn, 1) := by decide +kernel
theorem dX5_isName_26 : decode cX5_isName 26 = .ok (.iconst 0, 1) := by decide +kernel
theorem dX5_isName_27 : decode cX5_isName 27 = .ok (.istore_n 2, 1) := by decide +kernel
theorem dX5_isName_28 : decode cX5_isName 28 = .ok (.iload_n 2, 1) := by decide +kernel
theorem dX5_isName_29 : decode cX5_isName 29 = .ok (.aload_n 1, 1) := by decide +kernel
theorem dX5_isName_30 : decode cX5_isName 30 = .ok (.invokevirtual 100, 3) := by decide +kernel
theorem dX5_isName_33 : decode cX5_isName 33 = .ok (.if_icmp .ge 30, 3) := by decide +kernel
theorem dX5_isName_36 : decode cX5_isName 36 = .ok (.aload_n 0, 1) := by decide +kernel
theorem dX5_isName_37 : decode cX5_isName 37 = .ok (.getfield 9, 3) := by decide +kernel
theorem dX5_isName_40 : decode cX5_isName 40 = .ok (.aload_n 0, 1) := by decide +kernel
theorem dX5_isName_41 : decode cX5_isName 41 = .ok (.getfield 90, 3) := by decide +kernel
theorem dX5_isName_44 : decode cX5_isName 44 = .ok (.iload_n 2, 1) := by decide +kernel
theorem dX5_isName_45 : decode cX5_isName 45 = .ok (.iadd, 1) := by decide +kernel
theorem dX5_isName_46 : decode cX5_isName 46 = .ok (.baload, 1) := by decide +kernel
theorem dX5_isName_47 : decode cX5_isName 47 = .ok (.aload_n 1, 1) := by decide +kernel
theorem dX5_isName_48 : decode cX5_isName 48 = .ok (.iload_n 2, 1) := by decide +kernel
theorem dX5_isName_49 : decode cX5_isName 49 = .ok (.invokevirtual 104, 3) := by decide +kernel
theorem dX5_isName_52 : decode cX5_isName 52 = .ok (.if_icmp .eq 5, 3) := by decide +kernel
theorem dX5_isName_55 : decode cX5_isName 55 = .ok (.iconst 0, 1) := by decide +kernel
theorem dX5_isName_56 : decode cX5_isName 56 = .ok (.ireturn, 1) := by decide +kernel
theorem dX5_isName_57 : decode cX5_isName 57 = .ok (.iinc 2 1, 3) := by decide +kernel
theorem dX5_isName_60 : decode cX5_isName 60 = .ok (.goto (-32), 3) := by decide +kernel
theorem dX5_isName_63 : decode cX5_isName 63 = .ok (.iconst 1, 1) := by decide +kernel
theorem dX5_isName_64 : decode cX5_isName 64 = .ok (.ireturn, 1) := by decide +kernel
set_option maxRecDepth 20000 in
theorem ggX5_kindNamed_X5_isName : GoodIn wsX5_kindNamed wsX5_isName := goodIn_r _ [5, 6, 7, 8, 9, 10, 11, 12, 13, 14, 15, 16, 17, 18, 19, 20, 21, 22, 23, 24, 25, 26, 27, 28, 29, 30, 31, 32, 33, 34, 35, 36, 37, 38, 39, 40, 41, 42, 43, 44, 45, 46, 47, 48, 49, 50, 51, 52, 53, 54, 55, 56, 57, 58, 59, 60, 61, 62, 63, 64] (by decide +kernel) (by decide +kernel)
set_option maxRecDepth 20000 in
theorem gX5_kindNamed_X5_isName : GoodIn wsX5_kindNamed (wsV RX5 44 RX5 yX5_isName wsX5_isName) := goodIn_app (goodIn_of _ (by decide +kernel)) ggX5_kindNamed_X5_isName
theorem dX5_kindNamed_0 : decode cX5_kindNamed 0 = .ok (.aload_n 0, 1) := by decide +kernel
theorem dX5_kindNamed_1 : decode cX5_kindNamed 1 = .ok (.ldc 108, 2) := by decide +kernel
theorem dX5_kindNamed_3 : decode cX5_kindNamed 3 = .ok (.invokevirtual 44, 3) := by decide +kernel
theorem dX5_kindNamed_6 : decode cX5_kindNamed 6 = .ok (.ifCond .eq 5, 3) := by decide +kernel
theorem dX5_kindNamed_9 : decode cX5_kindNamed 9 = .ok (.iconst 0, 1) := by decide +kernel
theorem dX5_kindNamed_10 : decode cX5_kindNamed 10 = .ok (.ireturn, 1) := by decide +kernel
theorem dX5_kindNamed_11 : decode cX5_kindNamed 11 = .ok (.aload_n 0, 1) := by decide +kernel
theorem dX5_kindNamed_12 : decode cX5_kindNamed 12 = .ok (.ldc 110, 2) := by decide +kernel
theorem dX5_kindNamed_14 : decode cX5_kindNamed 14 = .ok (.invokevirtual 44, 3) := by decide +kernel
theorem dX5_kindNamed_17 : decode cX5_kindNamed 17 = .ok (.ifCond .eq 5, 3) := by decide +kernel
theorem dX5_kindNamed_20 : decode cX5_kindNamed 20 = .ok (.iconst 1, 1) := by decide +kernel
theorem dX5_kindNamed_21 : decode cX5_kindNamed 21 = .ok (.ireturn, 1) := by decide +kernel
theorem dX5_kindNamed_22 : decode cX5_kindNamed 22 = .ok (.aload_n 0, 1) := by decide +kernel
theorem dX5_kindNamed_23 : decode cX5_kindNamed 23 = .ok (.ldc 112, 2) := by decide +kernel
theorem dX5_kindNamed_25 : decode cX5_kindNamed 25 = .ok (.invokevirtual 44, 3) := by decide +kernel
theorem dX5_kindNamed_28 : decode cX5_kindNamed 28 = .ok (.ifCond .eq 5, 3) := by decide +kernel
theorem dX5_kindNamed_31 : decode cX5_kindNamed 31 = .ok (.iconst 2, 1) := by decide +kernel
theorem dX5_kindNamed_32 : decode cX5_kindNamed 32 = .ok (.ireturn, 1) := by decide +kernel
theorem dX5_kindNamed_33 : decode cX5_kindNamed 33 = .ok (.aload_n 0, 1) := by decide +kernel
theorem dX5_kindNamed_34 : decode cX5_kindNamed 34 = .ok (.ldc 114, 2) := by decide +kernel
theorem dX5_kindNamed_36 : decode cX5_kindNamed 36 = .ok (.invokevirtual 44, 3) := by decide +kernel
theorem dX5_kindNamed_39 : decode cX5_kindNamed 39 = .ok (.ifCond .eq 5, 3) := by decide +kernel
theorem dX5_kindNamed_42 : decode cX5_kindNamed 42 = .ok (.iconst 3, 1) := by decide +kernel
theorem dX5_kindNamed_43 : decode cX5_kindNamed 43 = .ok (.ireturn, 1) := by decide +kernel
theorem dX5_kindNamed_44 : decode cX5_kindNamed 44 = .ok (.aload_n 0, 1) := by decide +kernel
theorem dX5_kindNamed_45 : decode cX5_kindNamed 45 = .ok (.ldc 116, 2) := by decide +kernel
theorem dX5_kindNamed_47 : decode cX5_kindNamed 47 = .ok (.invokevirtual 44, 3) := by decide +kernel
theorem dX5_kindNamed_50 : decode cX5_kindNamed 50 = .ok (.ifCond .eq 5, 3) := by decide +kernel
theorem dX5_kindNamed_53 : decode cX5_kindNamed 53 = .ok (.iconst 4, 1) := by decide +kernel
theorem dX5_kindNamed_54 : decode cX5_kindNamed 54 = .ok (.ireturn, 1) := by decide +kernel
theorem dX5_kindNamed_55 : decode cX5_kindNamed 55 = .ok (.aload_n 0, 1) := by decide +kernel
theorem dX5_kindNamed_56 : decode cX5_kindNamed 56 = .ok (.ldc 118, 2) := by decide +kernel
theorem dX5_kindNamed_58 : decode cX5_kindNamed 58 = .ok (.invokevirtual 44, 3) := by decide +kernel
theorem dX5_kindNamed_61 : decode cX5_kindNamed 61 = .ok (.ifCond .eq 7, 3) := by decide +kernel
theorem dX5_kindNamed_64 : decode cX5_kindNamed 64 = .ok (.iconst 5, 1) := by decide +kernel
theorem dX5_kindNamed_65 : decode cX5_kindNamed 65 = .ok (.goto 5, 3) := by decide +kernel
theorem dX5_kindNamed_68 : decode cX5_kindNamed 68 = .ok (.bipush (-3), 2) := by decide +kernel
theorem dX5_kindNamed_70 : decode cX5_kindNamed 70 = .ok (.ireturn, 1) := by decide +kernel
set_option maxRecDepth 20000 in
theorem ggX5_lawNamed_X5_isName : GoodIn wsX5_lawNamed wsX5_isName := goodIn_r _ [5, 6, 7, 8, 9, 10, 11, 12, 13, 14, 15, 16, 17, 18, 19, 20, 21, 22, 23, 24, 25, 26, 27, 28, 29, 30, 31, 32, 33, 34, 35, 36, 37, 38, 39, 40, 41, 42, 43, 44, 45, 46, 47, 48, 49, 50, 51, 52, 53, 54, 55, 56, 57, 58, 59, 60, 61, 62, 63, 64] (by decide +kernel) (by decide +kernel)
set_option maxRecDepth 20000 in
theorem gX5_lawNamed_X5_isName : GoodIn wsX5_lawNamed (wsV RX5 44 RX5 yX5_isName wsX5_isName) := goodIn_app (goodIn_of _ (by decide +kernel)) ggX5_lawNamed_X5_isName
theorem dX5_lawNamed_0 : decode cX5_lawNamed 0 = .ok (.aload_n 0, 1) := by decide +kernel
theorem dX5_lawNamed_1 : decode cX5_lawNamed 1 = .ok (.ldc 120, 2) := by decide +kernel
theorem dX5_lawNamed_3 : decode cX5_lawNamed 3 = .ok (.invokevirtual 44, 3) := by decide +kernel
theorem dX5_lawNamed_6 : decode cX5_lawNamed 6 = .ok (.ifCond .eq 5, 3) := by decide +kernel
theorem dX5_lawNamed_9 : decode cX5_lawNamed 9 = .ok (.iconst 0, 1) := by decide +kernel
theorem dX5_lawNamed_10 : decode cX5_lawNamed 10 = .ok (.ireturn, 1) := by decide +kernel
theorem dX5_lawNamed_11 : decode cX5_lawNamed 11 = .ok (.aload_n 0, 1) := by decide +kernel
theorem dX5_lawNamed_12 : decode cX5_lawNamed 12 = .ok (.ldc 122, 2) := by decide +kernel
theorem dX5_lawNamed_14 : decode cX5_lawNamed 14 = .ok (.invokevirtual 44, 3) := by decide +kernel
theorem dX5_lawNamed_17 : decode cX5_lawNamed 17 = .ok (.ifCond .eq 5, 3) := by decide +kernel
theorem dX5_lawNamed_20 : decode cX5_lawNamed 20 = .ok (.iconst 1, 1) := by decide +kernel
theorem dX5_lawNamed_21 : decode cX5_lawNamed 21 = .ok (.ireturn, 1) := by decide +kernel
theorem dX5_lawNamed_22 : decode cX5_lawNamed 22 = .ok (.aload_n 0, 1) := by decide +kernel
theorem dX5_lawNamed_23 : decode cX5_lawNamed 23 = .ok (.ldc 124, 2) := by decide +kernel
theorem dX5_lawNamed_25 : decode cX5_lawNamed 25 = .ok (.invokevirtual 44, 3) := by decide +kernel
theorem dX5_lawNamed_28 : decode cX5_lawNamed 28 = .ok (.ifCond .eq 5, 3) := by decide +kernel
theorem dX5_lawNamed_31 : decode cX5_lawNamed 31 = .ok (.iconst 2, 1) := by decide +kernel
theorem dX5_lawNamed_32 : decode cX5_lawNamed 32 = .ok (.ireturn, 1) := by decide +kernel
theorem dX5_lawNamed_33 : decode cX5_lawNamed 33 = .ok (.aload_n 0, 1) := by decide +kernel
theorem dX5_lawNamed_34 : decode cX5_lawNamed 34 = .ok (.ldc 126, 2) := by decide +kernel
theorem dX5_lawNamed_36 : decode cX5_lawNamed 36 = .ok (.invokevirtual 44, 3) := by decide +kernel
theorem dX5_lawNamed_39 : decode cX5_lawNamed 39 = .ok (.ifCond .eq 7, 3) := by decide +kernel
theorem dX5_lawNamed_42 : decode cX5_lawNamed 42 = .ok (.iconst 3, 1) := by decide +kernel
theorem dX5_lawNamed_43 : decode cX5_lawNamed 43 = .ok (.goto 5, 3) := by decide +kernel
theorem dX5_lawNamed_46 : decode cX5_lawNamed 46 = .ok (.bipush (-3), 2) := by decide +kernel
theorem dX5_lawNamed_48 : decode cX5_lawNamed 48 = .ok (.ireturn, 1) := by decide +kernel
set_option maxRecDepth 20000 in
theorem ggX6_init_X4_init : GoodIn wsX6_init wsX4_init := goodIn_r _ [32, 33, 2, 3, 34, 35, 36, 37, 38, 39, 40, 41, 42, 43, 6, 44, 45, 46, 47, 48, 49, 50, 51, 52, 76, 77, 78, 79, 80, 81, 82, 83, 84, 85] (by decide +kernel) (by decide +kernel)
set_option maxRecDepth 20000 in
theorem gX6_init_X4_init : GoodIn wsX6_init (wsX4_init) := ggX6_init_X4_init
set_option maxRecDepth 20000 in
theorem ggX6_init_X5_init : GoodIn wsX6_init wsX5_init := goodIn_r _ [54, 55, 2, 3, 56, 57, 95, 96, 97, 98, 99, 100] (by decide +kernel) (by decide +kernel)
set_option maxRecDepth 20000 in
theorem gX6_init_X5_init_n24 : GoodIn wsX6_init (wsX5_init) := ggX6_init_X5_init
set_option maxRecDepth 20000 in
theorem ggX6_init_X0_init : GoodIn wsX6_init wsX0_init := goodIn_r _ [59, 60, 2, 3, 34, 61, 101, 102] (by decide +kernel) (by decide +kernel)
set_option maxRecDepth 20000 in
theorem gX6_init_X0_init_n31 : GoodIn wsX6_init (wsX0_init) := ggX6_init_X0_init
set_option maxRecDepth 20000 in
theorem ggX6_init_X3_init : GoodIn wsX6_init wsX3_init := goodIn_r _ [63, 64, 2, 3, 34, 65, 103, 104, 105, 106, 107, 108] (by decide +kernel) (by decide +kernel)
set_option maxRecDepth 20000 in
theorem gX6_init_X3_init_n50 : GoodIn wsX6_init (wsX3_init) := ggX6_init_X3_init
set_option maxRecDepth 20000 in
theorem ggX6_init_X1_init : GoodIn wsX6_init wsX1_init := goodIn_r _ [67, 68, 2, 3, 69, 70, 71, 109, 110, 111] (by decide +kernel) (by decide +kernel)
set_option maxRecDepth 20000 in
theorem gX6_init_X1_init_n55 : GoodIn wsX6_init (wsX1_init) := ggX6_init_X1_init
set_option maxRecDepth 20000 in
theorem ggX6_init_X2_init : GoodIn wsX6_init wsX2_init := goodIn_r _ [73, 74, 2, 3, 75, 112, 113, 114, 115] (by decide +kernel) (by decide +kernel)
set_option maxRecDepth 20000 in
theorem gX6_init_X2_init_n56 : GoodIn wsX6_init (wsX2_init) := ggX6_init_X2_init
theorem dX6_init_0 : decode cX6_init 0 = .ok (.aload_n 0, 1) := by decide +kernel
theorem dX6_init_1 : decode cX6_init 1 = .ok (.invokespecial 1, 3) := by decide +kernel
theorem dX6_init_4 : decode cX6_init 4 = .ok (.aload_n 0, 1) := by decide +kernel
theorem dX6_init_5 : decode cX6_init 5 = .ok (.new 7, 3) := by decide +kernel
theorem dX6_init_8 : decode cX6_init 8 = .ok (.dup, 1) := by decide +kernel
theorem dX6_init_9 : decode cX6_init 9 = .ok (.invokespecial 9, 3) := by decide +kernel
theorem dX6_init_12 : decode cX6_init 12 = .ok (.putfield 10, 3) := by decide +kernel
theorem dX6_init_15 : decode cX6_init 15 = .ok (.aload_n 0, 1) := by decide +kernel
theorem dX6_init_16 : decode cX6_init 16 = .ok (.new 7, 3) := by decide +kernel
theorem dX6_init_19 : decode cX6_init 19 = .ok (.dup, 1) := by decide +kernel
theorem dX6_init_20 : decode cX6_init 20 = .ok (.invokespecial 9, 3) := by decide +kernel
theorem dX6_init_23 : decode cX6_init 23 = .ok (.putfield 16, 3) := by decide +kernel
theorem dX6_init_26 : decode cX6_init 26 = .ok (.aload_n 0, 1) := by decide +kernel
theorem dX6_init_27 : decode cX6_init 27 = .ok (.new 7, 3) := by decide +kernel
theorem dX6_init_30 : decode cX6_init 30 = .ok (.dup, 1) := by decide +kernel
theorem dX6_init_31 : decode cX6_init 31 = .ok (.invokespecial 9, 3) := by decide +kernel
theorem dX6_init_34 : decode cX6_init 34 = .ok (.putfield 19, 3) := by decide +kernel
theorem dX6_init_37 : decode cX6_init 37 = .ok (.aload_n 0, 1) := by decide +kernel
theorem dX6_init_38 : decode cX6_init 38 = .ok (.new 22, 3) := by decide +kernel
theorem dX6_init_41 : decode cX6_init 41 = .ok (.dup, 1) := by decide +kernel
theorem dX6_init_42 : decode cX6_init 42 = .ok (.invokespecial 24, 3) := by decide +kernel
theorem dX6_init_45 : decode cX6_init 45 = .ok (.putfield 25, 3) := by decide +kernel
theorem dX6_init_48 : decode cX6_init 48 = .ok (.aload_n 0, 1) := by decide +kernel
theorem dX6_init_49 : decode cX6_init 49 = .ok (.new 29, 3) := by decide +kernel
theorem dX6_init_52 : decode cX6_init 52 = .ok (.dup, 1) := by decide +kernel
theorem dX6_init_53 : decode cX6_init 53 = .ok (.invokespecial 31, 3) := by decide +kernel
theorem dX6_init_56 : decode cX6_init 56 = .ok (.putfield 32, 3) := by decide +kernel
theorem dX6_init_59 : decode cX6_init 59 = .ok (.aload_n 0, 1) := by decide +kernel
theorem dX6_init_60 : decode cX6_init 60 = .ok (.iconst 4, 1) := by decide +kernel
theorem dX6_init_61 : decode cX6_init 61 = .ok (.anewarray 36, 3) := by decide +kernel
theorem dX6_init_64 : decode cX6_init 64 = .ok (.putfield 38, 3) := by decide +kernel
theorem dX6_init_67 : decode cX6_init 67 = .ok (.aload_n 0, 1) := by decide +kernel
theorem dX6_init_68 : decode cX6_init 68 = .ok (.iconst 4, 1) := by decide +kernel
theorem dX6_init_69 : decode cX6_init 69 = .ok (.anewarray 42, 3) := by decide +kernel
theorem dX6_init_72 : decode cX6_init 72 = .ok (.putfield 44, 3) := by decide +kernel
theorem dX6_init_75 : decode cX6_init 75 = .ok (.aload_n 0, 1) := by decide +kernel
theorem dX6_init_76 : decode cX6_init 76 = .ok (.new 48, 3) := by decide +kernel
theorem dX6_init_79 : decode cX6_init 79 = .ok (.dup, 1) := by decide +kernel
theorem dX6_init_80 : decode cX6_init 80 = .ok (.invokespecial 50, 3) := by decide +kernel
theorem dX6_init_83 : decode cX6_init 83 = .ok (.putfield 51, 3) := by decide +kernel
theorem dX6_init_86 : decode cX6_init 86 = .ok (.iconst 0, 1) := by decide +kernel
theorem dX6_init_87 : decode cX6_init 87 = .ok (.istore_n 1, 1) := by decide +kernel
theorem dX6_init_88 : decode cX6_init 88 = .ok (.iload_n 1, 1) := by decide +kernel
theorem dX6_init_89 : decode cX6_init 89 = .ok (.iconst 4, 1) := by decide +kernel
theorem dX6_init_90 : decode cX6_init 90 = .ok (.if_icmp .ge 22, 3) := by decide +kernel
theorem dX6_init_93 : decode cX6_init 93 = .ok (.aload_n 0, 1) := by decide +kernel
theorem dX6_init_94 : decode cX6_init 94 = .ok (.getfield 38, 3) := by decide +kernel
theorem dX6_init_97 : decode cX6_init 97 = .ok (.iload_n 1, 1) := by decide +kernel
theorem dX6_init_98 : decode cX6_init 98 = .ok (.new 36, 3) := by decide +kernel
theorem dX6_init_101 : decode cX6_init 101 = .ok (.dup, 1) := by decide +kernel
theorem dX6_init_102 : decode cX6_init 102 = .ok (.invokespecial 55, 3) := by decide +kernel
theorem dX6_init_105 : decode cX6_init 105 = .ok (.aastore, 1) := by decide +kernel
theorem dX6_init_106 : decode cX6_init 106 = .ok (.iinc 1 1, 3) := by decide +kernel
theorem dX6_init_109 : decode cX6_init 109 = .ok (.goto (-21), 3) := by decide +kernel
theorem dX6_init_112 : decode cX6_init 112 = .ok (.iconst 0, 1) := by decide +kernel
theorem dX6_init_113 : decode cX6_init 113 = .ok (.istore_n 1, 1) := by decide +kernel
theorem dX6_init_114 : decode cX6_init 114 = .ok (.iload_n 1, 1) := by decide +kernel
theorem dX6_init_115 : decode cX6_init 115 = .ok (.iconst 4, 1) := by decide +kernel
theorem dX6_init_116 : decode cX6_init 116 = .ok (.if_icmp .ge 22, 3) := by decide +kernel
theorem dX6_init_119 : decode cX6_init 119 = .ok (.aload_n 0, 1) := by decide +kernel
theorem dX6_init_120 : decode cX6_init 120 = .ok (.getfield 44, 3) := by decide +kernel
theorem dX6_init_123 : decode cX6_init 123 = .ok (.iload_n 1, 1) := by decide +kernel
theorem dX6_init_124 : decode cX6_init 124 = .ok (.new 42, 3) := by decide +kernel
theorem dX6_init_127 : decode cX6_init 127 = .ok (.dup, 1) := by decide +kernel
theorem dX6_init_128 : decode cX6_init 128 = .ok (.invokespecial 56, 3) := by decide +kernel
theorem dX6_init_131 : decode cX6_init 131 = .ok (.aastore, 1) := by decide +kernel
theorem dX6_init_132 : decode cX6_init 132 = .ok (.iinc 1 1, 3) := by decide +kernel
theorem dX6_init_135 : decode cX6_init 135 = .ok (.goto (-21), 3) := by decide +kernel
theorem dX6_init_138 : decode cX6_init 138 = .ok (.return_, 1) := by decide +kernel
set_option maxRecDepth 20000 in
theorem ggX6_feed_X6_within : GoodIn wsX6_feed wsX6_within := goodIn_r _ [7] (by decide +kernel) (by decide +kernel)
set_option maxRecDepth 20000 in
theorem gX6_feed_X6_within : GoodIn wsX6_feed (va_wsS RX6 57 yX6_within wsX6_within) := goodIn_app (goodIn_of _ (by decide +kernel)) ggX6_feed_X6_within
theorem dX6_feed_0 : decode cX6_feed 0 = .ok (.iload_n 3, 1) := by decide +kernel
theorem dX6_feed_1 : decode cX6_feed 1 = .ok (.iconst 1, 1) := by decide +kernel
theorem dX6_feed_2 : decode cX6_feed 2 = .ok (.bipush 8, 2) := by decide +kernel
theorem dX6_feed_4 : decode cX6_feed 4 = .ok (.invokestatic 57, 3) := by decide +kernel
theorem dX6_feed_7 : decode cX6_feed 7 = .ok (.ifCond .ne 5, 3) := by decide +kernel
theorem dX6_feed_10 : decode cX6_feed 10 = .ok (.iconst (-1), 1) := by decide +kernel
theorem dX6_feed_11 : decode cX6_feed 11 = .ok (.ireturn, 1) := by decide +kernel
theorem dX6_feed_12 : decode cX6_feed 12 = .ok (.aload_n 0, 1) := by decide +kernel
theorem dX6_feed_13 : decode cX6_feed 13 = .ok (.getfield 25, 3) := by decide +kernel
theorem dX6_feed_16 : decode cX6_feed 16 = .ok (.getfield 61, 3) := by decide +kernel
theorem dX6_feed_19 : decode cX6_feed 19 = .ok (.iload_n 3, 1) := by decide +kernel
theorem dX6_feed_20 : decode cX6_feed 20 = .ok (.iadd, 1) := by decide +kernel
theorem dX6_feed_21 : decode cX6_feed 21 = .ok (.sipush 200, 3) := by decide +kernel
theorem dX6_feed_24 : decode cX6_feed 24 = .ok (.if_icmp .le 6, 3) := by decide +kernel
theorem dX6_feed_27 : decode cX6_feed 27 = .ok (.bipush (-2), 2) := by decide +kernel
theorem dX6_feed_29 : decode cX6_feed 29 = .ok (.ireturn, 1) := by decide +kernel
theorem dX6_feed_30 : decode cX6_feed 30 = .ok (.iconst 0, 1) := by decide +kernel
theorem dX6_feed_31 : decode cX6_feed 31 = .ok (.istore 4, 2) := by decide +kernel
theorem dX6_feed_33 : decode cX6_feed 33 = .ok (.iload 4, 2) := by decide +kernel
theorem dX6_feed_35 : decode cX6_feed 35 = .ok (.iload_n 3, 1) := by decide +kernel
theorem dX6_feed_36 : decode cX6_feed 36 = .ok (.if_icmp .ge 46, 3) := by decide +kernel
theorem dX6_feed_39 : decode cX6_feed 39 = .ok (.aload_n 0, 1) := by decide +kernel
theorem dX6_feed_40 : decode cX6_feed 40 = .ok (.getfield 25, 3) := by decide +kernel
theorem dX6_feed_43 : decode cX6_feed 43 = .ok (.getfield 65, 3) := by decide +kernel
theorem dX6_feed_46 : decode cX6_feed 46 = .ok (.aload_n 0, 1) := by decide +kernel
theorem dX6_feed_47 : decode cX6_feed 47 = .ok (.getfield 25, 3) := by decide +kernel
theorem dX6_feed_50 : decode cX6_feed 50 = .ok (.getfield 61, 3) := by decide +kernel
theorem dX6_feed_53 : decode cX6_feed 53 = .ok (.lload_n 1, 1) := by decide +kernel
theorem dX6_feed_54 : decode cX6_feed 54 = .ok (.bipush 8, 2) := by decide +kernel
theorem dX6_feed_56 : decode cX6_feed 56 = .ok (.iload 4, 2) := by decide +kernel
theorem dX6_feed_58 : decode cX6_feed 58 = .ok (.imul, 1) := by decide +kernel
theorem dX6_feed_59 : decode cX6_feed 59 = .ok (.lushr, 1) := by decide +kernel
theorem dX6_feed_60 : decode cX6_feed 60 = .ok (.l2i, 1) := by decide +kernel
theorem dX6_feed_61 : decode cX6_feed 61 = .ok (.i2b, 1) := by decide +kernel
theorem dX6_feed_62 : decode cX6_feed 62 = .ok (.bastore, 1) := by decide +kernel
theorem dX6_feed_63 : decode cX6_feed 63 = .ok (.aload_n 0, 1) := by decide +kernel
theorem dX6_feed_64 : decode cX6_feed 64 = .ok (.getfield 25, 3) := by decide +kernel
theorem dX6_feed_67 : decode cX6_feed 67 = .ok (.dup, 1) := by decide +kernel
theorem dX6_feed_68 : decode cX6_feed 68 = .ok (.getfield 61, 3) := by decide +kernel
theorem dX6_feed_71 : decode cX6_feed 71 = .ok (.iconst 1, 1) := by decide +kernel
theorem dX6_feed_72 : decode cX6_feed 72 = .ok (.iadd, 1) := by decide +kernel
theorem dX6_feed_73 : decode cX6_feed 73 = .ok (.putfield 61, 3) := by decide +kernel
theorem dX6_feed_76 : decode cX6_feed 76 = .ok (.iinc 4 1, 3) := by decide +kernel
theorem dX6_feed_79 : decode cX6_feed 79 = .ok (.goto (-46), 3) := by decide +kernel
theorem dX6_feed_82 : decode cX6_feed 82 = .ok (.aload_n 0, 1) := by decide +kernel
theorem dX6_feed_83 : decode cX6_feed 83 = .ok (.getfield 25, 3) := by decide +kernel
theorem dX6_feed_86 : decode cX6_feed 86 = .ok (.getfield 61, 3) := by decide +kernel
theorem dX6_feed_89 : decode cX6_feed 89 = .ok (.ireturn, 1) := by decide +kernel
set_option maxRecDepth 20000 in
theorem ggX6_feast_X4_clear : GoodIn wsX6_feast wsX4_clear := goodIn_r _ [14, 15, 16, 17, 18, 19, 20, 21, 22, 23, 155, 156, 157, 158, 159, 160, 161, 162, 163, 164] (by decide +kernel) (by decide +kernel)
set_option maxRecDepth 20000 in
theorem gX6_feast_X4_clear : GoodIn wsX6_feast (wsV RX6 69 RX4 yX4_clear wsX4_clear) := goodIn_app (goodIn_of _ (by decide +kernel)) ggX6_feast_X4_clear
set_option maxRecDepth 20000 in
theorem ggX6_feast_X5_readInto : GoodIn wsX6_feast wsX5_readInto := goodIn_r _ [28, 29, 30, 31, 32, 33, 27, 34, 35, 36, 37, 38, 39, 40, 41, 42, 43, 44, 45, 46, 47, 48, 49, 50, 51, 52, 53, 54, 55, 56, 57, 58, 59, 60, 61, 62, 63, 64, 65, 66, 67, 68, 69, 70, 71, 72, 73, 74, 75, 76, 77, 78, 79, 80, 81, 82, 83, 84, 85, 86, 87, 88, 89, 90, 91, 92, 93, 94, 95, 96, 97, 98, 99, 100, 101, 102, 103, 104, 105, 106, 107, 108, 109, 110, 111, 112, 113, 114, 115, 116, 117, 118, 13, 119, 21, 120, 121, 122, 123, 124, 125, 126, 127, 20, 128, 129, 130, 131, 132, 133, 134, 135, 136, 137, 138, 139, 140, 165, 166, 167, 168, 169, 170, 155, 156, 157, 158, 159, 160, 161, 162, 163, 164] (by decide +kernel) (by decide +kernel)
set_option maxRecDepth 20000 in
theorem gX6_feast_X5_readInto : GoodIn wsX6_feast (wsV RX6 75 RX5 yX5_readInto wsX5_readInto) := goodIn_app (goodIn_of _ (by decide +kernel)) ggX6_feast_X5_readInto
set_option maxRecDepth 20000 in
theorem ggX6_feast_X4_copyFrom : GoodIn wsX6_feast wsX4_copyFrom := goodIn_r _ [144, 15, 16, 17, 18, 19, 120, 121, 122, 123, 20, 21, 22, 23, 145, 155, 156, 157, 158, 159, 160, 161, 162, 163, 164] (by decide +kernel) (by decide +kernel)
set_option maxRecDepth 20000 in
theorem gX6_feast_X4_copyFrom : GoodIn wsX6_feast (wsV RX6 82 RX4 yX4_copyFrom wsX4_copyFrom) := goodIn_app (goodIn_of _ (by decide +kernel)) ggX6_feast_X4_copyFrom
theorem dX6_feast_0 : decode cX6_feast 0 = .ok (.aload_n 0, 1) := by decide +kernel
theorem dX6_feast_1 : decode cX6_feast 1 = .ok (.getfield 16, 3) := by decide +kernel
theorem dX6_feast_4 : decode cX6_feast 4 = .ok (.invokevirtual 69, 3) := by decide +kernel
theorem dX6_feast_7 : decode cX6_feast 7 = .ok (.aload_n 0, 1) := by decide +kernel
theorem dX6_feast_8 : decode cX6_feast 8 = .ok (.getfield 16, 3) := by decide +kernel
theorem dX6_feast_11 : decode cX6_feast 11 = .ok (.aload_n 0, 1) := by decide +kernel
theorem dX6_feast_12 : decode cX6_feast 12 = .ok (.getfield 10, 3) := by decide +kernel
theorem dX6_feast_15 : decode cX6_feast 15 = .ok (.getfield 72, 3) := by decide +kernel
theorem dX6_feast_18 : decode cX6_feast 18 = .ok (.putfield 72, 3) := by decide +kernel
theorem dX6_feast_21 : decode cX6_feast 21 = .ok (.aload_n 0, 1) := by decide +kernel
theorem dX6_feast_22 : decode cX6_feast 22 = .ok (.getfield 25, 3) := by decide +kernel
theorem dX6_feast_25 : decode cX6_feast 25 = .ok (.aload_n 0, 1) := by decide +kernel
theorem dX6_feast_26 : decode cX6_feast 26 = .ok (.getfield 16, 3) := by decide +kernel
theorem dX6_feast_29 : decode cX6_feast 29 = .ok (.invokevirtual 75, 3) := by decide +kernel
theorem dX6_feast_32 : decode cX6_feast 32 = .ok (.istore_n 1, 1) := by decide +kernel
theorem dX6_feast_33 : decode cX6_feast 33 = .ok (.aload_n 0, 1) := by decide +kernel
theorem dX6_feast_34 : decode cX6_feast 34 = .ok (.getfield 25, 3) := by decide +kernel
theorem dX6_feast_37 : decode cX6_feast 37 = .ok (.getfield 79, 3) := by decide +kernel
theorem dX6_feast_40 : decode cX6_feast 40 = .ok (.istore_n 2, 1) := by decide +kernel
theorem dX6_feast_41 : decode cX6_feast 41 = .ok (.aload_n 0, 1) := by decide +kernel
theorem dX6_feast_42 : decode cX6_feast 42 = .ok (.getfield 25, 3) := by decide +kernel
theorem dX6_feast_45 : decode cX6_feast 45 = .ok (.iconst 0, 1) := by decide +kernel
theorem dX6_feast_46 : decode cX6_feast 46 = .ok (.putfield 61, 3) := by decide +kernel
theorem dX6_feast_49 : decode cX6_feast 49 = .ok (.iload_n 1, 1) := by decide +kernel
theorem dX6_feast_50 : decode cX6_feast 50 = .ok (.ifCond .ne 8, 3) := by decide +kernel
theorem dX6_feast_53 : decode cX6_feast 53 = .ok (.bipush (-100), 2) := by decide +kernel
theorem dX6_feast_55 : decode cX6_feast 55 = .ok (.iload_n 2, 1) := by decide +kernel
theorem dX6_feast_56 : decode cX6_feast 56 = .ok (.isub, 1) := by decide +kernel
theorem dX6_feast_57 : decode cX6_feast 57 = .ok (.ireturn, 1) := by decide +kernel
theorem dX6_feast_58 : decode cX6_feast 58 = .ok (.aload_n 0, 1) := by decide +kernel
theorem dX6_feast_59 : decode cX6_feast 59 = .ok (.getfield 10, 3) := by decide +kernel
theorem dX6_feast_62 : decode cX6_feast 62 = .ok (.aload_n 0, 1) := by decide +kernel
theorem dX6_feast_63 : decode cX6_feast 63 = .ok (.getfield 16, 3) := by decide +kernel
theorem dX6_feast_66 : decode cX6_feast 66 = .ok (.invokevirtual 82, 3) := by decide +kernel
theorem dX6_feast_69 : decode cX6_feast 69 = .ok (.aload_n 0, 1) := by decide +kernel
theorem dX6_feast_70 : decode cX6_feast 70 = .ok (.getfield 32, 3) := by decide +kernel
theorem dX6_feast_73 : decode cX6_feast 73 = .ok (.iconst 0, 1) := by decide +kernel
theorem dX6_feast_74 : decode cX6_feast 74 = .ok (.putfield 86, 3) := by decide +kernel
theorem dX6_feast_77 : decode cX6_feast 77 = .ok (.aload_n 0, 1) := by decide +kernel
theorem dX6_feast_78 : decode cX6_feast 78 = .ok (.getfield 10, 3) := by decide +kernel
theorem dX6_feast_81 : decode cX6_feast 81 = .ok (.getfield 89, 3) := by decide +kernel
theorem dX6_feast_84 : decode cX6_feast 84 = .ok (.ireturn, 1) := by decide +kernel
set_option maxRecDepth 20000 in
theorem ggX6_set_X6_within : GoodIn wsX6_set wsX6_within := goodIn_r _ [7] (by decide +kernel) (by decide +kernel)
set_option maxRecDepth 20000 in
theorem gX6_set_X6_within : GoodIn wsX6_set (va_wsS RX6 57 yX6_within wsX6_within) := goodIn_app (goodIn_of _ (by decide +kernel)) ggX6_set_X6_within
theorem dX6_set_0 : decode cX6_set 0 = .ok (.iload_n 1, 1) := by decide +kernel
theorem dX6_set_1 : decode cX6_set 1 = .ok (.iconst 0, 1) := by decide +kernel
theorem dX6_set_2 : decode cX6_set 2 = .ok (.iconst 3, 1) := by decide +kernel
theorem dX6_set_3 : decode cX6_set 3 = .ok (.invokestatic 57, 3) := by decide +kernel
theorem dX6_set_6 : decode cX6_set 6 = .ok (.ifCond .eq 16, 3) := by decide +kernel
theorem dX6_set_9 : decode cX6_set 9 = .ok (.iload_n 2, 1) := by decide +kernel
theorem dX6_set_10 : decode cX6_set 10 = .ok (.iconst 0, 1) := by decide +kernel
theorem dX6_set_11 : decode cX6_set 11 = .ok (.getstatic 90, 3) := by decide +kernel
theorem dX6_set_14 : decode cX6_set 14 = .ok (.iload_n 1, 1) := by decide +kernel
theorem dX6_set_15 : decode cX6_set 15 = .ok (.iaload, 1) := by decide +kernel
theorem dX6_set_16 : decode cX6_set 16 = .ok (.invokestatic 57, 3) := by decide +kernel
theorem dX6_set_19 : decode cX6_set 19 = .ok (.ifCond .ne 5, 3) := by decide +kernel
theorem dX6_set_22 : decode cX6_set 22 = .ok (.iconst (-1), 1) := by decide +kernel
theorem dX6_set_23 : decode cX6_set 23 = .ok (.ireturn, 1) := by decide +kernel
theorem dX6_set_24 : decode cX6_set 24 = .ok (.aload_n 0, 1) := by decide +kernel
theorem dX6_set_25 : decode cX6_set 25 = .ok (.getfield 10, 3) := by decide +kernel
theorem dX6_set_28 : decode cX6_set 28 = .ok (.getfield 94, 3) := by decide +kernel
theorem dX6_set_31 : decode cX6_set 31 = .ok (.iload_n 1, 1) := by decide +kernel
theorem dX6_set_32 : decode cX6_set 32 = .ok (.iaload, 1) := by decide +kernel
theorem dX6_set_33 : decode cX6_set 33 = .ok (.istore_n 3, 1) := by decide +kernel
theorem dX6_set_34 : decode cX6_set 34 = .ok (.aload_n 0, 1) := by decide +kernel
theorem dX6_set_35 : decode cX6_set 35 = .ok (.getfield 10, 3) := by decide +kernel
theorem dX6_set_38 : decode cX6_set 38 = .ok (.getfield 94, 3) := by decide +kernel
theorem dX6_set_41 : decode cX6_set 41 = .ok (.iload_n 1, 1) := by decide +kernel
theorem dX6_set_42 : decode cX6_set 42 = .ok (.iload_n 2, 1) := by decide +kernel
theorem dX6_set_43 : decode cX6_set 43 = .ok (.iastore, 1) := by decide +kernel
theorem dX6_set_44 : decode cX6_set 44 = .ok (.iload_n 3, 1) := by decide +kernel
theorem dX6_set_45 : decode cX6_set 45 = .ok (.ireturn, 1) := by decide +kernel
set_option maxRecDepth 20000 in
theorem ggX6_lawOf_X6_within : GoodIn wsX6_lawOf wsX6_within := goodIn_r _ [6] (by decide +kernel) (by decide +kernel)
set_option maxRecDepth 20000 in
theorem gX6_lawOf_X6_within : GoodIn wsX6_lawOf (va_wsS RX6 57 yX6_within wsX6_within) := goodIn_app (goodIn_of _ (by decide +kernel)) ggX6_lawOf_X6_within
theorem dX6_lawOf_0 : decode cX6_lawOf 0 = .ok (.iload_n 1, 1) := by decide +kernel
theorem dX6_lawOf_1 : decode cX6_lawOf 1 = .ok (.iconst 0, 1) := by decide +kernel
theorem dX6_lawOf_2 : decode cX6_lawOf 2 = .ok (.iconst 3, 1) := by decide +kernel
theorem dX6_lawOf_3 : decode cX6_lawOf 3 = .ok (.invokestatic 57, 3) := by decide +kernel
theorem dX6_lawOf_6 : decode cX6_lawOf 6 = .ok (.ifCond .eq 15, 3) := by decide +kernel
theorem dX6_lawOf_9 : decode cX6_lawOf 9 = .ok (.aload_n 0, 1) := by decide +kernel
theorem dX6_lawOf_10 : decode cX6_lawOf 10 = .ok (.getfield 10, 3) := by decide +kernel
theorem dX6_lawOf_13 : decode cX6_lawOf 13 = .ok (.getfield 94, 3) := by decide +kernel
theorem dX6_lawOf_16 : decode cX6_lawOf 16 = .ok (.iload_n 1, 1) := by decide +kernel
theorem dX6_lawOf_17 : decode cX6_lawOf 17 = .ok (.iaload, 1) := by decide +kernel
theorem dX6_lawOf_18 : decode cX6_lawOf 18 = .ok (.goto 4, 3) := by decide +kernel
theorem dX6_lawOf_21 : decode cX6_lawOf 21 = .ok (.iconst (-1), 1) := by decide +kernel
theorem dX6_lawOf_22 : decode cX6_lawOf 22 = .ok (.ireturn, 1) := by decide +kernel
set_option maxRecDepth 20000 in
theorem ggX6_guest_X6_within : GoodIn wsX6_guest wsX6_within := goodIn_r _ [6] (by decide +kernel) (by decide +kernel)
set_option maxRecDepth 20000 in
theorem gX6_guest_X6_within : GoodIn wsX6_guest (va_wsS RX6 57 yX6_within wsX6_within) := goodIn_app (goodIn_of _ (by decide +kernel)) ggX6_guest_X6_within
set_option maxRecDepth 20000 in
theorem ggX6_guest_X4_seat : GoodIn wsX6_guest wsX4_seat := goodIn_r _ [11, 12, 13, 14, 15, 16, 17, 18, 19, 10, 20, 21, 31, 32, 33, 34, 35, 36, 37, 38, 39, 40] (by decide +kernel) (by decide +kernel)
set_option maxRecDepth 20000 in
theorem gX6_guest_X4_seat : GoodIn wsX6_guest (wsV RX6 97 RX4 yX4_seat wsX4_seat) := goodIn_app (goodIn_of _ (by decide +kernel)) ggX6_guest_X4_seat
theorem dX6_guest_0 : decode cX6_guest 0 = .ok (.iload_n 1, 1) := by decide +kernel
theorem dX6_guest_1 : decode cX6_guest 1 = .ok (.iconst 0, 1) := by decide +kernel
theorem dX6_guest_2 : decode cX6_guest 2 = .ok (.iconst 5, 1) := by decide +kernel
theorem dX6_guest_3 : decode cX6_guest 3 = .ok (.invokestatic 57, 3) := by decide +kernel
theorem dX6_guest_6 : decode cX6_guest 6 = .ok (.ifCond .eq 13, 3) := by decide +kernel
theorem dX6_guest_9 : decode cX6_guest 9 = .ok (.iload_n 2, 1) := by decide +kernel
theorem dX6_guest_10 : decode cX6_guest 10 = .ok (.iconst 0, 1) := by decide +kernel
theorem dX6_guest_11 : decode cX6_guest 11 = .ok (.bipush 7, 2) := by decide +kernel
theorem dX6_guest_13 : decode cX6_guest 13 = .ok (.invokestatic 57, 3) := by decide +kernel
theorem dX6_guest_16 : decode cX6_guest 16 = .ok (.ifCond .ne 5, 3) := by decide +kernel
theorem dX6_guest_19 : decode cX6_guest 19 = .ok (.iconst (-1), 1) := by decide +kernel
theorem dX6_guest_20 : decode cX6_guest 20 = .ok (.ireturn, 1) := by decide +kernel
theorem dX6_guest_21 : decode cX6_guest 21 = .ok (.aload_n 0, 1) := by decide +kernel
theorem dX6_guest_22 : decode cX6_guest 22 = .ok (.getfield 10, 3) := by decide +kernel
theorem dX6_guest_25 : decode cX6_guest 25 = .ok (.getfield 89, 3) := by decide +kernel
theorem dX6_guest_28 : decode cX6_guest 28 = .ok (.bipush 8, 2) := by decide +kernel
theorem dX6_guest_30 : decode cX6_guest 30 = .ok (.if_icmp .ge 15, 3) := by decide +kernel
theorem dX6_guest_33 : decode cX6_guest 33 = .ok (.aload_n 0, 1) := by decide +kernel
theorem dX6_guest_34 : decode cX6_guest 34 = .ok (.getfield 10, 3) := by decide +kernel
theorem dX6_guest_37 : decode cX6_guest 37 = .ok (.iload_n 1, 1) := by decide +kernel
theorem dX6_guest_38 : decode cX6_guest 38 = .ok (.iload_n 2, 1) := by decide +kernel
theorem dX6_guest_39 : decode cX6_guest 39 = .ok (.invokevirtual 97, 3) := by decide +kernel
theorem dX6_guest_42 : decode cX6_guest 42 = .ok (.goto 5, 3) := by decide +kernel
theorem dX6_guest_45 : decode cX6_guest 45 = .ok (.bipush (-2), 2) := by decide +kernel
theorem dX6_guest_47 : decode cX6_guest 47 = .ok (.ireturn, 1) := by decide +kernel
set_option maxRecDepth 20000 in
theorem ggX6_of_X4_has : GoodIn wsX6_of wsX4_has := goodIn_r _ [10, 11, 12, 13, 14, 29, 30, 31, 32, 33, 34, 35, 36, 37, 38] (by decide +kernel) (by decide +kernel)
set_option maxRecDepth 20000 in
theorem gX6_of_X4_has : GoodIn wsX6_of (wsV RX6 101 RX4 yX4_has wsX4_has) := goodIn_app (goodIn_of _ (by decide +kernel)) ggX6_of_X4_has
set_option maxRecDepth 20000 in
theorem ggX6_of_X4_isDrowned : GoodIn wsX6_of wsX4_isDrowned := goodIn_r _ [18, 19, 29, 30, 31, 32, 33, 34, 35, 36, 37, 38] (by decide +kernel) (by decide +kernel)
set_option maxRecDepth 20000 in
theorem gX6_of_X4_isDrowned : GoodIn wsX6_of (wsV RX6 117 RX4 yX4_isDrowned wsX4_isDrowned) := goodIn_app (goodIn_of _ (by decide +kernel)) ggX6_of_X4_isDrowned
theorem dX6_of_0 : decode cX6_of 0 = .ok (.aload_n 0, 1) := by decide +kernel
theorem dX6_of_1 : decode cX6_of 1 = .ok (.getfield 10, 3) := by decide +kernel
theorem dX6_of_4 : decode cX6_of 4 = .ok (.iload_n 1, 1) := by decide +kernel
theorem dX6_of_5 : decode cX6_of 5 = .ok (.invokevirtual 101, 3) := by decide +kernel
theorem dX6_of_8 : decode cX6_of 8 = .ok (.ifCond .ne 5, 3) := by decide +kernel
theorem dX6_of_11 : decode cX6_of 11 = .ok (.iconst (-1), 1) := by decide +kernel
theorem dX6_of_12 : decode cX6_of 12 = .ok (.ireturn, 1) := by decide +kernel
theorem dX6_of_13 : decode cX6_of 13 = .ok (.iload_n 2, 1) := by decide +kernel
theorem dX6_of_14 : decode cX6_of 14 = .ok (.tableswitch 91 0 4 #[34, 44, 54, 64, 74], 34) := by decide +kernel
theorem dX6_of_48 : decode cX6_of 48 = .ok (.aload_n 0, 1) := by decide +kernel
theorem dX6_of_49 : decode cX6_of 49 = .ok (.getfield 10, 3) := by decide +kernel
theorem dX6_of_52 : decode cX6_of 52 = .ok (.getfield 105, 3) := by decide +kernel
theorem dX6_of_55 : decode cX6_of 55 = .ok (.iload_n 1, 1) := by decide +kernel
theorem dX6_of_56 : decode cX6_of 56 = .ok (.iaload, 1) := by decide +kernel
theorem dX6_of_57 : decode cX6_of 57 = .ok (.ireturn, 1) := by decide +kernel
theorem dX6_of_58 : decode cX6_of 58 = .ok (.aload_n 0, 1) := by decide +kernel
theorem dX6_of_59 : decode cX6_of 59 = .ok (.getfield 10, 3) := by decide +kernel
theorem dX6_of_62 : decode cX6_of 62 = .ok (.getfield 108, 3) := by decide +kernel
theorem dX6_of_65 : decode cX6_of 65 = .ok (.iload_n 1, 1) := by decide +kernel
theorem dX6_of_66 : decode cX6_of 66 = .ok (.iaload, 1) := by decide +kernel
theorem dX6_of_67 : decode cX6_of 67 = .ok (.ireturn, 1) := by decide +kernel
theorem dX6_of_68 : decode cX6_of 68 = .ok (.aload_n 0, 1) := by decide +kernel
theorem dX6_of_69 : decode cX6_of 69 = .ok (.getfield 10, 3) := by decide +kernel
theorem dX6_of_72 : decode cX6_of 72 = .ok (.getfield 111, 3) := by decide +kernel
theorem dX6_of_75 : decode cX6_of 75 = .ok (.iload_n 1, 1) := by decide +kernel
theorem dX6_of_76 : decode cX6_of 76 = .ok (.iaload, 1) := by decide +kernel
theorem dX6_of_77 : decode cX6_of 77 = .ok (.ireturn, 1) := by decide +kernel
theorem dX6_of_78 : decode cX6_of 78 = .ok (.aload_n 0, 1) := by decide +kernel
theorem dX6_of_79 : decode cX6_of 79 = .ok (.getfield 10, 3) := by decide +kernel
theorem dX6_of_82 : decode cX6_of 82 = .ok (.getfield 114, 3) := by decide +kernel
theorem dX6_of_85 : decode cX6_of 85 = .ok (.iload_n 1, 1) := by decide +kernel
theorem dX6_of_86 : decode cX6_of 86 = .ok (.iaload, 1) := by decide +kernel
theorem dX6_of_87 : decode cX6_of 87 = .ok (.ireturn, 1) := by decide +kernel
theorem dX6_of_88 : decode cX6_of 88 = .ok (.aload_n 0, 1) := by decide +kernel
theorem dX6_of_89 : decode cX6_of 89 = .ok (.getfield 10, 3) := by decide +kernel
theorem dX6_of_92 : decode cX6_of 92 = .ok (.iload_n 1, 1) := by decide +kernel
theorem dX6_of_93 : decode cX6_of 93 = .ok (.invokevirtual 117, 3) := by decide +kernel
theorem dX6_of_96 : decode cX6_of 96 = .ok (.ifCond .eq 7, 3) := by decide +kernel
theorem dX6_of_99 : decode cX6_of 99 = .ok (.iconst 1, 1) := by decide +kernel
theorem dX6_of_100 : decode cX6_of 100 = .ok (.goto 4, 3) := by decide +kernel
theorem dX6_of_103 : decode cX6_of 103 = .ok (.iconst 0, 1) := by decide +kernel
theorem dX6_of_104 : decode cX6_of 104 = .ok (.ireturn, 1) := by decide +kernel
theorem dX6_of_105 : decode cX6_of 105 = .ok (.iconst (-1), 1) := by decide +kernel
theorem dX6_of_106 : decode cX6_of 106 = .ok (.ireturn, 1) := by decide +kernel
set_option maxRecDepth 20000 in
theorem ggX6_does_X4_has : GoodIn wsX6_does wsX4_has := goodIn_r _ [6, 7, 8, 9, 10, 41, 42, 43, 44, 45, 46, 47, 48, 49, 50] (by decide +kernel) (by decide +kernel)
set_option maxRecDepth 20000 in
theorem gX6_does_X4_has : GoodIn wsX6_does (wsV RX6 101 RX4 yX4_has wsX4_has) := goodIn_app (goodIn_of _ (by decide +kernel)) ggX6_does_X4_has
set_option maxRecDepth 20000 in
theorem ggX6_does_X4_takes : GoodIn wsX6_does wsX4_takes := goodIn_r _ [14, 15, 16, 17, 18, 19, 20, 5, 21, 22, 41, 42, 43, 44, 45, 46, 47, 48, 49, 50] (by decide +kernel) (by decide +kernel)
set_option maxRecDepth 20000 in
theorem gX6_does_X4_takes : GoodIn wsX6_does (wsV RX6 120 RX4 yX4_takes wsX4_takes) := goodIn_app (goodIn_of _ (by decide +kernel)) ggX6_does_X4_takes
set_option maxRecDepth 20000 in
theorem ggX6_does_X4_needs : GoodIn wsX6_does wsX4_needs := goodIn_r _ [26, 15, 16, 27, 41, 42, 43, 44, 45, 46, 47, 48, 49, 50] (by decide +kernel) (by decide +kernel)
set_option maxRecDepth 20000 in
theorem gX6_does_X4_needs : GoodIn wsX6_does (wsV RX6 124 RX4 yX4_needs wsX4_needs) := goodIn_app (goodIn_of _ (by decide +kernel)) ggX6_does_X4_needs
set_option maxRecDepth 20000 in
theorem ggX6_does_X4_costs : GoodIn wsX6_does wsX4_costs := goodIn_r _ [31, 15, 16, 41, 42, 43, 44, 45, 46, 47, 48, 49, 50] (by decide +kernel) (by decide +kernel)
set_option maxRecDepth 20000 in
theorem gX6_does_X4_costs : GoodIn wsX6_does (wsV RX6 127 RX4 yX4_costs wsX4_costs) := goodIn_app (goodIn_of _ (by decide +kernel)) ggX6_does_X4_costs
theorem dX6_does_0 : decode cX6_does 0 = .ok (.aload_n 0, 1) := by decide +kernel
theorem dX6_does_1 : decode cX6_does 1 = .ok (.getfield 10, 3) := by decide +kernel
theorem dX6_does_4 : decode cX6_does 4 = .ok (.iload_n 1, 1) := by decide +kernel
theorem dX6_does_5 : decode cX6_does 5 = .ok (.invokevirtual 101, 3) := by decide +kernel
theorem dX6_does_8 : decode cX6_does 8 = .ok (.ifCond .ne 5, 3) := by decide +kernel
theorem dX6_does_11 : decode cX6_does 11 = .ok (.iconst (-1), 1) := by decide +kernel
theorem dX6_does_12 : decode cX6_does 12 = .ok (.ireturn, 1) := by decide +kernel
theorem dX6_does_13 : decode cX6_does 13 = .ok (.iload_n 2, 1) := by decide +kernel
theorem dX6_does_14 : decode cX6_does 14 = .ok (.tableswitch 65 0 2 #[26, 39, 52], 26) := by decide +kernel
theorem dX6_does_40 : decode cX6_does 40 = .ok (.sipush 1000, 3) := by decide +kernel
theorem dX6_does_43 : decode cX6_does 43 = .ok (.aload_n 0, 1) := by decide +kernel
theorem dX6_does_44 : decode cX6_does 44 = .ok (.getfield 10, 3) := by decide +kernel
theorem dX6_does_47 : decode cX6_does 47 = .ok (.iload_n 1, 1) := by decide +kernel
theorem dX6_does_48 : decode cX6_does 48 = .ok (.invokevirtual 120, 3) := by decide +kernel
theorem dX6_does_51 : decode cX6_does 51 = .ok (.iadd, 1) := by decide +kernel
theorem dX6_does_52 : decode cX6_does 52 = .ok (.ireturn, 1) := by decide +kernel
theorem dX6_does_53 : decode cX6_does 53 = .ok (.sipush 1000, 3) := by decide +kernel
theorem dX6_does_56 : decode cX6_does 56 = .ok (.aload_n 0, 1) := by decide +kernel
theorem dX6_does_57 : decode cX6_does 57 = .ok (.getfield 10, 3) := by decide +kernel
theorem dX6_does_60 : decode cX6_does 60 = .ok (.iload_n 1, 1) := by decide +kernel
theorem dX6_does_61 : decode cX6_does 61 = .ok (.invokevirtual 124, 3) := by decide +kernel
theorem dX6_does_64 : decode cX6_does 64 = .ok (.iadd, 1) := by decide +kernel
theorem dX6_does_65 : decode cX6_does 65 = .ok (.ireturn, 1) := by decide +kernel
theorem dX6_does_66 : decode cX6_does 66 = .ok (.sipush 1000, 3) := by decide +kernel
theorem dX6_does_69 : decode cX6_does 69 = .ok (.aload_n 0, 1) := by decide +kernel
theorem dX6_does_70 : decode cX6_does 70 = .ok (.getfield 10, 3) := by decide +kernel
theorem dX6_does_73 : decode cX6_does 73 = .ok (.iload_n 1, 1) := by decide +kernel
theorem dX6_does_74 : decode cX6_does 74 = .ok (.invokevirtual 127, 3) := by decide +kernel
theorem dX6_does_77 : decode cX6_does 77 = .ok (.iadd, 1) := by decide +kernel
theorem dX6_does_78 : decode cX6_does 78 = .ok (.ireturn, 1) := by decide +kernel
theorem dX6_does_79 : decode cX6_does 79 = .ok (.iconst (-1), 1) := by decide +kernel
theorem dX6_does_80 : decode cX6_does 80 = .ok (.ireturn, 1) := by decide +kernel
set_option maxRecDepth 20000 in
theorem ggX6_mind_X4_has : GoodIn wsX6_mind wsX4_has := goodIn_r _ [7, 8, 9, 10, 11, 22, 23, 24, 25, 26, 27, 28, 29, 30, 31] (by decide +kernel) (by decide +kernel)
set_option maxRecDepth 20000 in
theorem gX6_mind_X4_has : GoodIn wsX6_mind (wsV RX6 101 RX4 yX4_has wsX4_has) := goodIn_app (goodIn_of _ (by decide +kernel)) ggX6_mind_X4_has
set_option maxRecDepth 20000 in
theorem ggX6_mind_X6_within : GoodIn wsX6_mind wsX6_within := goodIn_r _ [11] (by decide +kernel) (by decide +kernel)
set_option maxRecDepth 20000 in
theorem gX6_mind_X6_within : GoodIn wsX6_mind (va_wsS RX6 57 yX6_within wsX6_within) := goodIn_app (goodIn_of _ (by decide +kernel)) ggX6_mind_X6_within
theorem dX6_mind_0 : decode cX6_mind 0 = .ok (.aload_n 0, 1) := by decide +kernel
theorem dX6_mind_1 : decode cX6_mind 1 = .ok (.getfield 10, 3) := by decide +kernel
theorem dX6_mind_4 : decode cX6_mind 4 = .ok (.iload_n 1, 1) := by decide +kernel
theorem dX6_mind_5 : decode cX6_mind 5 = .ok (.invokevirtual 101, 3) := by decide +kernel
theorem dX6_mind_8 : decode cX6_mind 8 = .ok (.ifCond .eq 12, 3) := by decide +kernel
theorem dX6_mind_11 : decode cX6_mind 11 = .ok (.iload_n 2, 1) := by decide +kernel
theorem dX6_mind_12 : decode cX6_mind 12 = .ok (.iconst 0, 1) := by decide +kernel
theorem dX6_mind_13 : decode cX6_mind 13 = .ok (.iconst 5, 1) := by decide +kernel
theorem dX6_mind_14 : decode cX6_mind 14 = .ok (.invokestatic 57, 3) := by decide +kernel
theorem dX6_mind_17 : decode cX6_mind 17 = .ok (.ifCond .ne 5, 3) := by decide +kernel
theorem dX6_mind_20 : decode cX6_mind 20 = .ok (.iconst (-1), 1) := by decide +kernel
theorem dX6_mind_21 : decode cX6_mind 21 = .ok (.ireturn, 1) := by decide +kernel
theorem dX6_mind_22 : decode cX6_mind 22 = .ok (.aload_n 0, 1) := by decide +kernel
theorem dX6_mind_23 : decode cX6_mind 23 = .ok (.getfield 10, 3) := by decide +kernel
theorem dX6_mind_26 : decode cX6_mind 26 = .ok (.getfield 105, 3) := by decide +kernel
theorem dX6_mind_29 : decode cX6_mind 29 = .ok (.iload_n 1, 1) := by decide +kernel
theorem dX6_mind_30 : decode cX6_mind 30 = .ok (.iaload, 1) := by decide +kernel
theorem dX6_mind_31 : decode cX6_mind 31 = .ok (.istore_n 3, 1) := by decide +kernel
theorem dX6_mind_32 : decode cX6_mind 32 = .ok (.aload_n 0, 1) := by decide +kernel
theorem dX6_mind_33 : decode cX6_mind 33 = .ok (.getfield 10, 3) := by decide +kernel
theorem dX6_mind_36 : decode cX6_mind 36 = .ok (.getfield 105, 3) := by decide +kernel
theorem dX6_mind_39 : decode cX6_mind 39 = .ok (.iload_n 1, 1) := by decide +kernel
theorem dX6_mind_40 : decode cX6_mind 40 = .ok (.iload_n 2, 1) := by decide +kernel
theorem dX6_mind_41 : decode cX6_mind 41 = .ok (.iastore, 1) := by decide +kernel
theorem dX6_mind_42 : decode cX6_mind 42 = .ok (.iload_n 3, 1) := by decide +kernel
theorem dX6_mind_43 : decode cX6_mind 43 = .ok (.ireturn, 1) := by decide +kernel
set_option maxRecDepth 20000 in
theorem ggX6_give_X4_has : GoodIn wsX6_give wsX4_has := goodIn_r _ [7, 8, 9, 10, 11, 22, 23, 24, 25, 26, 27, 28, 29, 30, 31] (by decide +kernel) (by decide +kernel)
set_option maxRecDepth 20000 in
theorem gX6_give_X4_has : GoodIn wsX6_give (wsV RX6 101 RX4 yX4_has wsX4_has) := goodIn_app (goodIn_of _ (by decide +kernel)) ggX6_give_X4_has
set_option maxRecDepth 20000 in
theorem ggX6_give_X6_within : GoodIn wsX6_give wsX6_within := goodIn_r _ [11] (by decide +kernel) (by decide +kernel)
set_option maxRecDepth 20000 in
theorem gX6_give_X6_within : GoodIn wsX6_give (va_wsS RX6 57 yX6_within wsX6_within) := goodIn_app (goodIn_of _ (by decide +kernel)) ggX6_give_X6_within
theorem dX6_give_0 : decode cX6_give 0 = .ok (.aload_n 0, 1) := by decide +kernel
theorem dX6_give_1 : decode cX6_give 1 = .ok (.getfield 10, 3) := by decide +kernel
theorem dX6_give_4 : decode cX6_give 4 = .ok (.iload_n 1, 1) := by decide +kernel
theorem dX6_give_5 : decode cX6_give 5 = .ok (.invokevirtual 101, 3) := by decide +kernel
theorem dX6_give_8 : decode cX6_give 8 = .ok (.ifCond .eq 13, 3) := by decide +kernel
theorem dX6_give_11 : decode cX6_give 11 = .ok (.iload_n 2, 1) := by decide +kernel
theorem dX6_give_12 : decode cX6_give 12 = .ok (.iconst 0, 1) := by decide +kernel
theorem dX6_give_13 : decode cX6_give 13 = .ok (.bipush 7, 2) := by decide +kernel
theorem dX6_give_15 : decode cX6_give 15 = .ok (.invokestatic 57, 3) := by decide +kernel
theorem dX6_give_18 : decode cX6_give 18 = .ok (.ifCond .ne 5, 3) := by decide +kernel
theorem dX6_give_21 : decode cX6_give 21 = .ok (.iconst (-1), 1) := by decide +kernel
theorem dX6_give_22 : decode cX6_give 22 = .ok (.ireturn, 1) := by decide +kernel
theorem dX6_give_23 : decode cX6_give 23 = .ok (.aload_n 0, 1) := by decide +kernel
theorem dX6_give_24 : decode cX6_give 24 = .ok (.getfield 10, 3) := by decide +kernel
theorem dX6_give_27 : decode cX6_give 27 = .ok (.getfield 108, 3) := by decide +kernel
theorem dX6_give_30 : decode cX6_give 30 = .ok (.iload_n 1, 1) := by decide +kernel
theorem dX6_give_31 : decode cX6_give 31 = .ok (.iaload, 1) := by decide +kernel
theorem dX6_give_32 : decode cX6_give 32 = .ok (.istore_n 3, 1) := by decide +kernel
theorem dX6_give_33 : decode cX6_give 33 = .ok (.aload_n 0, 1) := by decide +kernel
theorem dX6_give_34 : decode cX6_give 34 = .ok (.getfield 10, 3) := by decide +kernel
theorem dX6_give_37 : decode cX6_give 37 = .ok (.getfield 108, 3) := by decide +kernel
theorem dX6_give_40 : decode cX6_give 40 = .ok (.iload_n 1, 1) := by decide +kernel
theorem dX6_give_41 : decode cX6_give 41 = .ok (.iload_n 2, 1) := by decide +kernel
theorem dX6_give_42 : decode cX6_give 42 = .ok (.iastore, 1) := by decide +kernel
theorem dX6_give_43 : decode cX6_give 43 = .ok (.iload_n 3, 1) := by decide +kernel
theorem dX6_give_44 : decode cX6_give 44 = .ok (.ireturn, 1) := by decide +kernel
set_option maxRecDepth 20000 in
theorem ggX6_sink_X4_has : GoodIn wsX6_sink wsX4_has := goodIn_r _ [7, 8, 9, 10, 11, 31, 32, 33, 34, 35, 36, 37, 38, 39, 40] (by decide +kernel) (by decide +kernel)
set_option maxRecDepth 20000 in
theorem gX6_sink_X4_has : GoodIn wsX6_sink (wsV RX6 101 RX4 yX4_has wsX4_has) := goodIn_app (goodIn_of _ (by decide +kernel)) ggX6_sink_X4_has
set_option maxRecDepth 20000 in
theorem ggX6_sink_X6_within : GoodIn wsX6_sink wsX6_within := goodIn_r _ [11] (by decide +kernel) (by decide +kernel)
set_option maxRecDepth 20000 in
theorem gX6_sink_X6_within : GoodIn wsX6_sink (va_wsS RX6 57 yX6_within wsX6_within) := goodIn_app (goodIn_of _ (by decide +kernel)) ggX6_sink_X6_within
set_option maxRecDepth 20000 in
theorem ggX6_sink_X4_isDrowned : GoodIn wsX6_sink wsX4_isDrowned := goodIn_r _ [16, 17, 31, 32, 33, 34, 35, 36, 37, 38, 39, 40] (by decide +kernel) (by decide +kernel)
set_option maxRecDepth 20000 in
theorem gX6_sink_X4_isDrowned : GoodIn wsX6_sink (wsV RX6 117 RX4 yX4_isDrowned wsX4_isDrowned) := goodIn_app (goodIn_of _ (by decide +kernel)) ggX6_sink_X4_isDrowned
set_option maxRecDepth 20000 in
theorem ggX6_sink_X4_drown : GoodIn wsX6_sink wsX4_drown := goodIn_r _ [21, 17, 31, 32, 33, 34, 35, 36, 37, 38, 39, 40] (by decide +kernel) (by decide +kernel)
set_option maxRecDepth 20000 in
theorem gX6_sink_X4_drown : GoodIn wsX6_sink (wsV RX6 130 RX4 yX4_drown wsX4_drown) := goodIn_app (goodIn_of _ (by decide +kernel)) ggX6_sink_X4_drown
theorem dX6_sink_0 : decode cX6_sink 0 = .ok (.aload_n 0, 1) := by decide +kernel
theorem dX6_sink_1 : decode cX6_sink 1 = .ok (.getfield 10, 3) := by decide +kernel
theorem dX6_sink_4 : decode cX6_sink 4 = .ok (.iload_n 1, 1) := by decide +kernel
theorem dX6_sink_5 : decode cX6_sink 5 = .ok (.invokevirtual 101, 3) := by decide +kernel
theorem dX6_sink_8 : decode cX6_sink 8 = .ok (.ifCond .ne 5, 3) := by decide +kernel
theorem dX6_sink_11 : decode cX6_sink 11 = .ok (.iconst (-1), 1) := by decide +kernel
theorem dX6_sink_12 : decode cX6_sink 12 = .ok (.ireturn, 1) := by decide +kernel
theorem dX6_sink_13 : decode cX6_sink 13 = .ok (.iload_n 2, 1) := by decide +kernel
theorem dX6_sink_14 : decode cX6_sink 14 = .ok (.ifCond .ne 37, 3) := by decide +kernel
theorem dX6_sink_17 : decode cX6_sink 17 = .ok (.iload_n 3, 1) := by decide +kernel
theorem dX6_sink_18 : decode cX6_sink 18 = .ok (.iconst 0, 1) := by decide +kernel
theorem dX6_sink_19 : decode cX6_sink 19 = .ok (.bipush 99, 2) := by decide +kernel
theorem dX6_sink_21 : decode cX6_sink 21 = .ok (.invokestatic 57, 3) := by decide +kernel
theorem dX6_sink_24 : decode cX6_sink 24 = .ok (.ifCond .eq 27, 3) := by decide +kernel
theorem dX6_sink_27 : decode cX6_sink 27 = .ok (.aload_n 0, 1) := by decide +kernel
theorem dX6_sink_28 : decode cX6_sink 28 = .ok (.getfield 10, 3) := by decide +kernel
theorem dX6_sink_31 : decode cX6_sink 31 = .ok (.getfield 111, 3) := by decide +kernel
theorem dX6_sink_34 : decode cX6_sink 34 = .ok (.iload_n 1, 1) := by decide +kernel
theorem dX6_sink_35 : decode cX6_sink 35 = .ok (.iaload, 1) := by decide +kernel
theorem dX6_sink_36 : decode cX6_sink 36 = .ok (.istore 4, 2) := by decide +kernel
theorem dX6_sink_38 : decode cX6_sink 38 = .ok (.aload_n 0, 1) := by decide +kernel
theorem dX6_sink_39 : decode cX6_sink 39 = .ok (.getfield 10, 3) := by decide +kernel
theorem dX6_sink_42 : decode cX6_sink 42 = .ok (.getfield 111, 3) := by decide +kernel
theorem dX6_sink_45 : decode cX6_sink 45 = .ok (.iload_n 1, 1) := by decide +kernel
theorem dX6_sink_46 : decode cX6_sink 46 = .ok (.iload_n 3, 1) := by decide +kernel
theorem dX6_sink_47 : decode cX6_sink 47 = .ok (.iastore, 1) := by decide +kernel
theorem dX6_sink_48 : decode cX6_sink 48 = .ok (.iload 4, 2) := by decide +kernel
theorem dX6_sink_50 : decode cX6_sink 50 = .ok (.ireturn, 1) := by decide +kernel
theorem dX6_sink_51 : decode cX6_sink 51 = .ok (.iload_n 2, 1) := by decide +kernel
theorem dX6_sink_52 : decode cX6_sink 52 = .ok (.iconst 1, 1) := by decide +kernel
theorem dX6_sink_53 : decode cX6_sink 53 = .ok (.if_icmp .ne 51, 3) := by decide +kernel
theorem dX6_sink_56 : decode cX6_sink 56 = .ok (.iload_n 3, 1) := by decide +kernel
theorem dX6_sink_57 : decode cX6_sink 57 = .ok (.iconst 0, 1) := by decide +kernel
theorem dX6_sink_58 : decode cX6_sink 58 = .ok (.iconst 1, 1) := by decide +kernel
theorem dX6_sink_59 : decode cX6_sink 59 = .ok (.invokestatic 57, 3) := by decide +kernel
theorem dX6_sink_62 : decode cX6_sink 62 = .ok (.ifCond .eq 42, 3) := by decide +kernel
theorem dX6_sink_65 : decode cX6_sink 65 = .ok (.aload_n 0, 1) := by decide +kernel
theorem dX6_sink_66 : decode cX6_sink 66 = .ok (.getfield 10, 3) := by decide +kernel
theorem dX6_sink_69 : decode cX6_sink 69 = .ok (.iload_n 1, 1) := by decide +kernel
theorem dX6_sink_70 : decode cX6_sink 70 = .ok (.invokevirtual 117, 3) := by decide +kernel
theorem dX6_sink_73 : decode cX6_sink 73 = .ok (.ifCond .eq 7, 3) := by decide +kernel
theorem dX6_sink_76 : decode cX6_sink 76 = .ok (.iconst 1, 1) := by decide +kernel
theorem dX6_sink_77 : decode cX6_sink 77 = .ok (.goto 4, 3) := by decide +kernel
theorem dX6_sink_80 : decode cX6_sink 80 = .ok (.iconst 0, 1) := by decide +kernel
theorem dX6_sink_81 : decode cX6_sink 81 = .ok (.istore 4, 2) := by decide +kernel
theorem dX6_sink_83 : decode cX6_sink 83 = .ok (.aload_n 0, 1) := by decide +kernel
theorem dX6_sink_84 : decode cX6_sink 84 = .ok (.getfield 10, 3) := by decide +kernel
theorem dX6_sink_87 : decode cX6_sink 87 = .ok (.iload_n 1, 1) := by decide +kernel
theorem dX6_sink_88 : decode cX6_sink 88 = .ok (.iload_n 3, 1) := by decide +kernel
theorem dX6_sink_89 : decode cX6_sink 89 = .ok (.iconst 1, 1) := by decide +kernel
theorem dX6_sink_90 : decode cX6_sink 90 = .ok (.if_icmp .ne 7, 3) := by decide +kernel
theorem dX6_sink_93 : decode cX6_sink 93 = .ok (.iconst 1, 1) := by decide +kernel
theorem dX6_sink_94 : decode cX6_sink 94 = .ok (.goto 4, 3) := by decide +kernel
theorem dX6_sink_97 : decode cX6_sink 97 = .ok (.iconst 0, 1) := by decide +kernel
theorem dX6_sink_98 : decode cX6_sink 98 = .ok (.invokevirtual 130, 3) := by decide +kernel
theorem dX6_sink_101 : decode cX6_sink 101 = .ok (.iload 4, 2) := by decide +kernel
theorem dX6_sink_103 : decode cX6_sink 103 = .ok (.ireturn, 1) := by decide +kernel
theorem dX6_sink_104 : decode cX6_sink 104 = .ok (.iconst (-1), 1) := by decide +kernel
theorem dX6_sink_105 : decode cX6_sink 105 = .ok (.ireturn, 1) := by decide +kernel
set_option maxRecDepth 20000 in
theorem ggX6_courses_X6_within : GoodIn wsX6_courses wsX6_within := goodIn_r _ [5] (by decide +kernel) (by decide +kernel)
set_option maxRecDepth 20000 in
theorem gX6_courses_X6_within : GoodIn wsX6_courses (va_wsS RX6 57 yX6_within wsX6_within) := goodIn_app (goodIn_of _ (by decide +kernel)) ggX6_courses_X6_within
set_option maxRecDepth 20000 in
theorem ggX6_courses_X4_toldBehind : GoodIn wsX6_courses wsX4_toldBehind := goodIn_r _ [10, 11, 12, 13, 14, 9, 15, 16, 17, 18, 19, 20, 21, 22, 23, 24, 25, 26, 27, 28, 29, 30, 31, 32, 33, 34, 35, 4, 36, 37, 38, 39, 40, 41, 42, 43, 44, 45, 46, 47, 48, 49, 50, 51, 52, 53, 54, 55, 56, 57, 58, 59, 60, 61, 62, 63, 64, 65, 66, 76, 77, 78, 79, 80, 81, 82, 83, 84, 85] (by decide +kernel) (by decide +kernel)
set_option maxRecDepth 20000 in
theorem gX6_courses_X4_toldBehind : GoodIn wsX6_courses (wsV RX6 134 RX4 yX4_toldBehind wsX4_toldBehind) := goodIn_app (goodIn_of _ (by decide +kernel)) ggX6_courses_X4_toldBehind
theorem dX6_courses_0 : decode cX6_courses 0 = .ok (.iload_n 1, 1) := by decide +kernel
theorem dX6_courses_1 : decode cX6_courses 1 = .ok (.iconst 1, 1) := by decide +kernel
theorem dX6_courses_2 : decode cX6_courses 2 = .ok (.bipush 60, 2) := by decide +kernel
theorem dX6_courses_4 : decode cX6_courses 4 = .ok (.invokestatic 57, 3) := by decide +kernel
theorem dX6_courses_7 : decode cX6_courses 7 = .ok (.ifCond .eq 14, 3) := by decide +kernel
theorem dX6_courses_10 : decode cX6_courses 10 = .ok (.aload_n 0, 1) := by decide +kernel
theorem dX6_courses_11 : decode cX6_courses 11 = .ok (.getfield 10, 3) := by decide +kernel
theorem dX6_courses_14 : decode cX6_courses 14 = .ok (.iload_n 1, 1) := by decide +kernel
theorem dX6_courses_15 : decode cX6_courses 15 = .ok (.invokevirtual 134, 3) := by decide +kernel
theorem dX6_courses_18 : decode cX6_courses 18 = .ok (.goto 4, 3) := by decide +kernel
theorem dX6_courses_21 : decode cX6_courses 21 = .ok (.iconst (-1), 1) := by decide +kernel
theorem dX6_courses_22 : decode cX6_courses 22 = .ok (.ireturn, 1) := by decide +kernel
theorem dX6_seed_0 : decode cX6_seed 0 = .ok (.aload_n 0, 1) := by decide +kernel
theorem dX6_seed_1 : decode cX6_seed 1 = .ok (.getfield 10, 3) := by decide +kernel
theorem dX6_seed_4 : decode cX6_seed 4 = .ok (.getfield 72, 3) := by decide +kernel
theorem dX6_seed_7 : decode cX6_seed 7 = .ok (.istore_n 2, 1) := by decide +kernel
theorem dX6_seed_8 : decode cX6_seed 8 = .ok (.aload_n 0, 1) := by decide +kernel
theorem dX6_seed_9 : decode cX6_seed 9 = .ok (.getfield 10, 3) := by decide +kernel
theorem dX6_seed_12 : decode cX6_seed 12 = .ok (.iload_n 1, 1) := by decide +kernel
theorem dX6_seed_13 : decode cX6_seed 13 = .ok (.putfield 72, 3) := by decide +kernel
theorem dX6_seed_16 : decode cX6_seed 16 = .ok (.iload_n 2, 1) := by decide +kernel
theorem dX6_seed_17 : decode cX6_seed 17 = .ok (.ireturn, 1) := by decide +kernel
set_option maxRecDepth 20000 in
theorem ggX6_course_X4_serveByDraws : GoodIn wsX6_course wsX4_serveByDraws := goodIn_r _ [7, 8, 9, 10, 11, 12, 13, 6, 14, 15, 16, 17, 18, 19, 20, 21, 22, 23, 24, 25, 26, 27, 28, 29, 30, 31, 32, 33, 34, 35, 36, 37, 38, 39, 40, 41, 42, 43, 44, 45, 46, 47, 48, 49, 50, 51, 52, 53, 54, 55, 56, 57, 58, 59, 60, 61, 62, 63, 64, 65, 66, 67, 68, 69, 70, 80, 81, 82, 83, 84, 85, 86, 87, 88, 89] (by decide +kernel) (by decide +kernel)
set_option maxRecDepth 20000 in
theorem gX6_course_X4_serveByDraws : GoodIn wsX6_course (wsV RX6 137 RX4 yX4_serveByDraws wsX4_serveByDraws) := goodIn_app (goodIn_of _ (by decide +kernel)) ggX6_course_X4_serveByDraws
theorem dX6_course_0 : decode cX6_course 0 = .ok (.aload_n 0, 1) := by decide +kernel
theorem dX6_course_1 : decode cX6_course 1 = .ok (.getfield 10, 3) := by decide +kernel
theorem dX6_course_4 : decode cX6_course 4 = .ok (.invokevirtual 137, 3) := by decide +kernel
theorem dX6_course_7 : decode cX6_course 7 = .ok (.aload_n 0, 1) := by decide +kernel
theorem dX6_course_8 : decode cX6_course 8 = .ok (.getfield 10, 3) := by decide +kernel
theorem dX6_course_11 : decode cX6_course 11 = .ok (.getfield 140, 3) := by decide +kernel
theorem dX6_course_14 : decode cX6_course 14 = .ok (.ireturn, 1) := by decide +kernel
set_option maxRecDepth 20000 in
theorem ggX6_luck_X6_within : GoodIn wsX6_luck wsX6_within := goodIn_r _ [8] (by decide +kernel) (by decide +kernel)
