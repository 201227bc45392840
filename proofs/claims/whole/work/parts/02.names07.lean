set_option maxRecDepth 20000 in
theorem ggX7_of_X7_its : GoodIn wsX7_of wsX7_its := goodIn_r _ [14, 7, 15, 16, 17, 18, 19, 20, 21, 22, 23, 24, 25, 26, 27, 28, 29, 30, 31, 32, 33, 34, 35, 36, 37, 38, 39, 40] (by decide +kernel) (by decide +kernel)
set_option maxRecDepth 20000 in
theorem gX7_of_X7_its : GoodIn wsX7_of (wsV RX7 156 RX7 yX7_its wsX7_its) := goodIn_app (goodIn_of _ (by decide +kernel)) ggX7_of_X7_its
theorem dX7_of_0 : decode cX7_of 0 = .ok (.aload_n 0, 1) := by decide +kernel
theorem dX7_of_1 : decode cX7_of 1 = .ok (.iload_n 1, 1) := by decide +kernel
theorem dX7_of_2 : decode cX7_of 2 = .ok (.invokevirtual 162, 3) := by decide +kernel
theorem dX7_of_5 : decode cX7_of 5 = .ok (.ifCond .eq 24, 3) := by decide +kernel
theorem dX7_of_8 : decode cX7_of 8 = .ok (.iload_n 2, 1) := by decide +kernel
theorem dX7_of_9 : decode cX7_of 9 = .ok (.i2l, 1) := by decide +kernel
theorem dX7_of_10 : decode cX7_of 10 = .ok (.lconst 0, 1) := by decide +kernel
theorem dX7_of_11 : decode cX7_of 11 = .ok (.ldc2_w 165, 3) := by decide +kernel
theorem dX7_of_14 : decode cX7_of 14 = .ok (.invokestatic 54, 3) := by decide +kernel
theorem dX7_of_17 : decode cX7_of 17 = .ok (.ifCond .eq 12, 3) := by decide +kernel
theorem dX7_of_20 : decode cX7_of 20 = .ok (.aload_n 0, 1) := by decide +kernel
theorem dX7_of_21 : decode cX7_of 21 = .ok (.iload_n 1, 1) := by decide +kernel
theorem dX7_of_22 : decode cX7_of 22 = .ok (.iload_n 2, 1) := by decide +kernel
theorem dX7_of_23 : decode cX7_of 23 = .ok (.invokevirtual 156, 3) := by decide +kernel
theorem dX7_of_26 : decode cX7_of 26 = .ok (.goto 4, 3) := by decide +kernel
theorem dX7_of_29 : decode cX7_of 29 = .ok (.iconst (-1), 1) := by decide +kernel
theorem dX7_of_30 : decode cX7_of 30 = .ok (.ireturn, 1) := by decide +kernel
set_option maxRecDepth 20000 in
theorem ggX7_does_X7_isOne : GoodIn wsX7_does wsX7_isOne := goodIn_r _ [6, 7, 31, 32, 33, 34, 35, 36, 37, 38, 39, 40, 41, 42, 43, 44, 45, 46, 47, 48, 49, 50, 51, 52, 53, 54, 55, 56] (by decide +kernel) (by decide +kernel)
set_option maxRecDepth 20000 in
theorem gX7_does_X7_isOne : GoodIn wsX7_does (wsV RX7 162 RX7 yX7_isOne wsX7_isOne) := goodIn_app (goodIn_of _ (by decide +kernel)) ggX7_does_X7_isOne
set_option maxRecDepth 20000 in
theorem ggX7_does_X7_isIn : GoodIn wsX7_does wsX7_isIn := goodIn_r _ [10] (by decide +kernel) (by decide +kernel)
set_option maxRecDepth 20000 in
theorem gX7_does_X7_isIn : GoodIn wsX7_does (va_wsS RX7 54 yX7_isIn wsX7_isIn) := goodIn_app (goodIn_of _ (by decide +kernel)) ggX7_does_X7_isIn
set_option maxRecDepth 20000 in
theorem ggX7_does_X7_takes : GoodIn wsX7_does wsX7_takes := goodIn_r _ [14, 7, 15, 16, 17, 5, 18, 19, 20, 21, 22, 31, 32, 33, 34, 35, 36, 37, 38, 39, 40, 41, 42, 43, 44, 45, 46, 47, 48, 49, 50, 51, 52, 53, 54, 55, 56] (by decide +kernel) (by decide +kernel)
set_option maxRecDepth 20000 in
theorem gX7_does_X7_takes : GoodIn wsX7_does (wsV RX7 169 RX7 yX7_takes wsX7_takes) := goodIn_app (goodIn_of _ (by decide +kernel)) ggX7_does_X7_takes
set_option maxRecDepth 20000 in
theorem ggX7_does_X7_needsOf : GoodIn wsX7_does wsX7_needsOf := goodIn_r _ [26, 7, 15, 16, 17, 5, 18, 31, 32, 33, 34, 35, 36, 37, 38, 39, 40, 41, 42, 43, 44, 45, 46, 47, 48, 49, 50, 51, 52, 53, 54, 55, 56] (by decide +kernel) (by decide +kernel)
set_option maxRecDepth 20000 in
theorem gX7_does_X7_needsOf : GoodIn wsX7_does (wsV RX7 172 RX7 yX7_needsOf wsX7_needsOf) := goodIn_app (goodIn_of _ (by decide +kernel)) ggX7_does_X7_needsOf
set_option maxRecDepth 20000 in
theorem ggX7_does_X7_costs : GoodIn wsX7_does wsX7_costs := goodIn_r _ [30, 7, 15, 16, 17, 5, 18, 31, 32, 33, 34, 35, 36, 37, 38, 39, 40, 41, 42, 43, 44, 45, 46, 47, 48, 49, 50, 51, 52, 53, 54, 55, 56] (by decide +kernel) (by decide +kernel)
set_option maxRecDepth 20000 in
theorem gX7_does_X7_costs : GoodIn wsX7_does (wsV RX7 175 RX7 yX7_costs wsX7_costs) := goodIn_app (goodIn_of _ (by decide +kernel)) ggX7_does_X7_costs
theorem dX7_does_0 : decode cX7_does 0 = .ok (.aload_n 0, 1) := by decide +kernel
theorem dX7_does_1 : decode cX7_does 1 = .ok (.iload_n 1, 1) := by decide +kernel
theorem dX7_does_2 : decode cX7_does 2 = .ok (.invokevirtual 162, 3) := by decide +kernel
theorem dX7_does_5 : decode cX7_does 5 = .ok (.ifCond .eq 15, 3) := by decide +kernel
theorem dX7_does_8 : decode cX7_does 8 = .ok (.iload_n 2, 1) := by decide +kernel
theorem dX7_does_9 : decode cX7_does 9 = .ok (.i2l, 1) := by decide +kernel
theorem dX7_does_10 : decode cX7_does 10 = .ok (.lconst 0, 1) := by decide +kernel
theorem dX7_does_11 : decode cX7_does 11 = .ok (.ldc2_w 167, 3) := by decide +kernel
theorem dX7_does_14 : decode cX7_does 14 = .ok (.invokestatic 54, 3) := by decide +kernel
theorem dX7_does_17 : decode cX7_does 17 = .ok (.ifCond .ne 5, 3) := by decide +kernel
theorem dX7_does_20 : decode cX7_does 20 = .ok (.iconst (-1), 1) := by decide +kernel
theorem dX7_does_21 : decode cX7_does 21 = .ok (.ireturn, 1) := by decide +kernel
theorem dX7_does_22 : decode cX7_does 22 = .ok (.sipush 1000, 3) := by decide +kernel
theorem dX7_does_25 : decode cX7_does 25 = .ok (.iload_n 2, 1) := by decide +kernel
theorem dX7_does_26 : decode cX7_does 26 = .ok (.ifCond .ne 11, 3) := by decide +kernel
theorem dX7_does_29 : decode cX7_does 29 = .ok (.aload_n 0, 1) := by decide +kernel
theorem dX7_does_30 : decode cX7_does 30 = .ok (.iload_n 1, 1) := by decide +kernel
theorem dX7_does_31 : decode cX7_does 31 = .ok (.invokevirtual 169, 3) := by decide +kernel
theorem dX7_does_34 : decode cX7_does 34 = .ok (.goto 21, 3) := by decide +kernel
theorem dX7_does_37 : decode cX7_does 37 = .ok (.iload_n 2, 1) := by decide +kernel
theorem dX7_does_38 : decode cX7_does 38 = .ok (.iconst 1, 1) := by decide +kernel
theorem dX7_does_39 : decode cX7_does 39 = .ok (.if_icmp .ne 11, 3) := by decide +kernel
theorem dX7_does_42 : decode cX7_does 42 = .ok (.aload_n 0, 1) := by decide +kernel
theorem dX7_does_43 : decode cX7_does 43 = .ok (.iload_n 1, 1) := by decide +kernel
theorem dX7_does_44 : decode cX7_does 44 = .ok (.invokevirtual 172, 3) := by decide +kernel
theorem dX7_does_47 : decode cX7_does 47 = .ok (.goto 8, 3) := by decide +kernel
theorem dX7_does_50 : decode cX7_does 50 = .ok (.aload_n 0, 1) := by decide +kernel
theorem dX7_does_51 : decode cX7_does 51 = .ok (.iload_n 1, 1) := by decide +kernel
theorem dX7_does_52 : decode cX7_does 52 = .ok (.invokevirtual 175, 3) := by decide +kernel
theorem dX7_does_55 : decode cX7_does 55 = .ok (.iadd, 1) := by decide +kernel
theorem dX7_does_56 : decode cX7_does 56 = .ok (.ireturn, 1) := by decide +kernel
set_option maxRecDepth 20000 in
theorem ggX7_mind_X7_isOne : GoodIn wsX7_mind wsX7_isOne := goodIn_r _ [6, 7, 15, 16, 17, 18, 19, 20, 21, 22, 23, 24, 25, 26, 27, 28, 29, 30, 31, 32, 33, 34, 35, 36, 37, 38, 39, 40] (by decide +kernel) (by decide +kernel)
set_option maxRecDepth 20000 in
theorem gX7_mind_X7_isOne : GoodIn wsX7_mind (wsV RX7 162 RX7 yX7_isOne wsX7_isOne) := goodIn_app (goodIn_of _ (by decide +kernel)) ggX7_mind_X7_isOne
set_option maxRecDepth 20000 in
theorem ggX7_mind_X7_isIn : GoodIn wsX7_mind wsX7_isIn := goodIn_r _ [10] (by decide +kernel) (by decide +kernel)
set_option maxRecDepth 20000 in
theorem gX7_mind_X7_isIn : GoodIn wsX7_mind (va_wsS RX7 54 yX7_isIn wsX7_isIn) := goodIn_app (goodIn_of _ (by decide +kernel)) ggX7_mind_X7_isIn
set_option maxRecDepth 20000 in
theorem ggX7_mind_X7_becomes : GoodIn wsX7_mind wsX7_becomes := goodIn_r _ [14, 7, 15, 16, 17, 18, 19, 20, 21, 22, 23, 24, 25, 26, 27, 28, 29, 30, 31, 32, 33, 34, 35, 36, 37, 38, 39, 40] (by decide +kernel) (by decide +kernel)
set_option maxRecDepth 20000 in
theorem gX7_mind_X7_becomes : GoodIn wsX7_mind (wsV RX7 145 RX7 yX7_becomes wsX7_becomes) := goodIn_app (goodIn_of _ (by decide +kernel)) ggX7_mind_X7_becomes
theorem dX7_mind_0 : decode cX7_mind 0 = .ok (.aload_n 0, 1) := by decide +kernel
theorem dX7_mind_1 : decode cX7_mind 1 = .ok (.iload_n 1, 1) := by decide +kernel
theorem dX7_mind_2 : decode cX7_mind 2 = .ok (.invokevirtual 162, 3) := by decide +kernel
theorem dX7_mind_5 : decode cX7_mind 5 = .ok (.ifCond .eq 29, 3) := by decide +kernel
theorem dX7_mind_8 : decode cX7_mind 8 = .ok (.iload_n 2, 1) := by decide +kernel
theorem dX7_mind_9 : decode cX7_mind 9 = .ok (.i2l, 1) := by decide +kernel
theorem dX7_mind_10 : decode cX7_mind 10 = .ok (.lconst 0, 1) := by decide +kernel
theorem dX7_mind_11 : decode cX7_mind 11 = .ok (.ldc2_w 151, 3) := by decide +kernel
theorem dX7_mind_14 : decode cX7_mind 14 = .ok (.invokestatic 54, 3) := by decide +kernel
theorem dX7_mind_17 : decode cX7_mind 17 = .ok (.ifCond .eq 17, 3) := by decide +kernel
theorem dX7_mind_20 : decode cX7_mind 20 = .ok (.aload_n 0, 1) := by decide +kernel
theorem dX7_mind_21 : decode cX7_mind 21 = .ok (.bipush 8, 2) := by decide +kernel
theorem dX7_mind_23 : decode cX7_mind 23 = .ok (.iconst 5, 1) := by decide +kernel
theorem dX7_mind_24 : decode cX7_mind 24 = .ok (.iload_n 1, 1) := by decide +kernel
theorem dX7_mind_25 : decode cX7_mind 25 = .ok (.imul, 1) := by decide +kernel
theorem dX7_mind_26 : decode cX7_mind 26 = .ok (.iadd, 1) := by decide +kernel
theorem dX7_mind_27 : decode cX7_mind 27 = .ok (.iload_n 2, 1) := by decide +kernel
theorem dX7_mind_28 : decode cX7_mind 28 = .ok (.invokevirtual 145, 3) := by decide +kernel
theorem dX7_mind_31 : decode cX7_mind 31 = .ok (.goto 4, 3) := by decide +kernel
theorem dX7_mind_34 : decode cX7_mind 34 = .ok (.iconst (-1), 1) := by decide +kernel
theorem dX7_mind_35 : decode cX7_mind 35 = .ok (.ireturn, 1) := by decide +kernel
set_option maxRecDepth 20000 in
theorem ggX7_give_X7_isOne : GoodIn wsX7_give wsX7_isOne := goodIn_r _ [5, 6, 18, 19, 20, 21, 22, 23, 24, 25, 26, 27, 28, 29, 30, 31, 32, 33, 34, 35, 36, 37, 38, 39, 40, 41, 42, 43] (by decide +kernel) (by decide +kernel)
set_option maxRecDepth 20000 in
theorem gX7_give_X7_isOne : GoodIn wsX7_give (wsV RX7 162 RX7 yX7_isOne wsX7_isOne) := goodIn_app (goodIn_of _ (by decide +kernel)) ggX7_give_X7_isOne
set_option maxRecDepth 20000 in
theorem ggX7_give_X7_isPiece : GoodIn wsX7_give wsX7_isPiece := goodIn_r _ [9, 10, 11, 12, 4, 13] (by decide +kernel) (by decide +kernel)
set_option maxRecDepth 20000 in
theorem gX7_give_X7_isPiece : GoodIn wsX7_give (va_wsS RX7 153 yX7_isPiece wsX7_isPiece) := goodIn_app (goodIn_of _ (by decide +kernel)) ggX7_give_X7_isPiece
set_option maxRecDepth 20000 in
theorem ggX7_give_X7_becomes : GoodIn wsX7_give wsX7_becomes := goodIn_r _ [17, 6, 18, 19, 20, 21, 22, 23, 24, 25, 26, 27, 28, 29, 30, 31, 32, 33, 34, 35, 36, 37, 38, 39, 40, 41, 42, 43] (by decide +kernel) (by decide +kernel)
set_option maxRecDepth 20000 in
theorem gX7_give_X7_becomes : GoodIn wsX7_give (wsV RX7 145 RX7 yX7_becomes wsX7_becomes) := goodIn_app (goodIn_of _ (by decide +kernel)) ggX7_give_X7_becomes
theorem dX7_give_0 : decode cX7_give 0 = .ok (.aload_n 0, 1) := by decide +kernel
theorem dX7_give_1 : decode cX7_give 1 = .ok (.iload_n 1, 1) := by decide +kernel
theorem dX7_give_2 : decode cX7_give 2 = .ok (.invokevirtual 162, 3) := by decide +kernel
theorem dX7_give_5 : decode cX7_give 5 = .ok (.ifCond .eq 26, 3) := by decide +kernel
theorem dX7_give_8 : decode cX7_give 8 = .ok (.iload_n 2, 1) := by decide +kernel
theorem dX7_give_9 : decode cX7_give 9 = .ok (.invokestatic 153, 3) := by decide +kernel
theorem dX7_give_12 : decode cX7_give 12 = .ok (.ifCond .eq 19, 3) := by decide +kernel
theorem dX7_give_15 : decode cX7_give 15 = .ok (.aload_n 0, 1) := by decide +kernel
theorem dX7_give_16 : decode cX7_give 16 = .ok (.bipush 8, 2) := by decide +kernel
theorem dX7_give_18 : decode cX7_give 18 = .ok (.iconst 5, 1) := by decide +kernel
theorem dX7_give_19 : decode cX7_give 19 = .ok (.iload_n 1, 1) := by decide +kernel
theorem dX7_give_20 : decode cX7_give 20 = .ok (.imul, 1) := by decide +kernel
theorem dX7_give_21 : decode cX7_give 21 = .ok (.iadd, 1) := by decide +kernel
theorem dX7_give_22 : decode cX7_give 22 = .ok (.iconst 1, 1) := by decide +kernel
theorem dX7_give_23 : decode cX7_give 23 = .ok (.iadd, 1) := by decide +kernel
theorem dX7_give_24 : decode cX7_give 24 = .ok (.iload_n 2, 1) := by decide +kernel
theorem dX7_give_25 : decode cX7_give 25 = .ok (.invokevirtual 145, 3) := by decide +kernel
theorem dX7_give_28 : decode cX7_give 28 = .ok (.goto 4, 3) := by decide +kernel
theorem dX7_give_31 : decode cX7_give 31 = .ok (.iconst (-1), 1) := by decide +kernel
theorem dX7_give_32 : decode cX7_give 32 = .ok (.ireturn, 1) := by decide +kernel
set_option maxRecDepth 20000 in
theorem ggX7_sink_X7_isOne : GoodIn wsX7_sink wsX7_isOne := goodIn_r _ [6, 7, 15, 16, 17, 18, 19, 20, 21, 22, 23, 24, 25, 26, 27, 28, 29, 30, 31, 32, 33, 34, 35, 36, 37, 38, 39, 40] (by decide +kernel) (by decide +kernel)
set_option maxRecDepth 20000 in
theorem gX7_sink_X7_isOne : GoodIn wsX7_sink (wsV RX7 162 RX7 yX7_isOne wsX7_isOne) := goodIn_app (goodIn_of _ (by decide +kernel)) ggX7_sink_X7_isOne
set_option maxRecDepth 20000 in
theorem ggX7_sink_X7_isIn : GoodIn wsX7_sink wsX7_isIn := goodIn_r _ [10] (by decide +kernel) (by decide +kernel)
set_option maxRecDepth 20000 in
theorem gX7_sink_X7_isIn : GoodIn wsX7_sink (va_wsS RX7 54 yX7_isIn wsX7_isIn) := goodIn_app (goodIn_of _ (by decide +kernel)) ggX7_sink_X7_isIn
set_option maxRecDepth 20000 in
theorem ggX7_sink_X7_becomes : GoodIn wsX7_sink wsX7_becomes := goodIn_r _ [14, 7, 15, 16, 17, 18, 19, 20, 21, 22, 23, 24, 25, 26, 27, 28, 29, 30, 31, 32, 33, 34, 35, 36, 37, 38, 39, 40] (by decide +kernel) (by decide +kernel)
set_option maxRecDepth 20000 in
theorem gX7_sink_X7_becomes : GoodIn wsX7_sink (wsV RX7 145 RX7 yX7_becomes wsX7_becomes) := goodIn_app (goodIn_of _ (by decide +kernel)) ggX7_sink_X7_becomes
theorem dX7_sink_0 : decode cX7_sink 0 = .ok (.aload_n 0, 1) := by decide +kernel
theorem dX7_sink_1 : decode cX7_sink 1 = .ok (.iload_n 1, 1) := by decide +kernel
theorem dX7_sink_2 : decode cX7_sink 2 = .ok (.invokevirtual 162, 3) := by decide +kernel
theorem dX7_sink_5 : decode cX7_sink 5 = .ok (.ifCond .eq 33, 3) := by decide +kernel
theorem dX7_sink_8 : decode cX7_sink 8 = .ok (.iload_n 2, 1) := by decide +kernel
theorem dX7_sink_9 : decode cX7_sink 9 = .ok (.i2l, 1) := by decide +kernel
theorem dX7_sink_10 : decode cX7_sink 10 = .ok (.lconst 0, 1) := by decide +kernel
theorem dX7_sink_11 : decode cX7_sink 11 = .ok (.lconst 1, 1) := by decide +kernel
theorem dX7_sink_12 : decode cX7_sink 12 = .ok (.invokestatic 54, 3) := by decide +kernel
theorem dX7_sink_15 : decode cX7_sink 15 = .ok (.ifCond .eq 23, 3) := by decide +kernel
theorem dX7_sink_18 : decode cX7_sink 18 = .ok (.iload_n 3, 1) := by decide +kernel
theorem dX7_sink_19 : decode cX7_sink 19 = .ok (.i2l, 1) := by decide +kernel
theorem dX7_sink_20 : decode cX7_sink 20 = .ok (.lconst 0, 1) := by decide +kernel
theorem dX7_sink_21 : decode cX7_sink 21 = .ok (.iload_n 2, 1) := by decide +kernel
theorem dX7_sink_22 : decode cX7_sink 22 = .ok (.ifCond .ne 9, 3) := by decide +kernel
theorem dX7_sink_25 : decode cX7_sink 25 = .ok (.ldc2_w 178, 3) := by decide +kernel
theorem dX7_sink_28 : decode cX7_sink 28 = .ok (.goto 4, 3) := by decide +kernel
theorem dX7_sink_31 : decode cX7_sink 31 = .ok (.lconst 1, 1) := by decide +kernel
theorem dX7_sink_32 : decode cX7_sink 32 = .ok (.invokestatic 54, 3) := by decide +kernel
theorem dX7_sink_35 : decode cX7_sink 35 = .ok (.ifCond .ne 5, 3) := by decide +kernel
theorem dX7_sink_38 : decode cX7_sink 38 = .ok (.iconst (-1), 1) := by decide +kernel
theorem dX7_sink_39 : decode cX7_sink 39 = .ok (.ireturn, 1) := by decide +kernel
theorem dX7_sink_40 : decode cX7_sink 40 = .ok (.aload_n 0, 1) := by decide +kernel
theorem dX7_sink_41 : decode cX7_sink 41 = .ok (.bipush 8, 2) := by decide +kernel
theorem dX7_sink_43 : decode cX7_sink 43 = .ok (.iconst 5, 1) := by decide +kernel
theorem dX7_sink_44 : decode cX7_sink 44 = .ok (.iload_n 1, 1) := by decide +kernel
theorem dX7_sink_45 : decode cX7_sink 45 = .ok (.imul, 1) := by decide +kernel
theorem dX7_sink_46 : decode cX7_sink 46 = .ok (.iadd, 1) := by decide +kernel
theorem dX7_sink_47 : decode cX7_sink 47 = .ok (.iload_n 2, 1) := by decide +kernel
theorem dX7_sink_48 : decode cX7_sink 48 = .ok (.ifCond .ne 7, 3) := by decide +kernel
theorem dX7_sink_51 : decode cX7_sink 51 = .ok (.iconst 2, 1) := by decide +kernel
theorem dX7_sink_52 : decode cX7_sink 52 = .ok (.goto 4, 3) := by decide +kernel
theorem dX7_sink_55 : decode cX7_sink 55 = .ok (.iconst 4, 1) := by decide +kernel
theorem dX7_sink_56 : decode cX7_sink 56 = .ok (.iadd, 1) := by decide +kernel
theorem dX7_sink_57 : decode cX7_sink 57 = .ok (.iload_n 3, 1) := by decide +kernel
theorem dX7_sink_58 : decode cX7_sink 58 = .ok (.invokevirtual 145, 3) := by decide +kernel
theorem dX7_sink_61 : decode cX7_sink 61 = .ok (.ireturn, 1) := by decide +kernel
set_option maxRecDepth 20000 in
theorem ggX7_teller_X7_next : GoodIn wsX7_teller wsX7_next := goodIn_r _ [6, 1, 15, 16, 17, 18, 19, 20, 21, 22, 23, 24, 25, 26, 27, 28, 29, 30, 31, 32, 33, 34, 35, 36, 37, 38, 39, 40] (by decide +kernel) (by decide +kernel)
set_option maxRecDepth 20000 in
theorem gX7_teller_X7_next : GoodIn wsX7_teller (wsV RX7 159 RX7 yX7_next wsX7_next) := goodIn_app (goodIn_of _ (by decide +kernel)) ggX7_teller_X7_next
set_option maxRecDepth 20000 in
theorem ggX7_teller_X7_its : GoodIn wsX7_teller wsX7_its := goodIn_r _ [10, 1, 15, 16, 17, 18, 19, 20, 21, 22, 23, 24, 25, 26, 27, 28, 29, 30, 31, 32, 33, 34, 35, 36, 37, 38, 39, 40] (by decide +kernel) (by decide +kernel)
set_option maxRecDepth 20000 in
theorem gX7_teller_X7_its : GoodIn wsX7_teller (wsV RX7 156 RX7 yX7_its wsX7_its) := goodIn_app (goodIn_of _ (by decide +kernel)) ggX7_teller_X7_its
set_option maxRecDepth 20000 in
theorem ggX7_teller_X7_needsOf : GoodIn wsX7_teller wsX7_needsOf := goodIn_r _ [14, 1, 7, 8, 9, 5, 10, 15, 16, 17, 18, 19, 20, 21, 22, 23, 24, 25, 26, 27, 28, 29, 30, 31, 32, 33, 34, 35, 36, 37, 38, 39, 40] (by decide +kernel) (by decide +kernel)
set_option maxRecDepth 20000 in
theorem gX7_teller_X7_needsOf : GoodIn wsX7_teller (wsV RX7 172 RX7 yX7_needsOf wsX7_needsOf) := goodIn_app (goodIn_of _ (by decide +kernel)) ggX7_teller_X7_needsOf
theorem dX7_teller_0 : decode cX7_teller 0 = .ok (.aload_n 0, 1) := by decide +kernel
theorem dX7_teller_1 : decode cX7_teller 1 = .ok (.invokevirtual 159, 3) := by decide +kernel
theorem dX7_teller_4 : decode cX7_teller 4 = .ok (.istore_n 1, 1) := by decide +kernel
theorem dX7_teller_5 : decode cX7_teller 5 = .ok (.iconst 0, 1) := by decide +kernel
theorem dX7_teller_6 : decode cX7_teller 6 = .ok (.istore_n 2, 1) := by decide +kernel
theorem dX7_teller_7 : decode cX7_teller 7 = .ok (.iload_n 2, 1) := by decide +kernel
theorem dX7_teller_8 : decode cX7_teller 8 = .ok (.aload_n 0, 1) := by decide +kernel
theorem dX7_teller_9 : decode cX7_teller 9 = .ok (.getfield 7, 3) := by decide +kernel
theorem dX7_teller_12 : decode cX7_teller 12 = .ok (.iconst 0, 1) := by decide +kernel
theorem dX7_teller_13 : decode cX7_teller 13 = .ok (.iaload, 1) := by decide +kernel
theorem dX7_teller_14 : decode cX7_teller 14 = .ok (.if_icmp .ge 44, 3) := by decide +kernel
theorem dX7_teller_17 : decode cX7_teller 17 = .ok (.aload_n 0, 1) := by decide +kernel
theorem dX7_teller_18 : decode cX7_teller 18 = .ok (.iload_n 2, 1) := by decide +kernel
theorem dX7_teller_19 : decode cX7_teller 19 = .ok (.iconst 4, 1) := by decide +kernel
theorem dX7_teller_20 : decode cX7_teller 20 = .ok (.invokevirtual 156, 3) := by decide +kernel
theorem dX7_teller_23 : decode cX7_teller 23 = .ok (.ifCond .ne 29, 3) := by decide +kernel
theorem dX7_teller_26 : decode cX7_teller 26 = .ok (.aload_n 0, 1) := by decide +kernel
theorem dX7_teller_27 : decode cX7_teller 27 = .ok (.iload_n 2, 1) := by decide +kernel
theorem dX7_teller_28 : decode cX7_teller 28 = .ok (.iconst 1, 1) := by decide +kernel
theorem dX7_teller_29 : decode cX7_teller 29 = .ok (.invokevirtual 156, 3) := by decide +kernel
theorem dX7_teller_32 : decode cX7_teller 32 = .ok (.iload_n 1, 1) := by decide +kernel
theorem dX7_teller_33 : decode cX7_teller 33 = .ok (.if_icmp .ne 19, 3) := by decide +kernel
theorem dX7_teller_36 : decode cX7_teller 36 = .ok (.aload_n 0, 1) := by decide +kernel
theorem dX7_teller_37 : decode cX7_teller 37 = .ok (.iload_n 2, 1) := by decide +kernel
theorem dX7_teller_38 : decode cX7_teller 38 = .ok (.iconst 2, 1) := by decide +kernel
theorem dX7_teller_39 : decode cX7_teller 39 = .ok (.invokevirtual 156, 3) := by decide +kernel
theorem dX7_teller_42 : decode cX7_teller 42 = .ok (.aload_n 0, 1) := by decide +kernel
theorem dX7_teller_43 : decode cX7_teller 43 = .ok (.iload_n 2, 1) := by decide +kernel
theorem dX7_teller_44 : decode cX7_teller 44 = .ok (.invokevirtual 172, 3) := by decide +kernel
theorem dX7_teller_47 : decode cX7_teller 47 = .ok (.if_icmp .lt 5, 3) := by decide +kernel
theorem dX7_teller_50 : decode cX7_teller 50 = .ok (.iload_n 2, 1) := by decide +kernel
theorem dX7_teller_51 : decode cX7_teller 51 = .ok (.ireturn, 1) := by decide +kernel
theorem dX7_teller_52 : decode cX7_teller 52 = .ok (.iinc 2 1, 3) := by decide +kernel
theorem dX7_teller_55 : decode cX7_teller 55 = .ok (.goto (-48), 3) := by decide +kernel
theorem dX7_teller_58 : decode cX7_teller 58 = .ok (.iconst (-1), 1) := by decide +kernel
theorem dX7_teller_59 : decode cX7_teller 59 = .ok (.ireturn, 1) := by decide +kernel
set_option maxRecDepth 20000 in
theorem ggX7_tellsNext_X7_costs : GoodIn wsX7_tellsNext wsX7_costs := goodIn_r _ [7, 1, 8, 9, 10, 6, 11, 18, 19, 20, 21, 22, 23, 24, 25, 26, 27, 28, 29, 30, 31, 32, 33, 34, 35, 36, 37, 38, 39, 40, 41, 42, 43] (by decide +kernel) (by decide +kernel)
set_option maxRecDepth 20000 in
theorem gX7_tellsNext_X7_costs : GoodIn wsX7_tellsNext (wsV RX7 175 RX7 yX7_costs wsX7_costs) := goodIn_app (goodIn_of _ (by decide +kernel)) ggX7_tellsNext_X7_costs
set_option maxRecDepth 20000 in
theorem ggX7_tellsNext_X7_least : GoodIn wsX7_tellsNext wsX7_least := goodIn_r _ [14] (by decide +kernel) (by decide +kernel)
set_option maxRecDepth 20000 in
theorem gX7_tellsNext_X7_least : GoodIn wsX7_tellsNext (va_wsS RX7 181 yX7_least wsX7_least) := goodIn_app (goodIn_of _ (by decide +kernel)) ggX7_tellsNext_X7_least
set_option maxRecDepth 20000 in
theorem ggX7_tellsNext_X7_within : GoodIn wsX7_tellsNext wsX7_within := goodIn_r _ [17] (by decide +kernel) (by decide +kernel)
set_option maxRecDepth 20000 in
theorem gX7_tellsNext_X7_within : GoodIn wsX7_tellsNext (va_wsS RX7 184 yX7_within wsX7_within) := goodIn_app (goodIn_of _ (by decide +kernel)) ggX7_tellsNext_X7_within
theorem dX7_tellsNext_0 : decode cX7_tellsNext 0 = .ok (.bipush 8, 2) := by decide +kernel
theorem dX7_tellsNext_2 : decode cX7_tellsNext 2 = .ok (.iconst 5, 1) := by decide +kernel
theorem dX7_tellsNext_3 : decode cX7_tellsNext 3 = .ok (.iload_n 1, 1) := by decide +kernel
theorem dX7_tellsNext_4 : decode cX7_tellsNext 4 = .ok (.imul, 1) := by decide +kernel
theorem dX7_tellsNext_5 : decode cX7_tellsNext 5 = .ok (.iadd, 1) := by decide +kernel
theorem dX7_tellsNext_6 : decode cX7_tellsNext 6 = .ok (.istore_n 2, 1) := by decide +kernel
theorem dX7_tellsNext_7 : decode cX7_tellsNext 7 = .ok (.aload_n 0, 1) := by decide +kernel
theorem dX7_tellsNext_8 : decode cX7_tellsNext 8 = .ok (.iload_n 1, 1) := by decide +kernel
theorem dX7_tellsNext_9 : decode cX7_tellsNext 9 = .ok (.invokevirtual 175, 3) := by decide +kernel
theorem dX7_tellsNext_12 : decode cX7_tellsNext 12 = .ok (.istore_n 3, 1) := by decide +kernel
theorem dX7_tellsNext_13 : decode cX7_tellsNext 13 = .ok (.aload_n 0, 1) := by decide +kernel
theorem dX7_tellsNext_14 : decode cX7_tellsNext 14 = .ok (.getfield 7, 3) := by decide +kernel
theorem dX7_tellsNext_17 : decode cX7_tellsNext 17 = .ok (.iconst 3, 1) := by decide +kernel
theorem dX7_tellsNext_18 : decode cX7_tellsNext 18 = .ok (.ldc 180, 2) := by decide +kernel
theorem dX7_tellsNext_20 : decode cX7_tellsNext 20 = .ok (.aload_n 0, 1) := by decide +kernel
theorem dX7_tellsNext_21 : decode cX7_tellsNext 21 = .ok (.getfield 7, 3) := by decide +kernel
theorem dX7_tellsNext_24 : decode cX7_tellsNext 24 = .ok (.iconst 3, 1) := by decide +kernel
theorem dX7_tellsNext_25 : decode cX7_tellsNext 25 = .ok (.iaload, 1) := by decide +kernel
theorem dX7_tellsNext_26 : decode cX7_tellsNext 26 = .ok (.iconst 1, 1) := by decide +kernel
theorem dX7_tellsNext_27 : decode cX7_tellsNext 27 = .ok (.iadd, 1) := by decide +kernel
theorem dX7_tellsNext_28 : decode cX7_tellsNext 28 = .ok (.invokestatic 181, 3) := by decide +kernel
theorem dX7_tellsNext_31 : decode cX7_tellsNext 31 = .ok (.iastore, 1) := by decide +kernel
theorem dX7_tellsNext_32 : decode cX7_tellsNext 32 = .ok (.aload_n 0, 1) := by decide +kernel
theorem dX7_tellsNext_33 : decode cX7_tellsNext 33 = .ok (.getfield 7, 3) := by decide +kernel
theorem dX7_tellsNext_36 : decode cX7_tellsNext 36 = .ok (.iload_n 2, 1) := by decide +kernel
theorem dX7_tellsNext_37 : decode cX7_tellsNext 37 = .ok (.iconst 3, 1) := by decide +kernel
theorem dX7_tellsNext_38 : decode cX7_tellsNext 38 = .ok (.iadd, 1) := by decide +kernel
theorem dX7_tellsNext_39 : decode cX7_tellsNext 39 = .ok (.sipush 9999, 3) := by decide +kernel
theorem dX7_tellsNext_42 : decode cX7_tellsNext 42 = .ok (.aload_n 0, 1) := by decide +kernel
theorem dX7_tellsNext_43 : decode cX7_tellsNext 43 = .ok (.getfield 7, 3) := by decide +kernel
theorem dX7_tellsNext_46 : decode cX7_tellsNext 46 = .ok (.iload_n 2, 1) := by decide +kernel
theorem dX7_tellsNext_47 : decode cX7_tellsNext 47 = .ok (.iconst 3, 1) := by decide +kernel
theorem dX7_tellsNext_48 : decode cX7_tellsNext 48 = .ok (.iadd, 1) := by decide +kernel
theorem dX7_tellsNext_49 : decode cX7_tellsNext 49 = .ok (.iaload, 1) := by decide +kernel
theorem dX7_tellsNext_50 : decode cX7_tellsNext 50 = .ok (.iconst 1, 1) := by decide +kernel
theorem dX7_tellsNext_51 : decode cX7_tellsNext 51 = .ok (.iadd, 1) := by decide +kernel
theorem dX7_tellsNext_52 : decode cX7_tellsNext 52 = .ok (.invokestatic 181, 3) := by decide +kernel
theorem dX7_tellsNext_55 : decode cX7_tellsNext 55 = .ok (.iastore, 1) := by decide +kernel
theorem dX7_tellsNext_56 : decode cX7_tellsNext 56 = .ok (.aload_n 0, 1) := by decide +kernel
theorem dX7_tellsNext_57 : decode cX7_tellsNext 57 = .ok (.getfield 7, 3) := by decide +kernel
theorem dX7_tellsNext_60 : decode cX7_tellsNext 60 = .ok (.iload_n 2, 1) := by decide +kernel
theorem dX7_tellsNext_61 : decode cX7_tellsNext 61 = .ok (.iconst 2, 1) := by decide +kernel
theorem dX7_tellsNext_62 : decode cX7_tellsNext 62 = .ok (.iadd, 1) := by decide +kernel
theorem dX7_tellsNext_63 : decode cX7_tellsNext 63 = .ok (.aload_n 0, 1) := by decide +kernel
theorem dX7_tellsNext_64 : decode cX7_tellsNext 64 = .ok (.getfield 7, 3) := by decide +kernel
theorem dX7_tellsNext_67 : decode cX7_tellsNext 67 = .ok (.iload_n 2, 1) := by decide +kernel
theorem dX7_tellsNext_68 : decode cX7_tellsNext 68 = .ok (.iconst 2, 1) := by decide +kernel
theorem dX7_tellsNext_69 : decode cX7_tellsNext 69 = .ok (.iadd, 1) := by decide +kernel
theorem dX7_tellsNext_70 : decode cX7_tellsNext 70 = .ok (.iaload, 1) := by decide +kernel
theorem dX7_tellsNext_71 : decode cX7_tellsNext 71 = .ok (.iload_n 3, 1) := by decide +kernel
theorem dX7_tellsNext_72 : decode cX7_tellsNext 72 = .ok (.isub, 1) := by decide +kernel
theorem dX7_tellsNext_73 : decode cX7_tellsNext 73 = .ok (.invokestatic 184, 3) := by decide +kernel
theorem dX7_tellsNext_76 : decode cX7_tellsNext 76 = .ok (.iastore, 1) := by decide +kernel
theorem dX7_tellsNext_77 : decode cX7_tellsNext 77 = .ok (.return_, 1) := by decide +kernel
set_option maxRecDepth 20000 in
theorem ggX7_goesOn_X7_takes : GoodIn wsX7_goesOn wsX7_takes := goodIn_r _ [6, 1, 7, 8, 9, 5, 10, 11, 12, 13, 14, 38, 39, 40, 41, 42, 43, 44, 45, 46, 47, 48, 49, 50, 51, 52, 53, 54, 55, 56, 57, 58, 59, 60, 61, 62, 63] (by decide +kernel) (by decide +kernel)
set_option maxRecDepth 20000 in
theorem gX7_goesOn_X7_takes : GoodIn wsX7_goesOn (wsV RX7 169 RX7 yX7_takes wsX7_takes) := goodIn_app (goodIn_of _ (by decide +kernel)) ggX7_goesOn_X7_takes
set_option maxRecDepth 20000 in
theorem ggX7_goesOn_X7_within : GoodIn wsX7_goesOn wsX7_within := goodIn_r _ [17] (by decide +kernel) (by decide +kernel)
set_option maxRecDepth 20000 in
theorem gX7_goesOn_X7_within : GoodIn wsX7_goesOn (va_wsS RX7 184 yX7_within wsX7_within) := goodIn_app (goodIn_of _ (by decide +kernel)) ggX7_goesOn_X7_within
set_option maxRecDepth 20000 in
theorem ggX7_goesOn_X7_teller : GoodIn wsX7_goesOn wsX7_teller := goodIn_r _ [21, 1, 11, 12, 13, 5, 14, 7, 8, 9, 10, 22, 23, 24, 25, 38, 39, 40, 41, 42, 43, 44, 45, 46, 47, 48, 49, 50, 51, 52, 53, 54, 55, 56, 57, 58, 59, 60, 61, 62, 63] (by decide +kernel) (by decide +kernel)
set_option maxRecDepth 20000 in
theorem gX7_goesOn_X7_teller : GoodIn wsX7_goesOn (wsV RX7 187 RX7 yX7_teller wsX7_teller) := goodIn_app (goodIn_of _ (by decide +kernel)) ggX7_goesOn_X7_teller
set_option maxRecDepth 20000 in
theorem ggX7_goesOn_X7_tellsNext : GoodIn wsX7_goesOn wsX7_tellsNext := goodIn_r _ [29, 1, 30, 31, 32, 33, 5, 34, 7, 8, 9, 10, 35, 36, 37, 15, 16, 17, 38, 39, 40, 41, 42, 43, 44, 45, 46, 47, 48, 49, 50, 51, 52, 53, 54, 55, 56, 57, 58, 59, 60, 61, 62, 63] (by decide +kernel) (by decide +kernel)
set_option maxRecDepth 20000 in
theorem gX7_goesOn_X7_tellsNext : GoodIn wsX7_goesOn (wsV RX7 190 RX7 yX7_tellsNext wsX7_tellsNext) := goodIn_app (goodIn_of _ (by decide +kernel)) ggX7_goesOn_X7_tellsNext
set_option maxRecDepth 20000 in
theorem ggX7_goesOn_X7_its : GoodIn wsX7_goesOn wsX7_its := goodIn_r _ [10, 1, 38, 39, 40, 41, 42, 43, 44, 45, 46, 47, 48, 49, 50, 51, 52, 53, 54, 55, 56, 57, 58, 59, 60, 61, 62, 63] (by decide +kernel) (by decide +kernel)
set_option maxRecDepth 20000 in
theorem gX7_goesOn_X7_its : GoodIn wsX7_goesOn (wsV RX7 156 RX7 yX7_its wsX7_its) := goodIn_app (goodIn_of _ (by decide +kernel)) ggX7_goesOn_X7_its
theorem dX7_goesOn_0 : decode cX7_goesOn 0 = .ok (.iconst 0, 1) := by decide +kernel
theorem dX7_goesOn_1 : decode cX7_goesOn 1 = .ok (.istore_n 1, 1) := by decide +kernel
theorem dX7_goesOn_2 : decode cX7_goesOn 2 = .ok (.iload_n 1, 1) := by decide +kernel
theorem dX7_goesOn_3 : decode cX7_goesOn 3 = .ok (.aload_n 0, 1) := by decide +kernel
theorem dX7_goesOn_4 : decode cX7_goesOn 4 = .ok (.getfield 7, 3) := by decide +kernel
theorem dX7_goesOn_7 : decode cX7_goesOn 7 = .ok (.iconst 0, 1) := by decide +kernel
theorem dX7_goesOn_8 : decode cX7_goesOn 8 = .ok (.iaload, 1) := by decide +kernel
theorem dX7_goesOn_9 : decode cX7_goesOn 9 = .ok (.if_icmp .ge 64, 3) := by decide +kernel
theorem dX7_goesOn_12 : decode cX7_goesOn 12 = .ok (.bipush 8, 2) := by decide +kernel
theorem dX7_goesOn_14 : decode cX7_goesOn 14 = .ok (.iconst 5, 1) := by decide +kernel
theorem dX7_goesOn_15 : decode cX7_goesOn 15 = .ok (.iload_n 1, 1) := by decide +kernel
theorem dX7_goesOn_16 : decode cX7_goesOn 16 = .ok (.imul, 1) := by decide +kernel
theorem dX7_goesOn_17 : decode cX7_goesOn 17 = .ok (.iadd, 1) := by decide +kernel
theorem dX7_goesOn_18 : decode cX7_goesOn 18 = .ok (.istore_n 2, 1) := by decide +kernel
theorem dX7_goesOn_19 : decode cX7_goesOn 19 = .ok (.aload_n 0, 1) := by decide +kernel
theorem dX7_goesOn_20 : decode cX7_goesOn 20 = .ok (.getfield 7, 3) := by decide +kernel
theorem dX7_goesOn_23 : decode cX7_goesOn 23 = .ok (.iload_n 2, 1) := by decide +kernel
theorem dX7_goesOn_24 : decode cX7_goesOn 24 = .ok (.iconst 2, 1) := by decide +kernel
theorem dX7_goesOn_25 : decode cX7_goesOn 25 = .ok (.iadd, 1) := by decide +kernel
theorem dX7_goesOn_26 : decode cX7_goesOn 26 = .ok (.aload_n 0, 1) := by decide +kernel
theorem dX7_goesOn_27 : decode cX7_goesOn 27 = .ok (.getfield 7, 3) := by decide +kernel
theorem dX7_goesOn_30 : decode cX7_goesOn 30 = .ok (.iload_n 2, 1) := by decide +kernel
theorem dX7_goesOn_31 : decode cX7_goesOn 31 = .ok (.iconst 4, 1) := by decide +kernel
theorem dX7_goesOn_32 : decode cX7_goesOn 32 = .ok (.iadd, 1) := by decide +kernel
theorem dX7_goesOn_33 : decode cX7_goesOn 33 = .ok (.iaload, 1) := by decide +kernel
theorem dX7_goesOn_34 : decode cX7_goesOn 34 = .ok (.iconst 1, 1) := by decide +kernel
theorem dX7_goesOn_35 : decode cX7_goesOn 35 = .ok (.if_icmp .ne 14, 3) := by decide +kernel
theorem dX7_goesOn_38 : decode cX7_goesOn 38 = .ok (.aload_n 0, 1) := by decide +kernel
theorem dX7_goesOn_39 : decode cX7_goesOn 39 = .ok (.getfield 7, 3) := by decide +kernel
theorem dX7_goesOn_42 : decode cX7_goesOn 42 = .ok (.iload_n 2, 1) := by decide +kernel
theorem dX7_goesOn_43 : decode cX7_goesOn 43 = .ok (.iconst 2, 1) := by decide +kernel
theorem dX7_goesOn_44 : decode cX7_goesOn 44 = .ok (.iadd, 1) := by decide +kernel
theorem dX7_goesOn_45 : decode cX7_goesOn 45 = .ok (.iaload, 1) := by decide +kernel
theorem dX7_goesOn_46 : decode cX7_goesOn 46 = .ok (.goto 20, 3) := by decide +kernel
theorem dX7_goesOn_49 : decode cX7_goesOn 49 = .ok (.aload_n 0, 1) := by decide +kernel
theorem dX7_goesOn_50 : decode cX7_goesOn 50 = .ok (.getfield 7, 3) := by decide +kernel
theorem dX7_goesOn_53 : decode cX7_goesOn 53 = .ok (.iload_n 2, 1) := by decide +kernel
theorem dX7_goesOn_54 : decode cX7_goesOn 54 = .ok (.iconst 2, 1) := by decide +kernel
theorem dX7_goesOn_55 : decode cX7_goesOn 55 = .ok (.iadd, 1) := by decide +kernel
theorem dX7_goesOn_56 : decode cX7_goesOn 56 = .ok (.iaload, 1) := by decide +kernel
theorem dX7_goesOn_57 : decode cX7_goesOn 57 = .ok (.aload_n 0, 1) := by decide +kernel
theorem dX7_goesOn_58 : decode cX7_goesOn 58 = .ok (.iload_n 1, 1) := by decide +kernel
theorem dX7_goesOn_59 : decode cX7_goesOn 59 = .ok (.invokevirtual 169, 3) := by decide +kernel
theorem dX7_goesOn_62 : decode cX7_goesOn 62 = .ok (.iadd, 1) := by decide +kernel
theorem dX7_goesOn_63 : decode cX7_goesOn 63 = .ok (.invokestatic 184, 3) := by decide +kernel
theorem dX7_goesOn_66 : decode cX7_goesOn 66 = .ok (.iastore, 1) := by decide +kernel
theorem dX7_goesOn_67 : decode cX7_goesOn 67 = .ok (.iinc 1 1, 3) := by decide +kernel
theorem dX7_goesOn_70 : decode cX7_goesOn 70 = .ok (.goto (-68), 3) := by decide +kernel
theorem dX7_goesOn_73 : decode cX7_goesOn 73 = .ok (.aload_n 0, 1) := by decide +kernel
theorem dX7_goesOn_74 : decode cX7_goesOn 74 = .ok (.getfield 7, 3) := by decide +kernel
theorem dX7_goesOn_77 : decode cX7_goesOn 77 = .ok (.iconst 4, 1) := by decide +kernel
theorem dX7_goesOn_78 : decode cX7_goesOn 78 = .ok (.iaload, 1) := by decide +kernel
theorem dX7_goesOn_79 : decode cX7_goesOn 79 = .ok (.istore_n 1, 1) := by decide +kernel
theorem dX7_goesOn_80 : decode cX7_goesOn 80 = .ok (.iload_n 1, 1) := by decide +kernel
theorem dX7_goesOn_81 : decode cX7_goesOn 81 = .ok (.ifCond .le 32, 3) := by decide +kernel
theorem dX7_goesOn_84 : decode cX7_goesOn 84 = .ok (.aload_n 0, 1) := by decide +kernel
theorem dX7_goesOn_85 : decode cX7_goesOn 85 = .ok (.invokevirtual 187, 3) := by decide +kernel
theorem dX7_goesOn_88 : decode cX7_goesOn 88 = .ok (.istore_n 2, 1) := by decide +kernel
theorem dX7_goesOn_89 : decode cX7_goesOn 89 = .ok (.iload_n 2, 1) := by decide +kernel
theorem dX7_goesOn_90 : decode cX7_goesOn 90 = .ok (.ifCond .ge 7, 3) := by decide +kernel
theorem dX7_goesOn_93 : decode cX7_goesOn 93 = .ok (.iconst 0, 1) := by decide +kernel
theorem dX7_goesOn_94 : decode cX7_goesOn 94 = .ok (.goto 6, 3) := by decide +kernel
theorem dX7_goesOn_97 : decode cX7_goesOn 97 = .ok (.iload_n 1, 1) := by decide +kernel
theorem dX7_goesOn_98 : decode cX7_goesOn 98 = .ok (.iconst 1, 1) := by decide +kernel
theorem dX7_goesOn_99 : decode cX7_goesOn 99 = .ok (.isub, 1) := by decide +kernel
theorem dX7_goesOn_100 : decode cX7_goesOn 100 = .ok (.istore_n 1, 1) := by decide +kernel
theorem dX7_goesOn_101 : decode cX7_goesOn 101 = .ok (.iload_n 2, 1) := by decide +kernel
theorem dX7_goesOn_102 : decode cX7_goesOn 102 = .ok (.ifCond .lt 8, 3) := by decide +kernel
theorem dX7_goesOn_105 : decode cX7_goesOn 105 = .ok (.aload_n 0, 1) := by decide +kernel
theorem dX7_goesOn_106 : decode cX7_goesOn 106 = .ok (.iload_n 2, 1) := by decide +kernel
theorem dX7_goesOn_107 : decode cX7_goesOn 107 = .ok (.invokevirtual 190, 3) := by decide +kernel
theorem dX7_goesOn_110 : decode cX7_goesOn 110 = .ok (.goto (-30), 3) := by decide +kernel
theorem dX7_goesOn_113 : decode cX7_goesOn 113 = .ok (.iconst 0, 1) := by decide +kernel
theorem dX7_goesOn_114 : decode cX7_goesOn 114 = .ok (.istore_n 2, 1) := by decide +kernel
theorem dX7_goesOn_115 : decode cX7_goesOn 115 = .ok (.iload_n 2, 1) := by decide +kernel
theorem dX7_goesOn_116 : decode cX7_goesOn 116 = .ok (.aload_n 0, 1) := by decide +kernel
theorem dX7_goesOn_117 : decode cX7_goesOn 117 = .ok (.getfield 7, 3) := by decide +kernel
theorem dX7_goesOn_120 : decode cX7_goesOn 120 = .ok (.iconst 0, 1) := by decide +kernel
theorem dX7_goesOn_121 : decode cX7_goesOn 121 = .ok (.iaload, 1) := by decide +kernel
theorem dX7_goesOn_122 : decode cX7_goesOn 122 = .ok (.if_icmp .ge 46, 3) := by decide +kernel
theorem dX7_goesOn_125 : decode cX7_goesOn 125 = .ok (.aload_n 0, 1) := by decide +kernel
theorem dX7_goesOn_126 : decode cX7_goesOn 126 = .ok (.getfield 7, 3) := by decide +kernel
theorem dX7_goesOn_129 : decode cX7_goesOn 129 = .ok (.bipush 8, 2) := by decide +kernel
theorem dX7_goesOn_131 : decode cX7_goesOn 131 = .ok (.iconst 5, 1) := by decide +kernel
theorem dX7_goesOn_132 : decode cX7_goesOn 132 = .ok (.iload_n 2, 1) := by decide +kernel
theorem dX7_goesOn_133 : decode cX7_goesOn 133 = .ok (.imul, 1) := by decide +kernel
theorem dX7_goesOn_134 : decode cX7_goesOn 134 = .ok (.iadd, 1) := by decide +kernel
theorem dX7_goesOn_135 : decode cX7_goesOn 135 = .ok (.iconst 4, 1) := by decide +kernel
theorem dX7_goesOn_136 : decode cX7_goesOn 136 = .ok (.iadd, 1) := by decide +kernel
theorem dX7_goesOn_137 : decode cX7_goesOn 137 = .ok (.dup2, 1) := by decide +kernel
theorem dX7_goesOn_138 : decode cX7_goesOn 138 = .ok (.iaload, 1) := by decide +kernel
theorem dX7_goesOn_139 : decode cX7_goesOn 139 = .ok (.aload_n 0, 1) := by decide +kernel
theorem dX7_goesOn_140 : decode cX7_goesOn 140 = .ok (.iload_n 2, 1) := by decide +kernel
theorem dX7_goesOn_141 : decode cX7_goesOn 141 = .ok (.iconst 2, 1) := by decide +kernel
theorem dX7_goesOn_142 : decode cX7_goesOn 142 = .ok (.invokevirtual 156, 3) := by decide +kernel
theorem dX7_goesOn_145 : decode cX7_goesOn 145 = .ok (.aload_n 0, 1) := by decide +kernel
theorem dX7_goesOn_146 : decode cX7_goesOn 146 = .ok (.getfield 7, 3) := by decide +kernel
theorem dX7_goesOn_149 : decode cX7_goesOn 149 = .ok (.bipush 6, 2) := by decide +kernel
theorem dX7_goesOn_151 : decode cX7_goesOn 151 = .ok (.iaload, 1) := by decide +kernel
theorem dX7_goesOn_152 : decode cX7_goesOn 152 = .ok (.if_icmp .le 7, 3) := by decide +kernel
theorem dX7_goesOn_155 : decode cX7_goesOn 155 = .ok (.iconst 1, 1) := by decide +kernel
theorem dX7_goesOn_156 : decode cX7_goesOn 156 = .ok (.goto 4, 3) := by decide +kernel
theorem dX7_goesOn_159 : decode cX7_goesOn 159 = .ok (.iconst 0, 1) := by decide +kernel
theorem dX7_goesOn_160 : decode cX7_goesOn 160 = .ok (.ior, 1) := by decide +kernel
theorem dX7_goesOn_161 : decode cX7_goesOn 161 = .ok (.iastore, 1) := by decide +kernel
theorem dX7_goesOn_162 : decode cX7_goesOn 162 = .ok (.iinc 2 1, 3) := by decide +kernel
theorem dX7_goesOn_165 : decode cX7_goesOn 165 = .ok (.goto (-50), 3) := by decide +kernel
theorem dX7_goesOn_168 : decode cX7_goesOn 168 = .ok (.aload_n 0, 1) := by decide +kernel
theorem dX7_goesOn_169 : decode cX7_goesOn 169 = .ok (.getfield 7, 3) := by decide +kernel
theorem dX7_goesOn_172 : decode cX7_goesOn 172 = .ok (.iconst 1, 1) := by decide +kernel
theorem dX7_goesOn_173 : decode cX7_goesOn 173 = .ok (.dup2, 1) := by decide +kernel
theorem dX7_goesOn_174 : decode cX7_goesOn 174 = .ok (.iaload, 1) := by decide +kernel
theorem dX7_goesOn_175 : decode cX7_goesOn 175 = .ok (.iconst 1, 1) := by decide +kernel
theorem dX7_goesOn_176 : decode cX7_goesOn 176 = .ok (.iadd, 1) := by decide +kernel
theorem dX7_goesOn_177 : decode cX7_goesOn 177 = .ok (.iastore, 1) := by decide +kernel
theorem dX7_goesOn_178 : decode cX7_goesOn 178 = .ok (.return_, 1) := by decide +kernel
set_option maxRecDepth 20000 in
theorem ggX7_goesOnMany_X7_goesOn : GoodIn wsX7_goesOnMany wsX7_goesOn := goodIn_r _ [5, 6, 7, 8, 9, 4, 10, 11, 12, 13, 14, 15, 16, 17, 18, 19, 20, 21, 22, 23, 24, 25, 26, 27, 28, 29, 30, 31, 32, 33, 34, 35, 36, 37, 38, 39, 40, 41, 42, 43, 44, 45, 46, 47, 48, 49, 50, 51, 52, 53, 54, 55, 56, 57, 58, 59, 60, 61, 62, 63, 64, 65, 66, 67] (by decide +kernel) (by decide +kernel)
set_option maxRecDepth 20000 in
theorem gX7_goesOnMany_X7_goesOn : GoodIn wsX7_goesOnMany (wsV RX7 193 RX7 yX7_goesOn wsX7_goesOn) := goodIn_app (goodIn_of _ (by decide +kernel)) ggX7_goesOnMany_X7_goesOn
theorem dX7_goesOnMany_0 : decode cX7_goesOnMany 0 = .ok (.iconst 0, 1) := by decide +kernel
theorem dX7_goesOnMany_1 : decode cX7_goesOnMany 1 = .ok (.istore_n 2, 1) := by decide +kernel
theorem dX7_goesOnMany_2 : decode cX7_goesOnMany 2 = .ok (.iload_n 2, 1) := by decide +kernel
theorem dX7_goesOnMany_3 : decode cX7_goesOnMany 3 = .ok (.iload_n 1, 1) := by decide +kernel
theorem dX7_goesOnMany_4 : decode cX7_goesOnMany 4 = .ok (.if_icmp .ge 13, 3) := by decide +kernel
theorem dX7_goesOnMany_7 : decode cX7_goesOnMany 7 = .ok (.aload_n 0, 1) := by decide +kernel
theorem dX7_goesOnMany_8 : decode cX7_goesOnMany 8 = .ok (.invokevirtual 193, 3) := by decide +kernel
theorem dX7_goesOnMany_11 : decode cX7_goesOnMany 11 = .ok (.iinc 2 1, 3) := by decide +kernel
theorem dX7_goesOnMany_14 : decode cX7_goesOnMany 14 = .ok (.goto (-12), 3) := by decide +kernel
theorem dX7_goesOnMany_17 : decode cX7_goesOnMany 17 = .ok (.return_, 1) := by decide +kernel
set_option maxRecDepth 20000 in
theorem ggX7_courses_X7_isIn : GoodIn wsX7_courses wsX7_isIn := goodIn_r _ [6] (by decide +kernel) (by decide +kernel)
set_option maxRecDepth 20000 in
theorem gX7_courses_X7_isIn : GoodIn wsX7_courses (va_wsS RX7 54 yX7_isIn wsX7_isIn) := goodIn_app (goodIn_of _ (by decide +kernel)) ggX7_courses_X7_isIn
set_option maxRecDepth 20000 in
theorem ggX7_courses_X7_goesOnMany : GoodIn wsX7_courses wsX7_goesOnMany := goodIn_r _ [10, 11, 12, 13, 5, 14, 2, 15, 16, 17, 18, 19, 20, 21, 22, 23, 24, 25, 26, 27, 28, 29, 30, 31, 32, 33, 34, 35, 36, 37, 38, 39, 40, 41, 42, 43, 44, 45, 46, 47, 48, 49, 50, 51, 52, 53, 54, 55, 56, 57, 58, 59, 60, 61, 62, 63, 64, 65, 66, 67, 68, 69, 70, 71, 72, 73, 74, 75] (by decide +kernel) (by decide +kernel)
set_option maxRecDepth 20000 in
theorem gX7_courses_X7_goesOnMany : GoodIn wsX7_courses (wsV RX7 198 RX7 yX7_goesOnMany wsX7_goesOnMany) := goodIn_app (goodIn_of _ (by decide +kernel)) ggX7_courses_X7_goesOnMany
theorem dX7_courses_0 : decode cX7_courses 0 = .ok (.iload_n 1, 1) := by decide +kernel
theorem dX7_courses_1 : decode cX7_courses 1 = .ok (.i2l, 1) := by decide +kernel
theorem dX7_courses_2 : decode cX7_courses 2 = .ok (.lconst 1, 1) := by decide +kernel
theorem dX7_courses_3 : decode cX7_courses 3 = .ok (.ldc2_w 196, 3) := by decide +kernel
theorem dX7_courses_6 : decode cX7_courses 6 = .ok (.invokestatic 54, 3) := by decide +kernel
theorem dX7_courses_9 : decode cX7_courses 9 = .ok (.ifCond .ne 5, 3) := by decide +kernel
theorem dX7_courses_12 : decode cX7_courses 12 = .ok (.iconst (-1), 1) := by decide +kernel
theorem dX7_courses_13 : decode cX7_courses 13 = .ok (.ireturn, 1) := by decide +kernel
theorem dX7_courses_14 : decode cX7_courses 14 = .ok (.aload_n 0, 1) := by decide +kernel
theorem dX7_courses_15 : decode cX7_courses 15 = .ok (.iload_n 1, 1) := by decide +kernel
theorem dX7_courses_16 : decode cX7_courses 16 = .ok (.invokevirtual 198, 3) := by decide +kernel
theorem dX7_courses_19 : decode cX7_courses 19 = .ok (.aload_n 0, 1) := by decide +kernel
theorem dX7_courses_20 : decode cX7_courses 20 = .ok (.getfield 7, 3) := by decide +kernel
theorem dX7_courses_23 : decode cX7_courses 23 = .ok (.iconst 3, 1) := by decide +kernel
theorem dX7_courses_24 : decode cX7_courses 24 = .ok (.iaload, 1) := by decide +kernel
theorem dX7_courses_25 : decode cX7_courses 25 = .ok (.ireturn, 1) := by decide +kernel
set_option maxRecDepth 20000 in
theorem ggX7_seed_X7_becomes : GoodIn wsX7_seed wsX7_becomes := goodIn_r _ [5, 6, 7, 8, 9, 10, 11, 12, 13, 14, 15, 16, 17, 18, 19, 20, 21, 22, 23, 24, 25, 26, 27, 28, 29, 30, 31, 32] (by decide +kernel) (by decide +kernel)
set_option maxRecDepth 20000 in
theorem gX7_seed_X7_becomes : GoodIn wsX7_seed (wsV RX7 145 RX7 yX7_becomes wsX7_becomes) := goodIn_app (goodIn_of _ (by decide +kernel)) ggX7_seed_X7_becomes
theorem dX7_seed_0 : decode cX7_seed 0 = .ok (.aload_n 0, 1) := by decide +kernel
theorem dX7_seed_1 : decode cX7_seed 1 = .ok (.iconst 2, 1) := by decide +kernel
theorem dX7_seed_2 : decode cX7_seed 2 = .ok (.iload_n 1, 1) := by decide +kernel
theorem dX7_seed_3 : decode cX7_seed 3 = .ok (.invokevirtual 145, 3) := by decide +kernel
theorem dX7_seed_6 : decode cX7_seed 6 = .ok (.ireturn, 1) := by decide +kernel
theorem dX7_drawn_0 : decode cX7_drawn 0 = .ok (.aload_n 0, 1) := by decide +kernel
theorem dX7_drawn_1 : decode cX7_drawn 1 = .ok (.getfield 7, 3) := by decide +kernel
theorem dX7_drawn_4 : decode cX7_drawn 4 = .ok (.iconst 2, 1) := by decide +kernel
theorem dX7_drawn_5 : decode cX7_drawn 5 = .ok (.aload_n 0, 1) := by decide +kernel
theorem dX7_drawn_6 : decode cX7_drawn 6 = .ok (.getfield 7, 3) := by decide +kernel
theorem dX7_drawn_9 : decode cX7_drawn 9 = .ok (.iconst 2, 1) := by decide +kernel
theorem dX7_drawn_10 : decode cX7_drawn 10 = .ok (.iaload, 1) := by decide +kernel
theorem dX7_drawn_11 : decode cX7_drawn 11 = .ok (.ldc 201, 2) := by decide +kernel
theorem dX7_drawn_13 : decode cX7_drawn 13 = .ok (.imul, 1) := by decide +kernel
theorem dX7_drawn_14 : decode cX7_drawn 14 = .ok (.sipush 12345, 3) := by decide +kernel
theorem dX7_drawn_17 : decode cX7_drawn 17 = .ok (.iadd, 1) := by decide +kernel
theorem dX7_drawn_18 : decode cX7_drawn 18 = .ok (.iastore, 1) := by decide +kernel
theorem dX7_drawn_19 : decode cX7_drawn 19 = .ok (.aload_n 0, 1) := by decide +kernel
theorem dX7_drawn_20 : decode cX7_drawn 20 = .ok (.getfield 7, 3) := by decide +kernel
theorem dX7_drawn_23 : decode cX7_drawn 23 = .ok (.iconst 2, 1) := by decide +kernel
theorem dX7_drawn_24 : decode cX7_drawn 24 = .ok (.iaload, 1) := by decide +kernel
theorem dX7_drawn_25 : decode cX7_drawn 25 = .ok (.bipush 16, 2) := by decide +kernel
theorem dX7_drawn_27 : decode cX7_drawn 27 = .ok (.iushr, 1) := by decide +kernel
theorem dX7_drawn_28 : decode cX7_drawn 28 = .ok (.ireturn, 1) := by decide +kernel
set_option maxRecDepth 20000 in
theorem ggX7_course_X7_drawn : GoodIn wsX7_course wsX7_drawn := goodIn_r _ [6, 1, 7, 47, 48, 49, 50, 51, 52, 53, 54, 55, 56, 57, 58, 59, 60, 61, 62, 63, 64, 65, 66, 67, 68, 69, 70, 71, 72] (by decide +kernel) (by decide +kernel)
set_option maxRecDepth 20000 in
theorem gX7_course_X7_drawn : GoodIn wsX7_course (wsV RX7 202 RX7 yX7_drawn wsX7_drawn) := goodIn_app (goodIn_of _ (by decide +kernel)) ggX7_course_X7_drawn
set_option maxRecDepth 20000 in
theorem ggX7_course_X7_goesOn : GoodIn wsX7_course wsX7_goesOn := goodIn_r _ [11, 1, 12, 13, 14, 5, 15, 16, 17, 18, 19, 20, 21, 22, 23, 24, 25, 26, 27, 28, 29, 30, 31, 32, 33, 34, 35, 36, 37, 38, 39, 40, 41, 42, 43, 44, 45, 46, 47, 48, 49, 50, 51, 52, 53, 54, 55, 56, 57, 58, 59, 60, 61, 62, 63, 64, 65, 66, 67, 68, 69, 70, 71, 72] (by decide +kernel) (by decide +kernel)
set_option maxRecDepth 20000 in
theorem gX7_course_X7_goesOn : GoodIn wsX7_course (wsV RX7 193 RX7 yX7_goesOn wsX7_goesOn) := goodIn_app (goodIn_of _ (by decide +kernel)) ggX7_course_X7_goesOn
theorem dX7_course_0 : decode cX7_course 0 = .ok (.aload_n 0, 1) := by decide +kernel
theorem dX7_course_1 : decode cX7_course 1 = .ok (.getfield 7, 3) := by decide +kernel
theorem dX7_course_4 : decode cX7_course 4 = .ok (.iconst 0, 1) := by decide +kernel
theorem dX7_course_5 : decode cX7_course 5 = .ok (.iaload, 1) := by decide +kernel
theorem dX7_course_6 : decode cX7_course 6 = .ok (.ifCond .le 52, 3) := by decide +kernel
theorem dX7_course_9 : decode cX7_course 9 = .ok (.aload_n 0, 1) := by decide +kernel
theorem dX7_course_10 : decode cX7_course 10 = .ok (.invokevirtual 202, 3) := by decide +kernel
theorem dX7_course_13 : decode cX7_course 13 = .ok (.aload_n 0, 1) := by decide +kernel
theorem dX7_course_14 : decode cX7_course 14 = .ok (.getfield 7, 3) := by decide +kernel
theorem dX7_course_17 : decode cX7_course 17 = .ok (.iconst 0, 1) := by decide +kernel
theorem dX7_course_18 : decode cX7_course 18 = .ok (.iaload, 1) := by decide +kernel
theorem dX7_course_19 : decode cX7_course 19 = .ok (.irem, 1) := by decide +kernel
theorem dX7_course_20 : decode cX7_course 20 = .ok (.istore_n 1, 1) := by decide +kernel
theorem dX7_course_21 : decode cX7_course 21 = .ok (.aload_n 0, 1) := by decide +kernel
theorem dX7_course_22 : decode cX7_course 22 = .ok (.invokevirtual 202, 3) := by decide +kernel
theorem dX7_course_25 : decode cX7_course 25 = .ok (.bipush 100, 2) := by decide +kernel
theorem dX7_course_27 : decode cX7_course 27 = .ok (.irem, 1) := by decide +kernel
theorem dX7_course_28 : decode cX7_course 28 = .ok (.aload_n 0, 1) := by decide +kernel
theorem dX7_course_29 : decode cX7_course 29 = .ok (.getfield 7, 3) := by decide +kernel
theorem dX7_course_32 : decode cX7_course 32 = .ok (.bipush 7, 2) := by decide +kernel
theorem dX7_course_34 : decode cX7_course 34 = .ok (.iaload, 1) := by decide +kernel
theorem dX7_course_35 : decode cX7_course 35 = .ok (.if_icmp .ge 23, 3) := by decide +kernel
theorem dX7_course_38 : decode cX7_course 38 = .ok (.aload_n 0, 1) := by decide +kernel
theorem dX7_course_39 : decode cX7_course 39 = .ok (.getfield 7, 3) := by decide +kernel
theorem dX7_course_42 : decode cX7_course 42 = .ok (.bipush 8, 2) := by decide +kernel
theorem dX7_course_44 : decode cX7_course 44 = .ok (.iconst 5, 1) := by decide +kernel
theorem dX7_course_45 : decode cX7_course 45 = .ok (.iload_n 1, 1) := by decide +kernel
theorem dX7_course_46 : decode cX7_course 46 = .ok (.imul, 1) := by decide +kernel
theorem dX7_course_47 : decode cX7_course 47 = .ok (.iadd, 1) := by decide +kernel
theorem dX7_course_48 : decode cX7_course 48 = .ok (.iconst 1, 1) := by decide +kernel
theorem dX7_course_49 : decode cX7_course 49 = .ok (.iadd, 1) := by decide +kernel
theorem dX7_course_50 : decode cX7_course 50 = .ok (.aload_n 0, 1) := by decide +kernel
theorem dX7_course_51 : decode cX7_course 51 = .ok (.invokevirtual 202, 3) := by decide +kernel
theorem dX7_course_54 : decode cX7_course 54 = .ok (.bipush 8, 2) := by decide +kernel
theorem dX7_course_56 : decode cX7_course 56 = .ok (.irem, 1) := by decide +kernel
theorem dX7_course_57 : decode cX7_course 57 = .ok (.iastore, 1) := by decide +kernel
theorem dX7_course_58 : decode cX7_course 58 = .ok (.aload_n 0, 1) := by decide +kernel
theorem dX7_course_59 : decode cX7_course 59 = .ok (.invokevirtual 193, 3) := by decide +kernel
theorem dX7_course_62 : decode cX7_course 62 = .ok (.aload_n 0, 1) := by decide +kernel
theorem dX7_course_63 : decode cX7_course 63 = .ok (.getfield 7, 3) := by decide +kernel
theorem dX7_course_66 : decode cX7_course 66 = .ok (.iconst 3, 1) := by decide +kernel
theorem dX7_course_67 : decode cX7_course 67 = .ok (.iaload, 1) := by decide +kernel
theorem dX7_course_68 : decode cX7_course 68 = .ok (.ireturn, 1) := by decide +kernel
set_option maxRecDepth 20000 in
theorem ggX7_luck_X7_isIn : GoodIn wsX7_luck wsX7_isIn := goodIn_r _ [7] (by decide +kernel) (by decide +kernel)
set_option maxRecDepth 20000 in
theorem gX7_luck_X7_isIn : GoodIn wsX7_luck (va_wsS RX7 54 yX7_isIn wsX7_isIn) := goodIn_app (goodIn_of _ (by decide +kernel)) ggX7_luck_X7_isIn
set_option maxRecDepth 20000 in
theorem ggX7_luck_X7_taleBy : GoodIn wsX7_luck wsX7_taleBy := goodIn_r _ [11, 2, 3, 12, 13, 6, 14, 15, 16, 17, 18, 19, 20, 21, 22, 23, 24, 25, 26, 27, 28, 29, 30, 31, 32, 33, 34, 35, 36, 37, 38, 39, 40, 41, 42, 43, 44, 45, 46, 47, 48, 49, 50, 51, 52, 53, 54, 55, 56, 57, 67, 68, 69, 70, 71, 72, 73, 74, 75, 76, 77, 78, 79, 80, 81, 82, 83, 84, 85, 86, 87, 88, 89, 90, 91, 92] (by decide +kernel) (by decide +kernel)
set_option maxRecDepth 20000 in
theorem gX7_luck_X7_taleBy : GoodIn wsX7_luck (wsV RX7 207 RX7 yX7_taleBy wsX7_taleBy) := goodIn_app (goodIn_of _ (by decide +kernel)) ggX7_luck_X7_taleBy
set_option maxRecDepth 20000 in
theorem ggX7_luck_X7_copyRow : GoodIn wsX7_luck wsX7_copyRow := goodIn_r _ [14] (by decide +kernel) (by decide +kernel)
set_option maxRecDepth 20000 in
theorem gX7_luck_X7_copyRow : GoodIn wsX7_luck (va_wsS RX7 133 yX7_copyRow wsX7_copyRow) := goodIn_app (goodIn_of _ (by decide +kernel)) ggX7_luck_X7_copyRow
set_option maxRecDepth 20000 in
theorem ggX7_luck_X7_course : GoodIn wsX7_luck wsX7_course := goodIn_r _ [61, 2, 62, 63, 64, 6, 65, 66, 19, 20, 21, 22, 23, 24, 25, 26, 27, 28, 29, 30, 31, 32, 33, 34, 35, 36, 37, 38, 39, 40, 41, 42, 43, 44, 45, 46, 47, 48, 49, 50, 51, 52, 53, 54, 55, 56, 57, 67, 68, 69, 70, 71, 72, 73, 74, 75, 76, 77, 78, 79, 80, 81, 82, 83, 84, 85, 86, 87, 88, 89, 90, 91, 92] (by decide +kernel) (by decide +kernel)
set_option maxRecDepth 20000 in
theorem gX7_luck_X7_course : GoodIn wsX7_luck (wsV RX7 210 RX7 yX7_course wsX7_course) := goodIn_app (goodIn_of _ (by decide +kernel)) ggX7_luck_X7_course
theorem dX7_luck_0 : decode cX7_luck 0 = .ok (.iload_n 1, 1) := by decide +kernel
theorem dX7_luck_1 : decode cX7_luck 1 = .ok (.i2l, 1) := by decide +kernel
theorem dX7_luck_2 : decode cX7_luck 2 = .ok (.lconst 1, 1) := by decide +kernel
theorem dX7_luck_3 : decode cX7_luck 3 = .ok (.ldc2_w 205, 3) := by decide +kernel
theorem dX7_luck_6 : decode cX7_luck 6 = .ok (.invokestatic 54, 3) := by decide +kernel
theorem dX7_luck_9 : decode cX7_luck 9 = .ok (.ifCond .ne 5, 3) := by decide +kernel
theorem dX7_luck_12 : decode cX7_luck 12 = .ok (.iconst (-1), 1) := by decide +kernel
theorem dX7_luck_13 : decode cX7_luck 13 = .ok (.ireturn, 1) := by decide +kernel
theorem dX7_luck_14 : decode cX7_luck 14 = .ok (.aload_n 0, 1) := by decide +kernel
theorem dX7_luck_15 : decode cX7_luck 15 = .ok (.iconst 1, 1) := by decide +kernel
theorem dX7_luck_16 : decode cX7_luck 16 = .ok (.invokevirtual 207, 3) := by decide +kernel
theorem dX7_luck_19 : decode cX7_luck 19 = .ok (.istore_n 2, 1) := by decide +kernel
theorem dX7_luck_20 : decode cX7_luck 20 = .ok (.aload_n 0, 1) := by decide +kernel
theorem dX7_luck_21 : decode cX7_luck 21 = .ok (.getfield 7, 3) := by decide +kernel
theorem dX7_luck_24 : decode cX7_luck 24 = .ok (.aload_n 0, 1) := by decide +kernel
theorem dX7_luck_25 : decode cX7_luck 25 = .ok (.getfield 16, 3) := by decide +kernel
theorem dX7_luck_28 : decode cX7_luck 28 = .ok (.invokestatic 133, 3) := by decide +kernel
theorem dX7_luck_31 : decode cX7_luck 31 = .ok (.aload_n 0, 1) := by decide +kernel
theorem dX7_luck_32 : decode cX7_luck 32 = .ok (.getfield 7, 3) := by decide +kernel
theorem dX7_luck_35 : decode cX7_luck 35 = .ok (.iconst 2, 1) := by decide +kernel
theorem dX7_luck_36 : decode cX7_luck 36 = .ok (.iaload, 1) := by decide +kernel
theorem dX7_luck_37 : decode cX7_luck 37 = .ok (.istore_n 3, 1) := by decide +kernel
theorem dX7_luck_38 : decode cX7_luck 38 = .ok (.iconst 0, 1) := by decide +kernel
theorem dX7_luck_39 : decode cX7_luck 39 = .ok (.istore 4, 2) := by decide +kernel
theorem dX7_luck_41 : decode cX7_luck 41 = .ok (.iconst 0, 1) := by decide +kernel
theorem dX7_luck_42 : decode cX7_luck 42 = .ok (.istore 5, 2) := by decide +kernel
theorem dX7_luck_44 : decode cX7_luck 44 = .ok (.iload 5, 2) := by decide +kernel
theorem dX7_luck_46 : decode cX7_luck 46 = .ok (.iload_n 1, 1) := by decide +kernel
theorem dX7_luck_47 : decode cX7_luck 47 = .ok (.if_icmp .ge 52, 3) := by decide +kernel
theorem dX7_luck_50 : decode cX7_luck 50 = .ok (.aload_n 0, 1) := by decide +kernel
theorem dX7_luck_51 : decode cX7_luck 51 = .ok (.getfield 16, 3) := by decide +kernel
theorem dX7_luck_54 : decode cX7_luck 54 = .ok (.aload_n 0, 1) := by decide +kernel
theorem dX7_luck_55 : decode cX7_luck 55 = .ok (.getfield 7, 3) := by decide +kernel
theorem dX7_luck_58 : decode cX7_luck 58 = .ok (.invokestatic 133, 3) := by decide +kernel
theorem dX7_luck_61 : decode cX7_luck 61 = .ok (.aload_n 0, 1) := by decide +kernel
theorem dX7_luck_62 : decode cX7_luck 62 = .ok (.getfield 7, 3) := by decide +kernel
theorem dX7_luck_65 : decode cX7_luck 65 = .ok (.iconst 2, 1) := by decide +kernel
theorem dX7_luck_66 : decode cX7_luck 66 = .ok (.iload_n 3, 1) := by decide +kernel
theorem dX7_luck_67 : decode cX7_luck 67 = .ok (.iastore, 1) := by decide +kernel
theorem dX7_luck_68 : decode cX7_luck 68 = .ok (.iload 4, 2) := by decide +kernel
theorem dX7_luck_70 : decode cX7_luck 70 = .ok (.aload_n 0, 1) := by decide +kernel
theorem dX7_luck_71 : decode cX7_luck 71 = .ok (.invokevirtual 210, 3) := by decide +kernel
theorem dX7_luck_74 : decode cX7_luck 74 = .ok (.iload_n 2, 1) := by decide +kernel
theorem dX7_luck_75 : decode cX7_luck 75 = .ok (.if_icmp .le 7, 3) := by decide +kernel
theorem dX7_luck_78 : decode cX7_luck 78 = .ok (.iconst 1, 1) := by decide +kernel
theorem dX7_luck_79 : decode cX7_luck 79 = .ok (.goto 4, 3) := by decide +kernel
theorem dX7_luck_82 : decode cX7_luck 82 = .ok (.iconst 0, 1) := by decide +kernel
theorem dX7_luck_83 : decode cX7_luck 83 = .ok (.iadd, 1) := by decide +kernel
theorem dX7_luck_84 : decode cX7_luck 84 = .ok (.istore 4, 2) := by decide +kernel
theorem dX7_luck_86 : decode cX7_luck 86 = .ok (.aload_n 0, 1) := by decide +kernel
theorem dX7_luck_87 : decode cX7_luck 87 = .ok (.getfield 7, 3) := by decide +kernel
theorem dX7_luck_90 : decode cX7_luck 90 = .ok (.iconst 2, 1) := by decide +kernel
theorem dX7_luck_91 : decode cX7_luck 91 = .ok (.iaload, 1) := by decide +kernel
theorem dX7_luck_92 : decode cX7_luck 92 = .ok (.istore_n 3, 1) := by decide +kernel
theorem dX7_luck_93 : decode cX7_luck 93 = .ok (.iinc 5 1, 3) := by decide +kernel
theorem dX7_luck_96 : decode cX7_luck 96 = .ok (.goto (-52), 3) := by decide +kernel
theorem dX7_luck_99 : decode cX7_luck 99 = .ok (.aload_n 0, 1) := by decide +kernel
theorem dX7_luck_100 : decode cX7_luck 100 = .ok (.getfield 16, 3) := by decide +kernel
theorem dX7_luck_103 : decode cX7_luck 103 = .ok (.aload_n 0, 1) := by decide +kernel
theorem dX7_luck_104 : decode cX7_luck 104 = .ok (.getfield 7, 3) := by decide +kernel
theorem dX7_luck_107 : decode cX7_luck 107 = .ok (.invokestatic 133, 3) := by decide +kernel
theorem dX7_luck_110 : decode cX7_luck 110 = .ok (.iload 4, 2) := by decide +kernel
theorem dX7_luck_112 : decode cX7_luck 112 = .ok (.ireturn, 1) := by decide +kernel
set_option maxRecDepth 20000 in
theorem ggX7_drownedOnes_X7_its : GoodIn wsX7_drownedOnes wsX7_its := goodIn_r _ [6, 1, 7, 8, 9, 10, 11, 12, 13, 14, 15, 16, 17, 18, 19, 20, 21, 22, 23, 24, 25, 26, 27, 28, 29, 30, 31, 32] (by decide +kernel) (by decide +kernel)
set_option maxRecDepth 20000 in
theorem gX7_drownedOnes_X7_its : GoodIn wsX7_drownedOnes (wsV RX7 156 RX7 yX7_its wsX7_its) := goodIn_app (goodIn_of _ (by decide +kernel)) ggX7_drownedOnes_X7_its
theorem dX7_drownedOnes_0 : decode cX7_drownedOnes 0 = .ok (.iconst 0, 1) := by decide +kernel
theorem dX7_drownedOnes_1 : decode cX7_drownedOnes 1 = .ok (.istore_n 1, 1) := by decide +kernel
theorem dX7_drownedOnes_2 : decode cX7_drownedOnes 2 = .ok (.iconst 0, 1) := by decide +kernel
theorem dX7_drownedOnes_3 : decode cX7_drownedOnes 3 = .ok (.istore_n 2, 1) := by decide +kernel
theorem dX7_drownedOnes_4 : decode cX7_drownedOnes 4 = .ok (.iload_n 2, 1) := by decide +kernel
theorem dX7_drownedOnes_5 : decode cX7_drownedOnes 5 = .ok (.aload_n 0, 1) := by decide +kernel
theorem dX7_drownedOnes_6 : decode cX7_drownedOnes 6 = .ok (.getfield 7, 3) := by decide +kernel
theorem dX7_drownedOnes_9 : decode cX7_drownedOnes 9 = .ok (.iconst 0, 1) := by decide +kernel
theorem dX7_drownedOnes_10 : decode cX7_drownedOnes 10 = .ok (.iaload, 1) := by decide +kernel
theorem dX7_drownedOnes_11 : decode cX7_drownedOnes 11 = .ok (.if_icmp .ge 20, 3) := by decide +kernel
theorem dX7_drownedOnes_14 : decode cX7_drownedOnes 14 = .ok (.iload_n 1, 1) := by decide +kernel
theorem dX7_drownedOnes_15 : decode cX7_drownedOnes 15 = .ok (.aload_n 0, 1) := by decide +kernel
theorem dX7_drownedOnes_16 : decode cX7_drownedOnes 16 = .ok (.iload_n 2, 1) := by decide +kernel
theorem dX7_drownedOnes_17 : decode cX7_drownedOnes 17 = .ok (.iconst 4, 1) := by decide +kernel
theorem dX7_drownedOnes_18 : decode cX7_drownedOnes 18 = .ok (.invokevirtual 156, 3) := by decide +kernel
theorem dX7_drownedOnes_21 : decode cX7_drownedOnes 21 = .ok (.iload_n 2, 1) := by decide +kernel
theorem dX7_drownedOnes_22 : decode cX7_drownedOnes 22 = .ok (.ishl, 1) := by decide +kernel
theorem dX7_drownedOnes_23 : decode cX7_drownedOnes 23 = .ok (.ior, 1) := by decide +kernel
theorem dX7_drownedOnes_24 : decode cX7_drownedOnes 24 = .ok (.istore_n 1, 1) := by decide +kernel
theorem dX7_drownedOnes_25 : decode cX7_drownedOnes 25 = .ok (.iinc 2 1, 3) := by decide +kernel
theorem dX7_drownedOnes_28 : decode cX7_drownedOnes 28 = .ok (.goto (-24), 3) := by decide +kernel
theorem dX7_drownedOnes_31 : decode cX7_drownedOnes 31 = .ok (.iload_n 1, 1) := by decide +kernel
theorem dX7_drownedOnes_32 : decode cX7_drownedOnes 32 = .ok (.ireturn, 1) := by decide +kernel
set_option maxRecDepth 20000 in
theorem ggX7_goneOfAll_X7_its : GoodIn wsX7_goneOfAll wsX7_its := goodIn_r _ [6, 1, 7, 8, 9, 10, 11, 12, 13, 14, 15, 16, 17, 18, 19, 20, 21, 22, 23, 24, 25, 26, 27, 28, 29, 30, 31, 32] (by decide +kernel) (by decide +kernel)
set_option maxRecDepth 20000 in
theorem gX7_goneOfAll_X7_its : GoodIn wsX7_goneOfAll (wsV RX7 156 RX7 yX7_its wsX7_its) := goodIn_app (goodIn_of _ (by decide +kernel)) ggX7_goneOfAll_X7_its
theorem dX7_goneOfAll_0 : decode cX7_goneOfAll 0 = .ok (.iconst 0, 1) := by decide +kernel
theorem dX7_goneOfAll_1 : decode cX7_goneOfAll 1 = .ok (.istore_n 1, 1) := by decide +kernel
theorem dX7_goneOfAll_2 : decode cX7_goneOfAll 2 = .ok (.iconst 0, 1) := by decide +kernel
theorem dX7_goneOfAll_3 : decode cX7_goneOfAll 3 = .ok (.istore_n 2, 1) := by decide +kernel
theorem dX7_goneOfAll_4 : decode cX7_goneOfAll 4 = .ok (.iload_n 2, 1) := by decide +kernel
theorem dX7_goneOfAll_5 : decode cX7_goneOfAll 5 = .ok (.aload_n 0, 1) := by decide +kernel
theorem dX7_goneOfAll_6 : decode cX7_goneOfAll 6 = .ok (.getfield 7, 3) := by decide +kernel
theorem dX7_goneOfAll_9 : decode cX7_goneOfAll 9 = .ok (.iconst 0, 1) := by decide +kernel
theorem dX7_goneOfAll_10 : decode cX7_goneOfAll 10 = .ok (.iaload, 1) := by decide +kernel
theorem dX7_goneOfAll_11 : decode cX7_goneOfAll 11 = .ok (.if_icmp .ge 18, 3) := by decide +kernel
theorem dX7_goneOfAll_14 : decode cX7_goneOfAll 14 = .ok (.iload_n 1, 1) := by decide +kernel
theorem dX7_goneOfAll_15 : decode cX7_goneOfAll 15 = .ok (.aload_n 0, 1) := by decide +kernel
theorem dX7_goneOfAll_16 : decode cX7_goneOfAll 16 = .ok (.iload_n 2, 1) := by decide +kernel
theorem dX7_goneOfAll_17 : decode cX7_goneOfAll 17 = .ok (.iconst 2, 1) := by decide +kernel
theorem dX7_goneOfAll_18 : decode cX7_goneOfAll 18 = .ok (.invokevirtual 156, 3) := by decide +kernel
theorem dX7_goneOfAll_21 : decode cX7_goneOfAll 21 = .ok (.iadd, 1) := by decide +kernel
theorem dX7_goneOfAll_22 : decode cX7_goneOfAll 22 = .ok (.istore_n 1, 1) := by decide +kernel
theorem dX7_goneOfAll_23 : decode cX7_goneOfAll 23 = .ok (.iinc 2 1, 3) := by decide +kernel
theorem dX7_goneOfAll_26 : decode cX7_goneOfAll 26 = .ok (.goto (-22), 3) := by decide +kernel
theorem dX7_goneOfAll_29 : decode cX7_goneOfAll 29 = .ok (.iload_n 1, 1) := by decide +kernel
theorem dX7_goneOfAll_30 : decode cX7_goneOfAll 30 = .ok (.ireturn, 1) := by decide +kernel
set_option maxRecDepth 20000 in
theorem ggX7_pieces_X7_its : GoodIn wsX7_pieces wsX7_its := goodIn_r _ [6, 1, 7, 8, 9, 10, 11, 12, 13, 14, 15, 16, 17, 18, 19, 20, 21, 22, 23, 24, 25, 26, 27, 28, 29, 30, 31, 32] (by decide +kernel) (by decide +kernel)
set_option maxRecDepth 20000 in
theorem gX7_pieces_X7_its : GoodIn wsX7_pieces (wsV RX7 156 RX7 yX7_its wsX7_its) := goodIn_app (goodIn_of _ (by decide +kernel)) ggX7_pieces_X7_its
theorem dX7_pieces_0 : decode cX7_pieces 0 = .ok (.iconst 0, 1) := by decide +kernel
theorem dX7_pieces_1 : decode cX7_pieces 1 = .ok (.istore_n 1, 1) := by decide +kernel
theorem dX7_pieces_2 : decode cX7_pieces 2 = .ok (.iconst 0, 1) := by decide +kernel
theorem dX7_pieces_3 : decode cX7_pieces 3 = .ok (.istore_n 2, 1) := by decide +kernel
theorem dX7_pieces_4 : decode cX7_pieces 4 = .ok (.iload_n 2, 1) := by decide +kernel
theorem dX7_pieces_5 : decode cX7_pieces 5 = .ok (.aload_n 0, 1) := by decide +kernel
theorem dX7_pieces_6 : decode cX7_pieces 6 = .ok (.getfield 7, 3) := by decide +kernel
theorem dX7_pieces_9 : decode cX7_pieces 9 = .ok (.iconst 0, 1) := by decide +kernel
theorem dX7_pieces_10 : decode cX7_pieces 10 = .ok (.iaload, 1) := by decide +kernel
theorem dX7_pieces_11 : decode cX7_pieces 11 = .ok (.if_icmp .ge 33, 3) := by decide +kernel
theorem dX7_pieces_14 : decode cX7_pieces 14 = .ok (.iload_n 1, 1) := by decide +kernel
theorem dX7_pieces_15 : decode cX7_pieces 15 = .ok (.aload_n 0, 1) := by decide +kernel
theorem dX7_pieces_16 : decode cX7_pieces 16 = .ok (.iload_n 2, 1) := by decide +kernel
theorem dX7_pieces_17 : decode cX7_pieces 17 = .ok (.iconst 4, 1) := by decide +kernel
theorem dX7_pieces_18 : decode cX7_pieces 18 = .ok (.invokevirtual 156, 3) := by decide +kernel
theorem dX7_pieces_21 : decode cX7_pieces 21 = .ok (.ifCond .ne 14, 3) := by decide +kernel
theorem dX7_pieces_24 : decode cX7_pieces 24 = .ok (.iconst 1, 1) := by decide +kernel
theorem dX7_pieces_25 : decode cX7_pieces 25 = .ok (.aload_n 0, 1) := by decide +kernel
theorem dX7_pieces_26 : decode cX7_pieces 26 = .ok (.iload_n 2, 1) := by decide +kernel
theorem dX7_pieces_27 : decode cX7_pieces 27 = .ok (.iconst 1, 1) := by decide +kernel
theorem dX7_pieces_28 : decode cX7_pieces 28 = .ok (.invokevirtual 156, 3) := by decide +kernel
theorem dX7_pieces_31 : decode cX7_pieces 31 = .ok (.ishl, 1) := by decide +kernel
theorem dX7_pieces_32 : decode cX7_pieces 32 = .ok (.goto 4, 3) := by decide +kernel
theorem dX7_pieces_35 : decode cX7_pieces 35 = .ok (.iconst 0, 1) := by decide +kernel
theorem dX7_pieces_36 : decode cX7_pieces 36 = .ok (.ior, 1) := by decide +kernel
theorem dX7_pieces_37 : decode cX7_pieces 37 = .ok (.istore_n 1, 1) := by decide +kernel
theorem dX7_pieces_38 : decode cX7_pieces 38 = .ok (.iinc 2 1, 3) := by decide +kernel
theorem dX7_pieces_41 : decode cX7_pieces 41 = .ok (.goto (-37), 3) := by decide +kernel
theorem dX7_pieces_44 : decode cX7_pieces 44 = .ok (.iload_n 1, 1) := by decide +kernel
theorem dX7_pieces_45 : decode cX7_pieces 45 = .ok (.ireturn, 1) := by decide +kernel
set_option maxRecDepth 20000 in
theorem ggX7_gap_X7_pieces : GoodIn wsX7_gap wsX7_pieces := goodIn_r _ [5, 6, 7, 8, 9, 4, 10, 15, 16, 17, 18, 19, 20, 21, 22, 23, 24, 25, 26, 27, 28, 29, 30, 31, 32, 33, 34, 35, 36, 37, 38, 39, 40] (by decide +kernel) (by decide +kernel)
