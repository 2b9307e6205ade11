set_option maxRecDepth 20000 in
theorem gX8_apart_X3_is : GoodIn wsX8_apart (va_wsS RX8 134 yX3_is wsX3_is) := goodIn_app (goodIn_of _ (by decide +kernel)) ggX8_apart_X3_is
set_option maxRecDepth 20000 in
theorem ggX8_apart_X8_isNear : GoodIn wsX8_apart wsX8_isNear := goodIn_r _ [18] (by decide +kernel) (by decide +kernel)
set_option maxRecDepth 20000 in
theorem gX8_apart_X8_isNear : GoodIn wsX8_apart (va_wsS RX8 61 yX8_isNear wsX8_isNear) := goodIn_app (goodIn_of _ (by decide +kernel)) ggX8_apart_X8_isNear
set_option maxRecDepth 20000 in
theorem ggX8_apart_X8_pushInTurn : GoodIn wsX8_apart wsX8_pushInTurn := goodIn_r _ [21] (by decide +kernel) (by decide +kernel)
set_option maxRecDepth 20000 in
theorem gX8_apart_X8_pushInTurn : GoodIn wsX8_apart (va_wsS RX8 221 yX8_pushInTurn wsX8_pushInTurn) := goodIn_app (goodIn_of _ (by decide +kernel)) ggX8_apart_X8_pushInTurn
set_option maxRecDepth 20000 in
theorem ggX8_apart_X3_sum : GoodIn wsX8_apart wsX3_sum := goodIn_r _ [24, 25, 26, 13, 27, 28, 29, 30] (by decide +kernel) (by decide +kernel)
set_option maxRecDepth 20000 in
theorem gX8_apart_X3_sum : GoodIn wsX8_apart (va_wsS RX8 224 yX3_sum wsX3_sum) := goodIn_app (goodIn_of _ (by decide +kernel)) ggX8_apart_X3_sum
set_option maxRecDepth 20000 in
theorem ggX8_apart_X0_errorNow : GoodIn wsX8_apart wsX0_errorNow := goodIn_r _ [35, 36, 55, 56, 57, 58, 59, 60, 61] (by decide +kernel) (by decide +kernel)
set_option maxRecDepth 20000 in
theorem gX8_apart_X0_errorNow : GoodIn wsX8_apart (wsV RX8 127 RX0 yX0_errorNow wsX0_errorNow) := goodIn_app (goodIn_of _ (by decide +kernel)) ggX8_apart_X0_errorNow
set_option maxRecDepth 20000 in
theorem ggX8_apart_X3_leastEnd : GoodIn wsX8_apart wsX3_leastEnd := goodIn_r _ [39, 40, 41, 42, 43] (by decide +kernel) (by decide +kernel)
set_option maxRecDepth 20000 in
theorem gX8_apart_X3_leastEnd : GoodIn wsX8_apart (va_wsS RX8 227 yX3_leastEnd wsX3_leastEnd) := goodIn_app (goodIn_of _ (by decide +kernel)) ggX8_apart_X3_leastEnd
set_option maxRecDepth 20000 in
theorem ggX8_apart_X3_greatestEnd : GoodIn wsX8_apart wsX3_greatestEnd := goodIn_r _ [46, 40, 41, 42, 43] (by decide +kernel) (by decide +kernel)
set_option maxRecDepth 20000 in
theorem gX8_apart_X3_greatestEnd : GoodIn wsX8_apart (va_wsS RX8 233 yX3_greatestEnd wsX3_greatestEnd) := goodIn_app (goodIn_of _ (by decide +kernel)) ggX8_apart_X3_greatestEnd
theorem dX8_apart_0 : decode cX8_apart 0 = .ok (.iload_n 1, 1) := by decide +kernel
theorem dX8_apart_1 : decode cX8_apart 1 = .ok (.invokestatic 134, 3) := by decide +kernel
theorem dX8_apart_4 : decode cX8_apart 4 = .ok (.ifCond .eq 19, 3) := by decide +kernel
theorem dX8_apart_7 : decode cX8_apart 7 = .ok (.iload_n 2, 1) := by decide +kernel
theorem dX8_apart_8 : decode cX8_apart 8 = .ok (.invokestatic 134, 3) := by decide +kernel
theorem dX8_apart_11 : decode cX8_apart 11 = .ok (.ifCond .eq 12, 3) := by decide +kernel
theorem dX8_apart_14 : decode cX8_apart 14 = .ok (.iload_n 3, 1) := by decide +kernel
theorem dX8_apart_15 : decode cX8_apart 15 = .ok (.bipush 99, 2) := by decide +kernel
theorem dX8_apart_17 : decode cX8_apart 17 = .ok (.invokestatic 61, 3) := by decide +kernel
theorem dX8_apart_20 : decode cX8_apart 20 = .ok (.ifCond .ne 6, 3) := by decide +kernel
theorem dX8_apart_23 : decode cX8_apart 23 = .ok (.ldc 107, 2) := by decide +kernel
theorem dX8_apart_25 : decode cX8_apart 25 = .ok (.ireturn, 1) := by decide +kernel
theorem dX8_apart_26 : decode cX8_apart 26 = .ok (.iconst 0, 1) := by decide +kernel
theorem dX8_apart_27 : decode cX8_apart 27 = .ok (.istore 4, 2) := by decide +kernel
theorem dX8_apart_29 : decode cX8_apart 29 = .ok (.iload 4, 2) := by decide +kernel
theorem dX8_apart_31 : decode cX8_apart 31 = .ok (.bipush 18, 2) := by decide +kernel
theorem dX8_apart_33 : decode cX8_apart 33 = .ok (.if_icmp .gt 73, 3) := by decide +kernel
theorem dX8_apart_36 : decode cX8_apart 36 = .ok (.iload 4, 2) := by decide +kernel
theorem dX8_apart_38 : decode cX8_apart 38 = .ok (.invokestatic 221, 3) := by decide +kernel
theorem dX8_apart_41 : decode cX8_apart 41 = .ok (.istore 5, 2) := by decide +kernel
theorem dX8_apart_43 : decode cX8_apart 43 = .ok (.iload_n 1, 1) := by decide +kernel
theorem dX8_apart_44 : decode cX8_apart 44 = .ok (.iload_n 3, 1) := by decide +kernel
theorem dX8_apart_45 : decode cX8_apart 45 = .ok (.iload 5, 2) := by decide +kernel
theorem dX8_apart_47 : decode cX8_apart 47 = .ok (.invokestatic 224, 3) := by decide +kernel
theorem dX8_apart_50 : decode cX8_apart 50 = .ok (.istore 6, 2) := by decide +kernel
theorem dX8_apart_52 : decode cX8_apart 52 = .ok (.iload_n 2, 1) := by decide +kernel
theorem dX8_apart_53 : decode cX8_apart 53 = .ok (.iload_n 3, 1) := by decide +kernel
theorem dX8_apart_54 : decode cX8_apart 54 = .ok (.iload 5, 2) := by decide +kernel
theorem dX8_apart_56 : decode cX8_apart 56 = .ok (.invokestatic 224, 3) := by decide +kernel
theorem dX8_apart_59 : decode cX8_apart 59 = .ok (.istore 7, 2) := by decide +kernel
theorem dX8_apart_61 : decode cX8_apart 61 = .ok (.aload_n 0, 1) := by decide +kernel
theorem dX8_apart_62 : decode cX8_apart 62 = .ok (.getfield 10, 3) := by decide +kernel
theorem dX8_apart_65 : decode cX8_apart 65 = .ok (.invokevirtual 127, 3) := by decide +kernel
theorem dX8_apart_68 : decode cX8_apart 68 = .ok (.istore 8, 2) := by decide +kernel
theorem dX8_apart_70 : decode cX8_apart 70 = .ok (.iload 6, 2) := by decide +kernel
theorem dX8_apart_72 : decode cX8_apart 72 = .ok (.iload 7, 2) := by decide +kernel
theorem dX8_apart_74 : decode cX8_apart 74 = .ok (.invokestatic 191, 3) := by decide +kernel
theorem dX8_apart_77 : decode cX8_apart 77 = .ok (.iload 8, 2) := by decide +kernel
theorem dX8_apart_79 : decode cX8_apart 79 = .ok (.invokestatic 227, 3) := by decide +kernel
theorem dX8_apart_82 : decode cX8_apart 82 = .ok (.iload 6, 2) := by decide +kernel
theorem dX8_apart_84 : decode cX8_apart 84 = .ok (.iload 7, 2) := by decide +kernel
theorem dX8_apart_86 : decode cX8_apart 86 = .ok (.invokestatic 230, 3) := by decide +kernel
theorem dX8_apart_89 : decode cX8_apart 89 = .ok (.iload 8, 2) := by decide +kernel
theorem dX8_apart_91 : decode cX8_apart 91 = .ok (.invokestatic 233, 3) := by decide +kernel
theorem dX8_apart_94 : decode cX8_apart 94 = .ok (.if_icmp .le 6, 3) := by decide +kernel
theorem dX8_apart_97 : decode cX8_apart 97 = .ok (.iload 5, 2) := by decide +kernel
theorem dX8_apart_99 : decode cX8_apart 99 = .ok (.ireturn, 1) := by decide +kernel
theorem dX8_apart_100 : decode cX8_apart 100 = .ok (.iinc 4 1, 3) := by decide +kernel
theorem dX8_apart_103 : decode cX8_apart 103 = .ok (.goto (-74), 3) := by decide +kernel
theorem dX8_apart_106 : decode cX8_apart 106 = .ok (.ldc 117, 2) := by decide +kernel
theorem dX8_apart_108 : decode cX8_apart 108 = .ok (.ireturn, 1) := by decide +kernel
set_option maxRecDepth 20000 in
theorem ggX8_know_X3_is : GoodIn wsX8_know wsX3_is := goodIn_r _ [5] (by decide +kernel) (by decide +kernel)
set_option maxRecDepth 20000 in
theorem gX8_know_X3_is : GoodIn wsX8_know (va_wsS RX8 134 yX3_is wsX3_is) := goodIn_app (goodIn_of _ (by decide +kernel)) ggX8_know_X3_is
set_option maxRecDepth 20000 in
theorem ggX8_know_X2_add : GoodIn wsX8_know wsX2_add := goodIn_r _ [10, 11, 12, 13, 14, 15, 16, 9, 17, 26, 27, 28, 29, 30] (by decide +kernel) (by decide +kernel)
set_option maxRecDepth 20000 in
theorem gX8_know_X2_add : GoodIn wsX8_know (wsV RX8 236 RX2 yX2_add wsX2_add) := goodIn_app (goodIn_of _ (by decide +kernel)) ggX8_know_X2_add
theorem dX8_know_0 : decode cX8_know 0 = .ok (.iload_n 1, 1) := by decide +kernel
theorem dX8_know_1 : decode cX8_know 1 = .ok (.invokestatic 134, 3) := by decide +kernel
theorem dX8_know_4 : decode cX8_know 4 = .ok (.ifCond .eq 14, 3) := by decide +kernel
theorem dX8_know_7 : decode cX8_know 7 = .ok (.aload_n 0, 1) := by decide +kernel
theorem dX8_know_8 : decode cX8_know 8 = .ok (.getfield 40, 3) := by decide +kernel
theorem dX8_know_11 : decode cX8_know 11 = .ok (.iload_n 1, 1) := by decide +kernel
theorem dX8_know_12 : decode cX8_know 12 = .ok (.invokevirtual 236, 3) := by decide +kernel
theorem dX8_know_15 : decode cX8_know 15 = .ok (.goto 4, 3) := by decide +kernel
theorem dX8_know_18 : decode cX8_know 18 = .ok (.iconst (-1), 1) := by decide +kernel
theorem dX8_know_19 : decode cX8_know 19 = .ok (.ireturn, 1) := by decide +kernel
set_option maxRecDepth 20000 in
theorem ggX8_box_X8_isNear : GoodIn wsX8_box wsX8_isNear := goodIn_r _ [5] (by decide +kernel) (by decide +kernel)
set_option maxRecDepth 20000 in
theorem gX8_box_X8_isNear : GoodIn wsX8_box (va_wsS RX8 61 yX8_isNear wsX8_isNear) := goodIn_app (goodIn_of _ (by decide +kernel)) ggX8_box_X8_isNear
set_option maxRecDepth 20000 in
theorem ggX8_box_X1_become : GoodIn wsX8_box wsX1_become := goodIn_r _ [10, 11, 12, 21, 22] (by decide +kernel) (by decide +kernel)
set_option maxRecDepth 20000 in
theorem gX8_box_X1_become : GoodIn wsX8_box (wsV RX8 238 RX1 yX1_become wsX1_become) := goodIn_app (goodIn_of _ (by decide +kernel)) ggX8_box_X1_become
theorem dX8_box_0 : decode cX8_box 0 = .ok (.iload_n 1, 1) := by decide +kernel
theorem dX8_box_1 : decode cX8_box 1 = .ok (.sipush 9999, 3) := by decide +kernel
theorem dX8_box_4 : decode cX8_box 4 = .ok (.invokestatic 61, 3) := by decide +kernel
theorem dX8_box_7 : decode cX8_box 7 = .ok (.ifCond .eq 18, 3) := by decide +kernel
theorem dX8_box_10 : decode cX8_box 10 = .ok (.iload_n 2, 1) := by decide +kernel
theorem dX8_box_11 : decode cX8_box 11 = .ok (.sipush 9999, 3) := by decide +kernel
theorem dX8_box_14 : decode cX8_box 14 = .ok (.invokestatic 61, 3) := by decide +kernel
theorem dX8_box_17 : decode cX8_box 17 = .ok (.ifCond .eq 8, 3) := by decide +kernel
theorem dX8_box_20 : decode cX8_box 20 = .ok (.iload_n 1, 1) := by decide +kernel
theorem dX8_box_21 : decode cX8_box 21 = .ok (.iload_n 2, 1) := by decide +kernel
theorem dX8_box_22 : decode cX8_box 22 = .ok (.if_icmp .le 5, 3) := by decide +kernel
theorem dX8_box_25 : decode cX8_box 25 = .ok (.iconst (-1), 1) := by decide +kernel
theorem dX8_box_26 : decode cX8_box 26 = .ok (.ireturn, 1) := by decide +kernel
theorem dX8_box_27 : decode cX8_box 27 = .ok (.aload_n 0, 1) := by decide +kernel
theorem dX8_box_28 : decode cX8_box 28 = .ok (.getfield 47, 3) := by decide +kernel
theorem dX8_box_31 : decode cX8_box 31 = .ok (.iload_n 1, 1) := by decide +kernel
theorem dX8_box_32 : decode cX8_box 32 = .ok (.iload_n 2, 1) := by decide +kernel
theorem dX8_box_33 : decode cX8_box 33 = .ok (.invokevirtual 238, 3) := by decide +kernel
theorem dX8_box_36 : decode cX8_box 36 = .ok (.iconst 1, 1) := by decide +kernel
theorem dX8_box_37 : decode cX8_box 37 = .ok (.ireturn, 1) := by decide +kernel
set_option maxRecDepth 20000 in
theorem ggX8_step_X8_isNear : GoodIn wsX8_step wsX8_isNear := goodIn_r _ [7] (by decide +kernel) (by decide +kernel)
set_option maxRecDepth 20000 in
theorem gX8_step_X8_isNear : GoodIn wsX8_step (va_wsS RX8 61 yX8_isNear wsX8_isNear) := goodIn_app (goodIn_of _ (by decide +kernel)) ggX8_step_X8_isNear
set_option maxRecDepth 20000 in
theorem ggX8_step_X2_size : GoodIn wsX8_step wsX2_size := goodIn_r _ [12, 13, 65, 66, 67, 68, 69] (by decide +kernel) (by decide +kernel)
set_option maxRecDepth 20000 in
theorem gX8_step_X2_size : GoodIn wsX8_step (wsV RX8 158 RX2 yX2_size wsX2_size) := goodIn_app (goodIn_of _ (by decide +kernel)) ggX8_step_X2_size
set_option maxRecDepth 20000 in
theorem ggX8_step_X0_errorNow : GoodIn wsX8_step wsX0_errorNow := goodIn_r _ [18, 19, 70, 71, 72, 73, 74, 75, 76] (by decide +kernel) (by decide +kernel)
set_option maxRecDepth 20000 in
theorem gX8_step_X0_errorNow : GoodIn wsX8_step (wsV RX8 127 RX0 yX0_errorNow wsX0_errorNow) := goodIn_app (goodIn_of _ (by decide +kernel)) ggX8_step_X0_errorNow
set_option maxRecDepth 20000 in
theorem ggX8_step_X1_move : GoodIn wsX8_step wsX1_move := goodIn_r _ [24, 25, 26, 27, 28, 29, 30, 31, 32, 33, 34, 9, 10, 11, 12, 13, 35, 36, 37, 38, 39, 40, 41, 42, 43, 44, 45, 46, 47, 48, 49, 50, 51, 52, 53, 54, 55, 23, 56, 77, 78, 65, 66, 67, 68, 69] (by decide +kernel) (by decide +kernel)
set_option maxRecDepth 20000 in
theorem gX8_step_X1_move : GoodIn wsX8_step (wsV RX8 242 RX1 yX1_move wsX1_move) := goodIn_app (goodIn_of _ (by decide +kernel)) ggX8_step_X1_move
theorem dX8_step_0 : decode cX8_step 0 = .ok (.iload_n 1, 1) := by decide +kernel
theorem dX8_step_1 : decode cX8_step 1 = .ok (.bipush 99, 2) := by decide +kernel
theorem dX8_step_3 : decode cX8_step 3 = .ok (.invokestatic 61, 3) := by decide +kernel
theorem dX8_step_6 : decode cX8_step 6 = .ok (.ifCond .ne 5, 3) := by decide +kernel
theorem dX8_step_9 : decode cX8_step 9 = .ok (.iconst (-1), 1) := by decide +kernel
theorem dX8_step_10 : decode cX8_step 10 = .ok (.ireturn, 1) := by decide +kernel
theorem dX8_step_11 : decode cX8_step 11 = .ok (.aload_n 0, 1) := by decide +kernel
theorem dX8_step_12 : decode cX8_step 12 = .ok (.getfield 40, 3) := by decide +kernel
theorem dX8_step_15 : decode cX8_step 15 = .ok (.invokevirtual 158, 3) := by decide +kernel
theorem dX8_step_18 : decode cX8_step 18 = .ok (.ifCond .ne 6, 3) := by decide +kernel
theorem dX8_step_21 : decode cX8_step 21 = .ok (.bipush (-4), 2) := by decide +kernel
theorem dX8_step_23 : decode cX8_step 23 = .ok (.ireturn, 1) := by decide +kernel
theorem dX8_step_24 : decode cX8_step 24 = .ok (.aload_n 0, 1) := by decide +kernel
theorem dX8_step_25 : decode cX8_step 25 = .ok (.getfield 47, 3) := by decide +kernel
theorem dX8_step_28 : decode cX8_step 28 = .ok (.aload_n 0, 1) := by decide +kernel
theorem dX8_step_29 : decode cX8_step 29 = .ok (.getfield 40, 3) := by decide +kernel
theorem dX8_step_32 : decode cX8_step 32 = .ok (.iload_n 1, 1) := by decide +kernel
theorem dX8_step_33 : decode cX8_step 33 = .ok (.aload_n 0, 1) := by decide +kernel
theorem dX8_step_34 : decode cX8_step 34 = .ok (.getfield 10, 3) := by decide +kernel
theorem dX8_step_37 : decode cX8_step 37 = .ok (.invokevirtual 127, 3) := by decide +kernel
theorem dX8_step_40 : decode cX8_step 40 = .ok (.invokevirtual 242, 3) := by decide +kernel
theorem dX8_step_43 : decode cX8_step 43 = .ok (.iconst 1, 1) := by decide +kernel
theorem dX8_step_44 : decode cX8_step 44 = .ok (.ireturn, 1) := by decide +kernel
set_option maxRecDepth 20000 in
theorem ggX8_holds_X1_least : GoodIn wsX8_holds wsX1_least := goodIn_r _ [7, 8, 22, 23] (by decide +kernel) (by decide +kernel)
set_option maxRecDepth 20000 in
theorem gX8_holds_X1_least : GoodIn wsX8_holds (wsV RX8 246 RX1 yX1_least wsX1_least) := goodIn_app (goodIn_of _ (by decide +kernel)) ggX8_holds_X1_least
set_option maxRecDepth 20000 in
theorem ggX8_holds_X1_greatest : GoodIn wsX8_holds wsX1_greatest := goodIn_r _ [12, 13, 22, 23] (by decide +kernel) (by decide +kernel)
set_option maxRecDepth 20000 in
theorem gX8_holds_X1_greatest : GoodIn wsX8_holds (wsV RX8 249 RX1 yX1_greatest wsX1_greatest) := goodIn_app (goodIn_of _ (by decide +kernel)) ggX8_holds_X1_greatest
theorem dX8_holds_0 : decode cX8_holds 0 = .ok (.iload_n 1, 1) := by decide +kernel
theorem dX8_holds_1 : decode cX8_holds 1 = .ok (.ifCond .lt 8, 3) := by decide +kernel
theorem dX8_holds_4 : decode cX8_holds 4 = .ok (.iload_n 1, 1) := by decide +kernel
theorem dX8_holds_5 : decode cX8_holds 5 = .ok (.iconst 1, 1) := by decide +kernel
theorem dX8_holds_6 : decode cX8_holds 6 = .ok (.if_icmp .le 6, 3) := by decide +kernel
theorem dX8_holds_9 : decode cX8_holds 9 = .ok (.ldc 107, 2) := by decide +kernel
theorem dX8_holds_11 : decode cX8_holds 11 = .ok (.ireturn, 1) := by decide +kernel
theorem dX8_holds_12 : decode cX8_holds 12 = .ok (.iload_n 1, 1) := by decide +kernel
theorem dX8_holds_13 : decode cX8_holds 13 = .ok (.ifCond .ne 13, 3) := by decide +kernel
theorem dX8_holds_16 : decode cX8_holds 16 = .ok (.aload_n 0, 1) := by decide +kernel
theorem dX8_holds_17 : decode cX8_holds 17 = .ok (.getfield 47, 3) := by decide +kernel
theorem dX8_holds_20 : decode cX8_holds 20 = .ok (.invokevirtual 246, 3) := by decide +kernel
theorem dX8_holds_23 : decode cX8_holds 23 = .ok (.goto 10, 3) := by decide +kernel
theorem dX8_holds_26 : decode cX8_holds 26 = .ok (.aload_n 0, 1) := by decide +kernel
theorem dX8_holds_27 : decode cX8_holds 27 = .ok (.getfield 47, 3) := by decide +kernel
theorem dX8_holds_30 : decode cX8_holds 30 = .ok (.invokevirtual 249, 3) := by decide +kernel
theorem dX8_holds_33 : decode cX8_holds 33 = .ok (.ireturn, 1) := by decide +kernel
set_option maxRecDepth 20000 in
theorem ggX8_brake_X8_isNear : GoodIn wsX8_brake wsX8_isNear := goodIn_r _ [8] (by decide +kernel) (by decide +kernel)
set_option maxRecDepth 20000 in
theorem gX8_brake_X8_isNear : GoodIn wsX8_brake (va_wsS RX8 61 yX8_isNear wsX8_isNear) := goodIn_app (goodIn_of _ (by decide +kernel)) ggX8_brake_X8_isNear
set_option maxRecDepth 20000 in
theorem ggX8_brake_X2_size : GoodIn wsX8_brake wsX2_size := goodIn_r _ [13, 14, 78, 79, 80, 81, 82] (by decide +kernel) (by decide +kernel)
set_option maxRecDepth 20000 in
theorem gX8_brake_X2_size : GoodIn wsX8_brake (wsV RX8 158 RX2 yX2_size wsX2_size) := goodIn_app (goodIn_of _ (by decide +kernel)) ggX8_brake_X2_size
set_option maxRecDepth 20000 in
theorem ggX8_brake_X1_least : GoodIn wsX8_brake wsX1_least := goodIn_r _ [19, 20, 83, 84] (by decide +kernel) (by decide +kernel)
set_option maxRecDepth 20000 in
theorem gX8_brake_X1_least : GoodIn wsX8_brake (wsV RX8 246 RX1 yX1_least wsX1_least) := goodIn_app (goodIn_of _ (by decide +kernel)) ggX8_brake_X1_least
set_option maxRecDepth 20000 in
theorem ggX8_brake_X1_greatest : GoodIn wsX8_brake wsX1_greatest := goodIn_r _ [24, 25, 83, 84] (by decide +kernel) (by decide +kernel)
set_option maxRecDepth 20000 in
theorem gX8_brake_X1_greatest : GoodIn wsX8_brake (wsV RX8 249 RX1 yX1_greatest wsX1_greatest) := goodIn_app (goodIn_of _ (by decide +kernel)) ggX8_brake_X1_greatest
set_option maxRecDepth 20000 in
theorem ggX8_brake_X1_become : GoodIn wsX8_brake wsX1_become := goodIn_r _ [29, 20, 25, 83, 84] (by decide +kernel) (by decide +kernel)
set_option maxRecDepth 20000 in
theorem gX8_brake_X1_become : GoodIn wsX8_brake (wsV RX8 238 RX1 yX1_become wsX1_become) := goodIn_app (goodIn_of _ (by decide +kernel)) ggX8_brake_X1_become
set_option maxRecDepth 20000 in
theorem ggX8_brake_X0_errorNow : GoodIn wsX8_brake wsX0_errorNow := goodIn_r _ [34, 35, 85, 86, 87, 88, 89, 90, 91] (by decide +kernel) (by decide +kernel)
set_option maxRecDepth 20000 in
theorem gX8_brake_X0_errorNow : GoodIn wsX8_brake (wsV RX8 127 RX0 yX0_errorNow wsX0_errorNow) := goodIn_app (goodIn_of _ (by decide +kernel)) ggX8_brake_X0_errorNow
set_option maxRecDepth 20000 in
theorem ggX8_brake_X1_move : GoodIn wsX8_brake wsX1_move := goodIn_r _ [39, 20, 25, 40, 41, 42, 43, 44, 45, 46, 47, 10, 11, 12, 13, 14, 48, 49, 50, 51, 52, 53, 54, 55, 56, 57, 58, 59, 60, 61, 62, 63, 64, 65, 66, 67, 68, 18, 69, 83, 84, 78, 79, 80, 81, 82] (by decide +kernel) (by decide +kernel)
set_option maxRecDepth 20000 in
theorem gX8_brake_X1_move : GoodIn wsX8_brake (wsV RX8 242 RX1 yX1_move wsX1_move) := goodIn_app (goodIn_of _ (by decide +kernel)) ggX8_brake_X1_move
theorem dX8_brake_0 : decode cX8_brake 0 = .ok (.iload_n 1, 1) := by decide +kernel
theorem dX8_brake_1 : decode cX8_brake 1 = .ok (.bipush 99, 2) := by decide +kernel
theorem dX8_brake_3 : decode cX8_brake 3 = .ok (.invokestatic 61, 3) := by decide +kernel
theorem dX8_brake_6 : decode cX8_brake 6 = .ok (.ifCond .eq 41, 3) := by decide +kernel
theorem dX8_brake_9 : decode cX8_brake 9 = .ok (.iload_n 2, 1) := by decide +kernel
theorem dX8_brake_10 : decode cX8_brake 10 = .ok (.iconst 1, 1) := by decide +kernel
theorem dX8_brake_11 : decode cX8_brake 11 = .ok (.if_icmp .lt 36, 3) := by decide +kernel
theorem dX8_brake_14 : decode cX8_brake 14 = .ok (.iload_n 2, 1) := by decide +kernel
theorem dX8_brake_15 : decode cX8_brake 15 = .ok (.bipush 40, 2) := by decide +kernel
theorem dX8_brake_17 : decode cX8_brake 17 = .ok (.if_icmp .gt 30, 3) := by decide +kernel
theorem dX8_brake_20 : decode cX8_brake 20 = .ok (.iload_n 3, 1) := by decide +kernel
theorem dX8_brake_21 : decode cX8_brake 21 = .ok (.sipush 9999, 3) := by decide +kernel
theorem dX8_brake_24 : decode cX8_brake 24 = .ok (.invokestatic 61, 3) := by decide +kernel
theorem dX8_brake_27 : decode cX8_brake 27 = .ok (.ifCond .eq 20, 3) := by decide +kernel
theorem dX8_brake_30 : decode cX8_brake 30 = .ok (.iload 4, 2) := by decide +kernel
theorem dX8_brake_32 : decode cX8_brake 32 = .ok (.sipush 9999, 3) := by decide +kernel
theorem dX8_brake_35 : decode cX8_brake 35 = .ok (.invokestatic 61, 3) := by decide +kernel
theorem dX8_brake_38 : decode cX8_brake 38 = .ok (.ifCond .eq 9, 3) := by decide +kernel
theorem dX8_brake_41 : decode cX8_brake 41 = .ok (.iload_n 3, 1) := by decide +kernel
theorem dX8_brake_42 : decode cX8_brake 42 = .ok (.iload 4, 2) := by decide +kernel
theorem dX8_brake_44 : decode cX8_brake 44 = .ok (.if_icmp .le 5, 3) := by decide +kernel
theorem dX8_brake_47 : decode cX8_brake 47 = .ok (.iconst (-1), 1) := by decide +kernel
theorem dX8_brake_48 : decode cX8_brake 48 = .ok (.ireturn, 1) := by decide +kernel
theorem dX8_brake_49 : decode cX8_brake 49 = .ok (.aload_n 0, 1) := by decide +kernel
theorem dX8_brake_50 : decode cX8_brake 50 = .ok (.getfield 40, 3) := by decide +kernel
theorem dX8_brake_53 : decode cX8_brake 53 = .ok (.invokevirtual 158, 3) := by decide +kernel
theorem dX8_brake_56 : decode cX8_brake 56 = .ok (.ifCond .ne 6, 3) := by decide +kernel
theorem dX8_brake_59 : decode cX8_brake 59 = .ok (.bipush (-2), 2) := by decide +kernel
theorem dX8_brake_61 : decode cX8_brake 61 = .ok (.ireturn, 1) := by decide +kernel
theorem dX8_brake_62 : decode cX8_brake 62 = .ok (.aload_n 0, 1) := by decide +kernel
theorem dX8_brake_63 : decode cX8_brake 63 = .ok (.getfield 51, 3) := by decide +kernel
theorem dX8_brake_66 : decode cX8_brake 66 = .ok (.aload_n 0, 1) := by decide +kernel
theorem dX8_brake_67 : decode cX8_brake 67 = .ok (.getfield 47, 3) := by decide +kernel
theorem dX8_brake_70 : decode cX8_brake 70 = .ok (.invokevirtual 246, 3) := by decide +kernel
theorem dX8_brake_73 : decode cX8_brake 73 = .ok (.aload_n 0, 1) := by decide +kernel
theorem dX8_brake_74 : decode cX8_brake 74 = .ok (.getfield 47, 3) := by decide +kernel
theorem dX8_brake_77 : decode cX8_brake 77 = .ok (.invokevirtual 249, 3) := by decide +kernel
theorem dX8_brake_80 : decode cX8_brake 80 = .ok (.invokevirtual 238, 3) := by decide +kernel
theorem dX8_brake_83 : decode cX8_brake 83 = .ok (.iconst 1, 1) := by decide +kernel
theorem dX8_brake_84 : decode cX8_brake 84 = .ok (.istore 5, 2) := by decide +kernel
theorem dX8_brake_86 : decode cX8_brake 86 = .ok (.iload 5, 2) := by decide +kernel
theorem dX8_brake_88 : decode cX8_brake 88 = .ok (.iload_n 2, 1) := by decide +kernel
theorem dX8_brake_89 : decode cX8_brake 89 = .ok (.if_icmp .gt 54, 3) := by decide +kernel
theorem dX8_brake_92 : decode cX8_brake 92 = .ok (.aload_n 0, 1) := by decide +kernel
theorem dX8_brake_93 : decode cX8_brake 93 = .ok (.getfield 51, 3) := by decide +kernel
theorem dX8_brake_96 : decode cX8_brake 96 = .ok (.aload_n 0, 1) := by decide +kernel
theorem dX8_brake_97 : decode cX8_brake 97 = .ok (.getfield 40, 3) := by decide +kernel
theorem dX8_brake_100 : decode cX8_brake 100 = .ok (.iload_n 1, 1) := by decide +kernel
theorem dX8_brake_101 : decode cX8_brake 101 = .ok (.aload_n 0, 1) := by decide +kernel
theorem dX8_brake_102 : decode cX8_brake 102 = .ok (.getfield 10, 3) := by decide +kernel
theorem dX8_brake_105 : decode cX8_brake 105 = .ok (.invokevirtual 127, 3) := by decide +kernel
theorem dX8_brake_108 : decode cX8_brake 108 = .ok (.invokevirtual 242, 3) := by decide +kernel
theorem dX8_brake_111 : decode cX8_brake 111 = .ok (.aload_n 0, 1) := by decide +kernel
theorem dX8_brake_112 : decode cX8_brake 112 = .ok (.getfield 51, 3) := by decide +kernel
theorem dX8_brake_115 : decode cX8_brake 115 = .ok (.invokevirtual 246, 3) := by decide +kernel
theorem dX8_brake_118 : decode cX8_brake 118 = .ok (.iload_n 3, 1) := by decide +kernel
theorem dX8_brake_119 : decode cX8_brake 119 = .ok (.if_icmp .lt 15, 3) := by decide +kernel
theorem dX8_brake_122 : decode cX8_brake 122 = .ok (.aload_n 0, 1) := by decide +kernel
theorem dX8_brake_123 : decode cX8_brake 123 = .ok (.getfield 51, 3) := by decide +kernel
theorem dX8_brake_126 : decode cX8_brake 126 = .ok (.invokevirtual 249, 3) := by decide +kernel
theorem dX8_brake_129 : decode cX8_brake 129 = .ok (.iload 4, 2) := by decide +kernel
theorem dX8_brake_131 : decode cX8_brake 131 = .ok (.if_icmp .le 6, 3) := by decide +kernel
theorem dX8_brake_134 : decode cX8_brake 134 = .ok (.iload 5, 2) := by decide +kernel
theorem dX8_brake_136 : decode cX8_brake 136 = .ok (.ireturn, 1) := by decide +kernel
theorem dX8_brake_137 : decode cX8_brake 137 = .ok (.iinc 5 1, 3) := by decide +kernel
theorem dX8_brake_140 : decode cX8_brake 140 = .ok (.goto (-54), 3) := by decide +kernel
theorem dX8_brake_143 : decode cX8_brake 143 = .ok (.bipush (-4), 2) := by decide +kernel
theorem dX8_brake_145 : decode cX8_brake 145 = .ok (.ireturn, 1) := by decide +kernel
set_option maxRecDepth 20000 in
theorem ggX8_watch_X8_isNear : GoodIn wsX8_watch wsX8_isNear := goodIn_r _ [6] (by decide +kernel) (by decide +kernel)
set_option maxRecDepth 20000 in
theorem gX8_watch_X8_isNear : GoodIn wsX8_watch (va_wsS RX8 61 yX8_isNear wsX8_isNear) := goodIn_app (goodIn_of _ (by decide +kernel)) ggX8_watch_X8_isNear
set_option maxRecDepth 20000 in
theorem ggX8_watch_X2_size : GoodIn wsX8_watch wsX2_size := goodIn_r _ [11, 12, 56, 57, 58, 59, 60] (by decide +kernel) (by decide +kernel)
set_option maxRecDepth 20000 in
theorem gX8_watch_X2_size : GoodIn wsX8_watch (wsV RX8 158 RX2 yX2_size wsX2_size) := goodIn_app (goodIn_of _ (by decide +kernel)) ggX8_watch_X2_size
set_option maxRecDepth 20000 in
theorem ggX8_watch_X0_errorNow : GoodIn wsX8_watch wsX0_errorNow := goodIn_r _ [17, 18, 61, 62, 63, 64, 65, 66, 67] (by decide +kernel) (by decide +kernel)
set_option maxRecDepth 20000 in
theorem gX8_watch_X0_errorNow : GoodIn wsX8_watch (wsV RX8 127 RX0 yX0_errorNow wsX0_errorNow) := goodIn_app (goodIn_of _ (by decide +kernel)) ggX8_watch_X0_errorNow
set_option maxRecDepth 20000 in
theorem ggX8_watch_X2_see : GoodIn wsX8_watch wsX2_see := goodIn_r _ [22, 12, 23, 24, 25, 26, 27, 28, 29, 30, 31, 32, 33, 34, 35, 36, 37, 38, 39, 40, 41, 42, 43, 44, 45, 46, 10, 47, 56, 57, 58, 59, 60] (by decide +kernel) (by decide +kernel)
set_option maxRecDepth 20000 in
theorem gX8_watch_X2_see : GoodIn wsX8_watch (wsV RX8 252 RX2 yX2_see wsX2_see) := goodIn_app (goodIn_of _ (by decide +kernel)) ggX8_watch_X2_see
theorem dX8_watch_0 : decode cX8_watch 0 = .ok (.iload_n 1, 1) := by decide +kernel
theorem dX8_watch_1 : decode cX8_watch 1 = .ok (.bipush 99, 2) := by decide +kernel
theorem dX8_watch_3 : decode cX8_watch 3 = .ok (.invokestatic 61, 3) := by decide +kernel
theorem dX8_watch_6 : decode cX8_watch 6 = .ok (.ifCond .eq 21, 3) := by decide +kernel
theorem dX8_watch_9 : decode cX8_watch 9 = .ok (.iload_n 2, 1) := by decide +kernel
theorem dX8_watch_10 : decode cX8_watch 10 = .ok (.bipush 99, 2) := by decide +kernel
theorem dX8_watch_12 : decode cX8_watch 12 = .ok (.invokestatic 61, 3) := by decide +kernel
theorem dX8_watch_15 : decode cX8_watch 15 = .ok (.ifCond .eq 12, 3) := by decide +kernel
theorem dX8_watch_18 : decode cX8_watch 18 = .ok (.iload_n 3, 1) := by decide +kernel
theorem dX8_watch_19 : decode cX8_watch 19 = .ok (.bipush 99, 2) := by decide +kernel
theorem dX8_watch_21 : decode cX8_watch 21 = .ok (.invokestatic 61, 3) := by decide +kernel
theorem dX8_watch_24 : decode cX8_watch 24 = .ok (.ifCond .ne 5, 3) := by decide +kernel
theorem dX8_watch_27 : decode cX8_watch 27 = .ok (.iconst (-1), 1) := by decide +kernel
theorem dX8_watch_28 : decode cX8_watch 28 = .ok (.ireturn, 1) := by decide +kernel
theorem dX8_watch_29 : decode cX8_watch 29 = .ok (.aload_n 0, 1) := by decide +kernel
theorem dX8_watch_30 : decode cX8_watch 30 = .ok (.getfield 40, 3) := by decide +kernel
theorem dX8_watch_33 : decode cX8_watch 33 = .ok (.invokevirtual 158, 3) := by decide +kernel
theorem dX8_watch_36 : decode cX8_watch 36 = .ok (.ifCond .ne 6, 3) := by decide +kernel
theorem dX8_watch_39 : decode cX8_watch 39 = .ok (.bipush (-2), 2) := by decide +kernel
theorem dX8_watch_41 : decode cX8_watch 41 = .ok (.ireturn, 1) := by decide +kernel
theorem dX8_watch_42 : decode cX8_watch 42 = .ok (.aload_n 0, 1) := by decide +kernel
theorem dX8_watch_43 : decode cX8_watch 43 = .ok (.getfield 40, 3) := by decide +kernel
theorem dX8_watch_46 : decode cX8_watch 46 = .ok (.iload_n 1, 1) := by decide +kernel
theorem dX8_watch_47 : decode cX8_watch 47 = .ok (.iload_n 2, 1) := by decide +kernel
theorem dX8_watch_48 : decode cX8_watch 48 = .ok (.iload_n 3, 1) := by decide +kernel
theorem dX8_watch_49 : decode cX8_watch 49 = .ok (.aload_n 0, 1) := by decide +kernel
theorem dX8_watch_50 : decode cX8_watch 50 = .ok (.getfield 10, 3) := by decide +kernel
theorem dX8_watch_53 : decode cX8_watch 53 = .ok (.invokevirtual 127, 3) := by decide +kernel
theorem dX8_watch_56 : decode cX8_watch 56 = .ok (.invokevirtual 252, 3) := by decide +kernel
theorem dX8_watch_59 : decode cX8_watch 59 = .ok (.ireturn, 1) := by decide +kernel
set_option maxRecDepth 20000 in
theorem ggX8_sheet_X8_sheetAt : GoodIn wsX8_sheet wsX8_sheetAt := goodIn_r _ [5, 6, 29, 30, 31, 32, 33, 34, 35, 36] (by decide +kernel) (by decide +kernel)
set_option maxRecDepth 20000 in
theorem gX8_sheet_X8_sheetAt : GoodIn wsX8_sheet (wsV RX8 69 RX8 yX8_sheetAt wsX8_sheetAt) := goodIn_app (goodIn_of _ (by decide +kernel)) ggX8_sheet_X8_sheetAt
set_option maxRecDepth 20000 in
theorem ggX8_sheet_X8_isLane : GoodIn wsX8_sheet wsX8_isLane := goodIn_r _ [9] (by decide +kernel) (by decide +kernel)
set_option maxRecDepth 20000 in
theorem gX8_sheet_X8_isLane : GoodIn wsX8_sheet (va_wsS RX8 73 yX8_isLane wsX8_isLane) := goodIn_app (goodIn_of _ (by decide +kernel)) ggX8_sheet_X8_isLane
set_option maxRecDepth 20000 in
theorem ggX8_sheet_X5_become : GoodIn wsX8_sheet wsX5_become := goodIn_r _ [14, 15, 16, 17, 18, 19, 20, 21, 22, 23, 24, 25, 26, 27, 28, 37, 38, 39] (by decide +kernel) (by decide +kernel)
set_option maxRecDepth 20000 in
theorem gX8_sheet_X5_become : GoodIn wsX8_sheet (wsV RX8 256 RX5 yX5_become wsX5_become) := goodIn_app (goodIn_of _ (by decide +kernel)) ggX8_sheet_X5_become
theorem dX8_sheet_0 : decode cX8_sheet 0 = .ok (.aload_n 0, 1) := by decide +kernel
theorem dX8_sheet_1 : decode cX8_sheet 1 = .ok (.iload_n 1, 1) := by decide +kernel
theorem dX8_sheet_2 : decode cX8_sheet 2 = .ok (.invokevirtual 69, 3) := by decide +kernel
theorem dX8_sheet_5 : decode cX8_sheet 5 = .ok (.astore 4, 2) := by decide +kernel
theorem dX8_sheet_7 : decode cX8_sheet 7 = .ok (.aload 4, 2) := by decide +kernel
theorem dX8_sheet_9 : decode cX8_sheet 9 = .ok (.ifnull 16, 3) := by decide +kernel
theorem dX8_sheet_12 : decode cX8_sheet 12 = .ok (.iload_n 2, 1) := by decide +kernel
theorem dX8_sheet_13 : decode cX8_sheet 13 = .ok (.invokestatic 73, 3) := by decide +kernel
theorem dX8_sheet_16 : decode cX8_sheet 16 = .ok (.ifCond .eq 9, 3) := by decide +kernel
theorem dX8_sheet_19 : decode cX8_sheet 19 = .ok (.iload_n 3, 1) := by decide +kernel
theorem dX8_sheet_20 : decode cX8_sheet 20 = .ok (.bipush 36, 2) := by decide +kernel
theorem dX8_sheet_22 : decode cX8_sheet 22 = .ok (.if_icmp .le 5, 3) := by decide +kernel
theorem dX8_sheet_25 : decode cX8_sheet 25 = .ok (.iconst (-1), 1) := by decide +kernel
theorem dX8_sheet_26 : decode cX8_sheet 26 = .ok (.ireturn, 1) := by decide +kernel
theorem dX8_sheet_27 : decode cX8_sheet 27 = .ok (.iload_n 3, 1) := by decide +kernel
theorem dX8_sheet_28 : decode cX8_sheet 28 = .ok (.ifCond .ge 6, 3) := by decide +kernel
theorem dX8_sheet_31 : decode cX8_sheet 31 = .ok (.bipush (-14), 2) := by decide +kernel
theorem dX8_sheet_33 : decode cX8_sheet 33 = .ok (.ireturn, 1) := by decide +kernel
theorem dX8_sheet_34 : decode cX8_sheet 34 = .ok (.aload 4, 2) := by decide +kernel
theorem dX8_sheet_36 : decode cX8_sheet 36 = .ok (.iload_n 2, 1) := by decide +kernel
theorem dX8_sheet_37 : decode cX8_sheet 37 = .ok (.iload_n 3, 1) := by decide +kernel
theorem dX8_sheet_38 : decode cX8_sheet 38 = .ok (.invokevirtual 256, 3) := by decide +kernel
theorem dX8_sheet_41 : decode cX8_sheet 41 = .ok (.iload_n 3, 1) := by decide +kernel
theorem dX8_sheet_42 : decode cX8_sheet 42 = .ok (.ireturn, 1) := by decide +kernel
set_option maxRecDepth 20000 in
theorem ggX8_drop_X8_sheetAt : GoodIn wsX8_drop wsX8_sheetAt := goodIn_r _ [5, 6, 18, 19, 20, 21, 22, 23, 24, 25] (by decide +kernel) (by decide +kernel)
set_option maxRecDepth 20000 in
theorem gX8_drop_X8_sheetAt : GoodIn wsX8_drop (wsV RX8 69 RX8 yX8_sheetAt wsX8_sheetAt) := goodIn_app (goodIn_of _ (by decide +kernel)) ggX8_drop_X8_sheetAt
set_option maxRecDepth 20000 in
theorem ggX8_drop_X5_isNothing : GoodIn wsX8_drop wsX5_isNothing := goodIn_r _ [11, 12, 26, 27, 28] (by decide +kernel) (by decide +kernel)
set_option maxRecDepth 20000 in
theorem gX8_drop_X5_isNothing : GoodIn wsX8_drop (wsV RX8 257 RX5 yX5_isNothing wsX5_isNothing) := goodIn_app (goodIn_of _ (by decide +kernel)) ggX8_drop_X5_isNothing
set_option maxRecDepth 20000 in
theorem ggX8_drop_X5_empty : GoodIn wsX8_drop wsX5_empty := goodIn_r _ [16, 17, 12, 26, 27, 28] (by decide +kernel) (by decide +kernel)
set_option maxRecDepth 20000 in
theorem gX8_drop_X5_empty : GoodIn wsX8_drop (wsV RX8 261 RX5 yX5_empty wsX5_empty) := goodIn_app (goodIn_of _ (by decide +kernel)) ggX8_drop_X5_empty
theorem dX8_drop_0 : decode cX8_drop 0 = .ok (.aload_n 0, 1) := by decide +kernel
theorem dX8_drop_1 : decode cX8_drop 1 = .ok (.iload_n 1, 1) := by decide +kernel
theorem dX8_drop_2 : decode cX8_drop 2 = .ok (.invokevirtual 69, 3) := by decide +kernel
theorem dX8_drop_5 : decode cX8_drop 5 = .ok (.astore_n 2, 1) := by decide +kernel
theorem dX8_drop_6 : decode cX8_drop 6 = .ok (.aload_n 2, 1) := by decide +kernel
theorem dX8_drop_7 : decode cX8_drop 7 = .ok (.ifnonnull 5, 3) := by decide +kernel
theorem dX8_drop_10 : decode cX8_drop 10 = .ok (.iconst (-1), 1) := by decide +kernel
theorem dX8_drop_11 : decode cX8_drop 11 = .ok (.ireturn, 1) := by decide +kernel
theorem dX8_drop_12 : decode cX8_drop 12 = .ok (.aload_n 2, 1) := by decide +kernel
theorem dX8_drop_13 : decode cX8_drop 13 = .ok (.invokevirtual 257, 3) := by decide +kernel
theorem dX8_drop_16 : decode cX8_drop 16 = .ok (.ifCond .eq 8, 3) := by decide +kernel
theorem dX8_drop_19 : decode cX8_drop 19 = .ok (.bipush (-11), 2) := by decide +kernel
theorem dX8_drop_21 : decode cX8_drop 21 = .ok (.goto 7, 3) := by decide +kernel
theorem dX8_drop_24 : decode cX8_drop 24 = .ok (.aload_n 2, 1) := by decide +kernel
theorem dX8_drop_25 : decode cX8_drop 25 = .ok (.invokevirtual 261, 3) := by decide +kernel
theorem dX8_drop_28 : decode cX8_drop 28 = .ok (.ireturn, 1) := by decide +kernel
set_option maxRecDepth 20000 in
theorem ggX8_item_X8_sheetAt : GoodIn wsX8_item wsX8_sheetAt := goodIn_r _ [5, 6, 30, 31, 32, 33, 34, 35, 36, 37] (by decide +kernel) (by decide +kernel)
set_option maxRecDepth 20000 in
theorem gX8_item_X8_sheetAt : GoodIn wsX8_item (wsV RX8 69 RX8 yX8_sheetAt wsX8_sheetAt) := goodIn_app (goodIn_of _ (by decide +kernel)) ggX8_item_X8_sheetAt
set_option maxRecDepth 20000 in
theorem ggX8_item_X8_isLane : GoodIn wsX8_item wsX8_isLane := goodIn_r _ [9] (by decide +kernel) (by decide +kernel)
set_option maxRecDepth 20000 in
theorem gX8_item_X8_isLane : GoodIn wsX8_item (va_wsS RX8 73 yX8_isLane wsX8_isLane) := goodIn_app (goodIn_of _ (by decide +kernel)) ggX8_item_X8_isLane
set_option maxRecDepth 20000 in
theorem ggX8_item_X5_refusal : GoodIn wsX8_item wsX5_refusal := goodIn_r _ [14, 15, 16, 17, 18, 13, 19, 20, 21, 22, 23, 24, 38, 39, 40] (by decide +kernel) (by decide +kernel)
set_option maxRecDepth 20000 in
theorem gX8_item_X5_refusal : GoodIn wsX8_item (wsV RX8 77 RX5 yX5_refusal wsX5_refusal) := goodIn_app (goodIn_of _ (by decide +kernel)) ggX8_item_X5_refusal
set_option maxRecDepth 20000 in
theorem ggX8_item_X5_put : GoodIn wsX8_item wsX5_put := goodIn_r _ [28, 24, 29, 15, 38, 39, 40] (by decide +kernel) (by decide +kernel)
set_option maxRecDepth 20000 in
theorem gX8_item_X5_put : GoodIn wsX8_item (wsV RX8 262 RX5 yX5_put wsX5_put) := goodIn_app (goodIn_of _ (by decide +kernel)) ggX8_item_X5_put
theorem dX8_item_0 : decode cX8_item 0 = .ok (.aload_n 0, 1) := by decide +kernel
theorem dX8_item_1 : decode cX8_item 1 = .ok (.iload_n 1, 1) := by decide +kernel
theorem dX8_item_2 : decode cX8_item 2 = .ok (.invokevirtual 69, 3) := by decide +kernel
theorem dX8_item_5 : decode cX8_item 5 = .ok (.astore 5, 2) := by decide +kernel
theorem dX8_item_7 : decode cX8_item 7 = .ok (.aload 5, 2) := by decide +kernel
theorem dX8_item_9 : decode cX8_item 9 = .ok (.ifnull 10, 3) := by decide +kernel
theorem dX8_item_12 : decode cX8_item 12 = .ok (.iload_n 2, 1) := by decide +kernel
theorem dX8_item_13 : decode cX8_item 13 = .ok (.invokestatic 73, 3) := by decide +kernel
theorem dX8_item_16 : decode cX8_item 16 = .ok (.ifCond .ne 5, 3) := by decide +kernel
theorem dX8_item_19 : decode cX8_item 19 = .ok (.iconst (-1), 1) := by decide +kernel
theorem dX8_item_20 : decode cX8_item 20 = .ok (.ireturn, 1) := by decide +kernel
theorem dX8_item_21 : decode cX8_item 21 = .ok (.aload 5, 2) := by decide +kernel
theorem dX8_item_23 : decode cX8_item 23 = .ok (.iload_n 2, 1) := by decide +kernel
theorem dX8_item_24 : decode cX8_item 24 = .ok (.iload_n 3, 1) := by decide +kernel
theorem dX8_item_25 : decode cX8_item 25 = .ok (.iconst 1, 1) := by decide +kernel
theorem dX8_item_26 : decode cX8_item 26 = .ok (.invokevirtual 77, 3) := by decide +kernel
theorem dX8_item_29 : decode cX8_item 29 = .ok (.istore 6, 2) := by decide +kernel
theorem dX8_item_31 : decode cX8_item 31 = .ok (.iload 6, 2) := by decide +kernel
theorem dX8_item_33 : decode cX8_item 33 = .ok (.ifCond .ge 6, 3) := by decide +kernel
theorem dX8_item_36 : decode cX8_item 36 = .ok (.iload 6, 2) := by decide +kernel
theorem dX8_item_38 : decode cX8_item 38 = .ok (.ireturn, 1) := by decide +kernel
theorem dX8_item_39 : decode cX8_item 39 = .ok (.aload 5, 2) := by decide +kernel
theorem dX8_item_41 : decode cX8_item 41 = .ok (.iload_n 3, 1) := by decide +kernel
theorem dX8_item_42 : decode cX8_item 42 = .ok (.iload 4, 2) := by decide +kernel
theorem dX8_item_44 : decode cX8_item 44 = .ok (.invokevirtual 262, 3) := by decide +kernel
theorem dX8_item_47 : decode cX8_item 47 = .ok (.iconst 1, 1) := by decide +kernel
theorem dX8_item_48 : decode cX8_item 48 = .ok (.ireturn, 1) := by decide +kernel
set_option maxRecDepth 20000 in
theorem ggX8_copy_X8_sheetAt : GoodIn wsX8_copy wsX8_sheetAt := goodIn_r _ [5, 6, 32, 33, 34, 35, 36, 37, 38, 39] (by decide +kernel) (by decide +kernel)
set_option maxRecDepth 20000 in
theorem gX8_copy_X8_sheetAt : GoodIn wsX8_copy (wsV RX8 69 RX8 yX8_sheetAt wsX8_sheetAt) := goodIn_app (goodIn_of _ (by decide +kernel)) ggX8_copy_X8_sheetAt
set_option maxRecDepth 20000 in
theorem ggX8_copy_X5_isNothing : GoodIn wsX8_copy wsX5_isNothing := goodIn_r _ [11, 12, 40, 41, 42] (by decide +kernel) (by decide +kernel)
set_option maxRecDepth 20000 in
theorem gX8_copy_X5_isNothing : GoodIn wsX8_copy (wsV RX8 257 RX5 yX5_isNothing wsX5_isNothing) := goodIn_app (goodIn_of _ (by decide +kernel)) ggX8_copy_X5_isNothing
set_option maxRecDepth 20000 in
theorem ggX8_copy_X5_laneNow : GoodIn wsX8_copy wsX5_laneNow := goodIn_r _ [16, 12, 40, 41, 42] (by decide +kernel) (by decide +kernel)
set_option maxRecDepth 20000 in
theorem gX8_copy_X5_laneNow : GoodIn wsX8_copy (wsV RX8 265 RX5 yX5_laneNow wsX5_laneNow) := goodIn_app (goodIn_of _ (by decide +kernel)) ggX8_copy_X5_laneNow
set_option maxRecDepth 20000 in
theorem ggX8_copy_X5_covers : GoodIn wsX8_copy wsX5_covers := goodIn_r _ [20, 21, 40, 41, 42] (by decide +kernel) (by decide +kernel)
set_option maxRecDepth 20000 in
theorem gX8_copy_X5_covers : GoodIn wsX8_copy (wsV RX8 268 RX5 yX5_covers wsX5_covers) := goodIn_app (goodIn_of _ (by decide +kernel)) ggX8_copy_X5_covers
set_option maxRecDepth 20000 in
theorem ggX8_copy_X5_take : GoodIn wsX8_copy wsX5_take := goodIn_r _ [25, 26, 27, 28, 29, 30, 31, 18, 19, 10, 20, 21, 40, 41, 42] (by decide +kernel) (by decide +kernel)
set_option maxRecDepth 20000 in
theorem gX8_copy_X5_take : GoodIn wsX8_copy (wsV RX8 271 RX5 yX5_take wsX5_take) := goodIn_app (goodIn_of _ (by decide +kernel)) ggX8_copy_X5_take
theorem dX8_copy_0 : decode cX8_copy 0 = .ok (.aload_n 0, 1) := by decide +kernel
theorem dX8_copy_1 : decode cX8_copy 1 = .ok (.iload_n 1, 1) := by decide +kernel
theorem dX8_copy_2 : decode cX8_copy 2 = .ok (.invokevirtual 69, 3) := by decide +kernel
theorem dX8_copy_5 : decode cX8_copy 5 = .ok (.astore 6, 2) := by decide +kernel
theorem dX8_copy_7 : decode cX8_copy 7 = .ok (.aload_n 0, 1) := by decide +kernel
theorem dX8_copy_8 : decode cX8_copy 8 = .ok (.iload_n 3, 1) := by decide +kernel
theorem dX8_copy_9 : decode cX8_copy 9 = .ok (.invokevirtual 69, 3) := by decide +kernel
theorem dX8_copy_12 : decode cX8_copy 12 = .ok (.astore 7, 2) := by decide +kernel
theorem dX8_copy_14 : decode cX8_copy 14 = .ok (.aload 6, 2) := by decide +kernel
theorem dX8_copy_16 : decode cX8_copy 16 = .ok (.ifnull 8, 3) := by decide +kernel
theorem dX8_copy_19 : decode cX8_copy 19 = .ok (.aload 7, 2) := by decide +kernel
theorem dX8_copy_21 : decode cX8_copy 21 = .ok (.ifnonnull 5, 3) := by decide +kernel
theorem dX8_copy_24 : decode cX8_copy 24 = .ok (.iconst (-1), 1) := by decide +kernel
theorem dX8_copy_25 : decode cX8_copy 25 = .ok (.ireturn, 1) := by decide +kernel
theorem dX8_copy_26 : decode cX8_copy 26 = .ok (.aload 6, 2) := by decide +kernel
theorem dX8_copy_28 : decode cX8_copy 28 = .ok (.invokevirtual 257, 3) := by decide +kernel
theorem dX8_copy_31 : decode cX8_copy 31 = .ok (.ifCond .ne 11, 3) := by decide +kernel
theorem dX8_copy_34 : decode cX8_copy 34 = .ok (.aload 7, 2) := by decide +kernel
theorem dX8_copy_36 : decode cX8_copy 36 = .ok (.invokevirtual 257, 3) := by decide +kernel
theorem dX8_copy_39 : decode cX8_copy 39 = .ok (.ifCond .eq 6, 3) := by decide +kernel
theorem dX8_copy_42 : decode cX8_copy 42 = .ok (.bipush (-11), 2) := by decide +kernel
theorem dX8_copy_44 : decode cX8_copy 44 = .ok (.ireturn, 1) := by decide +kernel
theorem dX8_copy_45 : decode cX8_copy 45 = .ok (.aload 6, 2) := by decide +kernel
theorem dX8_copy_47 : decode cX8_copy 47 = .ok (.invokevirtual 265, 3) := by decide +kernel
theorem dX8_copy_50 : decode cX8_copy 50 = .ok (.aload 7, 2) := by decide +kernel
theorem dX8_copy_52 : decode cX8_copy 52 = .ok (.invokevirtual 265, 3) := by decide +kernel
theorem dX8_copy_55 : decode cX8_copy 55 = .ok (.if_icmp .eq 6, 3) := by decide +kernel
theorem dX8_copy_58 : decode cX8_copy 58 = .ok (.bipush (-12), 2) := by decide +kernel
theorem dX8_copy_60 : decode cX8_copy 60 = .ok (.ireturn, 1) := by decide +kernel
theorem dX8_copy_61 : decode cX8_copy 61 = .ok (.aload 6, 2) := by decide +kernel
theorem dX8_copy_63 : decode cX8_copy 63 = .ok (.iload_n 2, 1) := by decide +kernel
theorem dX8_copy_64 : decode cX8_copy 64 = .ok (.iload 5, 2) := by decide +kernel
theorem dX8_copy_66 : decode cX8_copy 66 = .ok (.invokevirtual 268, 3) := by decide +kernel
theorem dX8_copy_69 : decode cX8_copy 69 = .ok (.ifCond .eq 15, 3) := by decide +kernel
theorem dX8_copy_72 : decode cX8_copy 72 = .ok (.aload 7, 2) := by decide +kernel
theorem dX8_copy_74 : decode cX8_copy 74 = .ok (.iload 4, 2) := by decide +kernel
theorem dX8_copy_76 : decode cX8_copy 76 = .ok (.iload 5, 2) := by decide +kernel
theorem dX8_copy_78 : decode cX8_copy 78 = .ok (.invokevirtual 268, 3) := by decide +kernel
theorem dX8_copy_81 : decode cX8_copy 81 = .ok (.ifCond .ne 6, 3) := by decide +kernel
theorem dX8_copy_84 : decode cX8_copy 84 = .ok (.bipush (-13), 2) := by decide +kernel
theorem dX8_copy_86 : decode cX8_copy 86 = .ok (.ireturn, 1) := by decide +kernel
theorem dX8_copy_87 : decode cX8_copy 87 = .ok (.aload 7, 2) := by decide +kernel
theorem dX8_copy_89 : decode cX8_copy 89 = .ok (.iload 4, 2) := by decide +kernel
theorem dX8_copy_91 : decode cX8_copy 91 = .ok (.aload 6, 2) := by decide +kernel
theorem dX8_copy_93 : decode cX8_copy 93 = .ok (.iload_n 2, 1) := by decide +kernel
theorem dX8_copy_94 : decode cX8_copy 94 = .ok (.iload 5, 2) := by decide +kernel
theorem dX8_copy_96 : decode cX8_copy 96 = .ok (.invokevirtual 271, 3) := by decide +kernel
theorem dX8_copy_99 : decode cX8_copy 99 = .ok (.iload 5, 2) := by decide +kernel
theorem dX8_copy_101 : decode cX8_copy 101 = .ok (.ireturn, 1) := by decide +kernel
theorem dX8_isNear_0 : decode cX8_isNear 0 = .ok (.iload_n 0, 1) := by decide +kernel
theorem dX8_isNear_1 : decode cX8_isNear 1 = .ok (.iload_n 1, 1) := by decide +kernel
theorem dX8_isNear_2 : decode cX8_isNear 2 = .ok (.ineg, 1) := by decide +kernel
theorem dX8_isNear_3 : decode cX8_isNear 3 = .ok (.if_icmp .lt 12, 3) := by decide +kernel
theorem dX8_isNear_6 : decode cX8_isNear 6 = .ok (.iload_n 0, 1) := by decide +kernel
theorem dX8_isNear_7 : decode cX8_isNear 7 = .ok (.iload_n 1, 1) := by decide +kernel
theorem dX8_isNear_8 : decode cX8_isNear 8 = .ok (.if_icmp .gt 7, 3) := by decide +kernel
theorem dX8_isNear_11 : decode cX8_isNear 11 = .ok (.iconst 1, 1) := by decide +kernel
theorem dX8_isNear_12 : decode cX8_isNear 12 = .ok (.goto 4, 3) := by decide +kernel
theorem dX8_isNear_15 : decode cX8_isNear 15 = .ok (.iconst 0, 1) := by decide +kernel
theorem dX8_isNear_16 : decode cX8_isNear 16 = .ok (.ireturn, 1) := by decide +kernel
theorem dX8_isLane_0 : decode cX8_isLane 0 = .ok (.iload_n 0, 1) := by decide +kernel
theorem dX8_isLane_1 : decode cX8_isLane 1 = .ok (.ifCond .lt 12, 3) := by decide +kernel
theorem dX8_isLane_4 : decode cX8_isLane 4 = .ok (.iload_n 0, 1) := by decide +kernel
theorem dX8_isLane_5 : decode cX8_isLane 5 = .ok (.iconst 3, 1) := by decide +kernel
theorem dX8_isLane_6 : decode cX8_isLane 6 = .ok (.if_icmp .ge 7, 3) := by decide +kernel
theorem dX8_isLane_9 : decode cX8_isLane 9 = .ok (.iconst 1, 1) := by decide +kernel
theorem dX8_isLane_10 : decode cX8_isLane 10 = .ok (.goto 4, 3) := by decide +kernel
theorem dX8_isLane_13 : decode cX8_isLane 13 = .ok (.iconst 0, 1) := by decide +kernel
theorem dX8_isLane_14 : decode cX8_isLane 14 = .ok (.ireturn, 1) := by decide +kernel
theorem dX8_sheetAt_0 : decode cX8_sheetAt 0 = .ok (.iload_n 1, 1) := by decide +kernel
theorem dX8_sheetAt_1 : decode cX8_sheetAt 1 = .ok (.ifCond .lt 21, 3) := by decide +kernel
theorem dX8_sheetAt_4 : decode cX8_sheetAt 4 = .ok (.iload_n 1, 1) := by decide +kernel
theorem dX8_sheetAt_5 : decode cX8_sheetAt 5 = .ok (.aload_n 0, 1) := by decide +kernel
theorem dX8_sheetAt_6 : decode cX8_sheetAt 6 = .ok (.getfield 56, 3) := by decide +kernel
theorem dX8_sheetAt_9 : decode cX8_sheetAt 9 = .ok (.arraylength, 1) := by decide +kernel
theorem dX8_sheetAt_10 : decode cX8_sheetAt 10 = .ok (.if_icmp .ge 12, 3) := by decide +kernel
theorem dX8_sheetAt_13 : decode cX8_sheetAt 13 = .ok (.aload_n 0, 1) := by decide +kernel
theorem dX8_sheetAt_14 : decode cX8_sheetAt 14 = .ok (.getfield 56, 3) := by decide +kernel
theorem dX8_sheetAt_17 : decode cX8_sheetAt 17 = .ok (.iload_n 1, 1) := by decide +kernel
theorem dX8_sheetAt_18 : decode cX8_sheetAt 18 = .ok (.aaload, 1) := by decide +kernel
theorem dX8_sheetAt_19 : decode cX8_sheetAt 19 = .ok (.goto 4, 3) := by decide +kernel
theorem dX8_sheetAt_22 : decode cX8_sheetAt 22 = .ok (.aconst_null, 1) := by decide +kernel
theorem dX8_sheetAt_23 : decode cX8_sheetAt 23 = .ok (.areturn, 1) := by decide +kernel
theorem dX8_pushInTurn_0 : decode cX8_pushInTurn 0 = .ok (.iload_n 0, 1) := by decide +kernel
theorem dX8_pushInTurn_1 : decode cX8_pushInTurn 1 = .ok (.iconst 2, 1) := by decide +kernel
theorem dX8_pushInTurn_2 : decode cX8_pushInTurn 2 = .ok (.irem, 1) := by decide +kernel
theorem dX8_pushInTurn_3 : decode cX8_pushInTurn 3 = .ok (.iconst 1, 1) := by decide +kernel
theorem dX8_pushInTurn_4 : decode cX8_pushInTurn 4 = .ok (.if_icmp .ne 11, 3) := by decide +kernel
theorem dX8_pushInTurn_7 : decode cX8_pushInTurn 7 = .ok (.iload_n 0, 1) := by decide +kernel
theorem dX8_pushInTurn_8 : decode cX8_pushInTurn 8 = .ok (.iconst 2, 1) := by decide +kernel
theorem dX8_pushInTurn_9 : decode cX8_pushInTurn 9 = .ok (.idiv, 1) := by decide +kernel
theorem dX8_pushInTurn_10 : decode cX8_pushInTurn 10 = .ok (.iconst 1, 1) := by decide +kernel
theorem dX8_pushInTurn_11 : decode cX8_pushInTurn 11 = .ok (.iadd, 1) := by decide +kernel
theorem dX8_pushInTurn_12 : decode cX8_pushInTurn 12 = .ok (.goto 7, 3) := by decide +kernel
theorem dX8_pushInTurn_15 : decode cX8_pushInTurn 15 = .ok (.iload_n 0, 1) := by decide +kernel
theorem dX8_pushInTurn_16 : decode cX8_pushInTurn 16 = .ok (.iconst 2, 1) := by decide +kernel
theorem dX8_pushInTurn_17 : decode cX8_pushInTurn 17 = .ok (.idiv, 1) := by decide +kernel
theorem dX8_pushInTurn_18 : decode cX8_pushInTurn 18 = .ok (.ineg, 1) := by decide +kernel
theorem dX8_pushInTurn_19 : decode cX8_pushInTurn 19 = .ok (.ireturn, 1) := by decide +kernel
set_option maxRecDepth 20000 in
theorem ggX8_rests_X0_size : GoodIn wsX8_rests wsX0_size := goodIn_r _ [6, 7, 16, 17, 18, 19, 20, 21, 22] (by decide +kernel) (by decide +kernel)
set_option maxRecDepth 20000 in
theorem gX8_rests_X0_size : GoodIn wsX8_rests (wsV RX8 152 RX0 yX0_size wsX0_size) := goodIn_app (goodIn_of _ (by decide +kernel)) ggX8_rests_X0_size
theorem dX8_rests_0 : decode cX8_rests 0 = .ok (.iconst 0, 1) := by decide +kernel
theorem dX8_rests_1 : decode cX8_rests 1 = .ok (.istore_n 3, 1) := by decide +kernel
theorem dX8_rests_2 : decode cX8_rests 2 = .ok (.iconst 0, 1) := by decide +kernel
theorem dX8_rests_3 : decode cX8_rests 3 = .ok (.istore 4, 2) := by decide +kernel
theorem dX8_rests_5 : decode cX8_rests 5 = .ok (.iload 4, 2) := by decide +kernel
theorem dX8_rests_7 : decode cX8_rests 7 = .ok (.aload_n 0, 1) := by decide +kernel
theorem dX8_rests_8 : decode cX8_rests 8 = .ok (.getfield 10, 3) := by decide +kernel
theorem dX8_rests_11 : decode cX8_rests 11 = .ok (.invokevirtual 152, 3) := by decide +kernel
theorem dX8_rests_14 : decode cX8_rests 14 = .ok (.if_icmp .ge 31, 3) := by decide +kernel
theorem dX8_rests_17 : decode cX8_rests 17 = .ok (.iload_n 1, 1) := by decide +kernel
theorem dX8_rests_18 : decode cX8_rests 18 = .ok (.iload 4, 2) := by decide +kernel
theorem dX8_rests_20 : decode cX8_rests 20 = .ok (.ishr, 1) := by decide +kernel
theorem dX8_rests_21 : decode cX8_rests 21 = .ok (.iconst 1, 1) := by decide +kernel
theorem dX8_rests_22 : decode cX8_rests 22 = .ok (.iand, 1) := by decide +kernel
theorem dX8_rests_23 : decode cX8_rests 23 = .ok (.ifCond .eq 16, 3) := by decide +kernel
theorem dX8_rests_26 : decode cX8_rests 26 = .ok (.iload_n 2, 1) := by decide +kernel
theorem dX8_rests_27 : decode cX8_rests 27 = .ok (.ifCond .le 12, 3) := by decide +kernel
theorem dX8_rests_30 : decode cX8_rests 30 = .ok (.iload_n 3, 1) := by decide +kernel
theorem dX8_rests_31 : decode cX8_rests 31 = .ok (.iconst 1, 1) := by decide +kernel
theorem dX8_rests_32 : decode cX8_rests 32 = .ok (.iload 4, 2) := by decide +kernel
theorem dX8_rests_34 : decode cX8_rests 34 = .ok (.iload_n 2, 1) := by decide +kernel
theorem dX8_rests_35 : decode cX8_rests 35 = .ok (.irem, 1) := by decide +kernel
theorem dX8_rests_36 : decode cX8_rests 36 = .ok (.ishl, 1) := by decide +kernel
theorem dX8_rests_37 : decode cX8_rests 37 = .ok (.ior, 1) := by decide +kernel
theorem dX8_rests_38 : decode cX8_rests 38 = .ok (.istore_n 3, 1) := by decide +kernel
theorem dX8_rests_39 : decode cX8_rests 39 = .ok (.iinc 4 1, 3) := by decide +kernel
theorem dX8_rests_42 : decode cX8_rests 42 = .ok (.goto (-37), 3) := by decide +kernel
theorem dX8_rests_45 : decode cX8_rests 45 = .ok (.iload_n 3, 1) := by decide +kernel
theorem dX8_rests_46 : decode cX8_rests 46 = .ok (.ireturn, 1) := by decide +kernel
theorem dX9_in_0 : decode cX9_in 0 = .ok (.lload_n 0, 1) := by decide +kernel
theorem dX9_in_1 : decode cX9_in 1 = .ok (.lload_n 2, 1) := by decide +kernel
theorem dX9_in_2 : decode cX9_in 2 = .ok (.lcmp, 1) := by decide +kernel
theorem dX9_in_3 : decode cX9_in 3 = .ok (.ifCond .lt 14, 3) := by decide +kernel
theorem dX9_in_6 : decode cX9_in 6 = .ok (.lload_n 0, 1) := by decide +kernel
theorem dX9_in_7 : decode cX9_in 7 = .ok (.lload 4, 2) := by decide +kernel
theorem dX9_in_9 : decode cX9_in 9 = .ok (.lcmp, 1) := by decide +kernel
theorem dX9_in_10 : decode cX9_in 10 = .ok (.ifCond .gt 7, 3) := by decide +kernel
theorem dX9_in_13 : decode cX9_in 13 = .ok (.iconst 1, 1) := by decide +kernel
theorem dX9_in_14 : decode cX9_in 14 = .ok (.goto 4, 3) := by decide +kernel
theorem dX9_in_17 : decode cX9_in 17 = .ok (.iconst 0, 1) := by decide +kernel
theorem dX9_in_18 : decode cX9_in 18 = .ok (.ireturn, 1) := by decide +kernel
theorem dX9_init_0 : decode cX9_init 0 = .ok (.aload_n 0, 1) := by decide +kernel
theorem dX9_init_1 : decode cX9_init 1 = .ok (.invokespecial 1, 3) := by decide +kernel
theorem dX9_init_4 : decode cX9_init 4 = .ok (.aload_n 0, 1) := by decide +kernel
theorem dX9_init_5 : decode cX9_init 5 = .ok (.bipush 12, 2) := by decide +kernel
theorem dX9_init_7 : decode cX9_init 7 = .ok (.newarray .int, 2) := by decide +kernel
theorem dX9_init_9 : decode cX9_init 9 = .ok (.putfield 7, 3) := by decide +kernel
theorem dX9_init_12 : decode cX9_init 12 = .ok (.aload_n 0, 1) := by decide +kernel
theorem dX9_init_13 : decode cX9_init 13 = .ok (.bipush 12, 2) := by decide +kernel
theorem dX9_init_15 : decode cX9_init 15 = .ok (.newarray .int, 2) := by decide +kernel
theorem dX9_init_17 : decode cX9_init 17 = .ok (.putfield 13, 3) := by decide +kernel
theorem dX9_init_20 : decode cX9_init 20 = .ok (.aload_n 0, 1) := by decide +kernel
theorem dX9_init_21 : decode cX9_init 21 = .ok (.bipush 12, 2) := by decide +kernel
theorem dX9_init_23 : decode cX9_init 23 = .ok (.newarray .int, 2) := by decide +kernel
theorem dX9_init_25 : decode cX9_init 25 = .ok (.putfield 16, 3) := by decide +kernel
theorem dX9_init_28 : decode cX9_init 28 = .ok (.aload_n 0, 1) := by decide +kernel
theorem dX9_init_29 : decode cX9_init 29 = .ok (.bipush 12, 2) := by decide +kernel
theorem dX9_init_31 : decode cX9_init 31 = .ok (.newarray .boolean, 2) := by decide +kernel
theorem dX9_init_33 : decode cX9_init 33 = .ok (.putfield 19, 3) := by decide +kernel
theorem dX9_init_36 : decode cX9_init 36 = .ok (.aload_n 0, 1) := by decide +kernel
theorem dX9_init_37 : decode cX9_init 37 = .ok (.iconst 1, 1) := by decide +kernel
theorem dX9_init_38 : decode cX9_init 38 = .ok (.putfield 23, 3) := by decide +kernel
theorem dX9_init_41 : decode cX9_init 41 = .ok (.aload_n 0, 1) := by decide +kernel
theorem dX9_init_42 : decode cX9_init 42 = .ok (.bipush 120, 2) := by decide +kernel
theorem dX9_init_44 : decode cX9_init 44 = .ok (.newarray .int, 2) := by decide +kernel
theorem dX9_init_46 : decode cX9_init 46 = .ok (.putfield 27, 3) := by decide +kernel
theorem dX9_init_49 : decode cX9_init 49 = .ok (.aload_n 0, 1) := by decide +kernel
theorem dX9_init_50 : decode cX9_init 50 = .ok (.sipush 289, 3) := by decide +kernel
theorem dX9_init_53 : decode cX9_init 53 = .ok (.newarray .int, 2) := by decide +kernel
theorem dX9_init_55 : decode cX9_init 55 = .ok (.putfield 30, 3) := by decide +kernel
theorem dX9_init_58 : decode cX9_init 58 = .ok (.aload_n 0, 1) := by decide +kernel
theorem dX9_init_59 : decode cX9_init 59 = .ok (.sipush 4096, 3) := by decide +kernel
theorem dX9_init_62 : decode cX9_init 62 = .ok (.newarray .int, 2) := by decide +kernel
theorem dX9_init_64 : decode cX9_init 64 = .ok (.putfield 33, 3) := by decide +kernel
theorem dX9_init_67 : decode cX9_init 67 = .ok (.aload_n 0, 1) := by decide +kernel
theorem dX9_init_68 : decode cX9_init 68 = .ok (.sipush 289, 3) := by decide +kernel
theorem dX9_init_71 : decode cX9_init 71 = .ok (.newarray .boolean, 2) := by decide +kernel
theorem dX9_init_73 : decode cX9_init 73 = .ok (.putfield 36, 3) := by decide +kernel
theorem dX9_init_76 : decode cX9_init 76 = .ok (.aload_n 0, 1) := by decide +kernel
theorem dX9_init_77 : decode cX9_init 77 = .ok (.iconst 4, 1) := by decide +kernel
theorem dX9_init_78 : decode cX9_init 78 = .ok (.newarray .int, 2) := by decide +kernel
theorem dX9_init_80 : decode cX9_init 80 = .ok (.putfield 39, 3) := by decide +kernel
theorem dX9_init_83 : decode cX9_init 83 = .ok (.aload_n 0, 1) := by decide +kernel
theorem dX9_init_84 : decode cX9_init 84 = .ok (.iconst 4, 1) := by decide +kernel
theorem dX9_init_85 : decode cX9_init 85 = .ok (.newarray .int, 2) := by decide +kernel
theorem dX9_init_87 : decode cX9_init 87 = .ok (.putfield 42, 3) := by decide +kernel
theorem dX9_init_90 : decode cX9_init 90 = .ok (.aload_n 0, 1) := by decide +kernel
theorem dX9_init_91 : decode cX9_init 91 = .ok (.iconst 4, 1) := by decide +kernel
theorem dX9_init_92 : decode cX9_init 92 = .ok (.newarray .int, 2) := by decide +kernel
theorem dX9_init_94 : decode cX9_init 94 = .ok (.putfield 45, 3) := by decide +kernel
theorem dX9_init_97 : decode cX9_init 97 = .ok (.aload_n 0, 1) := by decide +kernel
theorem dX9_init_98 : decode cX9_init 98 = .ok (.sipush 144, 3) := by decide +kernel
theorem dX9_init_101 : decode cX9_init 101 = .ok (.newarray .int, 2) := by decide +kernel
theorem dX9_init_103 : decode cX9_init 103 = .ok (.putfield 48, 3) := by decide +kernel
theorem dX9_init_106 : decode cX9_init 106 = .ok (.aload_n 0, 1) := by decide +kernel
theorem dX9_init_107 : decode cX9_init 107 = .ok (.bipush 36, 2) := by decide +kernel
theorem dX9_init_109 : decode cX9_init 109 = .ok (.newarray .int, 2) := by decide +kernel
theorem dX9_init_111 : decode cX9_init 111 = .ok (.putfield 51, 3) := by decide +kernel
theorem dX9_init_114 : decode cX9_init 114 = .ok (.iconst 0, 1) := by decide +kernel
theorem dX9_init_115 : decode cX9_init 115 = .ok (.istore_n 1, 1) := by decide +kernel
theorem dX9_init_116 : decode cX9_init 116 = .ok (.iload_n 1, 1) := by decide +kernel
theorem dX9_init_117 : decode cX9_init 117 = .ok (.iconst 4, 1) := by decide +kernel
theorem dX9_init_118 : decode cX9_init 118 = .ok (.if_icmp .ge 16, 3) := by decide +kernel
theorem dX9_init_121 : decode cX9_init 121 = .ok (.aload_n 0, 1) := by decide +kernel
theorem dX9_init_122 : decode cX9_init 122 = .ok (.getfield 42, 3) := by decide +kernel
theorem dX9_init_125 : decode cX9_init 125 = .ok (.iload_n 1, 1) := by decide +kernel
theorem dX9_init_126 : decode cX9_init 126 = .ok (.iconst (-1), 1) := by decide +kernel
theorem dX9_init_127 : decode cX9_init 127 = .ok (.iastore, 1) := by decide +kernel
theorem dX9_init_128 : decode cX9_init 128 = .ok (.iinc 1 1, 3) := by decide +kernel
theorem dX9_init_131 : decode cX9_init 131 = .ok (.goto (-15), 3) := by decide +kernel
theorem dX9_init_134 : decode cX9_init 134 = .ok (.return_, 1) := by decide +kernel
set_option maxRecDepth 20000 in
theorem ggX9_isSmall_X9_in : GoodIn wsX9_isSmall wsX9_in := goodIn_r _ [6] (by decide +kernel) (by decide +kernel)
set_option maxRecDepth 20000 in
theorem gX9_isSmall_X9_in : GoodIn wsX9_isSmall (va_wsS RX9 58 yX9_in wsX9_in) := goodIn_app (goodIn_of _ (by decide +kernel)) ggX9_isSmall_X9_in
theorem dX9_isSmall_0 : decode cX9_isSmall 0 = .ok (.iload_n 0, 1) := by decide +kernel
theorem dX9_isSmall_1 : decode cX9_isSmall 1 = .ok (.i2l, 1) := by decide +kernel
theorem dX9_isSmall_2 : decode cX9_isSmall 2 = .ok (.ldc2_w 54, 3) := by decide +kernel
theorem dX9_isSmall_5 : decode cX9_isSmall 5 = .ok (.ldc2_w 56, 3) := by decide +kernel
theorem dX9_isSmall_8 : decode cX9_isSmall 8 = .ok (.invokestatic 58, 3) := by decide +kernel
theorem dX9_isSmall_11 : decode cX9_isSmall 11 = .ok (.ireturn, 1) := by decide +kernel
set_option maxRecDepth 20000 in
theorem ggX9_isRow_X9_in : GoodIn wsX9_isRow wsX9_in := goodIn_r _ [5] (by decide +kernel) (by decide +kernel)
set_option maxRecDepth 20000 in
theorem gX9_isRow_X9_in : GoodIn wsX9_isRow (va_wsS RX9 58 yX9_in wsX9_in) := goodIn_app (goodIn_of _ (by decide +kernel)) ggX9_isRow_X9_in
theorem dX9_isRow_0 : decode cX9_isRow 0 = .ok (.iload_n 1, 1) := by decide +kernel
theorem dX9_isRow_1 : decode cX9_isRow 1 = .ok (.i2l, 1) := by decide +kernel
theorem dX9_isRow_2 : decode cX9_isRow 2 = .ok (.lconst 0, 1) := by decide +kernel
theorem dX9_isRow_3 : decode cX9_isRow 3 = .ok (.aload_n 0, 1) := by decide +kernel
theorem dX9_isRow_4 : decode cX9_isRow 4 = .ok (.getfield 62, 3) := by decide +kernel
theorem dX9_isRow_7 : decode cX9_isRow 7 = .ok (.iconst 1, 1) := by decide +kernel
theorem dX9_isRow_8 : decode cX9_isRow 8 = .ok (.isub, 1) := by decide +kernel
theorem dX9_isRow_9 : decode cX9_isRow 9 = .ok (.i2l, 1) := by decide +kernel
theorem dX9_isRow_10 : decode cX9_isRow 10 = .ok (.invokestatic 58, 3) := by decide +kernel
theorem dX9_isRow_13 : decode cX9_isRow 13 = .ok (.ireturn, 1) := by decide +kernel
theorem dX9_puts_0 : decode cX9_puts 0 = .ok (.aload_n 0, 1) := by decide +kernel
theorem dX9_puts_1 : decode cX9_puts 1 = .ok (.getfield 7, 3) := by decide +kernel
theorem dX9_puts_4 : decode cX9_puts 4 = .ok (.aload_n 0, 1) := by decide +kernel
theorem dX9_puts_5 : decode cX9_puts 5 = .ok (.getfield 62, 3) := by decide +kernel
theorem dX9_puts_8 : decode cX9_puts 8 = .ok (.iload_n 1, 1) := by decide +kernel
theorem dX9_puts_9 : decode cX9_puts 9 = .ok (.iastore, 1) := by decide +kernel
theorem dX9_puts_10 : decode cX9_puts 10 = .ok (.aload_n 0, 1) := by decide +kernel
theorem dX9_puts_11 : decode cX9_puts 11 = .ok (.getfield 13, 3) := by decide +kernel
theorem dX9_puts_14 : decode cX9_puts 14 = .ok (.aload_n 0, 1) := by decide +kernel
theorem dX9_puts_15 : decode cX9_puts 15 = .ok (.getfield 62, 3) := by decide +kernel
theorem dX9_puts_18 : decode cX9_puts 18 = .ok (.iload_n 2, 1) := by decide +kernel
theorem dX9_puts_19 : decode cX9_puts 19 = .ok (.iastore, 1) := by decide +kernel
theorem dX9_puts_20 : decode cX9_puts 20 = .ok (.aload_n 0, 1) := by decide +kernel
theorem dX9_puts_21 : decode cX9_puts 21 = .ok (.getfield 16, 3) := by decide +kernel
theorem dX9_puts_24 : decode cX9_puts 24 = .ok (.aload_n 0, 1) := by decide +kernel
theorem dX9_puts_25 : decode cX9_puts 25 = .ok (.getfield 62, 3) := by decide +kernel
theorem dX9_puts_28 : decode cX9_puts 28 = .ok (.iload 4, 2) := by decide +kernel
theorem dX9_puts_30 : decode cX9_puts 30 = .ok (.ifCond .eq 7, 3) := by decide +kernel
theorem dX9_puts_33 : decode cX9_puts 33 = .ok (.iconst 0, 1) := by decide +kernel
theorem dX9_puts_34 : decode cX9_puts 34 = .ok (.goto 4, 3) := by decide +kernel
theorem dX9_puts_37 : decode cX9_puts 37 = .ok (.iload_n 3, 1) := by decide +kernel
theorem dX9_puts_38 : decode cX9_puts 38 = .ok (.iastore, 1) := by decide +kernel
theorem dX9_puts_39 : decode cX9_puts 39 = .ok (.aload_n 0, 1) := by decide +kernel
theorem dX9_puts_40 : decode cX9_puts 40 = .ok (.getfield 19, 3) := by decide +kernel
theorem dX9_puts_43 : decode cX9_puts 43 = .ok (.aload_n 0, 1) := by decide +kernel
theorem dX9_puts_44 : decode cX9_puts 44 = .ok (.getfield 62, 3) := by decide +kernel
theorem dX9_puts_47 : decode cX9_puts 47 = .ok (.iload 4, 2) := by decide +kernel
theorem dX9_puts_49 : decode cX9_puts 49 = .ok (.bastore, 1) := by decide +kernel
theorem dX9_puts_50 : decode cX9_puts 50 = .ok (.aload_n 0, 1) := by decide +kernel
theorem dX9_puts_51 : decode cX9_puts 51 = .ok (.dup, 1) := by decide +kernel
theorem dX9_puts_52 : decode cX9_puts 52 = .ok (.getfield 62, 3) := by decide +kernel
theorem dX9_puts_55 : decode cX9_puts 55 = .ok (.iconst 1, 1) := by decide +kernel
theorem dX9_puts_56 : decode cX9_puts 56 = .ok (.iadd, 1) := by decide +kernel
theorem dX9_puts_57 : decode cX9_puts 57 = .ok (.putfield 62, 3) := by decide +kernel
theorem dX9_puts_60 : decode cX9_puts 60 = .ok (.return_, 1) := by decide +kernel
set_option maxRecDepth 20000 in
theorem ggX9_row_X9_isSmall : GoodIn wsX9_row wsX9_isSmall := goodIn_r _ [5, 6, 7, 8, 9, 4, 10] (by decide +kernel) (by decide +kernel)
set_option maxRecDepth 20000 in
theorem gX9_row_X9_isSmall : GoodIn wsX9_row (va_wsS RX9 65 yX9_isSmall wsX9_isSmall) := goodIn_app (goodIn_of _ (by decide +kernel)) ggX9_row_X9_isSmall
set_option maxRecDepth 20000 in
theorem ggX9_row_X9_puts : GoodIn wsX9_row wsX9_puts := goodIn_r _ [14, 15, 1, 16, 17, 18, 19, 20, 21, 22, 23, 24, 25, 26, 27, 28, 29, 30, 31, 32, 33, 34, 35, 36, 37, 38, 39, 40, 41, 42] (by decide +kernel) (by decide +kernel)
set_option maxRecDepth 20000 in
theorem gX9_row_X9_puts : GoodIn wsX9_row (wsV RX9 69 RX9 yX9_puts wsX9_puts) := goodIn_app (goodIn_of _ (by decide +kernel)) ggX9_row_X9_puts
theorem dX9_row_0 : decode cX9_row 0 = .ok (.iload_n 1, 1) := by decide +kernel
theorem dX9_row_1 : decode cX9_row 1 = .ok (.invokestatic 65, 3) := by decide +kernel
theorem dX9_row_4 : decode cX9_row 4 = .ok (.ifCond .eq 17, 3) := by decide +kernel
theorem dX9_row_7 : decode cX9_row 7 = .ok (.iload_n 2, 1) := by decide +kernel
theorem dX9_row_8 : decode cX9_row 8 = .ok (.invokestatic 65, 3) := by decide +kernel
theorem dX9_row_11 : decode cX9_row 11 = .ok (.ifCond .eq 10, 3) := by decide +kernel
theorem dX9_row_14 : decode cX9_row 14 = .ok (.iload_n 3, 1) := by decide +kernel
theorem dX9_row_15 : decode cX9_row 15 = .ok (.invokestatic 65, 3) := by decide +kernel
theorem dX9_row_18 : decode cX9_row 18 = .ok (.ifCond .ne 5, 3) := by decide +kernel
theorem dX9_row_21 : decode cX9_row 21 = .ok (.iconst (-1), 1) := by decide +kernel
theorem dX9_row_22 : decode cX9_row 22 = .ok (.ireturn, 1) := by decide +kernel
theorem dX9_row_23 : decode cX9_row 23 = .ok (.aload_n 0, 1) := by decide +kernel
theorem dX9_row_24 : decode cX9_row 24 = .ok (.getfield 62, 3) := by decide +kernel
theorem dX9_row_27 : decode cX9_row 27 = .ok (.bipush 12, 2) := by decide +kernel
theorem dX9_row_29 : decode cX9_row 29 = .ok (.if_icmp .ne 6, 3) := by decide +kernel
theorem dX9_row_32 : decode cX9_row 32 = .ok (.bipush (-3), 2) := by decide +kernel
theorem dX9_row_34 : decode cX9_row 34 = .ok (.ireturn, 1) := by decide +kernel
theorem dX9_row_35 : decode cX9_row 35 = .ok (.aload_n 0, 1) := by decide +kernel
theorem dX9_row_36 : decode cX9_row 36 = .ok (.iload_n 1, 1) := by decide +kernel
theorem dX9_row_37 : decode cX9_row 37 = .ok (.iload_n 2, 1) := by decide +kernel
theorem dX9_row_38 : decode cX9_row 38 = .ok (.iload_n 3, 1) := by decide +kernel
theorem dX9_row_39 : decode cX9_row 39 = .ok (.iconst 0, 1) := by decide +kernel
theorem dX9_row_40 : decode cX9_row 40 = .ok (.invokevirtual 69, 3) := by decide +kernel
theorem dX9_row_43 : decode cX9_row 43 = .ok (.aload_n 0, 1) := by decide +kernel
theorem dX9_row_44 : decode cX9_row 44 = .ok (.getfield 62, 3) := by decide +kernel
theorem dX9_row_47 : decode cX9_row 47 = .ok (.iconst 1, 1) := by decide +kernel
theorem dX9_row_48 : decode cX9_row 48 = .ok (.isub, 1) := by decide +kernel
theorem dX9_row_49 : decode cX9_row 49 = .ok (.ireturn, 1) := by decide +kernel
set_option maxRecDepth 20000 in
theorem ggX9_gap_X9_isSmall : GoodIn wsX9_gap wsX9_isSmall := goodIn_r _ [5, 6, 7, 8, 9, 4, 10] (by decide +kernel) (by decide +kernel)
set_option maxRecDepth 20000 in
theorem gX9_gap_X9_isSmall : GoodIn wsX9_gap (va_wsS RX9 65 yX9_isSmall wsX9_isSmall) := goodIn_app (goodIn_of _ (by decide +kernel)) ggX9_gap_X9_isSmall
set_option maxRecDepth 20000 in
theorem ggX9_gap_X9_puts : GoodIn wsX9_gap wsX9_puts := goodIn_r _ [14, 15, 1, 16, 17, 18, 19, 20, 21, 22, 23, 24, 25, 26, 27, 28, 29, 30, 31, 32, 33, 34, 35, 36, 37, 38, 39, 40, 41, 42] (by decide +kernel) (by decide +kernel)
set_option maxRecDepth 20000 in
theorem gX9_gap_X9_puts : GoodIn wsX9_gap (wsV RX9 69 RX9 yX9_puts wsX9_puts) := goodIn_app (goodIn_of _ (by decide +kernel)) ggX9_gap_X9_puts
theorem dX9_gap_0 : decode cX9_gap 0 = .ok (.iload_n 1, 1) := by decide +kernel
theorem dX9_gap_1 : decode cX9_gap 1 = .ok (.invokestatic 65, 3) := by decide +kernel
theorem dX9_gap_4 : decode cX9_gap 4 = .ok (.ifCond .eq 10, 3) := by decide +kernel
theorem dX9_gap_7 : decode cX9_gap 7 = .ok (.iload_n 2, 1) := by decide +kernel
theorem dX9_gap_8 : decode cX9_gap 8 = .ok (.invokestatic 65, 3) := by decide +kernel
theorem dX9_gap_11 : decode cX9_gap 11 = .ok (.ifCond .ne 5, 3) := by decide +kernel
theorem dX9_gap_14 : decode cX9_gap 14 = .ok (.iconst (-1), 1) := by decide +kernel
theorem dX9_gap_15 : decode cX9_gap 15 = .ok (.ireturn, 1) := by decide +kernel
theorem dX9_gap_16 : decode cX9_gap 16 = .ok (.aload_n 0, 1) := by decide +kernel
theorem dX9_gap_17 : decode cX9_gap 17 = .ok (.getfield 62, 3) := by decide +kernel
theorem dX9_gap_20 : decode cX9_gap 20 = .ok (.bipush 12, 2) := by decide +kernel
theorem dX9_gap_22 : decode cX9_gap 22 = .ok (.if_icmp .ne 6, 3) := by decide +kernel
theorem dX9_gap_25 : decode cX9_gap 25 = .ok (.bipush (-3), 2) := by decide +kernel
theorem dX9_gap_27 : decode cX9_gap 27 = .ok (.ireturn, 1) := by decide +kernel
theorem dX9_gap_28 : decode cX9_gap 28 = .ok (.aload_n 0, 1) := by decide +kernel
theorem dX9_gap_29 : decode cX9_gap 29 = .ok (.iload_n 1, 1) := by decide +kernel
theorem dX9_gap_30 : decode cX9_gap 30 = .ok (.iload_n 2, 1) := by decide +kernel
theorem dX9_gap_31 : decode cX9_gap 31 = .ok (.iconst 0, 1) := by decide +kernel
theorem dX9_gap_32 : decode cX9_gap 32 = .ok (.iconst 1, 1) := by decide +kernel
theorem dX9_gap_33 : decode cX9_gap 33 = .ok (.invokevirtual 69, 3) := by decide +kernel
theorem dX9_gap_36 : decode cX9_gap 36 = .ok (.aload_n 0, 1) := by decide +kernel
theorem dX9_gap_37 : decode cX9_gap 37 = .ok (.getfield 62, 3) := by decide +kernel
theorem dX9_gap_40 : decode cX9_gap 40 = .ok (.iconst 1, 1) := by decide +kernel
theorem dX9_gap_41 : decode cX9_gap 41 = .ok (.isub, 1) := by decide +kernel
theorem dX9_gap_42 : decode cX9_gap 42 = .ok (.ireturn, 1) := by decide +kernel
set_option maxRecDepth 20000 in
theorem ggX9_rows_X9_isSheet : GoodIn wsX9_rows wsX9_isSheet := goodIn_r _ [7, 8, 9, 10, 6, 11] (by decide +kernel) (by decide +kernel)
set_option maxRecDepth 20000 in
theorem gX9_rows_X9_isSheet : GoodIn wsX9_rows (va_wsS RX9 73 yX9_isSheet wsX9_isSheet) := goodIn_app (goodIn_of _ (by decide +kernel)) ggX9_rows_X9_isSheet
set_option maxRecDepth 20000 in
theorem ggX9_rows_X9_isLane : GoodIn wsX9_rows wsX9_isLane := goodIn_r _ [14, 15, 9, 10, 6, 11] (by decide +kernel) (by decide +kernel)
set_option maxRecDepth 20000 in
theorem gX9_rows_X9_isLane : GoodIn wsX9_rows (va_wsS RX9 76 yX9_isLane wsX9_isLane) := goodIn_app (goodIn_of _ (by decide +kernel)) ggX9_rows_X9_isLane
set_option maxRecDepth 20000 in
theorem ggX9_rows_X9_in : GoodIn wsX9_rows wsX9_in := goodIn_r _ [11] (by decide +kernel) (by decide +kernel)
set_option maxRecDepth 20000 in
theorem gX9_rows_X9_in : GoodIn wsX9_rows (va_wsS RX9 58 yX9_in wsX9_in) := goodIn_app (goodIn_of _ (by decide +kernel)) ggX9_rows_X9_in
set_option maxRecDepth 20000 in
theorem ggX9_rows_X9_finds : GoodIn wsX9_rows wsX9_finds := goodIn_r _ [19, 20, 21, 35, 36, 37, 38, 39, 40, 41, 42, 43, 44, 45, 46, 47, 48, 49, 50, 51, 52, 53, 54, 55, 56, 57, 58] (by decide +kernel) (by decide +kernel)
set_option maxRecDepth 20000 in
theorem gX9_rows_X9_finds : GoodIn wsX9_rows (wsV RX9 81 RX9 yX9_finds wsX9_finds) := goodIn_app (goodIn_of _ (by decide +kernel)) ggX9_rows_X9_finds
set_option maxRecDepth 20000 in
theorem ggX9_rows_X9_isSmall : GoodIn wsX9_rows wsX9_isSmall := goodIn_r _ [24, 25, 26, 9, 10, 6, 11] (by decide +kernel) (by decide +kernel)
set_option maxRecDepth 20000 in
theorem gX9_rows_X9_isSmall : GoodIn wsX9_rows (va_wsS RX9 65 yX9_isSmall wsX9_isSmall) := goodIn_app (goodIn_of _ (by decide +kernel)) ggX9_rows_X9_isSmall
set_option maxRecDepth 20000 in
theorem ggX9_rows_X9_puts : GoodIn wsX9_rows wsX9_puts := goodIn_r _ [30, 31, 3, 32, 33, 34, 35, 36, 37, 38, 39, 40, 41, 42, 43, 44, 45, 46, 47, 48, 49, 50, 51, 52, 53, 54, 55, 56, 57, 58] (by decide +kernel) (by decide +kernel)
set_option maxRecDepth 20000 in
theorem gX9_rows_X9_puts : GoodIn wsX9_rows (wsV RX9 69 RX9 yX9_puts wsX9_puts) := goodIn_app (goodIn_of _ (by decide +kernel)) ggX9_rows_X9_puts
theorem dX9_rows_0 : decode cX9_rows 0 = .ok (.iload_n 1, 1) := by decide +kernel
theorem dX9_rows_1 : decode cX9_rows 1 = .ok (.invokestatic 73, 3) := by decide +kernel
theorem dX9_rows_4 : decode cX9_rows 4 = .ok (.ifCond .eq 23, 3) := by decide +kernel
theorem dX9_rows_7 : decode cX9_rows 7 = .ok (.iload_n 2, 1) := by decide +kernel
theorem dX9_rows_8 : decode cX9_rows 8 = .ok (.invokestatic 76, 3) := by decide +kernel
theorem dX9_rows_11 : decode cX9_rows 11 = .ok (.ifCond .eq 16, 3) := by decide +kernel
theorem dX9_rows_14 : decode cX9_rows 14 = .ok (.iload 4, 2) := by decide +kernel
theorem dX9_rows_16 : decode cX9_rows 16 = .ok (.i2l, 1) := by decide +kernel
theorem dX9_rows_17 : decode cX9_rows 17 = .ok (.lconst 0, 1) := by decide +kernel
theorem dX9_rows_18 : decode cX9_rows 18 = .ok (.ldc2_w 79, 3) := by decide +kernel
theorem dX9_rows_21 : decode cX9_rows 21 = .ok (.invokestatic 58, 3) := by decide +kernel
theorem dX9_rows_24 : decode cX9_rows 24 = .ok (.ifCond .ne 5, 3) := by decide +kernel
theorem dX9_rows_27 : decode cX9_rows 27 = .ok (.iconst (-1), 1) := by decide +kernel
theorem dX9_rows_28 : decode cX9_rows 28 = .ok (.ireturn, 1) := by decide +kernel
theorem dX9_rows_29 : decode cX9_rows 29 = .ok (.aload_n 0, 1) := by decide +kernel
theorem dX9_rows_30 : decode cX9_rows 30 = .ok (.iload_n 1, 1) := by decide +kernel
theorem dX9_rows_31 : decode cX9_rows 31 = .ok (.iload_n 2, 1) := by decide +kernel
theorem dX9_rows_32 : decode cX9_rows 32 = .ok (.iload_n 3, 1) := by decide +kernel
theorem dX9_rows_33 : decode cX9_rows 33 = .ok (.iconst 3, 1) := by decide +kernel
theorem dX9_rows_34 : decode cX9_rows 34 = .ok (.iload 4, 2) := by decide +kernel
theorem dX9_rows_36 : decode cX9_rows 36 = .ok (.imul, 1) := by decide +kernel
theorem dX9_rows_37 : decode cX9_rows 37 = .ok (.invokevirtual 81, 3) := by decide +kernel
theorem dX9_rows_40 : decode cX9_rows 40 = .ok (.istore 5, 2) := by decide +kernel
theorem dX9_rows_42 : decode cX9_rows 42 = .ok (.iload 5, 2) := by decide +kernel
theorem dX9_rows_44 : decode cX9_rows 44 = .ok (.ifCond .ge 6, 3) := by decide +kernel
theorem dX9_rows_47 : decode cX9_rows 47 = .ok (.iload 5, 2) := by decide +kernel
theorem dX9_rows_49 : decode cX9_rows 49 = .ok (.ireturn, 1) := by decide +kernel
theorem dX9_rows_50 : decode cX9_rows 50 = .ok (.bipush 36, 2) := by decide +kernel
theorem dX9_rows_52 : decode cX9_rows 52 = .ok (.iload_n 1, 1) := by decide +kernel
theorem dX9_rows_53 : decode cX9_rows 53 = .ok (.imul, 1) := by decide +kernel
theorem dX9_rows_54 : decode cX9_rows 54 = .ok (.iload_n 3, 1) := by decide +kernel
theorem dX9_rows_55 : decode cX9_rows 55 = .ok (.iadd, 1) := by decide +kernel
theorem dX9_rows_56 : decode cX9_rows 56 = .ok (.istore 6, 2) := by decide +kernel
theorem dX9_rows_58 : decode cX9_rows 58 = .ok (.iconst 0, 1) := by decide +kernel
theorem dX9_rows_59 : decode cX9_rows 59 = .ok (.istore 7, 2) := by decide +kernel
theorem dX9_rows_61 : decode cX9_rows 61 = .ok (.iload 7, 2) := by decide +kernel
theorem dX9_rows_63 : decode cX9_rows 63 = .ok (.iconst 3, 1) := by decide +kernel
theorem dX9_rows_64 : decode cX9_rows 64 = .ok (.iload 4, 2) := by decide +kernel
theorem dX9_rows_66 : decode cX9_rows 66 = .ok (.imul, 1) := by decide +kernel
theorem dX9_rows_67 : decode cX9_rows 67 = .ok (.if_icmp .ge 28, 3) := by decide +kernel
theorem dX9_rows_70 : decode cX9_rows 70 = .ok (.aload_n 0, 1) := by decide +kernel
theorem dX9_rows_71 : decode cX9_rows 71 = .ok (.getfield 48, 3) := by decide +kernel
theorem dX9_rows_74 : decode cX9_rows 74 = .ok (.iload 6, 2) := by decide +kernel
theorem dX9_rows_76 : decode cX9_rows 76 = .ok (.iload 7, 2) := by decide +kernel
theorem dX9_rows_78 : decode cX9_rows 78 = .ok (.iadd, 1) := by decide +kernel
theorem dX9_rows_79 : decode cX9_rows 79 = .ok (.iaload, 1) := by decide +kernel
theorem dX9_rows_80 : decode cX9_rows 80 = .ok (.invokestatic 65, 3) := by decide +kernel
theorem dX9_rows_83 : decode cX9_rows 83 = .ok (.ifCond .ne 6, 3) := by decide +kernel
theorem dX9_rows_86 : decode cX9_rows 86 = .ok (.bipush (-2), 2) := by decide +kernel
theorem dX9_rows_88 : decode cX9_rows 88 = .ok (.ireturn, 1) := by decide +kernel
theorem dX9_rows_89 : decode cX9_rows 89 = .ok (.iinc 7 1, 3) := by decide +kernel
theorem dX9_rows_92 : decode cX9_rows 92 = .ok (.goto (-31), 3) := by decide +kernel
theorem dX9_rows_95 : decode cX9_rows 95 = .ok (.aload_n 0, 1) := by decide +kernel
theorem dX9_rows_96 : decode cX9_rows 96 = .ok (.getfield 62, 3) := by decide +kernel
theorem dX9_rows_99 : decode cX9_rows 99 = .ok (.iload 4, 2) := by decide +kernel
theorem dX9_rows_101 : decode cX9_rows 101 = .ok (.iadd, 1) := by decide +kernel
theorem dX9_rows_102 : decode cX9_rows 102 = .ok (.bipush 12, 2) := by decide +kernel
theorem dX9_rows_104 : decode cX9_rows 104 = .ok (.if_icmp .le 6, 3) := by decide +kernel
theorem dX9_rows_107 : decode cX9_rows 107 = .ok (.bipush (-3), 2) := by decide +kernel
theorem dX9_rows_109 : decode cX9_rows 109 = .ok (.ireturn, 1) := by decide +kernel
theorem dX9_rows_110 : decode cX9_rows 110 = .ok (.iconst 0, 1) := by decide +kernel
theorem dX9_rows_111 : decode cX9_rows 111 = .ok (.istore 7, 2) := by decide +kernel
theorem dX9_rows_113 : decode cX9_rows 113 = .ok (.iload 7, 2) := by decide +kernel
theorem dX9_rows_115 : decode cX9_rows 115 = .ok (.iload 4, 2) := by decide +kernel
theorem dX9_rows_117 : decode cX9_rows 117 = .ok (.if_icmp .ge 54, 3) := by decide +kernel
theorem dX9_rows_120 : decode cX9_rows 120 = .ok (.aload_n 0, 1) := by decide +kernel
theorem dX9_rows_121 : decode cX9_rows 121 = .ok (.aload_n 0, 1) := by decide +kernel
theorem dX9_rows_122 : decode cX9_rows 122 = .ok (.getfield 48, 3) := by decide +kernel
theorem dX9_rows_125 : decode cX9_rows 125 = .ok (.iload 6, 2) := by decide +kernel
theorem dX9_rows_127 : decode cX9_rows 127 = .ok (.iconst 3, 1) := by decide +kernel
theorem dX9_rows_128 : decode cX9_rows 128 = .ok (.iload 7, 2) := by decide +kernel
theorem dX9_rows_130 : decode cX9_rows 130 = .ok (.imul, 1) := by decide +kernel
theorem dX9_rows_131 : decode cX9_rows 131 = .ok (.iadd, 1) := by decide +kernel
theorem dX9_rows_132 : decode cX9_rows 132 = .ok (.iaload, 1) := by decide +kernel
theorem dX9_rows_133 : decode cX9_rows 133 = .ok (.aload_n 0, 1) := by decide +kernel
theorem dX9_rows_134 : decode cX9_rows 134 = .ok (.getfield 48, 3) := by decide +kernel
theorem dX9_rows_137 : decode cX9_rows 137 = .ok (.iload 6, 2) := by decide +kernel
theorem dX9_rows_139 : decode cX9_rows 139 = .ok (.iconst 3, 1) := by decide +kernel
theorem dX9_rows_140 : decode cX9_rows 140 = .ok (.iload 7, 2) := by decide +kernel
theorem dX9_rows_142 : decode cX9_rows 142 = .ok (.imul, 1) := by decide +kernel
theorem dX9_rows_143 : decode cX9_rows 143 = .ok (.iadd, 1) := by decide +kernel
theorem dX9_rows_144 : decode cX9_rows 144 = .ok (.iconst 1, 1) := by decide +kernel
theorem dX9_rows_145 : decode cX9_rows 145 = .ok (.iadd, 1) := by decide +kernel
theorem dX9_rows_146 : decode cX9_rows 146 = .ok (.iaload, 1) := by decide +kernel
theorem dX9_rows_147 : decode cX9_rows 147 = .ok (.aload_n 0, 1) := by decide +kernel
theorem dX9_rows_148 : decode cX9_rows 148 = .ok (.getfield 48, 3) := by decide +kernel
theorem dX9_rows_151 : decode cX9_rows 151 = .ok (.iload 6, 2) := by decide +kernel
theorem dX9_rows_153 : decode cX9_rows 153 = .ok (.iconst 3, 1) := by decide +kernel
theorem dX9_rows_154 : decode cX9_rows 154 = .ok (.iload 7, 2) := by decide +kernel
theorem dX9_rows_156 : decode cX9_rows 156 = .ok (.imul, 1) := by decide +kernel
theorem dX9_rows_157 : decode cX9_rows 157 = .ok (.iadd, 1) := by decide +kernel
theorem dX9_rows_158 : decode cX9_rows 158 = .ok (.iconst 2, 1) := by decide +kernel
theorem dX9_rows_159 : decode cX9_rows 159 = .ok (.iadd, 1) := by decide +kernel
theorem dX9_rows_160 : decode cX9_rows 160 = .ok (.iaload, 1) := by decide +kernel
theorem dX9_rows_161 : decode cX9_rows 161 = .ok (.iconst 0, 1) := by decide +kernel
theorem dX9_rows_162 : decode cX9_rows 162 = .ok (.invokevirtual 69, 3) := by decide +kernel
theorem dX9_rows_165 : decode cX9_rows 165 = .ok (.iinc 7 1, 3) := by decide +kernel
theorem dX9_rows_168 : decode cX9_rows 168 = .ok (.goto (-55), 3) := by decide +kernel
theorem dX9_rows_171 : decode cX9_rows 171 = .ok (.iload 4, 2) := by decide +kernel
theorem dX9_rows_173 : decode cX9_rows 173 = .ok (.ireturn, 1) := by decide +kernel
set_option maxRecDepth 20000 in
theorem ggX9_type_X9_in : GoodIn wsX9_type wsX9_in := goodIn_r _ [10] (by decide +kernel) (by decide +kernel)
set_option maxRecDepth 20000 in
theorem gX9_type_X9_in : GoodIn wsX9_type (va_wsS RX9 58 yX9_in wsX9_in) := goodIn_app (goodIn_of _ (by decide +kernel)) ggX9_type_X9_in
theorem dX9_type_0 : decode cX9_type 0 = .ok (.iload_n 3, 1) := by decide +kernel
theorem dX9_type_1 : decode cX9_type 1 = .ok (.i2l, 1) := by decide +kernel
theorem dX9_type_2 : decode cX9_type 2 = .ok (.lconst 1, 1) := by decide +kernel
theorem dX9_type_3 : decode cX9_type 3 = .ok (.ldc2_w 85, 3) := by decide +kernel
theorem dX9_type_6 : decode cX9_type 6 = .ok (.invokestatic 58, 3) := by decide +kernel
theorem dX9_type_9 : decode cX9_type 9 = .ok (.ifCond .ne 5, 3) := by decide +kernel
theorem dX9_type_12 : decode cX9_type 12 = .ok (.iconst (-1), 1) := by decide +kernel
theorem dX9_type_13 : decode cX9_type 13 = .ok (.ireturn, 1) := by decide +kernel
theorem dX9_type_14 : decode cX9_type 14 = .ok (.iconst 0, 1) := by decide +kernel
theorem dX9_type_15 : decode cX9_type 15 = .ok (.istore 4, 2) := by decide +kernel
theorem dX9_type_17 : decode cX9_type 17 = .ok (.iload 4, 2) := by decide +kernel
theorem dX9_type_19 : decode cX9_type 19 = .ok (.iload_n 3, 1) := by decide +kernel
theorem dX9_type_20 : decode cX9_type 20 = .ok (.if_icmp .ge 34, 3) := by decide +kernel
theorem dX9_type_23 : decode cX9_type 23 = .ok (.lload_n 1, 1) := by decide +kernel
theorem dX9_type_24 : decode cX9_type 24 = .ok (.bipush 8, 2) := by decide +kernel
theorem dX9_type_26 : decode cX9_type 26 = .ok (.iload 4, 2) := by decide +kernel
theorem dX9_type_28 : decode cX9_type 28 = .ok (.imul, 1) := by decide +kernel
theorem dX9_type_29 : decode cX9_type 29 = .ok (.lshr, 1) := by decide +kernel
theorem dX9_type_30 : decode cX9_type 30 = .ok (.ldc2_w 87, 3) := by decide +kernel
theorem dX9_type_33 : decode cX9_type 33 = .ok (.land, 1) := by decide +kernel
theorem dX9_type_34 : decode cX9_type 34 = .ok (.ldc2_w 89, 3) := by decide +kernel
theorem dX9_type_37 : decode cX9_type 37 = .ok (.ldc2_w 91, 3) := by decide +kernel
theorem dX9_type_40 : decode cX9_type 40 = .ok (.invokestatic 58, 3) := by decide +kernel
theorem dX9_type_43 : decode cX9_type 43 = .ok (.ifCond .ne 5, 3) := by decide +kernel
theorem dX9_type_46 : decode cX9_type 46 = .ok (.iconst (-1), 1) := by decide +kernel
theorem dX9_type_47 : decode cX9_type 47 = .ok (.ireturn, 1) := by decide +kernel
theorem dX9_type_48 : decode cX9_type 48 = .ok (.iinc 4 1, 3) := by decide +kernel
theorem dX9_type_51 : decode cX9_type 51 = .ok (.goto (-34), 3) := by decide +kernel
theorem dX9_type_54 : decode cX9_type 54 = .ok (.aload_n 0, 1) := by decide +kernel
theorem dX9_type_55 : decode cX9_type 55 = .ok (.getfield 93, 3) := by decide +kernel
theorem dX9_type_58 : decode cX9_type 58 = .ok (.iload_n 3, 1) := by decide +kernel
theorem dX9_type_59 : decode cX9_type 59 = .ok (.iadd, 1) := by decide +kernel
theorem dX9_type_60 : decode cX9_type 60 = .ok (.bipush 120, 2) := by decide +kernel
theorem dX9_type_62 : decode cX9_type 62 = .ok (.if_icmp .le 6, 3) := by decide +kernel
theorem dX9_type_65 : decode cX9_type 65 = .ok (.bipush (-3), 2) := by decide +kernel
theorem dX9_type_67 : decode cX9_type 67 = .ok (.ireturn, 1) := by decide +kernel
theorem dX9_type_68 : decode cX9_type 68 = .ok (.iload_n 3, 1) := by decide +kernel
theorem dX9_type_69 : decode cX9_type 69 = .ok (.iconst 1, 1) := by decide +kernel
theorem dX9_type_70 : decode cX9_type 70 = .ok (.isub, 1) := by decide +kernel
theorem dX9_type_71 : decode cX9_type 71 = .ok (.istore 4, 2) := by decide +kernel
theorem dX9_type_73 : decode cX9_type 73 = .ok (.iload 4, 2) := by decide +kernel
theorem dX9_type_75 : decode cX9_type 75 = .ok (.ifCond .lt 40, 3) := by decide +kernel
theorem dX9_type_78 : decode cX9_type 78 = .ok (.aload_n 0, 1) := by decide +kernel
theorem dX9_type_79 : decode cX9_type 79 = .ok (.getfield 27, 3) := by decide +kernel
theorem dX9_type_82 : decode cX9_type 82 = .ok (.aload_n 0, 1) := by decide +kernel
theorem dX9_type_83 : decode cX9_type 83 = .ok (.getfield 93, 3) := by decide +kernel
theorem dX9_type_86 : decode cX9_type 86 = .ok (.lload_n 1, 1) := by decide +kernel
theorem dX9_type_87 : decode cX9_type 87 = .ok (.bipush 8, 2) := by decide +kernel
theorem dX9_type_89 : decode cX9_type 89 = .ok (.iload 4, 2) := by decide +kernel
theorem dX9_type_91 : decode cX9_type 91 = .ok (.imul, 1) := by decide +kernel
theorem dX9_type_92 : decode cX9_type 92 = .ok (.lshr, 1) := by decide +kernel
theorem dX9_type_93 : decode cX9_type 93 = .ok (.ldc2_w 87, 3) := by decide +kernel
theorem dX9_type_96 : decode cX9_type 96 = .ok (.land, 1) := by decide +kernel
theorem dX9_type_97 : decode cX9_type 97 = .ok (.l2i, 1) := by decide +kernel
theorem dX9_type_98 : decode cX9_type 98 = .ok (.iastore, 1) := by decide +kernel
theorem dX9_type_99 : decode cX9_type 99 = .ok (.aload_n 0, 1) := by decide +kernel
theorem dX9_type_100 : decode cX9_type 100 = .ok (.dup, 1) := by decide +kernel
theorem dX9_type_101 : decode cX9_type 101 = .ok (.getfield 93, 3) := by decide +kernel
theorem dX9_type_104 : decode cX9_type 104 = .ok (.iconst 1, 1) := by decide +kernel
theorem dX9_type_105 : decode cX9_type 105 = .ok (.iadd, 1) := by decide +kernel
theorem dX9_type_106 : decode cX9_type 106 = .ok (.putfield 93, 3) := by decide +kernel
theorem dX9_type_109 : decode cX9_type 109 = .ok (.iinc 4 (-1), 3) := by decide +kernel
theorem dX9_type_112 : decode cX9_type 112 = .ok (.goto (-39), 3) := by decide +kernel
theorem dX9_type_115 : decode cX9_type 115 = .ok (.aload_n 0, 1) := by decide +kernel
theorem dX9_type_116 : decode cX9_type 116 = .ok (.getfield 93, 3) := by decide +kernel
theorem dX9_type_119 : decode cX9_type 119 = .ok (.ireturn, 1) := by decide +kernel
theorem dX9_next_0 : decode cX9_next 0 = .ok (.aload_n 0, 1) := by decide +kernel
theorem dX9_next_1 : decode cX9_next 1 = .ok (.getfield 96, 3) := by decide +kernel
theorem dX9_next_4 : decode cX9_next 4 = .ok (.aload_n 0, 1) := by decide +kernel
theorem dX9_next_5 : decode cX9_next 5 = .ok (.getfield 93, 3) := by decide +kernel
theorem dX9_next_8 : decode cX9_next 8 = .ok (.if_icmp .ge 30, 3) := by decide +kernel
theorem dX9_next_11 : decode cX9_next 11 = .ok (.aload_n 0, 1) := by decide +kernel
theorem dX9_next_12 : decode cX9_next 12 = .ok (.getfield 27, 3) := by decide +kernel
theorem dX9_next_15 : decode cX9_next 15 = .ok (.aload_n 0, 1) := by decide +kernel
theorem dX9_next_16 : decode cX9_next 16 = .ok (.getfield 96, 3) := by decide +kernel
theorem dX9_next_19 : decode cX9_next 19 = .ok (.iaload, 1) := by decide +kernel
theorem dX9_next_20 : decode cX9_next 20 = .ok (.bipush 32, 2) := by decide +kernel
theorem dX9_next_22 : decode cX9_next 22 = .ok (.if_icmp .ne 16, 3) := by decide +kernel
theorem dX9_next_25 : decode cX9_next 25 = .ok (.aload_n 0, 1) := by decide +kernel
theorem dX9_next_26 : decode cX9_next 26 = .ok (.dup, 1) := by decide +kernel
theorem dX9_next_27 : decode cX9_next 27 = .ok (.getfield 96, 3) := by decide +kernel
theorem dX9_next_30 : decode cX9_next 30 = .ok (.iconst 1, 1) := by decide +kernel
theorem dX9_next_31 : decode cX9_next 31 = .ok (.iadd, 1) := by decide +kernel
theorem dX9_next_32 : decode cX9_next 32 = .ok (.putfield 96, 3) := by decide +kernel
theorem dX9_next_35 : decode cX9_next 35 = .ok (.goto (-35), 3) := by decide +kernel
theorem dX9_next_38 : decode cX9_next 38 = .ok (.aload_n 0, 1) := by decide +kernel
theorem dX9_next_39 : decode cX9_next 39 = .ok (.getfield 96, 3) := by decide +kernel
theorem dX9_next_42 : decode cX9_next 42 = .ok (.aload_n 0, 1) := by decide +kernel
theorem dX9_next_43 : decode cX9_next 43 = .ok (.getfield 93, 3) := by decide +kernel
theorem dX9_next_46 : decode cX9_next 46 = .ok (.if_icmp .ge 15, 3) := by decide +kernel
theorem dX9_next_49 : decode cX9_next 49 = .ok (.aload_n 0, 1) := by decide +kernel
theorem dX9_next_50 : decode cX9_next 50 = .ok (.getfield 27, 3) := by decide +kernel
theorem dX9_next_53 : decode cX9_next 53 = .ok (.aload_n 0, 1) := by decide +kernel
theorem dX9_next_54 : decode cX9_next 54 = .ok (.getfield 96, 3) := by decide +kernel
theorem dX9_next_57 : decode cX9_next 57 = .ok (.iaload, 1) := by decide +kernel
theorem dX9_next_58 : decode cX9_next 58 = .ok (.goto 4, 3) := by decide +kernel
theorem dX9_next_61 : decode cX9_next 61 = .ok (.iconst 0, 1) := by decide +kernel
theorem dX9_next_62 : decode cX9_next 62 = .ok (.ireturn, 1) := by decide +kernel
set_option maxRecDepth 20000 in
theorem ggX9_passes_X9_next : GoodIn wsX9_passes wsX9_next := goodIn_r _ [7, 2, 8, 9, 10, 11, 12, 13, 14, 15, 16, 17, 18, 19, 20, 21, 22, 23, 24, 25, 26, 27, 28, 29, 30, 31, 32, 33] (by decide +kernel) (by decide +kernel)
set_option maxRecDepth 20000 in
theorem gX9_passes_X9_next : GoodIn wsX9_passes (wsV RX9 103 RX9 yX9_next wsX9_next) := goodIn_app (goodIn_of _ (by decide +kernel)) ggX9_passes_X9_next
theorem dX9_passes_0 : decode cX9_passes 0 = .ok (.aload_n 0, 1) := by decide +kernel
theorem dX9_passes_1 : decode cX9_passes 1 = .ok (.getfield 99, 3) := by decide +kernel
theorem dX9_passes_4 : decode cX9_passes 4 = .ok (.ifCond .ne 15, 3) := by decide +kernel
theorem dX9_passes_7 : decode cX9_passes 7 = .ok (.aload_n 0, 1) := by decide +kernel
theorem dX9_passes_8 : decode cX9_passes 8 = .ok (.invokevirtual 103, 3) := by decide +kernel
theorem dX9_passes_11 : decode cX9_passes 11 = .ok (.iload_n 1, 1) := by decide +kernel
theorem dX9_passes_12 : decode cX9_passes 12 = .ok (.if_icmp .ne 7, 3) := by decide +kernel
theorem dX9_passes_15 : decode cX9_passes 15 = .ok (.iconst 1, 1) := by decide +kernel
theorem dX9_passes_16 : decode cX9_passes 16 = .ok (.goto 4, 3) := by decide +kernel
theorem dX9_passes_19 : decode cX9_passes 19 = .ok (.iconst 0, 1) := by decide +kernel
theorem dX9_passes_20 : decode cX9_passes 20 = .ok (.istore_n 2, 1) := by decide +kernel
theorem dX9_passes_21 : decode cX9_passes 21 = .ok (.aload_n 0, 1) := by decide +kernel
theorem dX9_passes_22 : decode cX9_passes 22 = .ok (.dup, 1) := by decide +kernel
theorem dX9_passes_23 : decode cX9_passes 23 = .ok (.getfield 96, 3) := by decide +kernel
theorem dX9_passes_26 : decode cX9_passes 26 = .ok (.iload_n 2, 1) := by decide +kernel
theorem dX9_passes_27 : decode cX9_passes 27 = .ok (.ifCond .eq 7, 3) := by decide +kernel
theorem dX9_passes_30 : decode cX9_passes 30 = .ok (.iconst 1, 1) := by decide +kernel
theorem dX9_passes_31 : decode cX9_passes 31 = .ok (.goto 4, 3) := by decide +kernel
theorem dX9_passes_34 : decode cX9_passes 34 = .ok (.iconst 0, 1) := by decide +kernel
theorem dX9_passes_35 : decode cX9_passes 35 = .ok (.iadd, 1) := by decide +kernel
theorem dX9_passes_36 : decode cX9_passes 36 = .ok (.putfield 96, 3) := by decide +kernel
theorem dX9_passes_39 : decode cX9_passes 39 = .ok (.iload_n 2, 1) := by decide +kernel
theorem dX9_passes_40 : decode cX9_passes 40 = .ok (.ireturn, 1) := by decide +kernel
set_option maxRecDepth 20000 in
theorem ggX9_number_X9_next : GoodIn wsX9_number wsX9_next := goodIn_r _ [11, 1, 5, 6, 19, 20, 21, 22, 23, 24, 25, 26, 27, 28, 29, 30, 31, 32, 33, 34, 35, 36, 37, 38, 39, 40, 41, 42] (by decide +kernel) (by decide +kernel)
set_option maxRecDepth 20000 in
theorem gX9_number_X9_next : GoodIn wsX9_number (wsV RX9 103 RX9 yX9_next wsX9_next) := goodIn_app (goodIn_of _ (by decide +kernel)) ggX9_number_X9_next
set_option maxRecDepth 20000 in
theorem ggX9_number_X9_passes : GoodIn wsX9_number wsX9_passes := goodIn_r _ [15, 2, 1, 7, 8, 9, 10, 11, 5, 6, 19, 20, 21, 22, 23, 24, 25, 26, 27, 28, 29, 30, 31, 32, 33, 34, 35, 36, 37, 38, 39, 40, 41, 42] (by decide +kernel) (by decide +kernel)
set_option maxRecDepth 20000 in
theorem gX9_number_X9_passes : GoodIn wsX9_number (wsV RX9 107 RX9 yX9_passes wsX9_passes) := goodIn_app (goodIn_of _ (by decide +kernel)) ggX9_number_X9_passes
set_option maxRecDepth 20000 in
theorem ggX9_number_X9_in : GoodIn wsX9_number wsX9_in := goodIn_r _ [18] (by decide +kernel) (by decide +kernel)
set_option maxRecDepth 20000 in
theorem gX9_number_X9_in : GoodIn wsX9_number (va_wsS RX9 58 yX9_in wsX9_in) := goodIn_app (goodIn_of _ (by decide +kernel)) ggX9_number_X9_in
theorem dX9_number_0 : decode cX9_number 0 = .ok (.aload_n 0, 1) := by decide +kernel
theorem dX9_number_1 : decode cX9_number 1 = .ok (.invokevirtual 103, 3) := by decide +kernel
theorem dX9_number_4 : decode cX9_number 4 = .ok (.ifCond .ne 7, 3) := by decide +kernel
theorem dX9_number_7 : decode cX9_number 7 = .ok (.iconst 1, 1) := by decide +kernel
theorem dX9_number_8 : decode cX9_number 8 = .ok (.goto 4, 3) := by decide +kernel
theorem dX9_number_11 : decode cX9_number 11 = .ok (.iconst 0, 1) := by decide +kernel
theorem dX9_number_12 : decode cX9_number 12 = .ok (.istore_n 1, 1) := by decide +kernel
theorem dX9_number_13 : decode cX9_number 13 = .ok (.aload_n 0, 1) := by decide +kernel
theorem dX9_number_14 : decode cX9_number 14 = .ok (.getfield 96, 3) := by decide +kernel
theorem dX9_number_17 : decode cX9_number 17 = .ok (.istore_n 2, 1) := by decide +kernel
theorem dX9_number_18 : decode cX9_number 18 = .ok (.aload_n 0, 1) := by decide +kernel
theorem dX9_number_19 : decode cX9_number 19 = .ok (.bipush 45, 2) := by decide +kernel
theorem dX9_number_21 : decode cX9_number 21 = .ok (.invokevirtual 107, 3) := by decide +kernel
theorem dX9_number_24 : decode cX9_number 24 = .ok (.istore_n 3, 1) := by decide +kernel
theorem dX9_number_25 : decode cX9_number 25 = .ok (.aload_n 0, 1) := by decide +kernel
theorem dX9_number_26 : decode cX9_number 26 = .ok (.getfield 99, 3) := by decide +kernel
theorem dX9_number_29 : decode cX9_number 29 = .ok (.ifCond .ne 24, 3) := by decide +kernel
theorem dX9_number_32 : decode cX9_number 32 = .ok (.iload_n 1, 1) := by decide +kernel
theorem dX9_number_33 : decode cX9_number 33 = .ok (.ifCond .ne 20, 3) := by decide +kernel
theorem dX9_number_36 : decode cX9_number 36 = .ok (.aload_n 0, 1) := by decide +kernel
theorem dX9_number_37 : decode cX9_number 37 = .ok (.invokevirtual 103, 3) := by decide +kernel
theorem dX9_number_40 : decode cX9_number 40 = .ok (.i2l, 1) := by decide +kernel
theorem dX9_number_41 : decode cX9_number 41 = .ok (.ldc2_w 110, 3) := by decide +kernel
theorem dX9_number_44 : decode cX9_number 44 = .ok (.ldc2_w 112, 3) := by decide +kernel
theorem dX9_number_47 : decode cX9_number 47 = .ok (.invokestatic 58, 3) := by decide +kernel
theorem dX9_number_50 : decode cX9_number 50 = .ok (.ifCond .ne 10, 3) := by decide +kernel
theorem dX9_number_53 : decode cX9_number 53 = .ok (.aload_n 0, 1) := by decide +kernel
theorem dX9_number_54 : decode cX9_number 54 = .ok (.iconst 1, 1) := by decide +kernel
theorem dX9_number_55 : decode cX9_number 55 = .ok (.putfield 99, 3) := by decide +kernel
theorem dX9_number_58 : decode cX9_number 58 = .ok (.iconst 0, 1) := by decide +kernel
theorem dX9_number_59 : decode cX9_number 59 = .ok (.ireturn, 1) := by decide +kernel
theorem dX9_number_60 : decode cX9_number 60 = .ok (.iconst 0, 1) := by decide +kernel
theorem dX9_number_61 : decode cX9_number 61 = .ok (.istore 4, 2) := by decide +kernel
theorem dX9_number_63 : decode cX9_number 63 = .ok (.aload_n 0, 1) := by decide +kernel
theorem dX9_number_64 : decode cX9_number 64 = .ok (.getfield 96, 3) := by decide +kernel
theorem dX9_number_67 : decode cX9_number 67 = .ok (.aload_n 0, 1) := by decide +kernel
theorem dX9_number_68 : decode cX9_number 68 = .ok (.getfield 93, 3) := by decide +kernel
theorem dX9_number_71 : decode cX9_number 71 = .ok (.if_icmp .ge 71, 3) := by decide +kernel
theorem dX9_number_74 : decode cX9_number 74 = .ok (.aload_n 0, 1) := by decide +kernel
theorem dX9_number_75 : decode cX9_number 75 = .ok (.getfield 27, 3) := by decide +kernel
theorem dX9_number_78 : decode cX9_number 78 = .ok (.aload_n 0, 1) := by decide +kernel
theorem dX9_number_79 : decode cX9_number 79 = .ok (.getfield 96, 3) := by decide +kernel
theorem dX9_number_82 : decode cX9_number 82 = .ok (.iaload, 1) := by decide +kernel
theorem dX9_number_83 : decode cX9_number 83 = .ok (.i2l, 1) := by decide +kernel
theorem dX9_number_84 : decode cX9_number 84 = .ok (.ldc2_w 110, 3) := by decide +kernel
theorem dX9_number_87 : decode cX9_number 87 = .ok (.ldc2_w 112, 3) := by decide +kernel
theorem dX9_number_90 : decode cX9_number 90 = .ok (.invokestatic 58, 3) := by decide +kernel
theorem dX9_number_93 : decode cX9_number 93 = .ok (.ifCond .eq 49, 3) := by decide +kernel
theorem dX9_number_96 : decode cX9_number 96 = .ok (.iload 4, 2) := by decide +kernel
theorem dX9_number_98 : decode cX9_number 98 = .ok (.sipush 999, 3) := by decide +kernel
theorem dX9_number_101 : decode cX9_number 101 = .ok (.if_icmp .le 8, 3) := by decide +kernel
theorem dX9_number_104 : decode cX9_number 104 = .ok (.iload 4, 2) := by decide +kernel
theorem dX9_number_106 : decode cX9_number 106 = .ok (.goto 21, 3) := by decide +kernel
theorem dX9_number_109 : decode cX9_number 109 = .ok (.bipush 10, 2) := by decide +kernel
theorem dX9_number_111 : decode cX9_number 111 = .ok (.iload 4, 2) := by decide +kernel
theorem dX9_number_113 : decode cX9_number 113 = .ok (.imul, 1) := by decide +kernel
theorem dX9_number_114 : decode cX9_number 114 = .ok (.aload_n 0, 1) := by decide +kernel
theorem dX9_number_115 : decode cX9_number 115 = .ok (.getfield 27, 3) := by decide +kernel
theorem dX9_number_118 : decode cX9_number 118 = .ok (.aload_n 0, 1) := by decide +kernel
theorem dX9_number_119 : decode cX9_number 119 = .ok (.getfield 96, 3) := by decide +kernel
theorem dX9_number_122 : decode cX9_number 122 = .ok (.iaload, 1) := by decide +kernel
theorem dX9_number_123 : decode cX9_number 123 = .ok (.iadd, 1) := by decide +kernel
theorem dX9_number_124 : decode cX9_number 124 = .ok (.bipush 48, 2) := by decide +kernel
theorem dX9_number_126 : decode cX9_number 126 = .ok (.isub, 1) := by decide +kernel
theorem dX9_number_127 : decode cX9_number 127 = .ok (.istore 4, 2) := by decide +kernel
theorem dX9_number_129 : decode cX9_number 129 = .ok (.aload_n 0, 1) := by decide +kernel
theorem dX9_number_130 : decode cX9_number 130 = .ok (.dup, 1) := by decide +kernel
theorem dX9_number_131 : decode cX9_number 131 = .ok (.getfield 96, 3) := by decide +kernel
theorem dX9_number_134 : decode cX9_number 134 = .ok (.iconst 1, 1) := by decide +kernel
theorem dX9_number_135 : decode cX9_number 135 = .ok (.iadd, 1) := by decide +kernel
theorem dX9_number_136 : decode cX9_number 136 = .ok (.putfield 96, 3) := by decide +kernel
theorem dX9_number_139 : decode cX9_number 139 = .ok (.goto (-76), 3) := by decide +kernel
theorem dX9_number_142 : decode cX9_number 142 = .ok (.aload_n 0, 1) := by decide +kernel
theorem dX9_number_143 : decode cX9_number 143 = .ok (.iload 4, 2) := by decide +kernel
theorem dX9_number_145 : decode cX9_number 145 = .ok (.bipush 99, 2) := by decide +kernel
theorem dX9_number_147 : decode cX9_number 147 = .ok (.if_icmp .le 7, 3) := by decide +kernel
theorem dX9_number_150 : decode cX9_number 150 = .ok (.iconst 1, 1) := by decide +kernel
theorem dX9_number_151 : decode cX9_number 151 = .ok (.goto 4, 3) := by decide +kernel
theorem dX9_number_154 : decode cX9_number 154 = .ok (.iconst 0, 1) := by decide +kernel
theorem dX9_number_155 : decode cX9_number 155 = .ok (.putfield 99, 3) := by decide +kernel
theorem dX9_number_158 : decode cX9_number 158 = .ok (.aload_n 0, 1) := by decide +kernel
theorem dX9_number_159 : decode cX9_number 159 = .ok (.aload_n 0, 1) := by decide +kernel
theorem dX9_number_160 : decode cX9_number 160 = .ok (.getfield 99, 3) := by decide +kernel
theorem dX9_number_163 : decode cX9_number 163 = .ok (.ifCond .eq 7, 3) := by decide +kernel
theorem dX9_number_166 : decode cX9_number 166 = .ok (.iload_n 2, 1) := by decide +kernel
theorem dX9_number_167 : decode cX9_number 167 = .ok (.goto 7, 3) := by decide +kernel
theorem dX9_number_170 : decode cX9_number 170 = .ok (.aload_n 0, 1) := by decide +kernel
theorem dX9_number_171 : decode cX9_number 171 = .ok (.getfield 96, 3) := by decide +kernel
theorem dX9_number_174 : decode cX9_number 174 = .ok (.putfield 96, 3) := by decide +kernel
theorem dX9_number_177 : decode cX9_number 177 = .ok (.iload_n 3, 1) := by decide +kernel
theorem dX9_number_178 : decode cX9_number 178 = .ok (.ifCond .eq 9, 3) := by decide +kernel
theorem dX9_number_181 : decode cX9_number 181 = .ok (.iload 4, 2) := by decide +kernel
theorem dX9_number_183 : decode cX9_number 183 = .ok (.ineg, 1) := by decide +kernel
theorem dX9_number_184 : decode cX9_number 184 = .ok (.goto 5, 3) := by decide +kernel
theorem dX9_number_187 : decode cX9_number 187 = .ok (.iload 4, 2) := by decide +kernel
theorem dX9_number_189 : decode cX9_number 189 = .ok (.ireturn, 1) := by decide +kernel
set_option maxRecDepth 20000 in
theorem ggX9_named_X9_passes : GoodIn wsX9_named wsX9_passes := goodIn_r _ [6, 1, 7, 8, 9, 10, 5, 11, 12, 13, 23, 24, 25, 26, 27, 28, 29, 30, 31, 32, 33, 34, 35, 36, 37, 38, 39, 40, 41, 42, 43, 44, 45, 46] (by decide +kernel) (by decide +kernel)
set_option maxRecDepth 20000 in
theorem gX9_named_X9_passes : GoodIn wsX9_named (wsV RX9 107 RX9 yX9_passes wsX9_passes) := goodIn_app (goodIn_of _ (by decide +kernel)) ggX9_named_X9_passes
set_option maxRecDepth 20000 in
theorem ggX9_named_X9_number : GoodIn wsX9_named wsX9_number := goodIn_r _ [17, 7, 1, 18, 19, 12, 13, 8, 9, 10, 5, 11, 2, 3, 4, 6, 20, 21, 22, 23, 24, 25, 26, 27, 28, 29, 30, 31, 32, 33, 34, 35, 36, 37, 38, 39, 40, 41, 42, 43, 44, 45, 46] (by decide +kernel) (by decide +kernel)
set_option maxRecDepth 20000 in
theorem gX9_named_X9_number : GoodIn wsX9_named (wsV RX9 114 RX9 yX9_number wsX9_number) := goodIn_app (goodIn_of _ (by decide +kernel)) ggX9_named_X9_number
theorem dX9_named_0 : decode cX9_named 0 = .ok (.aload_n 0, 1) := by decide +kernel
theorem dX9_named_1 : decode cX9_named 1 = .ok (.aload_n 0, 1) := by decide +kernel
theorem dX9_named_2 : decode cX9_named 2 = .ok (.getfield 99, 3) := by decide +kernel
theorem dX9_named_5 : decode cX9_named 5 = .ok (.ifCond .ne 11, 3) := by decide +kernel
theorem dX9_named_8 : decode cX9_named 8 = .ok (.aload_n 0, 1) := by decide +kernel
theorem dX9_named_9 : decode cX9_named 9 = .ok (.iload_n 1, 1) := by decide +kernel
theorem dX9_named_10 : decode cX9_named 10 = .ok (.invokevirtual 107, 3) := by decide +kernel
theorem dX9_named_13 : decode cX9_named 13 = .ok (.ifCond .ne 7, 3) := by decide +kernel
theorem dX9_named_16 : decode cX9_named 16 = .ok (.iconst 1, 1) := by decide +kernel
theorem dX9_named_17 : decode cX9_named 17 = .ok (.goto 4, 3) := by decide +kernel
theorem dX9_named_20 : decode cX9_named 20 = .ok (.iconst 0, 1) := by decide +kernel
theorem dX9_named_21 : decode cX9_named 21 = .ok (.putfield 99, 3) := by decide +kernel
theorem dX9_named_24 : decode cX9_named 24 = .ok (.aload_n 0, 1) := by decide +kernel
theorem dX9_named_25 : decode cX9_named 25 = .ok (.getfield 99, 3) := by decide +kernel
theorem dX9_named_28 : decode cX9_named 28 = .ok (.ifCond .eq 7, 3) := by decide +kernel
theorem dX9_named_31 : decode cX9_named 31 = .ok (.iconst 0, 1) := by decide +kernel
theorem dX9_named_32 : decode cX9_named 32 = .ok (.goto 7, 3) := by decide +kernel
theorem dX9_named_35 : decode cX9_named 35 = .ok (.aload_n 0, 1) := by decide +kernel
theorem dX9_named_36 : decode cX9_named 36 = .ok (.invokevirtual 114, 3) := by decide +kernel
theorem dX9_named_39 : decode cX9_named 39 = .ok (.ireturn, 1) := by decide +kernel
set_option maxRecDepth 20000 in
theorem ggX9_oneRow_X9_next : GoodIn wsX9_oneRow wsX9_next := goodIn_r _ [8, 2, 9, 10, 36, 37, 38, 39, 40, 41, 42, 43, 44, 45, 46, 47, 48, 49, 50, 51, 52, 53, 54, 55, 56, 57, 58, 59] (by decide +kernel) (by decide +kernel)
set_option maxRecDepth 20000 in
theorem gX9_oneRow_X9_next : GoodIn wsX9_oneRow (wsV RX9 103 RX9 yX9_next wsX9_next) := goodIn_app (goodIn_of _ (by decide +kernel)) ggX9_oneRow_X9_next
set_option maxRecDepth 20000 in
theorem ggX9_oneRow_X9_named : GoodIn wsX9_oneRow wsX9_named := goodIn_r _ [14, 3, 15, 16, 17, 7, 18, 2, 4, 5, 6, 8, 9, 10, 19, 20, 21, 22, 23, 24, 25, 26, 27, 36, 37, 38, 39, 40, 41, 42, 43, 44, 45, 46, 47, 48, 49, 50, 51, 52, 53, 54, 55, 56, 57, 58, 59] (by decide +kernel) (by decide +kernel)
set_option maxRecDepth 20000 in
theorem gX9_oneRow_X9_named : GoodIn wsX9_oneRow (wsV RX9 117 RX9 yX9_named wsX9_named) := goodIn_app (goodIn_of _ (by decide +kernel)) ggX9_oneRow_X9_named
set_option maxRecDepth 20000 in
theorem ggX9_oneRow_X9_passes : GoodIn wsX9_oneRow wsX9_passes := goodIn_r _ [18, 3, 2, 4, 5, 6, 7, 8, 9, 10, 36, 37, 38, 39, 40, 41, 42, 43, 44, 45, 46, 47, 48, 49, 50, 51, 52, 53, 54, 55, 56, 57, 58, 59] (by decide +kernel) (by decide +kernel)
set_option maxRecDepth 20000 in
theorem gX9_oneRow_X9_passes : GoodIn wsX9_oneRow (wsV RX9 107 RX9 yX9_passes wsX9_passes) := goodIn_app (goodIn_of _ (by decide +kernel)) ggX9_oneRow_X9_passes
set_option maxRecDepth 20000 in
theorem ggX9_oneRow_X9_number : GoodIn wsX9_oneRow wsX9_number := goodIn_r _ [22, 2, 3, 23, 24, 9, 10, 4, 5, 6, 7, 8, 15, 16, 17, 18, 25, 26, 27, 36, 37, 38, 39, 40, 41, 42, 43, 44, 45, 46, 47, 48, 49, 50, 51, 52, 53, 54, 55, 56, 57, 58, 59] (by decide +kernel) (by decide +kernel)
set_option maxRecDepth 20000 in
theorem gX9_oneRow_X9_number : GoodIn wsX9_oneRow (wsV RX9 114 RX9 yX9_number wsX9_number) := goodIn_app (goodIn_of _ (by decide +kernel)) ggX9_oneRow_X9_number
set_option maxRecDepth 20000 in
theorem ggX9_oneRow_X9_puts : GoodIn wsX9_oneRow wsX9_puts := goodIn_r _ [31, 32, 1, 33, 34, 35, 36, 37, 38, 39, 40, 41, 42, 43, 44, 45, 46, 47, 48, 49, 50, 51, 52, 53, 54, 55, 56, 57, 58, 59] (by decide +kernel) (by decide +kernel)
set_option maxRecDepth 20000 in
theorem gX9_oneRow_X9_puts : GoodIn wsX9_oneRow (wsV RX9 69 RX9 yX9_puts wsX9_puts) := goodIn_app (goodIn_of _ (by decide +kernel)) ggX9_oneRow_X9_puts
theorem dX9_oneRow_0 : decode cX9_oneRow 0 = .ok (.aload_n 0, 1) := by decide +kernel
theorem dX9_oneRow_1 : decode cX9_oneRow 1 = .ok (.getfield 62, 3) := by decide +kernel
theorem dX9_oneRow_4 : decode cX9_oneRow 4 = .ok (.bipush 12, 2) := by decide +kernel
theorem dX9_oneRow_6 : decode cX9_oneRow 6 = .ok (.if_icmp .ne 7, 3) := by decide +kernel
theorem dX9_oneRow_9 : decode cX9_oneRow 9 = .ok (.iconst 1, 1) := by decide +kernel
theorem dX9_oneRow_10 : decode cX9_oneRow 10 = .ok (.goto 4, 3) := by decide +kernel
theorem dX9_oneRow_13 : decode cX9_oneRow 13 = .ok (.iconst 0, 1) := by decide +kernel
theorem dX9_oneRow_14 : decode cX9_oneRow 14 = .ok (.istore_n 1, 1) := by decide +kernel
theorem dX9_oneRow_15 : decode cX9_oneRow 15 = .ok (.aload_n 0, 1) := by decide +kernel
theorem dX9_oneRow_16 : decode cX9_oneRow 16 = .ok (.invokevirtual 103, 3) := by decide +kernel
theorem dX9_oneRow_19 : decode cX9_oneRow 19 = .ok (.bipush 120, 2) := by decide +kernel
theorem dX9_oneRow_21 : decode cX9_oneRow 21 = .ok (.if_icmp .ne 10, 3) := by decide +kernel
theorem dX9_oneRow_24 : decode cX9_oneRow 24 = .ok (.aload_n 0, 1) := by decide +kernel
theorem dX9_oneRow_25 : decode cX9_oneRow 25 = .ok (.getfield 96, 3) := by decide +kernel
theorem dX9_oneRow_28 : decode cX9_oneRow 28 = .ok (.goto 4, 3) := by decide +kernel
theorem dX9_oneRow_31 : decode cX9_oneRow 31 = .ok (.iconst (-1), 1) := by decide +kernel
theorem dX9_oneRow_32 : decode cX9_oneRow 32 = .ok (.istore_n 2, 1) := by decide +kernel
theorem dX9_oneRow_33 : decode cX9_oneRow 33 = .ok (.aload_n 0, 1) := by decide +kernel
theorem dX9_oneRow_34 : decode cX9_oneRow 34 = .ok (.iload_n 1, 1) := by decide +kernel
theorem dX9_oneRow_35 : decode cX9_oneRow 35 = .ok (.putfield 99, 3) := by decide +kernel
theorem dX9_oneRow_38 : decode cX9_oneRow 38 = .ok (.aload_n 0, 1) := by decide +kernel
theorem dX9_oneRow_39 : decode cX9_oneRow 39 = .ok (.iload_n 1, 1) := by decide +kernel
theorem dX9_oneRow_40 : decode cX9_oneRow 40 = .ok (.ifCond .eq 11, 3) := by decide +kernel
theorem dX9_oneRow_43 : decode cX9_oneRow 43 = .ok (.iload_n 2, 1) := by decide +kernel
theorem dX9_oneRow_44 : decode cX9_oneRow 44 = .ok (.ifCond .lt 7, 3) := by decide +kernel
theorem dX9_oneRow_47 : decode cX9_oneRow 47 = .ok (.iload_n 2, 1) := by decide +kernel
theorem dX9_oneRow_48 : decode cX9_oneRow 48 = .ok (.goto 7, 3) := by decide +kernel
theorem dX9_oneRow_51 : decode cX9_oneRow 51 = .ok (.aload_n 0, 1) := by decide +kernel
theorem dX9_oneRow_52 : decode cX9_oneRow 52 = .ok (.getfield 96, 3) := by decide +kernel
theorem dX9_oneRow_55 : decode cX9_oneRow 55 = .ok (.putfield 96, 3) := by decide +kernel
theorem dX9_oneRow_58 : decode cX9_oneRow 58 = .ok (.aload_n 0, 1) := by decide +kernel
theorem dX9_oneRow_59 : decode cX9_oneRow 59 = .ok (.bipush 120, 2) := by decide +kernel
theorem dX9_oneRow_61 : decode cX9_oneRow 61 = .ok (.invokevirtual 117, 3) := by decide +kernel
theorem dX9_oneRow_64 : decode cX9_oneRow 64 = .ok (.istore_n 3, 1) := by decide +kernel
theorem dX9_oneRow_65 : decode cX9_oneRow 65 = .ok (.aload_n 0, 1) := by decide +kernel
theorem dX9_oneRow_66 : decode cX9_oneRow 66 = .ok (.bipush 117, 2) := by decide +kernel
theorem dX9_oneRow_68 : decode cX9_oneRow 68 = .ok (.invokevirtual 117, 3) := by decide +kernel
theorem dX9_oneRow_71 : decode cX9_oneRow 71 = .ok (.istore 4, 2) := by decide +kernel
theorem dX9_oneRow_73 : decode cX9_oneRow 73 = .ok (.aload_n 0, 1) := by decide +kernel
theorem dX9_oneRow_74 : decode cX9_oneRow 74 = .ok (.aload_n 0, 1) := by decide +kernel
theorem dX9_oneRow_75 : decode cX9_oneRow 75 = .ok (.getfield 99, 3) := by decide +kernel
theorem dX9_oneRow_78 : decode cX9_oneRow 78 = .ok (.ifCond .ne 12, 3) := by decide +kernel
theorem dX9_oneRow_81 : decode cX9_oneRow 81 = .ok (.aload_n 0, 1) := by decide +kernel
theorem dX9_oneRow_82 : decode cX9_oneRow 82 = .ok (.bipush 121, 2) := by decide +kernel
theorem dX9_oneRow_84 : decode cX9_oneRow 84 = .ok (.invokevirtual 107, 3) := by decide +kernel
theorem dX9_oneRow_87 : decode cX9_oneRow 87 = .ok (.ifCond .ne 7, 3) := by decide +kernel
theorem dX9_oneRow_90 : decode cX9_oneRow 90 = .ok (.iconst 1, 1) := by decide +kernel
theorem dX9_oneRow_91 : decode cX9_oneRow 91 = .ok (.goto 4, 3) := by decide +kernel
theorem dX9_oneRow_94 : decode cX9_oneRow 94 = .ok (.iconst 0, 1) := by decide +kernel
theorem dX9_oneRow_95 : decode cX9_oneRow 95 = .ok (.putfield 99, 3) := by decide +kernel
theorem dX9_oneRow_98 : decode cX9_oneRow 98 = .ok (.aload_n 0, 1) := by decide +kernel
theorem dX9_oneRow_99 : decode cX9_oneRow 99 = .ok (.getfield 99, 3) := by decide +kernel
theorem dX9_oneRow_102 : decode cX9_oneRow 102 = .ok (.ifCond .ne 16, 3) := by decide +kernel
theorem dX9_oneRow_105 : decode cX9_oneRow 105 = .ok (.aload_n 0, 1) := by decide +kernel
theorem dX9_oneRow_106 : decode cX9_oneRow 106 = .ok (.bipush 63, 2) := by decide +kernel
theorem dX9_oneRow_108 : decode cX9_oneRow 108 = .ok (.invokevirtual 107, 3) := by decide +kernel
theorem dX9_oneRow_111 : decode cX9_oneRow 111 = .ok (.ifCond .eq 7, 3) := by decide +kernel
theorem dX9_oneRow_114 : decode cX9_oneRow 114 = .ok (.iconst 1, 1) := by decide +kernel
theorem dX9_oneRow_115 : decode cX9_oneRow 115 = .ok (.goto 4, 3) := by decide +kernel
theorem dX9_oneRow_118 : decode cX9_oneRow 118 = .ok (.iconst 0, 1) := by decide +kernel
theorem dX9_oneRow_119 : decode cX9_oneRow 119 = .ok (.istore 5, 2) := by decide +kernel
theorem dX9_oneRow_121 : decode cX9_oneRow 121 = .ok (.aload_n 0, 1) := by decide +kernel
theorem dX9_oneRow_122 : decode cX9_oneRow 122 = .ok (.getfield 99, 3) := by decide +kernel
theorem dX9_oneRow_125 : decode cX9_oneRow 125 = .ok (.ifCond .ne 8, 3) := by decide +kernel
theorem dX9_oneRow_128 : decode cX9_oneRow 128 = .ok (.iload 5, 2) := by decide +kernel
theorem dX9_oneRow_130 : decode cX9_oneRow 130 = .ok (.ifCond .eq 7, 3) := by decide +kernel
theorem dX9_oneRow_133 : decode cX9_oneRow 133 = .ok (.iconst 0, 1) := by decide +kernel
theorem dX9_oneRow_134 : decode cX9_oneRow 134 = .ok (.goto 7, 3) := by decide +kernel
theorem dX9_oneRow_137 : decode cX9_oneRow 137 = .ok (.aload_n 0, 1) := by decide +kernel
theorem dX9_oneRow_138 : decode cX9_oneRow 138 = .ok (.invokevirtual 114, 3) := by decide +kernel
theorem dX9_oneRow_141 : decode cX9_oneRow 141 = .ok (.istore 6, 2) := by decide +kernel
theorem dX9_oneRow_143 : decode cX9_oneRow 143 = .ok (.aload_n 0, 1) := by decide +kernel
theorem dX9_oneRow_144 : decode cX9_oneRow 144 = .ok (.getfield 99, 3) := by decide +kernel
theorem dX9_oneRow_147 : decode cX9_oneRow 147 = .ok (.ifCond .ne 14, 3) := by decide +kernel
theorem dX9_oneRow_150 : decode cX9_oneRow 150 = .ok (.aload_n 0, 1) := by decide +kernel
theorem dX9_oneRow_151 : decode cX9_oneRow 151 = .ok (.iload_n 3, 1) := by decide +kernel
theorem dX9_oneRow_152 : decode cX9_oneRow 152 = .ok (.iload 4, 2) := by decide +kernel
theorem dX9_oneRow_154 : decode cX9_oneRow 154 = .ok (.iload 6, 2) := by decide +kernel
theorem dX9_oneRow_156 : decode cX9_oneRow 156 = .ok (.iload 5, 2) := by decide +kernel
theorem dX9_oneRow_158 : decode cX9_oneRow 158 = .ok (.invokevirtual 69, 3) := by decide +kernel
theorem dX9_oneRow_161 : decode cX9_oneRow 161 = .ok (.return_, 1) := by decide +kernel
set_option maxRecDepth 20000 in
theorem ggX9_text_X9_oneRow : GoodIn wsX9_text wsX9_oneRow := goodIn_r _ [9, 1, 2, 3, 10, 11, 12, 8, 13, 4, 14, 15, 16, 17, 18, 19, 20, 21, 22, 23, 24, 25, 26, 27, 28, 29, 30, 31, 32, 33, 34, 35, 36, 37, 38, 39, 40, 41, 42, 43, 44, 45, 46, 47, 48, 49, 50, 51, 52, 53, 54, 55, 56, 57, 58, 59, 60, 61, 62, 63] (by decide +kernel) (by decide +kernel)
set_option maxRecDepth 20000 in
theorem gX9_text_X9_oneRow : GoodIn wsX9_text (wsV RX9 121 RX9 yX9_oneRow wsX9_oneRow) := goodIn_app (goodIn_of _ (by decide +kernel)) ggX9_text_X9_oneRow
set_option maxRecDepth 20000 in
theorem ggX9_text_X9_passes : GoodIn wsX9_text wsX9_passes := goodIn_r _ [22, 3, 2, 10, 11, 12, 8, 13, 4, 14, 40, 41, 42, 43, 44, 45, 46, 47, 48, 49, 50, 51, 52, 53, 54, 55, 56, 57, 58, 59, 60, 61, 62, 63] (by decide +kernel) (by decide +kernel)
set_option maxRecDepth 20000 in
theorem gX9_text_X9_passes : GoodIn wsX9_text (wsV RX9 107 RX9 yX9_passes wsX9_passes) := goodIn_app (goodIn_of _ (by decide +kernel)) ggX9_text_X9_passes
set_option maxRecDepth 20000 in
theorem ggX9_text_X9_next : GoodIn wsX9_text wsX9_next := goodIn_r _ [13, 2, 4, 14, 40, 41, 42, 43, 44, 45, 46, 47, 48, 49, 50, 51, 52, 53, 54, 55, 56, 57, 58, 59, 60, 61, 62, 63] (by decide +kernel) (by decide +kernel)
set_option maxRecDepth 20000 in
theorem gX9_text_X9_next : GoodIn wsX9_text (wsV RX9 103 RX9 yX9_next wsX9_next) := goodIn_app (goodIn_of _ (by decide +kernel)) ggX9_text_X9_next
theorem dX9_text_0 : decode cX9_text 0 = .ok (.aload_n 0, 1) := by decide +kernel
theorem dX9_text_1 : decode cX9_text 1 = .ok (.getfield 62, 3) := by decide +kernel
theorem dX9_text_4 : decode cX9_text 4 = .ok (.istore_n 1, 1) := by decide +kernel
theorem dX9_text_5 : decode cX9_text 5 = .ok (.aload_n 0, 1) := by decide +kernel
theorem dX9_text_6 : decode cX9_text 6 = .ok (.iconst 0, 1) := by decide +kernel
theorem dX9_text_7 : decode cX9_text 7 = .ok (.putfield 96, 3) := by decide +kernel
theorem dX9_text_10 : decode cX9_text 10 = .ok (.aload_n 0, 1) := by decide +kernel
theorem dX9_text_11 : decode cX9_text 11 = .ok (.iconst 0, 1) := by decide +kernel
theorem dX9_text_12 : decode cX9_text 12 = .ok (.putfield 99, 3) := by decide +kernel
theorem dX9_text_15 : decode cX9_text 15 = .ok (.iconst 1, 1) := by decide +kernel
theorem dX9_text_16 : decode cX9_text 16 = .ok (.istore_n 2, 1) := by decide +kernel
theorem dX9_text_17 : decode cX9_text 17 = .ok (.iload_n 2, 1) := by decide +kernel
theorem dX9_text_18 : decode cX9_text 18 = .ok (.ifCond .eq 17, 3) := by decide +kernel
theorem dX9_text_21 : decode cX9_text 21 = .ok (.aload_n 0, 1) := by decide +kernel
theorem dX9_text_22 : decode cX9_text 22 = .ok (.invokevirtual 121, 3) := by decide +kernel
theorem dX9_text_25 : decode cX9_text 25 = .ok (.aload_n 0, 1) := by decide +kernel
theorem dX9_text_26 : decode cX9_text 26 = .ok (.bipush 59, 2) := by decide +kernel
theorem dX9_text_28 : decode cX9_text 28 = .ok (.invokevirtual 107, 3) := by decide +kernel
theorem dX9_text_31 : decode cX9_text 31 = .ok (.istore_n 2, 1) := by decide +kernel
theorem dX9_text_32 : decode cX9_text 32 = .ok (.goto (-15), 3) := by decide +kernel
theorem dX9_text_35 : decode cX9_text 35 = .ok (.aload_n 0, 1) := by decide +kernel
theorem dX9_text_36 : decode cX9_text 36 = .ok (.aload_n 0, 1) := by decide +kernel
theorem dX9_text_37 : decode cX9_text 37 = .ok (.getfield 99, 3) := by decide +kernel
theorem dX9_text_40 : decode cX9_text 40 = .ok (.ifCond .ne 10, 3) := by decide +kernel
theorem dX9_text_43 : decode cX9_text 43 = .ok (.aload_n 0, 1) := by decide +kernel
theorem dX9_text_44 : decode cX9_text 44 = .ok (.invokevirtual 103, 3) := by decide +kernel
theorem dX9_text_47 : decode cX9_text 47 = .ok (.ifCond .eq 7, 3) := by decide +kernel
theorem dX9_text_50 : decode cX9_text 50 = .ok (.iconst 1, 1) := by decide +kernel
theorem dX9_text_51 : decode cX9_text 51 = .ok (.goto 4, 3) := by decide +kernel
theorem dX9_text_54 : decode cX9_text 54 = .ok (.iconst 0, 1) := by decide +kernel
theorem dX9_text_55 : decode cX9_text 55 = .ok (.putfield 99, 3) := by decide +kernel
theorem dX9_text_58 : decode cX9_text 58 = .ok (.aload_n 0, 1) := by decide +kernel
theorem dX9_text_59 : decode cX9_text 59 = .ok (.iconst 0, 1) := by decide +kernel
theorem dX9_text_60 : decode cX9_text 60 = .ok (.putfield 93, 3) := by decide +kernel
theorem dX9_text_63 : decode cX9_text 63 = .ok (.aload_n 0, 1) := by decide +kernel
theorem dX9_text_64 : decode cX9_text 64 = .ok (.getfield 99, 3) := by decide +kernel
theorem dX9_text_67 : decode cX9_text 67 = .ok (.ifCond .eq 16, 3) := by decide +kernel
theorem dX9_text_70 : decode cX9_text 70 = .ok (.aload_n 0, 1) := by decide +kernel
theorem dX9_text_71 : decode cX9_text 71 = .ok (.iload_n 1, 1) := by decide +kernel
theorem dX9_text_72 : decode cX9_text 72 = .ok (.putfield 62, 3) := by decide +kernel
theorem dX9_text_75 : decode cX9_text 75 = .ok (.bipush (-20), 2) := by decide +kernel
theorem dX9_text_77 : decode cX9_text 77 = .ok (.aload_n 0, 1) := by decide +kernel
theorem dX9_text_78 : decode cX9_text 78 = .ok (.getfield 96, 3) := by decide +kernel
theorem dX9_text_81 : decode cX9_text 81 = .ok (.isub, 1) := by decide +kernel
theorem dX9_text_82 : decode cX9_text 82 = .ok (.ireturn, 1) := by decide +kernel
theorem dX9_text_83 : decode cX9_text 83 = .ok (.aload_n 0, 1) := by decide +kernel
theorem dX9_text_84 : decode cX9_text 84 = .ok (.getfield 62, 3) := by decide +kernel
theorem dX9_text_87 : decode cX9_text 87 = .ok (.iload_n 1, 1) := by decide +kernel
theorem dX9_text_88 : decode cX9_text 88 = .ok (.isub, 1) := by decide +kernel
theorem dX9_text_89 : decode cX9_text 89 = .ok (.ireturn, 1) := by decide +kernel
set_option maxRecDepth 20000 in
theorem ggX9_told_X9_isRow : GoodIn wsX9_told wsX9_isRow := goodIn_r _ [12, 13, 14, 15, 11, 16, 17, 18, 19, 20, 21, 22, 23, 24, 25, 26, 27, 28, 29, 30, 31, 32, 33, 34, 35, 36, 37, 38, 39, 40] (by decide +kernel) (by decide +kernel)
set_option maxRecDepth 20000 in
theorem gX9_told_X9_isRow : GoodIn wsX9_told (wsV RX9 124 RX9 yX9_isRow wsX9_isRow) := goodIn_app (goodIn_of _ (by decide +kernel)) ggX9_told_X9_isRow
set_option maxRecDepth 20000 in
theorem ggX9_told_X9_in : GoodIn wsX9_told wsX9_in := goodIn_r _ [16] (by decide +kernel) (by decide +kernel)
set_option maxRecDepth 20000 in
theorem gX9_told_X9_in : GoodIn wsX9_told (va_wsS RX9 58 yX9_in wsX9_in) := goodIn_app (goodIn_of _ (by decide +kernel)) ggX9_told_X9_in
theorem dX9_told_0 : decode cX9_told 0 = .ok (.aload_n 0, 1) := by decide +kernel
theorem dX9_told_1 : decode cX9_told 1 = .ok (.iload_n 1, 1) := by decide +kernel
theorem dX9_told_2 : decode cX9_told 2 = .ok (.invokevirtual 124, 3) := by decide +kernel
theorem dX9_told_5 : decode cX9_told 5 = .ok (.ifCond .eq 15, 3) := by decide +kernel
theorem dX9_told_8 : decode cX9_told 8 = .ok (.iload_n 2, 1) := by decide +kernel
theorem dX9_told_9 : decode cX9_told 9 = .ok (.i2l, 1) := by decide +kernel
theorem dX9_told_10 : decode cX9_told 10 = .ok (.lconst 0, 1) := by decide +kernel
theorem dX9_told_11 : decode cX9_told 11 = .ok (.ldc2_w 127, 3) := by decide +kernel
theorem dX9_told_14 : decode cX9_told 14 = .ok (.invokestatic 58, 3) := by decide +kernel
theorem dX9_told_17 : decode cX9_told 17 = .ok (.ifCond .ne 6, 3) := by decide +kernel
theorem dX9_told_20 : decode cX9_told 20 = .ok (.ldc 129, 2) := by decide +kernel
theorem dX9_told_22 : decode cX9_told 22 = .ok (.ireturn, 1) := by decide +kernel
theorem dX9_told_23 : decode cX9_told 23 = .ok (.iload_n 2, 1) := by decide +kernel
theorem dX9_told_24 : decode cX9_told 24 = .ok (.ifCond .ne 12, 3) := by decide +kernel
theorem dX9_told_27 : decode cX9_told 27 = .ok (.aload_n 0, 1) := by decide +kernel
theorem dX9_told_28 : decode cX9_told 28 = .ok (.getfield 7, 3) := by decide +kernel
theorem dX9_told_31 : decode cX9_told 31 = .ok (.iload_n 1, 1) := by decide +kernel
theorem dX9_told_32 : decode cX9_told 32 = .ok (.iaload, 1) := by decide +kernel
theorem dX9_told_33 : decode cX9_told 33 = .ok (.goto 37, 3) := by decide +kernel
theorem dX9_told_36 : decode cX9_told 36 = .ok (.iload_n 2, 1) := by decide +kernel
theorem dX9_told_37 : decode cX9_told 37 = .ok (.iconst 1, 1) := by decide +kernel
theorem dX9_told_38 : decode cX9_told 38 = .ok (.if_icmp .ne 12, 3) := by decide +kernel
theorem dX9_told_41 : decode cX9_told 41 = .ok (.aload_n 0, 1) := by decide +kernel
theorem dX9_told_42 : decode cX9_told 42 = .ok (.getfield 13, 3) := by decide +kernel
theorem dX9_told_45 : decode cX9_told 45 = .ok (.iload_n 1, 1) := by decide +kernel
theorem dX9_told_46 : decode cX9_told 46 = .ok (.iaload, 1) := by decide +kernel
theorem dX9_told_47 : decode cX9_told 47 = .ok (.goto 23, 3) := by decide +kernel
theorem dX9_told_50 : decode cX9_told 50 = .ok (.aload_n 0, 1) := by decide +kernel
theorem dX9_told_51 : decode cX9_told 51 = .ok (.getfield 19, 3) := by decide +kernel
theorem dX9_told_54 : decode cX9_told 54 = .ok (.iload_n 1, 1) := by decide +kernel
theorem dX9_told_55 : decode cX9_told 55 = .ok (.baload, 1) := by decide +kernel
theorem dX9_told_56 : decode cX9_told 56 = .ok (.ifCond .eq 8, 3) := by decide +kernel
theorem dX9_told_59 : decode cX9_told 59 = .ok (.ldc 130, 2) := by decide +kernel
theorem dX9_told_61 : decode cX9_told 61 = .ok (.goto 9, 3) := by decide +kernel
theorem dX9_told_64 : decode cX9_told 64 = .ok (.aload_n 0, 1) := by decide +kernel
theorem dX9_told_65 : decode cX9_told 65 = .ok (.getfield 16, 3) := by decide +kernel
theorem dX9_told_68 : decode cX9_told 68 = .ok (.iload_n 1, 1) := by decide +kernel
theorem dX9_told_69 : decode cX9_told 69 = .ok (.iaload, 1) := by decide +kernel
theorem dX9_told_70 : decode cX9_told 70 = .ok (.ireturn, 1) := by decide +kernel
theorem dX9_clear_0 : decode cX9_clear 0 = .ok (.aload_n 0, 1) := by decide +kernel
theorem dX9_clear_1 : decode cX9_clear 1 = .ok (.getfield 62, 3) := by decide +kernel
theorem dX9_clear_4 : decode cX9_clear 4 = .ok (.istore_n 1, 1) := by decide +kernel
theorem dX9_clear_5 : decode cX9_clear 5 = .ok (.aload_n 0, 1) := by decide +kernel
theorem dX9_clear_6 : decode cX9_clear 6 = .ok (.iconst 0, 1) := by decide +kernel
theorem dX9_clear_7 : decode cX9_clear 7 = .ok (.putfield 62, 3) := by decide +kernel
theorem dX9_clear_10 : decode cX9_clear 10 = .ok (.iload_n 1, 1) := by decide +kernel
theorem dX9_clear_11 : decode cX9_clear 11 = .ok (.ireturn, 1) := by decide +kernel
set_option maxRecDepth 20000 in
theorem ggX9_error_X9_in : GoodIn wsX9_error wsX9_in := goodIn_r _ [6] (by decide +kernel) (by decide +kernel)
set_option maxRecDepth 20000 in
theorem gX9_error_X9_in : GoodIn wsX9_error (va_wsS RX9 58 yX9_in wsX9_in) := goodIn_app (goodIn_of _ (by decide +kernel)) ggX9_error_X9_in
theorem dX9_error_0 : decode cX9_error 0 = .ok (.iload_n 1, 1) := by decide +kernel
theorem dX9_error_1 : decode cX9_error 1 = .ok (.i2l, 1) := by decide +kernel
theorem dX9_error_2 : decode cX9_error 2 = .ok (.lconst 0, 1) := by decide +kernel
theorem dX9_error_3 : decode cX9_error 3 = .ok (.ldc2_w 131, 3) := by decide +kernel
theorem dX9_error_6 : decode cX9_error 6 = .ok (.invokestatic 58, 3) := by decide +kernel
theorem dX9_error_9 : decode cX9_error 9 = .ok (.ifCond .ne 5, 3) := by decide +kernel
theorem dX9_error_12 : decode cX9_error 12 = .ok (.iconst (-1), 1) := by decide +kernel
theorem dX9_error_13 : decode cX9_error 13 = .ok (.ireturn, 1) := by decide +kernel
theorem dX9_error_14 : decode cX9_error 14 = .ok (.aload_n 0, 1) := by decide +kernel
theorem dX9_error_15 : decode cX9_error 15 = .ok (.getfield 23, 3) := by decide +kernel
theorem dX9_error_18 : decode cX9_error 18 = .ok (.istore_n 2, 1) := by decide +kernel
theorem dX9_error_19 : decode cX9_error 19 = .ok (.aload_n 0, 1) := by decide +kernel
theorem dX9_error_20 : decode cX9_error 20 = .ok (.iload_n 1, 1) := by decide +kernel
theorem dX9_error_21 : decode cX9_error 21 = .ok (.putfield 23, 3) := by decide +kernel
theorem dX9_error_24 : decode cX9_error 24 = .ok (.iload_n 2, 1) := by decide +kernel
theorem dX9_error_25 : decode cX9_error 25 = .ok (.ireturn, 1) := by decide +kernel
set_option maxRecDepth 20000 in
theorem ggX9_isLaw_X9_in : GoodIn wsX9_isLaw wsX9_in := goodIn_r _ [5] (by decide +kernel) (by decide +kernel)
set_option maxRecDepth 20000 in
theorem gX9_isLaw_X9_in : GoodIn wsX9_isLaw (va_wsS RX9 58 yX9_in wsX9_in) := goodIn_app (goodIn_of _ (by decide +kernel)) ggX9_isLaw_X9_in
theorem dX9_isLaw_0 : decode cX9_isLaw 0 = .ok (.iload_n 0, 1) := by decide +kernel
theorem dX9_isLaw_1 : decode cX9_isLaw 1 = .ok (.i2l, 1) := by decide +kernel
theorem dX9_isLaw_2 : decode cX9_isLaw 2 = .ok (.lconst 0, 1) := by decide +kernel
theorem dX9_isLaw_3 : decode cX9_isLaw 3 = .ok (.ldc2_w 133, 3) := by decide +kernel
theorem dX9_isLaw_6 : decode cX9_isLaw 6 = .ok (.invokestatic 58, 3) := by decide +kernel
theorem dX9_isLaw_9 : decode cX9_isLaw 9 = .ok (.ireturn, 1) := by decide +kernel
theorem dX9_sumOf_0 : decode cX9_sumOf 0 = .ok (.iload_n 0, 1) := by decide +kernel
theorem dX9_sumOf_1 : decode cX9_sumOf 1 = .ok (.bipush 17, 2) := by decide +kernel
theorem dX9_sumOf_3 : decode cX9_sumOf 3 = .ok (.idiv, 1) := by decide +kernel
theorem dX9_sumOf_4 : decode cX9_sumOf 4 = .ok (.bipush 8, 2) := by decide +kernel
theorem dX9_sumOf_6 : decode cX9_sumOf 6 = .ok (.isub, 1) := by decide +kernel
theorem dX9_sumOf_7 : decode cX9_sumOf 7 = .ok (.iload_n 1, 1) := by decide +kernel
theorem dX9_sumOf_8 : decode cX9_sumOf 8 = .ok (.imul, 1) := by decide +kernel
theorem dX9_sumOf_9 : decode cX9_sumOf 9 = .ok (.iload_n 0, 1) := by decide +kernel
theorem dX9_sumOf_10 : decode cX9_sumOf 10 = .ok (.bipush 17, 2) := by decide +kernel
theorem dX9_sumOf_12 : decode cX9_sumOf 12 = .ok (.irem, 1) := by decide +kernel
theorem dX9_sumOf_13 : decode cX9_sumOf 13 = .ok (.bipush 8, 2) := by decide +kernel
theorem dX9_sumOf_15 : decode cX9_sumOf 15 = .ok (.isub, 1) := by decide +kernel
theorem dX9_sumOf_16 : decode cX9_sumOf 16 = .ok (.iload_n 2, 1) := by decide +kernel
theorem dX9_sumOf_17 : decode cX9_sumOf 17 = .ok (.imul, 1) := by decide +kernel
theorem dX9_sumOf_18 : decode cX9_sumOf 18 = .ok (.iadd, 1) := by decide +kernel
theorem dX9_sumOf_19 : decode cX9_sumOf 19 = .ok (.ireturn, 1) := by decide +kernel
set_option maxRecDepth 20000 in
theorem ggX9_fits_X9_sumOf : GoodIn wsX9_fits wsX9_sumOf := goodIn_r _ [5] (by decide +kernel) (by decide +kernel)
set_option maxRecDepth 20000 in
theorem gX9_fits_X9_sumOf : GoodIn wsX9_fits (va_wsS RX9 135 yX9_sumOf wsX9_sumOf) := goodIn_app (goodIn_of _ (by decide +kernel)) ggX9_fits_X9_sumOf
set_option maxRecDepth 20000 in
theorem ggX9_fits_X9_in : GoodIn wsX9_fits wsX9_in := goodIn_r _ [8] (by decide +kernel) (by decide +kernel)
set_option maxRecDepth 20000 in
theorem gX9_fits_X9_in : GoodIn wsX9_fits (va_wsS RX9 58 yX9_in wsX9_in) := goodIn_app (goodIn_of _ (by decide +kernel)) ggX9_fits_X9_in
theorem dX9_fits_0 : decode cX9_fits 0 = .ok (.iconst 4, 1) := by decide +kernel
theorem dX9_fits_1 : decode cX9_fits 1 = .ok (.iload 4, 2) := by decide +kernel
theorem dX9_fits_3 : decode cX9_fits 3 = .ok (.imul, 1) := by decide +kernel
theorem dX9_fits_4 : decode cX9_fits 4 = .ok (.iload_n 1, 1) := by decide +kernel
theorem dX9_fits_5 : decode cX9_fits 5 = .ok (.iload_n 2, 1) := by decide +kernel
theorem dX9_fits_6 : decode cX9_fits 6 = .ok (.iload_n 3, 1) := by decide +kernel
theorem dX9_fits_7 : decode cX9_fits 7 = .ok (.invokestatic 135, 3) := by decide +kernel
theorem dX9_fits_10 : decode cX9_fits 10 = .ok (.isub, 1) := by decide +kernel
theorem dX9_fits_11 : decode cX9_fits 11 = .ok (.istore 5, 2) := by decide +kernel
theorem dX9_fits_13 : decode cX9_fits 13 = .ok (.iload 5, 2) := by decide +kernel
theorem dX9_fits_15 : decode cX9_fits 15 = .ok (.i2l, 1) := by decide +kernel
theorem dX9_fits_16 : decode cX9_fits 16 = .ok (.bipush (-4), 2) := by decide +kernel
theorem dX9_fits_18 : decode cX9_fits 18 = .ok (.aload_n 0, 1) := by decide +kernel
theorem dX9_fits_19 : decode cX9_fits 19 = .ok (.getfield 23, 3) := by decide +kernel
theorem dX9_fits_22 : decode cX9_fits 22 = .ok (.imul, 1) := by decide +kernel
theorem dX9_fits_23 : decode cX9_fits 23 = .ok (.i2l, 1) := by decide +kernel
theorem dX9_fits_24 : decode cX9_fits 24 = .ok (.iconst 4, 1) := by decide +kernel
theorem dX9_fits_25 : decode cX9_fits 25 = .ok (.aload_n 0, 1) := by decide +kernel
theorem dX9_fits_26 : decode cX9_fits 26 = .ok (.getfield 23, 3) := by decide +kernel
theorem dX9_fits_29 : decode cX9_fits 29 = .ok (.imul, 1) := by decide +kernel
theorem dX9_fits_30 : decode cX9_fits 30 = .ok (.i2l, 1) := by decide +kernel
theorem dX9_fits_31 : decode cX9_fits 31 = .ok (.invokestatic 58, 3) := by decide +kernel
theorem dX9_fits_34 : decode cX9_fits 34 = .ok (.ireturn, 1) := by decide +kernel
set_option maxRecDepth 20000 in
theorem ggX9_doesMeet_X9_fits : GoodIn wsX9_doesMeet wsX9_fits := goodIn_r _ [9, 10, 11, 12, 8, 13, 14, 15, 16, 17, 18, 19, 20, 21, 22, 23, 24, 25, 26, 27, 28, 29, 30, 31, 32, 33, 34, 35, 36, 37, 38, 39, 40] (by decide +kernel) (by decide +kernel)
set_option maxRecDepth 20000 in
theorem gX9_doesMeet_X9_fits : GoodIn wsX9_doesMeet (wsV RX9 139 RX9 yX9_fits wsX9_fits) := goodIn_app (goodIn_of _ (by decide +kernel)) ggX9_doesMeet_X9_fits
theorem dX9_doesMeet_0 : decode cX9_doesMeet 0 = .ok (.aload_n 0, 1) := by decide +kernel
theorem dX9_doesMeet_1 : decode cX9_doesMeet 1 = .ok (.getfield 19, 3) := by decide +kernel
theorem dX9_doesMeet_4 : decode cX9_doesMeet 4 = .ok (.iload_n 1, 1) := by decide +kernel
theorem dX9_doesMeet_5 : decode cX9_doesMeet 5 = .ok (.baload, 1) := by decide +kernel
theorem dX9_doesMeet_6 : decode cX9_doesMeet 6 = .ok (.ifCond .ne 29, 3) := by decide +kernel
theorem dX9_doesMeet_9 : decode cX9_doesMeet 9 = .ok (.aload_n 0, 1) := by decide +kernel
theorem dX9_doesMeet_10 : decode cX9_doesMeet 10 = .ok (.iload_n 2, 1) := by decide +kernel
theorem dX9_doesMeet_11 : decode cX9_doesMeet 11 = .ok (.aload_n 0, 1) := by decide +kernel
theorem dX9_doesMeet_12 : decode cX9_doesMeet 12 = .ok (.getfield 7, 3) := by decide +kernel
theorem dX9_doesMeet_15 : decode cX9_doesMeet 15 = .ok (.iload_n 1, 1) := by decide +kernel
theorem dX9_doesMeet_16 : decode cX9_doesMeet 16 = .ok (.iaload, 1) := by decide +kernel
theorem dX9_doesMeet_17 : decode cX9_doesMeet 17 = .ok (.aload_n 0, 1) := by decide +kernel
theorem dX9_doesMeet_18 : decode cX9_doesMeet 18 = .ok (.getfield 13, 3) := by decide +kernel
theorem dX9_doesMeet_21 : decode cX9_doesMeet 21 = .ok (.iload_n 1, 1) := by decide +kernel
theorem dX9_doesMeet_22 : decode cX9_doesMeet 22 = .ok (.iaload, 1) := by decide +kernel
theorem dX9_doesMeet_23 : decode cX9_doesMeet 23 = .ok (.aload_n 0, 1) := by decide +kernel
theorem dX9_doesMeet_24 : decode cX9_doesMeet 24 = .ok (.getfield 16, 3) := by decide +kernel
theorem dX9_doesMeet_27 : decode cX9_doesMeet 27 = .ok (.iload_n 1, 1) := by decide +kernel
theorem dX9_doesMeet_28 : decode cX9_doesMeet 28 = .ok (.iaload, 1) := by decide +kernel
theorem dX9_doesMeet_29 : decode cX9_doesMeet 29 = .ok (.invokevirtual 139, 3) := by decide +kernel
theorem dX9_doesMeet_32 : decode cX9_doesMeet 32 = .ok (.ifCond .eq 7, 3) := by decide +kernel
theorem dX9_doesMeet_35 : decode cX9_doesMeet 35 = .ok (.iconst 1, 1) := by decide +kernel
theorem dX9_doesMeet_36 : decode cX9_doesMeet 36 = .ok (.goto 4, 3) := by decide +kernel
theorem dX9_doesMeet_39 : decode cX9_doesMeet 39 = .ok (.iconst 0, 1) := by decide +kernel
theorem dX9_doesMeet_40 : decode cX9_doesMeet 40 = .ok (.ireturn, 1) := by decide +kernel
set_option maxRecDepth 20000 in
theorem ggX9_meets_X9_isRow : GoodIn wsX9_meets wsX9_isRow := goodIn_r _ [5, 6, 7, 8, 4, 9, 30, 31, 32, 33, 34, 35, 36, 37, 38, 39, 40, 41, 42, 43, 44, 45, 46, 47, 48, 49, 50, 51, 52, 53] (by decide +kernel) (by decide +kernel)
set_option maxRecDepth 20000 in
theorem gX9_meets_X9_isRow : GoodIn wsX9_meets (wsV RX9 124 RX9 yX9_isRow wsX9_isRow) := goodIn_app (goodIn_of _ (by decide +kernel)) ggX9_meets_X9_isRow
set_option maxRecDepth 20000 in
theorem ggX9_meets_X9_isLaw : GoodIn wsX9_meets wsX9_isLaw := goodIn_r _ [12, 13, 7, 8, 4, 9] (by decide +kernel) (by decide +kernel)
set_option maxRecDepth 20000 in
theorem gX9_meets_X9_isLaw : GoodIn wsX9_meets (va_wsS RX9 143 yX9_isLaw wsX9_isLaw) := goodIn_app (goodIn_of _ (by decide +kernel)) ggX9_meets_X9_isLaw
set_option maxRecDepth 20000 in
theorem ggX9_meets_X9_doesMeet : GoodIn wsX9_meets wsX9_doesMeet := goodIn_r _ [17, 18, 19, 20, 21, 22, 23, 24, 4, 25, 26, 27, 28, 29, 7, 8, 9, 30, 31, 32, 33, 34, 35, 36, 37, 38, 39, 40, 41, 42, 43, 44, 45, 46, 47, 48, 49, 50, 51, 52, 53] (by decide +kernel) (by decide +kernel)
set_option maxRecDepth 20000 in
theorem gX9_meets_X9_doesMeet : GoodIn wsX9_meets (wsV RX9 146 RX9 yX9_doesMeet wsX9_doesMeet) := goodIn_app (goodIn_of _ (by decide +kernel)) ggX9_meets_X9_doesMeet
theorem dX9_meets_0 : decode cX9_meets 0 = .ok (.aload_n 0, 1) := by decide +kernel
theorem dX9_meets_1 : decode cX9_meets 1 = .ok (.iload_n 1, 1) := by decide +kernel
theorem dX9_meets_2 : decode cX9_meets 2 = .ok (.invokevirtual 124, 3) := by decide +kernel
theorem dX9_meets_5 : decode cX9_meets 5 = .ok (.ifCond .eq 27, 3) := by decide +kernel
theorem dX9_meets_8 : decode cX9_meets 8 = .ok (.iload_n 2, 1) := by decide +kernel
theorem dX9_meets_9 : decode cX9_meets 9 = .ok (.invokestatic 143, 3) := by decide +kernel
theorem dX9_meets_12 : decode cX9_meets 12 = .ok (.ifCond .eq 20, 3) := by decide +kernel
theorem dX9_meets_15 : decode cX9_meets 15 = .ok (.aload_n 0, 1) := by decide +kernel
theorem dX9_meets_16 : decode cX9_meets 16 = .ok (.iload_n 1, 1) := by decide +kernel
theorem dX9_meets_17 : decode cX9_meets 17 = .ok (.iload_n 2, 1) := by decide +kernel
theorem dX9_meets_18 : decode cX9_meets 18 = .ok (.invokevirtual 146, 3) := by decide +kernel
theorem dX9_meets_21 : decode cX9_meets 21 = .ok (.ifCond .eq 7, 3) := by decide +kernel
theorem dX9_meets_24 : decode cX9_meets 24 = .ok (.iconst 1, 1) := by decide +kernel
theorem dX9_meets_25 : decode cX9_meets 25 = .ok (.goto 8, 3) := by decide +kernel
theorem dX9_meets_28 : decode cX9_meets 28 = .ok (.iconst 0, 1) := by decide +kernel
theorem dX9_meets_29 : decode cX9_meets 29 = .ok (.goto 4, 3) := by decide +kernel
theorem dX9_meets_32 : decode cX9_meets 32 = .ok (.iconst (-1), 1) := by decide +kernel
theorem dX9_meets_33 : decode cX9_meets 33 = .ok (.ireturn, 1) := by decide +kernel
set_option maxRecDepth 20000 in
theorem ggX9_isHeap_X9_in : GoodIn wsX9_isHeap wsX9_in := goodIn_r _ [5] (by decide +kernel) (by decide +kernel)
set_option maxRecDepth 20000 in
theorem gX9_isHeap_X9_in : GoodIn wsX9_isHeap (va_wsS RX9 58 yX9_in wsX9_in) := goodIn_app (goodIn_of _ (by decide +kernel)) ggX9_isHeap_X9_in
theorem dX9_isHeap_0 : decode cX9_isHeap 0 = .ok (.iload_n 1, 1) := by decide +kernel
theorem dX9_isHeap_1 : decode cX9_isHeap 1 = .ok (.i2l, 1) := by decide +kernel
theorem dX9_isHeap_2 : decode cX9_isHeap 2 = .ok (.lconst 0, 1) := by decide +kernel
theorem dX9_isHeap_3 : decode cX9_isHeap 3 = .ok (.iconst 1, 1) := by decide +kernel
theorem dX9_isHeap_4 : decode cX9_isHeap 4 = .ok (.aload_n 0, 1) := by decide +kernel
theorem dX9_isHeap_5 : decode cX9_isHeap 5 = .ok (.getfield 62, 3) := by decide +kernel
theorem dX9_isHeap_8 : decode cX9_isHeap 8 = .ok (.ishl, 1) := by decide +kernel
theorem dX9_isHeap_9 : decode cX9_isHeap 9 = .ok (.iconst 1, 1) := by decide +kernel
theorem dX9_isHeap_10 : decode cX9_isHeap 10 = .ok (.isub, 1) := by decide +kernel
theorem dX9_isHeap_11 : decode cX9_isHeap 11 = .ok (.i2l, 1) := by decide +kernel
theorem dX9_isHeap_12 : decode cX9_isHeap 12 = .ok (.invokestatic 58, 3) := by decide +kernel
theorem dX9_isHeap_15 : decode cX9_isHeap 15 = .ok (.ireturn, 1) := by decide +kernel
set_option maxRecDepth 20000 in
theorem ggX9_isLet_X9_doesMeet : GoodIn wsX9_isLet wsX9_doesMeet := goodIn_r _ [6, 7, 8, 9, 10, 11, 12, 13, 5, 14, 15, 16, 17, 18, 19, 20, 21, 22, 23, 24, 25, 26, 27, 28, 29, 30, 31, 32, 33, 34, 35, 36, 37, 38, 39, 40, 41, 42, 43, 44, 45] (by decide +kernel) (by decide +kernel)
set_option maxRecDepth 20000 in
theorem gX9_isLet_X9_doesMeet : GoodIn wsX9_isLet (wsV RX9 146 RX9 yX9_doesMeet wsX9_doesMeet) := goodIn_app (goodIn_of _ (by decide +kernel)) ggX9_isLet_X9_doesMeet
theorem dX9_isLet_0 : decode cX9_isLet 0 = .ok (.iconst 1, 1) := by decide +kernel
theorem dX9_isLet_1 : decode cX9_isLet 1 = .ok (.istore_n 3, 1) := by decide +kernel
theorem dX9_isLet_2 : decode cX9_isLet 2 = .ok (.iconst 0, 1) := by decide +kernel
theorem dX9_isLet_3 : decode cX9_isLet 3 = .ok (.istore 4, 2) := by decide +kernel
theorem dX9_isLet_5 : decode cX9_isLet 5 = .ok (.iload 4, 2) := by decide +kernel
theorem dX9_isLet_7 : decode cX9_isLet 7 = .ok (.aload_n 0, 1) := by decide +kernel
theorem dX9_isLet_8 : decode cX9_isLet 8 = .ok (.getfield 62, 3) := by decide +kernel
theorem dX9_isLet_11 : decode cX9_isLet 11 = .ok (.if_icmp .ge 38, 3) := by decide +kernel
theorem dX9_isLet_14 : decode cX9_isLet 14 = .ok (.iload_n 3, 1) := by decide +kernel
theorem dX9_isLet_15 : decode cX9_isLet 15 = .ok (.ifCond .eq 34, 3) := by decide +kernel
theorem dX9_isLet_18 : decode cX9_isLet 18 = .ok (.iload_n 1, 1) := by decide +kernel
theorem dX9_isLet_19 : decode cX9_isLet 19 = .ok (.iload 4, 2) := by decide +kernel
theorem dX9_isLet_21 : decode cX9_isLet 21 = .ok (.ishr, 1) := by decide +kernel
theorem dX9_isLet_22 : decode cX9_isLet 22 = .ok (.iconst 1, 1) := by decide +kernel
theorem dX9_isLet_23 : decode cX9_isLet 23 = .ok (.iand, 1) := by decide +kernel
theorem dX9_isLet_24 : decode cX9_isLet 24 = .ok (.ifCond .eq 13, 3) := by decide +kernel
theorem dX9_isLet_27 : decode cX9_isLet 27 = .ok (.aload_n 0, 1) := by decide +kernel
theorem dX9_isLet_28 : decode cX9_isLet 28 = .ok (.iload 4, 2) := by decide +kernel
theorem dX9_isLet_30 : decode cX9_isLet 30 = .ok (.iload_n 2, 1) := by decide +kernel
theorem dX9_isLet_31 : decode cX9_isLet 31 = .ok (.invokevirtual 146, 3) := by decide +kernel
theorem dX9_isLet_34 : decode cX9_isLet 34 = .ok (.ifCond .eq 7, 3) := by decide +kernel
theorem dX9_isLet_37 : decode cX9_isLet 37 = .ok (.iconst 1, 1) := by decide +kernel
theorem dX9_isLet_38 : decode cX9_isLet 38 = .ok (.goto 4, 3) := by decide +kernel
theorem dX9_isLet_41 : decode cX9_isLet 41 = .ok (.iconst 0, 1) := by decide +kernel
theorem dX9_isLet_42 : decode cX9_isLet 42 = .ok (.istore_n 3, 1) := by decide +kernel
theorem dX9_isLet_43 : decode cX9_isLet 43 = .ok (.iinc 4 1, 3) := by decide +kernel
theorem dX9_isLet_46 : decode cX9_isLet 46 = .ok (.goto (-41), 3) := by decide +kernel
theorem dX9_isLet_49 : decode cX9_isLet 49 = .ok (.iload_n 3, 1) := by decide +kernel
theorem dX9_isLet_50 : decode cX9_isLet 50 = .ok (.ireturn, 1) := by decide +kernel
set_option maxRecDepth 20000 in
theorem ggX9_isWhole_X9_isLet : GoodIn wsX9_isWhole wsX9_isLet := goodIn_r _ [5, 6, 7, 8, 9, 4, 10, 11, 12, 13, 14, 15, 16, 17, 18, 19, 20, 21, 22, 23, 24, 25, 26, 27, 28, 29, 30, 31, 32, 33, 34, 35, 36, 37, 38, 39, 40, 41, 42, 43, 44, 45, 46, 47, 48, 49] (by decide +kernel) (by decide +kernel)
set_option maxRecDepth 20000 in
theorem gX9_isWhole_X9_isLet : GoodIn wsX9_isWhole (wsV RX9 150 RX9 yX9_isLet wsX9_isLet) := goodIn_app (goodIn_of _ (by decide +kernel)) ggX9_isWhole_X9_isLet
theorem dX9_isWhole_0 : decode cX9_isWhole 0 = .ok (.iconst 0, 1) := by decide +kernel
theorem dX9_isWhole_1 : decode cX9_isWhole 1 = .ok (.istore_n 2, 1) := by decide +kernel
theorem dX9_isWhole_2 : decode cX9_isWhole 2 = .ok (.iconst 0, 1) := by decide +kernel
theorem dX9_isWhole_3 : decode cX9_isWhole 3 = .ok (.istore_n 3, 1) := by decide +kernel
theorem dX9_isWhole_4 : decode cX9_isWhole 4 = .ok (.iload_n 3, 1) := by decide +kernel
theorem dX9_isWhole_5 : decode cX9_isWhole 5 = .ok (.sipush 289, 3) := by decide +kernel
theorem dX9_isWhole_8 : decode cX9_isWhole 8 = .ok (.if_icmp .ge 20, 3) := by decide +kernel
theorem dX9_isWhole_11 : decode cX9_isWhole 11 = .ok (.iload_n 2, 1) := by decide +kernel
theorem dX9_isWhole_12 : decode cX9_isWhole 12 = .ok (.ifCond .ne 16, 3) := by decide +kernel
theorem dX9_isWhole_15 : decode cX9_isWhole 15 = .ok (.aload_n 0, 1) := by decide +kernel
theorem dX9_isWhole_16 : decode cX9_isWhole 16 = .ok (.iload_n 1, 1) := by decide +kernel
theorem dX9_isWhole_17 : decode cX9_isWhole 17 = .ok (.iload_n 3, 1) := by decide +kernel
theorem dX9_isWhole_18 : decode cX9_isWhole 18 = .ok (.invokevirtual 150, 3) := by decide +kernel
theorem dX9_isWhole_21 : decode cX9_isWhole 21 = .ok (.istore_n 2, 1) := by decide +kernel
theorem dX9_isWhole_22 : decode cX9_isWhole 22 = .ok (.iinc 3 1, 3) := by decide +kernel
theorem dX9_isWhole_25 : decode cX9_isWhole 25 = .ok (.goto (-21), 3) := by decide +kernel
theorem dX9_isWhole_28 : decode cX9_isWhole 28 = .ok (.iload_n 2, 1) := by decide +kernel
theorem dX9_isWhole_29 : decode cX9_isWhole 29 = .ok (.ireturn, 1) := by decide +kernel
set_option maxRecDepth 20000 in
theorem ggX9_lets_X9_isHeap : GoodIn wsX9_lets wsX9_isHeap := goodIn_r _ [5, 6, 7, 8, 4, 9, 30, 31, 32, 33, 34, 35, 36, 37, 38, 39, 40, 41, 42, 43, 44, 45, 46, 47, 48, 49, 50, 51, 52, 53] (by decide +kernel) (by decide +kernel)
set_option maxRecDepth 20000 in
theorem gX9_lets_X9_isHeap : GoodIn wsX9_lets (wsV RX9 153 RX9 yX9_isHeap wsX9_isHeap) := goodIn_app (goodIn_of _ (by decide +kernel)) ggX9_lets_X9_isHeap
set_option maxRecDepth 20000 in
theorem ggX9_lets_X9_isLet : GoodIn wsX9_lets wsX9_isLet := goodIn_r _ [13, 6, 14, 15, 16, 4, 17, 18, 19, 20, 21, 22, 23, 24, 25, 26, 27, 28, 29, 7, 8, 9, 30, 31, 32, 33, 34, 35, 36, 37, 38, 39, 40, 41, 42, 43, 44, 45, 46, 47, 48, 49, 50, 51, 52, 53] (by decide +kernel) (by decide +kernel)
set_option maxRecDepth 20000 in
theorem gX9_lets_X9_isLet : GoodIn wsX9_lets (wsV RX9 150 RX9 yX9_isLet wsX9_isLet) := goodIn_app (goodIn_of _ (by decide +kernel)) ggX9_lets_X9_isLet
theorem dX9_lets_0 : decode cX9_lets 0 = .ok (.aload_n 0, 1) := by decide +kernel
theorem dX9_lets_1 : decode cX9_lets 1 = .ok (.iload_n 1, 1) := by decide +kernel
theorem dX9_lets_2 : decode cX9_lets 2 = .ok (.invokevirtual 153, 3) := by decide +kernel
theorem dX9_lets_5 : decode cX9_lets 5 = .ok (.ifCond .eq 8, 3) := by decide +kernel
theorem dX9_lets_8 : decode cX9_lets 8 = .ok (.iload_n 2, 1) := by decide +kernel
theorem dX9_lets_9 : decode cX9_lets 9 = .ok (.iconst (-1), 1) := by decide +kernel
theorem dX9_lets_10 : decode cX9_lets 10 = .ok (.if_icmp .ge 5, 3) := by decide +kernel
theorem dX9_lets_13 : decode cX9_lets 13 = .ok (.iconst (-1), 1) := by decide +kernel
theorem dX9_lets_14 : decode cX9_lets 14 = .ok (.ireturn, 1) := by decide +kernel
theorem dX9_lets_15 : decode cX9_lets 15 = .ok (.iconst 0, 1) := by decide +kernel
theorem dX9_lets_16 : decode cX9_lets 16 = .ok (.istore_n 3, 1) := by decide +kernel
theorem dX9_lets_17 : decode cX9_lets 17 = .ok (.iconst 0, 1) := by decide +kernel
theorem dX9_lets_18 : decode cX9_lets 18 = .ok (.istore 4, 2) := by decide +kernel
theorem dX9_lets_20 : decode cX9_lets 20 = .ok (.iload 4, 2) := by decide +kernel
theorem dX9_lets_22 : decode cX9_lets 22 = .ok (.sipush 289, 3) := by decide +kernel
theorem dX9_lets_25 : decode cX9_lets 25 = .ok (.if_icmp .ge 44, 3) := by decide +kernel
theorem dX9_lets_28 : decode cX9_lets 28 = .ok (.aload_n 0, 1) := by decide +kernel
theorem dX9_lets_29 : decode cX9_lets 29 = .ok (.iload_n 1, 1) := by decide +kernel
theorem dX9_lets_30 : decode cX9_lets 30 = .ok (.iload 4, 2) := by decide +kernel
theorem dX9_lets_32 : decode cX9_lets 32 = .ok (.invokevirtual 150, 3) := by decide +kernel
theorem dX9_lets_35 : decode cX9_lets 35 = .ok (.istore 5, 2) := by decide +kernel
theorem dX9_lets_37 : decode cX9_lets 37 = .ok (.iload 5, 2) := by decide +kernel
theorem dX9_lets_39 : decode cX9_lets 39 = .ok (.ifCond .eq 11, 3) := by decide +kernel
theorem dX9_lets_42 : decode cX9_lets 42 = .ok (.iload_n 3, 1) := by decide +kernel
theorem dX9_lets_43 : decode cX9_lets 43 = .ok (.iload_n 2, 1) := by decide +kernel
theorem dX9_lets_44 : decode cX9_lets 44 = .ok (.if_icmp .ne 6, 3) := by decide +kernel
theorem dX9_lets_47 : decode cX9_lets 47 = .ok (.iload 4, 2) := by decide +kernel
theorem dX9_lets_49 : decode cX9_lets 49 = .ok (.ireturn, 1) := by decide +kernel
theorem dX9_lets_50 : decode cX9_lets 50 = .ok (.iload_n 3, 1) := by decide +kernel
theorem dX9_lets_51 : decode cX9_lets 51 = .ok (.iload 5, 2) := by decide +kernel
theorem dX9_lets_53 : decode cX9_lets 53 = .ok (.ifCond .eq 7, 3) := by decide +kernel
theorem dX9_lets_56 : decode cX9_lets 56 = .ok (.iconst 1, 1) := by decide +kernel
theorem dX9_lets_57 : decode cX9_lets 57 = .ok (.goto 4, 3) := by decide +kernel
theorem dX9_lets_60 : decode cX9_lets 60 = .ok (.iconst 0, 1) := by decide +kernel
theorem dX9_lets_61 : decode cX9_lets 61 = .ok (.iadd, 1) := by decide +kernel
theorem dX9_lets_62 : decode cX9_lets 62 = .ok (.istore_n 3, 1) := by decide +kernel
theorem dX9_lets_63 : decode cX9_lets 63 = .ok (.iinc 4 1, 3) := by decide +kernel
theorem dX9_lets_66 : decode cX9_lets 66 = .ok (.goto (-46), 3) := by decide +kernel
theorem dX9_lets_69 : decode cX9_lets 69 = .ok (.iload_n 2, 1) := by decide +kernel
theorem dX9_lets_70 : decode cX9_lets 70 = .ok (.ifCond .ge 7, 3) := by decide +kernel
theorem dX9_lets_73 : decode cX9_lets 73 = .ok (.iload_n 3, 1) := by decide +kernel
theorem dX9_lets_74 : decode cX9_lets 74 = .ok (.goto 5, 3) := by decide +kernel
theorem dX9_lets_77 : decode cX9_lets 77 = .ok (.bipush (-4), 2) := by decide +kernel
theorem dX9_lets_79 : decode cX9_lets 79 = .ok (.ireturn, 1) := by decide +kernel
theorem dX9_count_0 : decode cX9_count 0 = .ok (.iconst 0, 1) := by decide +kernel
theorem dX9_count_1 : decode cX9_count 1 = .ok (.istore_n 2, 1) := by decide +kernel
theorem dX9_count_2 : decode cX9_count 2 = .ok (.iconst 0, 1) := by decide +kernel
theorem dX9_count_3 : decode cX9_count 3 = .ok (.istore_n 3, 1) := by decide +kernel
theorem dX9_count_4 : decode cX9_count 4 = .ok (.iload_n 3, 1) := by decide +kernel
theorem dX9_count_5 : decode cX9_count 5 = .ok (.aload_n 0, 1) := by decide +kernel
theorem dX9_count_6 : decode cX9_count 6 = .ok (.getfield 62, 3) := by decide +kernel
theorem dX9_count_9 : decode cX9_count 9 = .ok (.if_icmp .ge 26, 3) := by decide +kernel
theorem dX9_count_12 : decode cX9_count 12 = .ok (.iload_n 2, 1) := by decide +kernel
theorem dX9_count_13 : decode cX9_count 13 = .ok (.aload_n 0, 1) := by decide +kernel
theorem dX9_count_14 : decode cX9_count 14 = .ok (.getfield 19, 3) := by decide +kernel
theorem dX9_count_17 : decode cX9_count 17 = .ok (.iload_n 3, 1) := by decide +kernel
theorem dX9_count_18 : decode cX9_count 18 = .ok (.baload, 1) := by decide +kernel
theorem dX9_count_19 : decode cX9_count 19 = .ok (.ifCond .eq 7, 3) := by decide +kernel
theorem dX9_count_22 : decode cX9_count 22 = .ok (.iconst 1, 1) := by decide +kernel
theorem dX9_count_23 : decode cX9_count 23 = .ok (.goto 4, 3) := by decide +kernel
theorem dX9_count_26 : decode cX9_count 26 = .ok (.iconst 0, 1) := by decide +kernel
theorem dX9_count_27 : decode cX9_count 27 = .ok (.iadd, 1) := by decide +kernel
theorem dX9_count_28 : decode cX9_count 28 = .ok (.istore_n 2, 1) := by decide +kernel
theorem dX9_count_29 : decode cX9_count 29 = .ok (.iinc 3 1, 3) := by decide +kernel
theorem dX9_count_32 : decode cX9_count 32 = .ok (.goto (-28), 3) := by decide +kernel
theorem dX9_count_35 : decode cX9_count 35 = .ok (.iload_n 1, 1) := by decide +kernel
theorem dX9_count_36 : decode cX9_count 36 = .ok (.tableswitch 58 0 4 #[36, 41, 43, 48, 53], 36) := by decide +kernel
theorem dX9_count_72 : decode cX9_count 72 = .ok (.aload_n 0, 1) := by decide +kernel
theorem dX9_count_73 : decode cX9_count 73 = .ok (.getfield 62, 3) := by decide +kernel
theorem dX9_count_76 : decode cX9_count 76 = .ok (.ireturn, 1) := by decide +kernel
theorem dX9_count_77 : decode cX9_count 77 = .ok (.iload_n 2, 1) := by decide +kernel
theorem dX9_count_78 : decode cX9_count 78 = .ok (.ireturn, 1) := by decide +kernel
theorem dX9_count_79 : decode cX9_count 79 = .ok (.aload_n 0, 1) := by decide +kernel
theorem dX9_count_80 : decode cX9_count 80 = .ok (.getfield 156, 3) := by decide +kernel
theorem dX9_count_83 : decode cX9_count 83 = .ok (.ireturn, 1) := by decide +kernel
theorem dX9_count_84 : decode cX9_count 84 = .ok (.aload_n 0, 1) := by decide +kernel
theorem dX9_count_85 : decode cX9_count 85 = .ok (.getfield 159, 3) := by decide +kernel
theorem dX9_count_88 : decode cX9_count 88 = .ok (.ireturn, 1) := by decide +kernel
theorem dX9_count_89 : decode cX9_count 89 = .ok (.aload_n 0, 1) := by decide +kernel
theorem dX9_count_90 : decode cX9_count 90 = .ok (.getfield 162, 3) := by decide +kernel
