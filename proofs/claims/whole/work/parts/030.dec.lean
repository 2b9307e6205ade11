theorem dX0_init_0 : decode cX0_init 0 = .ok (.aload_n 0, 1) := by decide +kernel
theorem dX0_init_1 : decode cX0_init 1 = .ok (.invokespecial 3, 3) := by decide +kernel
theorem dX0_init_4 : decode cX0_init 4 = .ok (.aload_n 0, 1) := by decide +kernel
theorem dX0_init_5 : decode cX0_init 5 = .ok (.bipush 12, 2) := by decide +kernel
theorem dX0_init_7 : decode cX0_init 7 = .ok (.newarray .int, 2) := by decide +kernel
theorem dX0_init_9 : decode cX0_init 9 = .ok (.putfield 9, 3) := by decide +kernel
theorem dX0_init_12 : decode cX0_init 12 = .ok (.aload_n 0, 1) := by decide +kernel
theorem dX0_init_13 : decode cX0_init 13 = .ok (.bipush 12, 2) := by decide +kernel
theorem dX0_init_15 : decode cX0_init 15 = .ok (.newarray .int, 2) := by decide +kernel
theorem dX0_init_17 : decode cX0_init 17 = .ok (.putfield 15, 3) := by decide +kernel
theorem dX0_init_20 : decode cX0_init 20 = .ok (.aload_n 0, 1) := by decide +kernel
theorem dX0_init_21 : decode cX0_init 21 = .ok (.bipush 12, 2) := by decide +kernel
theorem dX0_init_23 : decode cX0_init 23 = .ok (.newarray .int, 2) := by decide +kernel
theorem dX0_init_25 : decode cX0_init 25 = .ok (.putfield 18, 3) := by decide +kernel
theorem dX0_init_28 : decode cX0_init 28 = .ok (.aload_n 0, 1) := by decide +kernel
theorem dX0_init_29 : decode cX0_init 29 = .ok (.sipush 289, 3) := by decide +kernel
theorem dX0_init_32 : decode cX0_init 32 = .ok (.newarray .int, 2) := by decide +kernel
theorem dX0_init_34 : decode cX0_init 34 = .ok (.putfield 21, 3) := by decide +kernel
theorem dX0_init_37 : decode cX0_init 37 = .ok (.aload_n 0, 1) := by decide +kernel
theorem dX0_init_38 : decode cX0_init 38 = .ok (.iconst 0, 1) := by decide +kernel
theorem dX0_init_39 : decode cX0_init 39 = .ok (.putfield 24, 3) := by decide +kernel
theorem dX0_init_42 : decode cX0_init 42 = .ok (.aload_n 0, 1) := by decide +kernel
theorem dX0_init_43 : decode cX0_init 43 = .ok (.iconst 0, 1) := by decide +kernel
theorem dX0_init_44 : decode cX0_init 44 = .ok (.putfield 28, 3) := by decide +kernel
theorem dX0_init_47 : decode cX0_init 47 = .ok (.aload_n 0, 1) := by decide +kernel
theorem dX0_init_48 : decode cX0_init 48 = .ok (.iconst 1, 1) := by decide +kernel
theorem dX0_init_49 : decode cX0_init 49 = .ok (.putfield 31, 3) := by decide +kernel
theorem dX0_init_52 : decode cX0_init 52 = .ok (.return_, 1) := by decide +kernel
set_option maxRecDepth 20000 in
theorem ggX0_add_X0_enter : GoodIn wsX0_add wsX0_enter := goodIn_r _ [10, 11, 2, 3, 4, 12, 13, 14, 15, 9, 16, 1, 17, 18, 19, 20, 5, 21, 22, 23, 24, 25, 26, 27, 28, 29, 30, 31, 32, 33, 34, 35, 36, 37, 38, 39, 40, 41, 42, 43, 44] (by decide +kernel) (by decide +kernel)
set_option maxRecDepth 20000 in
theorem gX0_add_X0_enter : GoodIn wsX0_add (wsV RX0 34 RX0 yX0_enter wsX0_enter) := goodIn_app (goodIn_of _ (by decide +kernel)) ggX0_add_X0_enter
theorem dX0_add_0 : decode cX0_add 0 = .ok (.aload_n 0, 1) := by decide +kernel
theorem dX0_add_1 : decode cX0_add 1 = .ok (.getfield 24, 3) := by decide +kernel
theorem dX0_add_4 : decode cX0_add 4 = .ok (.istore 5, 2) := by decide +kernel
theorem dX0_add_6 : decode cX0_add 6 = .ok (.iload 5, 2) := by decide +kernel
theorem dX0_add_8 : decode cX0_add 8 = .ok (.ifCond .lt 10, 3) := by decide +kernel
theorem dX0_add_11 : decode cX0_add 11 = .ok (.iload 5, 2) := by decide +kernel
theorem dX0_add_13 : decode cX0_add 13 = .ok (.bipush 12, 2) := by decide +kernel
theorem dX0_add_15 : decode cX0_add 15 = .ok (.if_icmp .lt 6, 3) := by decide +kernel
theorem dX0_add_18 : decode cX0_add 18 = .ok (.bipush (-3), 2) := by decide +kernel
theorem dX0_add_20 : decode cX0_add 20 = .ok (.ireturn, 1) := by decide +kernel
theorem dX0_add_21 : decode cX0_add 21 = .ok (.aload_n 0, 1) := by decide +kernel
theorem dX0_add_22 : decode cX0_add 22 = .ok (.getfield 9, 3) := by decide +kernel
theorem dX0_add_25 : decode cX0_add 25 = .ok (.iload 5, 2) := by decide +kernel
theorem dX0_add_27 : decode cX0_add 27 = .ok (.iload_n 1, 1) := by decide +kernel
theorem dX0_add_28 : decode cX0_add 28 = .ok (.iastore, 1) := by decide +kernel
theorem dX0_add_29 : decode cX0_add 29 = .ok (.aload_n 0, 1) := by decide +kernel
theorem dX0_add_30 : decode cX0_add 30 = .ok (.getfield 15, 3) := by decide +kernel
theorem dX0_add_33 : decode cX0_add 33 = .ok (.iload 5, 2) := by decide +kernel
theorem dX0_add_35 : decode cX0_add 35 = .ok (.iload_n 2, 1) := by decide +kernel
theorem dX0_add_36 : decode cX0_add 36 = .ok (.iastore, 1) := by decide +kernel
theorem dX0_add_37 : decode cX0_add 37 = .ok (.aload_n 0, 1) := by decide +kernel
theorem dX0_add_38 : decode cX0_add 38 = .ok (.getfield 18, 3) := by decide +kernel
theorem dX0_add_41 : decode cX0_add 41 = .ok (.iload 5, 2) := by decide +kernel
theorem dX0_add_43 : decode cX0_add 43 = .ok (.iload_n 3, 1) := by decide +kernel
theorem dX0_add_44 : decode cX0_add 44 = .ok (.iastore, 1) := by decide +kernel
theorem dX0_add_45 : decode cX0_add 45 = .ok (.iload 4, 2) := by decide +kernel
theorem dX0_add_47 : decode cX0_add 47 = .ok (.ifCond .eq 16, 3) := by decide +kernel
theorem dX0_add_50 : decode cX0_add 50 = .ok (.aload_n 0, 1) := by decide +kernel
theorem dX0_add_51 : decode cX0_add 51 = .ok (.dup, 1) := by decide +kernel
theorem dX0_add_52 : decode cX0_add 52 = .ok (.getfield 28, 3) := by decide +kernel
theorem dX0_add_55 : decode cX0_add 55 = .ok (.iconst 1, 1) := by decide +kernel
theorem dX0_add_56 : decode cX0_add 56 = .ok (.iload 5, 2) := by decide +kernel
theorem dX0_add_58 : decode cX0_add 58 = .ok (.ishl, 1) := by decide +kernel
theorem dX0_add_59 : decode cX0_add 59 = .ok (.ior, 1) := by decide +kernel
theorem dX0_add_60 : decode cX0_add 60 = .ok (.putfield 28, 3) := by decide +kernel
theorem dX0_add_63 : decode cX0_add 63 = .ok (.aload_n 0, 1) := by decide +kernel
theorem dX0_add_64 : decode cX0_add 64 = .ok (.dup, 1) := by decide +kernel
theorem dX0_add_65 : decode cX0_add 65 = .ok (.getfield 24, 3) := by decide +kernel
theorem dX0_add_68 : decode cX0_add 68 = .ok (.iconst 1, 1) := by decide +kernel
theorem dX0_add_69 : decode cX0_add 69 = .ok (.iadd, 1) := by decide +kernel
theorem dX0_add_70 : decode cX0_add 70 = .ok (.putfield 24, 3) := by decide +kernel
theorem dX0_add_73 : decode cX0_add 73 = .ok (.aload_n 0, 1) := by decide +kernel
theorem dX0_add_74 : decode cX0_add 74 = .ok (.iload 5, 2) := by decide +kernel
theorem dX0_add_76 : decode cX0_add 76 = .ok (.invokevirtual 34, 3) := by decide +kernel
theorem dX0_add_79 : decode cX0_add 79 = .ok (.iload 5, 2) := by decide +kernel
theorem dX0_add_81 : decode cX0_add 81 = .ok (.ireturn, 1) := by decide +kernel
set_option maxRecDepth 20000 in
theorem ggX0_empty_J7_fill_53178 : GoodIn wsX0_empty wsJ7_fill_53178 := goodIn_r _ [7] (by decide +kernel) (by decide +kernel)
set_option maxRecDepth 20000 in
theorem gX0_empty_J7_fill_53178 : GoodIn wsX0_empty (va_wsS RX0 38 yJ7_fill_53178 wsJ7_fill_53178) := goodIn_app (goodIn_of _ (by decide +kernel)) ggX0_empty_J7_fill_53178
theorem dX0_empty_0 : decode cX0_empty 0 = .ok (.aload_n 0, 1) := by decide +kernel
theorem dX0_empty_1 : decode cX0_empty 1 = .ok (.getfield 24, 3) := by decide +kernel
theorem dX0_empty_4 : decode cX0_empty 4 = .ok (.istore_n 1, 1) := by decide +kernel
theorem dX0_empty_5 : decode cX0_empty 5 = .ok (.aload_n 0, 1) := by decide +kernel
theorem dX0_empty_6 : decode cX0_empty 6 = .ok (.iconst 0, 1) := by decide +kernel
theorem dX0_empty_7 : decode cX0_empty 7 = .ok (.putfield 24, 3) := by decide +kernel
theorem dX0_empty_10 : decode cX0_empty 10 = .ok (.aload_n 0, 1) := by decide +kernel
theorem dX0_empty_11 : decode cX0_empty 11 = .ok (.iconst 0, 1) := by decide +kernel
theorem dX0_empty_12 : decode cX0_empty 12 = .ok (.putfield 28, 3) := by decide +kernel
theorem dX0_empty_15 : decode cX0_empty 15 = .ok (.aload_n 0, 1) := by decide +kernel
theorem dX0_empty_16 : decode cX0_empty 16 = .ok (.getfield 21, 3) := by decide +kernel
theorem dX0_empty_19 : decode cX0_empty 19 = .ok (.iconst 0, 1) := by decide +kernel
theorem dX0_empty_20 : decode cX0_empty 20 = .ok (.invokestatic 38, 3) := by decide +kernel
theorem dX0_empty_23 : decode cX0_empty 23 = .ok (.iload_n 1, 1) := by decide +kernel
theorem dX0_empty_24 : decode cX0_empty 24 = .ok (.ireturn, 1) := by decide +kernel
set_option maxRecDepth 20000 in
theorem ggX0_takeError_J7_fill_53178 : GoodIn wsX0_takeError wsJ7_fill_53178 := goodIn_r _ [7] (by decide +kernel) (by decide +kernel)
set_option maxRecDepth 20000 in
theorem gX0_takeError_J7_fill_53178 : GoodIn wsX0_takeError (va_wsS RX0 38 yJ7_fill_53178 wsJ7_fill_53178) := goodIn_app (goodIn_of _ (by decide +kernel)) ggX0_takeError_J7_fill_53178
set_option maxRecDepth 20000 in
theorem ggX0_takeError_X0_enter : GoodIn wsX0_takeError wsX0_enter := goodIn_r _ [12, 2, 13, 14, 15, 1, 16, 17, 18, 11, 19, 3, 20, 21, 22, 23, 24, 25, 26, 27, 28, 29, 30, 31, 32, 33, 34, 35, 36, 37, 38, 39, 40, 41, 42, 43, 44, 45, 46, 47, 48] (by decide +kernel) (by decide +kernel)
set_option maxRecDepth 20000 in
theorem gX0_takeError_X0_enter : GoodIn wsX0_takeError (wsV RX0 34 RX0 yX0_enter wsX0_enter) := goodIn_app (goodIn_of _ (by decide +kernel)) ggX0_takeError_X0_enter
theorem dX0_takeError_0 : decode cX0_takeError 0 = .ok (.aload_n 0, 1) := by decide +kernel
theorem dX0_takeError_1 : decode cX0_takeError 1 = .ok (.iload_n 1, 1) := by decide +kernel
theorem dX0_takeError_2 : decode cX0_takeError 2 = .ok (.putfield 31, 3) := by decide +kernel
theorem dX0_takeError_5 : decode cX0_takeError 5 = .ok (.aload_n 0, 1) := by decide +kernel
theorem dX0_takeError_6 : decode cX0_takeError 6 = .ok (.getfield 21, 3) := by decide +kernel
theorem dX0_takeError_9 : decode cX0_takeError 9 = .ok (.iconst 0, 1) := by decide +kernel
theorem dX0_takeError_10 : decode cX0_takeError 10 = .ok (.invokestatic 38, 3) := by decide +kernel
theorem dX0_takeError_13 : decode cX0_takeError 13 = .ok (.iconst 0, 1) := by decide +kernel
theorem dX0_takeError_14 : decode cX0_takeError 14 = .ok (.istore_n 2, 1) := by decide +kernel
theorem dX0_takeError_15 : decode cX0_takeError 15 = .ok (.iload_n 2, 1) := by decide +kernel
theorem dX0_takeError_16 : decode cX0_takeError 16 = .ok (.aload_n 0, 1) := by decide +kernel
theorem dX0_takeError_17 : decode cX0_takeError 17 = .ok (.getfield 24, 3) := by decide +kernel
theorem dX0_takeError_20 : decode cX0_takeError 20 = .ok (.if_icmp .ge 14, 3) := by decide +kernel
theorem dX0_takeError_23 : decode cX0_takeError 23 = .ok (.aload_n 0, 1) := by decide +kernel
theorem dX0_takeError_24 : decode cX0_takeError 24 = .ok (.iload_n 2, 1) := by decide +kernel
theorem dX0_takeError_25 : decode cX0_takeError 25 = .ok (.invokevirtual 34, 3) := by decide +kernel
theorem dX0_takeError_28 : decode cX0_takeError 28 = .ok (.iinc 2 1, 3) := by decide +kernel
theorem dX0_takeError_31 : decode cX0_takeError 31 = .ok (.goto (-16), 3) := by decide +kernel
theorem dX0_takeError_34 : decode cX0_takeError 34 = .ok (.return_, 1) := by decide +kernel
set_option maxRecDepth 20000 in
theorem ggX0_enter_X0_has : GoodIn wsX0_enter wsX0_has := goodIn_r _ [10, 11, 34, 35, 36, 37, 38, 39, 40] (by decide +kernel) (by decide +kernel)
set_option maxRecDepth 20000 in
theorem gX0_enter_X0_has : GoodIn wsX0_enter (wsV RX0 44 RX0 yX0_has wsX0_has) := goodIn_app (goodIn_of _ (by decide +kernel)) ggX0_enter_X0_has
set_option maxRecDepth 20000 in
theorem ggX0_enter_X0_isGap : GoodIn wsX0_enter wsX0_isGap := goodIn_r _ [15, 16, 6, 7, 8, 9, 10, 11, 34, 35, 36, 37, 38, 39, 40] (by decide +kernel) (by decide +kernel)
set_option maxRecDepth 20000 in
theorem gX0_enter_X0_isGap : GoodIn wsX0_enter (wsV RX0 48 RX0 yX0_isGap wsX0_isGap) := goodIn_app (goodIn_of _ (by decide +kernel)) ggX0_enter_X0_isGap
set_option maxRecDepth 20000 in
theorem ggX0_enter_X3_sum : GoodIn wsX0_enter wsX3_sum := goodIn_r _ [20, 21, 22, 19, 23, 24, 25, 26] (by decide +kernel) (by decide +kernel)
set_option maxRecDepth 20000 in
theorem gX0_enter_X3_sum : GoodIn wsX0_enter (va_wsS RX0 51 yX3_sum wsX3_sum) := goodIn_app (goodIn_of _ (by decide +kernel)) ggX0_enter_X3_sum
set_option maxRecDepth 20000 in
theorem ggX0_enter_X3_isMet : GoodIn wsX0_enter wsX3_isMet := goodIn_r _ [29, 30, 31, 32, 33] (by decide +kernel) (by decide +kernel)
set_option maxRecDepth 20000 in
theorem gX0_enter_X3_isMet : GoodIn wsX0_enter (va_wsS RX0 57 yX3_isMet wsX3_isMet) := goodIn_app (goodIn_of _ (by decide +kernel)) ggX0_enter_X3_isMet
theorem dX0_enter_0 : decode cX0_enter 0 = .ok (.aload_n 0, 1) := by decide +kernel
theorem dX0_enter_1 : decode cX0_enter 1 = .ok (.iload_n 1, 1) := by decide +kernel
theorem dX0_enter_2 : decode cX0_enter 2 = .ok (.invokevirtual 44, 3) := by decide +kernel
theorem dX0_enter_5 : decode cX0_enter 5 = .ok (.ifCond .ne 4, 3) := by decide +kernel
theorem dX0_enter_8 : decode cX0_enter 8 = .ok (.return_, 1) := by decide +kernel
theorem dX0_enter_9 : decode cX0_enter 9 = .ok (.iconst 0, 1) := by decide +kernel
theorem dX0_enter_10 : decode cX0_enter 10 = .ok (.istore_n 2, 1) := by decide +kernel
theorem dX0_enter_11 : decode cX0_enter 11 = .ok (.iload_n 2, 1) := by decide +kernel
theorem dX0_enter_12 : decode cX0_enter 12 = .ok (.aload_n 0, 1) := by decide +kernel
theorem dX0_enter_13 : decode cX0_enter 13 = .ok (.getfield 21, 3) := by decide +kernel
theorem dX0_enter_16 : decode cX0_enter 16 = .ok (.arraylength, 1) := by decide +kernel
theorem dX0_enter_17 : decode cX0_enter 17 = .ok (.if_icmp .ge 61, 3) := by decide +kernel
theorem dX0_enter_20 : decode cX0_enter 20 = .ok (.aload_n 0, 1) := by decide +kernel
theorem dX0_enter_21 : decode cX0_enter 21 = .ok (.iload_n 1, 1) := by decide +kernel
theorem dX0_enter_22 : decode cX0_enter 22 = .ok (.invokevirtual 48, 3) := by decide +kernel
theorem dX0_enter_25 : decode cX0_enter 25 = .ok (.ifCond .ne 35, 3) := by decide +kernel
theorem dX0_enter_28 : decode cX0_enter 28 = .ok (.iload_n 2, 1) := by decide +kernel
theorem dX0_enter_29 : decode cX0_enter 29 = .ok (.aload_n 0, 1) := by decide +kernel
theorem dX0_enter_30 : decode cX0_enter 30 = .ok (.getfield 9, 3) := by decide +kernel
theorem dX0_enter_33 : decode cX0_enter 33 = .ok (.iload_n 1, 1) := by decide +kernel
theorem dX0_enter_34 : decode cX0_enter 34 = .ok (.iaload, 1) := by decide +kernel
theorem dX0_enter_35 : decode cX0_enter 35 = .ok (.aload_n 0, 1) := by decide +kernel
theorem dX0_enter_36 : decode cX0_enter 36 = .ok (.getfield 15, 3) := by decide +kernel
theorem dX0_enter_39 : decode cX0_enter 39 = .ok (.iload_n 1, 1) := by decide +kernel
theorem dX0_enter_40 : decode cX0_enter 40 = .ok (.iaload, 1) := by decide +kernel
theorem dX0_enter_41 : decode cX0_enter 41 = .ok (.invokestatic 51, 3) := by decide +kernel
theorem dX0_enter_44 : decode cX0_enter 44 = .ok (.aload_n 0, 1) := by decide +kernel
theorem dX0_enter_45 : decode cX0_enter 45 = .ok (.getfield 18, 3) := by decide +kernel
theorem dX0_enter_48 : decode cX0_enter 48 = .ok (.iload_n 1, 1) := by decide +kernel
theorem dX0_enter_49 : decode cX0_enter 49 = .ok (.iaload, 1) := by decide +kernel
theorem dX0_enter_50 : decode cX0_enter 50 = .ok (.aload_n 0, 1) := by decide +kernel
theorem dX0_enter_51 : decode cX0_enter 51 = .ok (.getfield 31, 3) := by decide +kernel
theorem dX0_enter_54 : decode cX0_enter 54 = .ok (.invokestatic 57, 3) := by decide +kernel
theorem dX0_enter_57 : decode cX0_enter 57 = .ok (.ifCond .eq 15, 3) := by decide +kernel
theorem dX0_enter_60 : decode cX0_enter 60 = .ok (.aload_n 0, 1) := by decide +kernel
theorem dX0_enter_61 : decode cX0_enter 61 = .ok (.getfield 21, 3) := by decide +kernel
theorem dX0_enter_64 : decode cX0_enter 64 = .ok (.iload_n 2, 1) := by decide +kernel
theorem dX0_enter_65 : decode cX0_enter 65 = .ok (.dup2, 1) := by decide +kernel
theorem dX0_enter_66 : decode cX0_enter 66 = .ok (.iaload, 1) := by decide +kernel
theorem dX0_enter_67 : decode cX0_enter 67 = .ok (.iconst 1, 1) := by decide +kernel
theorem dX0_enter_68 : decode cX0_enter 68 = .ok (.iload_n 1, 1) := by decide +kernel
theorem dX0_enter_69 : decode cX0_enter 69 = .ok (.ishl, 1) := by decide +kernel
theorem dX0_enter_70 : decode cX0_enter 70 = .ok (.ior, 1) := by decide +kernel
theorem dX0_enter_71 : decode cX0_enter 71 = .ok (.iastore, 1) := by decide +kernel
theorem dX0_enter_72 : decode cX0_enter 72 = .ok (.iinc 2 1, 3) := by decide +kernel
theorem dX0_enter_75 : decode cX0_enter 75 = .ok (.goto (-64), 3) := by decide +kernel
theorem dX0_enter_78 : decode cX0_enter 78 = .ok (.return_, 1) := by decide +kernel
theorem dX0_size_0 : decode cX0_size 0 = .ok (.aload_n 0, 1) := by decide +kernel
theorem dX0_size_1 : decode cX0_size 1 = .ok (.getfield 24, 3) := by decide +kernel
theorem dX0_size_4 : decode cX0_size 4 = .ok (.ireturn, 1) := by decide +kernel
theorem dX0_room_0 : decode cX0_room 0 = .ok (.bipush 12, 2) := by decide +kernel
theorem dX0_room_2 : decode cX0_room 2 = .ok (.aload_n 0, 1) := by decide +kernel
theorem dX0_room_3 : decode cX0_room 3 = .ok (.getfield 24, 3) := by decide +kernel
theorem dX0_room_6 : decode cX0_room 6 = .ok (.isub, 1) := by decide +kernel
theorem dX0_room_7 : decode cX0_room 7 = .ok (.ireturn, 1) := by decide +kernel
theorem dX0_errorNow_0 : decode cX0_errorNow 0 = .ok (.aload_n 0, 1) := by decide +kernel
theorem dX0_errorNow_1 : decode cX0_errorNow 1 = .ok (.getfield 31, 3) := by decide +kernel
theorem dX0_errorNow_4 : decode cX0_errorNow 4 = .ok (.ireturn, 1) := by decide +kernel
set_option maxRecDepth 20000 in
theorem ggX0_gapCount_J6_bitCount_0f7a4 : GoodIn wsX0_gapCount wsJ6_bitCount_0f7a4 := goodIn_r _ [5, 6, 7, 8] (by decide +kernel) (by decide +kernel)
set_option maxRecDepth 20000 in
theorem gX0_gapCount_J6_bitCount_0f7a4 : GoodIn wsX0_gapCount (va_wsS RX0 61 yJ6_bitCount_0f7a4 wsJ6_bitCount_0f7a4) := goodIn_app (goodIn_of _ (by decide +kernel)) ggX0_gapCount_J6_bitCount_0f7a4
theorem dX0_gapCount_0 : decode cX0_gapCount 0 = .ok (.aload_n 0, 1) := by decide +kernel
theorem dX0_gapCount_1 : decode cX0_gapCount 1 = .ok (.getfield 28, 3) := by decide +kernel
theorem dX0_gapCount_4 : decode cX0_gapCount 4 = .ok (.invokestatic 61, 3) := by decide +kernel
theorem dX0_gapCount_7 : decode cX0_gapCount 7 = .ok (.ireturn, 1) := by decide +kernel
theorem dX0_has_0 : decode cX0_has 0 = .ok (.iload_n 1, 1) := by decide +kernel
theorem dX0_has_1 : decode cX0_has 1 = .ok (.ifCond .lt 21, 3) := by decide +kernel
theorem dX0_has_4 : decode cX0_has 4 = .ok (.iload_n 1, 1) := by decide +kernel
theorem dX0_has_5 : decode cX0_has 5 = .ok (.aload_n 0, 1) := by decide +kernel
theorem dX0_has_6 : decode cX0_has 6 = .ok (.getfield 24, 3) := by decide +kernel
theorem dX0_has_9 : decode cX0_has 9 = .ok (.if_icmp .ge 13, 3) := by decide +kernel
theorem dX0_has_12 : decode cX0_has 12 = .ok (.iload_n 1, 1) := by decide +kernel
theorem dX0_has_13 : decode cX0_has 13 = .ok (.bipush 12, 2) := by decide +kernel
theorem dX0_has_15 : decode cX0_has 15 = .ok (.if_icmp .ge 7, 3) := by decide +kernel
theorem dX0_has_18 : decode cX0_has 18 = .ok (.iconst 1, 1) := by decide +kernel
theorem dX0_has_19 : decode cX0_has 19 = .ok (.goto 4, 3) := by decide +kernel
theorem dX0_has_22 : decode cX0_has 22 = .ok (.iconst 0, 1) := by decide +kernel
theorem dX0_has_23 : decode cX0_has 23 = .ok (.ireturn, 1) := by decide +kernel
set_option maxRecDepth 20000 in
theorem ggX0_state_X0_has : GoodIn wsX0_state wsX0_has := goodIn_r _ [6, 7, 8, 9, 10, 11, 12, 13, 14] (by decide +kernel) (by decide +kernel)
set_option maxRecDepth 20000 in
theorem gX0_state_X0_has : GoodIn wsX0_state (wsV RX0 44 RX0 yX0_has wsX0_has) := goodIn_app (goodIn_of _ (by decide +kernel)) ggX0_state_X0_has
theorem dX0_state_0 : decode cX0_state 0 = .ok (.aload_n 0, 1) := by decide +kernel
theorem dX0_state_1 : decode cX0_state 1 = .ok (.iload_n 1, 1) := by decide +kernel
theorem dX0_state_2 : decode cX0_state 2 = .ok (.invokevirtual 44, 3) := by decide +kernel
theorem dX0_state_5 : decode cX0_state 5 = .ok (.ifCond .eq 12, 3) := by decide +kernel
theorem dX0_state_8 : decode cX0_state 8 = .ok (.aload_n 0, 1) := by decide +kernel
theorem dX0_state_9 : decode cX0_state 9 = .ok (.getfield 9, 3) := by decide +kernel
theorem dX0_state_12 : decode cX0_state 12 = .ok (.iload_n 1, 1) := by decide +kernel
theorem dX0_state_13 : decode cX0_state 13 = .ok (.iaload, 1) := by decide +kernel
theorem dX0_state_14 : decode cX0_state 14 = .ok (.goto 4, 3) := by decide +kernel
theorem dX0_state_17 : decode cX0_state 17 = .ok (.iconst 0, 1) := by decide +kernel
theorem dX0_state_18 : decode cX0_state 18 = .ok (.ireturn, 1) := by decide +kernel
set_option maxRecDepth 20000 in
theorem ggX0_push_X0_has : GoodIn wsX0_push wsX0_has := goodIn_r _ [6, 7, 8, 9, 10, 11, 12, 13, 14] (by decide +kernel) (by decide +kernel)
set_option maxRecDepth 20000 in
theorem gX0_push_X0_has : GoodIn wsX0_push (wsV RX0 44 RX0 yX0_has wsX0_has) := goodIn_app (goodIn_of _ (by decide +kernel)) ggX0_push_X0_has
theorem dX0_push_0 : decode cX0_push 0 = .ok (.aload_n 0, 1) := by decide +kernel
theorem dX0_push_1 : decode cX0_push 1 = .ok (.iload_n 1, 1) := by decide +kernel
theorem dX0_push_2 : decode cX0_push 2 = .ok (.invokevirtual 44, 3) := by decide +kernel
theorem dX0_push_5 : decode cX0_push 5 = .ok (.ifCond .eq 12, 3) := by decide +kernel
theorem dX0_push_8 : decode cX0_push 8 = .ok (.aload_n 0, 1) := by decide +kernel
theorem dX0_push_9 : decode cX0_push 9 = .ok (.getfield 15, 3) := by decide +kernel
theorem dX0_push_12 : decode cX0_push 12 = .ok (.iload_n 1, 1) := by decide +kernel
theorem dX0_push_13 : decode cX0_push 13 = .ok (.iaload, 1) := by decide +kernel
theorem dX0_push_14 : decode cX0_push 14 = .ok (.goto 4, 3) := by decide +kernel
theorem dX0_push_17 : decode cX0_push 17 = .ok (.iconst 0, 1) := by decide +kernel
theorem dX0_push_18 : decode cX0_push 18 = .ok (.ireturn, 1) := by decide +kernel
set_option maxRecDepth 20000 in
theorem ggX0_end_X0_has : GoodIn wsX0_end wsX0_has := goodIn_r _ [6, 7, 8, 9, 10, 11, 12, 13, 14] (by decide +kernel) (by decide +kernel)
set_option maxRecDepth 20000 in
theorem gX0_end_X0_has : GoodIn wsX0_end (wsV RX0 44 RX0 yX0_has wsX0_has) := goodIn_app (goodIn_of _ (by decide +kernel)) ggX0_end_X0_has
theorem dX0_end_0 : decode cX0_end 0 = .ok (.aload_n 0, 1) := by decide +kernel
theorem dX0_end_1 : decode cX0_end 1 = .ok (.iload_n 1, 1) := by decide +kernel
theorem dX0_end_2 : decode cX0_end 2 = .ok (.invokevirtual 44, 3) := by decide +kernel
theorem dX0_end_5 : decode cX0_end 5 = .ok (.ifCond .eq 12, 3) := by decide +kernel
theorem dX0_end_8 : decode cX0_end 8 = .ok (.aload_n 0, 1) := by decide +kernel
theorem dX0_end_9 : decode cX0_end 9 = .ok (.getfield 18, 3) := by decide +kernel
theorem dX0_end_12 : decode cX0_end 12 = .ok (.iload_n 1, 1) := by decide +kernel
theorem dX0_end_13 : decode cX0_end 13 = .ok (.iaload, 1) := by decide +kernel
theorem dX0_end_14 : decode cX0_end 14 = .ok (.goto 4, 3) := by decide +kernel
theorem dX0_end_17 : decode cX0_end 17 = .ok (.iconst 0, 1) := by decide +kernel
theorem dX0_end_18 : decode cX0_end 18 = .ok (.ireturn, 1) := by decide +kernel
set_option maxRecDepth 20000 in
theorem ggX0_isGap_X0_has : GoodIn wsX0_isGap wsX0_has := goodIn_r _ [6, 7, 8, 9, 10, 11, 12, 13, 14] (by decide +kernel) (by decide +kernel)
set_option maxRecDepth 20000 in
theorem gX0_isGap_X0_has : GoodIn wsX0_isGap (wsV RX0 44 RX0 yX0_has wsX0_has) := goodIn_app (goodIn_of _ (by decide +kernel)) ggX0_isGap_X0_has
theorem dX0_isGap_0 : decode cX0_isGap 0 = .ok (.aload_n 0, 1) := by decide +kernel
theorem dX0_isGap_1 : decode cX0_isGap 1 = .ok (.iload_n 1, 1) := by decide +kernel
theorem dX0_isGap_2 : decode cX0_isGap 2 = .ok (.invokevirtual 44, 3) := by decide +kernel
theorem dX0_isGap_5 : decode cX0_isGap 5 = .ok (.ifCond .eq 18, 3) := by decide +kernel
theorem dX0_isGap_8 : decode cX0_isGap 8 = .ok (.aload_n 0, 1) := by decide +kernel
theorem dX0_isGap_9 : decode cX0_isGap 9 = .ok (.getfield 28, 3) := by decide +kernel
theorem dX0_isGap_12 : decode cX0_isGap 12 = .ok (.iload_n 1, 1) := by decide +kernel
theorem dX0_isGap_13 : decode cX0_isGap 13 = .ok (.ishr, 1) := by decide +kernel
theorem dX0_isGap_14 : decode cX0_isGap 14 = .ok (.iconst 1, 1) := by decide +kernel
theorem dX0_isGap_15 : decode cX0_isGap 15 = .ok (.iand, 1) := by decide +kernel
theorem dX0_isGap_16 : decode cX0_isGap 16 = .ok (.ifCond .eq 7, 3) := by decide +kernel
theorem dX0_isGap_19 : decode cX0_isGap 19 = .ok (.iconst 1, 1) := by decide +kernel
theorem dX0_isGap_20 : decode cX0_isGap 20 = .ok (.goto 4, 3) := by decide +kernel
theorem dX0_isGap_23 : decode cX0_isGap 23 = .ok (.iconst 0, 1) := by decide +kernel
theorem dX0_isGap_24 : decode cX0_isGap 24 = .ok (.ireturn, 1) := by decide +kernel
theorem dX0_all_0 : decode cX0_all 0 = .ok (.iconst 1, 1) := by decide +kernel
theorem dX0_all_1 : decode cX0_all 1 = .ok (.aload_n 0, 1) := by decide +kernel
theorem dX0_all_2 : decode cX0_all 2 = .ok (.getfield 24, 3) := by decide +kernel
theorem dX0_all_5 : decode cX0_all 5 = .ok (.ishl, 1) := by decide +kernel
theorem dX0_all_6 : decode cX0_all 6 = .ok (.iconst 1, 1) := by decide +kernel
theorem dX0_all_7 : decode cX0_all 7 = .ok (.isub, 1) := by decide +kernel
theorem dX0_all_8 : decode cX0_all 8 = .ok (.ireturn, 1) := by decide +kernel
set_option maxRecDepth 20000 in
theorem ggX0_isHeap_X0_all : GoodIn wsX0_isHeap wsX0_all := goodIn_r _ [5, 6, 7, 8, 9, 10, 11, 12, 13] (by decide +kernel) (by decide +kernel)
set_option maxRecDepth 20000 in
theorem gX0_isHeap_X0_all : GoodIn wsX0_isHeap (wsV RX0 67 RX0 yX0_all wsX0_all) := goodIn_app (goodIn_of _ (by decide +kernel)) ggX0_isHeap_X0_all
theorem dX0_isHeap_0 : decode cX0_isHeap 0 = .ok (.iload_n 1, 1) := by decide +kernel
theorem dX0_isHeap_1 : decode cX0_isHeap 1 = .ok (.ifCond .lt 15, 3) := by decide +kernel
theorem dX0_isHeap_4 : decode cX0_isHeap 4 = .ok (.iload_n 1, 1) := by decide +kernel
theorem dX0_isHeap_5 : decode cX0_isHeap 5 = .ok (.aload_n 0, 1) := by decide +kernel
theorem dX0_isHeap_6 : decode cX0_isHeap 6 = .ok (.invokevirtual 67, 3) := by decide +kernel
theorem dX0_isHeap_9 : decode cX0_isHeap 9 = .ok (.if_icmp .gt 7, 3) := by decide +kernel
theorem dX0_isHeap_12 : decode cX0_isHeap 12 = .ok (.iconst 1, 1) := by decide +kernel
theorem dX0_isHeap_13 : decode cX0_isHeap 13 = .ok (.goto 4, 3) := by decide +kernel
theorem dX0_isHeap_16 : decode cX0_isHeap 16 = .ok (.iconst 0, 1) := by decide +kernel
theorem dX0_isHeap_17 : decode cX0_isHeap 17 = .ok (.ireturn, 1) := by decide +kernel
theorem dX0_rowsMeeting_0 : decode cX0_rowsMeeting 0 = .ok (.iload_n 1, 1) := by decide +kernel
theorem dX0_rowsMeeting_1 : decode cX0_rowsMeeting 1 = .ok (.ifCond .lt 21, 3) := by decide +kernel
theorem dX0_rowsMeeting_4 : decode cX0_rowsMeeting 4 = .ok (.iload_n 1, 1) := by decide +kernel
theorem dX0_rowsMeeting_5 : decode cX0_rowsMeeting 5 = .ok (.aload_n 0, 1) := by decide +kernel
theorem dX0_rowsMeeting_6 : decode cX0_rowsMeeting 6 = .ok (.getfield 21, 3) := by decide +kernel
theorem dX0_rowsMeeting_9 : decode cX0_rowsMeeting 9 = .ok (.arraylength, 1) := by decide +kernel
theorem dX0_rowsMeeting_10 : decode cX0_rowsMeeting 10 = .ok (.if_icmp .ge 12, 3) := by decide +kernel
theorem dX0_rowsMeeting_13 : decode cX0_rowsMeeting 13 = .ok (.aload_n 0, 1) := by decide +kernel
theorem dX0_rowsMeeting_14 : decode cX0_rowsMeeting 14 = .ok (.getfield 21, 3) := by decide +kernel
theorem dX0_rowsMeeting_17 : decode cX0_rowsMeeting 17 = .ok (.iload_n 1, 1) := by decide +kernel
theorem dX0_rowsMeeting_18 : decode cX0_rowsMeeting 18 = .ok (.iaload, 1) := by decide +kernel
theorem dX0_rowsMeeting_19 : decode cX0_rowsMeeting 19 = .ok (.goto 4, 3) := by decide +kernel
theorem dX0_rowsMeeting_22 : decode cX0_rowsMeeting 22 = .ok (.iconst 0, 1) := by decide +kernel
theorem dX0_rowsMeeting_23 : decode cX0_rowsMeeting 23 = .ok (.ireturn, 1) := by decide +kernel
set_option maxRecDepth 20000 in
theorem ggX0_letsLaw_X0_rowsMeeting : GoodIn wsX0_letsLaw wsX0_rowsMeeting := goodIn_r _ [5, 6, 7, 8, 9, 10, 11, 12, 13] (by decide +kernel) (by decide +kernel)
set_option maxRecDepth 20000 in
theorem gX0_letsLaw_X0_rowsMeeting : GoodIn wsX0_letsLaw (wsV RX0 71 RX0 yX0_rowsMeeting wsX0_rowsMeeting) := goodIn_app (goodIn_of _ (by decide +kernel)) ggX0_letsLaw_X0_rowsMeeting
theorem dX0_letsLaw_0 : decode cX0_letsLaw 0 = .ok (.aload_n 0, 1) := by decide +kernel
theorem dX0_letsLaw_1 : decode cX0_letsLaw 1 = .ok (.iload_n 2, 1) := by decide +kernel
theorem dX0_letsLaw_2 : decode cX0_letsLaw 2 = .ok (.invokevirtual 71, 3) := by decide +kernel
theorem dX0_letsLaw_5 : decode cX0_letsLaw 5 = .ok (.iload_n 1, 1) := by decide +kernel
theorem dX0_letsLaw_6 : decode cX0_letsLaw 6 = .ok (.iand, 1) := by decide +kernel
theorem dX0_letsLaw_7 : decode cX0_letsLaw 7 = .ok (.iload_n 1, 1) := by decide +kernel
theorem dX0_letsLaw_8 : decode cX0_letsLaw 8 = .ok (.if_icmp .ne 7, 3) := by decide +kernel
theorem dX0_letsLaw_11 : decode cX0_letsLaw 11 = .ok (.iconst 1, 1) := by decide +kernel
theorem dX0_letsLaw_12 : decode cX0_letsLaw 12 = .ok (.goto 4, 3) := by decide +kernel
theorem dX0_letsLaw_15 : decode cX0_letsLaw 15 = .ok (.iconst 0, 1) := by decide +kernel
theorem dX0_letsLaw_16 : decode cX0_letsLaw 16 = .ok (.ireturn, 1) := by decide +kernel
set_option maxRecDepth 20000 in
theorem ggX0_isWhole_X0_lawOf : GoodIn wsX0_isWhole wsX0_lawOf := goodIn_r _ [5, 6, 7, 8, 4, 9, 10, 11, 12, 13, 14, 15, 16, 17, 18, 19, 20, 21] (by decide +kernel) (by decide +kernel)
set_option maxRecDepth 20000 in
theorem gX0_isWhole_X0_lawOf : GoodIn wsX0_isWhole (wsV RX0 74 RX0 yX0_lawOf wsX0_lawOf) := goodIn_app (goodIn_of _ (by decide +kernel)) ggX0_isWhole_X0_lawOf
theorem dX0_isWhole_0 : decode cX0_isWhole 0 = .ok (.aload_n 0, 1) := by decide +kernel
theorem dX0_isWhole_1 : decode cX0_isWhole 1 = .ok (.iload_n 1, 1) := by decide +kernel
theorem dX0_isWhole_2 : decode cX0_isWhole 2 = .ok (.iconst 0, 1) := by decide +kernel
theorem dX0_isWhole_3 : decode cX0_isWhole 3 = .ok (.invokevirtual 74, 3) := by decide +kernel
theorem dX0_isWhole_6 : decode cX0_isWhole 6 = .ok (.bipush (-4), 2) := by decide +kernel
theorem dX0_isWhole_8 : decode cX0_isWhole 8 = .ok (.if_icmp .eq 7, 3) := by decide +kernel
theorem dX0_isWhole_11 : decode cX0_isWhole 11 = .ok (.iconst 1, 1) := by decide +kernel
theorem dX0_isWhole_12 : decode cX0_isWhole 12 = .ok (.goto 4, 3) := by decide +kernel
theorem dX0_isWhole_15 : decode cX0_isWhole 15 = .ok (.iconst 0, 1) := by decide +kernel
theorem dX0_isWhole_16 : decode cX0_isWhole 16 = .ok (.ireturn, 1) := by decide +kernel
set_option maxRecDepth 20000 in
theorem ggX0_lawCount_X0_letsLaw : GoodIn wsX0_lawCount wsX0_letsLaw := goodIn_r _ [5, 6, 7, 8, 4, 9, 10, 11, 12, 13, 14, 15, 16, 17] (by decide +kernel) (by decide +kernel)
set_option maxRecDepth 20000 in
theorem gX0_lawCount_X0_letsLaw : GoodIn wsX0_lawCount (wsV RX0 78 RX0 yX0_letsLaw wsX0_letsLaw) := goodIn_app (goodIn_of _ (by decide +kernel)) ggX0_lawCount_X0_letsLaw
theorem dX0_lawCount_0 : decode cX0_lawCount 0 = .ok (.iconst 0, 1) := by decide +kernel
theorem dX0_lawCount_1 : decode cX0_lawCount 1 = .ok (.istore_n 2, 1) := by decide +kernel
theorem dX0_lawCount_2 : decode cX0_lawCount 2 = .ok (.iconst 0, 1) := by decide +kernel
theorem dX0_lawCount_3 : decode cX0_lawCount 3 = .ok (.istore_n 3, 1) := by decide +kernel
theorem dX0_lawCount_4 : decode cX0_lawCount 4 = .ok (.iload_n 3, 1) := by decide +kernel
theorem dX0_lawCount_5 : decode cX0_lawCount 5 = .ok (.sipush 289, 3) := by decide +kernel
theorem dX0_lawCount_8 : decode cX0_lawCount 8 = .ok (.if_icmp .ge 21, 3) := by decide +kernel
theorem dX0_lawCount_11 : decode cX0_lawCount 11 = .ok (.aload_n 0, 1) := by decide +kernel
theorem dX0_lawCount_12 : decode cX0_lawCount 12 = .ok (.iload_n 1, 1) := by decide +kernel
theorem dX0_lawCount_13 : decode cX0_lawCount 13 = .ok (.iload_n 3, 1) := by decide +kernel
theorem dX0_lawCount_14 : decode cX0_lawCount 14 = .ok (.invokevirtual 78, 3) := by decide +kernel
theorem dX0_lawCount_17 : decode cX0_lawCount 17 = .ok (.ifCond .eq 6, 3) := by decide +kernel
theorem dX0_lawCount_20 : decode cX0_lawCount 20 = .ok (.iinc 2 1, 3) := by decide +kernel
theorem dX0_lawCount_23 : decode cX0_lawCount 23 = .ok (.iinc 3 1, 3) := by decide +kernel
theorem dX0_lawCount_26 : decode cX0_lawCount 26 = .ok (.goto (-22), 3) := by decide +kernel
theorem dX0_lawCount_29 : decode cX0_lawCount 29 = .ok (.iload_n 2, 1) := by decide +kernel
theorem dX0_lawCount_30 : decode cX0_lawCount 30 = .ok (.ireturn, 1) := by decide +kernel
set_option maxRecDepth 20000 in
theorem ggX0_lawOf_X0_letsLaw : GoodIn wsX0_lawOf wsX0_letsLaw := goodIn_r _ [5, 6, 7, 8, 4, 9, 10, 11, 12, 13, 14, 15, 16, 17] (by decide +kernel) (by decide +kernel)
set_option maxRecDepth 20000 in
theorem gX0_lawOf_X0_letsLaw : GoodIn wsX0_lawOf (wsV RX0 78 RX0 yX0_letsLaw wsX0_letsLaw) := goodIn_app (goodIn_of _ (by decide +kernel)) ggX0_lawOf_X0_letsLaw
theorem dX0_lawOf_0 : decode cX0_lawOf 0 = .ok (.iconst 0, 1) := by decide +kernel
theorem dX0_lawOf_1 : decode cX0_lawOf 1 = .ok (.istore_n 3, 1) := by decide +kernel
theorem dX0_lawOf_2 : decode cX0_lawOf 2 = .ok (.iconst 0, 1) := by decide +kernel
theorem dX0_lawOf_3 : decode cX0_lawOf 3 = .ok (.istore 4, 2) := by decide +kernel
theorem dX0_lawOf_5 : decode cX0_lawOf 5 = .ok (.iload 4, 2) := by decide +kernel
theorem dX0_lawOf_7 : decode cX0_lawOf 7 = .ok (.sipush 289, 3) := by decide +kernel
theorem dX0_lawOf_10 : decode cX0_lawOf 10 = .ok (.if_icmp .ge 30, 3) := by decide +kernel
theorem dX0_lawOf_13 : decode cX0_lawOf 13 = .ok (.aload_n 0, 1) := by decide +kernel
theorem dX0_lawOf_14 : decode cX0_lawOf 14 = .ok (.iload_n 1, 1) := by decide +kernel
theorem dX0_lawOf_15 : decode cX0_lawOf 15 = .ok (.iload 4, 2) := by decide +kernel
theorem dX0_lawOf_17 : decode cX0_lawOf 17 = .ok (.invokevirtual 78, 3) := by decide +kernel
theorem dX0_lawOf_20 : decode cX0_lawOf 20 = .ok (.ifCond .eq 14, 3) := by decide +kernel
theorem dX0_lawOf_23 : decode cX0_lawOf 23 = .ok (.iload_n 3, 1) := by decide +kernel
theorem dX0_lawOf_24 : decode cX0_lawOf 24 = .ok (.iload_n 2, 1) := by decide +kernel
theorem dX0_lawOf_25 : decode cX0_lawOf 25 = .ok (.if_icmp .ne 6, 3) := by decide +kernel
theorem dX0_lawOf_28 : decode cX0_lawOf 28 = .ok (.iload 4, 2) := by decide +kernel
theorem dX0_lawOf_30 : decode cX0_lawOf 30 = .ok (.ireturn, 1) := by decide +kernel
theorem dX0_lawOf_31 : decode cX0_lawOf 31 = .ok (.iinc 3 1, 3) := by decide +kernel
theorem dX0_lawOf_34 : decode cX0_lawOf 34 = .ok (.iinc 4 1, 3) := by decide +kernel
theorem dX0_lawOf_37 : decode cX0_lawOf 37 = .ok (.goto (-32), 3) := by decide +kernel
theorem dX0_lawOf_40 : decode cX0_lawOf 40 = .ok (.bipush (-4), 2) := by decide +kernel
theorem dX0_lawOf_42 : decode cX0_lawOf 42 = .ok (.ireturn, 1) := by decide +kernel
set_option maxRecDepth 20000 in
theorem ggX0_leastSum_X0_letsLaw : GoodIn wsX0_leastSum wsX0_letsLaw := goodIn_r _ [9, 10, 11, 12, 8, 13, 14, 25, 26, 27, 28, 29, 30, 31] (by decide +kernel) (by decide +kernel)
set_option maxRecDepth 20000 in
theorem gX0_leastSum_X0_letsLaw : GoodIn wsX0_leastSum (wsV RX0 78 RX0 yX0_letsLaw wsX0_letsLaw) := goodIn_app (goodIn_of _ (by decide +kernel)) ggX0_leastSum_X0_letsLaw
set_option maxRecDepth 20000 in
theorem ggX0_leastSum_X3_sum : GoodIn wsX0_leastSum wsX3_sum := goodIn_r _ [18, 19, 20, 17, 21, 22, 23, 24] (by decide +kernel) (by decide +kernel)
set_option maxRecDepth 20000 in
theorem gX0_leastSum_X3_sum : GoodIn wsX0_leastSum (va_wsS RX0 51 yX3_sum wsX3_sum) := goodIn_app (goodIn_of _ (by decide +kernel)) ggX0_leastSum_X3_sum
theorem dX0_leastSum_0 : decode cX0_leastSum 0 = .ok (.sipush 10000, 3) := by decide +kernel
theorem dX0_leastSum_3 : decode cX0_leastSum 3 = .ok (.istore 4, 2) := by decide +kernel
theorem dX0_leastSum_5 : decode cX0_leastSum 5 = .ok (.iconst 0, 1) := by decide +kernel
theorem dX0_leastSum_6 : decode cX0_leastSum 6 = .ok (.istore 5, 2) := by decide +kernel
theorem dX0_leastSum_8 : decode cX0_leastSum 8 = .ok (.iload 5, 2) := by decide +kernel
theorem dX0_leastSum_10 : decode cX0_leastSum 10 = .ok (.sipush 289, 3) := by decide +kernel
theorem dX0_leastSum_13 : decode cX0_leastSum 13 = .ok (.if_icmp .ge 33, 3) := by decide +kernel
theorem dX0_leastSum_16 : decode cX0_leastSum 16 = .ok (.aload_n 0, 1) := by decide +kernel
theorem dX0_leastSum_17 : decode cX0_leastSum 17 = .ok (.iload_n 1, 1) := by decide +kernel
theorem dX0_leastSum_18 : decode cX0_leastSum 18 = .ok (.iload 5, 2) := by decide +kernel
theorem dX0_leastSum_20 : decode cX0_leastSum 20 = .ok (.invokevirtual 78, 3) := by decide +kernel
theorem dX0_leastSum_23 : decode cX0_leastSum 23 = .ok (.ifCond .eq 17, 3) := by decide +kernel
theorem dX0_leastSum_26 : decode cX0_leastSum 26 = .ok (.iload 4, 2) := by decide +kernel
theorem dX0_leastSum_28 : decode cX0_leastSum 28 = .ok (.iload 5, 2) := by decide +kernel
theorem dX0_leastSum_30 : decode cX0_leastSum 30 = .ok (.iload_n 2, 1) := by decide +kernel
theorem dX0_leastSum_31 : decode cX0_leastSum 31 = .ok (.iload_n 3, 1) := by decide +kernel
theorem dX0_leastSum_32 : decode cX0_leastSum 32 = .ok (.invokestatic 51, 3) := by decide +kernel
theorem dX0_leastSum_35 : decode cX0_leastSum 35 = .ok (.invokestatic 82, 3) := by decide +kernel
theorem dX0_leastSum_38 : decode cX0_leastSum 38 = .ok (.istore 4, 2) := by decide +kernel
theorem dX0_leastSum_40 : decode cX0_leastSum 40 = .ok (.iinc 5 1, 3) := by decide +kernel
theorem dX0_leastSum_43 : decode cX0_leastSum 43 = .ok (.goto (-35), 3) := by decide +kernel
theorem dX0_leastSum_46 : decode cX0_leastSum 46 = .ok (.iload 4, 2) := by decide +kernel
theorem dX0_leastSum_48 : decode cX0_leastSum 48 = .ok (.ireturn, 1) := by decide +kernel
theorem dX0_leastHeight_0 : decode cX0_leastHeight 0 = .ok (.sipush 1000, 3) := by decide +kernel
theorem dX0_leastHeight_3 : decode cX0_leastHeight 3 = .ok (.istore 4, 2) := by decide +kernel
theorem dX0_leastHeight_5 : decode cX0_leastHeight 5 = .ok (.iconst 0, 1) := by decide +kernel
theorem dX0_leastHeight_6 : decode cX0_leastHeight 6 = .ok (.istore 5, 2) := by decide +kernel
theorem dX0_leastHeight_8 : decode cX0_leastHeight 8 = .ok (.iload 5, 2) := by decide +kernel
theorem dX0_leastHeight_10 : decode cX0_leastHeight 10 = .ok (.aload_n 0, 1) := by decide +kernel
theorem dX0_leastHeight_11 : decode cX0_leastHeight 11 = .ok (.getfield 24, 3) := by decide +kernel
theorem dX0_leastHeight_14 : decode cX0_leastHeight 14 = .ok (.if_icmp .ge 51, 3) := by decide +kernel
theorem dX0_leastHeight_17 : decode cX0_leastHeight 17 = .ok (.iload 5, 2) := by decide +kernel
theorem dX0_leastHeight_19 : decode cX0_leastHeight 19 = .ok (.bipush 12, 2) := by decide +kernel
theorem dX0_leastHeight_21 : decode cX0_leastHeight 21 = .ok (.if_icmp .ge 44, 3) := by decide +kernel
theorem dX0_leastHeight_24 : decode cX0_leastHeight 24 = .ok (.iload_n 1, 1) := by decide +kernel
theorem dX0_leastHeight_25 : decode cX0_leastHeight 25 = .ok (.iload 5, 2) := by decide +kernel
theorem dX0_leastHeight_27 : decode cX0_leastHeight 27 = .ok (.ishr, 1) := by decide +kernel
theorem dX0_leastHeight_28 : decode cX0_leastHeight 28 = .ok (.iconst 1, 1) := by decide +kernel
theorem dX0_leastHeight_29 : decode cX0_leastHeight 29 = .ok (.iand, 1) := by decide +kernel
theorem dX0_leastHeight_30 : decode cX0_leastHeight 30 = .ok (.ifCond .eq 29, 3) := by decide +kernel
theorem dX0_leastHeight_33 : decode cX0_leastHeight 33 = .ok (.iload 4, 2) := by decide +kernel
theorem dX0_leastHeight_35 : decode cX0_leastHeight 35 = .ok (.iload_n 2, 1) := by decide +kernel
theorem dX0_leastHeight_36 : decode cX0_leastHeight 36 = .ok (.aload_n 0, 1) := by decide +kernel
theorem dX0_leastHeight_37 : decode cX0_leastHeight 37 = .ok (.getfield 9, 3) := by decide +kernel
theorem dX0_leastHeight_40 : decode cX0_leastHeight 40 = .ok (.iload 5, 2) := by decide +kernel
theorem dX0_leastHeight_42 : decode cX0_leastHeight 42 = .ok (.iaload, 1) := by decide +kernel
theorem dX0_leastHeight_43 : decode cX0_leastHeight 43 = .ok (.imul, 1) := by decide +kernel
theorem dX0_leastHeight_44 : decode cX0_leastHeight 44 = .ok (.iload_n 3, 1) := by decide +kernel
theorem dX0_leastHeight_45 : decode cX0_leastHeight 45 = .ok (.aload_n 0, 1) := by decide +kernel
theorem dX0_leastHeight_46 : decode cX0_leastHeight 46 = .ok (.getfield 15, 3) := by decide +kernel
theorem dX0_leastHeight_49 : decode cX0_leastHeight 49 = .ok (.iload 5, 2) := by decide +kernel
theorem dX0_leastHeight_51 : decode cX0_leastHeight 51 = .ok (.iaload, 1) := by decide +kernel
theorem dX0_leastHeight_52 : decode cX0_leastHeight 52 = .ok (.imul, 1) := by decide +kernel
theorem dX0_leastHeight_53 : decode cX0_leastHeight 53 = .ok (.iadd, 1) := by decide +kernel
theorem dX0_leastHeight_54 : decode cX0_leastHeight 54 = .ok (.invokestatic 82, 3) := by decide +kernel
theorem dX0_leastHeight_57 : decode cX0_leastHeight 57 = .ok (.istore 4, 2) := by decide +kernel
theorem dX0_leastHeight_59 : decode cX0_leastHeight 59 = .ok (.iinc 5 1, 3) := by decide +kernel
theorem dX0_leastHeight_62 : decode cX0_leastHeight 62 = .ok (.goto (-54), 3) := by decide +kernel
theorem dX0_leastHeight_65 : decode cX0_leastHeight 65 = .ok (.iload 4, 2) := by decide +kernel
theorem dX0_leastHeight_67 : decode cX0_leastHeight 67 = .ok (.ireturn, 1) := by decide +kernel
theorem dX1_init_0 : decode cX1_init 0 = .ok (.aload_n 0, 1) := by decide +kernel
theorem dX1_init_1 : decode cX1_init 1 = .ok (.invokespecial 3, 3) := by decide +kernel
theorem dX1_init_4 : decode cX1_init 4 = .ok (.aload_n 0, 1) := by decide +kernel
theorem dX1_init_5 : decode cX1_init 5 = .ok (.iconst 0, 1) := by decide +kernel
theorem dX1_init_6 : decode cX1_init 6 = .ok (.putfield 9, 3) := by decide +kernel
theorem dX1_init_9 : decode cX1_init 9 = .ok (.aload_n 0, 1) := by decide +kernel
theorem dX1_init_10 : decode cX1_init 10 = .ok (.iconst 0, 1) := by decide +kernel
theorem dX1_init_11 : decode cX1_init 11 = .ok (.putfield 15, 3) := by decide +kernel
theorem dX1_init_14 : decode cX1_init 14 = .ok (.return_, 1) := by decide +kernel
theorem dX1_become_0 : decode cX1_become 0 = .ok (.aload_n 0, 1) := by decide +kernel
theorem dX1_become_1 : decode cX1_become 1 = .ok (.iload_n 1, 1) := by decide +kernel
theorem dX1_become_2 : decode cX1_become 2 = .ok (.putfield 9, 3) := by decide +kernel
theorem dX1_become_5 : decode cX1_become 5 = .ok (.aload_n 0, 1) := by decide +kernel
theorem dX1_become_6 : decode cX1_become 6 = .ok (.iload_n 2, 1) := by decide +kernel
theorem dX1_become_7 : decode cX1_become 7 = .ok (.putfield 15, 3) := by decide +kernel
theorem dX1_become_10 : decode cX1_become 10 = .ok (.return_, 1) := by decide +kernel
theorem dX1_least_0 : decode cX1_least 0 = .ok (.aload_n 0, 1) := by decide +kernel
theorem dX1_least_1 : decode cX1_least 1 = .ok (.getfield 9, 3) := by decide +kernel
theorem dX1_least_4 : decode cX1_least 4 = .ok (.ireturn, 1) := by decide +kernel
theorem dX1_greatest_0 : decode cX1_greatest 0 = .ok (.aload_n 0, 1) := by decide +kernel
theorem dX1_greatest_1 : decode cX1_greatest 1 = .ok (.getfield 15, 3) := by decide +kernel
theorem dX1_greatest_4 : decode cX1_greatest 4 = .ok (.ireturn, 1) := by decide +kernel
set_option maxRecDepth 20000 in
theorem ggX1_move_X2_size : GoodIn wsX1_move wsX2_size := goodIn_r _ [14, 15, 41, 42, 43, 44, 45] (by decide +kernel) (by decide +kernel)
set_option maxRecDepth 20000 in
theorem gX1_move_X2_size : GoodIn wsX1_move (wsV RX1 18 RX2 yX2_size wsX2_size) := goodIn_app (goodIn_of _ (by decide +kernel)) ggX1_move_X2_size
set_option maxRecDepth 20000 in
theorem ggX1_move_X2_lawAt : GoodIn wsX1_move wsX2_lawAt := goodIn_r _ [19, 15, 20, 41, 42, 43, 44, 45] (by decide +kernel) (by decide +kernel)
set_option maxRecDepth 20000 in
theorem gX1_move_X2_lawAt : GoodIn wsX1_move (wsV RX1 24 RX2 yX2_lawAt wsX2_lawAt) := goodIn_app (goodIn_of _ (by decide +kernel)) ggX1_move_X2_lawAt
set_option maxRecDepth 20000 in
theorem ggX1_move_X3_sum : GoodIn wsX1_move wsX3_sum := goodIn_r _ [24, 25, 26, 23, 27, 28, 29, 30] (by decide +kernel) (by decide +kernel)
set_option maxRecDepth 20000 in
theorem gX1_move_X3_sum : GoodIn wsX1_move (va_wsS RX1 28 yX3_sum wsX3_sum) := goodIn_app (goodIn_of _ (by decide +kernel)) ggX1_move_X3_sum
set_option maxRecDepth 20000 in
theorem ggX1_move_J9_floorDiv_7cf53 : GoodIn wsX1_move wsJ9_floorDiv_7cf53 := goodIn_r _ [34] (by decide +kernel) (by decide +kernel)
set_option maxRecDepth 20000 in
theorem gX1_move_J9_floorDiv_7cf53 : GoodIn wsX1_move (va_wsS RX1 43 yJ9_floorDiv_7cf53 wsJ9_floorDiv_7cf53) := goodIn_app (goodIn_of _ (by decide +kernel)) ggX1_move_J9_floorDiv_7cf53
set_option maxRecDepth 20000 in
theorem ggX1_move_X1_within : GoodIn wsX1_move wsX1_within := goodIn_r _ [38, 3, 4, 5, 6, 7, 8, 9] (by decide +kernel) (by decide +kernel)
set_option maxRecDepth 20000 in
theorem gX1_move_X1_within : GoodIn wsX1_move (va_wsS RX1 46 yX1_within wsX1_within) := goodIn_app (goodIn_of _ (by decide +kernel)) ggX1_move_X1_within
theorem dX1_move_0 : decode cX1_move 0 = .ok (.aload_n 1, 1) := by decide +kernel
theorem dX1_move_1 : decode cX1_move 1 = .ok (.invokevirtual 18, 3) := by decide +kernel
theorem dX1_move_4 : decode cX1_move 4 = .ok (.ifCond .ne 4, 3) := by decide +kernel
theorem dX1_move_7 : decode cX1_move 7 = .ok (.return_, 1) := by decide +kernel
theorem dX1_move_8 : decode cX1_move 8 = .ok (.aload_n 1, 1) := by decide +kernel
theorem dX1_move_9 : decode cX1_move 9 = .ok (.iconst 0, 1) := by decide +kernel
theorem dX1_move_10 : decode cX1_move 10 = .ok (.invokevirtual 24, 3) := by decide +kernel
theorem dX1_move_13 : decode cX1_move 13 = .ok (.aload_n 0, 1) := by decide +kernel
theorem dX1_move_14 : decode cX1_move 14 = .ok (.getfield 9, 3) := by decide +kernel
theorem dX1_move_17 : decode cX1_move 17 = .ok (.iload_n 2, 1) := by decide +kernel
theorem dX1_move_18 : decode cX1_move 18 = .ok (.invokestatic 28, 3) := by decide +kernel
theorem dX1_move_21 : decode cX1_move 21 = .ok (.istore 4, 2) := by decide +kernel
theorem dX1_move_23 : decode cX1_move 23 = .ok (.iload 4, 2) := by decide +kernel
theorem dX1_move_25 : decode cX1_move 25 = .ok (.istore 5, 2) := by decide +kernel
theorem dX1_move_27 : decode cX1_move 27 = .ok (.iconst 0, 1) := by decide +kernel
theorem dX1_move_28 : decode cX1_move 28 = .ok (.istore 6, 2) := by decide +kernel
theorem dX1_move_30 : decode cX1_move 30 = .ok (.iload 6, 2) := by decide +kernel
theorem dX1_move_32 : decode cX1_move 32 = .ok (.aload_n 1, 1) := by decide +kernel
theorem dX1_move_33 : decode cX1_move 33 = .ok (.invokevirtual 18, 3) := by decide +kernel
theorem dX1_move_36 : decode cX1_move 36 = .ok (.if_icmp .ge 69, 3) := by decide +kernel
theorem dX1_move_39 : decode cX1_move 39 = .ok (.aload_n 1, 1) := by decide +kernel
theorem dX1_move_40 : decode cX1_move 40 = .ok (.iload 6, 2) := by decide +kernel
theorem dX1_move_42 : decode cX1_move 42 = .ok (.invokevirtual 24, 3) := by decide +kernel
theorem dX1_move_45 : decode cX1_move 45 = .ok (.aload_n 0, 1) := by decide +kernel
theorem dX1_move_46 : decode cX1_move 46 = .ok (.getfield 9, 3) := by decide +kernel
theorem dX1_move_49 : decode cX1_move 49 = .ok (.iload_n 2, 1) := by decide +kernel
theorem dX1_move_50 : decode cX1_move 50 = .ok (.invokestatic 28, 3) := by decide +kernel
theorem dX1_move_53 : decode cX1_move 53 = .ok (.istore 7, 2) := by decide +kernel
theorem dX1_move_55 : decode cX1_move 55 = .ok (.aload_n 1, 1) := by decide +kernel
theorem dX1_move_56 : decode cX1_move 56 = .ok (.iload 6, 2) := by decide +kernel
theorem dX1_move_58 : decode cX1_move 58 = .ok (.invokevirtual 24, 3) := by decide +kernel
theorem dX1_move_61 : decode cX1_move 61 = .ok (.aload_n 0, 1) := by decide +kernel
theorem dX1_move_62 : decode cX1_move 62 = .ok (.getfield 15, 3) := by decide +kernel
theorem dX1_move_65 : decode cX1_move 65 = .ok (.iload_n 2, 1) := by decide +kernel
theorem dX1_move_66 : decode cX1_move 66 = .ok (.invokestatic 28, 3) := by decide +kernel
theorem dX1_move_69 : decode cX1_move 69 = .ok (.istore 8, 2) := by decide +kernel
theorem dX1_move_71 : decode cX1_move 71 = .ok (.iload 4, 2) := by decide +kernel
theorem dX1_move_73 : decode cX1_move 73 = .ok (.iload 7, 2) := by decide +kernel
theorem dX1_move_75 : decode cX1_move 75 = .ok (.iload 8, 2) := by decide +kernel
theorem dX1_move_77 : decode cX1_move 77 = .ok (.invokestatic 34, 3) := by decide +kernel
theorem dX1_move_80 : decode cX1_move 80 = .ok (.invokestatic 34, 3) := by decide +kernel
theorem dX1_move_83 : decode cX1_move 83 = .ok (.istore 4, 2) := by decide +kernel
theorem dX1_move_85 : decode cX1_move 85 = .ok (.iload 5, 2) := by decide +kernel
theorem dX1_move_87 : decode cX1_move 87 = .ok (.iload 7, 2) := by decide +kernel
theorem dX1_move_89 : decode cX1_move 89 = .ok (.iload 8, 2) := by decide +kernel
theorem dX1_move_91 : decode cX1_move 91 = .ok (.invokestatic 40, 3) := by decide +kernel
theorem dX1_move_94 : decode cX1_move 94 = .ok (.invokestatic 40, 3) := by decide +kernel
theorem dX1_move_97 : decode cX1_move 97 = .ok (.istore 5, 2) := by decide +kernel
theorem dX1_move_99 : decode cX1_move 99 = .ok (.iinc 6 1, 3) := by decide +kernel
theorem dX1_move_102 : decode cX1_move 102 = .ok (.goto (-72), 3) := by decide +kernel
theorem dX1_move_105 : decode cX1_move 105 = .ok (.aload_n 0, 1) := by decide +kernel
theorem dX1_move_106 : decode cX1_move 106 = .ok (.iload 4, 2) := by decide +kernel
theorem dX1_move_108 : decode cX1_move 108 = .ok (.iconst 4, 1) := by decide +kernel
theorem dX1_move_109 : decode cX1_move 109 = .ok (.invokestatic 43, 3) := by decide +kernel
theorem dX1_move_112 : decode cX1_move 112 = .ok (.iload_n 3, 1) := by decide +kernel
theorem dX1_move_113 : decode cX1_move 113 = .ok (.isub, 1) := by decide +kernel
theorem dX1_move_114 : decode cX1_move 114 = .ok (.invokestatic 46, 3) := by decide +kernel
theorem dX1_move_117 : decode cX1_move 117 = .ok (.putfield 9, 3) := by decide +kernel
theorem dX1_move_120 : decode cX1_move 120 = .ok (.aload_n 0, 1) := by decide +kernel
theorem dX1_move_121 : decode cX1_move 121 = .ok (.iload_n 3, 1) := by decide +kernel
theorem dX1_move_122 : decode cX1_move 122 = .ok (.iload 5, 2) := by decide +kernel
theorem dX1_move_124 : decode cX1_move 124 = .ok (.ineg, 1) := by decide +kernel
theorem dX1_move_125 : decode cX1_move 125 = .ok (.iconst 4, 1) := by decide +kernel
theorem dX1_move_126 : decode cX1_move 126 = .ok (.invokestatic 43, 3) := by decide +kernel
theorem dX1_move_129 : decode cX1_move 129 = .ok (.isub, 1) := by decide +kernel
theorem dX1_move_130 : decode cX1_move 130 = .ok (.invokestatic 46, 3) := by decide +kernel
theorem dX1_move_133 : decode cX1_move 133 = .ok (.putfield 15, 3) := by decide +kernel
theorem dX1_move_136 : decode cX1_move 136 = .ok (.return_, 1) := by decide +kernel
theorem dX1_within_0 : decode cX1_within 0 = .ok (.sipush (-9999), 3) := by decide +kernel
theorem dX1_within_3 : decode cX1_within 3 = .ok (.sipush 9999, 3) := by decide +kernel
theorem dX1_within_6 : decode cX1_within 6 = .ok (.iload_n 0, 1) := by decide +kernel
theorem dX1_within_7 : decode cX1_within 7 = .ok (.invokestatic 34, 3) := by decide +kernel
theorem dX1_within_10 : decode cX1_within 10 = .ok (.invokestatic 40, 3) := by decide +kernel
theorem dX1_within_13 : decode cX1_within 13 = .ok (.ireturn, 1) := by decide +kernel
theorem dX2_init_0 : decode cX2_init 0 = .ok (.aload_n 0, 1) := by decide +kernel
theorem dX2_init_1 : decode cX2_init 1 = .ok (.invokespecial 3, 3) := by decide +kernel
theorem dX2_init_4 : decode cX2_init 4 = .ok (.aload_n 0, 1) := by decide +kernel
theorem dX2_init_5 : decode cX2_init 5 = .ok (.iconst 4, 1) := by decide +kernel
theorem dX2_init_6 : decode cX2_init 6 = .ok (.newarray .int, 2) := by decide +kernel
theorem dX2_init_8 : decode cX2_init 8 = .ok (.putfield 11, 3) := by decide +kernel
theorem dX2_init_11 : decode cX2_init 11 = .ok (.aload_n 0, 1) := by decide +kernel
theorem dX2_init_12 : decode cX2_init 12 = .ok (.iconst 0, 1) := by decide +kernel
theorem dX2_init_13 : decode cX2_init 13 = .ok (.putfield 15, 3) := by decide +kernel
theorem dX2_init_16 : decode cX2_init 16 = .ok (.aload_n 0, 1) := by decide +kernel
theorem dX2_init_17 : decode cX2_init 17 = .ok (.iconst 0, 1) := by decide +kernel
theorem dX2_init_18 : decode cX2_init 18 = .ok (.putfield 19, 3) := by decide +kernel
theorem dX2_init_21 : decode cX2_init 21 = .ok (.aload_n 0, 1) := by decide +kernel
theorem dX2_init_22 : decode cX2_init 22 = .ok (.iconst 0, 1) := by decide +kernel
theorem dX2_init_23 : decode cX2_init 23 = .ok (.putfield 22, 3) := by decide +kernel
theorem dX2_init_26 : decode cX2_init 26 = .ok (.aload_n 0, 1) := by decide +kernel
theorem dX2_init_27 : decode cX2_init 27 = .ok (.iconst 0, 1) := by decide +kernel
theorem dX2_init_28 : decode cX2_init 28 = .ok (.putfield 25, 3) := by decide +kernel
theorem dX2_init_31 : decode cX2_init 31 = .ok (.return_, 1) := by decide +kernel
set_option maxRecDepth 20000 in
theorem ggX2_add_X2_all : GoodIn wsX2_add wsX2_all := goodIn_r _ [8, 1, 9, 10, 11, 12, 13] (by decide +kernel) (by decide +kernel)
set_option maxRecDepth 20000 in
theorem gX2_add_X2_all : GoodIn wsX2_add (wsV RX2 28 RX2 yX2_all wsX2_all) := goodIn_app (goodIn_of _ (by decide +kernel)) ggX2_add_X2_all
theorem dX2_add_0 : decode cX2_add 0 = .ok (.iconst 0, 1) := by decide +kernel
theorem dX2_add_1 : decode cX2_add 1 = .ok (.istore_n 2, 1) := by decide +kernel
theorem dX2_add_2 : decode cX2_add 2 = .ok (.iload_n 2, 1) := by decide +kernel
theorem dX2_add_3 : decode cX2_add 3 = .ok (.aload_n 0, 1) := by decide +kernel
theorem dX2_add_4 : decode cX2_add 4 = .ok (.getfield 15, 3) := by decide +kernel
theorem dX2_add_7 : decode cX2_add 7 = .ok (.if_icmp .ge 27, 3) := by decide +kernel
theorem dX2_add_10 : decode cX2_add 10 = .ok (.iload_n 2, 1) := by decide +kernel
theorem dX2_add_11 : decode cX2_add 11 = .ok (.iconst 4, 1) := by decide +kernel
theorem dX2_add_12 : decode cX2_add 12 = .ok (.if_icmp .ge 22, 3) := by decide +kernel
theorem dX2_add_15 : decode cX2_add 15 = .ok (.aload_n 0, 1) := by decide +kernel
theorem dX2_add_16 : decode cX2_add 16 = .ok (.getfield 11, 3) := by decide +kernel
theorem dX2_add_19 : decode cX2_add 19 = .ok (.iload_n 2, 1) := by decide +kernel
theorem dX2_add_20 : decode cX2_add 20 = .ok (.iaload, 1) := by decide +kernel
theorem dX2_add_21 : decode cX2_add 21 = .ok (.iload_n 1, 1) := by decide +kernel
theorem dX2_add_22 : decode cX2_add 22 = .ok (.if_icmp .ne 6, 3) := by decide +kernel
theorem dX2_add_25 : decode cX2_add 25 = .ok (.bipush (-2), 2) := by decide +kernel
theorem dX2_add_27 : decode cX2_add 27 = .ok (.ireturn, 1) := by decide +kernel
theorem dX2_add_28 : decode cX2_add 28 = .ok (.iinc 2 1, 3) := by decide +kernel
theorem dX2_add_31 : decode cX2_add 31 = .ok (.goto (-29), 3) := by decide +kernel
theorem dX2_add_34 : decode cX2_add 34 = .ok (.aload_n 0, 1) := by decide +kernel
theorem dX2_add_35 : decode cX2_add 35 = .ok (.getfield 15, 3) := by decide +kernel
theorem dX2_add_38 : decode cX2_add 38 = .ok (.istore_n 2, 1) := by decide +kernel
theorem dX2_add_39 : decode cX2_add 39 = .ok (.iload_n 2, 1) := by decide +kernel
theorem dX2_add_40 : decode cX2_add 40 = .ok (.ifCond .lt 8, 3) := by decide +kernel
theorem dX2_add_43 : decode cX2_add 43 = .ok (.iload_n 2, 1) := by decide +kernel
theorem dX2_add_44 : decode cX2_add 44 = .ok (.iconst 4, 1) := by decide +kernel
theorem dX2_add_45 : decode cX2_add 45 = .ok (.if_icmp .lt 6, 3) := by decide +kernel
theorem dX2_add_48 : decode cX2_add 48 = .ok (.bipush (-3), 2) := by decide +kernel
theorem dX2_add_50 : decode cX2_add 50 = .ok (.ireturn, 1) := by decide +kernel
theorem dX2_add_51 : decode cX2_add 51 = .ok (.aload_n 0, 1) := by decide +kernel
theorem dX2_add_52 : decode cX2_add 52 = .ok (.getfield 11, 3) := by decide +kernel
theorem dX2_add_55 : decode cX2_add 55 = .ok (.iload_n 2, 1) := by decide +kernel
theorem dX2_add_56 : decode cX2_add 56 = .ok (.iload_n 1, 1) := by decide +kernel
theorem dX2_add_57 : decode cX2_add 57 = .ok (.iastore, 1) := by decide +kernel
theorem dX2_add_58 : decode cX2_add 58 = .ok (.aload_n 0, 1) := by decide +kernel
theorem dX2_add_59 : decode cX2_add 59 = .ok (.dup, 1) := by decide +kernel
theorem dX2_add_60 : decode cX2_add 60 = .ok (.getfield 15, 3) := by decide +kernel
theorem dX2_add_63 : decode cX2_add 63 = .ok (.iconst 1, 1) := by decide +kernel
theorem dX2_add_64 : decode cX2_add 64 = .ok (.iadd, 1) := by decide +kernel
theorem dX2_add_65 : decode cX2_add 65 = .ok (.putfield 15, 3) := by decide +kernel
theorem dX2_add_68 : decode cX2_add 68 = .ok (.aload_n 0, 1) := by decide +kernel
theorem dX2_add_69 : decode cX2_add 69 = .ok (.aload_n 0, 1) := by decide +kernel
theorem dX2_add_70 : decode cX2_add 70 = .ok (.invokevirtual 28, 3) := by decide +kernel
theorem dX2_add_73 : decode cX2_add 73 = .ok (.putfield 19, 3) := by decide +kernel
theorem dX2_add_76 : decode cX2_add 76 = .ok (.iload_n 2, 1) := by decide +kernel
theorem dX2_add_77 : decode cX2_add 77 = .ok (.ireturn, 1) := by decide +kernel
theorem dX2_size_0 : decode cX2_size 0 = .ok (.aload_n 0, 1) := by decide +kernel
theorem dX2_size_1 : decode cX2_size 1 = .ok (.getfield 15, 3) := by decide +kernel
theorem dX2_size_4 : decode cX2_size 4 = .ok (.ireturn, 1) := by decide +kernel
theorem dX2_lawAt_0 : decode cX2_lawAt 0 = .ok (.iload_n 1, 1) := by decide +kernel
theorem dX2_lawAt_1 : decode cX2_lawAt 1 = .ok (.ifCond .lt 25, 3) := by decide +kernel
theorem dX2_lawAt_4 : decode cX2_lawAt 4 = .ok (.iload_n 1, 1) := by decide +kernel
theorem dX2_lawAt_5 : decode cX2_lawAt 5 = .ok (.aload_n 0, 1) := by decide +kernel
theorem dX2_lawAt_6 : decode cX2_lawAt 6 = .ok (.getfield 15, 3) := by decide +kernel
theorem dX2_lawAt_9 : decode cX2_lawAt 9 = .ok (.if_icmp .ge 17, 3) := by decide +kernel
theorem dX2_lawAt_12 : decode cX2_lawAt 12 = .ok (.iload_n 1, 1) := by decide +kernel
theorem dX2_lawAt_13 : decode cX2_lawAt 13 = .ok (.iconst 4, 1) := by decide +kernel
theorem dX2_lawAt_14 : decode cX2_lawAt 14 = .ok (.if_icmp .ge 12, 3) := by decide +kernel
theorem dX2_lawAt_17 : decode cX2_lawAt 17 = .ok (.aload_n 0, 1) := by decide +kernel
theorem dX2_lawAt_18 : decode cX2_lawAt 18 = .ok (.getfield 11, 3) := by decide +kernel
theorem dX2_lawAt_21 : decode cX2_lawAt 21 = .ok (.iload_n 1, 1) := by decide +kernel
theorem dX2_lawAt_22 : decode cX2_lawAt 22 = .ok (.iaload, 1) := by decide +kernel
theorem dX2_lawAt_23 : decode cX2_lawAt 23 = .ok (.goto 4, 3) := by decide +kernel
theorem dX2_lawAt_26 : decode cX2_lawAt 26 = .ok (.iconst 0, 1) := by decide +kernel
theorem dX2_lawAt_27 : decode cX2_lawAt 27 = .ok (.ireturn, 1) := by decide +kernel
theorem dX2_watchedCount_0 : decode cX2_watchedCount 0 = .ok (.aload_n 0, 1) := by decide +kernel
theorem dX2_watchedCount_1 : decode cX2_watchedCount 1 = .ok (.getfield 22, 3) := by decide +kernel
theorem dX2_watchedCount_4 : decode cX2_watchedCount 4 = .ok (.ireturn, 1) := by decide +kernel
theorem dX2_rangCount_0 : decode cX2_rangCount 0 = .ok (.aload_n 0, 1) := by decide +kernel
theorem dX2_rangCount_1 : decode cX2_rangCount 1 = .ok (.getfield 25, 3) := by decide +kernel
theorem dX2_rangCount_4 : decode cX2_rangCount 4 = .ok (.ireturn, 1) := by decide +kernel
set_option maxRecDepth 20000 in
theorem ggX2_see_X3_sum : GoodIn wsX2_see wsX3_sum := goodIn_r _ [9, 10, 11, 8, 12, 13, 14, 15] (by decide +kernel) (by decide +kernel)
set_option maxRecDepth 20000 in
theorem gX2_see_X3_sum : GoodIn wsX2_see (va_wsS RX2 32 yX3_sum wsX3_sum) := goodIn_app (goodIn_of _ (by decide +kernel)) ggX2_see_X3_sum
set_option maxRecDepth 20000 in
theorem ggX2_see_X3_isMet : GoodIn wsX2_see wsX3_isMet := goodIn_r _ [18, 19, 20, 21, 22] (by decide +kernel) (by decide +kernel)
set_option maxRecDepth 20000 in
theorem gX2_see_X3_isMet : GoodIn wsX2_see (va_wsS RX2 38 yX3_isMet wsX3_isMet) := goodIn_app (goodIn_of _ (by decide +kernel)) ggX2_see_X3_isMet
set_option maxRecDepth 20000 in
theorem ggX2_see_X2_all : GoodIn wsX2_see wsX2_all := goodIn_r _ [27, 1, 28, 29, 30, 31, 32] (by decide +kernel) (by decide +kernel)
set_option maxRecDepth 20000 in
theorem gX2_see_X2_all : GoodIn wsX2_see (wsV RX2 28 RX2 yX2_all wsX2_all) := goodIn_app (goodIn_of _ (by decide +kernel)) ggX2_see_X2_all
theorem dX2_see_0 : decode cX2_see 0 = .ok (.iconst 0, 1) := by decide +kernel
theorem dX2_see_1 : decode cX2_see 1 = .ok (.istore 5, 2) := by decide +kernel
theorem dX2_see_3 : decode cX2_see 3 = .ok (.iconst 0, 1) := by decide +kernel
theorem dX2_see_4 : decode cX2_see 4 = .ok (.istore 6, 2) := by decide +kernel
theorem dX2_see_6 : decode cX2_see 6 = .ok (.iload 6, 2) := by decide +kernel
theorem dX2_see_8 : decode cX2_see 8 = .ok (.aload_n 0, 1) := by decide +kernel
theorem dX2_see_9 : decode cX2_see 9 = .ok (.getfield 15, 3) := by decide +kernel
theorem dX2_see_12 : decode cX2_see 12 = .ok (.if_icmp .ge 45, 3) := by decide +kernel
theorem dX2_see_15 : decode cX2_see 15 = .ok (.iload 6, 2) := by decide +kernel
theorem dX2_see_17 : decode cX2_see 17 = .ok (.iconst 4, 1) := by decide +kernel
theorem dX2_see_18 : decode cX2_see 18 = .ok (.if_icmp .ge 39, 3) := by decide +kernel
theorem dX2_see_21 : decode cX2_see 21 = .ok (.aload_n 0, 1) := by decide +kernel
theorem dX2_see_22 : decode cX2_see 22 = .ok (.getfield 11, 3) := by decide +kernel
theorem dX2_see_25 : decode cX2_see 25 = .ok (.iload 6, 2) := by decide +kernel
theorem dX2_see_27 : decode cX2_see 27 = .ok (.iaload, 1) := by decide +kernel
theorem dX2_see_28 : decode cX2_see 28 = .ok (.iload_n 1, 1) := by decide +kernel
theorem dX2_see_29 : decode cX2_see 29 = .ok (.iload_n 2, 1) := by decide +kernel
theorem dX2_see_30 : decode cX2_see 30 = .ok (.invokestatic 32, 3) := by decide +kernel
theorem dX2_see_33 : decode cX2_see 33 = .ok (.iload_n 3, 1) := by decide +kernel
theorem dX2_see_34 : decode cX2_see 34 = .ok (.iload 4, 2) := by decide +kernel
theorem dX2_see_36 : decode cX2_see 36 = .ok (.invokestatic 38, 3) := by decide +kernel
theorem dX2_see_39 : decode cX2_see 39 = .ok (.ifCond .eq 12, 3) := by decide +kernel
theorem dX2_see_42 : decode cX2_see 42 = .ok (.iload 5, 2) := by decide +kernel
theorem dX2_see_44 : decode cX2_see 44 = .ok (.iconst 1, 1) := by decide +kernel
theorem dX2_see_45 : decode cX2_see 45 = .ok (.iload 6, 2) := by decide +kernel
theorem dX2_see_47 : decode cX2_see 47 = .ok (.ishl, 1) := by decide +kernel
theorem dX2_see_48 : decode cX2_see 48 = .ok (.ior, 1) := by decide +kernel
theorem dX2_see_49 : decode cX2_see 49 = .ok (.istore 5, 2) := by decide +kernel
theorem dX2_see_51 : decode cX2_see 51 = .ok (.iinc 6 1, 3) := by decide +kernel
theorem dX2_see_54 : decode cX2_see 54 = .ok (.goto (-48), 3) := by decide +kernel
theorem dX2_see_57 : decode cX2_see 57 = .ok (.aload_n 0, 1) := by decide +kernel
theorem dX2_see_58 : decode cX2_see 58 = .ok (.dup, 1) := by decide +kernel
theorem dX2_see_59 : decode cX2_see 59 = .ok (.getfield 22, 3) := by decide +kernel
theorem dX2_see_62 : decode cX2_see 62 = .ok (.iconst 1, 1) := by decide +kernel
theorem dX2_see_63 : decode cX2_see 63 = .ok (.iadd, 1) := by decide +kernel
theorem dX2_see_64 : decode cX2_see 64 = .ok (.putfield 22, 3) := by decide +kernel
theorem dX2_see_67 : decode cX2_see 67 = .ok (.aload_n 0, 1) := by decide +kernel
theorem dX2_see_68 : decode cX2_see 68 = .ok (.getfield 19, 3) := by decide +kernel
theorem dX2_see_71 : decode cX2_see 71 = .ok (.iload 5, 2) := by decide +kernel
theorem dX2_see_73 : decode cX2_see 73 = .ok (.iand, 1) := by decide +kernel
theorem dX2_see_74 : decode cX2_see 74 = .ok (.ifCond .eq 19, 3) := by decide +kernel
theorem dX2_see_77 : decode cX2_see 77 = .ok (.aload_n 0, 1) := by decide +kernel
theorem dX2_see_78 : decode cX2_see 78 = .ok (.dup, 1) := by decide +kernel
theorem dX2_see_79 : decode cX2_see 79 = .ok (.getfield 19, 3) := by decide +kernel
theorem dX2_see_82 : decode cX2_see 82 = .ok (.iload 5, 2) := by decide +kernel
theorem dX2_see_84 : decode cX2_see 84 = .ok (.iand, 1) := by decide +kernel
theorem dX2_see_85 : decode cX2_see 85 = .ok (.putfield 19, 3) := by decide +kernel
theorem dX2_see_88 : decode cX2_see 88 = .ok (.aload_n 0, 1) := by decide +kernel
theorem dX2_see_89 : decode cX2_see 89 = .ok (.getfield 19, 3) := by decide +kernel
theorem dX2_see_92 : decode cX2_see 92 = .ok (.ireturn, 1) := by decide +kernel
theorem dX2_see_93 : decode cX2_see 93 = .ok (.aload_n 0, 1) := by decide +kernel
theorem dX2_see_94 : decode cX2_see 94 = .ok (.dup, 1) := by decide +kernel
theorem dX2_see_95 : decode cX2_see 95 = .ok (.getfield 25, 3) := by decide +kernel
theorem dX2_see_98 : decode cX2_see 98 = .ok (.iconst 1, 1) := by decide +kernel
theorem dX2_see_99 : decode cX2_see 99 = .ok (.iadd, 1) := by decide +kernel
theorem dX2_see_100 : decode cX2_see 100 = .ok (.putfield 25, 3) := by decide +kernel
theorem dX2_see_103 : decode cX2_see 103 = .ok (.aload_n 0, 1) := by decide +kernel
theorem dX2_see_104 : decode cX2_see 104 = .ok (.iload 5, 2) := by decide +kernel
theorem dX2_see_106 : decode cX2_see 106 = .ok (.ifCond .eq 8, 3) := by decide +kernel
theorem dX2_see_109 : decode cX2_see 109 = .ok (.iload 5, 2) := by decide +kernel
theorem dX2_see_111 : decode cX2_see 111 = .ok (.goto 7, 3) := by decide +kernel
theorem dX2_see_114 : decode cX2_see 114 = .ok (.aload_n 0, 1) := by decide +kernel
theorem dX2_see_115 : decode cX2_see 115 = .ok (.invokevirtual 28, 3) := by decide +kernel
theorem dX2_see_118 : decode cX2_see 118 = .ok (.putfield 19, 3) := by decide +kernel
theorem dX2_see_121 : decode cX2_see 121 = .ok (.bipush 16, 2) := by decide +kernel
theorem dX2_see_123 : decode cX2_see 123 = .ok (.aload_n 0, 1) := by decide +kernel
theorem dX2_see_124 : decode cX2_see 124 = .ok (.getfield 19, 3) := by decide +kernel
theorem dX2_see_127 : decode cX2_see 127 = .ok (.iadd, 1) := by decide +kernel
theorem dX2_see_128 : decode cX2_see 128 = .ok (.ireturn, 1) := by decide +kernel
theorem dX2_all_0 : decode cX2_all 0 = .ok (.iconst 1, 1) := by decide +kernel
theorem dX2_all_1 : decode cX2_all 1 = .ok (.aload_n 0, 1) := by decide +kernel
theorem dX2_all_2 : decode cX2_all 2 = .ok (.getfield 15, 3) := by decide +kernel
theorem dX2_all_5 : decode cX2_all 5 = .ok (.ishl, 1) := by decide +kernel
theorem dX2_all_6 : decode cX2_all 6 = .ok (.iconst 1, 1) := by decide +kernel
theorem dX2_all_7 : decode cX2_all 7 = .ok (.isub, 1) := by decide +kernel
theorem dX2_all_8 : decode cX2_all 8 = .ok (.ireturn, 1) := by decide +kernel
theorem dX3_is_0 : decode cX3_is 0 = .ok (.iload_n 0, 1) := by decide +kernel
theorem dX3_is_1 : decode cX3_is 1 = .ok (.ifCond .lt 14, 3) := by decide +kernel
theorem dX3_is_4 : decode cX3_is 4 = .ok (.iload_n 0, 1) := by decide +kernel
theorem dX3_is_5 : decode cX3_is 5 = .ok (.sipush 289, 3) := by decide +kernel
theorem dX3_is_8 : decode cX3_is 8 = .ok (.if_icmp .ge 7, 3) := by decide +kernel
theorem dX3_is_11 : decode cX3_is 11 = .ok (.iconst 1, 1) := by decide +kernel
theorem dX3_is_12 : decode cX3_is 12 = .ok (.goto 4, 3) := by decide +kernel
theorem dX3_is_15 : decode cX3_is 15 = .ok (.iconst 0, 1) := by decide +kernel
theorem dX3_is_16 : decode cX3_is 16 = .ok (.ireturn, 1) := by decide +kernel
theorem dX3_number_0 : decode cX3_number 0 = .ok (.bipush 17, 2) := by decide +kernel
theorem dX3_number_2 : decode cX3_number 2 = .ok (.iload_n 0, 1) := by decide +kernel
theorem dX3_number_3 : decode cX3_number 3 = .ok (.bipush 8, 2) := by decide +kernel
theorem dX3_number_5 : decode cX3_number 5 = .ok (.iadd, 1) := by decide +kernel
theorem dX3_number_6 : decode cX3_number 6 = .ok (.imul, 1) := by decide +kernel
theorem dX3_number_7 : decode cX3_number 7 = .ok (.iload_n 1, 1) := by decide +kernel
theorem dX3_number_8 : decode cX3_number 8 = .ok (.iadd, 1) := by decide +kernel
theorem dX3_number_9 : decode cX3_number 9 = .ok (.bipush 8, 2) := by decide +kernel
theorem dX3_number_11 : decode cX3_number 11 = .ok (.iadd, 1) := by decide +kernel
theorem dX3_number_12 : decode cX3_number 12 = .ok (.ireturn, 1) := by decide +kernel
theorem dX3_partOfState_0 : decode cX3_partOfState 0 = .ok (.iload_n 0, 1) := by decide +kernel
theorem dX3_partOfState_1 : decode cX3_partOfState 1 = .ok (.bipush 17, 2) := by decide +kernel
theorem dX3_partOfState_3 : decode cX3_partOfState 3 = .ok (.idiv, 1) := by decide +kernel
theorem dX3_partOfState_4 : decode cX3_partOfState 4 = .ok (.bipush 8, 2) := by decide +kernel
theorem dX3_partOfState_6 : decode cX3_partOfState 6 = .ok (.isub, 1) := by decide +kernel
theorem dX3_partOfState_7 : decode cX3_partOfState 7 = .ok (.ireturn, 1) := by decide +kernel
theorem dX3_partOfPush_0 : decode cX3_partOfPush 0 = .ok (.iload_n 0, 1) := by decide +kernel
theorem dX3_partOfPush_1 : decode cX3_partOfPush 1 = .ok (.bipush 17, 2) := by decide +kernel
theorem dX3_partOfPush_3 : decode cX3_partOfPush 3 = .ok (.irem, 1) := by decide +kernel
theorem dX3_partOfPush_4 : decode cX3_partOfPush 4 = .ok (.bipush 8, 2) := by decide +kernel
theorem dX3_partOfPush_6 : decode cX3_partOfPush 6 = .ok (.isub, 1) := by decide +kernel
theorem dX3_partOfPush_7 : decode cX3_partOfPush 7 = .ok (.ireturn, 1) := by decide +kernel
set_option maxRecDepth 20000 in
theorem ggX3_sum_X3_partOfState : GoodIn wsX3_sum wsX3_partOfState := goodIn_r _ [4] (by decide +kernel) (by decide +kernel)
set_option maxRecDepth 20000 in
theorem gX3_sum_X3_partOfState : GoodIn wsX3_sum (va_wsS RX3 9 yX3_partOfState wsX3_partOfState) := goodIn_app (goodIn_of _ (by decide +kernel)) ggX3_sum_X3_partOfState
set_option maxRecDepth 20000 in
theorem ggX3_sum_X3_partOfPush : GoodIn wsX3_sum wsX3_partOfPush := goodIn_r _ [7] (by decide +kernel) (by decide +kernel)
set_option maxRecDepth 20000 in
theorem gX3_sum_X3_partOfPush : GoodIn wsX3_sum (va_wsS RX3 15 yX3_partOfPush wsX3_partOfPush) := goodIn_app (goodIn_of _ (by decide +kernel)) ggX3_sum_X3_partOfPush
theorem dX3_sum_0 : decode cX3_sum 0 = .ok (.iload_n 0, 1) := by decide +kernel
theorem dX3_sum_1 : decode cX3_sum 1 = .ok (.invokestatic 9, 3) := by decide +kernel
theorem dX3_sum_4 : decode cX3_sum 4 = .ok (.iload_n 1, 1) := by decide +kernel
theorem dX3_sum_5 : decode cX3_sum 5 = .ok (.imul, 1) := by decide +kernel
theorem dX3_sum_6 : decode cX3_sum 6 = .ok (.iload_n 0, 1) := by decide +kernel
theorem dX3_sum_7 : decode cX3_sum 7 = .ok (.invokestatic 15, 3) := by decide +kernel
theorem dX3_sum_10 : decode cX3_sum 10 = .ok (.iload_n 2, 1) := by decide +kernel
theorem dX3_sum_11 : decode cX3_sum 11 = .ok (.imul, 1) := by decide +kernel
theorem dX3_sum_12 : decode cX3_sum 12 = .ok (.iadd, 1) := by decide +kernel
theorem dX3_sum_13 : decode cX3_sum 13 = .ok (.ireturn, 1) := by decide +kernel
theorem dX3_isMet_0 : decode cX3_isMet 0 = .ok (.iconst 4, 1) := by decide +kernel
theorem dX3_isMet_1 : decode cX3_isMet 1 = .ok (.iload_n 1, 1) := by decide +kernel
theorem dX3_isMet_2 : decode cX3_isMet 2 = .ok (.imul, 1) := by decide +kernel
theorem dX3_isMet_3 : decode cX3_isMet 3 = .ok (.iload_n 0, 1) := by decide +kernel
theorem dX3_isMet_4 : decode cX3_isMet 4 = .ok (.isub, 1) := by decide +kernel
theorem dX3_isMet_5 : decode cX3_isMet 5 = .ok (.invokestatic 18, 3) := by decide +kernel
theorem dX3_isMet_8 : decode cX3_isMet 8 = .ok (.iconst 4, 1) := by decide +kernel
theorem dX3_isMet_9 : decode cX3_isMet 9 = .ok (.iload_n 2, 1) := by decide +kernel
theorem dX3_isMet_10 : decode cX3_isMet 10 = .ok (.imul, 1) := by decide +kernel
theorem dX3_isMet_11 : decode cX3_isMet 11 = .ok (.if_icmp .gt 7, 3) := by decide +kernel
theorem dX3_isMet_14 : decode cX3_isMet 14 = .ok (.iconst 1, 1) := by decide +kernel
theorem dX3_isMet_15 : decode cX3_isMet 15 = .ok (.goto 4, 3) := by decide +kernel
theorem dX3_isMet_18 : decode cX3_isMet 18 = .ok (.iconst 0, 1) := by decide +kernel
theorem dX3_isMet_19 : decode cX3_isMet 19 = .ok (.ireturn, 1) := by decide +kernel
set_option maxRecDepth 20000 in
theorem ggX3_leastEnd_J9_floorDiv_7cf53 : GoodIn wsX3_leastEnd wsJ9_floorDiv_7cf53 := goodIn_r _ [4] (by decide +kernel) (by decide +kernel)
set_option maxRecDepth 20000 in
theorem gX3_leastEnd_J9_floorDiv_7cf53 : GoodIn wsX3_leastEnd (va_wsS RX3 23 yJ9_floorDiv_7cf53 wsJ9_floorDiv_7cf53) := goodIn_app (goodIn_of _ (by decide +kernel)) ggX3_leastEnd_J9_floorDiv_7cf53
theorem dX3_leastEnd_0 : decode cX3_leastEnd 0 = .ok (.iload_n 0, 1) := by decide +kernel
theorem dX3_leastEnd_1 : decode cX3_leastEnd 1 = .ok (.ineg, 1) := by decide +kernel
theorem dX3_leastEnd_2 : decode cX3_leastEnd 2 = .ok (.iconst 4, 1) := by decide +kernel
theorem dX3_leastEnd_3 : decode cX3_leastEnd 3 = .ok (.invokestatic 23, 3) := by decide +kernel
theorem dX3_leastEnd_6 : decode cX3_leastEnd 6 = .ok (.ineg, 1) := by decide +kernel
theorem dX3_leastEnd_7 : decode cX3_leastEnd 7 = .ok (.iload_n 1, 1) := by decide +kernel
theorem dX3_leastEnd_8 : decode cX3_leastEnd 8 = .ok (.isub, 1) := by decide +kernel
theorem dX3_leastEnd_9 : decode cX3_leastEnd 9 = .ok (.ireturn, 1) := by decide +kernel
set_option maxRecDepth 20000 in
theorem ggX3_greatestEnd_J9_floorDiv_7cf53 : GoodIn wsX3_greatestEnd wsJ9_floorDiv_7cf53 := goodIn_r _ [4] (by decide +kernel) (by decide +kernel)
set_option maxRecDepth 20000 in
theorem gX3_greatestEnd_J9_floorDiv_7cf53 : GoodIn wsX3_greatestEnd (va_wsS RX3 23 yJ9_floorDiv_7cf53 wsJ9_floorDiv_7cf53) := goodIn_app (goodIn_of _ (by decide +kernel)) ggX3_greatestEnd_J9_floorDiv_7cf53
theorem dX3_greatestEnd_0 : decode cX3_greatestEnd 0 = .ok (.iload_n 0, 1) := by decide +kernel
theorem dX3_greatestEnd_1 : decode cX3_greatestEnd 1 = .ok (.iconst 4, 1) := by decide +kernel
theorem dX3_greatestEnd_2 : decode cX3_greatestEnd 2 = .ok (.invokestatic 23, 3) := by decide +kernel
theorem dX3_greatestEnd_5 : decode cX3_greatestEnd 5 = .ok (.iload_n 1, 1) := by decide +kernel
theorem dX3_greatestEnd_6 : decode cX3_greatestEnd 6 = .ok (.iadd, 1) := by decide +kernel
theorem dX3_greatestEnd_7 : decode cX3_greatestEnd 7 = .ok (.ireturn, 1) := by decide +kernel
theorem dX4_init_0 : decode cX4_init 0 = .ok (.aload_n 0, 1) := by decide +kernel
theorem dX4_init_1 : decode cX4_init 1 = .ok (.invokespecial 3, 3) := by decide +kernel
theorem dX4_init_4 : decode cX4_init 4 = .ok (.aload_n 0, 1) := by decide +kernel
theorem dX4_init_5 : decode cX4_init 5 = .ok (.sipush 289, 3) := by decide +kernel
theorem dX4_init_8 : decode cX4_init 8 = .ok (.newarray .int, 2) := by decide +kernel
theorem dX4_init_10 : decode cX4_init 10 = .ok (.putfield 9, 3) := by decide +kernel
theorem dX4_init_13 : decode cX4_init 13 = .ok (.aload_n 0, 1) := by decide +kernel
theorem dX4_init_14 : decode cX4_init 14 = .ok (.iconst 0, 1) := by decide +kernel
theorem dX4_init_15 : decode cX4_init 15 = .ok (.putfield 15, 3) := by decide +kernel
theorem dX4_init_18 : decode cX4_init 18 = .ok (.aload_n 0, 1) := by decide +kernel
theorem dX4_init_19 : decode cX4_init 19 = .ok (.sipush 4096, 3) := by decide +kernel
theorem dX4_init_22 : decode cX4_init 22 = .ok (.newarray .byte, 2) := by decide +kernel
theorem dX4_init_24 : decode cX4_init 24 = .ok (.putfield 19, 3) := by decide +kernel
theorem dX4_init_27 : decode cX4_init 27 = .ok (.aload_n 0, 1) := by decide +kernel
theorem dX4_init_28 : decode cX4_init 28 = .ok (.iconst 0, 1) := by decide +kernel
theorem dX4_init_29 : decode cX4_init 29 = .ok (.putfield 23, 3) := by decide +kernel
theorem dX4_init_32 : decode cX4_init 32 = .ok (.return_, 1) := by decide +kernel
theorem dX4_forget_0 : decode cX4_forget 0 = .ok (.aload_n 0, 1) := by decide +kernel
theorem dX4_forget_1 : decode cX4_forget 1 = .ok (.iconst 0, 1) := by decide +kernel
theorem dX4_forget_2 : decode cX4_forget 2 = .ok (.putfield 23, 3) := by decide +kernel
theorem dX4_forget_5 : decode cX4_forget 5 = .ok (.return_, 1) := by decide +kernel
set_option maxRecDepth 20000 in
theorem ggX4_leastLaws_X4_countHeaps : GoodIn wsX4_leastLaws wsX4_countHeaps := goodIn_r _ [5, 6, 7, 8, 9, 10, 11, 12, 13, 14, 15, 16, 4, 17, 18, 19, 20, 21, 22, 23, 24, 25, 26, 27, 28, 29, 30, 31, 32, 33, 34, 35, 36, 37, 38, 39, 40, 41, 42, 43, 44, 45, 46, 47, 48, 49, 50, 51, 52, 53, 54, 55, 56, 57, 58, 59, 60, 61, 62, 63] (by decide +kernel) (by decide +kernel)
set_option maxRecDepth 20000 in
theorem gX4_leastLaws_X4_countHeaps : GoodIn wsX4_leastLaws (wsV RX4 26 RX4 yX4_countHeaps wsX4_countHeaps) := goodIn_app (goodIn_of _ (by decide +kernel)) ggX4_leastLaws_X4_countHeaps
set_option maxRecDepth 20000 in
theorem ggX4_leastLaws_X0_all : GoodIn wsX4_leastLaws wsX0_all := goodIn_r _ [40, 13, 57, 58, 59, 60, 61, 62, 63] (by decide +kernel) (by decide +kernel)
set_option maxRecDepth 20000 in
theorem gX4_leastLaws_X0_all : GoodIn wsX4_leastLaws (wsV RX4 30 RX0 yX0_all wsX0_all) := goodIn_app (goodIn_of _ (by decide +kernel)) ggX4_leastLaws_X0_all
set_option maxRecDepth 20000 in
theorem ggX4_leastLaws_X4_lawsFor : GoodIn wsX4_leastLaws wsX4_lawsFor := goodIn_r _ [52, 7, 53, 54, 55, 56] (by decide +kernel) (by decide +kernel)
set_option maxRecDepth 20000 in
theorem gX4_leastLaws_X4_lawsFor : GoodIn wsX4_leastLaws (wsV RX4 36 RX4 yX4_lawsFor wsX4_lawsFor) := goodIn_app (goodIn_of _ (by decide +kernel)) ggX4_leastLaws_X4_lawsFor
theorem dX4_leastLaws_0 : decode cX4_leastLaws 0 = .ok (.aload_n 0, 1) := by decide +kernel
theorem dX4_leastLaws_1 : decode cX4_leastLaws 1 = .ok (.aload_n 1, 1) := by decide +kernel
theorem dX4_leastLaws_2 : decode cX4_leastLaws 2 = .ok (.invokevirtual 26, 3) := by decide +kernel
theorem dX4_leastLaws_5 : decode cX4_leastLaws 5 = .ok (.aload_n 0, 1) := by decide +kernel
theorem dX4_leastLaws_6 : decode cX4_leastLaws 6 = .ok (.aload_n 1, 1) := by decide +kernel
theorem dX4_leastLaws_7 : decode cX4_leastLaws 7 = .ok (.invokevirtual 30, 3) := by decide +kernel
theorem dX4_leastLaws_10 : decode cX4_leastLaws 10 = .ok (.invokevirtual 36, 3) := by decide +kernel
theorem dX4_leastLaws_13 : decode cX4_leastLaws 13 = .ok (.istore_n 2, 1) := by decide +kernel
theorem dX4_leastLaws_14 : decode cX4_leastLaws 14 = .ok (.iload_n 2, 1) := by decide +kernel
theorem dX4_leastLaws_15 : decode cX4_leastLaws 15 = .ok (.bipush 100, 2) := by decide +kernel
theorem dX4_leastLaws_17 : decode cX4_leastLaws 17 = .ok (.if_icmp .lt 8, 3) := by decide +kernel
theorem dX4_leastLaws_20 : decode cX4_leastLaws 20 = .ok (.bipush (-4), 2) := by decide +kernel
theorem dX4_leastLaws_22 : decode cX4_leastLaws 22 = .ok (.goto 4, 3) := by decide +kernel
theorem dX4_leastLaws_25 : decode cX4_leastLaws 25 = .ok (.iload_n 2, 1) := by decide +kernel
theorem dX4_leastLaws_26 : decode cX4_leastLaws 26 = .ok (.ireturn, 1) := by decide +kernel
set_option maxRecDepth 20000 in
theorem ggX4_leftOut_X4_countHeaps : GoodIn wsX4_leftOut wsX4_countHeaps := goodIn_r _ [5, 6, 7, 8, 9, 10, 11, 12, 13, 14, 15, 16, 4, 17, 18, 19, 20, 21, 22, 23, 24, 25, 26, 27, 28, 29, 30, 31, 32, 33, 34, 35, 36, 37, 38, 39, 40, 41, 42, 43, 44, 45, 46, 47, 48, 49, 50, 51, 52, 60, 61, 62, 63, 64, 65, 66, 67, 68, 69, 70] (by decide +kernel) (by decide +kernel)
set_option maxRecDepth 20000 in
theorem gX4_leftOut_X4_countHeaps : GoodIn wsX4_leftOut (wsV RX4 26 RX4 yX4_countHeaps wsX4_countHeaps) := goodIn_app (goodIn_of _ (by decide +kernel)) ggX4_leftOut_X4_countHeaps
set_option maxRecDepth 20000 in
theorem ggX4_leftOut_X0_all : GoodIn wsX4_leftOut wsX0_all := goodIn_r _ [40, 13, 64, 65, 66, 67, 68, 69, 70] (by decide +kernel) (by decide +kernel)
set_option maxRecDepth 20000 in
theorem gX4_leftOut_X0_all : GoodIn wsX4_leftOut (wsV RX4 30 RX0 yX0_all wsX0_all) := goodIn_app (goodIn_of _ (by decide +kernel)) ggX4_leftOut_X0_all
set_option maxRecDepth 20000 in
theorem ggX4_leftOut_X4_lawsFor : GoodIn wsX4_leftOut wsX4_lawsFor := goodIn_r _ [52, 7, 60, 61, 62, 63] (by decide +kernel) (by decide +kernel)
set_option maxRecDepth 20000 in
theorem gX4_leftOut_X4_lawsFor : GoodIn wsX4_leftOut (wsV RX4 36 RX4 yX4_lawsFor wsX4_lawsFor) := goodIn_app (goodIn_of _ (by decide +kernel)) ggX4_leftOut_X4_lawsFor
set_option maxRecDepth 20000 in
theorem ggX4_leftOut_J6_bitCount_0f7a4 : GoodIn wsX4_leftOut wsJ6_bitCount_0f7a4 := goodIn_r _ [56, 57, 58, 59] (by decide +kernel) (by decide +kernel)
set_option maxRecDepth 20000 in
theorem gX4_leftOut_J6_bitCount_0f7a4 : GoodIn wsX4_leftOut (va_wsS RX4 40 yJ6_bitCount_0f7a4 wsJ6_bitCount_0f7a4) := goodIn_app (goodIn_of _ (by decide +kernel)) ggX4_leftOut_J6_bitCount_0f7a4
theorem dX4_leftOut_0 : decode cX4_leftOut 0 = .ok (.aload_n 0, 1) := by decide +kernel
theorem dX4_leftOut_1 : decode cX4_leftOut 1 = .ok (.aload_n 1, 1) := by decide +kernel
theorem dX4_leftOut_2 : decode cX4_leftOut 2 = .ok (.invokevirtual 26, 3) := by decide +kernel
theorem dX4_leftOut_5 : decode cX4_leftOut 5 = .ok (.iconst 0, 1) := by decide +kernel
theorem dX4_leftOut_6 : decode cX4_leftOut 6 = .ok (.istore_n 3, 1) := by decide +kernel
theorem dX4_leftOut_7 : decode cX4_leftOut 7 = .ok (.iconst 0, 1) := by decide +kernel
theorem dX4_leftOut_8 : decode cX4_leftOut 8 = .ok (.istore 4, 2) := by decide +kernel
theorem dX4_leftOut_10 : decode cX4_leftOut 10 = .ok (.iload 4, 2) := by decide +kernel
theorem dX4_leftOut_12 : decode cX4_leftOut 12 = .ok (.aload_n 1, 1) := by decide +kernel
theorem dX4_leftOut_13 : decode cX4_leftOut 13 = .ok (.invokevirtual 30, 3) := by decide +kernel
theorem dX4_leftOut_16 : decode cX4_leftOut 16 = .ok (.if_icmp .gt 34, 3) := by decide +kernel
theorem dX4_leftOut_19 : decode cX4_leftOut 19 = .ok (.aload_n 0, 1) := by decide +kernel
theorem dX4_leftOut_20 : decode cX4_leftOut 20 = .ok (.iload 4, 2) := by decide +kernel
theorem dX4_leftOut_22 : decode cX4_leftOut 22 = .ok (.invokevirtual 36, 3) := by decide +kernel
theorem dX4_leftOut_25 : decode cX4_leftOut 25 = .ok (.iload_n 2, 1) := by decide +kernel
theorem dX4_leftOut_26 : decode cX4_leftOut 26 = .ok (.if_icmp .gt 18, 3) := by decide +kernel
theorem dX4_leftOut_29 : decode cX4_leftOut 29 = .ok (.iload 4, 2) := by decide +kernel
theorem dX4_leftOut_31 : decode cX4_leftOut 31 = .ok (.invokestatic 40, 3) := by decide +kernel
theorem dX4_leftOut_34 : decode cX4_leftOut 34 = .ok (.iload_n 3, 1) := by decide +kernel
theorem dX4_leftOut_35 : decode cX4_leftOut 35 = .ok (.invokestatic 40, 3) := by decide +kernel
theorem dX4_leftOut_38 : decode cX4_leftOut 38 = .ok (.if_icmp .lt 6, 3) := by decide +kernel
theorem dX4_leftOut_41 : decode cX4_leftOut 41 = .ok (.iload 4, 2) := by decide +kernel
theorem dX4_leftOut_43 : decode cX4_leftOut 43 = .ok (.istore_n 3, 1) := by decide +kernel
theorem dX4_leftOut_44 : decode cX4_leftOut 44 = .ok (.iinc 4 1, 3) := by decide +kernel
theorem dX4_leftOut_47 : decode cX4_leftOut 47 = .ok (.goto (-37), 3) := by decide +kernel
theorem dX4_leftOut_50 : decode cX4_leftOut 50 = .ok (.aload_n 1, 1) := by decide +kernel
theorem dX4_leftOut_51 : decode cX4_leftOut 51 = .ok (.invokevirtual 30, 3) := by decide +kernel
theorem dX4_leftOut_54 : decode cX4_leftOut 54 = .ok (.iload_n 3, 1) := by decide +kernel
theorem dX4_leftOut_55 : decode cX4_leftOut 55 = .ok (.iconst (-1), 1) := by decide +kernel
theorem dX4_leftOut_56 : decode cX4_leftOut 56 = .ok (.ixor, 1) := by decide +kernel
theorem dX4_leftOut_57 : decode cX4_leftOut 57 = .ok (.iand, 1) := by decide +kernel
theorem dX4_leftOut_58 : decode cX4_leftOut 58 = .ok (.ireturn, 1) := by decide +kernel
set_option maxRecDepth 20000 in
theorem ggX4_howTogether_X4_leastLaws : GoodIn wsX4_howTogether wsX4_leastLaws := goodIn_r _ [5, 6, 7, 8, 4, 9, 10, 11, 12, 13, 14, 15, 16, 17, 18, 19, 20, 21, 22, 23, 24, 25, 26, 27, 28, 29, 30, 31, 32, 33, 34, 35, 36, 37, 38, 39, 40, 41, 42, 43, 44, 45, 46, 47, 48, 49, 50, 51, 52, 53, 54, 55, 56, 69, 70, 71, 72, 73, 74, 75, 76, 77, 78, 79] (by decide +kernel) (by decide +kernel)
set_option maxRecDepth 20000 in
theorem gX4_howTogether_X4_leastLaws : GoodIn wsX4_howTogether (wsV RX4 45 RX4 yX4_leastLaws wsX4_leastLaws) := goodIn_app (goodIn_of _ (by decide +kernel)) ggX4_howTogether_X4_leastLaws
set_option maxRecDepth 20000 in
theorem ggX4_howTogether_X0_all : GoodIn wsX4_howTogether wsX0_all := goodIn_r _ [44, 17, 73, 74, 75, 76, 77, 78, 79] (by decide +kernel) (by decide +kernel)
set_option maxRecDepth 20000 in
theorem gX4_howTogether_X0_all : GoodIn wsX4_howTogether (wsV RX4 30 RX0 yX0_all wsX0_all) := goodIn_app (goodIn_of _ (by decide +kernel)) ggX4_howTogether_X0_all
set_option maxRecDepth 20000 in
theorem ggX4_howTogether_X4_canBeTogether : GoodIn wsX4_howTogether wsX4_canBeTogether := goodIn_r _ [60, 22, 32, 53, 54, 55, 4, 56, 11, 69, 70, 71, 72] (by decide +kernel) (by decide +kernel)
set_option maxRecDepth 20000 in
theorem gX4_howTogether_X4_canBeTogether : GoodIn wsX4_howTogether (wsV RX4 49 RX4 yX4_canBeTogether wsX4_canBeTogether) := goodIn_app (goodIn_of _ (by decide +kernel)) ggX4_howTogether_X4_canBeTogether
set_option maxRecDepth 20000 in
theorem ggX4_howTogether_X4_canBeApart : GoodIn wsX4_howTogether wsX4_canBeApart := goodIn_r _ [64, 22, 32, 65, 66, 67, 4, 68, 53, 54, 55, 56, 11, 69, 70, 71, 72] (by decide +kernel) (by decide +kernel)
set_option maxRecDepth 20000 in
theorem gX4_howTogether_X4_canBeApart : GoodIn wsX4_howTogether (wsV RX4 53 RX4 yX4_canBeApart wsX4_canBeApart) := goodIn_app (goodIn_of _ (by decide +kernel)) ggX4_howTogether_X4_canBeApart
theorem dX4_howTogether_0 : decode cX4_howTogether 0 = .ok (.aload_n 0, 1) := by decide +kernel
theorem dX4_howTogether_1 : decode cX4_howTogether 1 = .ok (.aload_n 1, 1) := by decide +kernel
theorem dX4_howTogether_2 : decode cX4_howTogether 2 = .ok (.invokevirtual 45, 3) := by decide +kernel
theorem dX4_howTogether_5 : decode cX4_howTogether 5 = .ok (.istore 4, 2) := by decide +kernel
theorem dX4_howTogether_7 : decode cX4_howTogether 7 = .ok (.iload 4, 2) := by decide +kernel
theorem dX4_howTogether_9 : decode cX4_howTogether 9 = .ok (.ifCond .ge 6, 3) := by decide +kernel
theorem dX4_howTogether_12 : decode cX4_howTogether 12 = .ok (.bipush (-4), 2) := by decide +kernel
theorem dX4_howTogether_14 : decode cX4_howTogether 14 = .ok (.ireturn, 1) := by decide +kernel
theorem dX4_howTogether_15 : decode cX4_howTogether 15 = .ok (.aload_n 0, 1) := by decide +kernel
theorem dX4_howTogether_16 : decode cX4_howTogether 16 = .ok (.aload_n 1, 1) := by decide +kernel
theorem dX4_howTogether_17 : decode cX4_howTogether 17 = .ok (.invokevirtual 30, 3) := by decide +kernel
theorem dX4_howTogether_20 : decode cX4_howTogether 20 = .ok (.iconst 1, 1) := by decide +kernel
theorem dX4_howTogether_21 : decode cX4_howTogether 21 = .ok (.iload_n 2, 1) := by decide +kernel
theorem dX4_howTogether_22 : decode cX4_howTogether 22 = .ok (.ishl, 1) := by decide +kernel
theorem dX4_howTogether_23 : decode cX4_howTogether 23 = .ok (.iconst 1, 1) := by decide +kernel
theorem dX4_howTogether_24 : decode cX4_howTogether 24 = .ok (.iload_n 3, 1) := by decide +kernel
theorem dX4_howTogether_25 : decode cX4_howTogether 25 = .ok (.ishl, 1) := by decide +kernel
theorem dX4_howTogether_26 : decode cX4_howTogether 26 = .ok (.ior, 1) := by decide +kernel
theorem dX4_howTogether_27 : decode cX4_howTogether 27 = .ok (.iload 4, 2) := by decide +kernel
theorem dX4_howTogether_29 : decode cX4_howTogether 29 = .ok (.invokevirtual 49, 3) := by decide +kernel
theorem dX4_howTogether_32 : decode cX4_howTogether 32 = .ok (.ifCond .ne 5, 3) := by decide +kernel
theorem dX4_howTogether_35 : decode cX4_howTogether 35 = .ok (.iconst 0, 1) := by decide +kernel
theorem dX4_howTogether_36 : decode cX4_howTogether 36 = .ok (.ireturn, 1) := by decide +kernel
theorem dX4_howTogether_37 : decode cX4_howTogether 37 = .ok (.aload_n 0, 1) := by decide +kernel
theorem dX4_howTogether_38 : decode cX4_howTogether 38 = .ok (.aload_n 1, 1) := by decide +kernel
theorem dX4_howTogether_39 : decode cX4_howTogether 39 = .ok (.invokevirtual 30, 3) := by decide +kernel
theorem dX4_howTogether_42 : decode cX4_howTogether 42 = .ok (.iconst 1, 1) := by decide +kernel
theorem dX4_howTogether_43 : decode cX4_howTogether 43 = .ok (.iload_n 2, 1) := by decide +kernel
theorem dX4_howTogether_44 : decode cX4_howTogether 44 = .ok (.ishl, 1) := by decide +kernel
theorem dX4_howTogether_45 : decode cX4_howTogether 45 = .ok (.iconst 1, 1) := by decide +kernel
theorem dX4_howTogether_46 : decode cX4_howTogether 46 = .ok (.iload_n 3, 1) := by decide +kernel
theorem dX4_howTogether_47 : decode cX4_howTogether 47 = .ok (.ishl, 1) := by decide +kernel
theorem dX4_howTogether_48 : decode cX4_howTogether 48 = .ok (.iload 4, 2) := by decide +kernel
theorem dX4_howTogether_50 : decode cX4_howTogether 50 = .ok (.invokevirtual 53, 3) := by decide +kernel
theorem dX4_howTogether_53 : decode cX4_howTogether 53 = .ok (.ifCond .eq 7, 3) := by decide +kernel
theorem dX4_howTogether_56 : decode cX4_howTogether 56 = .ok (.iconst 1, 1) := by decide +kernel
theorem dX4_howTogether_57 : decode cX4_howTogether 57 = .ok (.goto 4, 3) := by decide +kernel
theorem dX4_howTogether_60 : decode cX4_howTogether 60 = .ok (.iconst 2, 1) := by decide +kernel
theorem dX4_howTogether_61 : decode cX4_howTogether 61 = .ok (.ireturn, 1) := by decide +kernel
set_option maxRecDepth 20000 in
theorem ggX4_canBeTogether_X4_lawsFor : GoodIn wsX4_canBeTogether wsX4_lawsFor := goodIn_r _ [7, 8, 9, 10, 11, 12] (by decide +kernel) (by decide +kernel)
set_option maxRecDepth 20000 in
theorem gX4_canBeTogether_X4_lawsFor : GoodIn wsX4_canBeTogether (wsV RX4 36 RX4 yX4_lawsFor wsX4_lawsFor) := goodIn_app (goodIn_of _ (by decide +kernel)) ggX4_canBeTogether_X4_lawsFor
theorem dX4_canBeTogether_0 : decode cX4_canBeTogether 0 = .ok (.iconst 0, 1) := by decide +kernel
theorem dX4_canBeTogether_1 : decode cX4_canBeTogether 1 = .ok (.istore 4, 2) := by decide +kernel
theorem dX4_canBeTogether_3 : decode cX4_canBeTogether 3 = .ok (.iload 4, 2) := by decide +kernel
theorem dX4_canBeTogether_5 : decode cX4_canBeTogether 5 = .ok (.aload_n 0, 1) := by decide +kernel
theorem dX4_canBeTogether_6 : decode cX4_canBeTogether 6 = .ok (.getfield 15, 3) := by decide +kernel
theorem dX4_canBeTogether_9 : decode cX4_canBeTogether 9 = .ok (.if_icmp .ge 53, 3) := by decide +kernel
theorem dX4_canBeTogether_12 : decode cX4_canBeTogether 12 = .ok (.iload 4, 2) := by decide +kernel
theorem dX4_canBeTogether_14 : decode cX4_canBeTogether 14 = .ok (.aload_n 0, 1) := by decide +kernel
theorem dX4_canBeTogether_15 : decode cX4_canBeTogether 15 = .ok (.getfield 9, 3) := by decide +kernel
theorem dX4_canBeTogether_18 : decode cX4_canBeTogether 18 = .ok (.arraylength, 1) := by decide +kernel
theorem dX4_canBeTogether_19 : decode cX4_canBeTogether 19 = .ok (.if_icmp .ge 43, 3) := by decide +kernel
theorem dX4_canBeTogether_22 : decode cX4_canBeTogether 22 = .ok (.aload_n 0, 1) := by decide +kernel
theorem dX4_canBeTogether_23 : decode cX4_canBeTogether 23 = .ok (.getfield 9, 3) := by decide +kernel
theorem dX4_canBeTogether_26 : decode cX4_canBeTogether 26 = .ok (.iload 4, 2) := by decide +kernel
theorem dX4_canBeTogether_28 : decode cX4_canBeTogether 28 = .ok (.iaload, 1) := by decide +kernel
theorem dX4_canBeTogether_29 : decode cX4_canBeTogether 29 = .ok (.iload_n 2, 1) := by decide +kernel
theorem dX4_canBeTogether_30 : decode cX4_canBeTogether 30 = .ok (.iand, 1) := by decide +kernel
theorem dX4_canBeTogether_31 : decode cX4_canBeTogether 31 = .ok (.iload_n 2, 1) := by decide +kernel
theorem dX4_canBeTogether_32 : decode cX4_canBeTogether 32 = .ok (.if_icmp .ne 24, 3) := by decide +kernel
theorem dX4_canBeTogether_35 : decode cX4_canBeTogether 35 = .ok (.aload_n 0, 1) := by decide +kernel
theorem dX4_canBeTogether_36 : decode cX4_canBeTogether 36 = .ok (.iload_n 1, 1) := by decide +kernel
theorem dX4_canBeTogether_37 : decode cX4_canBeTogether 37 = .ok (.aload_n 0, 1) := by decide +kernel
theorem dX4_canBeTogether_38 : decode cX4_canBeTogether 38 = .ok (.getfield 9, 3) := by decide +kernel
theorem dX4_canBeTogether_41 : decode cX4_canBeTogether 41 = .ok (.iload 4, 2) := by decide +kernel
theorem dX4_canBeTogether_43 : decode cX4_canBeTogether 43 = .ok (.iaload, 1) := by decide +kernel
theorem dX4_canBeTogether_44 : decode cX4_canBeTogether 44 = .ok (.iconst (-1), 1) := by decide +kernel
theorem dX4_canBeTogether_45 : decode cX4_canBeTogether 45 = .ok (.ixor, 1) := by decide +kernel
theorem dX4_canBeTogether_46 : decode cX4_canBeTogether 46 = .ok (.iand, 1) := by decide +kernel
theorem dX4_canBeTogether_47 : decode cX4_canBeTogether 47 = .ok (.invokevirtual 36, 3) := by decide +kernel
theorem dX4_canBeTogether_50 : decode cX4_canBeTogether 50 = .ok (.iload_n 3, 1) := by decide +kernel
theorem dX4_canBeTogether_51 : decode cX4_canBeTogether 51 = .ok (.if_icmp .ge 5, 3) := by decide +kernel
theorem dX4_canBeTogether_54 : decode cX4_canBeTogether 54 = .ok (.iconst 1, 1) := by decide +kernel
theorem dX4_canBeTogether_55 : decode cX4_canBeTogether 55 = .ok (.ireturn, 1) := by decide +kernel
theorem dX4_canBeTogether_56 : decode cX4_canBeTogether 56 = .ok (.iinc 4 1, 3) := by decide +kernel
theorem dX4_canBeTogether_59 : decode cX4_canBeTogether 59 = .ok (.goto (-56), 3) := by decide +kernel
theorem dX4_canBeTogether_62 : decode cX4_canBeTogether 62 = .ok (.iconst 0, 1) := by decide +kernel
theorem dX4_canBeTogether_63 : decode cX4_canBeTogether 63 = .ok (.ireturn, 1) := by decide +kernel
set_option maxRecDepth 20000 in
theorem ggX4_canBeApart_X4_canBeBeside : GoodIn wsX4_canBeApart wsX4_canBeBeside := goodIn_r _ [7, 1, 2, 8, 9, 10, 6, 11, 12, 13, 14, 15, 16] (by decide +kernel) (by decide +kernel)
set_option maxRecDepth 20000 in
theorem gX4_canBeApart_X4_canBeBeside : GoodIn wsX4_canBeApart (wsV RX4 57 RX4 yX4_canBeBeside wsX4_canBeBeside) := goodIn_app (goodIn_of _ (by decide +kernel)) ggX4_canBeApart_X4_canBeBeside
theorem dX4_canBeApart_0 : decode cX4_canBeApart 0 = .ok (.iconst 0, 1) := by decide +kernel
theorem dX4_canBeApart_1 : decode cX4_canBeApart 1 = .ok (.istore 5, 2) := by decide +kernel
theorem dX4_canBeApart_3 : decode cX4_canBeApart 3 = .ok (.iload 5, 2) := by decide +kernel
theorem dX4_canBeApart_5 : decode cX4_canBeApart 5 = .ok (.aload_n 0, 1) := by decide +kernel
theorem dX4_canBeApart_6 : decode cX4_canBeApart 6 = .ok (.getfield 15, 3) := by decide +kernel
theorem dX4_canBeApart_9 : decode cX4_canBeApart 9 = .ok (.if_icmp .ge 54, 3) := by decide +kernel
theorem dX4_canBeApart_12 : decode cX4_canBeApart 12 = .ok (.iload 5, 2) := by decide +kernel
theorem dX4_canBeApart_14 : decode cX4_canBeApart 14 = .ok (.aload_n 0, 1) := by decide +kernel
theorem dX4_canBeApart_15 : decode cX4_canBeApart 15 = .ok (.getfield 9, 3) := by decide +kernel
theorem dX4_canBeApart_18 : decode cX4_canBeApart 18 = .ok (.arraylength, 1) := by decide +kernel
theorem dX4_canBeApart_19 : decode cX4_canBeApart 19 = .ok (.if_icmp .ge 44, 3) := by decide +kernel
theorem dX4_canBeApart_22 : decode cX4_canBeApart 22 = .ok (.aload_n 0, 1) := by decide +kernel
theorem dX4_canBeApart_23 : decode cX4_canBeApart 23 = .ok (.getfield 9, 3) := by decide +kernel
theorem dX4_canBeApart_26 : decode cX4_canBeApart 26 = .ok (.iload 5, 2) := by decide +kernel
theorem dX4_canBeApart_28 : decode cX4_canBeApart 28 = .ok (.iaload, 1) := by decide +kernel
theorem dX4_canBeApart_29 : decode cX4_canBeApart 29 = .ok (.iload_n 2, 1) := by decide +kernel
theorem dX4_canBeApart_30 : decode cX4_canBeApart 30 = .ok (.iand, 1) := by decide +kernel
theorem dX4_canBeApart_31 : decode cX4_canBeApart 31 = .ok (.ifCond .eq 26, 3) := by decide +kernel
theorem dX4_canBeApart_34 : decode cX4_canBeApart 34 = .ok (.aload_n 0, 1) := by decide +kernel
theorem dX4_canBeApart_35 : decode cX4_canBeApart 35 = .ok (.iload_n 1, 1) := by decide +kernel
theorem dX4_canBeApart_36 : decode cX4_canBeApart 36 = .ok (.aload_n 0, 1) := by decide +kernel
theorem dX4_canBeApart_37 : decode cX4_canBeApart 37 = .ok (.getfield 9, 3) := by decide +kernel
theorem dX4_canBeApart_40 : decode cX4_canBeApart 40 = .ok (.iload 5, 2) := by decide +kernel
theorem dX4_canBeApart_42 : decode cX4_canBeApart 42 = .ok (.iaload, 1) := by decide +kernel
theorem dX4_canBeApart_43 : decode cX4_canBeApart 43 = .ok (.iconst (-1), 1) := by decide +kernel
theorem dX4_canBeApart_44 : decode cX4_canBeApart 44 = .ok (.ixor, 1) := by decide +kernel
theorem dX4_canBeApart_45 : decode cX4_canBeApart 45 = .ok (.iand, 1) := by decide +kernel
theorem dX4_canBeApart_46 : decode cX4_canBeApart 46 = .ok (.iload_n 3, 1) := by decide +kernel
theorem dX4_canBeApart_47 : decode cX4_canBeApart 47 = .ok (.iload 4, 2) := by decide +kernel
theorem dX4_canBeApart_49 : decode cX4_canBeApart 49 = .ok (.invokevirtual 57, 3) := by decide +kernel
theorem dX4_canBeApart_52 : decode cX4_canBeApart 52 = .ok (.ifCond .eq 5, 3) := by decide +kernel
theorem dX4_canBeApart_55 : decode cX4_canBeApart 55 = .ok (.iconst 1, 1) := by decide +kernel
theorem dX4_canBeApart_56 : decode cX4_canBeApart 56 = .ok (.ireturn, 1) := by decide +kernel
theorem dX4_canBeApart_57 : decode cX4_canBeApart 57 = .ok (.iinc 5 1, 3) := by decide +kernel
theorem dX4_canBeApart_60 : decode cX4_canBeApart 60 = .ok (.goto (-57), 3) := by decide +kernel
theorem dX4_canBeApart_63 : decode cX4_canBeApart 63 = .ok (.iconst 0, 1) := by decide +kernel
theorem dX4_canBeApart_64 : decode cX4_canBeApart 64 = .ok (.ireturn, 1) := by decide +kernel
set_option maxRecDepth 20000 in
theorem ggX4_canBeBeside_X4_lawsFor : GoodIn wsX4_canBeBeside wsX4_lawsFor := goodIn_r _ [7, 8, 9, 10, 11, 12] (by decide +kernel) (by decide +kernel)
set_option maxRecDepth 20000 in
theorem gX4_canBeBeside_X4_lawsFor : GoodIn wsX4_canBeBeside (wsV RX4 36 RX4 yX4_lawsFor wsX4_lawsFor) := goodIn_app (goodIn_of _ (by decide +kernel)) ggX4_canBeBeside_X4_lawsFor
theorem dX4_canBeBeside_0 : decode cX4_canBeBeside 0 = .ok (.iconst 0, 1) := by decide +kernel
theorem dX4_canBeBeside_1 : decode cX4_canBeBeside 1 = .ok (.istore 4, 2) := by decide +kernel
theorem dX4_canBeBeside_3 : decode cX4_canBeBeside 3 = .ok (.iload 4, 2) := by decide +kernel
theorem dX4_canBeBeside_5 : decode cX4_canBeBeside 5 = .ok (.aload_n 0, 1) := by decide +kernel
theorem dX4_canBeBeside_6 : decode cX4_canBeBeside 6 = .ok (.getfield 15, 3) := by decide +kernel
theorem dX4_canBeBeside_9 : decode cX4_canBeBeside 9 = .ok (.if_icmp .ge 54, 3) := by decide +kernel
theorem dX4_canBeBeside_12 : decode cX4_canBeBeside 12 = .ok (.iload 4, 2) := by decide +kernel
theorem dX4_canBeBeside_14 : decode cX4_canBeBeside 14 = .ok (.aload_n 0, 1) := by decide +kernel
theorem dX4_canBeBeside_15 : decode cX4_canBeBeside 15 = .ok (.getfield 9, 3) := by decide +kernel
theorem dX4_canBeBeside_18 : decode cX4_canBeBeside 18 = .ok (.arraylength, 1) := by decide +kernel
theorem dX4_canBeBeside_19 : decode cX4_canBeBeside 19 = .ok (.if_icmp .ge 44, 3) := by decide +kernel
theorem dX4_canBeBeside_22 : decode cX4_canBeBeside 22 = .ok (.aload_n 0, 1) := by decide +kernel
theorem dX4_canBeBeside_23 : decode cX4_canBeBeside 23 = .ok (.getfield 9, 3) := by decide +kernel
theorem dX4_canBeBeside_26 : decode cX4_canBeBeside 26 = .ok (.iload 4, 2) := by decide +kernel
theorem dX4_canBeBeside_28 : decode cX4_canBeBeside 28 = .ok (.iaload, 1) := by decide +kernel
theorem dX4_canBeBeside_29 : decode cX4_canBeBeside 29 = .ok (.iload_n 2, 1) := by decide +kernel
theorem dX4_canBeBeside_30 : decode cX4_canBeBeside 30 = .ok (.iand, 1) := by decide +kernel
theorem dX4_canBeBeside_31 : decode cX4_canBeBeside 31 = .ok (.ifCond .eq 26, 3) := by decide +kernel
theorem dX4_canBeBeside_34 : decode cX4_canBeBeside 34 = .ok (.aload_n 0, 1) := by decide +kernel
theorem dX4_canBeBeside_35 : decode cX4_canBeBeside 35 = .ok (.iload_n 1, 1) := by decide +kernel
theorem dX4_canBeBeside_36 : decode cX4_canBeBeside 36 = .ok (.aload_n 0, 1) := by decide +kernel
theorem dX4_canBeBeside_37 : decode cX4_canBeBeside 37 = .ok (.getfield 9, 3) := by decide +kernel
theorem dX4_canBeBeside_40 : decode cX4_canBeBeside 40 = .ok (.iload 4, 2) := by decide +kernel
theorem dX4_canBeBeside_42 : decode cX4_canBeBeside 42 = .ok (.iaload, 1) := by decide +kernel
theorem dX4_canBeBeside_43 : decode cX4_canBeBeside 43 = .ok (.iconst (-1), 1) := by decide +kernel
theorem dX4_canBeBeside_44 : decode cX4_canBeBeside 44 = .ok (.ixor, 1) := by decide +kernel
theorem dX4_canBeBeside_45 : decode cX4_canBeBeside 45 = .ok (.iand, 1) := by decide +kernel
theorem dX4_canBeBeside_46 : decode cX4_canBeBeside 46 = .ok (.invokevirtual 36, 3) := by decide +kernel
theorem dX4_canBeBeside_49 : decode cX4_canBeBeside 49 = .ok (.iload_n 3, 1) := by decide +kernel
theorem dX4_canBeBeside_50 : decode cX4_canBeBeside 50 = .ok (.iconst 1, 1) := by decide +kernel
theorem dX4_canBeBeside_51 : decode cX4_canBeBeside 51 = .ok (.isub, 1) := by decide +kernel
theorem dX4_canBeBeside_52 : decode cX4_canBeBeside 52 = .ok (.if_icmp .ge 5, 3) := by decide +kernel
theorem dX4_canBeBeside_55 : decode cX4_canBeBeside 55 = .ok (.iconst 1, 1) := by decide +kernel
theorem dX4_canBeBeside_56 : decode cX4_canBeBeside 56 = .ok (.ireturn, 1) := by decide +kernel
theorem dX4_canBeBeside_57 : decode cX4_canBeBeside 57 = .ok (.iinc 4 1, 3) := by decide +kernel
theorem dX4_canBeBeside_60 : decode cX4_canBeBeside 60 = .ok (.goto (-57), 3) := by decide +kernel
theorem dX4_canBeBeside_63 : decode cX4_canBeBeside 63 = .ok (.iconst 0, 1) := by decide +kernel
theorem dX4_canBeBeside_64 : decode cX4_canBeBeside 64 = .ok (.ireturn, 1) := by decide +kernel
theorem dX4_lawsFor_0 : decode cX4_lawsFor 0 = .ok (.iload_n 1, 1) := by decide +kernel
theorem dX4_lawsFor_1 : decode cX4_lawsFor 1 = .ok (.ifCond .lt 21, 3) := by decide +kernel
theorem dX4_lawsFor_4 : decode cX4_lawsFor 4 = .ok (.iload_n 1, 1) := by decide +kernel
theorem dX4_lawsFor_5 : decode cX4_lawsFor 5 = .ok (.aload_n 0, 1) := by decide +kernel
theorem dX4_lawsFor_6 : decode cX4_lawsFor 6 = .ok (.getfield 19, 3) := by decide +kernel
theorem dX4_lawsFor_9 : decode cX4_lawsFor 9 = .ok (.arraylength, 1) := by decide +kernel
theorem dX4_lawsFor_10 : decode cX4_lawsFor 10 = .ok (.if_icmp .ge 12, 3) := by decide +kernel
theorem dX4_lawsFor_13 : decode cX4_lawsFor 13 = .ok (.aload_n 0, 1) := by decide +kernel
theorem dX4_lawsFor_14 : decode cX4_lawsFor 14 = .ok (.getfield 19, 3) := by decide +kernel
theorem dX4_lawsFor_17 : decode cX4_lawsFor 17 = .ok (.iload_n 1, 1) := by decide +kernel
theorem dX4_lawsFor_18 : decode cX4_lawsFor 18 = .ok (.baload, 1) := by decide +kernel
theorem dX4_lawsFor_19 : decode cX4_lawsFor 19 = .ok (.goto 5, 3) := by decide +kernel
theorem dX4_lawsFor_22 : decode cX4_lawsFor 22 = .ok (.bipush 100, 2) := by decide +kernel
theorem dX4_lawsFor_24 : decode cX4_lawsFor 24 = .ok (.ireturn, 1) := by decide +kernel
set_option maxRecDepth 20000 in
theorem ggX4_countHeaps_X0_size : GoodIn wsX4_countHeaps wsX0_size := goodIn_r _ [7, 8, 53, 54, 55, 56, 57, 58, 59] (by decide +kernel) (by decide +kernel)
set_option maxRecDepth 20000 in
theorem gX4_countHeaps_X0_size : GoodIn wsX4_countHeaps (wsV RX4 60 RX0 yX0_size wsX0_size) := goodIn_app (goodIn_of _ (by decide +kernel)) ggX4_countHeaps_X0_size
set_option maxRecDepth 20000 in
theorem ggX4_countHeaps_X4_findGreatest : GoodIn wsX4_countHeaps wsX4_findGreatest := goodIn_r _ [13, 14, 15, 16, 17, 6, 18, 19, 20, 21, 22, 12, 23, 24, 25, 26, 27, 28, 29, 30, 31, 32, 49, 50, 51, 52, 53, 54, 55, 56, 57, 58, 59] (by decide +kernel) (by decide +kernel)
set_option maxRecDepth 20000 in
theorem gX4_countHeaps_X4_findGreatest : GoodIn wsX4_countHeaps (wsV RX4 63 RX4 yX4_findGreatest wsX4_findGreatest) := goodIn_app (goodIn_of _ (by decide +kernel)) ggX4_countHeaps_X4_findGreatest
set_option maxRecDepth 20000 in
theorem ggX4_countHeaps_X0_all : GoodIn wsX4_countHeaps wsX0_all := goodIn_r _ [36, 8, 53, 54, 55, 56, 57, 58, 59] (by decide +kernel) (by decide +kernel)
set_option maxRecDepth 20000 in
theorem gX4_countHeaps_X0_all : GoodIn wsX4_countHeaps (wsV RX4 30 RX0 yX0_all wsX0_all) := goodIn_app (goodIn_of _ (by decide +kernel)) ggX4_countHeaps_X0_all
set_option maxRecDepth 20000 in
theorem ggX4_countHeaps_X4_countLaws : GoodIn wsX4_countHeaps wsX4_countLaws := goodIn_r _ [40, 14, 24, 41, 42, 43, 44, 45, 46, 47, 12, 48, 2, 49, 50, 51, 52] (by decide +kernel) (by decide +kernel)
set_option maxRecDepth 20000 in
theorem gX4_countHeaps_X4_countLaws : GoodIn wsX4_countHeaps (wsV RX4 66 RX4 yX4_countLaws wsX4_countLaws) := goodIn_app (goodIn_of _ (by decide +kernel)) ggX4_countHeaps_X4_countLaws
theorem dX4_countHeaps_0 : decode cX4_countHeaps 0 = .ok (.aload_n 0, 1) := by decide +kernel
theorem dX4_countHeaps_1 : decode cX4_countHeaps 1 = .ok (.getfield 23, 3) := by decide +kernel
theorem dX4_countHeaps_4 : decode cX4_countHeaps 4 = .ok (.aload_n 1, 1) := by decide +kernel
theorem dX4_countHeaps_5 : decode cX4_countHeaps 5 = .ok (.invokevirtual 60, 3) := by decide +kernel
theorem dX4_countHeaps_8 : decode cX4_countHeaps 8 = .ok (.if_icmp .ne 4, 3) := by decide +kernel
theorem dX4_countHeaps_11 : decode cX4_countHeaps 11 = .ok (.return_, 1) := by decide +kernel
theorem dX4_countHeaps_12 : decode cX4_countHeaps 12 = .ok (.aload_n 0, 1) := by decide +kernel
theorem dX4_countHeaps_13 : decode cX4_countHeaps 13 = .ok (.aload_n 1, 1) := by decide +kernel
theorem dX4_countHeaps_14 : decode cX4_countHeaps 14 = .ok (.invokevirtual 63, 3) := by decide +kernel
theorem dX4_countHeaps_17 : decode cX4_countHeaps 17 = .ok (.iconst 1, 1) := by decide +kernel
theorem dX4_countHeaps_18 : decode cX4_countHeaps 18 = .ok (.aload_n 0, 1) := by decide +kernel
theorem dX4_countHeaps_19 : decode cX4_countHeaps 19 = .ok (.getfield 23, 3) := by decide +kernel
theorem dX4_countHeaps_22 : decode cX4_countHeaps 22 = .ok (.ishl, 1) := by decide +kernel
theorem dX4_countHeaps_23 : decode cX4_countHeaps 23 = .ok (.istore_n 2, 1) := by decide +kernel
theorem dX4_countHeaps_24 : decode cX4_countHeaps 24 = .ok (.iload_n 2, 1) := by decide +kernel
theorem dX4_countHeaps_25 : decode cX4_countHeaps 25 = .ok (.aload_n 1, 1) := by decide +kernel
theorem dX4_countHeaps_26 : decode cX4_countHeaps 26 = .ok (.invokevirtual 30, 3) := by decide +kernel
theorem dX4_countHeaps_29 : decode cX4_countHeaps 29 = .ok (.if_icmp .gt 30, 3) := by decide +kernel
theorem dX4_countHeaps_32 : decode cX4_countHeaps 32 = .ok (.iload_n 2, 1) := by decide +kernel
theorem dX4_countHeaps_33 : decode cX4_countHeaps 33 = .ok (.aload_n 0, 1) := by decide +kernel
theorem dX4_countHeaps_34 : decode cX4_countHeaps 34 = .ok (.getfield 19, 3) := by decide +kernel
theorem dX4_countHeaps_37 : decode cX4_countHeaps 37 = .ok (.arraylength, 1) := by decide +kernel
theorem dX4_countHeaps_38 : decode cX4_countHeaps 38 = .ok (.if_icmp .ge 21, 3) := by decide +kernel
theorem dX4_countHeaps_41 : decode cX4_countHeaps 41 = .ok (.aload_n 0, 1) := by decide +kernel
theorem dX4_countHeaps_42 : decode cX4_countHeaps 42 = .ok (.getfield 19, 3) := by decide +kernel
theorem dX4_countHeaps_45 : decode cX4_countHeaps 45 = .ok (.iload_n 2, 1) := by decide +kernel
theorem dX4_countHeaps_46 : decode cX4_countHeaps 46 = .ok (.aload_n 0, 1) := by decide +kernel
theorem dX4_countHeaps_47 : decode cX4_countHeaps 47 = .ok (.iload_n 2, 1) := by decide +kernel
theorem dX4_countHeaps_48 : decode cX4_countHeaps 48 = .ok (.invokevirtual 66, 3) := by decide +kernel
theorem dX4_countHeaps_51 : decode cX4_countHeaps 51 = .ok (.i2b, 1) := by decide +kernel
theorem dX4_countHeaps_52 : decode cX4_countHeaps 52 = .ok (.bastore, 1) := by decide +kernel
theorem dX4_countHeaps_53 : decode cX4_countHeaps 53 = .ok (.iinc 2 1, 3) := by decide +kernel
theorem dX4_countHeaps_56 : decode cX4_countHeaps 56 = .ok (.goto (-32), 3) := by decide +kernel
theorem dX4_countHeaps_59 : decode cX4_countHeaps 59 = .ok (.aload_n 0, 1) := by decide +kernel
theorem dX4_countHeaps_60 : decode cX4_countHeaps 60 = .ok (.aload_n 1, 1) := by decide +kernel
theorem dX4_countHeaps_61 : decode cX4_countHeaps 61 = .ok (.invokevirtual 60, 3) := by decide +kernel
theorem dX4_countHeaps_64 : decode cX4_countHeaps 64 = .ok (.putfield 23, 3) := by decide +kernel
theorem dX4_countHeaps_67 : decode cX4_countHeaps 67 = .ok (.return_, 1) := by decide +kernel
set_option maxRecDepth 20000 in
theorem ggX4_countLaws_X4_lawsFor : GoodIn wsX4_countLaws wsX4_lawsFor := goodIn_r _ [11, 12, 13, 14, 15, 16] (by decide +kernel) (by decide +kernel)
set_option maxRecDepth 20000 in
theorem gX4_countLaws_X4_lawsFor : GoodIn wsX4_countLaws (wsV RX4 36 RX4 yX4_lawsFor wsX4_lawsFor) := goodIn_app (goodIn_of _ (by decide +kernel)) ggX4_countLaws_X4_lawsFor
theorem dX4_countLaws_0 : decode cX4_countLaws 0 = .ok (.iload_n 1, 1) := by decide +kernel
theorem dX4_countLaws_1 : decode cX4_countLaws 1 = .ok (.iload_n 1, 1) := by decide +kernel
theorem dX4_countLaws_2 : decode cX4_countLaws 2 = .ok (.ineg, 1) := by decide +kernel
theorem dX4_countLaws_3 : decode cX4_countLaws 3 = .ok (.iand, 1) := by decide +kernel
theorem dX4_countLaws_4 : decode cX4_countLaws 4 = .ok (.istore_n 2, 1) := by decide +kernel
theorem dX4_countLaws_5 : decode cX4_countLaws 5 = .ok (.bipush 100, 2) := by decide +kernel
theorem dX4_countLaws_7 : decode cX4_countLaws 7 = .ok (.istore_n 3, 1) := by decide +kernel
theorem dX4_countLaws_8 : decode cX4_countLaws 8 = .ok (.iconst 0, 1) := by decide +kernel
theorem dX4_countLaws_9 : decode cX4_countLaws 9 = .ok (.istore 4, 2) := by decide +kernel
theorem dX4_countLaws_11 : decode cX4_countLaws 11 = .ok (.iload 4, 2) := by decide +kernel
theorem dX4_countLaws_13 : decode cX4_countLaws 13 = .ok (.aload_n 0, 1) := by decide +kernel
theorem dX4_countLaws_14 : decode cX4_countLaws 14 = .ok (.getfield 15, 3) := by decide +kernel
theorem dX4_countLaws_17 : decode cX4_countLaws 17 = .ok (.if_icmp .ge 53, 3) := by decide +kernel
theorem dX4_countLaws_20 : decode cX4_countLaws 20 = .ok (.iload 4, 2) := by decide +kernel
theorem dX4_countLaws_22 : decode cX4_countLaws 22 = .ok (.aload_n 0, 1) := by decide +kernel
theorem dX4_countLaws_23 : decode cX4_countLaws 23 = .ok (.getfield 9, 3) := by decide +kernel
theorem dX4_countLaws_26 : decode cX4_countLaws 26 = .ok (.arraylength, 1) := by decide +kernel
theorem dX4_countLaws_27 : decode cX4_countLaws 27 = .ok (.if_icmp .ge 43, 3) := by decide +kernel
theorem dX4_countLaws_30 : decode cX4_countLaws 30 = .ok (.aload_n 0, 1) := by decide +kernel
theorem dX4_countLaws_31 : decode cX4_countLaws 31 = .ok (.getfield 9, 3) := by decide +kernel
theorem dX4_countLaws_34 : decode cX4_countLaws 34 = .ok (.iload 4, 2) := by decide +kernel
theorem dX4_countLaws_36 : decode cX4_countLaws 36 = .ok (.iaload, 1) := by decide +kernel
theorem dX4_countLaws_37 : decode cX4_countLaws 37 = .ok (.iload_n 2, 1) := by decide +kernel
theorem dX4_countLaws_38 : decode cX4_countLaws 38 = .ok (.iand, 1) := by decide +kernel
theorem dX4_countLaws_39 : decode cX4_countLaws 39 = .ok (.ifCond .eq 25, 3) := by decide +kernel
theorem dX4_countLaws_42 : decode cX4_countLaws 42 = .ok (.iload_n 3, 1) := by decide +kernel
theorem dX4_countLaws_43 : decode cX4_countLaws 43 = .ok (.iconst 1, 1) := by decide +kernel
theorem dX4_countLaws_44 : decode cX4_countLaws 44 = .ok (.aload_n 0, 1) := by decide +kernel
theorem dX4_countLaws_45 : decode cX4_countLaws 45 = .ok (.iload_n 1, 1) := by decide +kernel
theorem dX4_countLaws_46 : decode cX4_countLaws 46 = .ok (.aload_n 0, 1) := by decide +kernel
theorem dX4_countLaws_47 : decode cX4_countLaws 47 = .ok (.getfield 9, 3) := by decide +kernel
theorem dX4_countLaws_50 : decode cX4_countLaws 50 = .ok (.iload 4, 2) := by decide +kernel
theorem dX4_countLaws_52 : decode cX4_countLaws 52 = .ok (.iaload, 1) := by decide +kernel
theorem dX4_countLaws_53 : decode cX4_countLaws 53 = .ok (.iconst (-1), 1) := by decide +kernel
theorem dX4_countLaws_54 : decode cX4_countLaws 54 = .ok (.ixor, 1) := by decide +kernel
theorem dX4_countLaws_55 : decode cX4_countLaws 55 = .ok (.iand, 1) := by decide +kernel
theorem dX4_countLaws_56 : decode cX4_countLaws 56 = .ok (.invokevirtual 36, 3) := by decide +kernel
theorem dX4_countLaws_59 : decode cX4_countLaws 59 = .ok (.iadd, 1) := by decide +kernel
theorem dX4_countLaws_60 : decode cX4_countLaws 60 = .ok (.invokestatic 69, 3) := by decide +kernel
theorem dX4_countLaws_63 : decode cX4_countLaws 63 = .ok (.istore_n 3, 1) := by decide +kernel
theorem dX4_countLaws_64 : decode cX4_countLaws 64 = .ok (.iinc 4 1, 3) := by decide +kernel
theorem dX4_countLaws_67 : decode cX4_countLaws 67 = .ok (.goto (-56), 3) := by decide +kernel
theorem dX4_countLaws_70 : decode cX4_countLaws 70 = .ok (.iload_n 3, 1) := by decide +kernel
theorem dX4_countLaws_71 : decode cX4_countLaws 71 = .ok (.ireturn, 1) := by decide +kernel
set_option maxRecDepth 20000 in
theorem ggX4_findGreatest_X0_rowsMeeting : GoodIn wsX4_findGreatest wsX0_rowsMeeting := goodIn_r _ [6, 7, 26, 27, 28, 29, 30, 31, 32] (by decide +kernel) (by decide +kernel)
set_option maxRecDepth 20000 in
theorem gX4_findGreatest_X0_rowsMeeting : GoodIn wsX4_findGreatest (wsV RX4 75 RX0 yX0_rowsMeeting wsX0_rowsMeeting) := goodIn_app (goodIn_of _ (by decide +kernel)) ggX4_findGreatest_X0_rowsMeeting
set_option maxRecDepth 20000 in
theorem ggX4_findGreatest_X4_isWithinGreatest : GoodIn wsX4_findGreatest wsX4_isWithinGreatest := goodIn_r _ [12, 1, 13, 22, 23, 24, 25] (by decide +kernel) (by decide +kernel)
set_option maxRecDepth 20000 in
theorem gX4_findGreatest_X4_isWithinGreatest : GoodIn wsX4_findGreatest (wsV RX4 78 RX4 yX4_isWithinGreatest wsX4_isWithinGreatest) := goodIn_app (goodIn_of _ (by decide +kernel)) ggX4_findGreatest_X4_isWithinGreatest
set_option maxRecDepth 20000 in
theorem ggX4_findGreatest_X4_dropWithin : GoodIn wsX4_findGreatest wsX4_dropWithin := goodIn_r _ [17, 1, 13, 22, 23, 24, 25] (by decide +kernel) (by decide +kernel)
set_option maxRecDepth 20000 in
theorem gX4_findGreatest_X4_dropWithin : GoodIn wsX4_findGreatest (wsV RX4 82 RX4 yX4_dropWithin wsX4_dropWithin) := goodIn_app (goodIn_of _ (by decide +kernel)) ggX4_findGreatest_X4_dropWithin
set_option maxRecDepth 20000 in
theorem ggX4_findGreatest_X4_keep : GoodIn wsX4_findGreatest wsX4_keep := goodIn_r _ [21, 1, 13, 22, 23, 24, 25] (by decide +kernel) (by decide +kernel)
set_option maxRecDepth 20000 in
theorem gX4_findGreatest_X4_keep : GoodIn wsX4_findGreatest (wsV RX4 86 RX4 yX4_keep wsX4_keep) := goodIn_app (goodIn_of _ (by decide +kernel)) ggX4_findGreatest_X4_keep
theorem dX4_findGreatest_0 : decode cX4_findGreatest 0 = .ok (.aload_n 0, 1) := by decide +kernel
theorem dX4_findGreatest_1 : decode cX4_findGreatest 1 = .ok (.iconst 0, 1) := by decide +kernel
theorem dX4_findGreatest_2 : decode cX4_findGreatest 2 = .ok (.putfield 15, 3) := by decide +kernel
theorem dX4_findGreatest_5 : decode cX4_findGreatest 5 = .ok (.iconst 0, 1) := by decide +kernel
theorem dX4_findGreatest_6 : decode cX4_findGreatest 6 = .ok (.istore_n 2, 1) := by decide +kernel
theorem dX4_findGreatest_7 : decode cX4_findGreatest 7 = .ok (.iload_n 2, 1) := by decide +kernel
theorem dX4_findGreatest_8 : decode cX4_findGreatest 8 = .ok (.sipush 289, 3) := by decide +kernel
theorem dX4_findGreatest_11 : decode cX4_findGreatest 11 = .ok (.if_icmp .ge 33, 3) := by decide +kernel
theorem dX4_findGreatest_14 : decode cX4_findGreatest 14 = .ok (.aload_n 1, 1) := by decide +kernel
theorem dX4_findGreatest_15 : decode cX4_findGreatest 15 = .ok (.iload_n 2, 1) := by decide +kernel
theorem dX4_findGreatest_16 : decode cX4_findGreatest 16 = .ok (.invokevirtual 75, 3) := by decide +kernel
theorem dX4_findGreatest_19 : decode cX4_findGreatest 19 = .ok (.istore_n 3, 1) := by decide +kernel
theorem dX4_findGreatest_20 : decode cX4_findGreatest 20 = .ok (.aload_n 0, 1) := by decide +kernel
theorem dX4_findGreatest_21 : decode cX4_findGreatest 21 = .ok (.iload_n 3, 1) := by decide +kernel
theorem dX4_findGreatest_22 : decode cX4_findGreatest 22 = .ok (.invokevirtual 78, 3) := by decide +kernel
theorem dX4_findGreatest_25 : decode cX4_findGreatest 25 = .ok (.ifCond .ne 13, 3) := by decide +kernel
theorem dX4_findGreatest_28 : decode cX4_findGreatest 28 = .ok (.aload_n 0, 1) := by decide +kernel
theorem dX4_findGreatest_29 : decode cX4_findGreatest 29 = .ok (.iload_n 3, 1) := by decide +kernel
theorem dX4_findGreatest_30 : decode cX4_findGreatest 30 = .ok (.invokevirtual 82, 3) := by decide +kernel
theorem dX4_findGreatest_33 : decode cX4_findGreatest 33 = .ok (.aload_n 0, 1) := by decide +kernel
theorem dX4_findGreatest_34 : decode cX4_findGreatest 34 = .ok (.iload_n 3, 1) := by decide +kernel
theorem dX4_findGreatest_35 : decode cX4_findGreatest 35 = .ok (.invokevirtual 86, 3) := by decide +kernel
theorem dX4_findGreatest_38 : decode cX4_findGreatest 38 = .ok (.iinc 2 1, 3) := by decide +kernel
theorem dX4_findGreatest_41 : decode cX4_findGreatest 41 = .ok (.goto (-34), 3) := by decide +kernel
theorem dX4_findGreatest_44 : decode cX4_findGreatest 44 = .ok (.return_, 1) := by decide +kernel
theorem dX4_keep_0 : decode cX4_keep 0 = .ok (.aload_n 0, 1) := by decide +kernel
theorem dX4_keep_1 : decode cX4_keep 1 = .ok (.getfield 15, 3) := by decide +kernel
theorem dX4_keep_4 : decode cX4_keep 4 = .ok (.ifCond .lt 35, 3) := by decide +kernel
theorem dX4_keep_7 : decode cX4_keep 7 = .ok (.aload_n 0, 1) := by decide +kernel
theorem dX4_keep_8 : decode cX4_keep 8 = .ok (.getfield 15, 3) := by decide +kernel
theorem dX4_keep_11 : decode cX4_keep 11 = .ok (.aload_n 0, 1) := by decide +kernel
theorem dX4_keep_12 : decode cX4_keep 12 = .ok (.getfield 9, 3) := by decide +kernel
theorem dX4_keep_15 : decode cX4_keep 15 = .ok (.arraylength, 1) := by decide +kernel
theorem dX4_keep_16 : decode cX4_keep 16 = .ok (.if_icmp .ge 23, 3) := by decide +kernel
theorem dX4_keep_19 : decode cX4_keep 19 = .ok (.aload_n 0, 1) := by decide +kernel
theorem dX4_keep_20 : decode cX4_keep 20 = .ok (.getfield 9, 3) := by decide +kernel
theorem dX4_keep_23 : decode cX4_keep 23 = .ok (.aload_n 0, 1) := by decide +kernel
theorem dX4_keep_24 : decode cX4_keep 24 = .ok (.getfield 15, 3) := by decide +kernel
theorem dX4_keep_27 : decode cX4_keep 27 = .ok (.iload_n 1, 1) := by decide +kernel
theorem dX4_keep_28 : decode cX4_keep 28 = .ok (.iastore, 1) := by decide +kernel
theorem dX4_keep_29 : decode cX4_keep 29 = .ok (.aload_n 0, 1) := by decide +kernel
theorem dX4_keep_30 : decode cX4_keep 30 = .ok (.dup, 1) := by decide +kernel
theorem dX4_keep_31 : decode cX4_keep 31 = .ok (.getfield 15, 3) := by decide +kernel
theorem dX4_keep_34 : decode cX4_keep 34 = .ok (.iconst 1, 1) := by decide +kernel
theorem dX4_keep_35 : decode cX4_keep 35 = .ok (.iadd, 1) := by decide +kernel
theorem dX4_keep_36 : decode cX4_keep 36 = .ok (.putfield 15, 3) := by decide +kernel
theorem dX4_keep_39 : decode cX4_keep 39 = .ok (.return_, 1) := by decide +kernel
theorem dX4_isWithinGreatest_0 : decode cX4_isWithinGreatest 0 = .ok (.iconst 0, 1) := by decide +kernel
theorem dX4_isWithinGreatest_1 : decode cX4_isWithinGreatest 1 = .ok (.istore_n 2, 1) := by decide +kernel
theorem dX4_isWithinGreatest_2 : decode cX4_isWithinGreatest 2 = .ok (.iload_n 2, 1) := by decide +kernel
theorem dX4_isWithinGreatest_3 : decode cX4_isWithinGreatest 3 = .ok (.aload_n 0, 1) := by decide +kernel
theorem dX4_isWithinGreatest_4 : decode cX4_isWithinGreatest 4 = .ok (.getfield 15, 3) := by decide +kernel
theorem dX4_isWithinGreatest_7 : decode cX4_isWithinGreatest 7 = .ok (.if_icmp .ge 33, 3) := by decide +kernel
theorem dX4_isWithinGreatest_10 : decode cX4_isWithinGreatest 10 = .ok (.iload_n 2, 1) := by decide +kernel
theorem dX4_isWithinGreatest_11 : decode cX4_isWithinGreatest 11 = .ok (.aload_n 0, 1) := by decide +kernel
theorem dX4_isWithinGreatest_12 : decode cX4_isWithinGreatest 12 = .ok (.getfield 9, 3) := by decide +kernel
theorem dX4_isWithinGreatest_15 : decode cX4_isWithinGreatest 15 = .ok (.arraylength, 1) := by decide +kernel
theorem dX4_isWithinGreatest_16 : decode cX4_isWithinGreatest 16 = .ok (.if_icmp .ge 24, 3) := by decide +kernel
theorem dX4_isWithinGreatest_19 : decode cX4_isWithinGreatest 19 = .ok (.iload_n 1, 1) := by decide +kernel
theorem dX4_isWithinGreatest_20 : decode cX4_isWithinGreatest 20 = .ok (.aload_n 0, 1) := by decide +kernel
theorem dX4_isWithinGreatest_21 : decode cX4_isWithinGreatest 21 = .ok (.getfield 9, 3) := by decide +kernel
theorem dX4_isWithinGreatest_24 : decode cX4_isWithinGreatest 24 = .ok (.iload_n 2, 1) := by decide +kernel
theorem dX4_isWithinGreatest_25 : decode cX4_isWithinGreatest 25 = .ok (.iaload, 1) := by decide +kernel
theorem dX4_isWithinGreatest_26 : decode cX4_isWithinGreatest 26 = .ok (.iconst (-1), 1) := by decide +kernel
theorem dX4_isWithinGreatest_27 : decode cX4_isWithinGreatest 27 = .ok (.ixor, 1) := by decide +kernel
theorem dX4_isWithinGreatest_28 : decode cX4_isWithinGreatest 28 = .ok (.iand, 1) := by decide +kernel
theorem dX4_isWithinGreatest_29 : decode cX4_isWithinGreatest 29 = .ok (.ifCond .ne 5, 3) := by decide +kernel
theorem dX4_isWithinGreatest_32 : decode cX4_isWithinGreatest 32 = .ok (.iconst 1, 1) := by decide +kernel
theorem dX4_isWithinGreatest_33 : decode cX4_isWithinGreatest 33 = .ok (.ireturn, 1) := by decide +kernel
theorem dX4_isWithinGreatest_34 : decode cX4_isWithinGreatest 34 = .ok (.iinc 2 1, 3) := by decide +kernel
theorem dX4_isWithinGreatest_37 : decode cX4_isWithinGreatest 37 = .ok (.goto (-35), 3) := by decide +kernel
theorem dX4_isWithinGreatest_40 : decode cX4_isWithinGreatest 40 = .ok (.iconst 0, 1) := by decide +kernel
theorem dX4_isWithinGreatest_41 : decode cX4_isWithinGreatest 41 = .ok (.ireturn, 1) := by decide +kernel
theorem dX4_dropWithin_0 : decode cX4_dropWithin 0 = .ok (.iconst 0, 1) := by decide +kernel
theorem dX4_dropWithin_1 : decode cX4_dropWithin 1 = .ok (.istore_n 2, 1) := by decide +kernel
theorem dX4_dropWithin_2 : decode cX4_dropWithin 2 = .ok (.iconst 0, 1) := by decide +kernel
theorem dX4_dropWithin_3 : decode cX4_dropWithin 3 = .ok (.istore_n 3, 1) := by decide +kernel
theorem dX4_dropWithin_4 : decode cX4_dropWithin 4 = .ok (.iload_n 3, 1) := by decide +kernel
theorem dX4_dropWithin_5 : decode cX4_dropWithin 5 = .ok (.aload_n 0, 1) := by decide +kernel
theorem dX4_dropWithin_6 : decode cX4_dropWithin 6 = .ok (.getfield 15, 3) := by decide +kernel
theorem dX4_dropWithin_9 : decode cX4_dropWithin 9 = .ok (.if_icmp .ge 55, 3) := by decide +kernel
theorem dX4_dropWithin_12 : decode cX4_dropWithin 12 = .ok (.iload_n 3, 1) := by decide +kernel
theorem dX4_dropWithin_13 : decode cX4_dropWithin 13 = .ok (.aload_n 0, 1) := by decide +kernel
theorem dX4_dropWithin_14 : decode cX4_dropWithin 14 = .ok (.getfield 9, 3) := by decide +kernel
theorem dX4_dropWithin_17 : decode cX4_dropWithin 17 = .ok (.arraylength, 1) := by decide +kernel
theorem dX4_dropWithin_18 : decode cX4_dropWithin 18 = .ok (.if_icmp .ge 46, 3) := by decide +kernel
theorem dX4_dropWithin_21 : decode cX4_dropWithin 21 = .ok (.aload_n 0, 1) := by decide +kernel
theorem dX4_dropWithin_22 : decode cX4_dropWithin 22 = .ok (.getfield 9, 3) := by decide +kernel
theorem dX4_dropWithin_25 : decode cX4_dropWithin 25 = .ok (.iload_n 3, 1) := by decide +kernel
theorem dX4_dropWithin_26 : decode cX4_dropWithin 26 = .ok (.iaload, 1) := by decide +kernel
theorem dX4_dropWithin_27 : decode cX4_dropWithin 27 = .ok (.iload_n 1, 1) := by decide +kernel
theorem dX4_dropWithin_28 : decode cX4_dropWithin 28 = .ok (.iconst (-1), 1) := by decide +kernel
theorem dX4_dropWithin_29 : decode cX4_dropWithin 29 = .ok (.ixor, 1) := by decide +kernel
theorem dX4_dropWithin_30 : decode cX4_dropWithin 30 = .ok (.iand, 1) := by decide +kernel
theorem dX4_dropWithin_31 : decode cX4_dropWithin 31 = .ok (.ifCond .eq 27, 3) := by decide +kernel
theorem dX4_dropWithin_34 : decode cX4_dropWithin 34 = .ok (.iload_n 2, 1) := by decide +kernel
theorem dX4_dropWithin_35 : decode cX4_dropWithin 35 = .ok (.aload_n 0, 1) := by decide +kernel
theorem dX4_dropWithin_36 : decode cX4_dropWithin 36 = .ok (.getfield 9, 3) := by decide +kernel
theorem dX4_dropWithin_39 : decode cX4_dropWithin 39 = .ok (.arraylength, 1) := by decide +kernel
theorem dX4_dropWithin_40 : decode cX4_dropWithin 40 = .ok (.if_icmp .ge 18, 3) := by decide +kernel
theorem dX4_dropWithin_43 : decode cX4_dropWithin 43 = .ok (.aload_n 0, 1) := by decide +kernel
theorem dX4_dropWithin_44 : decode cX4_dropWithin 44 = .ok (.getfield 9, 3) := by decide +kernel
theorem dX4_dropWithin_47 : decode cX4_dropWithin 47 = .ok (.iload_n 2, 1) := by decide +kernel
theorem dX4_dropWithin_48 : decode cX4_dropWithin 48 = .ok (.aload_n 0, 1) := by decide +kernel
theorem dX4_dropWithin_49 : decode cX4_dropWithin 49 = .ok (.getfield 9, 3) := by decide +kernel
theorem dX4_dropWithin_52 : decode cX4_dropWithin 52 = .ok (.iload_n 3, 1) := by decide +kernel
theorem dX4_dropWithin_53 : decode cX4_dropWithin 53 = .ok (.iaload, 1) := by decide +kernel
theorem dX4_dropWithin_54 : decode cX4_dropWithin 54 = .ok (.iastore, 1) := by decide +kernel
theorem dX4_dropWithin_55 : decode cX4_dropWithin 55 = .ok (.iinc 2 1, 3) := by decide +kernel
theorem dX4_dropWithin_58 : decode cX4_dropWithin 58 = .ok (.iinc 3 1, 3) := by decide +kernel
theorem dX4_dropWithin_61 : decode cX4_dropWithin 61 = .ok (.goto (-57), 3) := by decide +kernel
theorem dX4_dropWithin_64 : decode cX4_dropWithin 64 = .ok (.aload_n 0, 1) := by decide +kernel
theorem dX4_dropWithin_65 : decode cX4_dropWithin 65 = .ok (.iload_n 2, 1) := by decide +kernel
theorem dX4_dropWithin_66 : decode cX4_dropWithin 66 = .ok (.putfield 15, 3) := by decide +kernel
theorem dX4_dropWithin_69 : decode cX4_dropWithin 69 = .ok (.return_, 1) := by decide +kernel
theorem dX5_init_0 : decode cX5_init 0 = .ok (.aload_n 0, 1) := by decide +kernel
theorem dX5_init_1 : decode cX5_init 1 = .ok (.invokespecial 3, 3) := by decide +kernel
theorem dX5_init_4 : decode cX5_init 4 = .ok (.aload_n 0, 1) := by decide +kernel
theorem dX5_init_5 : decode cX5_init 5 = .ok (.bipush 36, 2) := by decide +kernel
theorem dX5_init_7 : decode cX5_init 7 = .ok (.newarray .int, 2) := by decide +kernel
theorem dX5_init_9 : decode cX5_init 9 = .ok (.putfield 11, 3) := by decide +kernel
theorem dX5_init_12 : decode cX5_init 12 = .ok (.aload_n 0, 1) := by decide +kernel
theorem dX5_init_13 : decode cX5_init 13 = .ok (.iconst (-1), 1) := by decide +kernel
theorem dX5_init_14 : decode cX5_init 14 = .ok (.putfield 15, 3) := by decide +kernel
theorem dX5_init_17 : decode cX5_init 17 = .ok (.aload_n 0, 1) := by decide +kernel
theorem dX5_init_18 : decode cX5_init 18 = .ok (.iconst 0, 1) := by decide +kernel
theorem dX5_init_19 : decode cX5_init 19 = .ok (.putfield 19, 3) := by decide +kernel
theorem dX5_init_22 : decode cX5_init 22 = .ok (.return_, 1) := by decide +kernel
set_option maxRecDepth 20000 in
theorem ggX5_become_J7_fill_53178 : GoodIn wsX5_become wsJ7_fill_53178 := goodIn_r _ [14] (by decide +kernel) (by decide +kernel)
set_option maxRecDepth 20000 in
theorem gX5_become_J7_fill_53178 : GoodIn wsX5_become (va_wsS RX5 31 yJ7_fill_53178 wsJ7_fill_53178) := goodIn_app (goodIn_of _ (by decide +kernel)) ggX5_become_J7_fill_53178
theorem dX5_become_0 : decode cX5_become 0 = .ok (.aload_n 0, 1) := by decide +kernel
theorem dX5_become_1 : decode cX5_become 1 = .ok (.iload_n 1, 1) := by decide +kernel
theorem dX5_become_2 : decode cX5_become 2 = .ok (.putfield 15, 3) := by decide +kernel
theorem dX5_become_5 : decode cX5_become 5 = .ok (.aload_n 0, 1) := by decide +kernel
theorem dX5_become_6 : decode cX5_become 6 = .ok (.iconst 0, 1) := by decide +kernel
theorem dX5_become_7 : decode cX5_become 7 = .ok (.iload_n 2, 1) := by decide +kernel
theorem dX5_become_8 : decode cX5_become 8 = .ok (.bipush 36, 2) := by decide +kernel
theorem dX5_become_10 : decode cX5_become 10 = .ok (.invokestatic 22, 3) := by decide +kernel
theorem dX5_become_13 : decode cX5_become 13 = .ok (.invokestatic 28, 3) := by decide +kernel
theorem dX5_become_16 : decode cX5_become 16 = .ok (.putfield 19, 3) := by decide +kernel
theorem dX5_become_19 : decode cX5_become 19 = .ok (.aload_n 0, 1) := by decide +kernel
theorem dX5_become_20 : decode cX5_become 20 = .ok (.getfield 11, 3) := by decide +kernel
theorem dX5_become_23 : decode cX5_become 23 = .ok (.iconst 0, 1) := by decide +kernel
theorem dX5_become_24 : decode cX5_become 24 = .ok (.invokestatic 31, 3) := by decide +kernel
theorem dX5_become_27 : decode cX5_become 27 = .ok (.return_, 1) := by decide +kernel
theorem dX5_empty_0 : decode cX5_empty 0 = .ok (.aload_n 0, 1) := by decide +kernel
theorem dX5_empty_1 : decode cX5_empty 1 = .ok (.getfield 19, 3) := by decide +kernel
theorem dX5_empty_4 : decode cX5_empty 4 = .ok (.istore_n 1, 1) := by decide +kernel
theorem dX5_empty_5 : decode cX5_empty 5 = .ok (.aload_n 0, 1) := by decide +kernel
theorem dX5_empty_6 : decode cX5_empty 6 = .ok (.iconst (-1), 1) := by decide +kernel
theorem dX5_empty_7 : decode cX5_empty 7 = .ok (.putfield 15, 3) := by decide +kernel
theorem dX5_empty_10 : decode cX5_empty 10 = .ok (.aload_n 0, 1) := by decide +kernel
theorem dX5_empty_11 : decode cX5_empty 11 = .ok (.iconst 0, 1) := by decide +kernel
theorem dX5_empty_12 : decode cX5_empty 12 = .ok (.putfield 19, 3) := by decide +kernel
theorem dX5_empty_15 : decode cX5_empty 15 = .ok (.iload_n 1, 1) := by decide +kernel
theorem dX5_empty_16 : decode cX5_empty 16 = .ok (.ireturn, 1) := by decide +kernel
theorem dX5_isNothing_0 : decode cX5_isNothing 0 = .ok (.aload_n 0, 1) := by decide +kernel
theorem dX5_isNothing_1 : decode cX5_isNothing 1 = .ok (.getfield 15, 3) := by decide +kernel
theorem dX5_isNothing_4 : decode cX5_isNothing 4 = .ok (.iconst (-1), 1) := by decide +kernel
theorem dX5_isNothing_5 : decode cX5_isNothing 5 = .ok (.if_icmp .ne 7, 3) := by decide +kernel
theorem dX5_isNothing_8 : decode cX5_isNothing 8 = .ok (.iconst 1, 1) := by decide +kernel
theorem dX5_isNothing_9 : decode cX5_isNothing 9 = .ok (.goto 4, 3) := by decide +kernel
theorem dX5_isNothing_12 : decode cX5_isNothing 12 = .ok (.iconst 0, 1) := by decide +kernel
theorem dX5_isNothing_13 : decode cX5_isNothing 13 = .ok (.ireturn, 1) := by decide +kernel
theorem dX5_laneNow_0 : decode cX5_laneNow 0 = .ok (.aload_n 0, 1) := by decide +kernel
theorem dX5_laneNow_1 : decode cX5_laneNow 1 = .ok (.getfield 15, 3) := by decide +kernel
theorem dX5_laneNow_4 : decode cX5_laneNow 4 = .ok (.ireturn, 1) := by decide +kernel
theorem dX5_covers_0 : decode cX5_covers 0 = .ok (.iload_n 1, 1) := by decide +kernel
theorem dX5_covers_1 : decode cX5_covers 1 = .ok (.ifCond .lt 21, 3) := by decide +kernel
theorem dX5_covers_4 : decode cX5_covers 4 = .ok (.iload_n 2, 1) := by decide +kernel
theorem dX5_covers_5 : decode cX5_covers 5 = .ok (.ifCond .lt 17, 3) := by decide +kernel
theorem dX5_covers_8 : decode cX5_covers 8 = .ok (.iload_n 1, 1) := by decide +kernel
theorem dX5_covers_9 : decode cX5_covers 9 = .ok (.aload_n 0, 1) := by decide +kernel
theorem dX5_covers_10 : decode cX5_covers 10 = .ok (.getfield 19, 3) := by decide +kernel
theorem dX5_covers_13 : decode cX5_covers 13 = .ok (.iload_n 2, 1) := by decide +kernel
theorem dX5_covers_14 : decode cX5_covers 14 = .ok (.isub, 1) := by decide +kernel
theorem dX5_covers_15 : decode cX5_covers 15 = .ok (.if_icmp .gt 7, 3) := by decide +kernel
theorem dX5_covers_18 : decode cX5_covers 18 = .ok (.iconst 1, 1) := by decide +kernel
theorem dX5_covers_19 : decode cX5_covers 19 = .ok (.goto 4, 3) := by decide +kernel
theorem dX5_covers_22 : decode cX5_covers 22 = .ok (.iconst 0, 1) := by decide +kernel
theorem dX5_covers_23 : decode cX5_covers 23 = .ok (.ireturn, 1) := by decide +kernel
set_option maxRecDepth 20000 in
theorem ggX5_refusal_X5_isNothing : GoodIn wsX5_refusal wsX5_isNothing := goodIn_r _ [6, 1, 12, 13, 14] (by decide +kernel) (by decide +kernel)
set_option maxRecDepth 20000 in
theorem gX5_refusal_X5_isNothing : GoodIn wsX5_refusal (wsV RX5 37 RX5 yX5_isNothing wsX5_isNothing) := goodIn_app (goodIn_of _ (by decide +kernel)) ggX5_refusal_X5_isNothing
set_option maxRecDepth 20000 in
theorem ggX5_refusal_X5_covers : GoodIn wsX5_refusal wsX5_covers := goodIn_r _ [10, 11, 12, 13, 14] (by decide +kernel) (by decide +kernel)
set_option maxRecDepth 20000 in
theorem gX5_refusal_X5_covers : GoodIn wsX5_refusal (wsV RX5 41 RX5 yX5_covers wsX5_covers) := goodIn_app (goodIn_of _ (by decide +kernel)) ggX5_refusal_X5_covers
theorem dX5_refusal_0 : decode cX5_refusal 0 = .ok (.aload_n 0, 1) := by decide +kernel
theorem dX5_refusal_1 : decode cX5_refusal 1 = .ok (.invokevirtual 37, 3) := by decide +kernel
theorem dX5_refusal_4 : decode cX5_refusal 4 = .ok (.ifCond .eq 6, 3) := by decide +kernel
theorem dX5_refusal_7 : decode cX5_refusal 7 = .ok (.bipush (-11), 2) := by decide +kernel
theorem dX5_refusal_9 : decode cX5_refusal 9 = .ok (.ireturn, 1) := by decide +kernel
theorem dX5_refusal_10 : decode cX5_refusal 10 = .ok (.aload_n 0, 1) := by decide +kernel
theorem dX5_refusal_11 : decode cX5_refusal 11 = .ok (.getfield 15, 3) := by decide +kernel
theorem dX5_refusal_14 : decode cX5_refusal 14 = .ok (.iload_n 1, 1) := by decide +kernel
theorem dX5_refusal_15 : decode cX5_refusal 15 = .ok (.if_icmp .eq 6, 3) := by decide +kernel
theorem dX5_refusal_18 : decode cX5_refusal 18 = .ok (.bipush (-12), 2) := by decide +kernel
theorem dX5_refusal_20 : decode cX5_refusal 20 = .ok (.ireturn, 1) := by decide +kernel
theorem dX5_refusal_21 : decode cX5_refusal 21 = .ok (.aload_n 0, 1) := by decide +kernel
theorem dX5_refusal_22 : decode cX5_refusal 22 = .ok (.iload_n 2, 1) := by decide +kernel
theorem dX5_refusal_23 : decode cX5_refusal 23 = .ok (.iload_n 3, 1) := by decide +kernel
theorem dX5_refusal_24 : decode cX5_refusal 24 = .ok (.invokevirtual 41, 3) := by decide +kernel
theorem dX5_refusal_27 : decode cX5_refusal 27 = .ok (.ifCond .eq 7, 3) := by decide +kernel
theorem dX5_refusal_30 : decode cX5_refusal 30 = .ok (.iconst 0, 1) := by decide +kernel
theorem dX5_refusal_31 : decode cX5_refusal 31 = .ok (.goto 5, 3) := by decide +kernel
theorem dX5_refusal_34 : decode cX5_refusal 34 = .ok (.bipush (-13), 2) := by decide +kernel
theorem dX5_refusal_36 : decode cX5_refusal 36 = .ok (.ireturn, 1) := by decide +kernel
theorem dX5_at_0 : decode cX5_at 0 = .ok (.iload_n 1, 1) := by decide +kernel
theorem dX5_at_1 : decode cX5_at 1 = .ok (.ifCond .lt 26, 3) := by decide +kernel
theorem dX5_at_4 : decode cX5_at 4 = .ok (.iload_n 1, 1) := by decide +kernel
theorem dX5_at_5 : decode cX5_at 5 = .ok (.aload_n 0, 1) := by decide +kernel
theorem dX5_at_6 : decode cX5_at 6 = .ok (.getfield 19, 3) := by decide +kernel
theorem dX5_at_9 : decode cX5_at 9 = .ok (.if_icmp .ge 18, 3) := by decide +kernel
theorem dX5_at_12 : decode cX5_at 12 = .ok (.iload_n 1, 1) := by decide +kernel
theorem dX5_at_13 : decode cX5_at 13 = .ok (.bipush 36, 2) := by decide +kernel
theorem dX5_at_15 : decode cX5_at 15 = .ok (.if_icmp .ge 12, 3) := by decide +kernel
theorem dX5_at_18 : decode cX5_at 18 = .ok (.aload_n 0, 1) := by decide +kernel
theorem dX5_at_19 : decode cX5_at 19 = .ok (.getfield 11, 3) := by decide +kernel
theorem dX5_at_22 : decode cX5_at 22 = .ok (.iload_n 1, 1) := by decide +kernel
theorem dX5_at_23 : decode cX5_at 23 = .ok (.iaload, 1) := by decide +kernel
theorem dX5_at_24 : decode cX5_at 24 = .ok (.goto 4, 3) := by decide +kernel
theorem dX5_at_27 : decode cX5_at 27 = .ok (.iconst 0, 1) := by decide +kernel
theorem dX5_at_28 : decode cX5_at 28 = .ok (.ireturn, 1) := by decide +kernel
theorem dX5_put_0 : decode cX5_put 0 = .ok (.iload_n 1, 1) := by decide +kernel
theorem dX5_put_1 : decode cX5_put 1 = .ok (.ifCond .lt 49, 3) := by decide +kernel
theorem dX5_put_4 : decode cX5_put 4 = .ok (.iload_n 1, 1) := by decide +kernel
theorem dX5_put_5 : decode cX5_put 5 = .ok (.aload_n 0, 1) := by decide +kernel
theorem dX5_put_6 : decode cX5_put 6 = .ok (.getfield 19, 3) := by decide +kernel
theorem dX5_put_9 : decode cX5_put 9 = .ok (.if_icmp .ge 41, 3) := by decide +kernel
theorem dX5_put_12 : decode cX5_put 12 = .ok (.iload_n 1, 1) := by decide +kernel
theorem dX5_put_13 : decode cX5_put 13 = .ok (.bipush 36, 2) := by decide +kernel
theorem dX5_put_15 : decode cX5_put 15 = .ok (.if_icmp .ge 35, 3) := by decide +kernel
theorem dX5_put_18 : decode cX5_put 18 = .ok (.aload_n 0, 1) := by decide +kernel
theorem dX5_put_19 : decode cX5_put 19 = .ok (.getfield 11, 3) := by decide +kernel
theorem dX5_put_22 : decode cX5_put 22 = .ok (.iload_n 1, 1) := by decide +kernel
theorem dX5_put_23 : decode cX5_put 23 = .ok (.aload_n 0, 1) := by decide +kernel
theorem dX5_put_24 : decode cX5_put 24 = .ok (.getfield 15, 3) := by decide +kernel
theorem dX5_put_27 : decode cX5_put 27 = .ok (.ifCond .ne 8, 3) := by decide +kernel
theorem dX5_put_30 : decode cX5_put 30 = .ok (.iload_n 2, 1) := by decide +kernel
theorem dX5_put_31 : decode cX5_put 31 = .ok (.i2b, 1) := by decide +kernel
theorem dX5_put_32 : decode cX5_put 32 = .ok (.goto 17, 3) := by decide +kernel
theorem dX5_put_35 : decode cX5_put 35 = .ok (.aload_n 0, 1) := by decide +kernel
theorem dX5_put_36 : decode cX5_put 36 = .ok (.getfield 15, 3) := by decide +kernel
theorem dX5_put_39 : decode cX5_put 39 = .ok (.iconst 1, 1) := by decide +kernel
theorem dX5_put_40 : decode cX5_put 40 = .ok (.if_icmp .ne 8, 3) := by decide +kernel
theorem dX5_put_43 : decode cX5_put 43 = .ok (.iload_n 2, 1) := by decide +kernel
theorem dX5_put_44 : decode cX5_put 44 = .ok (.i2s, 1) := by decide +kernel
theorem dX5_put_45 : decode cX5_put 45 = .ok (.goto 4, 3) := by decide +kernel
theorem dX5_put_48 : decode cX5_put 48 = .ok (.iload_n 2, 1) := by decide +kernel
theorem dX5_put_49 : decode cX5_put 49 = .ok (.iastore, 1) := by decide +kernel
theorem dX5_put_50 : decode cX5_put 50 = .ok (.return_, 1) := by decide +kernel
set_option maxRecDepth 20000 in
theorem ggX5_take_X5_covers : GoodIn wsX5_take wsX5_covers := goodIn_r _ [10, 11, 12, 13, 14] (by decide +kernel) (by decide +kernel)
set_option maxRecDepth 20000 in
theorem gX5_take_X5_covers : GoodIn wsX5_take (wsV RX5 41 RX5 yX5_covers wsX5_covers) := goodIn_app (goodIn_of _ (by decide +kernel)) ggX5_take_X5_covers
theorem dX5_take_0 : decode cX5_take 0 = .ok (.aload_n 0, 1) := by decide +kernel
theorem dX5_take_1 : decode cX5_take 1 = .ok (.iload_n 1, 1) := by decide +kernel
theorem dX5_take_2 : decode cX5_take 2 = .ok (.iload 4, 2) := by decide +kernel
theorem dX5_take_4 : decode cX5_take 4 = .ok (.invokevirtual 41, 3) := by decide +kernel
theorem dX5_take_7 : decode cX5_take 7 = .ok (.ifCond .eq 28, 3) := by decide +kernel
theorem dX5_take_10 : decode cX5_take 10 = .ok (.aload_n 2, 1) := by decide +kernel
theorem dX5_take_11 : decode cX5_take 11 = .ok (.iload_n 3, 1) := by decide +kernel
theorem dX5_take_12 : decode cX5_take 12 = .ok (.iload 4, 2) := by decide +kernel
theorem dX5_take_14 : decode cX5_take 14 = .ok (.invokevirtual 41, 3) := by decide +kernel
theorem dX5_take_17 : decode cX5_take 17 = .ok (.ifCond .eq 18, 3) := by decide +kernel
theorem dX5_take_20 : decode cX5_take 20 = .ok (.aload_n 2, 1) := by decide +kernel
theorem dX5_take_21 : decode cX5_take 21 = .ok (.getfield 11, 3) := by decide +kernel
theorem dX5_take_24 : decode cX5_take 24 = .ok (.iload_n 3, 1) := by decide +kernel
theorem dX5_take_25 : decode cX5_take 25 = .ok (.aload_n 0, 1) := by decide +kernel
theorem dX5_take_26 : decode cX5_take 26 = .ok (.getfield 11, 3) := by decide +kernel
theorem dX5_take_29 : decode cX5_take 29 = .ok (.iload_n 1, 1) := by decide +kernel
theorem dX5_take_30 : decode cX5_take 30 = .ok (.iload 4, 2) := by decide +kernel
theorem dX5_take_32 : decode cX5_take 32 = .ok (.invokestatic 45, 3) := by decide +kernel
theorem dX5_take_35 : decode cX5_take 35 = .ok (.return_, 1) := by decide +kernel
set_option maxRecDepth 20000 in
theorem ggX5_allWithin_X5_at : GoodIn wsX5_allWithin wsX5_at := goodIn_r _ [5, 6, 7, 8, 9, 10] (by decide +kernel) (by decide +kernel)
set_option maxRecDepth 20000 in
theorem gX5_allWithin_X5_at : GoodIn wsX5_allWithin (wsV RX5 51 RX5 yX5_at wsX5_at) := goodIn_app (goodIn_of _ (by decide +kernel)) ggX5_allWithin_X5_at
theorem dX5_allWithin_0 : decode cX5_allWithin 0 = .ok (.iconst 0, 1) := by decide +kernel
theorem dX5_allWithin_1 : decode cX5_allWithin 1 = .ok (.istore 5, 2) := by decide +kernel
theorem dX5_allWithin_3 : decode cX5_allWithin 3 = .ok (.iload 5, 2) := by decide +kernel
theorem dX5_allWithin_5 : decode cX5_allWithin 5 = .ok (.iload_n 2, 1) := by decide +kernel
theorem dX5_allWithin_6 : decode cX5_allWithin 6 = .ok (.if_icmp .ge 36, 3) := by decide +kernel
theorem dX5_allWithin_9 : decode cX5_allWithin 9 = .ok (.aload_n 0, 1) := by decide +kernel
theorem dX5_allWithin_10 : decode cX5_allWithin 10 = .ok (.iload_n 1, 1) := by decide +kernel
theorem dX5_allWithin_11 : decode cX5_allWithin 11 = .ok (.iload 5, 2) := by decide +kernel
theorem dX5_allWithin_13 : decode cX5_allWithin 13 = .ok (.iadd, 1) := by decide +kernel
theorem dX5_allWithin_14 : decode cX5_allWithin 14 = .ok (.invokevirtual 51, 3) := by decide +kernel
theorem dX5_allWithin_17 : decode cX5_allWithin 17 = .ok (.iload_n 3, 1) := by decide +kernel
theorem dX5_allWithin_18 : decode cX5_allWithin 18 = .ok (.if_icmp .lt 16, 3) := by decide +kernel
theorem dX5_allWithin_21 : decode cX5_allWithin 21 = .ok (.aload_n 0, 1) := by decide +kernel
theorem dX5_allWithin_22 : decode cX5_allWithin 22 = .ok (.iload_n 1, 1) := by decide +kernel
theorem dX5_allWithin_23 : decode cX5_allWithin 23 = .ok (.iload 5, 2) := by decide +kernel
theorem dX5_allWithin_25 : decode cX5_allWithin 25 = .ok (.iadd, 1) := by decide +kernel
theorem dX5_allWithin_26 : decode cX5_allWithin 26 = .ok (.invokevirtual 51, 3) := by decide +kernel
theorem dX5_allWithin_29 : decode cX5_allWithin 29 = .ok (.iload 4, 2) := by decide +kernel
theorem dX5_allWithin_31 : decode cX5_allWithin 31 = .ok (.if_icmp .le 5, 3) := by decide +kernel
theorem dX5_allWithin_34 : decode cX5_allWithin 34 = .ok (.iconst 0, 1) := by decide +kernel
theorem dX5_allWithin_35 : decode cX5_allWithin 35 = .ok (.ireturn, 1) := by decide +kernel
theorem dX5_allWithin_36 : decode cX5_allWithin 36 = .ok (.iinc 5 1, 3) := by decide +kernel
theorem dX5_allWithin_39 : decode cX5_allWithin 39 = .ok (.goto (-36), 3) := by decide +kernel
theorem dX5_allWithin_42 : decode cX5_allWithin 42 = .ok (.iconst 1, 1) := by decide +kernel
theorem dX5_allWithin_43 : decode cX5_allWithin 43 = .ok (.ireturn, 1) := by decide +kernel
set_option maxRecDepth 20000 in
theorem ggX5_placesOf_X5_at : GoodIn wsX5_placesOf wsX5_at := goodIn_r _ [5, 6, 7, 8, 9, 10] (by decide +kernel) (by decide +kernel)
set_option maxRecDepth 20000 in
theorem gX5_placesOf_X5_at : GoodIn wsX5_placesOf (wsV RX5 51 RX5 yX5_at wsX5_at) := goodIn_app (goodIn_of _ (by decide +kernel)) ggX5_placesOf_X5_at
theorem dX5_placesOf_0 : decode cX5_placesOf 0 = .ok (.iconst 0, 1) := by decide +kernel
theorem dX5_placesOf_1 : decode cX5_placesOf 1 = .ok (.istore 4, 2) := by decide +kernel
theorem dX5_placesOf_3 : decode cX5_placesOf 3 = .ok (.iconst 0, 1) := by decide +kernel
theorem dX5_placesOf_4 : decode cX5_placesOf 4 = .ok (.istore 5, 2) := by decide +kernel
theorem dX5_placesOf_6 : decode cX5_placesOf 6 = .ok (.iload 5, 2) := by decide +kernel
theorem dX5_placesOf_8 : decode cX5_placesOf 8 = .ok (.iload_n 3, 1) := by decide +kernel
theorem dX5_placesOf_9 : decode cX5_placesOf 9 = .ok (.if_icmp .ge 37, 3) := by decide +kernel
theorem dX5_placesOf_12 : decode cX5_placesOf 12 = .ok (.iload 5, 2) := by decide +kernel
theorem dX5_placesOf_14 : decode cX5_placesOf 14 = .ok (.bipush 12, 2) := by decide +kernel
theorem dX5_placesOf_16 : decode cX5_placesOf 16 = .ok (.if_icmp .ge 30, 3) := by decide +kernel
theorem dX5_placesOf_19 : decode cX5_placesOf 19 = .ok (.aload_n 0, 1) := by decide +kernel
theorem dX5_placesOf_20 : decode cX5_placesOf 20 = .ok (.iload_n 2, 1) := by decide +kernel
theorem dX5_placesOf_21 : decode cX5_placesOf 21 = .ok (.iload 5, 2) := by decide +kernel
theorem dX5_placesOf_23 : decode cX5_placesOf 23 = .ok (.iadd, 1) := by decide +kernel
theorem dX5_placesOf_24 : decode cX5_placesOf 24 = .ok (.invokevirtual 51, 3) := by decide +kernel
theorem dX5_placesOf_27 : decode cX5_placesOf 27 = .ok (.iload_n 1, 1) := by decide +kernel
theorem dX5_placesOf_28 : decode cX5_placesOf 28 = .ok (.if_icmp .ne 12, 3) := by decide +kernel
theorem dX5_placesOf_31 : decode cX5_placesOf 31 = .ok (.iload 4, 2) := by decide +kernel
theorem dX5_placesOf_33 : decode cX5_placesOf 33 = .ok (.iconst 1, 1) := by decide +kernel
theorem dX5_placesOf_34 : decode cX5_placesOf 34 = .ok (.iload 5, 2) := by decide +kernel
theorem dX5_placesOf_36 : decode cX5_placesOf 36 = .ok (.ishl, 1) := by decide +kernel
theorem dX5_placesOf_37 : decode cX5_placesOf 37 = .ok (.ior, 1) := by decide +kernel
theorem dX5_placesOf_38 : decode cX5_placesOf 38 = .ok (.istore 4, 2) := by decide +kernel
theorem dX5_placesOf_40 : decode cX5_placesOf 40 = .ok (.iinc 5 1, 3) := by decide +kernel
theorem dX5_placesOf_43 : decode cX5_placesOf 43 = .ok (.goto (-37), 3) := by decide +kernel
theorem dX5_placesOf_46 : decode cX5_placesOf 46 = .ok (.iload 4, 2) := by decide +kernel
theorem dX5_placesOf_48 : decode cX5_placesOf 48 = .ok (.ireturn, 1) := by decide +kernel
theorem dX6_init_0 : decode cX6_init 0 = .ok (.aload_n 0, 1) := by decide +kernel
theorem dX6_init_1 : decode cX6_init 1 = .ok (.invokespecial 3, 3) := by decide +kernel
theorem dX6_init_4 : decode cX6_init 4 = .ok (.aload_n 0, 1) := by decide +kernel
theorem dX6_init_5 : decode cX6_init 5 = .ok (.bipush 120, 2) := by decide +kernel
theorem dX6_init_7 : decode cX6_init 7 = .ok (.newarray .int, 2) := by decide +kernel
theorem dX6_init_9 : decode cX6_init 9 = .ok (.putfield 11, 3) := by decide +kernel
theorem dX6_init_12 : decode cX6_init 12 = .ok (.aload_n 0, 1) := by decide +kernel
theorem dX6_init_13 : decode cX6_init 13 = .ok (.iconst 0, 1) := by decide +kernel
theorem dX6_init_14 : decode cX6_init 14 = .ok (.putfield 15, 3) := by decide +kernel
theorem dX6_init_17 : decode cX6_init 17 = .ok (.aload_n 0, 1) := by decide +kernel
theorem dX6_init_18 : decode cX6_init 18 = .ok (.bipush 36, 2) := by decide +kernel
theorem dX6_init_20 : decode cX6_init 20 = .ok (.newarray .int, 2) := by decide +kernel
theorem dX6_init_22 : decode cX6_init 22 = .ok (.putfield 19, 3) := by decide +kernel
theorem dX6_init_25 : decode cX6_init 25 = .ok (.aload_n 0, 1) := by decide +kernel
theorem dX6_init_26 : decode cX6_init 26 = .ok (.iconst 0, 1) := by decide +kernel
theorem dX6_init_27 : decode cX6_init 27 = .ok (.putfield 22, 3) := by decide +kernel
theorem dX6_init_30 : decode cX6_init 30 = .ok (.aload_n 0, 1) := by decide +kernel
theorem dX6_init_31 : decode cX6_init 31 = .ok (.iconst 0, 1) := by decide +kernel
theorem dX6_init_32 : decode cX6_init 32 = .ok (.putfield 25, 3) := by decide +kernel
theorem dX6_init_35 : decode cX6_init 35 = .ok (.aload_n 0, 1) := by decide +kernel
theorem dX6_init_36 : decode cX6_init 36 = .ok (.iconst 0, 1) := by decide +kernel
theorem dX6_init_37 : decode cX6_init 37 = .ok (.putfield 28, 3) := by decide +kernel
theorem dX6_init_40 : decode cX6_init 40 = .ok (.aload_n 0, 1) := by decide +kernel
theorem dX6_init_41 : decode cX6_init 41 = .ok (.iconst 0, 1) := by decide +kernel
theorem dX6_init_42 : decode cX6_init 42 = .ok (.putfield 31, 3) := by decide +kernel
theorem dX6_init_45 : decode cX6_init 45 = .ok (.return_, 1) := by decide +kernel
set_option maxRecDepth 20000 in
theorem ggX6_append_X6_byteOf : GoodIn wsX6_append wsX6_byteOf := goodIn_r _ [6, 7] (by decide +kernel) (by decide +kernel)
set_option maxRecDepth 20000 in
theorem gX6_append_X6_byteOf : GoodIn wsX6_append (va_wsS RX6 34 yX6_byteOf wsX6_byteOf) := goodIn_app (goodIn_of _ (by decide +kernel)) ggX6_append_X6_byteOf
theorem dX6_append_0 : decode cX6_append 0 = .ok (.iload_n 3, 1) := by decide +kernel
theorem dX6_append_1 : decode cX6_append 1 = .ok (.iconst 1, 1) := by decide +kernel
theorem dX6_append_2 : decode cX6_append 2 = .ok (.if_icmp .lt 9, 3) := by decide +kernel
theorem dX6_append_5 : decode cX6_append 5 = .ok (.iload_n 3, 1) := by decide +kernel
theorem dX6_append_6 : decode cX6_append 6 = .ok (.bipush 8, 2) := by decide +kernel
theorem dX6_append_8 : decode cX6_append 8 = .ok (.if_icmp .le 5, 3) := by decide +kernel
theorem dX6_append_11 : decode cX6_append 11 = .ok (.iconst (-1), 1) := by decide +kernel
theorem dX6_append_12 : decode cX6_append 12 = .ok (.ireturn, 1) := by decide +kernel
theorem dX6_append_13 : decode cX6_append 13 = .ok (.iconst 0, 1) := by decide +kernel
theorem dX6_append_14 : decode cX6_append 14 = .ok (.istore 4, 2) := by decide +kernel
theorem dX6_append_16 : decode cX6_append 16 = .ok (.iload 4, 2) := by decide +kernel
theorem dX6_append_18 : decode cX6_append 18 = .ok (.iload_n 3, 1) := by decide +kernel
theorem dX6_append_19 : decode cX6_append 19 = .ok (.if_icmp .ge 33, 3) := by decide +kernel
theorem dX6_append_22 : decode cX6_append 22 = .ok (.lload_n 1, 1) := by decide +kernel
theorem dX6_append_23 : decode cX6_append 23 = .ok (.iload 4, 2) := by decide +kernel
theorem dX6_append_25 : decode cX6_append 25 = .ok (.invokestatic 34, 3) := by decide +kernel
theorem dX6_append_28 : decode cX6_append 28 = .ok (.bipush 32, 2) := by decide +kernel
theorem dX6_append_30 : decode cX6_append 30 = .ok (.if_icmp .lt 14, 3) := by decide +kernel
theorem dX6_append_33 : decode cX6_append 33 = .ok (.lload_n 1, 1) := by decide +kernel
theorem dX6_append_34 : decode cX6_append 34 = .ok (.iload 4, 2) := by decide +kernel
theorem dX6_append_36 : decode cX6_append 36 = .ok (.invokestatic 34, 3) := by decide +kernel
theorem dX6_append_39 : decode cX6_append 39 = .ok (.bipush 126, 2) := by decide +kernel
theorem dX6_append_41 : decode cX6_append 41 = .ok (.if_icmp .le 5, 3) := by decide +kernel
theorem dX6_append_44 : decode cX6_append 44 = .ok (.iconst (-1), 1) := by decide +kernel
theorem dX6_append_45 : decode cX6_append 45 = .ok (.ireturn, 1) := by decide +kernel
theorem dX6_append_46 : decode cX6_append 46 = .ok (.iinc 4 1, 3) := by decide +kernel
theorem dX6_append_49 : decode cX6_append 49 = .ok (.goto (-33), 3) := by decide +kernel
theorem dX6_append_52 : decode cX6_append 52 = .ok (.iload_n 3, 1) := by decide +kernel
theorem dX6_append_53 : decode cX6_append 53 = .ok (.bipush 120, 2) := by decide +kernel
theorem dX6_append_55 : decode cX6_append 55 = .ok (.aload_n 0, 1) := by decide +kernel
theorem dX6_append_56 : decode cX6_append 56 = .ok (.getfield 15, 3) := by decide +kernel
theorem dX6_append_59 : decode cX6_append 59 = .ok (.isub, 1) := by decide +kernel
theorem dX6_append_60 : decode cX6_append 60 = .ok (.if_icmp .le 6, 3) := by decide +kernel
theorem dX6_append_63 : decode cX6_append 63 = .ok (.bipush (-3), 2) := by decide +kernel
theorem dX6_append_65 : decode cX6_append 65 = .ok (.ireturn, 1) := by decide +kernel
theorem dX6_append_66 : decode cX6_append 66 = .ok (.iload_n 3, 1) := by decide +kernel
theorem dX6_append_67 : decode cX6_append 67 = .ok (.iconst 1, 1) := by decide +kernel
theorem dX6_append_68 : decode cX6_append 68 = .ok (.isub, 1) := by decide +kernel
theorem dX6_append_69 : decode cX6_append 69 = .ok (.istore 4, 2) := by decide +kernel
theorem dX6_append_71 : decode cX6_append 71 = .ok (.iload 4, 2) := by decide +kernel
theorem dX6_append_73 : decode cX6_append 73 = .ok (.ifCond .lt 43, 3) := by decide +kernel
theorem dX6_append_76 : decode cX6_append 76 = .ok (.aload_n 0, 1) := by decide +kernel
theorem dX6_append_77 : decode cX6_append 77 = .ok (.getfield 15, 3) := by decide +kernel
theorem dX6_append_80 : decode cX6_append 80 = .ok (.bipush 120, 2) := by decide +kernel
theorem dX6_append_82 : decode cX6_append 82 = .ok (.if_icmp .ge 34, 3) := by decide +kernel
theorem dX6_append_85 : decode cX6_append 85 = .ok (.aload_n 0, 1) := by decide +kernel
theorem dX6_append_86 : decode cX6_append 86 = .ok (.getfield 11, 3) := by decide +kernel
theorem dX6_append_89 : decode cX6_append 89 = .ok (.aload_n 0, 1) := by decide +kernel
theorem dX6_append_90 : decode cX6_append 90 = .ok (.getfield 15, 3) := by decide +kernel
theorem dX6_append_93 : decode cX6_append 93 = .ok (.lload_n 1, 1) := by decide +kernel
theorem dX6_append_94 : decode cX6_append 94 = .ok (.iload 4, 2) := by decide +kernel
theorem dX6_append_96 : decode cX6_append 96 = .ok (.invokestatic 34, 3) := by decide +kernel
theorem dX6_append_99 : decode cX6_append 99 = .ok (.iastore, 1) := by decide +kernel
theorem dX6_append_100 : decode cX6_append 100 = .ok (.aload_n 0, 1) := by decide +kernel
theorem dX6_append_101 : decode cX6_append 101 = .ok (.dup, 1) := by decide +kernel
theorem dX6_append_102 : decode cX6_append 102 = .ok (.getfield 15, 3) := by decide +kernel
theorem dX6_append_105 : decode cX6_append 105 = .ok (.iconst 1, 1) := by decide +kernel
theorem dX6_append_106 : decode cX6_append 106 = .ok (.iadd, 1) := by decide +kernel
theorem dX6_append_107 : decode cX6_append 107 = .ok (.putfield 15, 3) := by decide +kernel
theorem dX6_append_110 : decode cX6_append 110 = .ok (.iinc 4 (-1), 3) := by decide +kernel
theorem dX6_append_113 : decode cX6_append 113 = .ok (.goto (-42), 3) := by decide +kernel
theorem dX6_append_116 : decode cX6_append 116 = .ok (.aload_n 0, 1) := by decide +kernel
theorem dX6_append_117 : decode cX6_append 117 = .ok (.getfield 15, 3) := by decide +kernel
theorem dX6_append_120 : decode cX6_append 120 = .ok (.ireturn, 1) := by decide +kernel
theorem dX6_byteOf_0 : decode cX6_byteOf 0 = .ok (.lload_n 0, 1) := by decide +kernel
theorem dX6_byteOf_1 : decode cX6_byteOf 1 = .ok (.bipush 8, 2) := by decide +kernel
theorem dX6_byteOf_3 : decode cX6_byteOf 3 = .ok (.iload_n 2, 1) := by decide +kernel
theorem dX6_byteOf_4 : decode cX6_byteOf 4 = .ok (.imul, 1) := by decide +kernel
theorem dX6_byteOf_5 : decode cX6_byteOf 5 = .ok (.lshr, 1) := by decide +kernel
theorem dX6_byteOf_6 : decode cX6_byteOf 6 = .ok (.ldc2_w 38, 3) := by decide +kernel
theorem dX6_byteOf_9 : decode cX6_byteOf 9 = .ok (.land, 1) := by decide +kernel
theorem dX6_byteOf_10 : decode cX6_byteOf 10 = .ok (.l2i, 1) := by decide +kernel
theorem dX6_byteOf_11 : decode cX6_byteOf 11 = .ok (.ireturn, 1) := by decide +kernel
set_option maxRecDepth 20000 in
theorem ggX6_read_X6_readAll : GoodIn wsX6_read wsX6_readAll := goodIn_r _ [10, 11, 12, 13, 9, 14, 3, 1, 15, 16, 17, 18, 4, 19, 20, 21, 22, 23, 5, 24, 25, 26, 27, 28, 29, 30, 31, 32, 33, 34, 35, 36, 37, 38, 39, 40, 41, 42, 43, 44, 45, 46, 47, 2, 48, 49, 50, 51, 52, 53, 54] (by decide +kernel) (by decide +kernel)
set_option maxRecDepth 20000 in
theorem gX6_read_X6_readAll : GoodIn wsX6_read (wsV RX6 40 RX6 yX6_readAll wsX6_readAll) := goodIn_app (goodIn_of _ (by decide +kernel)) ggX6_read_X6_readAll
theorem dX6_read_0 : decode cX6_read 0 = .ok (.aload_n 0, 1) := by decide +kernel
theorem dX6_read_1 : decode cX6_read 1 = .ok (.iconst 0, 1) := by decide +kernel
theorem dX6_read_2 : decode cX6_read 2 = .ok (.putfield 28, 3) := by decide +kernel
