theorem dX6_read_5 : decode cX6_read 5 = .ok (.aload_n 0, 1) := by decide +kernel
theorem dX6_read_6 : decode cX6_read 6 = .ok (.iconst 0, 1) := by decide +kernel
theorem dX6_read_7 : decode cX6_read 7 = .ok (.putfield 22, 3) := by decide +kernel
theorem dX6_read_10 : decode cX6_read 10 = .ok (.aload_n 0, 1) := by decide +kernel
theorem dX6_read_11 : decode cX6_read 11 = .ok (.iconst 0, 1) := by decide +kernel
theorem dX6_read_12 : decode cX6_read 12 = .ok (.putfield 25, 3) := by decide +kernel
theorem dX6_read_15 : decode cX6_read 15 = .ok (.aload_n 0, 1) := by decide +kernel
theorem dX6_read_16 : decode cX6_read 16 = .ok (.iload_n 1, 1) := by decide +kernel
theorem dX6_read_17 : decode cX6_read 17 = .ok (.invokevirtual 40, 3) := by decide +kernel
theorem dX6_read_20 : decode cX6_read 20 = .ok (.istore_n 2, 1) := by decide +kernel
theorem dX6_read_21 : decode cX6_read 21 = .ok (.aload_n 0, 1) := by decide +kernel
theorem dX6_read_22 : decode cX6_read 22 = .ok (.iconst 0, 1) := by decide +kernel
theorem dX6_read_23 : decode cX6_read 23 = .ok (.putfield 15, 3) := by decide +kernel
theorem dX6_read_26 : decode cX6_read 26 = .ok (.iload_n 2, 1) := by decide +kernel
theorem dX6_read_27 : decode cX6_read 27 = .ok (.ifCond .eq 10, 3) := by decide +kernel
theorem dX6_read_30 : decode cX6_read 30 = .ok (.aload_n 0, 1) := by decide +kernel
theorem dX6_read_31 : decode cX6_read 31 = .ok (.getfield 25, 3) := by decide +kernel
theorem dX6_read_34 : decode cX6_read 34 = .ok (.goto 10, 3) := by decide +kernel
theorem dX6_read_37 : decode cX6_read 37 = .ok (.bipush (-20), 2) := by decide +kernel
theorem dX6_read_39 : decode cX6_read 39 = .ok (.aload_n 0, 1) := by decide +kernel
theorem dX6_read_40 : decode cX6_read 40 = .ok (.getfield 31, 3) := by decide +kernel
theorem dX6_read_43 : decode cX6_read 43 = .ok (.isub, 1) := by decide +kernel
theorem dX6_read_44 : decode cX6_read 44 = .ok (.ireturn, 1) := by decide +kernel
set_option maxRecDepth 20000 in
theorem ggX6_hand_X0_add : GoodIn wsX6_hand wsX0_add := goodIn_r _ [8, 9, 10, 11, 12, 13, 14, 15, 16, 7, 17, 18, 19, 20, 21, 22, 23, 24, 25, 26, 27, 28, 29, 30, 31, 32, 33, 34, 35, 36, 37, 38, 39, 40, 41, 42, 43, 44, 52, 53, 54, 55, 56, 57, 58] (by decide +kernel) (by decide +kernel)
set_option maxRecDepth 20000 in
theorem gX6_hand_X0_add : GoodIn wsX6_hand (wsV RX6 44 RX0 yX0_add wsX0_add) := goodIn_app (goodIn_of _ (by decide +kernel)) ggX6_hand_X0_add
theorem dX6_hand_0 : decode cX6_hand 0 = .ok (.iload_n 1, 1) := by decide +kernel
theorem dX6_hand_1 : decode cX6_hand 1 = .ok (.ifCond .lt 66, 3) := by decide +kernel
theorem dX6_hand_4 : decode cX6_hand 4 = .ok (.iload_n 1, 1) := by decide +kernel
theorem dX6_hand_5 : decode cX6_hand 5 = .ok (.aload_n 0, 1) := by decide +kernel
theorem dX6_hand_6 : decode cX6_hand 6 = .ok (.getfield 25, 3) := by decide +kernel
theorem dX6_hand_9 : decode cX6_hand 9 = .ok (.if_icmp .ge 58, 3) := by decide +kernel
theorem dX6_hand_12 : decode cX6_hand 12 = .ok (.iload_n 1, 1) := by decide +kernel
theorem dX6_hand_13 : decode cX6_hand 13 = .ok (.bipush 12, 2) := by decide +kernel
theorem dX6_hand_15 : decode cX6_hand 15 = .ok (.if_icmp .ge 52, 3) := by decide +kernel
theorem dX6_hand_18 : decode cX6_hand 18 = .ok (.aload_n 2, 1) := by decide +kernel
theorem dX6_hand_19 : decode cX6_hand 19 = .ok (.aload_n 0, 1) := by decide +kernel
theorem dX6_hand_20 : decode cX6_hand 20 = .ok (.getfield 19, 3) := by decide +kernel
theorem dX6_hand_23 : decode cX6_hand 23 = .ok (.iconst 3, 1) := by decide +kernel
theorem dX6_hand_24 : decode cX6_hand 24 = .ok (.iload_n 1, 1) := by decide +kernel
theorem dX6_hand_25 : decode cX6_hand 25 = .ok (.imul, 1) := by decide +kernel
theorem dX6_hand_26 : decode cX6_hand 26 = .ok (.iaload, 1) := by decide +kernel
theorem dX6_hand_27 : decode cX6_hand 27 = .ok (.aload_n 0, 1) := by decide +kernel
theorem dX6_hand_28 : decode cX6_hand 28 = .ok (.getfield 19, 3) := by decide +kernel
theorem dX6_hand_31 : decode cX6_hand 31 = .ok (.iconst 3, 1) := by decide +kernel
theorem dX6_hand_32 : decode cX6_hand 32 = .ok (.iload_n 1, 1) := by decide +kernel
theorem dX6_hand_33 : decode cX6_hand 33 = .ok (.imul, 1) := by decide +kernel
theorem dX6_hand_34 : decode cX6_hand 34 = .ok (.iconst 1, 1) := by decide +kernel
theorem dX6_hand_35 : decode cX6_hand 35 = .ok (.iadd, 1) := by decide +kernel
theorem dX6_hand_36 : decode cX6_hand 36 = .ok (.iaload, 1) := by decide +kernel
theorem dX6_hand_37 : decode cX6_hand 37 = .ok (.aload_n 0, 1) := by decide +kernel
theorem dX6_hand_38 : decode cX6_hand 38 = .ok (.getfield 19, 3) := by decide +kernel
theorem dX6_hand_41 : decode cX6_hand 41 = .ok (.iconst 3, 1) := by decide +kernel
theorem dX6_hand_42 : decode cX6_hand 42 = .ok (.iload_n 1, 1) := by decide +kernel
theorem dX6_hand_43 : decode cX6_hand 43 = .ok (.imul, 1) := by decide +kernel
theorem dX6_hand_44 : decode cX6_hand 44 = .ok (.iconst 2, 1) := by decide +kernel
theorem dX6_hand_45 : decode cX6_hand 45 = .ok (.iadd, 1) := by decide +kernel
theorem dX6_hand_46 : decode cX6_hand 46 = .ok (.iaload, 1) := by decide +kernel
theorem dX6_hand_47 : decode cX6_hand 47 = .ok (.aload_n 0, 1) := by decide +kernel
theorem dX6_hand_48 : decode cX6_hand 48 = .ok (.getfield 22, 3) := by decide +kernel
theorem dX6_hand_51 : decode cX6_hand 51 = .ok (.iload_n 1, 1) := by decide +kernel
theorem dX6_hand_52 : decode cX6_hand 52 = .ok (.ishr, 1) := by decide +kernel
theorem dX6_hand_53 : decode cX6_hand 53 = .ok (.iconst 1, 1) := by decide +kernel
theorem dX6_hand_54 : decode cX6_hand 54 = .ok (.iand, 1) := by decide +kernel
theorem dX6_hand_55 : decode cX6_hand 55 = .ok (.ifCond .eq 7, 3) := by decide +kernel
theorem dX6_hand_58 : decode cX6_hand 58 = .ok (.iconst 1, 1) := by decide +kernel
theorem dX6_hand_59 : decode cX6_hand 59 = .ok (.goto 4, 3) := by decide +kernel
theorem dX6_hand_62 : decode cX6_hand 62 = .ok (.iconst 0, 1) := by decide +kernel
theorem dX6_hand_63 : decode cX6_hand 63 = .ok (.invokevirtual 44, 3) := by decide +kernel
theorem dX6_hand_66 : decode cX6_hand 66 = .ok (.pop, 1) := by decide +kernel
theorem dX6_hand_67 : decode cX6_hand 67 = .ok (.return_, 1) := by decide +kernel
set_option maxRecDepth 20000 in
theorem ggX6_readAll_X6_readRow : GoodIn wsX6_readAll wsX6_readRow := goodIn_r _ [5, 6, 7, 8, 9, 10, 4, 11, 12, 13, 14, 15, 16, 17, 18, 19, 20, 21, 22, 23, 24, 25, 26, 27, 28, 29, 30, 31, 32, 33, 34, 35, 36, 37, 38, 39, 40, 41, 42, 43, 44, 45, 46, 47, 48, 49, 50] (by decide +kernel) (by decide +kernel)
set_option maxRecDepth 20000 in
theorem gX6_readAll_X6_readRow : GoodIn wsX6_readAll (wsV RX6 50 RX6 yX6_readRow wsX6_readRow) := goodIn_app (goodIn_of _ (by decide +kernel)) ggX6_readAll_X6_readRow
set_option maxRecDepth 20000 in
theorem ggX6_readAll_X6_look : GoodIn wsX6_readAll wsX6_look := goodIn_r _ [11, 7, 12, 13, 44, 45, 46, 47, 48, 49, 50] (by decide +kernel) (by decide +kernel)
set_option maxRecDepth 20000 in
theorem gX6_readAll_X6_look : GoodIn wsX6_readAll (wsV RX6 53 RX6 yX6_look wsX6_look) := goodIn_app (goodIn_of _ (by decide +kernel)) ggX6_readAll_X6_look
set_option maxRecDepth 20000 in
theorem ggX6_readAll_X6_pass : GoodIn wsX6_readAll wsX6_pass := goodIn_r _ [22, 7, 8, 9, 10, 4, 11, 12, 13, 14, 15, 16, 17, 18, 44, 45, 46, 47, 48, 49, 50] (by decide +kernel) (by decide +kernel)
set_option maxRecDepth 20000 in
theorem gX6_readAll_X6_pass : GoodIn wsX6_readAll (wsV RX6 57 RX6 yX6_pass wsX6_pass) := goodIn_app (goodIn_of _ (by decide +kernel)) ggX6_readAll_X6_pass
theorem dX6_readAll_0 : decode cX6_readAll 0 = .ok (.iconst 0, 1) := by decide +kernel
theorem dX6_readAll_1 : decode cX6_readAll 1 = .ok (.istore_n 2, 1) := by decide +kernel
theorem dX6_readAll_2 : decode cX6_readAll 2 = .ok (.iload_n 2, 1) := by decide +kernel
theorem dX6_readAll_3 : decode cX6_readAll 3 = .ok (.iload_n 1, 1) := by decide +kernel
theorem dX6_readAll_4 : decode cX6_readAll 4 = .ok (.if_icmp .gt 40, 3) := by decide +kernel
theorem dX6_readAll_7 : decode cX6_readAll 7 = .ok (.aload_n 0, 1) := by decide +kernel
theorem dX6_readAll_8 : decode cX6_readAll 8 = .ok (.iload_n 1, 1) := by decide +kernel
theorem dX6_readAll_9 : decode cX6_readAll 9 = .ok (.invokevirtual 50, 3) := by decide +kernel
theorem dX6_readAll_12 : decode cX6_readAll 12 = .ok (.ifCond .ne 5, 3) := by decide +kernel
theorem dX6_readAll_15 : decode cX6_readAll 15 = .ok (.iconst 0, 1) := by decide +kernel
theorem dX6_readAll_16 : decode cX6_readAll 16 = .ok (.ireturn, 1) := by decide +kernel
theorem dX6_readAll_17 : decode cX6_readAll 17 = .ok (.aload_n 0, 1) := by decide +kernel
theorem dX6_readAll_18 : decode cX6_readAll 18 = .ok (.invokevirtual 53, 3) := by decide +kernel
theorem dX6_readAll_21 : decode cX6_readAll 21 = .ok (.iconst (-1), 1) := by decide +kernel
theorem dX6_readAll_22 : decode cX6_readAll 22 = .ok (.if_icmp .ne 5, 3) := by decide +kernel
theorem dX6_readAll_25 : decode cX6_readAll 25 = .ok (.iconst 1, 1) := by decide +kernel
theorem dX6_readAll_26 : decode cX6_readAll 26 = .ok (.ireturn, 1) := by decide +kernel
theorem dX6_readAll_27 : decode cX6_readAll 27 = .ok (.aload_n 0, 1) := by decide +kernel
theorem dX6_readAll_28 : decode cX6_readAll 28 = .ok (.bipush 59, 2) := by decide +kernel
theorem dX6_readAll_30 : decode cX6_readAll 30 = .ok (.invokevirtual 57, 3) := by decide +kernel
theorem dX6_readAll_33 : decode cX6_readAll 33 = .ok (.ifCond .ne 5, 3) := by decide +kernel
theorem dX6_readAll_36 : decode cX6_readAll 36 = .ok (.iconst 0, 1) := by decide +kernel
theorem dX6_readAll_37 : decode cX6_readAll 37 = .ok (.ireturn, 1) := by decide +kernel
theorem dX6_readAll_38 : decode cX6_readAll 38 = .ok (.iinc 2 1, 3) := by decide +kernel
theorem dX6_readAll_41 : decode cX6_readAll 41 = .ok (.goto (-39), 3) := by decide +kernel
theorem dX6_readAll_44 : decode cX6_readAll 44 = .ok (.iconst 0, 1) := by decide +kernel
theorem dX6_readAll_45 : decode cX6_readAll 45 = .ok (.ireturn, 1) := by decide +kernel
set_option maxRecDepth 20000 in
theorem ggX6_readRow_X6_look : GoodIn wsX6_readRow wsX6_look := goodIn_r _ [7, 2, 8, 9, 40, 41, 42, 43, 44, 45, 46] (by decide +kernel) (by decide +kernel)
set_option maxRecDepth 20000 in
theorem gX6_readRow_X6_look : GoodIn wsX6_readRow (wsV RX6 53 RX6 yX6_look wsX6_look) := goodIn_app (goodIn_of _ (by decide +kernel)) ggX6_readRow_X6_look
set_option maxRecDepth 20000 in
theorem ggX6_readRow_X6_refuse : GoodIn wsX6_readRow wsX6_refuse := goodIn_r _ [13, 14, 40, 41, 42, 43, 44, 45, 46] (by decide +kernel) (by decide +kernel)
set_option maxRecDepth 20000 in
theorem gX6_readRow_X6_refuse : GoodIn wsX6_readRow (wsV RX6 61 RX6 yX6_refuse wsX6_refuse) := goodIn_app (goodIn_of _ (by decide +kernel)) ggX6_readRow_X6_refuse
set_option maxRecDepth 20000 in
theorem ggX6_readRow_X6_pass : GoodIn wsX6_readRow wsX6_pass := goodIn_r _ [18, 2, 3, 4, 5, 6, 7, 8, 9, 10, 11, 12, 13, 14, 40, 41, 42, 43, 44, 45, 46] (by decide +kernel) (by decide +kernel)
set_option maxRecDepth 20000 in
theorem gX6_readRow_X6_pass : GoodIn wsX6_readRow (wsV RX6 57 RX6 yX6_pass wsX6_pass) := goodIn_app (goodIn_of _ (by decide +kernel)) ggX6_readRow_X6_pass
set_option maxRecDepth 20000 in
theorem ggX6_readRow_X6_readNumber : GoodIn wsX6_readRow wsX6_readNumber := goodIn_r _ [22, 2, 8, 9, 23, 24, 25, 26, 3, 4, 5, 6, 7, 27, 28, 29, 10, 11, 12, 13, 14, 30, 31, 32, 33, 34, 40, 41, 42, 43, 44, 45, 46] (by decide +kernel) (by decide +kernel)
set_option maxRecDepth 20000 in
theorem gX6_readRow_X6_readNumber : GoodIn wsX6_readRow (wsV RX6 64 RX6 yX6_readNumber wsX6_readNumber) := goodIn_app (goodIn_of _ (by decide +kernel)) ggX6_readRow_X6_readNumber
set_option maxRecDepth 20000 in
theorem ggX6_readRow_X6_readEnd : GoodIn wsX6_readRow wsX6_readEnd := goodIn_r _ [38, 39, 1, 3, 4, 5, 6, 7, 2, 8, 9, 19, 20, 21, 22, 23, 24, 25, 26, 27, 28, 29, 10, 11, 12, 13, 14, 30, 31, 32, 33, 34, 15, 16, 17, 18, 40, 41, 42, 43, 44, 45, 46] (by decide +kernel) (by decide +kernel)
set_option maxRecDepth 20000 in
theorem gX6_readRow_X6_readEnd : GoodIn wsX6_readRow (wsV RX6 67 RX6 yX6_readEnd wsX6_readEnd) := goodIn_app (goodIn_of _ (by decide +kernel)) ggX6_readRow_X6_readEnd
theorem dX6_readRow_0 : decode cX6_readRow 0 = .ok (.aload_n 0, 1) := by decide +kernel
theorem dX6_readRow_1 : decode cX6_readRow 1 = .ok (.invokevirtual 53, 3) := by decide +kernel
theorem dX6_readRow_4 : decode cX6_readRow 4 = .ok (.pop, 1) := by decide +kernel
theorem dX6_readRow_5 : decode cX6_readRow 5 = .ok (.aload_n 0, 1) := by decide +kernel
theorem dX6_readRow_6 : decode cX6_readRow 6 = .ok (.getfield 25, 3) := by decide +kernel
theorem dX6_readRow_9 : decode cX6_readRow 9 = .ok (.iload_n 1, 1) := by decide +kernel
theorem dX6_readRow_10 : decode cX6_readRow 10 = .ok (.if_icmp .ge 12, 3) := by decide +kernel
theorem dX6_readRow_13 : decode cX6_readRow 13 = .ok (.aload_n 0, 1) := by decide +kernel
theorem dX6_readRow_14 : decode cX6_readRow 14 = .ok (.getfield 25, 3) := by decide +kernel
theorem dX6_readRow_17 : decode cX6_readRow 17 = .ok (.bipush 12, 2) := by decide +kernel
theorem dX6_readRow_19 : decode cX6_readRow 19 = .ok (.if_icmp .lt 12, 3) := by decide +kernel
theorem dX6_readRow_22 : decode cX6_readRow 22 = .ok (.aload_n 0, 1) := by decide +kernel
theorem dX6_readRow_23 : decode cX6_readRow 23 = .ok (.aload_n 0, 1) := by decide +kernel
theorem dX6_readRow_24 : decode cX6_readRow 24 = .ok (.getfield 28, 3) := by decide +kernel
theorem dX6_readRow_27 : decode cX6_readRow 27 = .ok (.invokevirtual 61, 3) := by decide +kernel
theorem dX6_readRow_30 : decode cX6_readRow 30 = .ok (.ireturn, 1) := by decide +kernel
theorem dX6_readRow_31 : decode cX6_readRow 31 = .ok (.iconst 3, 1) := by decide +kernel
theorem dX6_readRow_32 : decode cX6_readRow 32 = .ok (.aload_n 0, 1) := by decide +kernel
theorem dX6_readRow_33 : decode cX6_readRow 33 = .ok (.getfield 25, 3) := by decide +kernel
theorem dX6_readRow_36 : decode cX6_readRow 36 = .ok (.imul, 1) := by decide +kernel
theorem dX6_readRow_37 : decode cX6_readRow 37 = .ok (.istore_n 2, 1) := by decide +kernel
theorem dX6_readRow_38 : decode cX6_readRow 38 = .ok (.aload_n 0, 1) := by decide +kernel
theorem dX6_readRow_39 : decode cX6_readRow 39 = .ok (.bipush 120, 2) := by decide +kernel
theorem dX6_readRow_41 : decode cX6_readRow 41 = .ok (.invokevirtual 57, 3) := by decide +kernel
theorem dX6_readRow_44 : decode cX6_readRow 44 = .ok (.ifCond .eq 61, 3) := by decide +kernel
theorem dX6_readRow_47 : decode cX6_readRow 47 = .ok (.aload_n 0, 1) := by decide +kernel
theorem dX6_readRow_48 : decode cX6_readRow 48 = .ok (.iload_n 2, 1) := by decide +kernel
theorem dX6_readRow_49 : decode cX6_readRow 49 = .ok (.invokevirtual 64, 3) := by decide +kernel
theorem dX6_readRow_52 : decode cX6_readRow 52 = .ok (.ifCond .eq 53, 3) := by decide +kernel
theorem dX6_readRow_55 : decode cX6_readRow 55 = .ok (.aload_n 0, 1) := by decide +kernel
theorem dX6_readRow_56 : decode cX6_readRow 56 = .ok (.bipush 117, 2) := by decide +kernel
theorem dX6_readRow_58 : decode cX6_readRow 58 = .ok (.invokevirtual 57, 3) := by decide +kernel
theorem dX6_readRow_61 : decode cX6_readRow 61 = .ok (.ifCond .eq 44, 3) := by decide +kernel
theorem dX6_readRow_64 : decode cX6_readRow 64 = .ok (.aload_n 0, 1) := by decide +kernel
theorem dX6_readRow_65 : decode cX6_readRow 65 = .ok (.iload_n 2, 1) := by decide +kernel
theorem dX6_readRow_66 : decode cX6_readRow 66 = .ok (.iconst 1, 1) := by decide +kernel
theorem dX6_readRow_67 : decode cX6_readRow 67 = .ok (.iadd, 1) := by decide +kernel
theorem dX6_readRow_68 : decode cX6_readRow 68 = .ok (.invokevirtual 64, 3) := by decide +kernel
theorem dX6_readRow_71 : decode cX6_readRow 71 = .ok (.ifCond .eq 34, 3) := by decide +kernel
theorem dX6_readRow_74 : decode cX6_readRow 74 = .ok (.aload_n 0, 1) := by decide +kernel
theorem dX6_readRow_75 : decode cX6_readRow 75 = .ok (.bipush 121, 2) := by decide +kernel
theorem dX6_readRow_77 : decode cX6_readRow 77 = .ok (.invokevirtual 57, 3) := by decide +kernel
theorem dX6_readRow_80 : decode cX6_readRow 80 = .ok (.ifCond .eq 25, 3) := by decide +kernel
theorem dX6_readRow_83 : decode cX6_readRow 83 = .ok (.aload_n 0, 1) := by decide +kernel
theorem dX6_readRow_84 : decode cX6_readRow 84 = .ok (.iload_n 2, 1) := by decide +kernel
theorem dX6_readRow_85 : decode cX6_readRow 85 = .ok (.iconst 2, 1) := by decide +kernel
theorem dX6_readRow_86 : decode cX6_readRow 86 = .ok (.iadd, 1) := by decide +kernel
theorem dX6_readRow_87 : decode cX6_readRow 87 = .ok (.invokevirtual 67, 3) := by decide +kernel
theorem dX6_readRow_90 : decode cX6_readRow 90 = .ok (.ifCond .eq 15, 3) := by decide +kernel
theorem dX6_readRow_93 : decode cX6_readRow 93 = .ok (.aload_n 0, 1) := by decide +kernel
theorem dX6_readRow_94 : decode cX6_readRow 94 = .ok (.dup, 1) := by decide +kernel
theorem dX6_readRow_95 : decode cX6_readRow 95 = .ok (.getfield 25, 3) := by decide +kernel
theorem dX6_readRow_98 : decode cX6_readRow 98 = .ok (.iconst 1, 1) := by decide +kernel
theorem dX6_readRow_99 : decode cX6_readRow 99 = .ok (.iadd, 1) := by decide +kernel
theorem dX6_readRow_100 : decode cX6_readRow 100 = .ok (.putfield 25, 3) := by decide +kernel
theorem dX6_readRow_103 : decode cX6_readRow 103 = .ok (.iconst 1, 1) := by decide +kernel
theorem dX6_readRow_104 : decode cX6_readRow 104 = .ok (.ireturn, 1) := by decide +kernel
theorem dX6_readRow_105 : decode cX6_readRow 105 = .ok (.iconst 0, 1) := by decide +kernel
theorem dX6_readRow_106 : decode cX6_readRow 106 = .ok (.ireturn, 1) := by decide +kernel
set_option maxRecDepth 20000 in
theorem ggX6_readEnd_X6_look : GoodIn wsX6_readEnd wsX6_look := goodIn_r _ [7, 8, 9, 10, 36, 37, 38, 39, 40, 41, 42] (by decide +kernel) (by decide +kernel)
set_option maxRecDepth 20000 in
theorem gX6_readEnd_X6_look : GoodIn wsX6_readEnd (wsV RX6 53 RX6 yX6_look wsX6_look) := goodIn_app (goodIn_of _ (by decide +kernel)) ggX6_readEnd_X6_look
set_option maxRecDepth 20000 in
theorem ggX6_readEnd_X6_readNumber : GoodIn wsX6_readEnd wsX6_readNumber := goodIn_r _ [14, 8, 9, 10, 15, 16, 17, 18, 3, 4, 5, 6, 7, 19, 20, 21, 22, 23, 24, 25, 26, 27, 28, 29, 30, 31, 36, 37, 38, 39, 40, 41, 42] (by decide +kernel) (by decide +kernel)
set_option maxRecDepth 20000 in
theorem gX6_readEnd_X6_readNumber : GoodIn wsX6_readEnd (wsV RX6 64 RX6 yX6_readNumber wsX6_readNumber) := goodIn_app (goodIn_of _ (by decide +kernel)) ggX6_readEnd_X6_readNumber
set_option maxRecDepth 20000 in
theorem ggX6_readEnd_X6_store : GoodIn wsX6_readEnd wsX6_store := goodIn_r _ [30, 31, 36, 37, 38, 39, 40, 41, 42] (by decide +kernel) (by decide +kernel)
set_option maxRecDepth 20000 in
theorem gX6_readEnd_X6_store : GoodIn wsX6_readEnd (wsV RX6 70 RX6 yX6_store wsX6_store) := goodIn_app (goodIn_of _ (by decide +kernel)) ggX6_readEnd_X6_store
set_option maxRecDepth 20000 in
theorem ggX6_readEnd_X6_pass : GoodIn wsX6_readEnd wsX6_pass := goodIn_r _ [35, 8, 3, 4, 5, 6, 7, 9, 10, 22, 23, 24, 25, 26, 36, 37, 38, 39, 40, 41, 42] (by decide +kernel) (by decide +kernel)
set_option maxRecDepth 20000 in
theorem gX6_readEnd_X6_pass : GoodIn wsX6_readEnd (wsV RX6 57 RX6 yX6_pass wsX6_pass) := goodIn_app (goodIn_of _ (by decide +kernel)) ggX6_readEnd_X6_pass
theorem dX6_readEnd_0 : decode cX6_readEnd 0 = .ok (.aload_n 0, 1) := by decide +kernel
theorem dX6_readEnd_1 : decode cX6_readEnd 1 = .ok (.invokevirtual 53, 3) := by decide +kernel
theorem dX6_readEnd_4 : decode cX6_readEnd 4 = .ok (.bipush 63, 2) := by decide +kernel
theorem dX6_readEnd_6 : decode cX6_readEnd 6 = .ok (.if_icmp .eq 9, 3) := by decide +kernel
theorem dX6_readEnd_9 : decode cX6_readEnd 9 = .ok (.aload_n 0, 1) := by decide +kernel
theorem dX6_readEnd_10 : decode cX6_readEnd 10 = .ok (.iload_n 1, 1) := by decide +kernel
theorem dX6_readEnd_11 : decode cX6_readEnd 11 = .ok (.invokevirtual 64, 3) := by decide +kernel
theorem dX6_readEnd_14 : decode cX6_readEnd 14 = .ok (.ireturn, 1) := by decide +kernel
theorem dX6_readEnd_15 : decode cX6_readEnd 15 = .ok (.aload_n 0, 1) := by decide +kernel
theorem dX6_readEnd_16 : decode cX6_readEnd 16 = .ok (.dup, 1) := by decide +kernel
theorem dX6_readEnd_17 : decode cX6_readEnd 17 = .ok (.getfield 22, 3) := by decide +kernel
theorem dX6_readEnd_20 : decode cX6_readEnd 20 = .ok (.iconst 1, 1) := by decide +kernel
theorem dX6_readEnd_21 : decode cX6_readEnd 21 = .ok (.aload_n 0, 1) := by decide +kernel
theorem dX6_readEnd_22 : decode cX6_readEnd 22 = .ok (.getfield 25, 3) := by decide +kernel
theorem dX6_readEnd_25 : decode cX6_readEnd 25 = .ok (.ishl, 1) := by decide +kernel
theorem dX6_readEnd_26 : decode cX6_readEnd 26 = .ok (.ior, 1) := by decide +kernel
theorem dX6_readEnd_27 : decode cX6_readEnd 27 = .ok (.putfield 22, 3) := by decide +kernel
theorem dX6_readEnd_30 : decode cX6_readEnd 30 = .ok (.aload_n 0, 1) := by decide +kernel
theorem dX6_readEnd_31 : decode cX6_readEnd 31 = .ok (.iload_n 1, 1) := by decide +kernel
theorem dX6_readEnd_32 : decode cX6_readEnd 32 = .ok (.iconst 0, 1) := by decide +kernel
theorem dX6_readEnd_33 : decode cX6_readEnd 33 = .ok (.invokevirtual 70, 3) := by decide +kernel
theorem dX6_readEnd_36 : decode cX6_readEnd 36 = .ok (.aload_n 0, 1) := by decide +kernel
theorem dX6_readEnd_37 : decode cX6_readEnd 37 = .ok (.bipush 63, 2) := by decide +kernel
theorem dX6_readEnd_39 : decode cX6_readEnd 39 = .ok (.invokevirtual 57, 3) := by decide +kernel
theorem dX6_readEnd_42 : decode cX6_readEnd 42 = .ok (.ireturn, 1) := by decide +kernel
set_option maxRecDepth 20000 in
theorem ggX6_readNumber_X6_look : GoodIn wsX6_readNumber wsX6_look := goodIn_r _ [12, 1, 2, 3, 26, 27, 28, 29, 30, 31, 32] (by decide +kernel) (by decide +kernel)
set_option maxRecDepth 20000 in
theorem gX6_readNumber_X6_look : GoodIn wsX6_readNumber (wsV RX6 53 RX6 yX6_look wsX6_look) := goodIn_app (goodIn_of _ (by decide +kernel)) ggX6_readNumber_X6_look
set_option maxRecDepth 20000 in
theorem ggX6_readNumber_X6_isDigit : GoodIn wsX6_readNumber wsX6_isDigit := goodIn_r _ [15] (by decide +kernel) (by decide +kernel)
set_option maxRecDepth 20000 in
theorem gX6_readNumber_X6_isDigit : GoodIn wsX6_readNumber (va_wsS RX6 74 yX6_isDigit wsX6_isDigit) := goodIn_app (goodIn_of _ (by decide +kernel)) ggX6_readNumber_X6_isDigit
set_option maxRecDepth 20000 in
theorem ggX6_readNumber_X6_refuse : GoodIn wsX6_readNumber wsX6_refuse := goodIn_r _ [19, 20, 26, 27, 28, 29, 30, 31, 32] (by decide +kernel) (by decide +kernel)
set_option maxRecDepth 20000 in
theorem gX6_readNumber_X6_refuse : GoodIn wsX6_readNumber (wsV RX6 61 RX6 yX6_refuse wsX6_refuse) := goodIn_app (goodIn_of _ (by decide +kernel)) ggX6_readNumber_X6_refuse
set_option maxRecDepth 20000 in
theorem ggX6_readNumber_X6_store : GoodIn wsX6_readNumber wsX6_store := goodIn_r _ [24, 25, 26, 27, 28, 29, 30, 31, 32] (by decide +kernel) (by decide +kernel)
set_option maxRecDepth 20000 in
theorem gX6_readNumber_X6_store : GoodIn wsX6_readNumber (wsV RX6 70 RX6 yX6_store wsX6_store) := goodIn_app (goodIn_of _ (by decide +kernel)) ggX6_readNumber_X6_store
theorem dX6_readNumber_0 : decode cX6_readNumber 0 = .ok (.aload_n 0, 1) := by decide +kernel
theorem dX6_readNumber_1 : decode cX6_readNumber 1 = .ok (.invokevirtual 53, 3) := by decide +kernel
theorem dX6_readNumber_4 : decode cX6_readNumber 4 = .ok (.pop, 1) := by decide +kernel
theorem dX6_readNumber_5 : decode cX6_readNumber 5 = .ok (.aload_n 0, 1) := by decide +kernel
theorem dX6_readNumber_6 : decode cX6_readNumber 6 = .ok (.getfield 28, 3) := by decide +kernel
theorem dX6_readNumber_9 : decode cX6_readNumber 9 = .ok (.istore_n 2, 1) := by decide +kernel
theorem dX6_readNumber_10 : decode cX6_readNumber 10 = .ok (.aload_n 0, 1) := by decide +kernel
theorem dX6_readNumber_11 : decode cX6_readNumber 11 = .ok (.invokevirtual 53, 3) := by decide +kernel
theorem dX6_readNumber_14 : decode cX6_readNumber 14 = .ok (.bipush 45, 2) := by decide +kernel
theorem dX6_readNumber_16 : decode cX6_readNumber 16 = .ok (.if_icmp .ne 7, 3) := by decide +kernel
theorem dX6_readNumber_19 : decode cX6_readNumber 19 = .ok (.iconst 1, 1) := by decide +kernel
theorem dX6_readNumber_20 : decode cX6_readNumber 20 = .ok (.goto 4, 3) := by decide +kernel
theorem dX6_readNumber_23 : decode cX6_readNumber 23 = .ok (.iconst 0, 1) := by decide +kernel
theorem dX6_readNumber_24 : decode cX6_readNumber 24 = .ok (.istore_n 3, 1) := by decide +kernel
theorem dX6_readNumber_25 : decode cX6_readNumber 25 = .ok (.iload_n 3, 1) := by decide +kernel
theorem dX6_readNumber_26 : decode cX6_readNumber 26 = .ok (.ifCond .eq 13, 3) := by decide +kernel
theorem dX6_readNumber_29 : decode cX6_readNumber 29 = .ok (.aload_n 0, 1) := by decide +kernel
theorem dX6_readNumber_30 : decode cX6_readNumber 30 = .ok (.dup, 1) := by decide +kernel
theorem dX6_readNumber_31 : decode cX6_readNumber 31 = .ok (.getfield 28, 3) := by decide +kernel
theorem dX6_readNumber_34 : decode cX6_readNumber 34 = .ok (.iconst 1, 1) := by decide +kernel
theorem dX6_readNumber_35 : decode cX6_readNumber 35 = .ok (.iadd, 1) := by decide +kernel
theorem dX6_readNumber_36 : decode cX6_readNumber 36 = .ok (.putfield 28, 3) := by decide +kernel
theorem dX6_readNumber_39 : decode cX6_readNumber 39 = .ok (.aload_n 0, 1) := by decide +kernel
theorem dX6_readNumber_40 : decode cX6_readNumber 40 = .ok (.invokevirtual 53, 3) := by decide +kernel
theorem dX6_readNumber_43 : decode cX6_readNumber 43 = .ok (.invokestatic 74, 3) := by decide +kernel
theorem dX6_readNumber_46 : decode cX6_readNumber 46 = .ok (.ifCond .ne 12, 3) := by decide +kernel
theorem dX6_readNumber_49 : decode cX6_readNumber 49 = .ok (.aload_n 0, 1) := by decide +kernel
theorem dX6_readNumber_50 : decode cX6_readNumber 50 = .ok (.aload_n 0, 1) := by decide +kernel
theorem dX6_readNumber_51 : decode cX6_readNumber 51 = .ok (.getfield 28, 3) := by decide +kernel
theorem dX6_readNumber_54 : decode cX6_readNumber 54 = .ok (.invokevirtual 61, 3) := by decide +kernel
theorem dX6_readNumber_57 : decode cX6_readNumber 57 = .ok (.ireturn, 1) := by decide +kernel
theorem dX6_readNumber_58 : decode cX6_readNumber 58 = .ok (.iconst 0, 1) := by decide +kernel
theorem dX6_readNumber_59 : decode cX6_readNumber 59 = .ok (.istore 4, 2) := by decide +kernel
theorem dX6_readNumber_61 : decode cX6_readNumber 61 = .ok (.aload_n 0, 1) := by decide +kernel
theorem dX6_readNumber_62 : decode cX6_readNumber 62 = .ok (.getfield 28, 3) := by decide +kernel
theorem dX6_readNumber_65 : decode cX6_readNumber 65 = .ok (.aload_n 0, 1) := by decide +kernel
theorem dX6_readNumber_66 : decode cX6_readNumber 66 = .ok (.getfield 15, 3) := by decide +kernel
theorem dX6_readNumber_69 : decode cX6_readNumber 69 = .ok (.if_icmp .ge 65, 3) := by decide +kernel
theorem dX6_readNumber_72 : decode cX6_readNumber 72 = .ok (.aload_n 0, 1) := by decide +kernel
theorem dX6_readNumber_73 : decode cX6_readNumber 73 = .ok (.getfield 28, 3) := by decide +kernel
theorem dX6_readNumber_76 : decode cX6_readNumber 76 = .ok (.bipush 120, 2) := by decide +kernel
theorem dX6_readNumber_78 : decode cX6_readNumber 78 = .ok (.if_icmp .ge 56, 3) := by decide +kernel
theorem dX6_readNumber_81 : decode cX6_readNumber 81 = .ok (.aload_n 0, 1) := by decide +kernel
theorem dX6_readNumber_82 : decode cX6_readNumber 82 = .ok (.getfield 11, 3) := by decide +kernel
theorem dX6_readNumber_85 : decode cX6_readNumber 85 = .ok (.aload_n 0, 1) := by decide +kernel
theorem dX6_readNumber_86 : decode cX6_readNumber 86 = .ok (.getfield 28, 3) := by decide +kernel
theorem dX6_readNumber_89 : decode cX6_readNumber 89 = .ok (.iaload, 1) := by decide +kernel
theorem dX6_readNumber_90 : decode cX6_readNumber 90 = .ok (.invokestatic 74, 3) := by decide +kernel
theorem dX6_readNumber_93 : decode cX6_readNumber 93 = .ok (.ifCond .eq 41, 3) := by decide +kernel
theorem dX6_readNumber_96 : decode cX6_readNumber 96 = .ok (.bipush 10, 2) := by decide +kernel
theorem dX6_readNumber_98 : decode cX6_readNumber 98 = .ok (.iload 4, 2) := by decide +kernel
theorem dX6_readNumber_100 : decode cX6_readNumber 100 = .ok (.imul, 1) := by decide +kernel
theorem dX6_readNumber_101 : decode cX6_readNumber 101 = .ok (.aload_n 0, 1) := by decide +kernel
theorem dX6_readNumber_102 : decode cX6_readNumber 102 = .ok (.getfield 11, 3) := by decide +kernel
theorem dX6_readNumber_105 : decode cX6_readNumber 105 = .ok (.aload_n 0, 1) := by decide +kernel
theorem dX6_readNumber_106 : decode cX6_readNumber 106 = .ok (.getfield 28, 3) := by decide +kernel
theorem dX6_readNumber_109 : decode cX6_readNumber 109 = .ok (.iaload, 1) := by decide +kernel
theorem dX6_readNumber_110 : decode cX6_readNumber 110 = .ok (.iadd, 1) := by decide +kernel
theorem dX6_readNumber_111 : decode cX6_readNumber 111 = .ok (.bipush 48, 2) := by decide +kernel
theorem dX6_readNumber_113 : decode cX6_readNumber 113 = .ok (.isub, 1) := by decide +kernel
theorem dX6_readNumber_114 : decode cX6_readNumber 114 = .ok (.bipush 100, 2) := by decide +kernel
theorem dX6_readNumber_116 : decode cX6_readNumber 116 = .ok (.invokestatic 77, 3) := by decide +kernel
theorem dX6_readNumber_119 : decode cX6_readNumber 119 = .ok (.istore 4, 2) := by decide +kernel
theorem dX6_readNumber_121 : decode cX6_readNumber 121 = .ok (.aload_n 0, 1) := by decide +kernel
theorem dX6_readNumber_122 : decode cX6_readNumber 122 = .ok (.dup, 1) := by decide +kernel
theorem dX6_readNumber_123 : decode cX6_readNumber 123 = .ok (.getfield 28, 3) := by decide +kernel
theorem dX6_readNumber_126 : decode cX6_readNumber 126 = .ok (.iconst 1, 1) := by decide +kernel
theorem dX6_readNumber_127 : decode cX6_readNumber 127 = .ok (.iadd, 1) := by decide +kernel
theorem dX6_readNumber_128 : decode cX6_readNumber 128 = .ok (.putfield 28, 3) := by decide +kernel
theorem dX6_readNumber_131 : decode cX6_readNumber 131 = .ok (.goto (-70), 3) := by decide +kernel
theorem dX6_readNumber_134 : decode cX6_readNumber 134 = .ok (.iload 4, 2) := by decide +kernel
theorem dX6_readNumber_136 : decode cX6_readNumber 136 = .ok (.bipush 99, 2) := by decide +kernel
theorem dX6_readNumber_138 : decode cX6_readNumber 138 = .ok (.if_icmp .le 9, 3) := by decide +kernel
theorem dX6_readNumber_141 : decode cX6_readNumber 141 = .ok (.aload_n 0, 1) := by decide +kernel
theorem dX6_readNumber_142 : decode cX6_readNumber 142 = .ok (.iload_n 2, 1) := by decide +kernel
theorem dX6_readNumber_143 : decode cX6_readNumber 143 = .ok (.invokevirtual 61, 3) := by decide +kernel
theorem dX6_readNumber_146 : decode cX6_readNumber 146 = .ok (.ireturn, 1) := by decide +kernel
theorem dX6_readNumber_147 : decode cX6_readNumber 147 = .ok (.aload_n 0, 1) := by decide +kernel
theorem dX6_readNumber_148 : decode cX6_readNumber 148 = .ok (.iload_n 1, 1) := by decide +kernel
theorem dX6_readNumber_149 : decode cX6_readNumber 149 = .ok (.iload_n 3, 1) := by decide +kernel
theorem dX6_readNumber_150 : decode cX6_readNumber 150 = .ok (.ifCond .eq 9, 3) := by decide +kernel
theorem dX6_readNumber_153 : decode cX6_readNumber 153 = .ok (.iload 4, 2) := by decide +kernel
theorem dX6_readNumber_155 : decode cX6_readNumber 155 = .ok (.ineg, 1) := by decide +kernel
theorem dX6_readNumber_156 : decode cX6_readNumber 156 = .ok (.goto 5, 3) := by decide +kernel
theorem dX6_readNumber_159 : decode cX6_readNumber 159 = .ok (.iload 4, 2) := by decide +kernel
theorem dX6_readNumber_161 : decode cX6_readNumber 161 = .ok (.invokevirtual 70, 3) := by decide +kernel
theorem dX6_readNumber_164 : decode cX6_readNumber 164 = .ok (.iconst 1, 1) := by decide +kernel
theorem dX6_readNumber_165 : decode cX6_readNumber 165 = .ok (.ireturn, 1) := by decide +kernel
theorem dX6_store_0 : decode cX6_store 0 = .ok (.iload_n 1, 1) := by decide +kernel
theorem dX6_store_1 : decode cX6_store 1 = .ok (.ifCond .lt 19, 3) := by decide +kernel
theorem dX6_store_4 : decode cX6_store 4 = .ok (.iload_n 1, 1) := by decide +kernel
theorem dX6_store_5 : decode cX6_store 5 = .ok (.aload_n 0, 1) := by decide +kernel
theorem dX6_store_6 : decode cX6_store 6 = .ok (.getfield 19, 3) := by decide +kernel
theorem dX6_store_9 : decode cX6_store 9 = .ok (.arraylength, 1) := by decide +kernel
theorem dX6_store_10 : decode cX6_store 10 = .ok (.if_icmp .ge 10, 3) := by decide +kernel
theorem dX6_store_13 : decode cX6_store 13 = .ok (.aload_n 0, 1) := by decide +kernel
theorem dX6_store_14 : decode cX6_store 14 = .ok (.getfield 19, 3) := by decide +kernel
theorem dX6_store_17 : decode cX6_store 17 = .ok (.iload_n 1, 1) := by decide +kernel
theorem dX6_store_18 : decode cX6_store 18 = .ok (.iload_n 2, 1) := by decide +kernel
theorem dX6_store_19 : decode cX6_store 19 = .ok (.iastore, 1) := by decide +kernel
theorem dX6_store_20 : decode cX6_store 20 = .ok (.return_, 1) := by decide +kernel
theorem dX6_isDigit_0 : decode cX6_isDigit 0 = .ok (.iload_n 0, 1) := by decide +kernel
theorem dX6_isDigit_1 : decode cX6_isDigit 1 = .ok (.bipush 48, 2) := by decide +kernel
theorem dX6_isDigit_3 : decode cX6_isDigit 3 = .ok (.if_icmp .lt 13, 3) := by decide +kernel
theorem dX6_isDigit_6 : decode cX6_isDigit 6 = .ok (.iload_n 0, 1) := by decide +kernel
theorem dX6_isDigit_7 : decode cX6_isDigit 7 = .ok (.bipush 57, 2) := by decide +kernel
theorem dX6_isDigit_9 : decode cX6_isDigit 9 = .ok (.if_icmp .gt 7, 3) := by decide +kernel
theorem dX6_isDigit_12 : decode cX6_isDigit 12 = .ok (.iconst 1, 1) := by decide +kernel
theorem dX6_isDigit_13 : decode cX6_isDigit 13 = .ok (.goto 4, 3) := by decide +kernel
theorem dX6_isDigit_16 : decode cX6_isDigit 16 = .ok (.iconst 0, 1) := by decide +kernel
theorem dX6_isDigit_17 : decode cX6_isDigit 17 = .ok (.ireturn, 1) := by decide +kernel
theorem dX6_look_0 : decode cX6_look 0 = .ok (.aload_n 0, 1) := by decide +kernel
theorem dX6_look_1 : decode cX6_look 1 = .ok (.getfield 28, 3) := by decide +kernel
theorem dX6_look_4 : decode cX6_look 4 = .ok (.aload_n 0, 1) := by decide +kernel
theorem dX6_look_5 : decode cX6_look 5 = .ok (.getfield 15, 3) := by decide +kernel
theorem dX6_look_8 : decode cX6_look 8 = .ok (.if_icmp .ge 39, 3) := by decide +kernel
theorem dX6_look_11 : decode cX6_look 11 = .ok (.aload_n 0, 1) := by decide +kernel
theorem dX6_look_12 : decode cX6_look 12 = .ok (.getfield 28, 3) := by decide +kernel
theorem dX6_look_15 : decode cX6_look 15 = .ok (.bipush 120, 2) := by decide +kernel
theorem dX6_look_17 : decode cX6_look 17 = .ok (.if_icmp .ge 30, 3) := by decide +kernel
theorem dX6_look_20 : decode cX6_look 20 = .ok (.aload_n 0, 1) := by decide +kernel
theorem dX6_look_21 : decode cX6_look 21 = .ok (.getfield 11, 3) := by decide +kernel
theorem dX6_look_24 : decode cX6_look 24 = .ok (.aload_n 0, 1) := by decide +kernel
theorem dX6_look_25 : decode cX6_look 25 = .ok (.getfield 28, 3) := by decide +kernel
theorem dX6_look_28 : decode cX6_look 28 = .ok (.iaload, 1) := by decide +kernel
theorem dX6_look_29 : decode cX6_look 29 = .ok (.bipush 32, 2) := by decide +kernel
theorem dX6_look_31 : decode cX6_look 31 = .ok (.if_icmp .ne 16, 3) := by decide +kernel
theorem dX6_look_34 : decode cX6_look 34 = .ok (.aload_n 0, 1) := by decide +kernel
theorem dX6_look_35 : decode cX6_look 35 = .ok (.dup, 1) := by decide +kernel
theorem dX6_look_36 : decode cX6_look 36 = .ok (.getfield 28, 3) := by decide +kernel
theorem dX6_look_39 : decode cX6_look 39 = .ok (.iconst 1, 1) := by decide +kernel
theorem dX6_look_40 : decode cX6_look 40 = .ok (.iadd, 1) := by decide +kernel
theorem dX6_look_41 : decode cX6_look 41 = .ok (.putfield 28, 3) := by decide +kernel
theorem dX6_look_44 : decode cX6_look 44 = .ok (.goto (-44), 3) := by decide +kernel
theorem dX6_look_47 : decode cX6_look 47 = .ok (.aload_n 0, 1) := by decide +kernel
theorem dX6_look_48 : decode cX6_look 48 = .ok (.getfield 28, 3) := by decide +kernel
theorem dX6_look_51 : decode cX6_look 51 = .ok (.aload_n 0, 1) := by decide +kernel
theorem dX6_look_52 : decode cX6_look 52 = .ok (.getfield 15, 3) := by decide +kernel
theorem dX6_look_55 : decode cX6_look 55 = .ok (.if_icmp .ge 24, 3) := by decide +kernel
theorem dX6_look_58 : decode cX6_look 58 = .ok (.aload_n 0, 1) := by decide +kernel
theorem dX6_look_59 : decode cX6_look 59 = .ok (.getfield 28, 3) := by decide +kernel
theorem dX6_look_62 : decode cX6_look 62 = .ok (.bipush 120, 2) := by decide +kernel
theorem dX6_look_64 : decode cX6_look 64 = .ok (.if_icmp .ge 15, 3) := by decide +kernel
theorem dX6_look_67 : decode cX6_look 67 = .ok (.aload_n 0, 1) := by decide +kernel
theorem dX6_look_68 : decode cX6_look 68 = .ok (.getfield 11, 3) := by decide +kernel
theorem dX6_look_71 : decode cX6_look 71 = .ok (.aload_n 0, 1) := by decide +kernel
theorem dX6_look_72 : decode cX6_look 72 = .ok (.getfield 28, 3) := by decide +kernel
theorem dX6_look_75 : decode cX6_look 75 = .ok (.iaload, 1) := by decide +kernel
theorem dX6_look_76 : decode cX6_look 76 = .ok (.goto 4, 3) := by decide +kernel
theorem dX6_look_79 : decode cX6_look 79 = .ok (.iconst (-1), 1) := by decide +kernel
theorem dX6_look_80 : decode cX6_look 80 = .ok (.ireturn, 1) := by decide +kernel
set_option maxRecDepth 20000 in
theorem ggX6_pass_X6_look : GoodIn wsX6_pass wsX6_look := goodIn_r _ [6, 1, 7, 8, 14, 15, 16, 17, 18, 19, 20] (by decide +kernel) (by decide +kernel)
set_option maxRecDepth 20000 in
theorem gX6_pass_X6_look : GoodIn wsX6_pass (wsV RX6 53 RX6 yX6_look wsX6_look) := goodIn_app (goodIn_of _ (by decide +kernel)) ggX6_pass_X6_look
set_option maxRecDepth 20000 in
theorem ggX6_pass_X6_refuse : GoodIn wsX6_pass wsX6_refuse := goodIn_r _ [12, 13, 14, 15, 16, 17, 18, 19, 20] (by decide +kernel) (by decide +kernel)
set_option maxRecDepth 20000 in
theorem gX6_pass_X6_refuse : GoodIn wsX6_pass (wsV RX6 61 RX6 yX6_refuse wsX6_refuse) := goodIn_app (goodIn_of _ (by decide +kernel)) ggX6_pass_X6_refuse
theorem dX6_pass_0 : decode cX6_pass 0 = .ok (.aload_n 0, 1) := by decide +kernel
theorem dX6_pass_1 : decode cX6_pass 1 = .ok (.invokevirtual 53, 3) := by decide +kernel
theorem dX6_pass_4 : decode cX6_pass 4 = .ok (.iload_n 1, 1) := by decide +kernel
theorem dX6_pass_5 : decode cX6_pass 5 = .ok (.if_icmp .eq 12, 3) := by decide +kernel
theorem dX6_pass_8 : decode cX6_pass 8 = .ok (.aload_n 0, 1) := by decide +kernel
theorem dX6_pass_9 : decode cX6_pass 9 = .ok (.aload_n 0, 1) := by decide +kernel
theorem dX6_pass_10 : decode cX6_pass 10 = .ok (.getfield 28, 3) := by decide +kernel
theorem dX6_pass_13 : decode cX6_pass 13 = .ok (.invokevirtual 61, 3) := by decide +kernel
theorem dX6_pass_16 : decode cX6_pass 16 = .ok (.ireturn, 1) := by decide +kernel
theorem dX6_pass_17 : decode cX6_pass 17 = .ok (.aload_n 0, 1) := by decide +kernel
theorem dX6_pass_18 : decode cX6_pass 18 = .ok (.dup, 1) := by decide +kernel
theorem dX6_pass_19 : decode cX6_pass 19 = .ok (.getfield 28, 3) := by decide +kernel
theorem dX6_pass_22 : decode cX6_pass 22 = .ok (.iconst 1, 1) := by decide +kernel
theorem dX6_pass_23 : decode cX6_pass 23 = .ok (.iadd, 1) := by decide +kernel
theorem dX6_pass_24 : decode cX6_pass 24 = .ok (.putfield 28, 3) := by decide +kernel
theorem dX6_pass_27 : decode cX6_pass 27 = .ok (.iconst 1, 1) := by decide +kernel
theorem dX6_pass_28 : decode cX6_pass 28 = .ok (.ireturn, 1) := by decide +kernel
theorem dX6_refuse_0 : decode cX6_refuse 0 = .ok (.aload_n 0, 1) := by decide +kernel
theorem dX6_refuse_1 : decode cX6_refuse 1 = .ok (.iload_n 1, 1) := by decide +kernel
theorem dX6_refuse_2 : decode cX6_refuse 2 = .ok (.putfield 31, 3) := by decide +kernel
theorem dX6_refuse_5 : decode cX6_refuse 5 = .ok (.iconst 0, 1) := by decide +kernel
theorem dX6_refuse_6 : decode cX6_refuse 6 = .ok (.ireturn, 1) := by decide +kernel
theorem dX7_init_0 : decode cX7_init 0 = .ok (.aload_n 0, 1) := by decide +kernel
theorem dX7_init_1 : decode cX7_init 1 = .ok (.invokespecial 3, 3) := by decide +kernel
theorem dX7_init_4 : decode cX7_init 4 = .ok (.aload_n 0, 1) := by decide +kernel
theorem dX7_init_5 : decode cX7_init 5 = .ok (.sipush 289, 3) := by decide +kernel
theorem dX7_init_8 : decode cX7_init 8 = .ok (.newarray .int, 2) := by decide +kernel
theorem dX7_init_10 : decode cX7_init 10 = .ok (.putfield 9, 3) := by decide +kernel
theorem dX7_init_13 : decode cX7_init 13 = .ok (.aload_n 0, 1) := by decide +kernel
theorem dX7_init_14 : decode cX7_init 14 = .ok (.iconst 0, 1) := by decide +kernel
theorem dX7_init_15 : decode cX7_init 15 = .ok (.putfield 15, 3) := by decide +kernel
theorem dX7_init_18 : decode cX7_init 18 = .ok (.aload_n 0, 1) := by decide +kernel
theorem dX7_init_19 : decode cX7_init 19 = .ok (.sipush 474, 3) := by decide +kernel
theorem dX7_init_22 : decode cX7_init 22 = .ok (.newarray .int, 2) := by decide +kernel
theorem dX7_init_24 : decode cX7_init 24 = .ok (.putfield 19, 3) := by decide +kernel
theorem dX7_init_27 : decode cX7_init 27 = .ok (.return_, 1) := by decide +kernel
set_option maxRecDepth 20000 in
theorem ggX7_gather_X0_letsLaw : GoodIn wsX7_gather wsX0_letsLaw := goodIn_r _ [7, 8, 9, 10, 6, 11, 12, 16, 17, 18, 19, 20, 21, 22] (by decide +kernel) (by decide +kernel)
set_option maxRecDepth 20000 in
theorem gX7_gather_X0_letsLaw : GoodIn wsX7_gather (wsV RX7 22 RX0 yX0_letsLaw wsX0_letsLaw) := goodIn_app (goodIn_of _ (by decide +kernel)) ggX7_gather_X0_letsLaw
theorem dX7_gather_0 : decode cX7_gather 0 = .ok (.aload_n 0, 1) := by decide +kernel
theorem dX7_gather_1 : decode cX7_gather 1 = .ok (.iconst 0, 1) := by decide +kernel
theorem dX7_gather_2 : decode cX7_gather 2 = .ok (.putfield 15, 3) := by decide +kernel
theorem dX7_gather_5 : decode cX7_gather 5 = .ok (.iconst 0, 1) := by decide +kernel
theorem dX7_gather_6 : decode cX7_gather 6 = .ok (.istore_n 3, 1) := by decide +kernel
theorem dX7_gather_7 : decode cX7_gather 7 = .ok (.iload_n 3, 1) := by decide +kernel
theorem dX7_gather_8 : decode cX7_gather 8 = .ok (.aload_n 0, 1) := by decide +kernel
theorem dX7_gather_9 : decode cX7_gather 9 = .ok (.getfield 9, 3) := by decide +kernel
theorem dX7_gather_12 : decode cX7_gather 12 = .ok (.arraylength, 1) := by decide +kernel
theorem dX7_gather_13 : decode cX7_gather 13 = .ok (.if_icmp .ge 50, 3) := by decide +kernel
theorem dX7_gather_16 : decode cX7_gather 16 = .ok (.aload_n 1, 1) := by decide +kernel
theorem dX7_gather_17 : decode cX7_gather 17 = .ok (.iload_n 2, 1) := by decide +kernel
theorem dX7_gather_18 : decode cX7_gather 18 = .ok (.iload_n 3, 1) := by decide +kernel
theorem dX7_gather_19 : decode cX7_gather 19 = .ok (.invokevirtual 22, 3) := by decide +kernel
theorem dX7_gather_22 : decode cX7_gather 22 = .ok (.ifCond .eq 35, 3) := by decide +kernel
theorem dX7_gather_25 : decode cX7_gather 25 = .ok (.aload_n 0, 1) := by decide +kernel
theorem dX7_gather_26 : decode cX7_gather 26 = .ok (.getfield 15, 3) := by decide +kernel
theorem dX7_gather_29 : decode cX7_gather 29 = .ok (.aload_n 0, 1) := by decide +kernel
theorem dX7_gather_30 : decode cX7_gather 30 = .ok (.getfield 9, 3) := by decide +kernel
theorem dX7_gather_33 : decode cX7_gather 33 = .ok (.arraylength, 1) := by decide +kernel
theorem dX7_gather_34 : decode cX7_gather 34 = .ok (.if_icmp .ge 23, 3) := by decide +kernel
theorem dX7_gather_37 : decode cX7_gather 37 = .ok (.aload_n 0, 1) := by decide +kernel
theorem dX7_gather_38 : decode cX7_gather 38 = .ok (.getfield 9, 3) := by decide +kernel
theorem dX7_gather_41 : decode cX7_gather 41 = .ok (.aload_n 0, 1) := by decide +kernel
theorem dX7_gather_42 : decode cX7_gather 42 = .ok (.getfield 15, 3) := by decide +kernel
theorem dX7_gather_45 : decode cX7_gather 45 = .ok (.iload_n 3, 1) := by decide +kernel
theorem dX7_gather_46 : decode cX7_gather 46 = .ok (.iastore, 1) := by decide +kernel
theorem dX7_gather_47 : decode cX7_gather 47 = .ok (.aload_n 0, 1) := by decide +kernel
theorem dX7_gather_48 : decode cX7_gather 48 = .ok (.dup, 1) := by decide +kernel
theorem dX7_gather_49 : decode cX7_gather 49 = .ok (.getfield 15, 3) := by decide +kernel
theorem dX7_gather_52 : decode cX7_gather 52 = .ok (.iconst 1, 1) := by decide +kernel
theorem dX7_gather_53 : decode cX7_gather 53 = .ok (.iadd, 1) := by decide +kernel
theorem dX7_gather_54 : decode cX7_gather 54 = .ok (.putfield 15, 3) := by decide +kernel
theorem dX7_gather_57 : decode cX7_gather 57 = .ok (.iinc 3 1, 3) := by decide +kernel
theorem dX7_gather_60 : decode cX7_gather 60 = .ok (.goto (-53), 3) := by decide +kernel
theorem dX7_gather_63 : decode cX7_gather 63 = .ok (.return_, 1) := by decide +kernel
set_option maxRecDepth 20000 in
theorem ggX7_leftAtWorst_J7_fill_53178 : GoodIn wsX7_leftAtWorst wsJ7_fill_53178 := goodIn_r _ [11] (by decide +kernel) (by decide +kernel)
set_option maxRecDepth 20000 in
theorem gX7_leftAtWorst_J7_fill_53178 : GoodIn wsX7_leftAtWorst (va_wsS RX7 28 yJ7_fill_53178 wsJ7_fill_53178) := goodIn_app (goodIn_of _ (by decide +kernel)) ggX7_leftAtWorst_J7_fill_53178
set_option maxRecDepth 20000 in
theorem ggX7_leftAtWorst_X3_sum : GoodIn wsX7_leftAtWorst wsX3_sum := goodIn_r _ [15, 16, 17, 14, 18, 19, 20, 21] (by decide +kernel) (by decide +kernel)
set_option maxRecDepth 20000 in
theorem gX7_leftAtWorst_X3_sum : GoodIn wsX7_leftAtWorst (va_wsS RX7 34 yX3_sum wsX3_sum) := goodIn_app (goodIn_of _ (by decide +kernel)) ggX7_leftAtWorst_X3_sum
set_option maxRecDepth 20000 in
theorem ggX7_leftAtWorst_X3_leastEnd : GoodIn wsX7_leftAtWorst wsX3_leastEnd := goodIn_r _ [24, 25, 26, 27, 28] (by decide +kernel) (by decide +kernel)
set_option maxRecDepth 20000 in
theorem gX7_leftAtWorst_X3_leastEnd : GoodIn wsX7_leftAtWorst (va_wsS RX7 40 yX3_leastEnd wsX3_leastEnd) := goodIn_app (goodIn_of _ (by decide +kernel)) ggX7_leftAtWorst_X3_leastEnd
set_option maxRecDepth 20000 in
theorem ggX7_leftAtWorst_X7_add : GoodIn wsX7_leftAtWorst wsX7_add := goodIn_r _ [33, 1, 37, 38, 39] (by decide +kernel) (by decide +kernel)
set_option maxRecDepth 20000 in
theorem gX7_leftAtWorst_X7_add : GoodIn wsX7_leftAtWorst (wsV RX7 44 RX7 yX7_add wsX7_add) := goodIn_app (goodIn_of _ (by decide +kernel)) ggX7_leftAtWorst_X7_add
set_option maxRecDepth 20000 in
theorem ggX7_leftAtWorst_X3_greatestEnd : GoodIn wsX7_leftAtWorst wsX3_greatestEnd := goodIn_r _ [36, 25, 26, 27, 28] (by decide +kernel) (by decide +kernel)
set_option maxRecDepth 20000 in
theorem gX7_leftAtWorst_X3_greatestEnd : GoodIn wsX7_leftAtWorst (va_wsS RX7 48 yX3_greatestEnd wsX3_greatestEnd) := goodIn_app (goodIn_of _ (by decide +kernel)) ggX7_leftAtWorst_X3_greatestEnd
theorem dX7_leftAtWorst_0 : decode cX7_leftAtWorst 0 = .ok (.aload_n 0, 1) := by decide +kernel
theorem dX7_leftAtWorst_1 : decode cX7_leftAtWorst 1 = .ok (.getfield 19, 3) := by decide +kernel
theorem dX7_leftAtWorst_4 : decode cX7_leftAtWorst 4 = .ok (.iconst 0, 1) := by decide +kernel
theorem dX7_leftAtWorst_5 : decode cX7_leftAtWorst 5 = .ok (.invokestatic 28, 3) := by decide +kernel
theorem dX7_leftAtWorst_8 : decode cX7_leftAtWorst 8 = .ok (.iconst 0, 1) := by decide +kernel
theorem dX7_leftAtWorst_9 : decode cX7_leftAtWorst 9 = .ok (.istore 4, 2) := by decide +kernel
theorem dX7_leftAtWorst_11 : decode cX7_leftAtWorst 11 = .ok (.iload 4, 2) := by decide +kernel
theorem dX7_leftAtWorst_13 : decode cX7_leftAtWorst 13 = .ok (.aload_n 0, 1) := by decide +kernel
theorem dX7_leftAtWorst_14 : decode cX7_leftAtWorst 14 = .ok (.getfield 15, 3) := by decide +kernel
theorem dX7_leftAtWorst_17 : decode cX7_leftAtWorst 17 = .ok (.if_icmp .ge 57, 3) := by decide +kernel
theorem dX7_leftAtWorst_20 : decode cX7_leftAtWorst 20 = .ok (.iload 4, 2) := by decide +kernel
theorem dX7_leftAtWorst_22 : decode cX7_leftAtWorst 22 = .ok (.aload_n 0, 1) := by decide +kernel
theorem dX7_leftAtWorst_23 : decode cX7_leftAtWorst 23 = .ok (.getfield 9, 3) := by decide +kernel
theorem dX7_leftAtWorst_26 : decode cX7_leftAtWorst 26 = .ok (.arraylength, 1) := by decide +kernel
theorem dX7_leftAtWorst_27 : decode cX7_leftAtWorst 27 = .ok (.if_icmp .ge 47, 3) := by decide +kernel
theorem dX7_leftAtWorst_30 : decode cX7_leftAtWorst 30 = .ok (.aload_n 0, 1) := by decide +kernel
theorem dX7_leftAtWorst_31 : decode cX7_leftAtWorst 31 = .ok (.getfield 9, 3) := by decide +kernel
theorem dX7_leftAtWorst_34 : decode cX7_leftAtWorst 34 = .ok (.iload 4, 2) := by decide +kernel
theorem dX7_leftAtWorst_36 : decode cX7_leftAtWorst 36 = .ok (.iaload, 1) := by decide +kernel
theorem dX7_leftAtWorst_37 : decode cX7_leftAtWorst 37 = .ok (.iload_n 1, 1) := by decide +kernel
theorem dX7_leftAtWorst_38 : decode cX7_leftAtWorst 38 = .ok (.iload_n 2, 1) := by decide +kernel
theorem dX7_leftAtWorst_39 : decode cX7_leftAtWorst 39 = .ok (.invokestatic 34, 3) := by decide +kernel
theorem dX7_leftAtWorst_42 : decode cX7_leftAtWorst 42 = .ok (.istore 5, 2) := by decide +kernel
theorem dX7_leftAtWorst_44 : decode cX7_leftAtWorst 44 = .ok (.aload_n 0, 1) := by decide +kernel
theorem dX7_leftAtWorst_45 : decode cX7_leftAtWorst 45 = .ok (.iload 5, 2) := by decide +kernel
theorem dX7_leftAtWorst_47 : decode cX7_leftAtWorst 47 = .ok (.iload_n 3, 1) := by decide +kernel
theorem dX7_leftAtWorst_48 : decode cX7_leftAtWorst 48 = .ok (.invokestatic 40, 3) := by decide +kernel
theorem dX7_leftAtWorst_51 : decode cX7_leftAtWorst 51 = .ok (.iconst 1, 1) := by decide +kernel
theorem dX7_leftAtWorst_52 : decode cX7_leftAtWorst 52 = .ok (.invokevirtual 44, 3) := by decide +kernel
theorem dX7_leftAtWorst_55 : decode cX7_leftAtWorst 55 = .ok (.aload_n 0, 1) := by decide +kernel
theorem dX7_leftAtWorst_56 : decode cX7_leftAtWorst 56 = .ok (.iload 5, 2) := by decide +kernel
theorem dX7_leftAtWorst_58 : decode cX7_leftAtWorst 58 = .ok (.iload_n 3, 1) := by decide +kernel
theorem dX7_leftAtWorst_59 : decode cX7_leftAtWorst 59 = .ok (.invokestatic 48, 3) := by decide +kernel
theorem dX7_leftAtWorst_62 : decode cX7_leftAtWorst 62 = .ok (.iconst 1, 1) := by decide +kernel
theorem dX7_leftAtWorst_63 : decode cX7_leftAtWorst 63 = .ok (.iadd, 1) := by decide +kernel
theorem dX7_leftAtWorst_64 : decode cX7_leftAtWorst 64 = .ok (.iconst (-1), 1) := by decide +kernel
theorem dX7_leftAtWorst_65 : decode cX7_leftAtWorst 65 = .ok (.invokevirtual 44, 3) := by decide +kernel
theorem dX7_leftAtWorst_68 : decode cX7_leftAtWorst 68 = .ok (.iinc 4 1, 3) := by decide +kernel
theorem dX7_leftAtWorst_71 : decode cX7_leftAtWorst 71 = .ok (.goto (-60), 3) := by decide +kernel
theorem dX7_leftAtWorst_74 : decode cX7_leftAtWorst 74 = .ok (.iconst 0, 1) := by decide +kernel
theorem dX7_leftAtWorst_75 : decode cX7_leftAtWorst 75 = .ok (.istore 4, 2) := by decide +kernel
theorem dX7_leftAtWorst_77 : decode cX7_leftAtWorst 77 = .ok (.iconst 0, 1) := by decide +kernel
theorem dX7_leftAtWorst_78 : decode cX7_leftAtWorst 78 = .ok (.istore 5, 2) := by decide +kernel
theorem dX7_leftAtWorst_80 : decode cX7_leftAtWorst 80 = .ok (.iconst 0, 1) := by decide +kernel
theorem dX7_leftAtWorst_81 : decode cX7_leftAtWorst 81 = .ok (.istore 6, 2) := by decide +kernel
theorem dX7_leftAtWorst_83 : decode cX7_leftAtWorst 83 = .ok (.iload 6, 2) := by decide +kernel
theorem dX7_leftAtWorst_85 : decode cX7_leftAtWorst 85 = .ok (.aload_n 0, 1) := by decide +kernel
theorem dX7_leftAtWorst_86 : decode cX7_leftAtWorst 86 = .ok (.getfield 19, 3) := by decide +kernel
theorem dX7_leftAtWorst_89 : decode cX7_leftAtWorst 89 = .ok (.arraylength, 1) := by decide +kernel
theorem dX7_leftAtWorst_90 : decode cX7_leftAtWorst 90 = .ok (.if_icmp .ge 30, 3) := by decide +kernel
theorem dX7_leftAtWorst_93 : decode cX7_leftAtWorst 93 = .ok (.iload 4, 2) := by decide +kernel
theorem dX7_leftAtWorst_95 : decode cX7_leftAtWorst 95 = .ok (.aload_n 0, 1) := by decide +kernel
theorem dX7_leftAtWorst_96 : decode cX7_leftAtWorst 96 = .ok (.getfield 19, 3) := by decide +kernel
theorem dX7_leftAtWorst_99 : decode cX7_leftAtWorst 99 = .ok (.iload 6, 2) := by decide +kernel
theorem dX7_leftAtWorst_101 : decode cX7_leftAtWorst 101 = .ok (.iaload, 1) := by decide +kernel
theorem dX7_leftAtWorst_102 : decode cX7_leftAtWorst 102 = .ok (.iadd, 1) := by decide +kernel
theorem dX7_leftAtWorst_103 : decode cX7_leftAtWorst 103 = .ok (.istore 4, 2) := by decide +kernel
theorem dX7_leftAtWorst_105 : decode cX7_leftAtWorst 105 = .ok (.iload 5, 2) := by decide +kernel
theorem dX7_leftAtWorst_107 : decode cX7_leftAtWorst 107 = .ok (.iload 4, 2) := by decide +kernel
theorem dX7_leftAtWorst_109 : decode cX7_leftAtWorst 109 = .ok (.invokestatic 51, 3) := by decide +kernel
theorem dX7_leftAtWorst_112 : decode cX7_leftAtWorst 112 = .ok (.istore 5, 2) := by decide +kernel
theorem dX7_leftAtWorst_114 : decode cX7_leftAtWorst 114 = .ok (.iinc 6 1, 3) := by decide +kernel
theorem dX7_leftAtWorst_117 : decode cX7_leftAtWorst 117 = .ok (.goto (-34), 3) := by decide +kernel
theorem dX7_leftAtWorst_120 : decode cX7_leftAtWorst 120 = .ok (.iload 5, 2) := by decide +kernel
theorem dX7_leftAtWorst_122 : decode cX7_leftAtWorst 122 = .ok (.ireturn, 1) := by decide +kernel
theorem dX7_add_0 : decode cX7_add 0 = .ok (.iload_n 1, 1) := by decide +kernel
theorem dX7_add_1 : decode cX7_add 1 = .ok (.sipush 236, 3) := by decide +kernel
theorem dX7_add_4 : decode cX7_add 4 = .ok (.iadd, 1) := by decide +kernel
theorem dX7_add_5 : decode cX7_add 5 = .ok (.istore_n 3, 1) := by decide +kernel
theorem dX7_add_6 : decode cX7_add 6 = .ok (.iload_n 3, 1) := by decide +kernel
theorem dX7_add_7 : decode cX7_add 7 = .ok (.ifCond .lt 22, 3) := by decide +kernel
theorem dX7_add_10 : decode cX7_add 10 = .ok (.iload_n 3, 1) := by decide +kernel
theorem dX7_add_11 : decode cX7_add 11 = .ok (.aload_n 0, 1) := by decide +kernel
theorem dX7_add_12 : decode cX7_add 12 = .ok (.getfield 19, 3) := by decide +kernel
theorem dX7_add_15 : decode cX7_add 15 = .ok (.arraylength, 1) := by decide +kernel
theorem dX7_add_16 : decode cX7_add 16 = .ok (.if_icmp .ge 13, 3) := by decide +kernel
theorem dX7_add_19 : decode cX7_add 19 = .ok (.aload_n 0, 1) := by decide +kernel
theorem dX7_add_20 : decode cX7_add 20 = .ok (.getfield 19, 3) := by decide +kernel
theorem dX7_add_23 : decode cX7_add 23 = .ok (.iload_n 3, 1) := by decide +kernel
theorem dX7_add_24 : decode cX7_add 24 = .ok (.dup2, 1) := by decide +kernel
theorem dX7_add_25 : decode cX7_add 25 = .ok (.iaload, 1) := by decide +kernel
theorem dX7_add_26 : decode cX7_add 26 = .ok (.iload_n 2, 1) := by decide +kernel
theorem dX7_add_27 : decode cX7_add 27 = .ok (.iadd, 1) := by decide +kernel
theorem dX7_add_28 : decode cX7_add 28 = .ok (.iastore, 1) := by decide +kernel
theorem dX7_add_29 : decode cX7_add 29 = .ok (.return_, 1) := by decide +kernel
set_option maxRecDepth 20000 in
theorem ggX8_init_X0_init : GoodIn wsX8_init wsX0_init := goodIn_r _ [34, 35, 2, 3, 36, 37, 38, 39, 40, 41, 42, 43, 87, 88, 89, 90, 91, 92, 93] (by decide +kernel) (by decide +kernel)
set_option maxRecDepth 20000 in
theorem gX8_init_X0_init_n9 : GoodIn wsX8_init (wsX0_init) := ggX8_init_X0_init
set_option maxRecDepth 20000 in
theorem ggX8_init_X4_init : GoodIn wsX8_init wsX4_init := goodIn_r _ [45, 46, 2, 3, 36, 47, 48, 49, 50, 51, 102, 103, 104, 105] (by decide +kernel) (by decide +kernel)
set_option maxRecDepth 20000 in
theorem gX8_init_X4_init_n18 : GoodIn wsX8_init (wsX4_init) := ggX8_init_X4_init
set_option maxRecDepth 20000 in
theorem ggX8_init_X6_init : GoodIn wsX8_init wsX6_init := goodIn_r _ [53, 54, 2, 3, 36, 55, 56, 57, 58, 59, 60, 61, 106, 107, 108, 109, 110, 111, 112] (by decide +kernel) (by decide +kernel)
set_option maxRecDepth 20000 in
theorem gX8_init_X6_init_n25 : GoodIn wsX8_init (wsX6_init) := ggX8_init_X6_init
set_option maxRecDepth 20000 in
theorem ggX8_init_X7_init : GoodIn wsX8_init wsX7_init := goodIn_r _ [63, 64, 2, 3, 36, 65, 66, 67, 113, 114, 115] (by decide +kernel) (by decide +kernel)
set_option maxRecDepth 20000 in
theorem gX8_init_X7_init_n32 : GoodIn wsX8_init (wsX7_init) := ggX8_init_X7_init
set_option maxRecDepth 20000 in
theorem ggX8_init_X2_init : GoodIn wsX8_init wsX2_init := goodIn_r _ [69, 70, 2, 3, 36, 71, 72, 73, 74, 75, 116, 117, 118, 119, 120] (by decide +kernel) (by decide +kernel)
set_option maxRecDepth 20000 in
theorem gX8_init_X2_init_n39 : GoodIn wsX8_init (wsX2_init) := ggX8_init_X2_init
set_option maxRecDepth 20000 in
theorem ggX8_init_X1_init : GoodIn wsX8_init wsX1_init := goodIn_r _ [77, 78, 2, 3, 79, 80, 121, 122] (by decide +kernel) (by decide +kernel)
set_option maxRecDepth 20000 in
theorem gX8_init_X1_init_n46 : GoodIn wsX8_init (wsX1_init) := ggX8_init_X1_init
set_option maxRecDepth 20000 in
theorem ggX8_init_X5_init : GoodIn wsX8_init wsX5_init := goodIn_r _ [82, 83, 2, 3, 36, 84, 85, 86, 123, 124, 125] (by decide +kernel) (by decide +kernel)
set_option maxRecDepth 20000 in
theorem gX8_init_X5_init_n60 : GoodIn wsX8_init (wsX5_init) := ggX8_init_X5_init
theorem dX8_init_0 : decode cX8_init 0 = .ok (.aload_n 0, 1) := by decide +kernel
theorem dX8_init_1 : decode cX8_init 1 = .ok (.invokespecial 1, 3) := by decide +kernel
theorem dX8_init_4 : decode cX8_init 4 = .ok (.aload_n 0, 1) := by decide +kernel
theorem dX8_init_5 : decode cX8_init 5 = .ok (.new 7, 3) := by decide +kernel
theorem dX8_init_8 : decode cX8_init 8 = .ok (.dup, 1) := by decide +kernel
theorem dX8_init_9 : decode cX8_init 9 = .ok (.invokespecial 9, 3) := by decide +kernel
theorem dX8_init_12 : decode cX8_init 12 = .ok (.putfield 10, 3) := by decide +kernel
theorem dX8_init_15 : decode cX8_init 15 = .ok (.aload_n 0, 1) := by decide +kernel
theorem dX8_init_16 : decode cX8_init 16 = .ok (.new 16, 3) := by decide +kernel
theorem dX8_init_19 : decode cX8_init 19 = .ok (.dup, 1) := by decide +kernel
theorem dX8_init_20 : decode cX8_init 20 = .ok (.invokespecial 18, 3) := by decide +kernel
theorem dX8_init_23 : decode cX8_init 23 = .ok (.putfield 19, 3) := by decide +kernel
theorem dX8_init_26 : decode cX8_init 26 = .ok (.aload_n 0, 1) := by decide +kernel
theorem dX8_init_27 : decode cX8_init 27 = .ok (.new 23, 3) := by decide +kernel
theorem dX8_init_30 : decode cX8_init 30 = .ok (.dup, 1) := by decide +kernel
theorem dX8_init_31 : decode cX8_init 31 = .ok (.invokespecial 25, 3) := by decide +kernel
theorem dX8_init_34 : decode cX8_init 34 = .ok (.putfield 26, 3) := by decide +kernel
theorem dX8_init_37 : decode cX8_init 37 = .ok (.aload_n 0, 1) := by decide +kernel
theorem dX8_init_38 : decode cX8_init 38 = .ok (.new 30, 3) := by decide +kernel
theorem dX8_init_41 : decode cX8_init 41 = .ok (.dup, 1) := by decide +kernel
theorem dX8_init_42 : decode cX8_init 42 = .ok (.invokespecial 32, 3) := by decide +kernel
theorem dX8_init_45 : decode cX8_init 45 = .ok (.putfield 33, 3) := by decide +kernel
theorem dX8_init_48 : decode cX8_init 48 = .ok (.aload_n 0, 1) := by decide +kernel
theorem dX8_init_49 : decode cX8_init 49 = .ok (.new 37, 3) := by decide +kernel
theorem dX8_init_52 : decode cX8_init 52 = .ok (.dup, 1) := by decide +kernel
theorem dX8_init_53 : decode cX8_init 53 = .ok (.invokespecial 39, 3) := by decide +kernel
theorem dX8_init_56 : decode cX8_init 56 = .ok (.putfield 40, 3) := by decide +kernel
theorem dX8_init_59 : decode cX8_init 59 = .ok (.aload_n 0, 1) := by decide +kernel
theorem dX8_init_60 : decode cX8_init 60 = .ok (.new 44, 3) := by decide +kernel
theorem dX8_init_63 : decode cX8_init 63 = .ok (.dup, 1) := by decide +kernel
theorem dX8_init_64 : decode cX8_init 64 = .ok (.invokespecial 46, 3) := by decide +kernel
theorem dX8_init_67 : decode cX8_init 67 = .ok (.putfield 47, 3) := by decide +kernel
theorem dX8_init_70 : decode cX8_init 70 = .ok (.aload_n 0, 1) := by decide +kernel
theorem dX8_init_71 : decode cX8_init 71 = .ok (.new 44, 3) := by decide +kernel
theorem dX8_init_74 : decode cX8_init 74 = .ok (.dup, 1) := by decide +kernel
theorem dX8_init_75 : decode cX8_init 75 = .ok (.invokespecial 46, 3) := by decide +kernel
theorem dX8_init_78 : decode cX8_init 78 = .ok (.putfield 51, 3) := by decide +kernel
theorem dX8_init_81 : decode cX8_init 81 = .ok (.aload_n 0, 1) := by decide +kernel
theorem dX8_init_82 : decode cX8_init 82 = .ok (.iconst 4, 1) := by decide +kernel
theorem dX8_init_83 : decode cX8_init 83 = .ok (.anewarray 54, 3) := by decide +kernel
theorem dX8_init_86 : decode cX8_init 86 = .ok (.putfield 56, 3) := by decide +kernel
theorem dX8_init_89 : decode cX8_init 89 = .ok (.iconst 0, 1) := by decide +kernel
theorem dX8_init_90 : decode cX8_init 90 = .ok (.istore_n 1, 1) := by decide +kernel
theorem dX8_init_91 : decode cX8_init 91 = .ok (.iload_n 1, 1) := by decide +kernel
theorem dX8_init_92 : decode cX8_init 92 = .ok (.aload_n 0, 1) := by decide +kernel
theorem dX8_init_93 : decode cX8_init 93 = .ok (.getfield 56, 3) := by decide +kernel
theorem dX8_init_96 : decode cX8_init 96 = .ok (.arraylength, 1) := by decide +kernel
theorem dX8_init_97 : decode cX8_init 97 = .ok (.if_icmp .ge 22, 3) := by decide +kernel
theorem dX8_init_100 : decode cX8_init 100 = .ok (.aload_n 0, 1) := by decide +kernel
theorem dX8_init_101 : decode cX8_init 101 = .ok (.getfield 56, 3) := by decide +kernel
theorem dX8_init_104 : decode cX8_init 104 = .ok (.iload_n 1, 1) := by decide +kernel
theorem dX8_init_105 : decode cX8_init 105 = .ok (.new 54, 3) := by decide +kernel
theorem dX8_init_108 : decode cX8_init 108 = .ok (.dup, 1) := by decide +kernel
theorem dX8_init_109 : decode cX8_init 109 = .ok (.invokespecial 60, 3) := by decide +kernel
theorem dX8_init_112 : decode cX8_init 112 = .ok (.aastore, 1) := by decide +kernel
theorem dX8_init_113 : decode cX8_init 113 = .ok (.iinc 1 1, 3) := by decide +kernel
theorem dX8_init_116 : decode cX8_init 116 = .ok (.goto (-25), 3) := by decide +kernel
theorem dX8_init_119 : decode cX8_init 119 = .ok (.return_, 1) := by decide +kernel
set_option maxRecDepth 20000 in
theorem ggX8_row_X8_isNear : GoodIn wsX8_row wsX8_isNear := goodIn_r _ [5] (by decide +kernel) (by decide +kernel)
set_option maxRecDepth 20000 in
theorem gX8_row_X8_isNear : GoodIn wsX8_row (va_wsS RX8 61 yX8_isNear wsX8_isNear) := goodIn_app (goodIn_of _ (by decide +kernel)) ggX8_row_X8_isNear
set_option maxRecDepth 20000 in
theorem ggX8_row_X0_add : GoodIn wsX8_row wsX0_add := goodIn_r _ [10, 11, 12, 13, 14, 15, 16, 17, 18, 9, 19, 20, 21, 22, 23, 24, 25, 26, 27, 28, 29, 30, 31, 32, 33, 34, 35, 36, 37, 38, 39, 40, 41, 42, 43, 44, 45, 46, 55, 56, 57, 58, 59, 60, 61] (by decide +kernel) (by decide +kernel)
set_option maxRecDepth 20000 in
theorem gX8_row_X0_add : GoodIn wsX8_row (wsV RX8 65 RX0 yX0_add wsX0_add) := goodIn_app (goodIn_of _ (by decide +kernel)) ggX8_row_X0_add
theorem dX8_row_0 : decode cX8_row 0 = .ok (.iload_n 1, 1) := by decide +kernel
theorem dX8_row_1 : decode cX8_row 1 = .ok (.bipush 99, 2) := by decide +kernel
theorem dX8_row_3 : decode cX8_row 3 = .ok (.invokestatic 61, 3) := by decide +kernel
theorem dX8_row_6 : decode cX8_row 6 = .ok (.ifCond .eq 21, 3) := by decide +kernel
theorem dX8_row_9 : decode cX8_row 9 = .ok (.iload_n 2, 1) := by decide +kernel
theorem dX8_row_10 : decode cX8_row 10 = .ok (.bipush 99, 2) := by decide +kernel
theorem dX8_row_12 : decode cX8_row 12 = .ok (.invokestatic 61, 3) := by decide +kernel
theorem dX8_row_15 : decode cX8_row 15 = .ok (.ifCond .eq 12, 3) := by decide +kernel
theorem dX8_row_18 : decode cX8_row 18 = .ok (.iload_n 3, 1) := by decide +kernel
theorem dX8_row_19 : decode cX8_row 19 = .ok (.bipush 99, 2) := by decide +kernel
theorem dX8_row_21 : decode cX8_row 21 = .ok (.invokestatic 61, 3) := by decide +kernel
theorem dX8_row_24 : decode cX8_row 24 = .ok (.ifCond .ne 5, 3) := by decide +kernel
theorem dX8_row_27 : decode cX8_row 27 = .ok (.iconst (-1), 1) := by decide +kernel
theorem dX8_row_28 : decode cX8_row 28 = .ok (.ireturn, 1) := by decide +kernel
theorem dX8_row_29 : decode cX8_row 29 = .ok (.aload_n 0, 1) := by decide +kernel
theorem dX8_row_30 : decode cX8_row 30 = .ok (.getfield 10, 3) := by decide +kernel
theorem dX8_row_33 : decode cX8_row 33 = .ok (.iload_n 1, 1) := by decide +kernel
theorem dX8_row_34 : decode cX8_row 34 = .ok (.iload_n 2, 1) := by decide +kernel
theorem dX8_row_35 : decode cX8_row 35 = .ok (.iload_n 3, 1) := by decide +kernel
theorem dX8_row_36 : decode cX8_row 36 = .ok (.iconst 0, 1) := by decide +kernel
theorem dX8_row_37 : decode cX8_row 37 = .ok (.invokevirtual 65, 3) := by decide +kernel
theorem dX8_row_40 : decode cX8_row 40 = .ok (.ireturn, 1) := by decide +kernel
set_option maxRecDepth 20000 in
theorem ggX8_gap_X8_isNear : GoodIn wsX8_gap wsX8_isNear := goodIn_r _ [5] (by decide +kernel) (by decide +kernel)
set_option maxRecDepth 20000 in
theorem gX8_gap_X8_isNear : GoodIn wsX8_gap (va_wsS RX8 61 yX8_isNear wsX8_isNear) := goodIn_app (goodIn_of _ (by decide +kernel)) ggX8_gap_X8_isNear
set_option maxRecDepth 20000 in
theorem ggX8_gap_X0_add : GoodIn wsX8_gap wsX0_add := goodIn_r _ [10, 11, 12, 13, 14, 15, 16, 17, 18, 9, 19, 20, 21, 22, 23, 24, 25, 26, 27, 28, 29, 30, 31, 32, 33, 34, 35, 36, 37, 38, 39, 40, 41, 42, 43, 44, 45, 46, 55, 56, 57, 58, 59, 60, 61] (by decide +kernel) (by decide +kernel)
set_option maxRecDepth 20000 in
theorem gX8_gap_X0_add : GoodIn wsX8_gap (wsV RX8 65 RX0 yX0_add wsX0_add) := goodIn_app (goodIn_of _ (by decide +kernel)) ggX8_gap_X0_add
theorem dX8_gap_0 : decode cX8_gap 0 = .ok (.iload_n 1, 1) := by decide +kernel
theorem dX8_gap_1 : decode cX8_gap 1 = .ok (.bipush 99, 2) := by decide +kernel
theorem dX8_gap_3 : decode cX8_gap 3 = .ok (.invokestatic 61, 3) := by decide +kernel
theorem dX8_gap_6 : decode cX8_gap 6 = .ok (.ifCond .eq 12, 3) := by decide +kernel
theorem dX8_gap_9 : decode cX8_gap 9 = .ok (.iload_n 2, 1) := by decide +kernel
theorem dX8_gap_10 : decode cX8_gap 10 = .ok (.bipush 99, 2) := by decide +kernel
theorem dX8_gap_12 : decode cX8_gap 12 = .ok (.invokestatic 61, 3) := by decide +kernel
theorem dX8_gap_15 : decode cX8_gap 15 = .ok (.ifCond .ne 5, 3) := by decide +kernel
theorem dX8_gap_18 : decode cX8_gap 18 = .ok (.iconst (-1), 1) := by decide +kernel
theorem dX8_gap_19 : decode cX8_gap 19 = .ok (.ireturn, 1) := by decide +kernel
theorem dX8_gap_20 : decode cX8_gap 20 = .ok (.aload_n 0, 1) := by decide +kernel
theorem dX8_gap_21 : decode cX8_gap 21 = .ok (.getfield 10, 3) := by decide +kernel
theorem dX8_gap_24 : decode cX8_gap 24 = .ok (.iload_n 1, 1) := by decide +kernel
theorem dX8_gap_25 : decode cX8_gap 25 = .ok (.iload_n 2, 1) := by decide +kernel
theorem dX8_gap_26 : decode cX8_gap 26 = .ok (.iconst 0, 1) := by decide +kernel
theorem dX8_gap_27 : decode cX8_gap 27 = .ok (.iconst 1, 1) := by decide +kernel
theorem dX8_gap_28 : decode cX8_gap 28 = .ok (.invokevirtual 65, 3) := by decide +kernel
theorem dX8_gap_31 : decode cX8_gap 31 = .ok (.ireturn, 1) := by decide +kernel
set_option maxRecDepth 20000 in
theorem ggX8_rows_X8_sheetAt : GoodIn wsX8_rows wsX8_sheetAt := goodIn_r _ [6, 7, 81, 82, 83, 84, 85, 86, 87, 88] (by decide +kernel) (by decide +kernel)
set_option maxRecDepth 20000 in
theorem gX8_rows_X8_sheetAt : GoodIn wsX8_rows (wsV RX8 69 RX8 yX8_sheetAt wsX8_sheetAt) := goodIn_app (goodIn_of _ (by decide +kernel)) ggX8_rows_X8_sheetAt
set_option maxRecDepth 20000 in
theorem ggX8_rows_X8_isLane : GoodIn wsX8_rows wsX8_isLane := goodIn_r _ [10] (by decide +kernel) (by decide +kernel)
set_option maxRecDepth 20000 in
theorem gX8_rows_X8_isLane : GoodIn wsX8_rows (va_wsS RX8 73 yX8_isLane wsX8_isLane) := goodIn_app (goodIn_of _ (by decide +kernel)) ggX8_rows_X8_isLane
set_option maxRecDepth 20000 in
theorem ggX8_rows_X5_refusal : GoodIn wsX8_rows wsX5_refusal := goodIn_r _ [15, 16, 17, 18, 19, 14, 20, 21, 22, 23, 24, 25, 89, 90, 91] (by decide +kernel) (by decide +kernel)
set_option maxRecDepth 20000 in
theorem gX8_rows_X5_refusal : GoodIn wsX8_rows (wsV RX8 77 RX5 yX5_refusal wsX5_refusal) := goodIn_app (goodIn_of _ (by decide +kernel)) ggX8_rows_X5_refusal
set_option maxRecDepth 20000 in
theorem ggX8_rows_X5_allWithin : GoodIn wsX8_rows wsX5_allWithin := goodIn_r _ [29, 30, 31, 32, 14, 33, 25, 34, 89, 90, 91] (by decide +kernel) (by decide +kernel)
set_option maxRecDepth 20000 in
theorem gX8_rows_X5_allWithin : GoodIn wsX8_rows (wsV RX8 81 RX5 yX5_allWithin wsX5_allWithin) := goodIn_app (goodIn_of _ (by decide +kernel)) ggX8_rows_X5_allWithin
set_option maxRecDepth 20000 in
theorem ggX8_rows_X0_room : GoodIn wsX8_rows wsX0_room := goodIn_r _ [39, 40, 92, 93, 94, 95, 96, 97, 98] (by decide +kernel) (by decide +kernel)
set_option maxRecDepth 20000 in
theorem gX8_rows_X0_room : GoodIn wsX8_rows (wsV RX8 85 RX0 yX0_room wsX0_room) := goodIn_app (goodIn_of _ (by decide +kernel)) ggX8_rows_X0_room
set_option maxRecDepth 20000 in
theorem ggX8_rows_X5_at : GoodIn wsX8_rows wsX5_at := goodIn_r _ [33, 25, 34, 89, 90, 91] (by decide +kernel) (by decide +kernel)
set_option maxRecDepth 20000 in
theorem gX8_rows_X5_at : GoodIn wsX8_rows (wsV RX8 89 RX5 yX5_at wsX5_at) := goodIn_app (goodIn_of _ (by decide +kernel)) ggX8_rows_X5_at
set_option maxRecDepth 20000 in
theorem ggX8_rows_X0_add : GoodIn wsX8_rows wsX0_add := goodIn_r _ [45, 40, 46, 47, 48, 49, 50, 51, 52, 38, 53, 54, 55, 56, 57, 58, 59, 60, 61, 62, 63, 64, 65, 66, 67, 68, 69, 70, 71, 72, 73, 74, 75, 76, 77, 78, 79, 80, 92, 93, 94, 95, 96, 97, 98] (by decide +kernel) (by decide +kernel)
set_option maxRecDepth 20000 in
theorem gX8_rows_X0_add : GoodIn wsX8_rows (wsV RX8 65 RX0 yX0_add wsX0_add) := goodIn_app (goodIn_of _ (by decide +kernel)) ggX8_rows_X0_add
theorem dX8_rows_0 : decode cX8_rows 0 = .ok (.aload_n 0, 1) := by decide +kernel
theorem dX8_rows_1 : decode cX8_rows 1 = .ok (.iload_n 1, 1) := by decide +kernel
theorem dX8_rows_2 : decode cX8_rows 2 = .ok (.invokevirtual 69, 3) := by decide +kernel
theorem dX8_rows_5 : decode cX8_rows 5 = .ok (.astore 5, 2) := by decide +kernel
theorem dX8_rows_7 : decode cX8_rows 7 = .ok (.aload 5, 2) := by decide +kernel
theorem dX8_rows_9 : decode cX8_rows 9 = .ok (.ifnull 22, 3) := by decide +kernel
theorem dX8_rows_12 : decode cX8_rows 12 = .ok (.iload_n 2, 1) := by decide +kernel
theorem dX8_rows_13 : decode cX8_rows 13 = .ok (.invokestatic 73, 3) := by decide +kernel
theorem dX8_rows_16 : decode cX8_rows 16 = .ok (.ifCond .eq 15, 3) := by decide +kernel
theorem dX8_rows_19 : decode cX8_rows 19 = .ok (.iload 4, 2) := by decide +kernel
theorem dX8_rows_21 : decode cX8_rows 21 = .ok (.ifCond .lt 10, 3) := by decide +kernel
theorem dX8_rows_24 : decode cX8_rows 24 = .ok (.iload 4, 2) := by decide +kernel
theorem dX8_rows_26 : decode cX8_rows 26 = .ok (.bipush 12, 2) := by decide +kernel
theorem dX8_rows_28 : decode cX8_rows 28 = .ok (.if_icmp .le 5, 3) := by decide +kernel
theorem dX8_rows_31 : decode cX8_rows 31 = .ok (.iconst (-1), 1) := by decide +kernel
theorem dX8_rows_32 : decode cX8_rows 32 = .ok (.ireturn, 1) := by decide +kernel
theorem dX8_rows_33 : decode cX8_rows 33 = .ok (.aload 5, 2) := by decide +kernel
theorem dX8_rows_35 : decode cX8_rows 35 = .ok (.iload_n 2, 1) := by decide +kernel
theorem dX8_rows_36 : decode cX8_rows 36 = .ok (.iload_n 3, 1) := by decide +kernel
theorem dX8_rows_37 : decode cX8_rows 37 = .ok (.iconst 3, 1) := by decide +kernel
theorem dX8_rows_38 : decode cX8_rows 38 = .ok (.iload 4, 2) := by decide +kernel
theorem dX8_rows_40 : decode cX8_rows 40 = .ok (.imul, 1) := by decide +kernel
theorem dX8_rows_41 : decode cX8_rows 41 = .ok (.invokevirtual 77, 3) := by decide +kernel
theorem dX8_rows_44 : decode cX8_rows 44 = .ok (.istore 6, 2) := by decide +kernel
theorem dX8_rows_46 : decode cX8_rows 46 = .ok (.iload 6, 2) := by decide +kernel
theorem dX8_rows_48 : decode cX8_rows 48 = .ok (.ifCond .ge 6, 3) := by decide +kernel
theorem dX8_rows_51 : decode cX8_rows 51 = .ok (.iload 6, 2) := by decide +kernel
theorem dX8_rows_53 : decode cX8_rows 53 = .ok (.ireturn, 1) := by decide +kernel
theorem dX8_rows_54 : decode cX8_rows 54 = .ok (.aload 5, 2) := by decide +kernel
theorem dX8_rows_56 : decode cX8_rows 56 = .ok (.iload_n 3, 1) := by decide +kernel
theorem dX8_rows_57 : decode cX8_rows 57 = .ok (.iconst 3, 1) := by decide +kernel
theorem dX8_rows_58 : decode cX8_rows 58 = .ok (.iload 4, 2) := by decide +kernel
theorem dX8_rows_60 : decode cX8_rows 60 = .ok (.imul, 1) := by decide +kernel
theorem dX8_rows_61 : decode cX8_rows 61 = .ok (.bipush (-99), 2) := by decide +kernel
theorem dX8_rows_63 : decode cX8_rows 63 = .ok (.bipush 99, 2) := by decide +kernel
theorem dX8_rows_65 : decode cX8_rows 65 = .ok (.invokevirtual 81, 3) := by decide +kernel
theorem dX8_rows_68 : decode cX8_rows 68 = .ok (.ifCond .ne 6, 3) := by decide +kernel
theorem dX8_rows_71 : decode cX8_rows 71 = .ok (.bipush (-2), 2) := by decide +kernel
theorem dX8_rows_73 : decode cX8_rows 73 = .ok (.ireturn, 1) := by decide +kernel
theorem dX8_rows_74 : decode cX8_rows 74 = .ok (.iload 4, 2) := by decide +kernel
theorem dX8_rows_76 : decode cX8_rows 76 = .ok (.aload_n 0, 1) := by decide +kernel
theorem dX8_rows_77 : decode cX8_rows 77 = .ok (.getfield 10, 3) := by decide +kernel
theorem dX8_rows_80 : decode cX8_rows 80 = .ok (.invokevirtual 85, 3) := by decide +kernel
theorem dX8_rows_83 : decode cX8_rows 83 = .ok (.if_icmp .le 6, 3) := by decide +kernel
theorem dX8_rows_86 : decode cX8_rows 86 = .ok (.bipush (-3), 2) := by decide +kernel
theorem dX8_rows_88 : decode cX8_rows 88 = .ok (.ireturn, 1) := by decide +kernel
theorem dX8_rows_89 : decode cX8_rows 89 = .ok (.iconst 0, 1) := by decide +kernel
theorem dX8_rows_90 : decode cX8_rows 90 = .ok (.istore 7, 2) := by decide +kernel
theorem dX8_rows_92 : decode cX8_rows 92 = .ok (.iload 7, 2) := by decide +kernel
theorem dX8_rows_94 : decode cX8_rows 94 = .ok (.iload 4, 2) := by decide +kernel
theorem dX8_rows_96 : decode cX8_rows 96 = .ok (.if_icmp .ge 51, 3) := by decide +kernel
theorem dX8_rows_99 : decode cX8_rows 99 = .ok (.iload_n 3, 1) := by decide +kernel
theorem dX8_rows_100 : decode cX8_rows 100 = .ok (.iconst 3, 1) := by decide +kernel
theorem dX8_rows_101 : decode cX8_rows 101 = .ok (.iload 7, 2) := by decide +kernel
theorem dX8_rows_103 : decode cX8_rows 103 = .ok (.imul, 1) := by decide +kernel
theorem dX8_rows_104 : decode cX8_rows 104 = .ok (.iadd, 1) := by decide +kernel
theorem dX8_rows_105 : decode cX8_rows 105 = .ok (.istore 8, 2) := by decide +kernel
theorem dX8_rows_107 : decode cX8_rows 107 = .ok (.aload_n 0, 1) := by decide +kernel
theorem dX8_rows_108 : decode cX8_rows 108 = .ok (.getfield 10, 3) := by decide +kernel
theorem dX8_rows_111 : decode cX8_rows 111 = .ok (.aload 5, 2) := by decide +kernel
theorem dX8_rows_113 : decode cX8_rows 113 = .ok (.iload 8, 2) := by decide +kernel
theorem dX8_rows_115 : decode cX8_rows 115 = .ok (.invokevirtual 89, 3) := by decide +kernel
theorem dX8_rows_118 : decode cX8_rows 118 = .ok (.aload 5, 2) := by decide +kernel
theorem dX8_rows_120 : decode cX8_rows 120 = .ok (.iload 8, 2) := by decide +kernel
theorem dX8_rows_122 : decode cX8_rows 122 = .ok (.iconst 1, 1) := by decide +kernel
theorem dX8_rows_123 : decode cX8_rows 123 = .ok (.iadd, 1) := by decide +kernel
theorem dX8_rows_124 : decode cX8_rows 124 = .ok (.invokevirtual 89, 3) := by decide +kernel
theorem dX8_rows_127 : decode cX8_rows 127 = .ok (.aload 5, 2) := by decide +kernel
theorem dX8_rows_129 : decode cX8_rows 129 = .ok (.iload 8, 2) := by decide +kernel
theorem dX8_rows_131 : decode cX8_rows 131 = .ok (.iconst 2, 1) := by decide +kernel
theorem dX8_rows_132 : decode cX8_rows 132 = .ok (.iadd, 1) := by decide +kernel
theorem dX8_rows_133 : decode cX8_rows 133 = .ok (.invokevirtual 89, 3) := by decide +kernel
theorem dX8_rows_136 : decode cX8_rows 136 = .ok (.iconst 0, 1) := by decide +kernel
theorem dX8_rows_137 : decode cX8_rows 137 = .ok (.invokevirtual 65, 3) := by decide +kernel
theorem dX8_rows_140 : decode cX8_rows 140 = .ok (.pop, 1) := by decide +kernel
theorem dX8_rows_141 : decode cX8_rows 141 = .ok (.iinc 7 1, 3) := by decide +kernel
theorem dX8_rows_144 : decode cX8_rows 144 = .ok (.goto (-52), 3) := by decide +kernel
theorem dX8_rows_147 : decode cX8_rows 147 = .ok (.iload 4, 2) := by decide +kernel
theorem dX8_rows_149 : decode cX8_rows 149 = .ok (.ireturn, 1) := by decide +kernel
set_option maxRecDepth 20000 in
theorem ggX8_type_X6_append : GoodIn wsX8_type wsX6_append := goodIn_r _ [6, 7, 8, 9, 10, 5, 11, 12, 21, 22, 23, 24, 25, 26, 27] (by decide +kernel) (by decide +kernel)
set_option maxRecDepth 20000 in
theorem gX8_type_X6_append : GoodIn wsX8_type (wsV RX8 93 RX6 yX6_append wsX6_append) := goodIn_app (goodIn_of _ (by decide +kernel)) ggX8_type_X6_append
theorem dX8_type_0 : decode cX8_type 0 = .ok (.aload_n 0, 1) := by decide +kernel
theorem dX8_type_1 : decode cX8_type 1 = .ok (.getfield 26, 3) := by decide +kernel
theorem dX8_type_4 : decode cX8_type 4 = .ok (.lload_n 1, 1) := by decide +kernel
theorem dX8_type_5 : decode cX8_type 5 = .ok (.iload_n 3, 1) := by decide +kernel
theorem dX8_type_6 : decode cX8_type 6 = .ok (.invokevirtual 93, 3) := by decide +kernel
theorem dX8_type_9 : decode cX8_type 9 = .ok (.ireturn, 1) := by decide +kernel
set_option maxRecDepth 20000 in
theorem ggX8_text_X0_room : GoodIn wsX8_text wsX0_room := goodIn_r _ [7, 8, 110, 111, 112, 113, 114, 115, 116] (by decide +kernel) (by decide +kernel)
set_option maxRecDepth 20000 in
theorem gX8_text_X0_room : GoodIn wsX8_text (wsV RX8 85 RX0 yX0_room wsX0_room) := goodIn_app (goodIn_of _ (by decide +kernel)) ggX8_text_X0_room
set_option maxRecDepth 20000 in
theorem ggX8_text_X6_read : GoodIn wsX8_text wsX6_read := goodIn_r _ [13, 14, 15, 16, 17, 18, 19, 20, 21, 12, 22, 23, 24, 25, 26, 27, 28, 29, 30, 31, 32, 33, 34, 35, 36, 37, 38, 39, 40, 41, 42, 43, 44, 45, 46, 47, 48, 49, 50, 51, 52, 53, 54, 55, 56, 57, 58, 59, 117, 118, 119, 120, 121, 122, 123] (by decide +kernel) (by decide +kernel)
set_option maxRecDepth 20000 in
theorem gX8_text_X6_read : GoodIn wsX8_text (wsV RX8 97 RX6 yX6_read wsX6_read) := goodIn_app (goodIn_of _ (by decide +kernel)) ggX8_text_X6_read
set_option maxRecDepth 20000 in
theorem ggX8_text_X6_hand : GoodIn wsX8_text wsX6_hand := goodIn_r _ [63, 16, 55, 15, 64, 65, 66, 6, 67, 8, 68, 69, 70, 71, 72, 73, 74, 75, 76, 77, 78, 79, 80, 81, 82, 83, 84, 85, 86, 87, 88, 89, 90, 91, 92, 93, 94, 95, 96, 97, 98, 99, 100, 46, 101, 117, 118, 119, 120, 121, 122, 123, 110, 111, 112, 113, 114, 115, 116] (by decide +kernel) (by decide +kernel)
set_option maxRecDepth 20000 in
theorem gX8_text_X6_hand : GoodIn wsX8_text (wsV RX8 100 RX6 yX6_hand wsX6_hand) := goodIn_app (goodIn_of _ (by decide +kernel)) ggX8_text_X6_hand
theorem dX8_text_0 : decode cX8_text 0 = .ok (.aload_n 0, 1) := by decide +kernel
theorem dX8_text_1 : decode cX8_text 1 = .ok (.getfield 26, 3) := by decide +kernel
theorem dX8_text_4 : decode cX8_text 4 = .ok (.aload_n 0, 1) := by decide +kernel
theorem dX8_text_5 : decode cX8_text 5 = .ok (.getfield 10, 3) := by decide +kernel
theorem dX8_text_8 : decode cX8_text 8 = .ok (.invokevirtual 85, 3) := by decide +kernel
theorem dX8_text_11 : decode cX8_text 11 = .ok (.invokevirtual 97, 3) := by decide +kernel
theorem dX8_text_14 : decode cX8_text 14 = .ok (.istore_n 1, 1) := by decide +kernel
theorem dX8_text_15 : decode cX8_text 15 = .ok (.iconst 0, 1) := by decide +kernel
theorem dX8_text_16 : decode cX8_text 16 = .ok (.istore_n 2, 1) := by decide +kernel
theorem dX8_text_17 : decode cX8_text 17 = .ok (.iload_n 2, 1) := by decide +kernel
theorem dX8_text_18 : decode cX8_text 18 = .ok (.iload_n 1, 1) := by decide +kernel
theorem dX8_text_19 : decode cX8_text 19 = .ok (.if_icmp .ge 21, 3) := by decide +kernel
theorem dX8_text_22 : decode cX8_text 22 = .ok (.aload_n 0, 1) := by decide +kernel
theorem dX8_text_23 : decode cX8_text 23 = .ok (.getfield 26, 3) := by decide +kernel
theorem dX8_text_26 : decode cX8_text 26 = .ok (.iload_n 2, 1) := by decide +kernel
theorem dX8_text_27 : decode cX8_text 27 = .ok (.aload_n 0, 1) := by decide +kernel
theorem dX8_text_28 : decode cX8_text 28 = .ok (.getfield 10, 3) := by decide +kernel
theorem dX8_text_31 : decode cX8_text 31 = .ok (.invokevirtual 100, 3) := by decide +kernel
theorem dX8_text_34 : decode cX8_text 34 = .ok (.iinc 2 1, 3) := by decide +kernel
theorem dX8_text_37 : decode cX8_text 37 = .ok (.goto (-20), 3) := by decide +kernel
theorem dX8_text_40 : decode cX8_text 40 = .ok (.iload_n 1, 1) := by decide +kernel
theorem dX8_text_41 : decode cX8_text 41 = .ok (.ireturn, 1) := by decide +kernel
set_option maxRecDepth 20000 in
theorem ggX8_told_X0_has : GoodIn wsX8_told wsX0_has := goodIn_r _ [8, 9, 39, 40, 41, 42, 43, 44, 45] (by decide +kernel) (by decide +kernel)
set_option maxRecDepth 20000 in
theorem gX8_told_X0_has : GoodIn wsX8_told (wsV RX8 104 RX0 yX0_has wsX0_has) := goodIn_app (goodIn_of _ (by decide +kernel)) ggX8_told_X0_has
set_option maxRecDepth 20000 in
theorem ggX8_told_X0_state : GoodIn wsX8_told wsX0_state := goodIn_r _ [13, 14, 15, 5, 6, 7, 8, 9, 39, 40, 41, 42, 43, 44, 45] (by decide +kernel) (by decide +kernel)
set_option maxRecDepth 20000 in
theorem gX8_told_X0_state : GoodIn wsX8_told (wsV RX8 108 RX0 yX0_state wsX0_state) := goodIn_app (goodIn_of _ (by decide +kernel)) ggX8_told_X0_state
set_option maxRecDepth 20000 in
theorem ggX8_told_X0_push : GoodIn wsX8_told wsX0_push := goodIn_r _ [19, 20, 15, 5, 6, 7, 8, 9, 39, 40, 41, 42, 43, 44, 45] (by decide +kernel) (by decide +kernel)
set_option maxRecDepth 20000 in
theorem gX8_told_X0_push : GoodIn wsX8_told (wsV RX8 111 RX0 yX0_push wsX0_push) := goodIn_app (goodIn_of _ (by decide +kernel)) ggX8_told_X0_push
set_option maxRecDepth 20000 in
theorem ggX8_told_X0_isGap : GoodIn wsX8_told wsX0_isGap := goodIn_r _ [24, 25, 15, 5, 6, 7, 8, 9, 39, 40, 41, 42, 43, 44, 45] (by decide +kernel) (by decide +kernel)
set_option maxRecDepth 20000 in
theorem gX8_told_X0_isGap : GoodIn wsX8_told (wsV RX8 114 RX0 yX0_isGap wsX0_isGap) := goodIn_app (goodIn_of _ (by decide +kernel)) ggX8_told_X0_isGap
set_option maxRecDepth 20000 in
theorem ggX8_told_X0_end : GoodIn wsX8_told wsX0_end := goodIn_r _ [29, 30, 15, 5, 6, 7, 8, 9, 39, 40, 41, 42, 43, 44, 45] (by decide +kernel) (by decide +kernel)
set_option maxRecDepth 20000 in
theorem gX8_told_X0_end : GoodIn wsX8_told (wsV RX8 118 RX0 yX0_end wsX0_end) := goodIn_app (goodIn_of _ (by decide +kernel)) ggX8_told_X0_end
theorem dX8_told_0 : decode cX8_told 0 = .ok (.aload_n 0, 1) := by decide +kernel
theorem dX8_told_1 : decode cX8_told 1 = .ok (.getfield 10, 3) := by decide +kernel
theorem dX8_told_4 : decode cX8_told 4 = .ok (.iload_n 1, 1) := by decide +kernel
theorem dX8_told_5 : decode cX8_told 5 = .ok (.invokevirtual 104, 3) := by decide +kernel
theorem dX8_told_8 : decode cX8_told 8 = .ok (.ifCond .eq 12, 3) := by decide +kernel
theorem dX8_told_11 : decode cX8_told 11 = .ok (.iload_n 2, 1) := by decide +kernel
theorem dX8_told_12 : decode cX8_told 12 = .ok (.ifCond .lt 8, 3) := by decide +kernel
theorem dX8_told_15 : decode cX8_told 15 = .ok (.iload_n 2, 1) := by decide +kernel
theorem dX8_told_16 : decode cX8_told 16 = .ok (.iconst 2, 1) := by decide +kernel
theorem dX8_told_17 : decode cX8_told 17 = .ok (.if_icmp .le 6, 3) := by decide +kernel
theorem dX8_told_20 : decode cX8_told 20 = .ok (.ldc 107, 2) := by decide +kernel
theorem dX8_told_22 : decode cX8_told 22 = .ok (.ireturn, 1) := by decide +kernel
theorem dX8_told_23 : decode cX8_told 23 = .ok (.iload_n 2, 1) := by decide +kernel
theorem dX8_told_24 : decode cX8_told 24 = .ok (.ifCond .ne 12, 3) := by decide +kernel
theorem dX8_told_27 : decode cX8_told 27 = .ok (.aload_n 0, 1) := by decide +kernel
theorem dX8_told_28 : decode cX8_told 28 = .ok (.getfield 10, 3) := by decide +kernel
theorem dX8_told_31 : decode cX8_told 31 = .ok (.iload_n 1, 1) := by decide +kernel
theorem dX8_told_32 : decode cX8_told 32 = .ok (.invokevirtual 108, 3) := by decide +kernel
theorem dX8_told_35 : decode cX8_told 35 = .ok (.ireturn, 1) := by decide +kernel
theorem dX8_told_36 : decode cX8_told 36 = .ok (.iload_n 2, 1) := by decide +kernel
theorem dX8_told_37 : decode cX8_told 37 = .ok (.iconst 1, 1) := by decide +kernel
theorem dX8_told_38 : decode cX8_told 38 = .ok (.if_icmp .ne 12, 3) := by decide +kernel
theorem dX8_told_41 : decode cX8_told 41 = .ok (.aload_n 0, 1) := by decide +kernel
theorem dX8_told_42 : decode cX8_told 42 = .ok (.getfield 10, 3) := by decide +kernel
theorem dX8_told_45 : decode cX8_told 45 = .ok (.iload_n 1, 1) := by decide +kernel
theorem dX8_told_46 : decode cX8_told 46 = .ok (.invokevirtual 111, 3) := by decide +kernel
theorem dX8_told_49 : decode cX8_told 49 = .ok (.ireturn, 1) := by decide +kernel
theorem dX8_told_50 : decode cX8_told 50 = .ok (.aload_n 0, 1) := by decide +kernel
theorem dX8_told_51 : decode cX8_told 51 = .ok (.getfield 10, 3) := by decide +kernel
theorem dX8_told_54 : decode cX8_told 54 = .ok (.iload_n 1, 1) := by decide +kernel
theorem dX8_told_55 : decode cX8_told 55 = .ok (.invokevirtual 114, 3) := by decide +kernel
theorem dX8_told_58 : decode cX8_told 58 = .ok (.ifCond .eq 8, 3) := by decide +kernel
theorem dX8_told_61 : decode cX8_told 61 = .ok (.ldc 117, 2) := by decide +kernel
theorem dX8_told_63 : decode cX8_told 63 = .ok (.goto 11, 3) := by decide +kernel
theorem dX8_told_66 : decode cX8_told 66 = .ok (.aload_n 0, 1) := by decide +kernel
theorem dX8_told_67 : decode cX8_told 67 = .ok (.getfield 10, 3) := by decide +kernel
theorem dX8_told_70 : decode cX8_told 70 = .ok (.iload_n 1, 1) := by decide +kernel
theorem dX8_told_71 : decode cX8_told 71 = .ok (.invokevirtual 118, 3) := by decide +kernel
theorem dX8_told_74 : decode cX8_told 74 = .ok (.ireturn, 1) := by decide +kernel
set_option maxRecDepth 20000 in
theorem ggX8_clear_X0_empty : GoodIn wsX8_clear wsX0_empty := goodIn_r _ [7, 8, 9, 10, 11, 12, 13, 14, 29, 30, 31, 32, 33, 34, 35] (by decide +kernel) (by decide +kernel)
set_option maxRecDepth 20000 in
theorem gX8_clear_X0_empty : GoodIn wsX8_clear (wsV RX8 121 RX0 yX0_empty wsX0_empty) := goodIn_app (goodIn_of _ (by decide +kernel)) ggX8_clear_X0_empty
set_option maxRecDepth 20000 in
theorem ggX8_clear_X4_forget : GoodIn wsX8_clear wsX4_forget := goodIn_r _ [19, 20, 36, 37, 38, 39] (by decide +kernel) (by decide +kernel)
set_option maxRecDepth 20000 in
theorem gX8_clear_X4_forget : GoodIn wsX8_clear (wsV RX8 124 RX4 yX4_forget wsX4_forget) := goodIn_app (goodIn_of _ (by decide +kernel)) ggX8_clear_X4_forget
theorem dX8_clear_0 : decode cX8_clear 0 = .ok (.aload_n 0, 1) := by decide +kernel
theorem dX8_clear_1 : decode cX8_clear 1 = .ok (.getfield 10, 3) := by decide +kernel
theorem dX8_clear_4 : decode cX8_clear 4 = .ok (.invokevirtual 121, 3) := by decide +kernel
theorem dX8_clear_7 : decode cX8_clear 7 = .ok (.istore_n 1, 1) := by decide +kernel
theorem dX8_clear_8 : decode cX8_clear 8 = .ok (.aload_n 0, 1) := by decide +kernel
theorem dX8_clear_9 : decode cX8_clear 9 = .ok (.getfield 19, 3) := by decide +kernel
theorem dX8_clear_12 : decode cX8_clear 12 = .ok (.invokevirtual 124, 3) := by decide +kernel
theorem dX8_clear_15 : decode cX8_clear 15 = .ok (.iload_n 1, 1) := by decide +kernel
theorem dX8_clear_16 : decode cX8_clear 16 = .ok (.ireturn, 1) := by decide +kernel
set_option maxRecDepth 20000 in
theorem ggX8_error_X0_errorNow : GoodIn wsX8_error wsX0_errorNow := goodIn_r _ [7, 8, 66, 67, 68, 69, 70, 71, 72] (by decide +kernel) (by decide +kernel)
set_option maxRecDepth 20000 in
theorem gX8_error_X0_errorNow : GoodIn wsX8_error (wsV RX8 127 RX0 yX0_errorNow wsX0_errorNow) := goodIn_app (goodIn_of _ (by decide +kernel)) ggX8_error_X0_errorNow
set_option maxRecDepth 20000 in
theorem ggX8_error_X0_takeError : GoodIn wsX8_error wsX0_takeError := goodIn_r _ [12, 8, 13, 14, 15, 16, 17, 18, 19, 20, 21, 6, 22, 23, 24, 25, 26, 27, 28, 29, 30, 31, 32, 33, 34, 35, 36, 37, 38, 39, 40, 41, 42, 43, 44, 45, 46, 47, 48, 49, 50, 51, 66, 67, 68, 69, 70, 71, 72] (by decide +kernel) (by decide +kernel)
set_option maxRecDepth 20000 in
theorem gX8_error_X0_takeError : GoodIn wsX8_error (wsV RX8 130 RX0 yX0_takeError wsX0_takeError) := goodIn_app (goodIn_of _ (by decide +kernel)) ggX8_error_X0_takeError
set_option maxRecDepth 20000 in
theorem ggX8_error_X4_forget : GoodIn wsX8_error wsX4_forget := goodIn_r _ [56, 57, 73, 74, 75, 76] (by decide +kernel) (by decide +kernel)
set_option maxRecDepth 20000 in
theorem gX8_error_X4_forget : GoodIn wsX8_error (wsV RX8 124 RX4 yX4_forget wsX4_forget) := goodIn_app (goodIn_of _ (by decide +kernel)) ggX8_error_X4_forget
theorem dX8_error_0 : decode cX8_error 0 = .ok (.iload_n 1, 1) := by decide +kernel
theorem dX8_error_1 : decode cX8_error 1 = .ok (.ifCond .lt 9, 3) := by decide +kernel
theorem dX8_error_4 : decode cX8_error 4 = .ok (.iload_n 1, 1) := by decide +kernel
theorem dX8_error_5 : decode cX8_error 5 = .ok (.bipush 20, 2) := by decide +kernel
theorem dX8_error_7 : decode cX8_error 7 = .ok (.if_icmp .le 5, 3) := by decide +kernel
theorem dX8_error_10 : decode cX8_error 10 = .ok (.iconst (-1), 1) := by decide +kernel
theorem dX8_error_11 : decode cX8_error 11 = .ok (.ireturn, 1) := by decide +kernel
theorem dX8_error_12 : decode cX8_error 12 = .ok (.aload_n 0, 1) := by decide +kernel
theorem dX8_error_13 : decode cX8_error 13 = .ok (.getfield 10, 3) := by decide +kernel
theorem dX8_error_16 : decode cX8_error 16 = .ok (.invokevirtual 127, 3) := by decide +kernel
theorem dX8_error_19 : decode cX8_error 19 = .ok (.istore_n 2, 1) := by decide +kernel
theorem dX8_error_20 : decode cX8_error 20 = .ok (.aload_n 0, 1) := by decide +kernel
theorem dX8_error_21 : decode cX8_error 21 = .ok (.getfield 10, 3) := by decide +kernel
theorem dX8_error_24 : decode cX8_error 24 = .ok (.iload_n 1, 1) := by decide +kernel
theorem dX8_error_25 : decode cX8_error 25 = .ok (.invokevirtual 130, 3) := by decide +kernel
theorem dX8_error_28 : decode cX8_error 28 = .ok (.aload_n 0, 1) := by decide +kernel
theorem dX8_error_29 : decode cX8_error 29 = .ok (.getfield 19, 3) := by decide +kernel
theorem dX8_error_32 : decode cX8_error 32 = .ok (.invokevirtual 124, 3) := by decide +kernel
theorem dX8_error_35 : decode cX8_error 35 = .ok (.iload_n 2, 1) := by decide +kernel
theorem dX8_error_36 : decode cX8_error 36 = .ok (.ireturn, 1) := by decide +kernel
set_option maxRecDepth 20000 in
theorem ggX8_meets_X0_has : GoodIn wsX8_meets wsX0_has := goodIn_r _ [6, 7, 29, 30, 31, 32, 33, 34, 35] (by decide +kernel) (by decide +kernel)
set_option maxRecDepth 20000 in
theorem gX8_meets_X0_has : GoodIn wsX8_meets (wsV RX8 104 RX0 yX0_has wsX0_has) := goodIn_app (goodIn_of _ (by decide +kernel)) ggX8_meets_X0_has
set_option maxRecDepth 20000 in
theorem ggX8_meets_X3_is : GoodIn wsX8_meets wsX3_is := goodIn_r _ [11] (by decide +kernel) (by decide +kernel)
set_option maxRecDepth 20000 in
theorem gX8_meets_X3_is : GoodIn wsX8_meets (va_wsS RX8 134 yX3_is wsX3_is) := goodIn_app (goodIn_of _ (by decide +kernel)) ggX8_meets_X3_is
set_option maxRecDepth 20000 in
theorem ggX8_meets_X0_letsLaw : GoodIn wsX8_meets wsX0_letsLaw := goodIn_r _ [15, 16, 17, 18, 5, 19, 20, 29, 30, 31, 32, 33, 34, 35] (by decide +kernel) (by decide +kernel)
set_option maxRecDepth 20000 in
theorem gX8_meets_X0_letsLaw : GoodIn wsX8_meets (wsV RX8 139 RX0 yX0_letsLaw wsX0_letsLaw) := goodIn_app (goodIn_of _ (by decide +kernel)) ggX8_meets_X0_letsLaw
theorem dX8_meets_0 : decode cX8_meets 0 = .ok (.aload_n 0, 1) := by decide +kernel
theorem dX8_meets_1 : decode cX8_meets 1 = .ok (.getfield 10, 3) := by decide +kernel
theorem dX8_meets_4 : decode cX8_meets 4 = .ok (.iload_n 1, 1) := by decide +kernel
theorem dX8_meets_5 : decode cX8_meets 5 = .ok (.invokevirtual 104, 3) := by decide +kernel
theorem dX8_meets_8 : decode cX8_meets 8 = .ok (.ifCond .eq 10, 3) := by decide +kernel
theorem dX8_meets_11 : decode cX8_meets 11 = .ok (.iload_n 2, 1) := by decide +kernel
theorem dX8_meets_12 : decode cX8_meets 12 = .ok (.invokestatic 134, 3) := by decide +kernel
theorem dX8_meets_15 : decode cX8_meets 15 = .ok (.ifCond .ne 5, 3) := by decide +kernel
theorem dX8_meets_18 : decode cX8_meets 18 = .ok (.iconst (-1), 1) := by decide +kernel
theorem dX8_meets_19 : decode cX8_meets 19 = .ok (.ireturn, 1) := by decide +kernel
theorem dX8_meets_20 : decode cX8_meets 20 = .ok (.aload_n 0, 1) := by decide +kernel
theorem dX8_meets_21 : decode cX8_meets 21 = .ok (.getfield 10, 3) := by decide +kernel
theorem dX8_meets_24 : decode cX8_meets 24 = .ok (.iconst 1, 1) := by decide +kernel
theorem dX8_meets_25 : decode cX8_meets 25 = .ok (.iload_n 1, 1) := by decide +kernel
theorem dX8_meets_26 : decode cX8_meets 26 = .ok (.ishl, 1) := by decide +kernel
theorem dX8_meets_27 : decode cX8_meets 27 = .ok (.iload_n 2, 1) := by decide +kernel
theorem dX8_meets_28 : decode cX8_meets 28 = .ok (.invokevirtual 139, 3) := by decide +kernel
theorem dX8_meets_31 : decode cX8_meets 31 = .ok (.ifCond .eq 7, 3) := by decide +kernel
theorem dX8_meets_34 : decode cX8_meets 34 = .ok (.iconst 1, 1) := by decide +kernel
theorem dX8_meets_35 : decode cX8_meets 35 = .ok (.goto 4, 3) := by decide +kernel
theorem dX8_meets_38 : decode cX8_meets 38 = .ok (.iconst 0, 1) := by decide +kernel
theorem dX8_meets_39 : decode cX8_meets 39 = .ok (.ireturn, 1) := by decide +kernel
set_option maxRecDepth 20000 in
theorem ggX8_lets_X0_isHeap : GoodIn wsX8_lets wsX0_isHeap := goodIn_r _ [6, 7, 8, 9, 5, 10, 11, 37, 38, 39, 40, 41, 42, 43] (by decide +kernel) (by decide +kernel)
set_option maxRecDepth 20000 in
theorem gX8_lets_X0_isHeap : GoodIn wsX8_lets (wsV RX8 142 RX0 yX0_isHeap wsX0_isHeap) := goodIn_app (goodIn_of _ (by decide +kernel)) ggX8_lets_X0_isHeap
set_option maxRecDepth 20000 in
theorem ggX8_lets_X0_lawCount : GoodIn wsX8_lets wsX0_lawCount := goodIn_r _ [15, 16, 17, 18, 5, 19, 20, 21, 22, 23, 24, 37, 38, 39, 40, 41, 42, 43] (by decide +kernel) (by decide +kernel)
set_option maxRecDepth 20000 in
theorem gX8_lets_X0_lawCount : GoodIn wsX8_lets (wsV RX8 145 RX0 yX0_lawCount wsX0_lawCount) := goodIn_app (goodIn_of _ (by decide +kernel)) ggX8_lets_X0_lawCount
set_option maxRecDepth 20000 in
theorem ggX8_lets_X0_lawOf : GoodIn wsX8_lets wsX0_lawOf := goodIn_r _ [28, 16, 17, 18, 5, 19, 20, 21, 22, 23, 24, 37, 38, 39, 40, 41, 42, 43] (by decide +kernel) (by decide +kernel)
set_option maxRecDepth 20000 in
theorem gX8_lets_X0_lawOf : GoodIn wsX8_lets (wsV RX8 148 RX0 yX0_lawOf wsX0_lawOf) := goodIn_app (goodIn_of _ (by decide +kernel)) ggX8_lets_X0_lawOf
theorem dX8_lets_0 : decode cX8_lets 0 = .ok (.aload_n 0, 1) := by decide +kernel
theorem dX8_lets_1 : decode cX8_lets 1 = .ok (.getfield 10, 3) := by decide +kernel
theorem dX8_lets_4 : decode cX8_lets 4 = .ok (.iload_n 1, 1) := by decide +kernel
theorem dX8_lets_5 : decode cX8_lets 5 = .ok (.invokevirtual 142, 3) := by decide +kernel
theorem dX8_lets_8 : decode cX8_lets 8 = .ok (.ifCond .eq 8, 3) := by decide +kernel
theorem dX8_lets_11 : decode cX8_lets 11 = .ok (.iload_n 2, 1) := by decide +kernel
theorem dX8_lets_12 : decode cX8_lets 12 = .ok (.iconst (-1), 1) := by decide +kernel
theorem dX8_lets_13 : decode cX8_lets 13 = .ok (.if_icmp .ge 5, 3) := by decide +kernel
theorem dX8_lets_16 : decode cX8_lets 16 = .ok (.iconst (-1), 1) := by decide +kernel
theorem dX8_lets_17 : decode cX8_lets 17 = .ok (.ireturn, 1) := by decide +kernel
theorem dX8_lets_18 : decode cX8_lets 18 = .ok (.iload_n 2, 1) := by decide +kernel
theorem dX8_lets_19 : decode cX8_lets 19 = .ok (.iconst (-1), 1) := by decide +kernel
theorem dX8_lets_20 : decode cX8_lets 20 = .ok (.if_icmp .ne 14, 3) := by decide +kernel
theorem dX8_lets_23 : decode cX8_lets 23 = .ok (.aload_n 0, 1) := by decide +kernel
theorem dX8_lets_24 : decode cX8_lets 24 = .ok (.getfield 10, 3) := by decide +kernel
theorem dX8_lets_27 : decode cX8_lets 27 = .ok (.iload_n 1, 1) := by decide +kernel
theorem dX8_lets_28 : decode cX8_lets 28 = .ok (.invokevirtual 145, 3) := by decide +kernel
theorem dX8_lets_31 : decode cX8_lets 31 = .ok (.goto 12, 3) := by decide +kernel
theorem dX8_lets_34 : decode cX8_lets 34 = .ok (.aload_n 0, 1) := by decide +kernel
theorem dX8_lets_35 : decode cX8_lets 35 = .ok (.getfield 10, 3) := by decide +kernel
theorem dX8_lets_38 : decode cX8_lets 38 = .ok (.iload_n 1, 1) := by decide +kernel
theorem dX8_lets_39 : decode cX8_lets 39 = .ok (.iload_n 2, 1) := by decide +kernel
theorem dX8_lets_40 : decode cX8_lets 40 = .ok (.invokevirtual 148, 3) := by decide +kernel
theorem dX8_lets_43 : decode cX8_lets 43 = .ok (.ireturn, 1) := by decide +kernel
set_option maxRecDepth 20000 in
theorem ggX8_count_X0_size : GoodIn wsX8_count wsX0_size := goodIn_r _ [7, 8, 45, 46, 47, 48, 49, 50, 51] (by decide +kernel) (by decide +kernel)
set_option maxRecDepth 20000 in
theorem gX8_count_X0_size : GoodIn wsX8_count (wsV RX8 152 RX0 yX0_size wsX0_size) := goodIn_app (goodIn_of _ (by decide +kernel)) ggX8_count_X0_size
set_option maxRecDepth 20000 in
theorem ggX8_count_X0_gapCount : GoodIn wsX8_count wsX0_gapCount := goodIn_r _ [12, 13, 14, 15, 16, 17, 18, 19, 20, 45, 46, 47, 48, 49, 50, 51] (by decide +kernel) (by decide +kernel)
set_option maxRecDepth 20000 in
theorem gX8_count_X0_gapCount : GoodIn wsX8_count (wsV RX8 155 RX0 yX0_gapCount wsX0_gapCount) := goodIn_app (goodIn_of _ (by decide +kernel)) ggX8_count_X0_gapCount
set_option maxRecDepth 20000 in
theorem ggX8_count_X2_size : GoodIn wsX8_count wsX2_size := goodIn_r _ [25, 26, 52, 53, 54, 55, 56] (by decide +kernel) (by decide +kernel)
set_option maxRecDepth 20000 in
theorem gX8_count_X2_size : GoodIn wsX8_count (wsV RX8 158 RX2 yX2_size wsX2_size) := goodIn_app (goodIn_of _ (by decide +kernel)) ggX8_count_X2_size
set_option maxRecDepth 20000 in
theorem ggX8_count_X2_watchedCount : GoodIn wsX8_count wsX2_watchedCount := goodIn_r _ [30, 31, 52, 53, 54, 55, 56] (by decide +kernel) (by decide +kernel)
set_option maxRecDepth 20000 in
theorem gX8_count_X2_watchedCount : GoodIn wsX8_count (wsV RX8 159 RX2 yX2_watchedCount wsX2_watchedCount) := goodIn_app (goodIn_of _ (by decide +kernel)) ggX8_count_X2_watchedCount
set_option maxRecDepth 20000 in
theorem ggX8_count_X2_rangCount : GoodIn wsX8_count wsX2_rangCount := goodIn_r _ [35, 36, 52, 53, 54, 55, 56] (by decide +kernel) (by decide +kernel)
set_option maxRecDepth 20000 in
theorem gX8_count_X2_rangCount : GoodIn wsX8_count (wsV RX8 162 RX2 yX2_rangCount wsX2_rangCount) := goodIn_app (goodIn_of _ (by decide +kernel)) ggX8_count_X2_rangCount
theorem dX8_count_0 : decode cX8_count 0 = .ok (.iload_n 1, 1) := by decide +kernel
theorem dX8_count_1 : decode cX8_count 1 = .ok (.tableswitch 75 0 4 #[35, 43, 51, 59, 67], 35) := by decide +kernel
theorem dX8_count_36 : decode cX8_count 36 = .ok (.aload_n 0, 1) := by decide +kernel
theorem dX8_count_37 : decode cX8_count 37 = .ok (.getfield 10, 3) := by decide +kernel
theorem dX8_count_40 : decode cX8_count 40 = .ok (.invokevirtual 152, 3) := by decide +kernel
theorem dX8_count_43 : decode cX8_count 43 = .ok (.ireturn, 1) := by decide +kernel
theorem dX8_count_44 : decode cX8_count 44 = .ok (.aload_n 0, 1) := by decide +kernel
theorem dX8_count_45 : decode cX8_count 45 = .ok (.getfield 10, 3) := by decide +kernel
theorem dX8_count_48 : decode cX8_count 48 = .ok (.invokevirtual 155, 3) := by decide +kernel
theorem dX8_count_51 : decode cX8_count 51 = .ok (.ireturn, 1) := by decide +kernel
theorem dX8_count_52 : decode cX8_count 52 = .ok (.aload_n 0, 1) := by decide +kernel
theorem dX8_count_53 : decode cX8_count 53 = .ok (.getfield 40, 3) := by decide +kernel
theorem dX8_count_56 : decode cX8_count 56 = .ok (.invokevirtual 158, 3) := by decide +kernel
theorem dX8_count_59 : decode cX8_count 59 = .ok (.ireturn, 1) := by decide +kernel
theorem dX8_count_60 : decode cX8_count 60 = .ok (.aload_n 0, 1) := by decide +kernel
theorem dX8_count_61 : decode cX8_count 61 = .ok (.getfield 40, 3) := by decide +kernel
theorem dX8_count_64 : decode cX8_count 64 = .ok (.invokevirtual 159, 3) := by decide +kernel
theorem dX8_count_67 : decode cX8_count 67 = .ok (.ireturn, 1) := by decide +kernel
theorem dX8_count_68 : decode cX8_count 68 = .ok (.aload_n 0, 1) := by decide +kernel
theorem dX8_count_69 : decode cX8_count 69 = .ok (.getfield 40, 3) := by decide +kernel
theorem dX8_count_72 : decode cX8_count 72 = .ok (.invokevirtual 162, 3) := by decide +kernel
theorem dX8_count_75 : decode cX8_count 75 = .ok (.ireturn, 1) := by decide +kernel
theorem dX8_count_76 : decode cX8_count 76 = .ok (.iconst (-1), 1) := by decide +kernel
theorem dX8_count_77 : decode cX8_count 77 = .ok (.ireturn, 1) := by decide +kernel
set_option maxRecDepth 20000 in
theorem ggX8_fewest_X4_leastLaws : GoodIn wsX8_fewest wsX4_leastLaws := goodIn_r _ [7, 8, 9, 10, 6, 11, 12, 13, 14, 15, 16, 17, 18, 19, 20, 21, 22, 23, 24, 25, 26, 27, 28, 29, 30, 31, 32, 33, 34, 35, 36, 37, 38, 39, 40, 41, 42, 43, 44, 45, 46, 47, 48, 49, 50, 51, 52, 53, 54, 55, 56, 57, 58, 67, 68, 69, 70, 71, 72, 73, 74, 75, 76, 77] (by decide +kernel) (by decide +kernel)
set_option maxRecDepth 20000 in
theorem gX8_fewest_X4_leastLaws : GoodIn wsX8_fewest (wsV RX8 165 RX4 yX4_leastLaws wsX4_leastLaws) := goodIn_app (goodIn_of _ (by decide +kernel)) ggX8_fewest_X4_leastLaws
theorem dX8_fewest_0 : decode cX8_fewest 0 = .ok (.aload_n 0, 1) := by decide +kernel
theorem dX8_fewest_1 : decode cX8_fewest 1 = .ok (.getfield 19, 3) := by decide +kernel
theorem dX8_fewest_4 : decode cX8_fewest 4 = .ok (.aload_n 0, 1) := by decide +kernel
theorem dX8_fewest_5 : decode cX8_fewest 5 = .ok (.getfield 10, 3) := by decide +kernel
theorem dX8_fewest_8 : decode cX8_fewest 8 = .ok (.invokevirtual 165, 3) := by decide +kernel
theorem dX8_fewest_11 : decode cX8_fewest 11 = .ok (.ireturn, 1) := by decide +kernel
set_option maxRecDepth 20000 in
theorem ggX8_letGo_X4_leftOut : GoodIn wsX8_letGo wsX4_leftOut := goodIn_r _ [7, 8, 9, 10, 6, 11, 12, 13, 14, 15, 16, 17, 18, 19, 20, 21, 22, 23, 24, 25, 26, 27, 28, 29, 30, 31, 32, 33, 34, 35, 36, 37, 38, 39, 40, 41, 42, 43, 44, 45, 46, 47, 48, 49, 50, 51, 52, 53, 54, 55, 56, 57, 58, 59, 60, 61, 62, 63, 64, 65, 75, 76, 77, 78, 79, 80, 81, 82, 83, 84, 85] (by decide +kernel) (by decide +kernel)
set_option maxRecDepth 20000 in
theorem gX8_letGo_X4_leftOut : GoodIn wsX8_letGo (wsV RX8 169 RX4 yX4_leftOut wsX4_leftOut) := goodIn_app (goodIn_of _ (by decide +kernel)) ggX8_letGo_X4_leftOut
set_option maxRecDepth 20000 in
theorem ggX8_letGo_J6_bitCount_0f7a4 : GoodIn wsX8_letGo wsJ6_bitCount_0f7a4 := goodIn_r _ [62, 63, 64, 65] (by decide +kernel) (by decide +kernel)
set_option maxRecDepth 20000 in
theorem gX8_letGo_J6_bitCount_0f7a4 : GoodIn wsX8_letGo (va_wsS RX8 173 yJ6_bitCount_0f7a4 wsJ6_bitCount_0f7a4) := goodIn_app (goodIn_of _ (by decide +kernel)) ggX8_letGo_J6_bitCount_0f7a4
theorem dX8_letGo_0 : decode cX8_letGo 0 = .ok (.iload_n 1, 1) := by decide +kernel
theorem dX8_letGo_1 : decode cX8_letGo 1 = .ok (.ifCond .lt 18, 3) := by decide +kernel
theorem dX8_letGo_4 : decode cX8_letGo 4 = .ok (.iload_n 1, 1) := by decide +kernel
theorem dX8_letGo_5 : decode cX8_letGo 5 = .ok (.bipush 6, 2) := by decide +kernel
theorem dX8_letGo_7 : decode cX8_letGo 7 = .ok (.if_icmp .gt 12, 3) := by decide +kernel
theorem dX8_letGo_10 : decode cX8_letGo 10 = .ok (.iload_n 2, 1) := by decide +kernel
theorem dX8_letGo_11 : decode cX8_letGo 11 = .ok (.ifCond .lt 8, 3) := by decide +kernel
theorem dX8_letGo_14 : decode cX8_letGo 14 = .ok (.iload_n 2, 1) := by decide +kernel
theorem dX8_letGo_15 : decode cX8_letGo 15 = .ok (.iconst 1, 1) := by decide +kernel
theorem dX8_letGo_16 : decode cX8_letGo 16 = .ok (.if_icmp .le 5, 3) := by decide +kernel
theorem dX8_letGo_19 : decode cX8_letGo 19 = .ok (.iconst (-1), 1) := by decide +kernel
theorem dX8_letGo_20 : decode cX8_letGo 20 = .ok (.ireturn, 1) := by decide +kernel
theorem dX8_letGo_21 : decode cX8_letGo 21 = .ok (.aload_n 0, 1) := by decide +kernel
theorem dX8_letGo_22 : decode cX8_letGo 22 = .ok (.getfield 19, 3) := by decide +kernel
theorem dX8_letGo_25 : decode cX8_letGo 25 = .ok (.aload_n 0, 1) := by decide +kernel
theorem dX8_letGo_26 : decode cX8_letGo 26 = .ok (.getfield 10, 3) := by decide +kernel
theorem dX8_letGo_29 : decode cX8_letGo 29 = .ok (.iload_n 1, 1) := by decide +kernel
theorem dX8_letGo_30 : decode cX8_letGo 30 = .ok (.invokevirtual 169, 3) := by decide +kernel
theorem dX8_letGo_33 : decode cX8_letGo 33 = .ok (.istore_n 3, 1) := by decide +kernel
theorem dX8_letGo_34 : decode cX8_letGo 34 = .ok (.iload_n 2, 1) := by decide +kernel
theorem dX8_letGo_35 : decode cX8_letGo 35 = .ok (.ifCond .ne 10, 3) := by decide +kernel
theorem dX8_letGo_38 : decode cX8_letGo 38 = .ok (.iload_n 3, 1) := by decide +kernel
theorem dX8_letGo_39 : decode cX8_letGo 39 = .ok (.invokestatic 173, 3) := by decide +kernel
theorem dX8_letGo_42 : decode cX8_letGo 42 = .ok (.goto 4, 3) := by decide +kernel
theorem dX8_letGo_45 : decode cX8_letGo 45 = .ok (.iload_n 3, 1) := by decide +kernel
theorem dX8_letGo_46 : decode cX8_letGo 46 = .ok (.ireturn, 1) := by decide +kernel
set_option maxRecDepth 20000 in
theorem ggX8_together_X0_has : GoodIn wsX8_together wsX0_has := goodIn_r _ [7, 8, 87, 88, 89, 90, 91, 92, 93] (by decide +kernel) (by decide +kernel)
set_option maxRecDepth 20000 in
theorem gX8_together_X0_has : GoodIn wsX8_together (wsV RX8 104 RX0 yX0_has wsX0_has) := goodIn_app (goodIn_of _ (by decide +kernel)) ggX8_together_X0_has
set_option maxRecDepth 20000 in
theorem ggX8_together_X4_howTogether : GoodIn wsX8_together wsX4_howTogether := goodIn_r _ [13, 14, 15, 16, 12, 17, 18, 19, 20, 21, 22, 23, 24, 25, 26, 6, 27, 8, 28, 29, 30, 31, 32, 33, 34, 35, 36, 37, 38, 39, 40, 41, 42, 43, 44, 45, 46, 47, 48, 49, 50, 51, 52, 53, 54, 55, 56, 57, 58, 59, 60, 61, 62, 63, 64, 65, 66, 67, 68, 69, 70, 71, 72, 73, 74, 75, 76, 77, 78, 94, 95, 96, 97, 87, 88, 89, 90, 91, 92, 93] (by decide +kernel) (by decide +kernel)
set_option maxRecDepth 20000 in
theorem gX8_together_X4_howTogether : GoodIn wsX8_together (wsV RX8 178 RX4 yX4_howTogether wsX4_howTogether) := goodIn_app (goodIn_of _ (by decide +kernel)) ggX8_together_X4_howTogether
theorem dX8_together_0 : decode cX8_together 0 = .ok (.aload_n 0, 1) := by decide +kernel
theorem dX8_together_1 : decode cX8_together 1 = .ok (.getfield 10, 3) := by decide +kernel
theorem dX8_together_4 : decode cX8_together 4 = .ok (.iload_n 1, 1) := by decide +kernel
theorem dX8_together_5 : decode cX8_together 5 = .ok (.invokevirtual 104, 3) := by decide +kernel
theorem dX8_together_8 : decode cX8_together 8 = .ok (.ifCond .eq 19, 3) := by decide +kernel
theorem dX8_together_11 : decode cX8_together 11 = .ok (.aload_n 0, 1) := by decide +kernel
theorem dX8_together_12 : decode cX8_together 12 = .ok (.getfield 10, 3) := by decide +kernel
theorem dX8_together_15 : decode cX8_together 15 = .ok (.iload_n 2, 1) := by decide +kernel
theorem dX8_together_16 : decode cX8_together 16 = .ok (.invokevirtual 104, 3) := by decide +kernel
theorem dX8_together_19 : decode cX8_together 19 = .ok (.ifCond .eq 8, 3) := by decide +kernel
theorem dX8_together_22 : decode cX8_together 22 = .ok (.iload_n 1, 1) := by decide +kernel
theorem dX8_together_23 : decode cX8_together 23 = .ok (.iload_n 2, 1) := by decide +kernel
theorem dX8_together_24 : decode cX8_together 24 = .ok (.if_icmp .ne 5, 3) := by decide +kernel
theorem dX8_together_27 : decode cX8_together 27 = .ok (.iconst (-1), 1) := by decide +kernel
theorem dX8_together_28 : decode cX8_together 28 = .ok (.ireturn, 1) := by decide +kernel
theorem dX8_together_29 : decode cX8_together 29 = .ok (.aload_n 0, 1) := by decide +kernel
theorem dX8_together_30 : decode cX8_together 30 = .ok (.getfield 19, 3) := by decide +kernel
theorem dX8_together_33 : decode cX8_together 33 = .ok (.aload_n 0, 1) := by decide +kernel
theorem dX8_together_34 : decode cX8_together 34 = .ok (.getfield 10, 3) := by decide +kernel
theorem dX8_together_37 : decode cX8_together 37 = .ok (.iload_n 1, 1) := by decide +kernel
theorem dX8_together_38 : decode cX8_together 38 = .ok (.iload_n 2, 1) := by decide +kernel
theorem dX8_together_39 : decode cX8_together 39 = .ok (.invokevirtual 178, 3) := by decide +kernel
theorem dX8_together_42 : decode cX8_together 42 = .ok (.ireturn, 1) := by decide +kernel
set_option maxRecDepth 20000 in
theorem ggX8_span_X0_isHeap : GoodIn wsX8_span wsX0_isHeap := goodIn_r _ [8, 9, 10, 11, 7, 12, 13, 61, 62, 63, 64, 65, 66, 67] (by decide +kernel) (by decide +kernel)
set_option maxRecDepth 20000 in
theorem gX8_span_X0_isHeap : GoodIn wsX8_span (wsV RX8 142 RX0 yX0_isHeap wsX0_isHeap) := goodIn_app (goodIn_of _ (by decide +kernel)) ggX8_span_X0_isHeap
set_option maxRecDepth 20000 in
theorem ggX8_span_X8_isNear : GoodIn wsX8_span wsX8_isNear := goodIn_r _ [17] (by decide +kernel) (by decide +kernel)
set_option maxRecDepth 20000 in
theorem gX8_span_X8_isNear : GoodIn wsX8_span (va_wsS RX8 61 yX8_isNear wsX8_isNear) := goodIn_app (goodIn_of _ (by decide +kernel)) ggX8_span_X8_isNear
set_option maxRecDepth 20000 in
theorem ggX8_span_X0_isWhole : GoodIn wsX8_span wsX0_isWhole := goodIn_r _ [21, 22, 23, 24, 7, 25, 26, 27, 28, 29, 30, 31, 32, 33, 34, 61, 62, 63, 64, 65, 66, 67] (by decide +kernel) (by decide +kernel)
set_option maxRecDepth 20000 in
theorem gX8_span_X0_isWhole : GoodIn wsX8_span (wsV RX8 182 RX0 yX0_isWhole wsX0_isWhole) := goodIn_app (goodIn_of _ (by decide +kernel)) ggX8_span_X0_isWhole
set_option maxRecDepth 20000 in
theorem ggX8_span_X0_leastSum : GoodIn wsX8_span wsX0_leastSum := goodIn_r _ [38, 39, 40, 41, 42, 26, 27, 28, 7, 29, 30, 31, 32, 33, 34, 43, 44, 45, 46, 47, 48, 49, 50, 51, 52, 61, 62, 63, 64, 65, 66, 67] (by decide +kernel) (by decide +kernel)
set_option maxRecDepth 20000 in
theorem gX8_span_X0_leastSum : GoodIn wsX8_span (wsV RX8 185 RX0 yX0_leastSum wsX0_leastSum) := goodIn_app (goodIn_of _ (by decide +kernel)) ggX8_span_X0_leastSum
theorem dX8_span_0 : decode cX8_span 0 = .ok (.aload_n 0, 1) := by decide +kernel
theorem dX8_span_1 : decode cX8_span 1 = .ok (.getfield 10, 3) := by decide +kernel
theorem dX8_span_4 : decode cX8_span 4 = .ok (.iload_n 1, 1) := by decide +kernel
theorem dX8_span_5 : decode cX8_span 5 = .ok (.invokevirtual 142, 3) := by decide +kernel
theorem dX8_span_8 : decode cX8_span 8 = .ok (.ifCond .eq 32, 3) := by decide +kernel
theorem dX8_span_11 : decode cX8_span 11 = .ok (.iload_n 2, 1) := by decide +kernel
theorem dX8_span_12 : decode cX8_span 12 = .ok (.bipush 99, 2) := by decide +kernel
theorem dX8_span_14 : decode cX8_span 14 = .ok (.invokestatic 61, 3) := by decide +kernel
theorem dX8_span_17 : decode cX8_span 17 = .ok (.ifCond .eq 23, 3) := by decide +kernel
theorem dX8_span_20 : decode cX8_span 20 = .ok (.iload_n 3, 1) := by decide +kernel
theorem dX8_span_21 : decode cX8_span 21 = .ok (.bipush 99, 2) := by decide +kernel
theorem dX8_span_23 : decode cX8_span 23 = .ok (.invokestatic 61, 3) := by decide +kernel
theorem dX8_span_26 : decode cX8_span 26 = .ok (.ifCond .eq 14, 3) := by decide +kernel
theorem dX8_span_29 : decode cX8_span 29 = .ok (.iload 4, 2) := by decide +kernel
theorem dX8_span_31 : decode cX8_span 31 = .ok (.ifCond .lt 9, 3) := by decide +kernel
theorem dX8_span_34 : decode cX8_span 34 = .ok (.iload 4, 2) := by decide +kernel
theorem dX8_span_36 : decode cX8_span 36 = .ok (.iconst 1, 1) := by decide +kernel
theorem dX8_span_37 : decode cX8_span 37 = .ok (.if_icmp .le 6, 3) := by decide +kernel
theorem dX8_span_40 : decode cX8_span 40 = .ok (.ldc 107, 2) := by decide +kernel
theorem dX8_span_42 : decode cX8_span 42 = .ok (.ireturn, 1) := by decide +kernel
theorem dX8_span_43 : decode cX8_span 43 = .ok (.aload_n 0, 1) := by decide +kernel
theorem dX8_span_44 : decode cX8_span 44 = .ok (.getfield 10, 3) := by decide +kernel
theorem dX8_span_47 : decode cX8_span 47 = .ok (.iload_n 1, 1) := by decide +kernel
theorem dX8_span_48 : decode cX8_span 48 = .ok (.invokevirtual 182, 3) := by decide +kernel
theorem dX8_span_51 : decode cX8_span 51 = .ok (.ifCond .ne 6, 3) := by decide +kernel
theorem dX8_span_54 : decode cX8_span 54 = .ok (.ldc 117, 2) := by decide +kernel
theorem dX8_span_56 : decode cX8_span 56 = .ok (.ireturn, 1) := by decide +kernel
theorem dX8_span_57 : decode cX8_span 57 = .ok (.iload 4, 2) := by decide +kernel
theorem dX8_span_59 : decode cX8_span 59 = .ok (.ifCond .ne 16, 3) := by decide +kernel
theorem dX8_span_62 : decode cX8_span 62 = .ok (.aload_n 0, 1) := by decide +kernel
theorem dX8_span_63 : decode cX8_span 63 = .ok (.getfield 10, 3) := by decide +kernel
theorem dX8_span_66 : decode cX8_span 66 = .ok (.iload_n 1, 1) := by decide +kernel
theorem dX8_span_67 : decode cX8_span 67 = .ok (.iload_n 2, 1) := by decide +kernel
theorem dX8_span_68 : decode cX8_span 68 = .ok (.iload_n 3, 1) := by decide +kernel
theorem dX8_span_69 : decode cX8_span 69 = .ok (.invokevirtual 185, 3) := by decide +kernel
theorem dX8_span_72 : decode cX8_span 72 = .ok (.goto 16, 3) := by decide +kernel
theorem dX8_span_75 : decode cX8_span 75 = .ok (.aload_n 0, 1) := by decide +kernel
theorem dX8_span_76 : decode cX8_span 76 = .ok (.getfield 10, 3) := by decide +kernel
theorem dX8_span_79 : decode cX8_span 79 = .ok (.iload_n 1, 1) := by decide +kernel
theorem dX8_span_80 : decode cX8_span 80 = .ok (.iload_n 2, 1) := by decide +kernel
theorem dX8_span_81 : decode cX8_span 81 = .ok (.ineg, 1) := by decide +kernel
theorem dX8_span_82 : decode cX8_span 82 = .ok (.iload_n 3, 1) := by decide +kernel
theorem dX8_span_83 : decode cX8_span 83 = .ok (.ineg, 1) := by decide +kernel
theorem dX8_span_84 : decode cX8_span 84 = .ok (.invokevirtual 185, 3) := by decide +kernel
theorem dX8_span_87 : decode cX8_span 87 = .ok (.ineg, 1) := by decide +kernel
theorem dX8_span_88 : decode cX8_span 88 = .ok (.ireturn, 1) := by decide +kernel
set_option maxRecDepth 20000 in
theorem ggX8_line_X0_isHeap : GoodIn wsX8_line wsX0_isHeap := goodIn_r _ [12, 13, 14, 15, 11, 16, 17, 35, 36, 37, 38, 39, 40, 41] (by decide +kernel) (by decide +kernel)
set_option maxRecDepth 20000 in
theorem gX8_line_X0_isHeap : GoodIn wsX8_line (wsV RX8 142 RX0 yX0_isHeap wsX0_isHeap) := goodIn_app (goodIn_of _ (by decide +kernel)) ggX8_line_X0_isHeap
set_option maxRecDepth 20000 in
theorem ggX8_line_X0_leastHeight : GoodIn wsX8_line wsX0_leastHeight := goodIn_r _ [21, 17, 22, 23, 24, 25, 5, 26, 35, 36, 37, 38, 39, 40, 41] (by decide +kernel) (by decide +kernel)
set_option maxRecDepth 20000 in
theorem gX8_line_X0_leastHeight : GoodIn wsX8_line (wsV RX8 188 RX0 yX0_leastHeight wsX0_leastHeight) := goodIn_app (goodIn_of _ (by decide +kernel)) ggX8_line_X0_leastHeight
theorem dX8_line_0 : decode cX8_line 0 = .ok (.aload_n 0, 1) := by decide +kernel
theorem dX8_line_1 : decode cX8_line 1 = .ok (.getfield 10, 3) := by decide +kernel
theorem dX8_line_4 : decode cX8_line 4 = .ok (.iload_n 1, 1) := by decide +kernel
theorem dX8_line_5 : decode cX8_line 5 = .ok (.invokevirtual 142, 3) := by decide +kernel
theorem dX8_line_8 : decode cX8_line 8 = .ok (.ifCond .eq 29, 3) := by decide +kernel
theorem dX8_line_11 : decode cX8_line 11 = .ok (.aload_n 0, 1) := by decide +kernel
theorem dX8_line_12 : decode cX8_line 12 = .ok (.getfield 10, 3) := by decide +kernel
theorem dX8_line_15 : decode cX8_line 15 = .ok (.iload_n 2, 1) := by decide +kernel
theorem dX8_line_16 : decode cX8_line 16 = .ok (.invokevirtual 142, 3) := by decide +kernel
theorem dX8_line_19 : decode cX8_line 19 = .ok (.ifCond .eq 18, 3) := by decide +kernel
theorem dX8_line_22 : decode cX8_line 22 = .ok (.iload_n 1, 1) := by decide +kernel
theorem dX8_line_23 : decode cX8_line 23 = .ok (.iload_n 2, 1) := by decide +kernel
theorem dX8_line_24 : decode cX8_line 24 = .ok (.iand, 1) := by decide +kernel
theorem dX8_line_25 : decode cX8_line 25 = .ok (.ifCond .ne 12, 3) := by decide +kernel
theorem dX8_line_28 : decode cX8_line 28 = .ok (.iload_n 3, 1) := by decide +kernel
theorem dX8_line_29 : decode cX8_line 29 = .ok (.ifCond .lt 8, 3) := by decide +kernel
theorem dX8_line_32 : decode cX8_line 32 = .ok (.iload_n 3, 1) := by decide +kernel
theorem dX8_line_33 : decode cX8_line 33 = .ok (.iconst 2, 1) := by decide +kernel
theorem dX8_line_34 : decode cX8_line 34 = .ok (.if_icmp .le 6, 3) := by decide +kernel
theorem dX8_line_37 : decode cX8_line 37 = .ok (.ldc 107, 2) := by decide +kernel
theorem dX8_line_39 : decode cX8_line 39 = .ok (.ireturn, 1) := by decide +kernel
theorem dX8_line_40 : decode cX8_line 40 = .ok (.bipush (-3), 2) := by decide +kernel
theorem dX8_line_42 : decode cX8_line 42 = .ok (.istore 4, 2) := by decide +kernel
theorem dX8_line_44 : decode cX8_line 44 = .ok (.iload 4, 2) := by decide +kernel
theorem dX8_line_46 : decode cX8_line 46 = .ok (.iconst 3, 1) := by decide +kernel
theorem dX8_line_47 : decode cX8_line 47 = .ok (.if_icmp .gt 94, 3) := by decide +kernel
theorem dX8_line_50 : decode cX8_line 50 = .ok (.bipush (-3), 2) := by decide +kernel
theorem dX8_line_52 : decode cX8_line 52 = .ok (.istore 5, 2) := by decide +kernel
theorem dX8_line_54 : decode cX8_line 54 = .ok (.iload 5, 2) := by decide +kernel
theorem dX8_line_56 : decode cX8_line 56 = .ok (.iconst 3, 1) := by decide +kernel
theorem dX8_line_57 : decode cX8_line 57 = .ok (.if_icmp .gt 78, 3) := by decide +kernel
theorem dX8_line_60 : decode cX8_line 60 = .ok (.bipush (-99), 2) := by decide +kernel
theorem dX8_line_62 : decode cX8_line 62 = .ok (.iconst 1, 1) := by decide +kernel
theorem dX8_line_63 : decode cX8_line 63 = .ok (.aload_n 0, 1) := by decide +kernel
theorem dX8_line_64 : decode cX8_line 64 = .ok (.getfield 10, 3) := by decide +kernel
theorem dX8_line_67 : decode cX8_line 67 = .ok (.iload_n 2, 1) := by decide +kernel
theorem dX8_line_68 : decode cX8_line 68 = .ok (.iload 4, 2) := by decide +kernel
theorem dX8_line_70 : decode cX8_line 70 = .ok (.ineg, 1) := by decide +kernel
theorem dX8_line_71 : decode cX8_line 71 = .ok (.iload 5, 2) := by decide +kernel
theorem dX8_line_73 : decode cX8_line 73 = .ok (.ineg, 1) := by decide +kernel
theorem dX8_line_74 : decode cX8_line 74 = .ok (.invokevirtual 188, 3) := by decide +kernel
theorem dX8_line_77 : decode cX8_line 77 = .ok (.isub, 1) := by decide +kernel
theorem dX8_line_78 : decode cX8_line 78 = .ok (.invokestatic 191, 3) := by decide +kernel
theorem dX8_line_81 : decode cX8_line 81 = .ok (.istore 6, 2) := by decide +kernel
theorem dX8_line_83 : decode cX8_line 83 = .ok (.iload 6, 2) := by decide +kernel
theorem dX8_line_85 : decode cX8_line 85 = .ok (.bipush 99, 2) := by decide +kernel
theorem dX8_line_87 : decode cX8_line 87 = .ok (.if_icmp .gt 42, 3) := by decide +kernel
theorem dX8_line_90 : decode cX8_line 90 = .ok (.iload 6, 2) := by decide +kernel
theorem dX8_line_92 : decode cX8_line 92 = .ok (.aload_n 0, 1) := by decide +kernel
theorem dX8_line_93 : decode cX8_line 93 = .ok (.getfield 10, 3) := by decide +kernel
theorem dX8_line_96 : decode cX8_line 96 = .ok (.iload_n 1, 1) := by decide +kernel
theorem dX8_line_97 : decode cX8_line 97 = .ok (.iload 4, 2) := by decide +kernel
theorem dX8_line_99 : decode cX8_line 99 = .ok (.iload 5, 2) := by decide +kernel
theorem dX8_line_101 : decode cX8_line 101 = .ok (.invokevirtual 188, 3) := by decide +kernel
theorem dX8_line_104 : decode cX8_line 104 = .ok (.if_icmp .gt 25, 3) := by decide +kernel
theorem dX8_line_107 : decode cX8_line 107 = .ok (.iload_n 3, 1) := by decide +kernel
theorem dX8_line_108 : decode cX8_line 108 = .ok (.ifCond .ne 8, 3) := by decide +kernel
theorem dX8_line_111 : decode cX8_line 111 = .ok (.iload 4, 2) := by decide +kernel
theorem dX8_line_113 : decode cX8_line 113 = .ok (.goto 15, 3) := by decide +kernel
theorem dX8_line_116 : decode cX8_line 116 = .ok (.iload_n 3, 1) := by decide +kernel
theorem dX8_line_117 : decode cX8_line 117 = .ok (.iconst 1, 1) := by decide +kernel
theorem dX8_line_118 : decode cX8_line 118 = .ok (.if_icmp .ne 8, 3) := by decide +kernel
theorem dX8_line_121 : decode cX8_line 121 = .ok (.iload 5, 2) := by decide +kernel
theorem dX8_line_123 : decode cX8_line 123 = .ok (.goto 5, 3) := by decide +kernel
theorem dX8_line_126 : decode cX8_line 126 = .ok (.iload 6, 2) := by decide +kernel
theorem dX8_line_128 : decode cX8_line 128 = .ok (.ireturn, 1) := by decide +kernel
theorem dX8_line_129 : decode cX8_line 129 = .ok (.iinc 5 1, 3) := by decide +kernel
theorem dX8_line_132 : decode cX8_line 132 = .ok (.goto (-78), 3) := by decide +kernel
theorem dX8_line_135 : decode cX8_line 135 = .ok (.iinc 4 1, 3) := by decide +kernel
theorem dX8_line_138 : decode cX8_line 138 = .ok (.goto (-94), 3) := by decide +kernel
theorem dX8_line_141 : decode cX8_line 141 = .ok (.ldc 117, 2) := by decide +kernel
theorem dX8_line_143 : decode cX8_line 143 = .ok (.ireturn, 1) := by decide +kernel
set_option maxRecDepth 20000 in
theorem ggX8_hours_X0_isHeap : GoodIn wsX8_hours wsX0_isHeap := goodIn_r _ [6, 7, 8, 9, 5, 10, 11, 29, 30, 31, 32, 33, 34, 35] (by decide +kernel) (by decide +kernel)
set_option maxRecDepth 20000 in
theorem gX8_hours_X0_isHeap : GoodIn wsX8_hours (wsV RX8 142 RX0 yX0_isHeap wsX0_isHeap) := goodIn_app (goodIn_of _ (by decide +kernel)) ggX8_hours_X0_isHeap
set_option maxRecDepth 20000 in
theorem ggX8_hours_X8_rests : GoodIn wsX8_hours wsX8_rests := goodIn_r _ [16, 1, 17, 18, 19, 5, 20, 11, 21, 22, 23, 24, 25, 26, 27, 28, 29, 30, 31, 32, 33, 34, 35] (by decide +kernel) (by decide +kernel)
set_option maxRecDepth 20000 in
theorem gX8_hours_X8_rests : GoodIn wsX8_hours (wsV RX8 196 RX8 yX8_rests wsX8_rests) := goodIn_app (goodIn_of _ (by decide +kernel)) ggX8_hours_X8_rests
theorem dX8_hours_0 : decode cX8_hours 0 = .ok (.aload_n 0, 1) := by decide +kernel
theorem dX8_hours_1 : decode cX8_hours 1 = .ok (.getfield 10, 3) := by decide +kernel
theorem dX8_hours_4 : decode cX8_hours 4 = .ok (.iload_n 1, 1) := by decide +kernel
theorem dX8_hours_5 : decode cX8_hours 5 = .ok (.invokevirtual 142, 3) := by decide +kernel
theorem dX8_hours_8 : decode cX8_hours 8 = .ok (.ifCond .eq 14, 3) := by decide +kernel
theorem dX8_hours_11 : decode cX8_hours 11 = .ok (.aload_n 0, 1) := by decide +kernel
theorem dX8_hours_12 : decode cX8_hours 12 = .ok (.getfield 10, 3) := by decide +kernel
theorem dX8_hours_15 : decode cX8_hours 15 = .ok (.iload_n 2, 1) := by decide +kernel
theorem dX8_hours_16 : decode cX8_hours 16 = .ok (.invokevirtual 142, 3) := by decide +kernel
theorem dX8_hours_19 : decode cX8_hours 19 = .ok (.ifCond .ne 5, 3) := by decide +kernel
theorem dX8_hours_22 : decode cX8_hours 22 = .ok (.iconst (-1), 1) := by decide +kernel
theorem dX8_hours_23 : decode cX8_hours 23 = .ok (.ireturn, 1) := by decide +kernel
theorem dX8_hours_24 : decode cX8_hours 24 = .ok (.iconst 1, 1) := by decide +kernel
theorem dX8_hours_25 : decode cX8_hours 25 = .ok (.istore_n 3, 1) := by decide +kernel
theorem dX8_hours_26 : decode cX8_hours 26 = .ok (.iload_n 3, 1) := by decide +kernel
theorem dX8_hours_27 : decode cX8_hours 27 = .ok (.bipush 6, 2) := by decide +kernel
theorem dX8_hours_29 : decode cX8_hours 29 = .ok (.if_icmp .gt 27, 3) := by decide +kernel
theorem dX8_hours_32 : decode cX8_hours 32 = .ok (.aload_n 0, 1) := by decide +kernel
theorem dX8_hours_33 : decode cX8_hours 33 = .ok (.iload_n 1, 1) := by decide +kernel
theorem dX8_hours_34 : decode cX8_hours 34 = .ok (.iload_n 3, 1) := by decide +kernel
theorem dX8_hours_35 : decode cX8_hours 35 = .ok (.invokevirtual 196, 3) := by decide +kernel
theorem dX8_hours_38 : decode cX8_hours 38 = .ok (.aload_n 0, 1) := by decide +kernel
theorem dX8_hours_39 : decode cX8_hours 39 = .ok (.iload_n 2, 1) := by decide +kernel
theorem dX8_hours_40 : decode cX8_hours 40 = .ok (.iload_n 3, 1) := by decide +kernel
theorem dX8_hours_41 : decode cX8_hours 41 = .ok (.invokevirtual 196, 3) := by decide +kernel
theorem dX8_hours_44 : decode cX8_hours 44 = .ok (.iand, 1) := by decide +kernel
theorem dX8_hours_45 : decode cX8_hours 45 = .ok (.ifCond .ne 5, 3) := by decide +kernel
theorem dX8_hours_48 : decode cX8_hours 48 = .ok (.iload_n 3, 1) := by decide +kernel
theorem dX8_hours_49 : decode cX8_hours 49 = .ok (.ireturn, 1) := by decide +kernel
theorem dX8_hours_50 : decode cX8_hours 50 = .ok (.iinc 3 1, 3) := by decide +kernel
theorem dX8_hours_53 : decode cX8_hours 53 = .ok (.goto (-27), 3) := by decide +kernel
theorem dX8_hours_56 : decode cX8_hours 56 = .ok (.bipush (-4), 2) := by decide +kernel
theorem dX8_hours_58 : decode cX8_hours 58 = .ok (.ireturn, 1) := by decide +kernel
set_option maxRecDepth 20000 in
theorem ggX8_wear_X3_is : GoodIn wsX8_wear wsX3_is := goodIn_r _ [5] (by decide +kernel) (by decide +kernel)
set_option maxRecDepth 20000 in
theorem gX8_wear_X3_is : GoodIn wsX8_wear (va_wsS RX8 134 yX3_is wsX3_is) := goodIn_app (goodIn_of _ (by decide +kernel)) ggX8_wear_X3_is
set_option maxRecDepth 20000 in
theorem ggX8_wear_X8_isNear : GoodIn wsX8_wear wsX8_isNear := goodIn_r _ [9] (by decide +kernel) (by decide +kernel)
set_option maxRecDepth 20000 in
theorem gX8_wear_X8_isNear : GoodIn wsX8_wear (va_wsS RX8 61 yX8_isNear wsX8_isNear) := goodIn_app (goodIn_of _ (by decide +kernel)) ggX8_wear_X8_isNear
set_option maxRecDepth 20000 in
theorem ggX8_wear_X3_partOfState : GoodIn wsX8_wear wsX3_partOfState := goodIn_r _ [12] (by decide +kernel) (by decide +kernel)
set_option maxRecDepth 20000 in
theorem gX8_wear_X3_partOfState : GoodIn wsX8_wear (va_wsS RX8 199 yX3_partOfState wsX3_partOfState) := goodIn_app (goodIn_of _ (by decide +kernel)) ggX8_wear_X3_partOfState
set_option maxRecDepth 20000 in
theorem ggX8_wear_X3_partOfPush : GoodIn wsX8_wear wsX3_partOfPush := goodIn_r _ [15] (by decide +kernel) (by decide +kernel)
set_option maxRecDepth 20000 in
theorem gX8_wear_X3_partOfPush : GoodIn wsX8_wear (va_wsS RX8 202 yX3_partOfPush wsX3_partOfPush) := goodIn_app (goodIn_of _ (by decide +kernel)) ggX8_wear_X3_partOfPush
set_option maxRecDepth 20000 in
theorem ggX8_wear_X3_number : GoodIn wsX8_wear wsX3_number := goodIn_r _ [18] (by decide +kernel) (by decide +kernel)
set_option maxRecDepth 20000 in
theorem gX8_wear_X3_number : GoodIn wsX8_wear (va_wsS RX8 205 yX3_number wsX3_number) := goodIn_app (goodIn_of _ (by decide +kernel)) ggX8_wear_X3_number
set_option maxRecDepth 20000 in
theorem ggX8_wear_X0_size : GoodIn wsX8_wear wsX0_size := goodIn_r _ [23, 24, 46, 47, 48, 49, 50, 51, 52] (by decide +kernel) (by decide +kernel)
set_option maxRecDepth 20000 in
theorem gX8_wear_X0_size : GoodIn wsX8_wear (wsV RX8 152 RX0 yX0_size wsX0_size) := goodIn_app (goodIn_of _ (by decide +kernel)) ggX8_wear_X0_size
set_option maxRecDepth 20000 in
theorem ggX8_wear_X0_letsLaw : GoodIn wsX8_wear wsX0_letsLaw := goodIn_r _ [28, 29, 30, 31, 22, 32, 33, 46, 47, 48, 49, 50, 51, 52] (by decide +kernel) (by decide +kernel)
set_option maxRecDepth 20000 in
theorem gX8_wear_X0_letsLaw : GoodIn wsX8_wear (wsV RX8 139 RX0 yX0_letsLaw wsX0_letsLaw) := goodIn_app (goodIn_of _ (by decide +kernel)) ggX8_wear_X0_letsLaw
set_option maxRecDepth 20000 in
theorem ggX8_wear_X0_all : GoodIn wsX8_wear wsX0_all := goodIn_r _ [37, 24, 46, 47, 48, 49, 50, 51, 52] (by decide +kernel) (by decide +kernel)
set_option maxRecDepth 20000 in
theorem gX8_wear_X0_all : GoodIn wsX8_wear (wsV RX8 208 RX0 yX0_all wsX0_all) := goodIn_app (goodIn_of _ (by decide +kernel)) ggX8_wear_X0_all
theorem dX8_wear_0 : decode cX8_wear 0 = .ok (.iload_n 1, 1) := by decide +kernel
theorem dX8_wear_1 : decode cX8_wear 1 = .ok (.invokestatic 134, 3) := by decide +kernel
theorem dX8_wear_4 : decode cX8_wear 4 = .ok (.ifCond .eq 27, 3) := by decide +kernel
theorem dX8_wear_7 : decode cX8_wear 7 = .ok (.iload_n 2, 1) := by decide +kernel
theorem dX8_wear_8 : decode cX8_wear 8 = .ok (.iconst 1, 1) := by decide +kernel
theorem dX8_wear_9 : decode cX8_wear 9 = .ok (.invokestatic 61, 3) := by decide +kernel
theorem dX8_wear_12 : decode cX8_wear 12 = .ok (.ifCond .eq 19, 3) := by decide +kernel
theorem dX8_wear_15 : decode cX8_wear 15 = .ok (.iload_n 3, 1) := by decide +kernel
theorem dX8_wear_16 : decode cX8_wear 16 = .ok (.iconst 1, 1) := by decide +kernel
theorem dX8_wear_17 : decode cX8_wear 17 = .ok (.invokestatic 61, 3) := by decide +kernel
theorem dX8_wear_20 : decode cX8_wear 20 = .ok (.ifCond .eq 11, 3) := by decide +kernel
theorem dX8_wear_23 : decode cX8_wear 23 = .ok (.iload_n 2, 1) := by decide +kernel
theorem dX8_wear_24 : decode cX8_wear 24 = .ok (.ifCond .ne 9, 3) := by decide +kernel
theorem dX8_wear_27 : decode cX8_wear 27 = .ok (.iload_n 3, 1) := by decide +kernel
theorem dX8_wear_28 : decode cX8_wear 28 = .ok (.ifCond .ne 5, 3) := by decide +kernel
theorem dX8_wear_31 : decode cX8_wear 31 = .ok (.iconst (-1), 1) := by decide +kernel
theorem dX8_wear_32 : decode cX8_wear 32 = .ok (.ireturn, 1) := by decide +kernel
theorem dX8_wear_33 : decode cX8_wear 33 = .ok (.iload_n 1, 1) := by decide +kernel
theorem dX8_wear_34 : decode cX8_wear 34 = .ok (.invokestatic 199, 3) := by decide +kernel
theorem dX8_wear_37 : decode cX8_wear 37 = .ok (.iload_n 2, 1) := by decide +kernel
theorem dX8_wear_38 : decode cX8_wear 38 = .ok (.iadd, 1) := by decide +kernel
theorem dX8_wear_39 : decode cX8_wear 39 = .ok (.istore 4, 2) := by decide +kernel
theorem dX8_wear_41 : decode cX8_wear 41 = .ok (.iload_n 1, 1) := by decide +kernel
theorem dX8_wear_42 : decode cX8_wear 42 = .ok (.invokestatic 202, 3) := by decide +kernel
theorem dX8_wear_45 : decode cX8_wear 45 = .ok (.iload_n 3, 1) := by decide +kernel
theorem dX8_wear_46 : decode cX8_wear 46 = .ok (.iadd, 1) := by decide +kernel
theorem dX8_wear_47 : decode cX8_wear 47 = .ok (.istore 5, 2) := by decide +kernel
theorem dX8_wear_49 : decode cX8_wear 49 = .ok (.iload 4, 2) := by decide +kernel
theorem dX8_wear_51 : decode cX8_wear 51 = .ok (.bipush 8, 2) := by decide +kernel
theorem dX8_wear_53 : decode cX8_wear 53 = .ok (.invokestatic 61, 3) := by decide +kernel
theorem dX8_wear_56 : decode cX8_wear 56 = .ok (.ifCond .eq 13, 3) := by decide +kernel
theorem dX8_wear_59 : decode cX8_wear 59 = .ok (.iload 5, 2) := by decide +kernel
theorem dX8_wear_61 : decode cX8_wear 61 = .ok (.bipush 8, 2) := by decide +kernel
theorem dX8_wear_63 : decode cX8_wear 63 = .ok (.invokestatic 61, 3) := by decide +kernel
theorem dX8_wear_66 : decode cX8_wear 66 = .ok (.ifCond .ne 6, 3) := by decide +kernel
theorem dX8_wear_69 : decode cX8_wear 69 = .ok (.bipush (-2), 2) := by decide +kernel
theorem dX8_wear_71 : decode cX8_wear 71 = .ok (.ireturn, 1) := by decide +kernel
theorem dX8_wear_72 : decode cX8_wear 72 = .ok (.iload 4, 2) := by decide +kernel
theorem dX8_wear_74 : decode cX8_wear 74 = .ok (.iload 5, 2) := by decide +kernel
theorem dX8_wear_76 : decode cX8_wear 76 = .ok (.invokestatic 205, 3) := by decide +kernel
theorem dX8_wear_79 : decode cX8_wear 79 = .ok (.istore 6, 2) := by decide +kernel
theorem dX8_wear_81 : decode cX8_wear 81 = .ok (.iconst 0, 1) := by decide +kernel
theorem dX8_wear_82 : decode cX8_wear 82 = .ok (.istore 7, 2) := by decide +kernel
theorem dX8_wear_84 : decode cX8_wear 84 = .ok (.iload 7, 2) := by decide +kernel
theorem dX8_wear_86 : decode cX8_wear 86 = .ok (.aload_n 0, 1) := by decide +kernel
theorem dX8_wear_87 : decode cX8_wear 87 = .ok (.getfield 10, 3) := by decide +kernel
theorem dX8_wear_90 : decode cX8_wear 90 = .ok (.invokevirtual 152, 3) := by decide +kernel
theorem dX8_wear_93 : decode cX8_wear 93 = .ok (.if_icmp .gt 57, 3) := by decide +kernel
theorem dX8_wear_96 : decode cX8_wear 96 = .ok (.iconst 1, 1) := by decide +kernel
theorem dX8_wear_97 : decode cX8_wear 97 = .ok (.iload 7, 2) := by decide +kernel
theorem dX8_wear_99 : decode cX8_wear 99 = .ok (.ishl, 1) := by decide +kernel
theorem dX8_wear_100 : decode cX8_wear 100 = .ok (.iconst 1, 1) := by decide +kernel
theorem dX8_wear_101 : decode cX8_wear 101 = .ok (.isub, 1) := by decide +kernel
theorem dX8_wear_102 : decode cX8_wear 102 = .ok (.istore 8, 2) := by decide +kernel
theorem dX8_wear_104 : decode cX8_wear 104 = .ok (.aload_n 0, 1) := by decide +kernel
theorem dX8_wear_105 : decode cX8_wear 105 = .ok (.getfield 10, 3) := by decide +kernel
theorem dX8_wear_108 : decode cX8_wear 108 = .ok (.iload 8, 2) := by decide +kernel
theorem dX8_wear_110 : decode cX8_wear 110 = .ok (.iload_n 1, 1) := by decide +kernel
theorem dX8_wear_111 : decode cX8_wear 111 = .ok (.invokevirtual 139, 3) := by decide +kernel
theorem dX8_wear_114 : decode cX8_wear 114 = .ok (.ifCond .eq 30, 3) := by decide +kernel
theorem dX8_wear_117 : decode cX8_wear 117 = .ok (.aload_n 0, 1) := by decide +kernel
theorem dX8_wear_118 : decode cX8_wear 118 = .ok (.getfield 10, 3) := by decide +kernel
theorem dX8_wear_121 : decode cX8_wear 121 = .ok (.aload_n 0, 1) := by decide +kernel
theorem dX8_wear_122 : decode cX8_wear 122 = .ok (.getfield 10, 3) := by decide +kernel
theorem dX8_wear_125 : decode cX8_wear 125 = .ok (.invokevirtual 208, 3) := by decide +kernel
theorem dX8_wear_128 : decode cX8_wear 128 = .ok (.iload 8, 2) := by decide +kernel
theorem dX8_wear_130 : decode cX8_wear 130 = .ok (.iconst (-1), 1) := by decide +kernel
theorem dX8_wear_131 : decode cX8_wear 131 = .ok (.ixor, 1) := by decide +kernel
theorem dX8_wear_132 : decode cX8_wear 132 = .ok (.iand, 1) := by decide +kernel
theorem dX8_wear_133 : decode cX8_wear 133 = .ok (.iload 6, 2) := by decide +kernel
theorem dX8_wear_135 : decode cX8_wear 135 = .ok (.invokevirtual 139, 3) := by decide +kernel
theorem dX8_wear_138 : decode cX8_wear 138 = .ok (.ifCond .eq 6, 3) := by decide +kernel
theorem dX8_wear_141 : decode cX8_wear 141 = .ok (.iload 7, 2) := by decide +kernel
theorem dX8_wear_143 : decode cX8_wear 143 = .ok (.ireturn, 1) := by decide +kernel
theorem dX8_wear_144 : decode cX8_wear 144 = .ok (.iinc 7 1, 3) := by decide +kernel
theorem dX8_wear_147 : decode cX8_wear 147 = .ok (.goto (-63), 3) := by decide +kernel
theorem dX8_wear_150 : decode cX8_wear 150 = .ok (.bipush (-4), 2) := by decide +kernel
theorem dX8_wear_152 : decode cX8_wear 152 = .ok (.ireturn, 1) := by decide +kernel
set_option maxRecDepth 20000 in
theorem ggX8_check_X8_sheetAt : GoodIn wsX8_check wsX8_sheetAt := goodIn_r _ [6, 7, 62, 63, 64, 65, 66, 67, 68, 69] (by decide +kernel) (by decide +kernel)
set_option maxRecDepth 20000 in
theorem gX8_check_X8_sheetAt : GoodIn wsX8_check (wsV RX8 69 RX8 yX8_sheetAt wsX8_sheetAt) := goodIn_app (goodIn_of _ (by decide +kernel)) ggX8_check_X8_sheetAt
set_option maxRecDepth 20000 in
theorem ggX8_check_X8_isLane : GoodIn wsX8_check wsX8_isLane := goodIn_r _ [10] (by decide +kernel) (by decide +kernel)
set_option maxRecDepth 20000 in
theorem gX8_check_X8_isLane : GoodIn wsX8_check (va_wsS RX8 73 yX8_isLane wsX8_isLane) := goodIn_app (goodIn_of _ (by decide +kernel)) ggX8_check_X8_isLane
set_option maxRecDepth 20000 in
theorem ggX8_check_X0_size : GoodIn wsX8_check wsX0_size := goodIn_r _ [15, 16, 70, 71, 72, 73, 74, 75, 76] (by decide +kernel) (by decide +kernel)
set_option maxRecDepth 20000 in
theorem gX8_check_X0_size : GoodIn wsX8_check (wsV RX8 152 RX0 yX0_size wsX0_size) := goodIn_app (goodIn_of _ (by decide +kernel)) ggX8_check_X0_size
set_option maxRecDepth 20000 in
theorem ggX8_check_X5_refusal : GoodIn wsX8_check wsX5_refusal := goodIn_r _ [21, 22, 23, 24, 25, 20, 26, 27, 28, 29, 30, 31, 77, 78, 79] (by decide +kernel) (by decide +kernel)
set_option maxRecDepth 20000 in
theorem gX8_check_X5_refusal : GoodIn wsX8_check (wsV RX8 77 RX5 yX5_refusal wsX5_refusal) := goodIn_app (goodIn_of _ (by decide +kernel)) ggX8_check_X5_refusal
set_option maxRecDepth 20000 in
theorem ggX8_check_X5_allWithin : GoodIn wsX8_check wsX5_allWithin := goodIn_r _ [35, 36, 37, 38, 20, 39, 31, 40, 77, 78, 79] (by decide +kernel) (by decide +kernel)
set_option maxRecDepth 20000 in
theorem gX8_check_X5_allWithin : GoodIn wsX8_check (wsV RX8 81 RX5 yX5_allWithin wsX5_allWithin) := goodIn_app (goodIn_of _ (by decide +kernel)) ggX8_check_X5_allWithin
set_option maxRecDepth 20000 in
theorem ggX8_check_X5_placesOf : GoodIn wsX8_check wsX5_placesOf := goodIn_r _ [44, 36, 37, 38, 20, 39, 31, 40, 77, 78, 79] (by decide +kernel) (by decide +kernel)
set_option maxRecDepth 20000 in
theorem gX8_check_X5_placesOf : GoodIn wsX8_check (wsV RX8 211 RX5 yX5_placesOf wsX5_placesOf) := goodIn_app (goodIn_of _ (by decide +kernel)) ggX8_check_X5_placesOf
set_option maxRecDepth 20000 in
theorem ggX8_check_X0_isWhole : GoodIn wsX8_check wsX0_isWhole := goodIn_r _ [48, 49, 50, 51, 14, 52, 53, 54, 55, 56, 57, 58, 59, 60, 61, 70, 71, 72, 73, 74, 75, 76] (by decide +kernel) (by decide +kernel)
set_option maxRecDepth 20000 in
theorem gX8_check_X0_isWhole : GoodIn wsX8_check (wsV RX8 182 RX0 yX0_isWhole wsX0_isWhole) := goodIn_app (goodIn_of _ (by decide +kernel)) ggX8_check_X0_isWhole
theorem dX8_check_0 : decode cX8_check 0 = .ok (.aload_n 0, 1) := by decide +kernel
theorem dX8_check_1 : decode cX8_check 1 = .ok (.iload_n 1, 1) := by decide +kernel
theorem dX8_check_2 : decode cX8_check 2 = .ok (.invokevirtual 69, 3) := by decide +kernel
theorem dX8_check_5 : decode cX8_check 5 = .ok (.astore 4, 2) := by decide +kernel
theorem dX8_check_7 : decode cX8_check 7 = .ok (.aload 4, 2) := by decide +kernel
theorem dX8_check_9 : decode cX8_check 9 = .ok (.ifnull 10, 3) := by decide +kernel
theorem dX8_check_12 : decode cX8_check 12 = .ok (.iload_n 2, 1) := by decide +kernel
theorem dX8_check_13 : decode cX8_check 13 = .ok (.invokestatic 73, 3) := by decide +kernel
theorem dX8_check_16 : decode cX8_check 16 = .ok (.ifCond .ne 5, 3) := by decide +kernel
theorem dX8_check_19 : decode cX8_check 19 = .ok (.iconst (-1), 1) := by decide +kernel
theorem dX8_check_20 : decode cX8_check 20 = .ok (.ireturn, 1) := by decide +kernel
theorem dX8_check_21 : decode cX8_check 21 = .ok (.aload 4, 2) := by decide +kernel
theorem dX8_check_23 : decode cX8_check 23 = .ok (.iload_n 2, 1) := by decide +kernel
theorem dX8_check_24 : decode cX8_check 24 = .ok (.iload_n 3, 1) := by decide +kernel
theorem dX8_check_25 : decode cX8_check 25 = .ok (.aload_n 0, 1) := by decide +kernel
theorem dX8_check_26 : decode cX8_check 26 = .ok (.getfield 10, 3) := by decide +kernel
theorem dX8_check_29 : decode cX8_check 29 = .ok (.invokevirtual 152, 3) := by decide +kernel
theorem dX8_check_32 : decode cX8_check 32 = .ok (.invokevirtual 77, 3) := by decide +kernel
theorem dX8_check_35 : decode cX8_check 35 = .ok (.istore 5, 2) := by decide +kernel
theorem dX8_check_37 : decode cX8_check 37 = .ok (.iload 5, 2) := by decide +kernel
theorem dX8_check_39 : decode cX8_check 39 = .ok (.ifCond .ge 6, 3) := by decide +kernel
theorem dX8_check_42 : decode cX8_check 42 = .ok (.iload 5, 2) := by decide +kernel
theorem dX8_check_44 : decode cX8_check 44 = .ok (.ireturn, 1) := by decide +kernel
theorem dX8_check_45 : decode cX8_check 45 = .ok (.aload 4, 2) := by decide +kernel
theorem dX8_check_47 : decode cX8_check 47 = .ok (.iload_n 3, 1) := by decide +kernel
theorem dX8_check_48 : decode cX8_check 48 = .ok (.aload_n 0, 1) := by decide +kernel
theorem dX8_check_49 : decode cX8_check 49 = .ok (.getfield 10, 3) := by decide +kernel
theorem dX8_check_52 : decode cX8_check 52 = .ok (.invokevirtual 152, 3) := by decide +kernel
theorem dX8_check_55 : decode cX8_check 55 = .ok (.iconst 0, 1) := by decide +kernel
theorem dX8_check_56 : decode cX8_check 56 = .ok (.bipush 11, 2) := by decide +kernel
theorem dX8_check_58 : decode cX8_check 58 = .ok (.invokevirtual 81, 3) := by decide +kernel
theorem dX8_check_61 : decode cX8_check 61 = .ok (.ifCond .ne 6, 3) := by decide +kernel
theorem dX8_check_64 : decode cX8_check 64 = .ok (.bipush (-2), 2) := by decide +kernel
theorem dX8_check_66 : decode cX8_check 66 = .ok (.ireturn, 1) := by decide +kernel
theorem dX8_check_67 : decode cX8_check 67 = .ok (.iconst 0, 1) := by decide +kernel
theorem dX8_check_68 : decode cX8_check 68 = .ok (.istore 6, 2) := by decide +kernel
theorem dX8_check_70 : decode cX8_check 70 = .ok (.iload 6, 2) := by decide +kernel
theorem dX8_check_72 : decode cX8_check 72 = .ok (.bipush 12, 2) := by decide +kernel
theorem dX8_check_74 : decode cX8_check 74 = .ok (.if_icmp .ge 37, 3) := by decide +kernel
theorem dX8_check_77 : decode cX8_check 77 = .ok (.aload_n 0, 1) := by decide +kernel
theorem dX8_check_78 : decode cX8_check 78 = .ok (.getfield 10, 3) := by decide +kernel
theorem dX8_check_81 : decode cX8_check 81 = .ok (.aload 4, 2) := by decide +kernel
theorem dX8_check_83 : decode cX8_check 83 = .ok (.iload 6, 2) := by decide +kernel
theorem dX8_check_85 : decode cX8_check 85 = .ok (.iload_n 3, 1) := by decide +kernel
theorem dX8_check_86 : decode cX8_check 86 = .ok (.aload_n 0, 1) := by decide +kernel
theorem dX8_check_87 : decode cX8_check 87 = .ok (.getfield 10, 3) := by decide +kernel
theorem dX8_check_90 : decode cX8_check 90 = .ok (.invokevirtual 152, 3) := by decide +kernel
theorem dX8_check_93 : decode cX8_check 93 = .ok (.invokevirtual 211, 3) := by decide +kernel
theorem dX8_check_96 : decode cX8_check 96 = .ok (.invokevirtual 182, 3) := by decide +kernel
theorem dX8_check_99 : decode cX8_check 99 = .ok (.ifCond .ne 6, 3) := by decide +kernel
theorem dX8_check_102 : decode cX8_check 102 = .ok (.iload 6, 2) := by decide +kernel
theorem dX8_check_104 : decode cX8_check 104 = .ok (.ireturn, 1) := by decide +kernel
theorem dX8_check_105 : decode cX8_check 105 = .ok (.iinc 6 1, 3) := by decide +kernel
theorem dX8_check_108 : decode cX8_check 108 = .ok (.goto (-38), 3) := by decide +kernel
theorem dX8_check_111 : decode cX8_check 111 = .ok (.bipush (-4), 2) := by decide +kernel
theorem dX8_check_113 : decode cX8_check 113 = .ok (.ireturn, 1) := by decide +kernel
set_option maxRecDepth 20000 in
theorem ggX8_tries_X0_isHeap : GoodIn wsX8_tries wsX0_isHeap := goodIn_r _ [7, 8, 9, 10, 6, 11, 12, 92, 93, 94, 95, 96, 97, 98] (by decide +kernel) (by decide +kernel)
set_option maxRecDepth 20000 in
theorem gX8_tries_X0_isHeap : GoodIn wsX8_tries (wsV RX8 142 RX0 yX0_isHeap wsX0_isHeap) := goodIn_app (goodIn_of _ (by decide +kernel)) ggX8_tries_X0_isHeap
set_option maxRecDepth 20000 in
theorem ggX8_tries_X8_isNear : GoodIn wsX8_tries wsX8_isNear := goodIn_r _ [16] (by decide +kernel) (by decide +kernel)
set_option maxRecDepth 20000 in
theorem gX8_tries_X8_isNear : GoodIn wsX8_tries (va_wsS RX8 61 yX8_isNear wsX8_isNear) := goodIn_app (goodIn_of _ (by decide +kernel)) ggX8_tries_X8_isNear
set_option maxRecDepth 20000 in
theorem ggX8_tries_X0_isWhole : GoodIn wsX8_tries wsX0_isWhole := goodIn_r _ [20, 21, 22, 23, 6, 24, 25, 26, 27, 28, 29, 30, 31, 32, 33, 92, 93, 94, 95, 96, 97, 98] (by decide +kernel) (by decide +kernel)
set_option maxRecDepth 20000 in
theorem gX8_tries_X0_isWhole : GoodIn wsX8_tries (wsV RX8 182 RX0 yX0_isWhole wsX0_isWhole) := goodIn_app (goodIn_of _ (by decide +kernel)) ggX8_tries_X0_isWhole
set_option maxRecDepth 20000 in
theorem ggX8_tries_X7_gather : GoodIn wsX8_tries wsX7_gather := goodIn_r _ [38, 39, 40, 41, 26, 27, 6, 28, 29, 30, 31, 32, 33, 99, 100, 101, 92, 93, 94, 95, 96, 97, 98] (by decide +kernel) (by decide +kernel)
set_option maxRecDepth 20000 in
theorem gX8_tries_X7_gather : GoodIn wsX8_tries (wsV RX8 214 RX7 yX7_gather wsX7_gather) := goodIn_app (goodIn_of _ (by decide +kernel)) ggX8_tries_X7_gather
set_option maxRecDepth 20000 in
theorem ggX8_tries_X0_errorNow : GoodIn wsX8_tries wsX0_errorNow := goodIn_r _ [45, 46, 92, 93, 94, 95, 96, 97, 98] (by decide +kernel) (by decide +kernel)
set_option maxRecDepth 20000 in
theorem gX8_tries_X0_errorNow : GoodIn wsX8_tries (wsV RX8 127 RX0 yX0_errorNow wsX0_errorNow) := goodIn_app (goodIn_of _ (by decide +kernel)) ggX8_tries_X0_errorNow
set_option maxRecDepth 20000 in
theorem ggX8_tries_X7_leftAtWorst : GoodIn wsX8_tries wsX7_leftAtWorst := goodIn_r _ [50, 51, 39, 40, 52, 53, 54, 55, 56, 57, 58, 59, 60, 61, 62, 63, 64, 65, 66, 67, 68, 69, 70, 71, 72, 73, 74, 75, 76, 77, 78, 79, 37, 80, 81, 82, 83, 99, 100, 101] (by decide +kernel) (by decide +kernel)
set_option maxRecDepth 20000 in
theorem gX8_tries_X7_leftAtWorst : GoodIn wsX8_tries (wsV RX8 218 RX7 yX7_leftAtWorst wsX7_leftAtWorst) := goodIn_app (goodIn_of _ (by decide +kernel)) ggX8_tries_X7_leftAtWorst
theorem dX8_tries_0 : decode cX8_tries 0 = .ok (.aload_n 0, 1) := by decide +kernel
theorem dX8_tries_1 : decode cX8_tries 1 = .ok (.getfield 10, 3) := by decide +kernel
theorem dX8_tries_4 : decode cX8_tries 4 = .ok (.iload_n 1, 1) := by decide +kernel
theorem dX8_tries_5 : decode cX8_tries 5 = .ok (.invokevirtual 142, 3) := by decide +kernel
theorem dX8_tries_8 : decode cX8_tries 8 = .ok (.ifCond .eq 21, 3) := by decide +kernel
theorem dX8_tries_11 : decode cX8_tries 11 = .ok (.iload_n 2, 1) := by decide +kernel
theorem dX8_tries_12 : decode cX8_tries 12 = .ok (.bipush 99, 2) := by decide +kernel
theorem dX8_tries_14 : decode cX8_tries 14 = .ok (.invokestatic 61, 3) := by decide +kernel
theorem dX8_tries_17 : decode cX8_tries 17 = .ok (.ifCond .eq 12, 3) := by decide +kernel
theorem dX8_tries_20 : decode cX8_tries 20 = .ok (.iload_n 3, 1) := by decide +kernel
theorem dX8_tries_21 : decode cX8_tries 21 = .ok (.bipush 9, 2) := by decide +kernel
theorem dX8_tries_23 : decode cX8_tries 23 = .ok (.invokestatic 61, 3) := by decide +kernel
theorem dX8_tries_26 : decode cX8_tries 26 = .ok (.ifCond .ne 5, 3) := by decide +kernel
theorem dX8_tries_29 : decode cX8_tries 29 = .ok (.iconst (-1), 1) := by decide +kernel
theorem dX8_tries_30 : decode cX8_tries 30 = .ok (.ireturn, 1) := by decide +kernel
theorem dX8_tries_31 : decode cX8_tries 31 = .ok (.aload_n 0, 1) := by decide +kernel
theorem dX8_tries_32 : decode cX8_tries 32 = .ok (.getfield 10, 3) := by decide +kernel
theorem dX8_tries_35 : decode cX8_tries 35 = .ok (.iload_n 1, 1) := by decide +kernel
theorem dX8_tries_36 : decode cX8_tries 36 = .ok (.invokevirtual 182, 3) := by decide +kernel
theorem dX8_tries_39 : decode cX8_tries 39 = .ok (.ifCond .ne 6, 3) := by decide +kernel
theorem dX8_tries_42 : decode cX8_tries 42 = .ok (.bipush (-4), 2) := by decide +kernel
theorem dX8_tries_44 : decode cX8_tries 44 = .ok (.ireturn, 1) := by decide +kernel
theorem dX8_tries_45 : decode cX8_tries 45 = .ok (.aload_n 0, 1) := by decide +kernel
theorem dX8_tries_46 : decode cX8_tries 46 = .ok (.getfield 33, 3) := by decide +kernel
theorem dX8_tries_49 : decode cX8_tries 49 = .ok (.aload_n 0, 1) := by decide +kernel
theorem dX8_tries_50 : decode cX8_tries 50 = .ok (.getfield 10, 3) := by decide +kernel
theorem dX8_tries_53 : decode cX8_tries 53 = .ok (.iload_n 1, 1) := by decide +kernel
theorem dX8_tries_54 : decode cX8_tries 54 = .ok (.invokevirtual 214, 3) := by decide +kernel
theorem dX8_tries_57 : decode cX8_tries 57 = .ok (.aload_n 0, 1) := by decide +kernel
theorem dX8_tries_58 : decode cX8_tries 58 = .ok (.getfield 33, 3) := by decide +kernel
theorem dX8_tries_61 : decode cX8_tries 61 = .ok (.iload_n 2, 1) := by decide +kernel
theorem dX8_tries_62 : decode cX8_tries 62 = .ok (.iload_n 3, 1) := by decide +kernel
theorem dX8_tries_63 : decode cX8_tries 63 = .ok (.aload_n 0, 1) := by decide +kernel
theorem dX8_tries_64 : decode cX8_tries 64 = .ok (.getfield 10, 3) := by decide +kernel
theorem dX8_tries_67 : decode cX8_tries 67 = .ok (.invokevirtual 127, 3) := by decide +kernel
theorem dX8_tries_70 : decode cX8_tries 70 = .ok (.invokevirtual 218, 3) := by decide +kernel
theorem dX8_tries_73 : decode cX8_tries 73 = .ok (.ireturn, 1) := by decide +kernel
set_option maxRecDepth 20000 in
theorem ggX8_best_X0_isHeap : GoodIn wsX8_best wsX0_isHeap := goodIn_r _ [9, 10, 11, 12, 8, 13, 14, 97, 98, 99, 100, 101, 102, 103] (by decide +kernel) (by decide +kernel)
set_option maxRecDepth 20000 in
theorem gX8_best_X0_isHeap : GoodIn wsX8_best (wsV RX8 142 RX0 yX0_isHeap wsX0_isHeap) := goodIn_app (goodIn_of _ (by decide +kernel)) ggX8_best_X0_isHeap
set_option maxRecDepth 20000 in
theorem ggX8_best_X8_isNear : GoodIn wsX8_best wsX8_isNear := goodIn_r _ [18] (by decide +kernel) (by decide +kernel)
set_option maxRecDepth 20000 in
theorem gX8_best_X8_isNear : GoodIn wsX8_best (va_wsS RX8 61 yX8_isNear wsX8_isNear) := goodIn_app (goodIn_of _ (by decide +kernel)) ggX8_best_X8_isNear
set_option maxRecDepth 20000 in
theorem ggX8_best_X0_isWhole : GoodIn wsX8_best wsX0_isWhole := goodIn_r _ [22, 23, 24, 25, 8, 26, 27, 28, 29, 30, 31, 32, 33, 34, 35, 97, 98, 99, 100, 101, 102, 103] (by decide +kernel) (by decide +kernel)
set_option maxRecDepth 20000 in
theorem gX8_best_X0_isWhole : GoodIn wsX8_best (wsV RX8 182 RX0 yX0_isWhole wsX0_isWhole) := goodIn_app (goodIn_of _ (by decide +kernel)) ggX8_best_X0_isWhole
set_option maxRecDepth 20000 in
theorem ggX8_best_X7_gather : GoodIn wsX8_best wsX7_gather := goodIn_r _ [40, 41, 42, 43, 28, 29, 8, 30, 31, 32, 33, 34, 35, 104, 105, 106, 97, 98, 99, 100, 101, 102, 103] (by decide +kernel) (by decide +kernel)
set_option maxRecDepth 20000 in
theorem gX8_best_X7_gather : GoodIn wsX8_best (wsV RX8 214 RX7 yX7_gather wsX7_gather) := goodIn_app (goodIn_of _ (by decide +kernel)) ggX8_best_X7_gather
set_option maxRecDepth 20000 in
theorem ggX8_best_X8_pushInTurn : GoodIn wsX8_best wsX8_pushInTurn := goodIn_r _ [46] (by decide +kernel) (by decide +kernel)
set_option maxRecDepth 20000 in
theorem gX8_best_X8_pushInTurn : GoodIn wsX8_best (va_wsS RX8 221 yX8_pushInTurn wsX8_pushInTurn) := goodIn_app (goodIn_of _ (by decide +kernel)) ggX8_best_X8_pushInTurn
set_option maxRecDepth 20000 in
theorem ggX8_best_X0_errorNow : GoodIn wsX8_best wsX0_errorNow := goodIn_r _ [50, 51, 97, 98, 99, 100, 101, 102, 103] (by decide +kernel) (by decide +kernel)
set_option maxRecDepth 20000 in
theorem gX8_best_X0_errorNow : GoodIn wsX8_best (wsV RX8 127 RX0 yX0_errorNow wsX0_errorNow) := goodIn_app (goodIn_of _ (by decide +kernel)) ggX8_best_X0_errorNow
set_option maxRecDepth 20000 in
theorem ggX8_best_X7_leftAtWorst : GoodIn wsX8_best wsX7_leftAtWorst := goodIn_r _ [55, 56, 41, 42, 57, 58, 59, 60, 61, 62, 63, 64, 65, 66, 67, 68, 69, 70, 71, 72, 73, 74, 75, 76, 77, 78, 79, 80, 81, 82, 83, 84, 39, 85, 86, 87, 88, 104, 105, 106] (by decide +kernel) (by decide +kernel)
set_option maxRecDepth 20000 in
theorem gX8_best_X7_leftAtWorst : GoodIn wsX8_best (wsV RX8 218 RX7 yX7_leftAtWorst wsX7_leftAtWorst) := goodIn_app (goodIn_of _ (by decide +kernel)) ggX8_best_X7_leftAtWorst
theorem dX8_best_0 : decode cX8_best 0 = .ok (.aload_n 0, 1) := by decide +kernel
theorem dX8_best_1 : decode cX8_best 1 = .ok (.getfield 10, 3) := by decide +kernel
theorem dX8_best_4 : decode cX8_best 4 = .ok (.iload_n 1, 1) := by decide +kernel
theorem dX8_best_5 : decode cX8_best 5 = .ok (.invokevirtual 142, 3) := by decide +kernel
theorem dX8_best_8 : decode cX8_best 8 = .ok (.ifCond .eq 12, 3) := by decide +kernel
theorem dX8_best_11 : decode cX8_best 11 = .ok (.iload_n 2, 1) := by decide +kernel
theorem dX8_best_12 : decode cX8_best 12 = .ok (.bipush 99, 2) := by decide +kernel
theorem dX8_best_14 : decode cX8_best 14 = .ok (.invokestatic 61, 3) := by decide +kernel
theorem dX8_best_17 : decode cX8_best 17 = .ok (.ifCond .ne 6, 3) := by decide +kernel
theorem dX8_best_20 : decode cX8_best 20 = .ok (.ldc 107, 2) := by decide +kernel
theorem dX8_best_22 : decode cX8_best 22 = .ok (.ireturn, 1) := by decide +kernel
theorem dX8_best_23 : decode cX8_best 23 = .ok (.aload_n 0, 1) := by decide +kernel
theorem dX8_best_24 : decode cX8_best 24 = .ok (.getfield 10, 3) := by decide +kernel
theorem dX8_best_27 : decode cX8_best 27 = .ok (.iload_n 1, 1) := by decide +kernel
theorem dX8_best_28 : decode cX8_best 28 = .ok (.invokevirtual 182, 3) := by decide +kernel
theorem dX8_best_31 : decode cX8_best 31 = .ok (.ifCond .ne 6, 3) := by decide +kernel
theorem dX8_best_34 : decode cX8_best 34 = .ok (.ldc 117, 2) := by decide +kernel
theorem dX8_best_36 : decode cX8_best 36 = .ok (.ireturn, 1) := by decide +kernel
theorem dX8_best_37 : decode cX8_best 37 = .ok (.aload_n 0, 1) := by decide +kernel
theorem dX8_best_38 : decode cX8_best 38 = .ok (.getfield 33, 3) := by decide +kernel
theorem dX8_best_41 : decode cX8_best 41 = .ok (.aload_n 0, 1) := by decide +kernel
theorem dX8_best_42 : decode cX8_best 42 = .ok (.getfield 10, 3) := by decide +kernel
theorem dX8_best_45 : decode cX8_best 45 = .ok (.iload_n 1, 1) := by decide +kernel
theorem dX8_best_46 : decode cX8_best 46 = .ok (.invokevirtual 214, 3) := by decide +kernel
theorem dX8_best_49 : decode cX8_best 49 = .ok (.iconst 0, 1) := by decide +kernel
theorem dX8_best_50 : decode cX8_best 50 = .ok (.istore_n 3, 1) := by decide +kernel
theorem dX8_best_51 : decode cX8_best 51 = .ok (.sipush 290, 3) := by decide +kernel
theorem dX8_best_54 : decode cX8_best 54 = .ok (.istore 4, 2) := by decide +kernel
theorem dX8_best_56 : decode cX8_best 56 = .ok (.iconst 0, 1) := by decide +kernel
theorem dX8_best_57 : decode cX8_best 57 = .ok (.istore 5, 2) := by decide +kernel
theorem dX8_best_59 : decode cX8_best 59 = .ok (.iload 5, 2) := by decide +kernel
theorem dX8_best_61 : decode cX8_best 61 = .ok (.bipush 18, 2) := by decide +kernel
theorem dX8_best_63 : decode cX8_best 63 = .ok (.if_icmp .gt 48, 3) := by decide +kernel
theorem dX8_best_66 : decode cX8_best 66 = .ok (.aload_n 0, 1) := by decide +kernel
theorem dX8_best_67 : decode cX8_best 67 = .ok (.getfield 33, 3) := by decide +kernel
theorem dX8_best_70 : decode cX8_best 70 = .ok (.iload_n 2, 1) := by decide +kernel
theorem dX8_best_71 : decode cX8_best 71 = .ok (.iload 5, 2) := by decide +kernel
theorem dX8_best_73 : decode cX8_best 73 = .ok (.invokestatic 221, 3) := by decide +kernel
theorem dX8_best_76 : decode cX8_best 76 = .ok (.aload_n 0, 1) := by decide +kernel
theorem dX8_best_77 : decode cX8_best 77 = .ok (.getfield 10, 3) := by decide +kernel
theorem dX8_best_80 : decode cX8_best 80 = .ok (.invokevirtual 127, 3) := by decide +kernel
theorem dX8_best_83 : decode cX8_best 83 = .ok (.invokevirtual 218, 3) := by decide +kernel
theorem dX8_best_86 : decode cX8_best 86 = .ok (.istore 6, 2) := by decide +kernel
theorem dX8_best_88 : decode cX8_best 88 = .ok (.iload 6, 2) := by decide +kernel
theorem dX8_best_90 : decode cX8_best 90 = .ok (.iload 4, 2) := by decide +kernel
theorem dX8_best_92 : decode cX8_best 92 = .ok (.if_icmp .ge 13, 3) := by decide +kernel
theorem dX8_best_95 : decode cX8_best 95 = .ok (.iload 6, 2) := by decide +kernel
theorem dX8_best_97 : decode cX8_best 97 = .ok (.istore 4, 2) := by decide +kernel
theorem dX8_best_99 : decode cX8_best 99 = .ok (.iload 5, 2) := by decide +kernel
theorem dX8_best_101 : decode cX8_best 101 = .ok (.invokestatic 221, 3) := by decide +kernel
theorem dX8_best_104 : decode cX8_best 104 = .ok (.istore_n 3, 1) := by decide +kernel
theorem dX8_best_105 : decode cX8_best 105 = .ok (.iinc 5 1, 3) := by decide +kernel
theorem dX8_best_108 : decode cX8_best 108 = .ok (.goto (-49), 3) := by decide +kernel
theorem dX8_best_111 : decode cX8_best 111 = .ok (.iload_n 3, 1) := by decide +kernel
theorem dX8_best_112 : decode cX8_best 112 = .ok (.ireturn, 1) := by decide +kernel
set_option maxRecDepth 20000 in
theorem ggX8_apart_X3_is : GoodIn wsX8_apart wsX3_is := goodIn_r _ [14] (by decide +kernel) (by decide +kernel)
