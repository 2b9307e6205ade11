theorem dX9_count_93 : decode cX9_count 93 = .ok (.ireturn, 1) := by decide +kernel
theorem dX9_count_94 : decode cX9_count 94 = .ok (.iconst (-1), 1) := by decide +kernel
theorem dX9_count_95 : decode cX9_count 95 = .ok (.ireturn, 1) := by decide +kernel
set_option maxRecDepth 20000 in
theorem ggX9_tables_X9_doesMeet : GoodIn wsX9_tables wsX9_doesMeet := goodIn_r _ [8, 9, 10, 11, 12, 13, 14, 15, 7, 16, 17, 18, 19, 20, 21, 22, 23, 24, 25, 26, 27, 28, 29, 30, 31, 32, 33, 34, 35, 36, 37, 38, 39, 40, 41, 42, 43, 44, 45, 46, 47] (by decide +kernel) (by decide +kernel)
set_option maxRecDepth 20000 in
theorem gX9_tables_X9_doesMeet : GoodIn wsX9_tables (wsV RX9 146 RX9 yX9_doesMeet wsX9_doesMeet) := goodIn_app (goodIn_of _ (by decide +kernel)) ggX9_tables_X9_doesMeet
theorem dX9_tables_0 : decode cX9_tables 0 = .ok (.iconst 0, 1) := by decide +kernel
theorem dX9_tables_1 : decode cX9_tables 1 = .ok (.istore_n 1, 1) := by decide +kernel
theorem dX9_tables_2 : decode cX9_tables 2 = .ok (.iload_n 1, 1) := by decide +kernel
theorem dX9_tables_3 : decode cX9_tables 3 = .ok (.sipush 289, 3) := by decide +kernel
theorem dX9_tables_6 : decode cX9_tables 6 = .ok (.if_icmp .ge 57, 3) := by decide +kernel
theorem dX9_tables_9 : decode cX9_tables 9 = .ok (.aload_n 0, 1) := by decide +kernel
theorem dX9_tables_10 : decode cX9_tables 10 = .ok (.getfield 30, 3) := by decide +kernel
theorem dX9_tables_13 : decode cX9_tables 13 = .ok (.iload_n 1, 1) := by decide +kernel
theorem dX9_tables_14 : decode cX9_tables 14 = .ok (.iconst 0, 1) := by decide +kernel
theorem dX9_tables_15 : decode cX9_tables 15 = .ok (.iastore, 1) := by decide +kernel
theorem dX9_tables_16 : decode cX9_tables 16 = .ok (.iconst 0, 1) := by decide +kernel
theorem dX9_tables_17 : decode cX9_tables 17 = .ok (.istore_n 2, 1) := by decide +kernel
theorem dX9_tables_18 : decode cX9_tables 18 = .ok (.iload_n 2, 1) := by decide +kernel
theorem dX9_tables_19 : decode cX9_tables 19 = .ok (.aload_n 0, 1) := by decide +kernel
theorem dX9_tables_20 : decode cX9_tables 20 = .ok (.getfield 62, 3) := by decide +kernel
theorem dX9_tables_23 : decode cX9_tables 23 = .ok (.if_icmp .ge 34, 3) := by decide +kernel
theorem dX9_tables_26 : decode cX9_tables 26 = .ok (.aload_n 0, 1) := by decide +kernel
theorem dX9_tables_27 : decode cX9_tables 27 = .ok (.getfield 30, 3) := by decide +kernel
theorem dX9_tables_30 : decode cX9_tables 30 = .ok (.iload_n 1, 1) := by decide +kernel
theorem dX9_tables_31 : decode cX9_tables 31 = .ok (.dup2, 1) := by decide +kernel
theorem dX9_tables_32 : decode cX9_tables 32 = .ok (.iaload, 1) := by decide +kernel
theorem dX9_tables_33 : decode cX9_tables 33 = .ok (.aload_n 0, 1) := by decide +kernel
theorem dX9_tables_34 : decode cX9_tables 34 = .ok (.iload_n 2, 1) := by decide +kernel
theorem dX9_tables_35 : decode cX9_tables 35 = .ok (.iload_n 1, 1) := by decide +kernel
theorem dX9_tables_36 : decode cX9_tables 36 = .ok (.invokevirtual 146, 3) := by decide +kernel
theorem dX9_tables_39 : decode cX9_tables 39 = .ok (.ifCond .eq 9, 3) := by decide +kernel
theorem dX9_tables_42 : decode cX9_tables 42 = .ok (.iconst 1, 1) := by decide +kernel
theorem dX9_tables_43 : decode cX9_tables 43 = .ok (.iload_n 2, 1) := by decide +kernel
theorem dX9_tables_44 : decode cX9_tables 44 = .ok (.ishl, 1) := by decide +kernel
theorem dX9_tables_45 : decode cX9_tables 45 = .ok (.goto 4, 3) := by decide +kernel
theorem dX9_tables_48 : decode cX9_tables 48 = .ok (.iconst 0, 1) := by decide +kernel
theorem dX9_tables_49 : decode cX9_tables 49 = .ok (.ior, 1) := by decide +kernel
theorem dX9_tables_50 : decode cX9_tables 50 = .ok (.iastore, 1) := by decide +kernel
theorem dX9_tables_51 : decode cX9_tables 51 = .ok (.iinc 2 1, 3) := by decide +kernel
theorem dX9_tables_54 : decode cX9_tables 54 = .ok (.goto (-36), 3) := by decide +kernel
theorem dX9_tables_57 : decode cX9_tables 57 = .ok (.iinc 1 1, 3) := by decide +kernel
theorem dX9_tables_60 : decode cX9_tables 60 = .ok (.goto (-58), 3) := by decide +kernel
theorem dX9_tables_63 : decode cX9_tables 63 = .ok (.aload_n 0, 1) := by decide +kernel
theorem dX9_tables_64 : decode cX9_tables 64 = .ok (.getfield 33, 3) := by decide +kernel
theorem dX9_tables_67 : decode cX9_tables 67 = .ok (.iconst 0, 1) := by decide +kernel
theorem dX9_tables_68 : decode cX9_tables 68 = .ok (.iconst 0, 1) := by decide +kernel
theorem dX9_tables_69 : decode cX9_tables 69 = .ok (.iastore, 1) := by decide +kernel
theorem dX9_tables_70 : decode cX9_tables 70 = .ok (.iconst 1, 1) := by decide +kernel
theorem dX9_tables_71 : decode cX9_tables 71 = .ok (.istore_n 1, 1) := by decide +kernel
theorem dX9_tables_72 : decode cX9_tables 72 = .ok (.iload_n 1, 1) := by decide +kernel
theorem dX9_tables_73 : decode cX9_tables 73 = .ok (.iconst 1, 1) := by decide +kernel
theorem dX9_tables_74 : decode cX9_tables 74 = .ok (.aload_n 0, 1) := by decide +kernel
theorem dX9_tables_75 : decode cX9_tables 75 = .ok (.getfield 62, 3) := by decide +kernel
theorem dX9_tables_78 : decode cX9_tables 78 = .ok (.ishl, 1) := by decide +kernel
theorem dX9_tables_79 : decode cX9_tables 79 = .ok (.if_icmp .ge 86, 3) := by decide +kernel
theorem dX9_tables_82 : decode cX9_tables 82 = .ok (.iload_n 1, 1) := by decide +kernel
theorem dX9_tables_83 : decode cX9_tables 83 = .ok (.iload_n 1, 1) := by decide +kernel
theorem dX9_tables_84 : decode cX9_tables 84 = .ok (.ineg, 1) := by decide +kernel
theorem dX9_tables_85 : decode cX9_tables 85 = .ok (.iand, 1) := by decide +kernel
theorem dX9_tables_86 : decode cX9_tables 86 = .ok (.istore_n 2, 1) := by decide +kernel
theorem dX9_tables_87 : decode cX9_tables 87 = .ok (.bipush 100, 2) := by decide +kernel
theorem dX9_tables_89 : decode cX9_tables 89 = .ok (.istore_n 3, 1) := by decide +kernel
theorem dX9_tables_90 : decode cX9_tables 90 = .ok (.iconst 0, 1) := by decide +kernel
theorem dX9_tables_91 : decode cX9_tables 91 = .ok (.istore 4, 2) := by decide +kernel
theorem dX9_tables_93 : decode cX9_tables 93 = .ok (.iload 4, 2) := by decide +kernel
theorem dX9_tables_95 : decode cX9_tables 95 = .ok (.sipush 289, 3) := by decide +kernel
theorem dX9_tables_98 : decode cX9_tables 98 = .ok (.if_icmp .ge 54, 3) := by decide +kernel
theorem dX9_tables_101 : decode cX9_tables 101 = .ok (.aload_n 0, 1) := by decide +kernel
theorem dX9_tables_102 : decode cX9_tables 102 = .ok (.getfield 30, 3) := by decide +kernel
theorem dX9_tables_105 : decode cX9_tables 105 = .ok (.iload 4, 2) := by decide +kernel
theorem dX9_tables_107 : decode cX9_tables 107 = .ok (.iaload, 1) := by decide +kernel
theorem dX9_tables_108 : decode cX9_tables 108 = .ok (.iload_n 2, 1) := by decide +kernel
theorem dX9_tables_109 : decode cX9_tables 109 = .ok (.iand, 1) := by decide +kernel
theorem dX9_tables_110 : decode cX9_tables 110 = .ok (.ifCond .eq 36, 3) := by decide +kernel
theorem dX9_tables_113 : decode cX9_tables 113 = .ok (.aload_n 0, 1) := by decide +kernel
theorem dX9_tables_114 : decode cX9_tables 114 = .ok (.getfield 33, 3) := by decide +kernel
theorem dX9_tables_117 : decode cX9_tables 117 = .ok (.iload_n 1, 1) := by decide +kernel
theorem dX9_tables_118 : decode cX9_tables 118 = .ok (.aload_n 0, 1) := by decide +kernel
theorem dX9_tables_119 : decode cX9_tables 119 = .ok (.getfield 30, 3) := by decide +kernel
theorem dX9_tables_122 : decode cX9_tables 122 = .ok (.iload 4, 2) := by decide +kernel
theorem dX9_tables_124 : decode cX9_tables 124 = .ok (.iaload, 1) := by decide +kernel
theorem dX9_tables_125 : decode cX9_tables 125 = .ok (.iconst (-1), 1) := by decide +kernel
theorem dX9_tables_126 : decode cX9_tables 126 = .ok (.ixor, 1) := by decide +kernel
theorem dX9_tables_127 : decode cX9_tables 127 = .ok (.iand, 1) := by decide +kernel
theorem dX9_tables_128 : decode cX9_tables 128 = .ok (.iaload, 1) := by decide +kernel
theorem dX9_tables_129 : decode cX9_tables 129 = .ok (.iconst 1, 1) := by decide +kernel
theorem dX9_tables_130 : decode cX9_tables 130 = .ok (.iadd, 1) := by decide +kernel
theorem dX9_tables_131 : decode cX9_tables 131 = .ok (.istore 5, 2) := by decide +kernel
theorem dX9_tables_133 : decode cX9_tables 133 = .ok (.iload 5, 2) := by decide +kernel
theorem dX9_tables_135 : decode cX9_tables 135 = .ok (.iload_n 3, 1) := by decide +kernel
theorem dX9_tables_136 : decode cX9_tables 136 = .ok (.if_icmp .ge 8, 3) := by decide +kernel
theorem dX9_tables_139 : decode cX9_tables 139 = .ok (.iload 5, 2) := by decide +kernel
theorem dX9_tables_141 : decode cX9_tables 141 = .ok (.goto 4, 3) := by decide +kernel
theorem dX9_tables_144 : decode cX9_tables 144 = .ok (.iload_n 3, 1) := by decide +kernel
theorem dX9_tables_145 : decode cX9_tables 145 = .ok (.istore_n 3, 1) := by decide +kernel
theorem dX9_tables_146 : decode cX9_tables 146 = .ok (.iinc 4 1, 3) := by decide +kernel
theorem dX9_tables_149 : decode cX9_tables 149 = .ok (.goto (-56), 3) := by decide +kernel
theorem dX9_tables_152 : decode cX9_tables 152 = .ok (.aload_n 0, 1) := by decide +kernel
theorem dX9_tables_153 : decode cX9_tables 153 = .ok (.getfield 33, 3) := by decide +kernel
theorem dX9_tables_156 : decode cX9_tables 156 = .ok (.iload_n 1, 1) := by decide +kernel
theorem dX9_tables_157 : decode cX9_tables 157 = .ok (.iload_n 3, 1) := by decide +kernel
theorem dX9_tables_158 : decode cX9_tables 158 = .ok (.iastore, 1) := by decide +kernel
theorem dX9_tables_159 : decode cX9_tables 159 = .ok (.iinc 1 1, 3) := by decide +kernel
theorem dX9_tables_162 : decode cX9_tables 162 = .ok (.goto (-90), 3) := by decide +kernel
theorem dX9_tables_165 : decode cX9_tables 165 = .ok (.return_, 1) := by decide +kernel
theorem dX9_size_0 : decode cX9_size 0 = .ok (.iconst 0, 1) := by decide +kernel
theorem dX9_size_1 : decode cX9_size 1 = .ok (.istore_n 1, 1) := by decide +kernel
theorem dX9_size_2 : decode cX9_size 2 = .ok (.iload_n 0, 1) := by decide +kernel
theorem dX9_size_3 : decode cX9_size 3 = .ok (.istore_n 2, 1) := by decide +kernel
theorem dX9_size_4 : decode cX9_size 4 = .ok (.iload_n 2, 1) := by decide +kernel
theorem dX9_size_5 : decode cX9_size 5 = .ok (.ifCond .eq 15, 3) := by decide +kernel
theorem dX9_size_8 : decode cX9_size 8 = .ok (.iinc 1 1, 3) := by decide +kernel
theorem dX9_size_11 : decode cX9_size 11 = .ok (.iload_n 2, 1) := by decide +kernel
theorem dX9_size_12 : decode cX9_size 12 = .ok (.iload_n 2, 1) := by decide +kernel
theorem dX9_size_13 : decode cX9_size 13 = .ok (.iconst 1, 1) := by decide +kernel
theorem dX9_size_14 : decode cX9_size 14 = .ok (.isub, 1) := by decide +kernel
theorem dX9_size_15 : decode cX9_size 15 = .ok (.iand, 1) := by decide +kernel
theorem dX9_size_16 : decode cX9_size 16 = .ok (.istore_n 2, 1) := by decide +kernel
theorem dX9_size_17 : decode cX9_size 17 = .ok (.goto (-13), 3) := by decide +kernel
theorem dX9_size_20 : decode cX9_size 20 = .ok (.iload_n 1, 1) := by decide +kernel
theorem dX9_size_21 : decode cX9_size 21 = .ok (.ireturn, 1) := by decide +kernel
set_option maxRecDepth 20000 in
theorem ggX9_fewest_X9_tables : GoodIn wsX9_fewest wsX9_tables := goodIn_r _ [7, 8, 2, 1, 9, 10, 11, 6, 12, 13, 14, 15, 16, 17, 18, 19, 20, 21, 22, 23, 24, 25, 26, 27, 28, 29, 30, 31, 32, 33, 34, 35, 36, 37, 38, 39, 40, 41, 42, 43, 44, 45, 46, 47, 48, 49, 50, 51] (by decide +kernel) (by decide +kernel)
set_option maxRecDepth 20000 in
theorem gX9_fewest_X9_tables : GoodIn wsX9_fewest (wsV RX9 165 RX9 yX9_tables wsX9_tables) := goodIn_app (goodIn_of _ (by decide +kernel)) ggX9_fewest_X9_tables
theorem dX9_fewest_0 : decode cX9_fewest 0 = .ok (.aload_n 0, 1) := by decide +kernel
theorem dX9_fewest_1 : decode cX9_fewest 1 = .ok (.invokevirtual 165, 3) := by decide +kernel
theorem dX9_fewest_4 : decode cX9_fewest 4 = .ok (.aload_n 0, 1) := by decide +kernel
theorem dX9_fewest_5 : decode cX9_fewest 5 = .ok (.getfield 33, 3) := by decide +kernel
theorem dX9_fewest_8 : decode cX9_fewest 8 = .ok (.iconst 1, 1) := by decide +kernel
theorem dX9_fewest_9 : decode cX9_fewest 9 = .ok (.aload_n 0, 1) := by decide +kernel
theorem dX9_fewest_10 : decode cX9_fewest 10 = .ok (.getfield 62, 3) := by decide +kernel
theorem dX9_fewest_13 : decode cX9_fewest 13 = .ok (.ishl, 1) := by decide +kernel
theorem dX9_fewest_14 : decode cX9_fewest 14 = .ok (.iconst 1, 1) := by decide +kernel
theorem dX9_fewest_15 : decode cX9_fewest 15 = .ok (.isub, 1) := by decide +kernel
theorem dX9_fewest_16 : decode cX9_fewest 16 = .ok (.iaload, 1) := by decide +kernel
theorem dX9_fewest_17 : decode cX9_fewest 17 = .ok (.istore_n 1, 1) := by decide +kernel
theorem dX9_fewest_18 : decode cX9_fewest 18 = .ok (.iload_n 1, 1) := by decide +kernel
theorem dX9_fewest_19 : decode cX9_fewest 19 = .ok (.bipush 100, 2) := by decide +kernel
theorem dX9_fewest_21 : decode cX9_fewest 21 = .ok (.if_icmp .lt 8, 3) := by decide +kernel
theorem dX9_fewest_24 : decode cX9_fewest 24 = .ok (.bipush (-4), 2) := by decide +kernel
theorem dX9_fewest_26 : decode cX9_fewest 26 = .ok (.goto 4, 3) := by decide +kernel
theorem dX9_fewest_29 : decode cX9_fewest 29 = .ok (.iload_n 1, 1) := by decide +kernel
theorem dX9_fewest_30 : decode cX9_fewest 30 = .ok (.ireturn, 1) := by decide +kernel
set_option maxRecDepth 20000 in
theorem ggX9_letGo_X9_in : GoodIn wsX9_letGo wsX9_in := goodIn_r _ [7] (by decide +kernel) (by decide +kernel)
set_option maxRecDepth 20000 in
theorem gX9_letGo_X9_in : GoodIn wsX9_letGo (va_wsS RX9 58 yX9_in wsX9_in) := goodIn_app (goodIn_of _ (by decide +kernel)) ggX9_letGo_X9_in
set_option maxRecDepth 20000 in
theorem ggX9_letGo_X9_tables : GoodIn wsX9_letGo wsX9_tables := goodIn_r _ [11, 12, 2, 3, 13, 14, 15, 6, 16, 17, 18, 19, 20, 21, 22, 23, 24, 25, 26, 27, 28, 4, 5, 7, 32, 33, 34, 35, 36, 37, 38, 39, 40, 41, 42, 43, 44, 45, 46, 47, 48, 49, 50, 51, 52, 53, 54, 55] (by decide +kernel) (by decide +kernel)
set_option maxRecDepth 20000 in
theorem gX9_letGo_X9_tables : GoodIn wsX9_letGo (wsV RX9 165 RX9 yX9_tables wsX9_tables) := goodIn_app (goodIn_of _ (by decide +kernel)) ggX9_letGo_X9_tables
set_option maxRecDepth 20000 in
theorem ggX9_letGo_X9_size : GoodIn wsX9_letGo wsX9_size := goodIn_r _ [31] (by decide +kernel) (by decide +kernel)
set_option maxRecDepth 20000 in
theorem gX9_letGo_X9_size : GoodIn wsX9_letGo (va_wsS RX9 170 yX9_size wsX9_size) := goodIn_app (goodIn_of _ (by decide +kernel)) ggX9_letGo_X9_size
theorem dX9_letGo_0 : decode cX9_letGo 0 = .ok (.iload_n 1, 1) := by decide +kernel
theorem dX9_letGo_1 : decode cX9_letGo 1 = .ok (.i2l, 1) := by decide +kernel
theorem dX9_letGo_2 : decode cX9_letGo 2 = .ok (.lconst 0, 1) := by decide +kernel
theorem dX9_letGo_3 : decode cX9_letGo 3 = .ok (.ldc2_w 168, 3) := by decide +kernel
theorem dX9_letGo_6 : decode cX9_letGo 6 = .ok (.invokestatic 58, 3) := by decide +kernel
theorem dX9_letGo_9 : decode cX9_letGo 9 = .ok (.ifCond .eq 13, 3) := by decide +kernel
theorem dX9_letGo_12 : decode cX9_letGo 12 = .ok (.iload_n 2, 1) := by decide +kernel
theorem dX9_letGo_13 : decode cX9_letGo 13 = .ok (.i2l, 1) := by decide +kernel
theorem dX9_letGo_14 : decode cX9_letGo 14 = .ok (.lconst 0, 1) := by decide +kernel
theorem dX9_letGo_15 : decode cX9_letGo 15 = .ok (.lconst 1, 1) := by decide +kernel
theorem dX9_letGo_16 : decode cX9_letGo 16 = .ok (.invokestatic 58, 3) := by decide +kernel
theorem dX9_letGo_19 : decode cX9_letGo 19 = .ok (.ifCond .ne 5, 3) := by decide +kernel
theorem dX9_letGo_22 : decode cX9_letGo 22 = .ok (.iconst (-1), 1) := by decide +kernel
theorem dX9_letGo_23 : decode cX9_letGo 23 = .ok (.ireturn, 1) := by decide +kernel
theorem dX9_letGo_24 : decode cX9_letGo 24 = .ok (.aload_n 0, 1) := by decide +kernel
theorem dX9_letGo_25 : decode cX9_letGo 25 = .ok (.invokevirtual 165, 3) := by decide +kernel
theorem dX9_letGo_28 : decode cX9_letGo 28 = .ok (.iconst 1, 1) := by decide +kernel
theorem dX9_letGo_29 : decode cX9_letGo 29 = .ok (.aload_n 0, 1) := by decide +kernel
theorem dX9_letGo_30 : decode cX9_letGo 30 = .ok (.getfield 62, 3) := by decide +kernel
theorem dX9_letGo_33 : decode cX9_letGo 33 = .ok (.ishl, 1) := by decide +kernel
theorem dX9_letGo_34 : decode cX9_letGo 34 = .ok (.iconst 1, 1) := by decide +kernel
theorem dX9_letGo_35 : decode cX9_letGo 35 = .ok (.isub, 1) := by decide +kernel
theorem dX9_letGo_36 : decode cX9_letGo 36 = .ok (.istore_n 3, 1) := by decide +kernel
theorem dX9_letGo_37 : decode cX9_letGo 37 = .ok (.iload_n 3, 1) := by decide +kernel
theorem dX9_letGo_38 : decode cX9_letGo 38 = .ok (.istore 4, 2) := by decide +kernel
theorem dX9_letGo_40 : decode cX9_letGo 40 = .ok (.iconst 0, 1) := by decide +kernel
theorem dX9_letGo_41 : decode cX9_letGo 41 = .ok (.istore 5, 2) := by decide +kernel
theorem dX9_letGo_43 : decode cX9_letGo 43 = .ok (.iload 5, 2) := by decide +kernel
theorem dX9_letGo_45 : decode cX9_letGo 45 = .ok (.iload_n 3, 1) := by decide +kernel
theorem dX9_letGo_46 : decode cX9_letGo 46 = .ok (.if_icmp .gt 78, 3) := by decide +kernel
theorem dX9_letGo_49 : decode cX9_letGo 49 = .ok (.iload 5, 2) := by decide +kernel
theorem dX9_letGo_51 : decode cX9_letGo 51 = .ok (.invokestatic 170, 3) := by decide +kernel
theorem dX9_letGo_54 : decode cX9_letGo 54 = .ok (.iload 4, 2) := by decide +kernel
theorem dX9_letGo_56 : decode cX9_letGo 56 = .ok (.invokestatic 170, 3) := by decide +kernel
theorem dX9_letGo_59 : decode cX9_letGo 59 = .ok (.if_icmp .lt 23, 3) := by decide +kernel
theorem dX9_letGo_62 : decode cX9_letGo 62 = .ok (.iload 5, 2) := by decide +kernel
theorem dX9_letGo_64 : decode cX9_letGo 64 = .ok (.invokestatic 170, 3) := by decide +kernel
theorem dX9_letGo_67 : decode cX9_letGo 67 = .ok (.iload 4, 2) := by decide +kernel
theorem dX9_letGo_69 : decode cX9_letGo 69 = .ok (.invokestatic 170, 3) := by decide +kernel
theorem dX9_letGo_72 : decode cX9_letGo 72 = .ok (.if_icmp .ne 14, 3) := by decide +kernel
theorem dX9_letGo_75 : decode cX9_letGo 75 = .ok (.iload 5, 2) := by decide +kernel
theorem dX9_letGo_77 : decode cX9_letGo 77 = .ok (.iload 4, 2) := by decide +kernel
theorem dX9_letGo_79 : decode cX9_letGo 79 = .ok (.if_icmp .ge 7, 3) := by decide +kernel
theorem dX9_letGo_82 : decode cX9_letGo 82 = .ok (.iconst 1, 1) := by decide +kernel
theorem dX9_letGo_83 : decode cX9_letGo 83 = .ok (.goto 4, 3) := by decide +kernel
theorem dX9_letGo_86 : decode cX9_letGo 86 = .ok (.iconst 0, 1) := by decide +kernel
theorem dX9_letGo_87 : decode cX9_letGo 87 = .ok (.istore 6, 2) := by decide +kernel
theorem dX9_letGo_89 : decode cX9_letGo 89 = .ok (.iload 6, 2) := by decide +kernel
theorem dX9_letGo_91 : decode cX9_letGo 91 = .ok (.ifCond .eq 23, 3) := by decide +kernel
theorem dX9_letGo_94 : decode cX9_letGo 94 = .ok (.aload_n 0, 1) := by decide +kernel
theorem dX9_letGo_95 : decode cX9_letGo 95 = .ok (.getfield 33, 3) := by decide +kernel
theorem dX9_letGo_98 : decode cX9_letGo 98 = .ok (.iload_n 3, 1) := by decide +kernel
theorem dX9_letGo_99 : decode cX9_letGo 99 = .ok (.iload 5, 2) := by decide +kernel
theorem dX9_letGo_101 : decode cX9_letGo 101 = .ok (.iconst (-1), 1) := by decide +kernel
theorem dX9_letGo_102 : decode cX9_letGo 102 = .ok (.ixor, 1) := by decide +kernel
theorem dX9_letGo_103 : decode cX9_letGo 103 = .ok (.iand, 1) := by decide +kernel
theorem dX9_letGo_104 : decode cX9_letGo 104 = .ok (.iaload, 1) := by decide +kernel
theorem dX9_letGo_105 : decode cX9_letGo 105 = .ok (.iload_n 1, 1) := by decide +kernel
theorem dX9_letGo_106 : decode cX9_letGo 106 = .ok (.if_icmp .gt 8, 3) := by decide +kernel
theorem dX9_letGo_109 : decode cX9_letGo 109 = .ok (.iload 5, 2) := by decide +kernel
theorem dX9_letGo_111 : decode cX9_letGo 111 = .ok (.goto 5, 3) := by decide +kernel
theorem dX9_letGo_114 : decode cX9_letGo 114 = .ok (.iload 4, 2) := by decide +kernel
theorem dX9_letGo_116 : decode cX9_letGo 116 = .ok (.istore 4, 2) := by decide +kernel
theorem dX9_letGo_118 : decode cX9_letGo 118 = .ok (.iinc 5 1, 3) := by decide +kernel
theorem dX9_letGo_121 : decode cX9_letGo 121 = .ok (.goto (-78), 3) := by decide +kernel
theorem dX9_letGo_124 : decode cX9_letGo 124 = .ok (.iload_n 2, 1) := by decide +kernel
theorem dX9_letGo_125 : decode cX9_letGo 125 = .ok (.ifCond .ne 11, 3) := by decide +kernel
theorem dX9_letGo_128 : decode cX9_letGo 128 = .ok (.iload 4, 2) := by decide +kernel
theorem dX9_letGo_130 : decode cX9_letGo 130 = .ok (.invokestatic 170, 3) := by decide +kernel
theorem dX9_letGo_133 : decode cX9_letGo 133 = .ok (.goto 5, 3) := by decide +kernel
theorem dX9_letGo_136 : decode cX9_letGo 136 = .ok (.iload 4, 2) := by decide +kernel
theorem dX9_letGo_138 : decode cX9_letGo 138 = .ok (.ireturn, 1) := by decide +kernel
set_option maxRecDepth 20000 in
theorem ggX9_together_X9_isRow : GoodIn wsX9_together wsX9_isRow := goodIn_r _ [8, 1, 9, 10, 7, 11, 32, 33, 34, 35, 36, 37, 38, 39, 40, 41, 42, 43, 44, 45, 46, 47, 48, 49, 50, 51, 52, 53, 54, 55] (by decide +kernel) (by decide +kernel)
set_option maxRecDepth 20000 in
theorem gX9_together_X9_isRow : GoodIn wsX9_together (wsV RX9 124 RX9 yX9_isRow wsX9_isRow) := goodIn_app (goodIn_of _ (by decide +kernel)) ggX9_together_X9_isRow
set_option maxRecDepth 20000 in
theorem ggX9_together_X9_tables : GoodIn wsX9_together wsX9_tables := goodIn_r _ [15, 3, 1, 2, 16, 17, 18, 7, 19, 20, 21, 22, 23, 24, 25, 26, 27, 28, 29, 30, 31, 9, 10, 11, 32, 33, 34, 35, 36, 37, 38, 39, 40, 41, 42, 43, 44, 45, 46, 47, 48, 49, 50, 51, 52, 53, 54, 55] (by decide +kernel) (by decide +kernel)
set_option maxRecDepth 20000 in
theorem gX9_together_X9_tables : GoodIn wsX9_together (wsV RX9 165 RX9 yX9_tables wsX9_tables) := goodIn_app (goodIn_of _ (by decide +kernel)) ggX9_together_X9_tables
theorem dX9_together_0 : decode cX9_together 0 = .ok (.aload_n 0, 1) := by decide +kernel
theorem dX9_together_1 : decode cX9_together 1 = .ok (.iload_n 1, 1) := by decide +kernel
theorem dX9_together_2 : decode cX9_together 2 = .ok (.invokevirtual 124, 3) := by decide +kernel
theorem dX9_together_5 : decode cX9_together 5 = .ok (.ifCond .eq 16, 3) := by decide +kernel
theorem dX9_together_8 : decode cX9_together 8 = .ok (.aload_n 0, 1) := by decide +kernel
theorem dX9_together_9 : decode cX9_together 9 = .ok (.iload_n 2, 1) := by decide +kernel
theorem dX9_together_10 : decode cX9_together 10 = .ok (.invokevirtual 124, 3) := by decide +kernel
theorem dX9_together_13 : decode cX9_together 13 = .ok (.ifCond .eq 8, 3) := by decide +kernel
theorem dX9_together_16 : decode cX9_together 16 = .ok (.iload_n 1, 1) := by decide +kernel
theorem dX9_together_17 : decode cX9_together 17 = .ok (.iload_n 2, 1) := by decide +kernel
theorem dX9_together_18 : decode cX9_together 18 = .ok (.if_icmp .ne 5, 3) := by decide +kernel
theorem dX9_together_21 : decode cX9_together 21 = .ok (.iconst (-1), 1) := by decide +kernel
theorem dX9_together_22 : decode cX9_together 22 = .ok (.ireturn, 1) := by decide +kernel
theorem dX9_together_23 : decode cX9_together 23 = .ok (.aload_n 0, 1) := by decide +kernel
theorem dX9_together_24 : decode cX9_together 24 = .ok (.invokevirtual 165, 3) := by decide +kernel
theorem dX9_together_27 : decode cX9_together 27 = .ok (.iconst 1, 1) := by decide +kernel
theorem dX9_together_28 : decode cX9_together 28 = .ok (.aload_n 0, 1) := by decide +kernel
theorem dX9_together_29 : decode cX9_together 29 = .ok (.getfield 62, 3) := by decide +kernel
theorem dX9_together_32 : decode cX9_together 32 = .ok (.ishl, 1) := by decide +kernel
theorem dX9_together_33 : decode cX9_together 33 = .ok (.iconst 1, 1) := by decide +kernel
theorem dX9_together_34 : decode cX9_together 34 = .ok (.isub, 1) := by decide +kernel
theorem dX9_together_35 : decode cX9_together 35 = .ok (.istore_n 3, 1) := by decide +kernel
theorem dX9_together_36 : decode cX9_together 36 = .ok (.aload_n 0, 1) := by decide +kernel
theorem dX9_together_37 : decode cX9_together 37 = .ok (.getfield 33, 3) := by decide +kernel
theorem dX9_together_40 : decode cX9_together 40 = .ok (.iload_n 3, 1) := by decide +kernel
theorem dX9_together_41 : decode cX9_together 41 = .ok (.iaload, 1) := by decide +kernel
theorem dX9_together_42 : decode cX9_together 42 = .ok (.istore 4, 2) := by decide +kernel
theorem dX9_together_44 : decode cX9_together 44 = .ok (.iload 4, 2) := by decide +kernel
theorem dX9_together_46 : decode cX9_together 46 = .ok (.bipush 100, 2) := by decide +kernel
theorem dX9_together_48 : decode cX9_together 48 = .ok (.if_icmp .lt 6, 3) := by decide +kernel
theorem dX9_together_51 : decode cX9_together 51 = .ok (.bipush (-4), 2) := by decide +kernel
theorem dX9_together_53 : decode cX9_together 53 = .ok (.ireturn, 1) := by decide +kernel
theorem dX9_together_54 : decode cX9_together 54 = .ok (.iconst 0, 1) := by decide +kernel
theorem dX9_together_55 : decode cX9_together 55 = .ok (.istore 5, 2) := by decide +kernel
theorem dX9_together_57 : decode cX9_together 57 = .ok (.iconst 0, 1) := by decide +kernel
theorem dX9_together_58 : decode cX9_together 58 = .ok (.istore 6, 2) := by decide +kernel
theorem dX9_together_60 : decode cX9_together 60 = .ok (.iconst 0, 1) := by decide +kernel
theorem dX9_together_61 : decode cX9_together 61 = .ok (.istore 7, 2) := by decide +kernel
theorem dX9_together_63 : decode cX9_together 63 = .ok (.iload 7, 2) := by decide +kernel
theorem dX9_together_65 : decode cX9_together 65 = .ok (.sipush 289, 3) := by decide +kernel
theorem dX9_together_68 : decode cX9_together 68 = .ok (.if_icmp .ge 115, 3) := by decide +kernel
theorem dX9_together_71 : decode cX9_together 71 = .ok (.aload_n 0, 1) := by decide +kernel
theorem dX9_together_72 : decode cX9_together 72 = .ok (.getfield 30, 3) := by decide +kernel
theorem dX9_together_75 : decode cX9_together 75 = .ok (.iload 7, 2) := by decide +kernel
theorem dX9_together_77 : decode cX9_together 77 = .ok (.iaload, 1) := by decide +kernel
theorem dX9_together_78 : decode cX9_together 78 = .ok (.iload_n 1, 1) := by decide +kernel
theorem dX9_together_79 : decode cX9_together 79 = .ok (.ishr, 1) := by decide +kernel
theorem dX9_together_80 : decode cX9_together 80 = .ok (.iconst 1, 1) := by decide +kernel
theorem dX9_together_81 : decode cX9_together 81 = .ok (.iand, 1) := by decide +kernel
theorem dX9_together_82 : decode cX9_together 82 = .ok (.iconst 1, 1) := by decide +kernel
theorem dX9_together_83 : decode cX9_together 83 = .ok (.if_icmp .ne 94, 3) := by decide +kernel
theorem dX9_together_86 : decode cX9_together 86 = .ok (.iload 5, 2) := by decide +kernel
theorem dX9_together_88 : decode cX9_together 88 = .ok (.ifCond .ne 41, 3) := by decide +kernel
theorem dX9_together_91 : decode cX9_together 91 = .ok (.aload_n 0, 1) := by decide +kernel
theorem dX9_together_92 : decode cX9_together 92 = .ok (.getfield 30, 3) := by decide +kernel
theorem dX9_together_95 : decode cX9_together 95 = .ok (.iload 7, 2) := by decide +kernel
theorem dX9_together_97 : decode cX9_together 97 = .ok (.iaload, 1) := by decide +kernel
theorem dX9_together_98 : decode cX9_together 98 = .ok (.iload_n 2, 1) := by decide +kernel
theorem dX9_together_99 : decode cX9_together 99 = .ok (.ishr, 1) := by decide +kernel
theorem dX9_together_100 : decode cX9_together 100 = .ok (.iconst 1, 1) := by decide +kernel
theorem dX9_together_101 : decode cX9_together 101 = .ok (.iand, 1) := by decide +kernel
theorem dX9_together_102 : decode cX9_together 102 = .ok (.iconst 1, 1) := by decide +kernel
theorem dX9_together_103 : decode cX9_together 103 = .ok (.if_icmp .ne 30, 3) := by decide +kernel
theorem dX9_together_106 : decode cX9_together 106 = .ok (.aload_n 0, 1) := by decide +kernel
theorem dX9_together_107 : decode cX9_together 107 = .ok (.getfield 33, 3) := by decide +kernel
theorem dX9_together_110 : decode cX9_together 110 = .ok (.iload_n 3, 1) := by decide +kernel
theorem dX9_together_111 : decode cX9_together 111 = .ok (.aload_n 0, 1) := by decide +kernel
theorem dX9_together_112 : decode cX9_together 112 = .ok (.getfield 30, 3) := by decide +kernel
theorem dX9_together_115 : decode cX9_together 115 = .ok (.iload 7, 2) := by decide +kernel
theorem dX9_together_117 : decode cX9_together 117 = .ok (.iaload, 1) := by decide +kernel
theorem dX9_together_118 : decode cX9_together 118 = .ok (.iconst (-1), 1) := by decide +kernel
theorem dX9_together_119 : decode cX9_together 119 = .ok (.ixor, 1) := by decide +kernel
theorem dX9_together_120 : decode cX9_together 120 = .ok (.iand, 1) := by decide +kernel
theorem dX9_together_121 : decode cX9_together 121 = .ok (.iaload, 1) := by decide +kernel
theorem dX9_together_122 : decode cX9_together 122 = .ok (.iload 4, 2) := by decide +kernel
theorem dX9_together_124 : decode cX9_together 124 = .ok (.iconst 1, 1) := by decide +kernel
theorem dX9_together_125 : decode cX9_together 125 = .ok (.isub, 1) := by decide +kernel
theorem dX9_together_126 : decode cX9_together 126 = .ok (.if_icmp .ne 7, 3) := by decide +kernel
theorem dX9_together_129 : decode cX9_together 129 = .ok (.iconst 1, 1) := by decide +kernel
theorem dX9_together_130 : decode cX9_together 130 = .ok (.goto 4, 3) := by decide +kernel
theorem dX9_together_133 : decode cX9_together 133 = .ok (.iconst 0, 1) := by decide +kernel
theorem dX9_together_134 : decode cX9_together 134 = .ok (.istore 5, 2) := by decide +kernel
theorem dX9_together_136 : decode cX9_together 136 = .ok (.iload 6, 2) := by decide +kernel
theorem dX9_together_138 : decode cX9_together 138 = .ok (.ifCond .ne 32, 3) := by decide +kernel
theorem dX9_together_141 : decode cX9_together 141 = .ok (.aload_n 0, 1) := by decide +kernel
theorem dX9_together_142 : decode cX9_together 142 = .ok (.getfield 33, 3) := by decide +kernel
theorem dX9_together_145 : decode cX9_together 145 = .ok (.iload_n 3, 1) := by decide +kernel
theorem dX9_together_146 : decode cX9_together 146 = .ok (.aload_n 0, 1) := by decide +kernel
theorem dX9_together_147 : decode cX9_together 147 = .ok (.getfield 30, 3) := by decide +kernel
theorem dX9_together_150 : decode cX9_together 150 = .ok (.iload 7, 2) := by decide +kernel
theorem dX9_together_152 : decode cX9_together 152 = .ok (.iaload, 1) := by decide +kernel
theorem dX9_together_153 : decode cX9_together 153 = .ok (.iconst 1, 1) := by decide +kernel
theorem dX9_together_154 : decode cX9_together 154 = .ok (.iload_n 2, 1) := by decide +kernel
theorem dX9_together_155 : decode cX9_together 155 = .ok (.ishl, 1) := by decide +kernel
theorem dX9_together_156 : decode cX9_together 156 = .ok (.iconst (-1), 1) := by decide +kernel
theorem dX9_together_157 : decode cX9_together 157 = .ok (.ixor, 1) := by decide +kernel
theorem dX9_together_158 : decode cX9_together 158 = .ok (.iand, 1) := by decide +kernel
theorem dX9_together_159 : decode cX9_together 159 = .ok (.iconst (-1), 1) := by decide +kernel
theorem dX9_together_160 : decode cX9_together 160 = .ok (.ixor, 1) := by decide +kernel
theorem dX9_together_161 : decode cX9_together 161 = .ok (.iand, 1) := by decide +kernel
theorem dX9_together_162 : decode cX9_together 162 = .ok (.iaload, 1) := by decide +kernel
theorem dX9_together_163 : decode cX9_together 163 = .ok (.iload 4, 2) := by decide +kernel
theorem dX9_together_165 : decode cX9_together 165 = .ok (.iconst 1, 1) := by decide +kernel
theorem dX9_together_166 : decode cX9_together 166 = .ok (.isub, 1) := by decide +kernel
theorem dX9_together_167 : decode cX9_together 167 = .ok (.if_icmp .ne 7, 3) := by decide +kernel
theorem dX9_together_170 : decode cX9_together 170 = .ok (.iconst 1, 1) := by decide +kernel
theorem dX9_together_171 : decode cX9_together 171 = .ok (.goto 4, 3) := by decide +kernel
theorem dX9_together_174 : decode cX9_together 174 = .ok (.iconst 0, 1) := by decide +kernel
theorem dX9_together_175 : decode cX9_together 175 = .ok (.istore 6, 2) := by decide +kernel
theorem dX9_together_177 : decode cX9_together 177 = .ok (.iinc 7 1, 3) := by decide +kernel
theorem dX9_together_180 : decode cX9_together 180 = .ok (.goto (-117), 3) := by decide +kernel
theorem dX9_together_183 : decode cX9_together 183 = .ok (.iload 5, 2) := by decide +kernel
theorem dX9_together_185 : decode cX9_together 185 = .ok (.ifCond .ne 7, 3) := by decide +kernel
theorem dX9_together_188 : decode cX9_together 188 = .ok (.iconst 0, 1) := by decide +kernel
theorem dX9_together_189 : decode cX9_together 189 = .ok (.goto 13, 3) := by decide +kernel
theorem dX9_together_192 : decode cX9_together 192 = .ok (.iload 6, 2) := by decide +kernel
theorem dX9_together_194 : decode cX9_together 194 = .ok (.ifCond .eq 7, 3) := by decide +kernel
theorem dX9_together_197 : decode cX9_together 197 = .ok (.iconst 1, 1) := by decide +kernel
theorem dX9_together_198 : decode cX9_together 198 = .ok (.goto 4, 3) := by decide +kernel
theorem dX9_together_201 : decode cX9_together 201 = .ok (.iconst 2, 1) := by decide +kernel
theorem dX9_together_202 : decode cX9_together 202 = .ok (.ireturn, 1) := by decide +kernel
set_option maxRecDepth 20000 in
theorem ggX9_span_X9_isHeap : GoodIn wsX9_span wsX9_isHeap := goodIn_r _ [7, 8, 9, 10, 6, 11, 37, 38, 39, 40, 41, 42, 43, 44, 45, 46, 47, 48, 49, 50, 51, 52, 53, 54, 55, 56, 57, 58, 59, 60] (by decide +kernel) (by decide +kernel)
set_option maxRecDepth 20000 in
theorem gX9_span_X9_isHeap : GoodIn wsX9_span (wsV RX9 153 RX9 yX9_isHeap wsX9_isHeap) := goodIn_app (goodIn_of _ (by decide +kernel)) ggX9_span_X9_isHeap
set_option maxRecDepth 20000 in
theorem ggX9_span_X9_isSmall : GoodIn wsX9_span wsX9_isSmall := goodIn_r _ [14, 15, 16, 9, 10, 6, 11] (by decide +kernel) (by decide +kernel)
set_option maxRecDepth 20000 in
theorem gX9_span_X9_isSmall : GoodIn wsX9_span (va_wsS RX9 65 yX9_isSmall wsX9_isSmall) := goodIn_app (goodIn_of _ (by decide +kernel)) ggX9_span_X9_isSmall
set_option maxRecDepth 20000 in
theorem ggX9_span_X9_in : GoodIn wsX9_span wsX9_in := goodIn_r _ [11] (by decide +kernel) (by decide +kernel)
set_option maxRecDepth 20000 in
theorem gX9_span_X9_in : GoodIn wsX9_span (va_wsS RX9 58 yX9_in wsX9_in) := goodIn_app (goodIn_of _ (by decide +kernel)) ggX9_span_X9_in
set_option maxRecDepth 20000 in
theorem ggX9_span_X9_isLet : GoodIn wsX9_span wsX9_isLet := goodIn_r _ [20, 8, 21, 22, 23, 6, 24, 25, 26, 27, 28, 29, 30, 31, 32, 33, 34, 35, 36, 9, 10, 11, 37, 38, 39, 40, 41, 42, 43, 44, 45, 46, 47, 48, 49, 50, 51, 52, 53, 54, 55, 56, 57, 58, 59, 60] (by decide +kernel) (by decide +kernel)
set_option maxRecDepth 20000 in
theorem gX9_span_X9_isLet : GoodIn wsX9_span (wsV RX9 150 RX9 yX9_isLet wsX9_isLet) := goodIn_app (goodIn_of _ (by decide +kernel)) ggX9_span_X9_isLet
set_option maxRecDepth 20000 in
theorem ggX9_span_X9_sumOf : GoodIn wsX9_span wsX9_sumOf := goodIn_r _ [36] (by decide +kernel) (by decide +kernel)
set_option maxRecDepth 20000 in
theorem gX9_span_X9_sumOf : GoodIn wsX9_span (va_wsS RX9 135 yX9_sumOf wsX9_sumOf) := goodIn_app (goodIn_of _ (by decide +kernel)) ggX9_span_X9_sumOf
theorem dX9_span_0 : decode cX9_span 0 = .ok (.aload_n 0, 1) := by decide +kernel
theorem dX9_span_1 : decode cX9_span 1 = .ok (.iload_n 1, 1) := by decide +kernel
theorem dX9_span_2 : decode cX9_span 2 = .ok (.invokevirtual 153, 3) := by decide +kernel
theorem dX9_span_5 : decode cX9_span 5 = .ok (.ifCond .eq 28, 3) := by decide +kernel
theorem dX9_span_8 : decode cX9_span 8 = .ok (.iload_n 2, 1) := by decide +kernel
theorem dX9_span_9 : decode cX9_span 9 = .ok (.invokestatic 65, 3) := by decide +kernel
theorem dX9_span_12 : decode cX9_span 12 = .ok (.ifCond .eq 21, 3) := by decide +kernel
theorem dX9_span_15 : decode cX9_span 15 = .ok (.iload_n 3, 1) := by decide +kernel
theorem dX9_span_16 : decode cX9_span 16 = .ok (.invokestatic 65, 3) := by decide +kernel
theorem dX9_span_19 : decode cX9_span 19 = .ok (.ifCond .eq 14, 3) := by decide +kernel
theorem dX9_span_22 : decode cX9_span 22 = .ok (.iload 4, 2) := by decide +kernel
theorem dX9_span_24 : decode cX9_span 24 = .ok (.i2l, 1) := by decide +kernel
theorem dX9_span_25 : decode cX9_span 25 = .ok (.lconst 0, 1) := by decide +kernel
theorem dX9_span_26 : decode cX9_span 26 = .ok (.lconst 1, 1) := by decide +kernel
theorem dX9_span_27 : decode cX9_span 27 = .ok (.invokestatic 58, 3) := by decide +kernel
theorem dX9_span_30 : decode cX9_span 30 = .ok (.ifCond .ne 6, 3) := by decide +kernel
theorem dX9_span_33 : decode cX9_span 33 = .ok (.ldc 129, 2) := by decide +kernel
theorem dX9_span_35 : decode cX9_span 35 = .ok (.ireturn, 1) := by decide +kernel
theorem dX9_span_36 : decode cX9_span 36 = .ok (.iconst 0, 1) := by decide +kernel
theorem dX9_span_37 : decode cX9_span 37 = .ok (.istore 5, 2) := by decide +kernel
theorem dX9_span_39 : decode cX9_span 39 = .ok (.iconst 0, 1) := by decide +kernel
theorem dX9_span_40 : decode cX9_span 40 = .ok (.istore 6, 2) := by decide +kernel
theorem dX9_span_42 : decode cX9_span 42 = .ok (.iconst 0, 1) := by decide +kernel
theorem dX9_span_43 : decode cX9_span 43 = .ok (.istore 7, 2) := by decide +kernel
theorem dX9_span_45 : decode cX9_span 45 = .ok (.iload 7, 2) := by decide +kernel
theorem dX9_span_47 : decode cX9_span 47 = .ok (.sipush 289, 3) := by decide +kernel
theorem dX9_span_50 : decode cX9_span 50 = .ok (.if_icmp .ge 67, 3) := by decide +kernel
theorem dX9_span_53 : decode cX9_span 53 = .ok (.aload_n 0, 1) := by decide +kernel
theorem dX9_span_54 : decode cX9_span 54 = .ok (.iload_n 1, 1) := by decide +kernel
theorem dX9_span_55 : decode cX9_span 55 = .ok (.iload 7, 2) := by decide +kernel
theorem dX9_span_57 : decode cX9_span 57 = .ok (.invokevirtual 150, 3) := by decide +kernel
theorem dX9_span_60 : decode cX9_span 60 = .ok (.ifCond .eq 51, 3) := by decide +kernel
theorem dX9_span_63 : decode cX9_span 63 = .ok (.iload 7, 2) := by decide +kernel
theorem dX9_span_65 : decode cX9_span 65 = .ok (.iload_n 2, 1) := by decide +kernel
theorem dX9_span_66 : decode cX9_span 66 = .ok (.iload_n 3, 1) := by decide +kernel
theorem dX9_span_67 : decode cX9_span 67 = .ok (.invokestatic 135, 3) := by decide +kernel
theorem dX9_span_70 : decode cX9_span 70 = .ok (.istore 8, 2) := by decide +kernel
theorem dX9_span_72 : decode cX9_span 72 = .ok (.iload 5, 2) := by decide +kernel
theorem dX9_span_74 : decode cX9_span 74 = .ok (.ifCond .eq 25, 3) := by decide +kernel
theorem dX9_span_77 : decode cX9_span 77 = .ok (.iload 4, 2) := by decide +kernel
theorem dX9_span_79 : decode cX9_span 79 = .ok (.ifCond .ne 13, 3) := by decide +kernel
theorem dX9_span_82 : decode cX9_span 82 = .ok (.iload 8, 2) := by decide +kernel
theorem dX9_span_84 : decode cX9_span 84 = .ok (.iload 6, 2) := by decide +kernel
theorem dX9_span_86 : decode cX9_span 86 = .ok (.if_icmp .ge 18, 3) := by decide +kernel
theorem dX9_span_89 : decode cX9_span 89 = .ok (.goto 10, 3) := by decide +kernel
theorem dX9_span_92 : decode cX9_span 92 = .ok (.iload 8, 2) := by decide +kernel
theorem dX9_span_94 : decode cX9_span 94 = .ok (.iload 6, 2) := by decide +kernel
theorem dX9_span_96 : decode cX9_span 96 = .ok (.if_icmp .le 8, 3) := by decide +kernel
theorem dX9_span_99 : decode cX9_span 99 = .ok (.iload 8, 2) := by decide +kernel
theorem dX9_span_101 : decode cX9_span 101 = .ok (.goto 5, 3) := by decide +kernel
theorem dX9_span_104 : decode cX9_span 104 = .ok (.iload 6, 2) := by decide +kernel
theorem dX9_span_106 : decode cX9_span 106 = .ok (.istore 6, 2) := by decide +kernel
theorem dX9_span_108 : decode cX9_span 108 = .ok (.iinc 5 1, 3) := by decide +kernel
theorem dX9_span_111 : decode cX9_span 111 = .ok (.iinc 7 1, 3) := by decide +kernel
theorem dX9_span_114 : decode cX9_span 114 = .ok (.goto (-69), 3) := by decide +kernel
theorem dX9_span_117 : decode cX9_span 117 = .ok (.iload 5, 2) := by decide +kernel
theorem dX9_span_119 : decode cX9_span 119 = .ok (.ifCond .ne 8, 3) := by decide +kernel
theorem dX9_span_122 : decode cX9_span 122 = .ok (.ldc 130, 2) := by decide +kernel
theorem dX9_span_124 : decode cX9_span 124 = .ok (.goto 5, 3) := by decide +kernel
theorem dX9_span_127 : decode cX9_span 127 = .ok (.iload 6, 2) := by decide +kernel
theorem dX9_span_129 : decode cX9_span 129 = .ok (.ireturn, 1) := by decide +kernel
set_option maxRecDepth 20000 in
theorem ggX9_line_X9_isHeap : GoodIn wsX9_line wsX9_isHeap := goodIn_r _ [11, 3, 12, 13, 10, 14, 15, 16, 17, 18, 19, 20, 21, 22, 23, 24, 25, 26, 27, 28, 29, 30, 31, 32, 33, 34, 35, 36, 37, 38] (by decide +kernel) (by decide +kernel)
set_option maxRecDepth 20000 in
theorem gX9_line_X9_isHeap : GoodIn wsX9_line (wsV RX9 153 RX9 yX9_isHeap wsX9_isHeap) := goodIn_app (goodIn_of _ (by decide +kernel)) ggX9_line_X9_isHeap
set_option maxRecDepth 20000 in
theorem ggX9_line_X9_in : GoodIn wsX9_line wsX9_in := goodIn_r _ [14] (by decide +kernel) (by decide +kernel)
set_option maxRecDepth 20000 in
theorem gX9_line_X9_in : GoodIn wsX9_line (va_wsS RX9 58 yX9_in wsX9_in) := goodIn_app (goodIn_of _ (by decide +kernel)) ggX9_line_X9_in
theorem dX9_line_0 : decode cX9_line 0 = .ok (.aload_n 0, 1) := by decide +kernel
theorem dX9_line_1 : decode cX9_line 1 = .ok (.iload_n 1, 1) := by decide +kernel
theorem dX9_line_2 : decode cX9_line 2 = .ok (.invokevirtual 153, 3) := by decide +kernel
theorem dX9_line_5 : decode cX9_line 5 = .ok (.ifCond .eq 29, 3) := by decide +kernel
theorem dX9_line_8 : decode cX9_line 8 = .ok (.aload_n 0, 1) := by decide +kernel
theorem dX9_line_9 : decode cX9_line 9 = .ok (.iload_n 2, 1) := by decide +kernel
theorem dX9_line_10 : decode cX9_line 10 = .ok (.invokevirtual 153, 3) := by decide +kernel
theorem dX9_line_13 : decode cX9_line 13 = .ok (.ifCond .eq 21, 3) := by decide +kernel
theorem dX9_line_16 : decode cX9_line 16 = .ok (.iload_n 1, 1) := by decide +kernel
theorem dX9_line_17 : decode cX9_line 17 = .ok (.iload_n 2, 1) := by decide +kernel
theorem dX9_line_18 : decode cX9_line 18 = .ok (.iand, 1) := by decide +kernel
theorem dX9_line_19 : decode cX9_line 19 = .ok (.ifCond .ne 15, 3) := by decide +kernel
theorem dX9_line_22 : decode cX9_line 22 = .ok (.iload_n 3, 1) := by decide +kernel
theorem dX9_line_23 : decode cX9_line 23 = .ok (.i2l, 1) := by decide +kernel
theorem dX9_line_24 : decode cX9_line 24 = .ok (.lconst 0, 1) := by decide +kernel
theorem dX9_line_25 : decode cX9_line 25 = .ok (.ldc2_w 127, 3) := by decide +kernel
theorem dX9_line_28 : decode cX9_line 28 = .ok (.invokestatic 58, 3) := by decide +kernel
theorem dX9_line_31 : decode cX9_line 31 = .ok (.ifCond .ne 6, 3) := by decide +kernel
theorem dX9_line_34 : decode cX9_line 34 = .ok (.ldc 129, 2) := by decide +kernel
theorem dX9_line_36 : decode cX9_line 36 = .ok (.ireturn, 1) := by decide +kernel
theorem dX9_line_37 : decode cX9_line 37 = .ok (.bipush (-3), 2) := by decide +kernel
theorem dX9_line_39 : decode cX9_line 39 = .ok (.istore 4, 2) := by decide +kernel
theorem dX9_line_41 : decode cX9_line 41 = .ok (.iload 4, 2) := by decide +kernel
theorem dX9_line_43 : decode cX9_line 43 = .ok (.iconst 3, 1) := by decide +kernel
theorem dX9_line_44 : decode cX9_line 44 = .ok (.if_icmp .gt 159, 3) := by decide +kernel
theorem dX9_line_47 : decode cX9_line 47 = .ok (.bipush (-3), 2) := by decide +kernel
theorem dX9_line_49 : decode cX9_line 49 = .ok (.istore 5, 2) := by decide +kernel
theorem dX9_line_51 : decode cX9_line 51 = .ok (.iload 5, 2) := by decide +kernel
theorem dX9_line_53 : decode cX9_line 53 = .ok (.iconst 3, 1) := by decide +kernel
theorem dX9_line_54 : decode cX9_line 54 = .ok (.if_icmp .gt 143, 3) := by decide +kernel
theorem dX9_line_57 : decode cX9_line 57 = .ok (.bipush 99, 2) := by decide +kernel
theorem dX9_line_59 : decode cX9_line 59 = .ok (.istore 6, 2) := by decide +kernel
theorem dX9_line_61 : decode cX9_line 61 = .ok (.bipush (-100), 2) := by decide +kernel
theorem dX9_line_63 : decode cX9_line 63 = .ok (.istore 7, 2) := by decide +kernel
theorem dX9_line_65 : decode cX9_line 65 = .ok (.iconst 0, 1) := by decide +kernel
theorem dX9_line_66 : decode cX9_line 66 = .ok (.istore 8, 2) := by decide +kernel
theorem dX9_line_68 : decode cX9_line 68 = .ok (.iload 8, 2) := by decide +kernel
theorem dX9_line_70 : decode cX9_line 70 = .ok (.aload_n 0, 1) := by decide +kernel
theorem dX9_line_71 : decode cX9_line 71 = .ok (.getfield 62, 3) := by decide +kernel
theorem dX9_line_74 : decode cX9_line 74 = .ok (.if_icmp .ge 84, 3) := by decide +kernel
theorem dX9_line_77 : decode cX9_line 77 = .ok (.iload 4, 2) := by decide +kernel
theorem dX9_line_79 : decode cX9_line 79 = .ok (.aload_n 0, 1) := by decide +kernel
theorem dX9_line_80 : decode cX9_line 80 = .ok (.getfield 7, 3) := by decide +kernel
theorem dX9_line_83 : decode cX9_line 83 = .ok (.iload 8, 2) := by decide +kernel
theorem dX9_line_85 : decode cX9_line 85 = .ok (.iaload, 1) := by decide +kernel
theorem dX9_line_86 : decode cX9_line 86 = .ok (.imul, 1) := by decide +kernel
theorem dX9_line_87 : decode cX9_line 87 = .ok (.iload 5, 2) := by decide +kernel
theorem dX9_line_89 : decode cX9_line 89 = .ok (.aload_n 0, 1) := by decide +kernel
theorem dX9_line_90 : decode cX9_line 90 = .ok (.getfield 13, 3) := by decide +kernel
theorem dX9_line_93 : decode cX9_line 93 = .ok (.iload 8, 2) := by decide +kernel
theorem dX9_line_95 : decode cX9_line 95 = .ok (.iaload, 1) := by decide +kernel
theorem dX9_line_96 : decode cX9_line 96 = .ok (.imul, 1) := by decide +kernel
theorem dX9_line_97 : decode cX9_line 97 = .ok (.iadd, 1) := by decide +kernel
theorem dX9_line_98 : decode cX9_line 98 = .ok (.istore 9, 2) := by decide +kernel
theorem dX9_line_100 : decode cX9_line 100 = .ok (.iload_n 1, 1) := by decide +kernel
theorem dX9_line_101 : decode cX9_line 101 = .ok (.iload 8, 2) := by decide +kernel
theorem dX9_line_103 : decode cX9_line 103 = .ok (.ishr, 1) := by decide +kernel
theorem dX9_line_104 : decode cX9_line 104 = .ok (.iconst 1, 1) := by decide +kernel
theorem dX9_line_105 : decode cX9_line 105 = .ok (.iand, 1) := by decide +kernel
theorem dX9_line_106 : decode cX9_line 106 = .ok (.iconst 1, 1) := by decide +kernel
theorem dX9_line_107 : decode cX9_line 107 = .ok (.if_icmp .ne 15, 3) := by decide +kernel
theorem dX9_line_110 : decode cX9_line 110 = .ok (.iload 9, 2) := by decide +kernel
theorem dX9_line_112 : decode cX9_line 112 = .ok (.iload 6, 2) := by decide +kernel
theorem dX9_line_114 : decode cX9_line 114 = .ok (.if_icmp .ge 8, 3) := by decide +kernel
theorem dX9_line_117 : decode cX9_line 117 = .ok (.iload 9, 2) := by decide +kernel
theorem dX9_line_119 : decode cX9_line 119 = .ok (.goto 5, 3) := by decide +kernel
theorem dX9_line_122 : decode cX9_line 122 = .ok (.iload 6, 2) := by decide +kernel
theorem dX9_line_124 : decode cX9_line 124 = .ok (.istore 6, 2) := by decide +kernel
theorem dX9_line_126 : decode cX9_line 126 = .ok (.iload_n 2, 1) := by decide +kernel
theorem dX9_line_127 : decode cX9_line 127 = .ok (.iload 8, 2) := by decide +kernel
theorem dX9_line_129 : decode cX9_line 129 = .ok (.ishr, 1) := by decide +kernel
theorem dX9_line_130 : decode cX9_line 130 = .ok (.iconst 1, 1) := by decide +kernel
theorem dX9_line_131 : decode cX9_line 131 = .ok (.iand, 1) := by decide +kernel
theorem dX9_line_132 : decode cX9_line 132 = .ok (.iconst 1, 1) := by decide +kernel
theorem dX9_line_133 : decode cX9_line 133 = .ok (.if_icmp .ne 15, 3) := by decide +kernel
theorem dX9_line_136 : decode cX9_line 136 = .ok (.iload 9, 2) := by decide +kernel
theorem dX9_line_138 : decode cX9_line 138 = .ok (.iload 7, 2) := by decide +kernel
theorem dX9_line_140 : decode cX9_line 140 = .ok (.if_icmp .le 8, 3) := by decide +kernel
theorem dX9_line_143 : decode cX9_line 143 = .ok (.iload 9, 2) := by decide +kernel
theorem dX9_line_145 : decode cX9_line 145 = .ok (.goto 5, 3) := by decide +kernel
theorem dX9_line_148 : decode cX9_line 148 = .ok (.iload 7, 2) := by decide +kernel
theorem dX9_line_150 : decode cX9_line 150 = .ok (.istore 7, 2) := by decide +kernel
theorem dX9_line_152 : decode cX9_line 152 = .ok (.iinc 8 1, 3) := by decide +kernel
theorem dX9_line_155 : decode cX9_line 155 = .ok (.goto (-87), 3) := by decide +kernel
theorem dX9_line_158 : decode cX9_line 158 = .ok (.iload 7, 2) := by decide +kernel
theorem dX9_line_160 : decode cX9_line 160 = .ok (.iconst 1, 1) := by decide +kernel
theorem dX9_line_161 : decode cX9_line 161 = .ok (.iadd, 1) := by decide +kernel
theorem dX9_line_162 : decode cX9_line 162 = .ok (.iload 6, 2) := by decide +kernel
theorem dX9_line_164 : decode cX9_line 164 = .ok (.if_icmp .gt 27, 3) := by decide +kernel
theorem dX9_line_167 : decode cX9_line 167 = .ok (.iload_n 3, 1) := by decide +kernel
theorem dX9_line_168 : decode cX9_line 168 = .ok (.ifCond .ne 8, 3) := by decide +kernel
theorem dX9_line_171 : decode cX9_line 171 = .ok (.iload 4, 2) := by decide +kernel
theorem dX9_line_173 : decode cX9_line 173 = .ok (.goto 17, 3) := by decide +kernel
theorem dX9_line_176 : decode cX9_line 176 = .ok (.iload_n 3, 1) := by decide +kernel
theorem dX9_line_177 : decode cX9_line 177 = .ok (.iconst 1, 1) := by decide +kernel
theorem dX9_line_178 : decode cX9_line 178 = .ok (.if_icmp .ne 8, 3) := by decide +kernel
theorem dX9_line_181 : decode cX9_line 181 = .ok (.iload 5, 2) := by decide +kernel
theorem dX9_line_183 : decode cX9_line 183 = .ok (.goto 7, 3) := by decide +kernel
theorem dX9_line_186 : decode cX9_line 186 = .ok (.iload 7, 2) := by decide +kernel
theorem dX9_line_188 : decode cX9_line 188 = .ok (.iconst 1, 1) := by decide +kernel
theorem dX9_line_189 : decode cX9_line 189 = .ok (.iadd, 1) := by decide +kernel
theorem dX9_line_190 : decode cX9_line 190 = .ok (.ireturn, 1) := by decide +kernel
theorem dX9_line_191 : decode cX9_line 191 = .ok (.iinc 5 1, 3) := by decide +kernel
theorem dX9_line_194 : decode cX9_line 194 = .ok (.goto (-143), 3) := by decide +kernel
theorem dX9_line_197 : decode cX9_line 197 = .ok (.iinc 4 1, 3) := by decide +kernel
theorem dX9_line_200 : decode cX9_line 200 = .ok (.goto (-159), 3) := by decide +kernel
theorem dX9_line_203 : decode cX9_line 203 = .ok (.ldc 130, 2) := by decide +kernel
theorem dX9_line_205 : decode cX9_line 205 = .ok (.ireturn, 1) := by decide +kernel
set_option maxRecDepth 20000 in
theorem ggX9_hours_X9_isHeap : GoodIn wsX9_hours wsX9_isHeap := goodIn_r _ [6, 1, 7, 8, 5, 9, 10, 11, 12, 13, 14, 15, 16, 17, 18, 19, 20, 21, 22, 23, 24, 25, 26, 27, 28, 29, 30, 31, 32, 33] (by decide +kernel) (by decide +kernel)
set_option maxRecDepth 20000 in
theorem gX9_hours_X9_isHeap : GoodIn wsX9_hours (wsV RX9 153 RX9 yX9_isHeap wsX9_isHeap) := goodIn_app (goodIn_of _ (by decide +kernel)) ggX9_hours_X9_isHeap
theorem dX9_hours_0 : decode cX9_hours 0 = .ok (.aload_n 0, 1) := by decide +kernel
theorem dX9_hours_1 : decode cX9_hours 1 = .ok (.iload_n 1, 1) := by decide +kernel
theorem dX9_hours_2 : decode cX9_hours 2 = .ok (.invokevirtual 153, 3) := by decide +kernel
theorem dX9_hours_5 : decode cX9_hours 5 = .ok (.ifCond .eq 11, 3) := by decide +kernel
theorem dX9_hours_8 : decode cX9_hours 8 = .ok (.aload_n 0, 1) := by decide +kernel
theorem dX9_hours_9 : decode cX9_hours 9 = .ok (.iload_n 2, 1) := by decide +kernel
theorem dX9_hours_10 : decode cX9_hours 10 = .ok (.invokevirtual 153, 3) := by decide +kernel
theorem dX9_hours_13 : decode cX9_hours 13 = .ok (.ifCond .ne 5, 3) := by decide +kernel
theorem dX9_hours_16 : decode cX9_hours 16 = .ok (.iconst (-1), 1) := by decide +kernel
theorem dX9_hours_17 : decode cX9_hours 17 = .ok (.ireturn, 1) := by decide +kernel
theorem dX9_hours_18 : decode cX9_hours 18 = .ok (.iconst 1, 1) := by decide +kernel
theorem dX9_hours_19 : decode cX9_hours 19 = .ok (.istore_n 3, 1) := by decide +kernel
theorem dX9_hours_20 : decode cX9_hours 20 = .ok (.iload_n 3, 1) := by decide +kernel
theorem dX9_hours_21 : decode cX9_hours 21 = .ok (.bipush 6, 2) := by decide +kernel
theorem dX9_hours_23 : decode cX9_hours 23 = .ok (.if_icmp .gt 75, 3) := by decide +kernel
theorem dX9_hours_26 : decode cX9_hours 26 = .ok (.iconst 0, 1) := by decide +kernel
theorem dX9_hours_27 : decode cX9_hours 27 = .ok (.istore 4, 2) := by decide +kernel
theorem dX9_hours_29 : decode cX9_hours 29 = .ok (.iconst 0, 1) := by decide +kernel
theorem dX9_hours_30 : decode cX9_hours 30 = .ok (.istore 5, 2) := by decide +kernel
theorem dX9_hours_32 : decode cX9_hours 32 = .ok (.iconst 0, 1) := by decide +kernel
theorem dX9_hours_33 : decode cX9_hours 33 = .ok (.istore 6, 2) := by decide +kernel
theorem dX9_hours_35 : decode cX9_hours 35 = .ok (.iload 6, 2) := by decide +kernel
theorem dX9_hours_37 : decode cX9_hours 37 = .ok (.aload_n 0, 1) := by decide +kernel
theorem dX9_hours_38 : decode cX9_hours 38 = .ok (.getfield 62, 3) := by decide +kernel
theorem dX9_hours_41 : decode cX9_hours 41 = .ok (.if_icmp .ge 41, 3) := by decide +kernel
theorem dX9_hours_44 : decode cX9_hours 44 = .ok (.iload 4, 2) := by decide +kernel
theorem dX9_hours_46 : decode cX9_hours 46 = .ok (.iload_n 1, 1) := by decide +kernel
theorem dX9_hours_47 : decode cX9_hours 47 = .ok (.iload 6, 2) := by decide +kernel
theorem dX9_hours_49 : decode cX9_hours 49 = .ok (.ishr, 1) := by decide +kernel
theorem dX9_hours_50 : decode cX9_hours 50 = .ok (.iconst 1, 1) := by decide +kernel
theorem dX9_hours_51 : decode cX9_hours 51 = .ok (.iand, 1) := by decide +kernel
theorem dX9_hours_52 : decode cX9_hours 52 = .ok (.iload 6, 2) := by decide +kernel
theorem dX9_hours_54 : decode cX9_hours 54 = .ok (.iload_n 3, 1) := by decide +kernel
theorem dX9_hours_55 : decode cX9_hours 55 = .ok (.irem, 1) := by decide +kernel
theorem dX9_hours_56 : decode cX9_hours 56 = .ok (.ishl, 1) := by decide +kernel
theorem dX9_hours_57 : decode cX9_hours 57 = .ok (.ior, 1) := by decide +kernel
theorem dX9_hours_58 : decode cX9_hours 58 = .ok (.istore 4, 2) := by decide +kernel
theorem dX9_hours_60 : decode cX9_hours 60 = .ok (.iload 5, 2) := by decide +kernel
theorem dX9_hours_62 : decode cX9_hours 62 = .ok (.iload_n 2, 1) := by decide +kernel
theorem dX9_hours_63 : decode cX9_hours 63 = .ok (.iload 6, 2) := by decide +kernel
theorem dX9_hours_65 : decode cX9_hours 65 = .ok (.ishr, 1) := by decide +kernel
theorem dX9_hours_66 : decode cX9_hours 66 = .ok (.iconst 1, 1) := by decide +kernel
theorem dX9_hours_67 : decode cX9_hours 67 = .ok (.iand, 1) := by decide +kernel
theorem dX9_hours_68 : decode cX9_hours 68 = .ok (.iload 6, 2) := by decide +kernel
theorem dX9_hours_70 : decode cX9_hours 70 = .ok (.iload_n 3, 1) := by decide +kernel
theorem dX9_hours_71 : decode cX9_hours 71 = .ok (.irem, 1) := by decide +kernel
theorem dX9_hours_72 : decode cX9_hours 72 = .ok (.ishl, 1) := by decide +kernel
theorem dX9_hours_73 : decode cX9_hours 73 = .ok (.ior, 1) := by decide +kernel
theorem dX9_hours_74 : decode cX9_hours 74 = .ok (.istore 5, 2) := by decide +kernel
theorem dX9_hours_76 : decode cX9_hours 76 = .ok (.iinc 6 1, 3) := by decide +kernel
theorem dX9_hours_79 : decode cX9_hours 79 = .ok (.goto (-44), 3) := by decide +kernel
theorem dX9_hours_82 : decode cX9_hours 82 = .ok (.iload 4, 2) := by decide +kernel
theorem dX9_hours_84 : decode cX9_hours 84 = .ok (.iload 5, 2) := by decide +kernel
theorem dX9_hours_86 : decode cX9_hours 86 = .ok (.iand, 1) := by decide +kernel
theorem dX9_hours_87 : decode cX9_hours 87 = .ok (.ifCond .ne 5, 3) := by decide +kernel
theorem dX9_hours_90 : decode cX9_hours 90 = .ok (.iload_n 3, 1) := by decide +kernel
theorem dX9_hours_91 : decode cX9_hours 91 = .ok (.ireturn, 1) := by decide +kernel
theorem dX9_hours_92 : decode cX9_hours 92 = .ok (.iinc 3 1, 3) := by decide +kernel
theorem dX9_hours_95 : decode cX9_hours 95 = .ok (.goto (-75), 3) := by decide +kernel
theorem dX9_hours_98 : decode cX9_hours 98 = .ok (.bipush (-4), 2) := by decide +kernel
theorem dX9_hours_100 : decode cX9_hours 100 = .ok (.ireturn, 1) := by decide +kernel
set_option maxRecDepth 20000 in
theorem ggX9_wear_X9_isLaw : GoodIn wsX9_wear wsX9_isLaw := goodIn_r _ [7, 8, 9, 10, 6, 11] (by decide +kernel) (by decide +kernel)
set_option maxRecDepth 20000 in
theorem gX9_wear_X9_isLaw : GoodIn wsX9_wear (va_wsS RX9 143 yX9_isLaw wsX9_isLaw) := goodIn_app (goodIn_of _ (by decide +kernel)) ggX9_wear_X9_isLaw
set_option maxRecDepth 20000 in
theorem ggX9_wear_X9_in : GoodIn wsX9_wear wsX9_in := goodIn_r _ [11] (by decide +kernel) (by decide +kernel)
set_option maxRecDepth 20000 in
theorem gX9_wear_X9_in : GoodIn wsX9_wear (va_wsS RX9 58 yX9_in wsX9_in) := goodIn_app (goodIn_of _ (by decide +kernel)) ggX9_wear_X9_in
set_option maxRecDepth 20000 in
theorem ggX9_wear_X9_isLet : GoodIn wsX9_wear wsX9_isLet := goodIn_r _ [15, 3, 16, 17, 18, 6, 19, 20, 21, 22, 23, 24, 25, 26, 27, 28, 29, 30, 31, 9, 10, 11, 32, 33, 34, 35, 36, 37, 38, 39, 40, 41, 42, 43, 44, 45, 46, 47, 48, 49, 50, 51, 52, 53, 54, 55] (by decide +kernel) (by decide +kernel)
set_option maxRecDepth 20000 in
theorem gX9_wear_X9_isLet : GoodIn wsX9_wear (wsV RX9 150 RX9 yX9_isLet wsX9_isLet) := goodIn_app (goodIn_of _ (by decide +kernel)) ggX9_wear_X9_isLet
theorem dX9_wear_0 : decode cX9_wear 0 = .ok (.iload_n 1, 1) := by decide +kernel
theorem dX9_wear_1 : decode cX9_wear 1 = .ok (.invokestatic 143, 3) := by decide +kernel
theorem dX9_wear_4 : decode cX9_wear 4 = .ok (.ifCond .eq 35, 3) := by decide +kernel
theorem dX9_wear_7 : decode cX9_wear 7 = .ok (.iload_n 2, 1) := by decide +kernel
theorem dX9_wear_8 : decode cX9_wear 8 = .ok (.i2l, 1) := by decide +kernel
theorem dX9_wear_9 : decode cX9_wear 9 = .ok (.ldc2_w 173, 3) := by decide +kernel
theorem dX9_wear_12 : decode cX9_wear 12 = .ok (.lconst 1, 1) := by decide +kernel
theorem dX9_wear_13 : decode cX9_wear 13 = .ok (.invokestatic 58, 3) := by decide +kernel
theorem dX9_wear_16 : decode cX9_wear 16 = .ok (.ifCond .eq 23, 3) := by decide +kernel
theorem dX9_wear_19 : decode cX9_wear 19 = .ok (.iload_n 3, 1) := by decide +kernel
theorem dX9_wear_20 : decode cX9_wear 20 = .ok (.i2l, 1) := by decide +kernel
theorem dX9_wear_21 : decode cX9_wear 21 = .ok (.ldc2_w 173, 3) := by decide +kernel
theorem dX9_wear_24 : decode cX9_wear 24 = .ok (.lconst 1, 1) := by decide +kernel
theorem dX9_wear_25 : decode cX9_wear 25 = .ok (.invokestatic 58, 3) := by decide +kernel
theorem dX9_wear_28 : decode cX9_wear 28 = .ok (.ifCond .eq 11, 3) := by decide +kernel
theorem dX9_wear_31 : decode cX9_wear 31 = .ok (.iload_n 2, 1) := by decide +kernel
theorem dX9_wear_32 : decode cX9_wear 32 = .ok (.ifCond .ne 9, 3) := by decide +kernel
theorem dX9_wear_35 : decode cX9_wear 35 = .ok (.iload_n 3, 1) := by decide +kernel
theorem dX9_wear_36 : decode cX9_wear 36 = .ok (.ifCond .ne 5, 3) := by decide +kernel
theorem dX9_wear_39 : decode cX9_wear 39 = .ok (.iconst (-1), 1) := by decide +kernel
theorem dX9_wear_40 : decode cX9_wear 40 = .ok (.ireturn, 1) := by decide +kernel
theorem dX9_wear_41 : decode cX9_wear 41 = .ok (.iload_n 1, 1) := by decide +kernel
theorem dX9_wear_42 : decode cX9_wear 42 = .ok (.bipush 17, 2) := by decide +kernel
theorem dX9_wear_44 : decode cX9_wear 44 = .ok (.idiv, 1) := by decide +kernel
theorem dX9_wear_45 : decode cX9_wear 45 = .ok (.iload_n 2, 1) := by decide +kernel
theorem dX9_wear_46 : decode cX9_wear 46 = .ok (.iadd, 1) := by decide +kernel
theorem dX9_wear_47 : decode cX9_wear 47 = .ok (.istore 4, 2) := by decide +kernel
theorem dX9_wear_49 : decode cX9_wear 49 = .ok (.iload_n 1, 1) := by decide +kernel
theorem dX9_wear_50 : decode cX9_wear 50 = .ok (.bipush 17, 2) := by decide +kernel
theorem dX9_wear_52 : decode cX9_wear 52 = .ok (.irem, 1) := by decide +kernel
theorem dX9_wear_53 : decode cX9_wear 53 = .ok (.iload_n 3, 1) := by decide +kernel
theorem dX9_wear_54 : decode cX9_wear 54 = .ok (.iadd, 1) := by decide +kernel
theorem dX9_wear_55 : decode cX9_wear 55 = .ok (.istore 5, 2) := by decide +kernel
theorem dX9_wear_57 : decode cX9_wear 57 = .ok (.iload 4, 2) := by decide +kernel
theorem dX9_wear_59 : decode cX9_wear 59 = .ok (.i2l, 1) := by decide +kernel
theorem dX9_wear_60 : decode cX9_wear 60 = .ok (.lconst 0, 1) := by decide +kernel
theorem dX9_wear_61 : decode cX9_wear 61 = .ok (.ldc2_w 175, 3) := by decide +kernel
theorem dX9_wear_64 : decode cX9_wear 64 = .ok (.invokestatic 58, 3) := by decide +kernel
theorem dX9_wear_67 : decode cX9_wear 67 = .ok (.ifCond .eq 16, 3) := by decide +kernel
theorem dX9_wear_70 : decode cX9_wear 70 = .ok (.iload 5, 2) := by decide +kernel
theorem dX9_wear_72 : decode cX9_wear 72 = .ok (.i2l, 1) := by decide +kernel
theorem dX9_wear_73 : decode cX9_wear 73 = .ok (.lconst 0, 1) := by decide +kernel
theorem dX9_wear_74 : decode cX9_wear 74 = .ok (.ldc2_w 175, 3) := by decide +kernel
theorem dX9_wear_77 : decode cX9_wear 77 = .ok (.invokestatic 58, 3) := by decide +kernel
theorem dX9_wear_80 : decode cX9_wear 80 = .ok (.ifCond .ne 6, 3) := by decide +kernel
theorem dX9_wear_83 : decode cX9_wear 83 = .ok (.bipush (-2), 2) := by decide +kernel
theorem dX9_wear_85 : decode cX9_wear 85 = .ok (.ireturn, 1) := by decide +kernel
theorem dX9_wear_86 : decode cX9_wear 86 = .ok (.iconst 1, 1) := by decide +kernel
theorem dX9_wear_87 : decode cX9_wear 87 = .ok (.aload_n 0, 1) := by decide +kernel
theorem dX9_wear_88 : decode cX9_wear 88 = .ok (.getfield 62, 3) := by decide +kernel
theorem dX9_wear_91 : decode cX9_wear 91 = .ok (.ishl, 1) := by decide +kernel
theorem dX9_wear_92 : decode cX9_wear 92 = .ok (.iconst 1, 1) := by decide +kernel
theorem dX9_wear_93 : decode cX9_wear 93 = .ok (.isub, 1) := by decide +kernel
theorem dX9_wear_94 : decode cX9_wear 94 = .ok (.istore 6, 2) := by decide +kernel
theorem dX9_wear_96 : decode cX9_wear 96 = .ok (.iconst 0, 1) := by decide +kernel
theorem dX9_wear_97 : decode cX9_wear 97 = .ok (.istore 7, 2) := by decide +kernel
theorem dX9_wear_99 : decode cX9_wear 99 = .ok (.iload 7, 2) := by decide +kernel
theorem dX9_wear_101 : decode cX9_wear 101 = .ok (.aload_n 0, 1) := by decide +kernel
theorem dX9_wear_102 : decode cX9_wear 102 = .ok (.getfield 62, 3) := by decide +kernel
theorem dX9_wear_105 : decode cX9_wear 105 = .ok (.if_icmp .gt 52, 3) := by decide +kernel
theorem dX9_wear_108 : decode cX9_wear 108 = .ok (.iconst 1, 1) := by decide +kernel
theorem dX9_wear_109 : decode cX9_wear 109 = .ok (.iload 7, 2) := by decide +kernel
theorem dX9_wear_111 : decode cX9_wear 111 = .ok (.ishl, 1) := by decide +kernel
theorem dX9_wear_112 : decode cX9_wear 112 = .ok (.iconst 1, 1) := by decide +kernel
theorem dX9_wear_113 : decode cX9_wear 113 = .ok (.isub, 1) := by decide +kernel
theorem dX9_wear_114 : decode cX9_wear 114 = .ok (.istore 8, 2) := by decide +kernel
theorem dX9_wear_116 : decode cX9_wear 116 = .ok (.aload_n 0, 1) := by decide +kernel
theorem dX9_wear_117 : decode cX9_wear 117 = .ok (.iload 8, 2) := by decide +kernel
theorem dX9_wear_119 : decode cX9_wear 119 = .ok (.iload_n 1, 1) := by decide +kernel
theorem dX9_wear_120 : decode cX9_wear 120 = .ok (.invokevirtual 150, 3) := by decide +kernel
theorem dX9_wear_123 : decode cX9_wear 123 = .ok (.ifCond .eq 28, 3) := by decide +kernel
theorem dX9_wear_126 : decode cX9_wear 126 = .ok (.aload_n 0, 1) := by decide +kernel
theorem dX9_wear_127 : decode cX9_wear 127 = .ok (.iload 6, 2) := by decide +kernel
theorem dX9_wear_129 : decode cX9_wear 129 = .ok (.iload 8, 2) := by decide +kernel
theorem dX9_wear_131 : decode cX9_wear 131 = .ok (.iconst (-1), 1) := by decide +kernel
theorem dX9_wear_132 : decode cX9_wear 132 = .ok (.ixor, 1) := by decide +kernel
theorem dX9_wear_133 : decode cX9_wear 133 = .ok (.iand, 1) := by decide +kernel
theorem dX9_wear_134 : decode cX9_wear 134 = .ok (.bipush 17, 2) := by decide +kernel
theorem dX9_wear_136 : decode cX9_wear 136 = .ok (.iload 4, 2) := by decide +kernel
theorem dX9_wear_138 : decode cX9_wear 138 = .ok (.imul, 1) := by decide +kernel
theorem dX9_wear_139 : decode cX9_wear 139 = .ok (.iload 5, 2) := by decide +kernel
theorem dX9_wear_141 : decode cX9_wear 141 = .ok (.iadd, 1) := by decide +kernel
theorem dX9_wear_142 : decode cX9_wear 142 = .ok (.invokevirtual 150, 3) := by decide +kernel
theorem dX9_wear_145 : decode cX9_wear 145 = .ok (.ifCond .eq 6, 3) := by decide +kernel
theorem dX9_wear_148 : decode cX9_wear 148 = .ok (.iload 7, 2) := by decide +kernel
theorem dX9_wear_150 : decode cX9_wear 150 = .ok (.ireturn, 1) := by decide +kernel
theorem dX9_wear_151 : decode cX9_wear 151 = .ok (.iinc 7 1, 3) := by decide +kernel
theorem dX9_wear_154 : decode cX9_wear 154 = .ok (.goto (-55), 3) := by decide +kernel
theorem dX9_wear_157 : decode cX9_wear 157 = .ok (.bipush (-4), 2) := by decide +kernel
theorem dX9_wear_159 : decode cX9_wear 159 = .ok (.ireturn, 1) := by decide +kernel
set_option maxRecDepth 20000 in
theorem ggX9_check_X9_isSheet : GoodIn wsX9_check wsX9_isSheet := goodIn_r _ [7, 8, 9, 10, 6, 11] (by decide +kernel) (by decide +kernel)
set_option maxRecDepth 20000 in
theorem gX9_check_X9_isSheet : GoodIn wsX9_check (va_wsS RX9 73 yX9_isSheet wsX9_isSheet) := goodIn_app (goodIn_of _ (by decide +kernel)) ggX9_check_X9_isSheet
set_option maxRecDepth 20000 in
theorem ggX9_check_X9_isLane : GoodIn wsX9_check wsX9_isLane := goodIn_r _ [14, 15, 9, 10, 6, 11] (by decide +kernel) (by decide +kernel)
set_option maxRecDepth 20000 in
theorem gX9_check_X9_isLane : GoodIn wsX9_check (va_wsS RX9 76 yX9_isLane wsX9_isLane) := goodIn_app (goodIn_of _ (by decide +kernel)) ggX9_check_X9_isLane
set_option maxRecDepth 20000 in
theorem ggX9_check_X9_finds : GoodIn wsX9_check wsX9_finds := goodIn_r _ [19, 20, 21, 46, 47, 48, 49, 50, 51, 52, 53, 54, 55, 56, 57, 58, 59, 60, 61, 62, 63, 64, 65, 66, 67, 68, 69] (by decide +kernel) (by decide +kernel)
set_option maxRecDepth 20000 in
theorem gX9_check_X9_finds : GoodIn wsX9_check (wsV RX9 81 RX9 yX9_finds wsX9_finds) := goodIn_app (goodIn_of _ (by decide +kernel)) ggX9_check_X9_finds
set_option maxRecDepth 20000 in
theorem ggX9_check_X9_in : GoodIn wsX9_check wsX9_in := goodIn_r _ [11] (by decide +kernel) (by decide +kernel)
set_option maxRecDepth 20000 in
theorem gX9_check_X9_in : GoodIn wsX9_check (va_wsS RX9 58 yX9_in wsX9_in) := goodIn_app (goodIn_of _ (by decide +kernel)) ggX9_check_X9_in
set_option maxRecDepth 20000 in
theorem ggX9_check_X9_isWhole : GoodIn wsX9_check wsX9_isWhole := goodIn_r _ [25, 26, 27, 28, 6, 29, 1, 30, 31, 32, 33, 34, 35, 36, 37, 38, 39, 40, 41, 42, 43, 44, 45, 9, 10, 11, 46, 47, 48, 49, 50, 51, 52, 53, 54, 55, 56, 57, 58, 59, 60, 61, 62, 63, 64, 65, 66, 67, 68, 69] (by decide +kernel) (by decide +kernel)
set_option maxRecDepth 20000 in
theorem gX9_check_X9_isWhole : GoodIn wsX9_check (wsV RX9 179 RX9 yX9_isWhole wsX9_isWhole) := goodIn_app (goodIn_of _ (by decide +kernel)) ggX9_check_X9_isWhole
theorem dX9_check_0 : decode cX9_check 0 = .ok (.iload_n 1, 1) := by decide +kernel
theorem dX9_check_1 : decode cX9_check 1 = .ok (.invokestatic 73, 3) := by decide +kernel
theorem dX9_check_4 : decode cX9_check 4 = .ok (.ifCond .eq 10, 3) := by decide +kernel
theorem dX9_check_7 : decode cX9_check 7 = .ok (.iload_n 2, 1) := by decide +kernel
theorem dX9_check_8 : decode cX9_check 8 = .ok (.invokestatic 76, 3) := by decide +kernel
theorem dX9_check_11 : decode cX9_check 11 = .ok (.ifCond .ne 5, 3) := by decide +kernel
theorem dX9_check_14 : decode cX9_check 14 = .ok (.iconst (-1), 1) := by decide +kernel
theorem dX9_check_15 : decode cX9_check 15 = .ok (.ireturn, 1) := by decide +kernel
theorem dX9_check_16 : decode cX9_check 16 = .ok (.aload_n 0, 1) := by decide +kernel
theorem dX9_check_17 : decode cX9_check 17 = .ok (.iload_n 1, 1) := by decide +kernel
theorem dX9_check_18 : decode cX9_check 18 = .ok (.iload_n 2, 1) := by decide +kernel
theorem dX9_check_19 : decode cX9_check 19 = .ok (.iload_n 3, 1) := by decide +kernel
theorem dX9_check_20 : decode cX9_check 20 = .ok (.aload_n 0, 1) := by decide +kernel
theorem dX9_check_21 : decode cX9_check 21 = .ok (.getfield 62, 3) := by decide +kernel
theorem dX9_check_24 : decode cX9_check 24 = .ok (.invokevirtual 81, 3) := by decide +kernel
theorem dX9_check_27 : decode cX9_check 27 = .ok (.istore 4, 2) := by decide +kernel
theorem dX9_check_29 : decode cX9_check 29 = .ok (.iload 4, 2) := by decide +kernel
theorem dX9_check_31 : decode cX9_check 31 = .ok (.ifCond .ge 6, 3) := by decide +kernel
theorem dX9_check_34 : decode cX9_check 34 = .ok (.iload 4, 2) := by decide +kernel
theorem dX9_check_36 : decode cX9_check 36 = .ok (.ireturn, 1) := by decide +kernel
theorem dX9_check_37 : decode cX9_check 37 = .ok (.bipush 36, 2) := by decide +kernel
theorem dX9_check_39 : decode cX9_check 39 = .ok (.iload_n 1, 1) := by decide +kernel
theorem dX9_check_40 : decode cX9_check 40 = .ok (.imul, 1) := by decide +kernel
theorem dX9_check_41 : decode cX9_check 41 = .ok (.iload_n 3, 1) := by decide +kernel
theorem dX9_check_42 : decode cX9_check 42 = .ok (.iadd, 1) := by decide +kernel
theorem dX9_check_43 : decode cX9_check 43 = .ok (.istore 5, 2) := by decide +kernel
theorem dX9_check_45 : decode cX9_check 45 = .ok (.iconst 0, 1) := by decide +kernel
theorem dX9_check_46 : decode cX9_check 46 = .ok (.istore 6, 2) := by decide +kernel
theorem dX9_check_48 : decode cX9_check 48 = .ok (.iload 6, 2) := by decide +kernel
theorem dX9_check_50 : decode cX9_check 50 = .ok (.aload_n 0, 1) := by decide +kernel
theorem dX9_check_51 : decode cX9_check 51 = .ok (.getfield 62, 3) := by decide +kernel
theorem dX9_check_54 : decode cX9_check 54 = .ok (.if_icmp .ge 33, 3) := by decide +kernel
theorem dX9_check_57 : decode cX9_check 57 = .ok (.aload_n 0, 1) := by decide +kernel
theorem dX9_check_58 : decode cX9_check 58 = .ok (.getfield 48, 3) := by decide +kernel
theorem dX9_check_61 : decode cX9_check 61 = .ok (.iload 5, 2) := by decide +kernel
theorem dX9_check_63 : decode cX9_check 63 = .ok (.iload 6, 2) := by decide +kernel
theorem dX9_check_65 : decode cX9_check 65 = .ok (.iadd, 1) := by decide +kernel
theorem dX9_check_66 : decode cX9_check 66 = .ok (.iaload, 1) := by decide +kernel
theorem dX9_check_67 : decode cX9_check 67 = .ok (.i2l, 1) := by decide +kernel
theorem dX9_check_68 : decode cX9_check 68 = .ok (.lconst 0, 1) := by decide +kernel
theorem dX9_check_69 : decode cX9_check 69 = .ok (.ldc2_w 177, 3) := by decide +kernel
theorem dX9_check_72 : decode cX9_check 72 = .ok (.invokestatic 58, 3) := by decide +kernel
theorem dX9_check_75 : decode cX9_check 75 = .ok (.ifCond .ne 6, 3) := by decide +kernel
theorem dX9_check_78 : decode cX9_check 78 = .ok (.bipush (-2), 2) := by decide +kernel
theorem dX9_check_80 : decode cX9_check 80 = .ok (.ireturn, 1) := by decide +kernel
theorem dX9_check_81 : decode cX9_check 81 = .ok (.iinc 6 1, 3) := by decide +kernel
theorem dX9_check_84 : decode cX9_check 84 = .ok (.goto (-36), 3) := by decide +kernel
theorem dX9_check_87 : decode cX9_check 87 = .ok (.iconst 0, 1) := by decide +kernel
theorem dX9_check_88 : decode cX9_check 88 = .ok (.istore 6, 2) := by decide +kernel
theorem dX9_check_90 : decode cX9_check 90 = .ok (.iload 6, 2) := by decide +kernel
theorem dX9_check_92 : decode cX9_check 92 = .ok (.bipush 12, 2) := by decide +kernel
theorem dX9_check_94 : decode cX9_check 94 = .ok (.if_icmp .ge 70, 3) := by decide +kernel
theorem dX9_check_97 : decode cX9_check 97 = .ok (.iconst 0, 1) := by decide +kernel
theorem dX9_check_98 : decode cX9_check 98 = .ok (.istore 7, 2) := by decide +kernel
theorem dX9_check_100 : decode cX9_check 100 = .ok (.iconst 0, 1) := by decide +kernel
theorem dX9_check_101 : decode cX9_check 101 = .ok (.istore 8, 2) := by decide +kernel
theorem dX9_check_103 : decode cX9_check 103 = .ok (.iload 8, 2) := by decide +kernel
theorem dX9_check_105 : decode cX9_check 105 = .ok (.aload_n 0, 1) := by decide +kernel
theorem dX9_check_106 : decode cX9_check 106 = .ok (.getfield 62, 3) := by decide +kernel
theorem dX9_check_109 : decode cX9_check 109 = .ok (.if_icmp .ge 37, 3) := by decide +kernel
theorem dX9_check_112 : decode cX9_check 112 = .ok (.iload 7, 2) := by decide +kernel
theorem dX9_check_114 : decode cX9_check 114 = .ok (.aload_n 0, 1) := by decide +kernel
theorem dX9_check_115 : decode cX9_check 115 = .ok (.getfield 48, 3) := by decide +kernel
theorem dX9_check_118 : decode cX9_check 118 = .ok (.iload 5, 2) := by decide +kernel
theorem dX9_check_120 : decode cX9_check 120 = .ok (.iload 8, 2) := by decide +kernel
theorem dX9_check_122 : decode cX9_check 122 = .ok (.iadd, 1) := by decide +kernel
theorem dX9_check_123 : decode cX9_check 123 = .ok (.iaload, 1) := by decide +kernel
theorem dX9_check_124 : decode cX9_check 124 = .ok (.iload 6, 2) := by decide +kernel
theorem dX9_check_126 : decode cX9_check 126 = .ok (.if_icmp .ne 10, 3) := by decide +kernel
theorem dX9_check_129 : decode cX9_check 129 = .ok (.iconst 1, 1) := by decide +kernel
theorem dX9_check_130 : decode cX9_check 130 = .ok (.iload 8, 2) := by decide +kernel
theorem dX9_check_132 : decode cX9_check 132 = .ok (.ishl, 1) := by decide +kernel
theorem dX9_check_133 : decode cX9_check 133 = .ok (.goto 4, 3) := by decide +kernel
theorem dX9_check_136 : decode cX9_check 136 = .ok (.iconst 0, 1) := by decide +kernel
theorem dX9_check_137 : decode cX9_check 137 = .ok (.ior, 1) := by decide +kernel
theorem dX9_check_138 : decode cX9_check 138 = .ok (.istore 7, 2) := by decide +kernel
theorem dX9_check_140 : decode cX9_check 140 = .ok (.iinc 8 1, 3) := by decide +kernel
theorem dX9_check_143 : decode cX9_check 143 = .ok (.goto (-40), 3) := by decide +kernel
theorem dX9_check_146 : decode cX9_check 146 = .ok (.aload_n 0, 1) := by decide +kernel
theorem dX9_check_147 : decode cX9_check 147 = .ok (.iload 7, 2) := by decide +kernel
theorem dX9_check_149 : decode cX9_check 149 = .ok (.invokevirtual 179, 3) := by decide +kernel
theorem dX9_check_152 : decode cX9_check 152 = .ok (.ifCond .ne 6, 3) := by decide +kernel
theorem dX9_check_155 : decode cX9_check 155 = .ok (.iload 6, 2) := by decide +kernel
theorem dX9_check_157 : decode cX9_check 157 = .ok (.ireturn, 1) := by decide +kernel
theorem dX9_check_158 : decode cX9_check 158 = .ok (.iinc 6 1, 3) := by decide +kernel
theorem dX9_check_161 : decode cX9_check 161 = .ok (.goto (-71), 3) := by decide +kernel
theorem dX9_check_164 : decode cX9_check 164 = .ok (.bipush (-4), 2) := by decide +kernel
theorem dX9_check_166 : decode cX9_check 166 = .ok (.ireturn, 1) := by decide +kernel
set_option maxRecDepth 20000 in
theorem ggX9_worst_X9_fits : GoodIn wsX9_worst wsX9_fits := goodIn_r _ [6, 7, 8, 9, 5, 10, 11, 12, 13, 14, 15, 16, 17, 18, 19, 20, 21, 22, 23, 24, 25, 26, 27, 28, 29, 30, 31, 32, 33, 34, 35, 36, 37] (by decide +kernel) (by decide +kernel)
set_option maxRecDepth 20000 in
theorem gX9_worst_X9_fits : GoodIn wsX9_worst (wsV RX9 139 RX9 yX9_fits wsX9_fits) := goodIn_app (goodIn_of _ (by decide +kernel)) ggX9_worst_X9_fits
theorem dX9_worst_0 : decode cX9_worst 0 = .ok (.iconst 0, 1) := by decide +kernel
theorem dX9_worst_1 : decode cX9_worst 1 = .ok (.istore 4, 2) := by decide +kernel
theorem dX9_worst_3 : decode cX9_worst 3 = .ok (.sipush (-260), 3) := by decide +kernel
theorem dX9_worst_6 : decode cX9_worst 6 = .ok (.istore 5, 2) := by decide +kernel
theorem dX9_worst_8 : decode cX9_worst 8 = .ok (.iload 5, 2) := by decide +kernel
theorem dX9_worst_10 : decode cX9_worst 10 = .ok (.sipush 260, 3) := by decide +kernel
theorem dX9_worst_13 : decode cX9_worst 13 = .ok (.if_icmp .gt 78, 3) := by decide +kernel
theorem dX9_worst_16 : decode cX9_worst 16 = .ok (.iconst 0, 1) := by decide +kernel
theorem dX9_worst_17 : decode cX9_worst 17 = .ok (.istore 6, 2) := by decide +kernel
theorem dX9_worst_19 : decode cX9_worst 19 = .ok (.iconst 0, 1) := by decide +kernel
theorem dX9_worst_20 : decode cX9_worst 20 = .ok (.istore 7, 2) := by decide +kernel
theorem dX9_worst_22 : decode cX9_worst 22 = .ok (.iload 7, 2) := by decide +kernel
theorem dX9_worst_24 : decode cX9_worst 24 = .ok (.sipush 289, 3) := by decide +kernel
theorem dX9_worst_27 : decode cX9_worst 27 = .ok (.if_icmp .ge 42, 3) := by decide +kernel
theorem dX9_worst_30 : decode cX9_worst 30 = .ok (.iload 6, 2) := by decide +kernel
theorem dX9_worst_32 : decode cX9_worst 32 = .ok (.aload_n 0, 1) := by decide +kernel
theorem dX9_worst_33 : decode cX9_worst 33 = .ok (.getfield 36, 3) := by decide +kernel
theorem dX9_worst_36 : decode cX9_worst 36 = .ok (.iload 7, 2) := by decide +kernel
theorem dX9_worst_38 : decode cX9_worst 38 = .ok (.baload, 1) := by decide +kernel
theorem dX9_worst_39 : decode cX9_worst 39 = .ok (.ifCond .eq 20, 3) := by decide +kernel
theorem dX9_worst_42 : decode cX9_worst 42 = .ok (.aload_n 0, 1) := by decide +kernel
theorem dX9_worst_43 : decode cX9_worst 43 = .ok (.iload 7, 2) := by decide +kernel
theorem dX9_worst_45 : decode cX9_worst 45 = .ok (.iload_n 2, 1) := by decide +kernel
theorem dX9_worst_46 : decode cX9_worst 46 = .ok (.iload_n 3, 1) := by decide +kernel
theorem dX9_worst_47 : decode cX9_worst 47 = .ok (.iload 5, 2) := by decide +kernel
theorem dX9_worst_49 : decode cX9_worst 49 = .ok (.invokevirtual 139, 3) := by decide +kernel
theorem dX9_worst_52 : decode cX9_worst 52 = .ok (.ifCond .eq 7, 3) := by decide +kernel
theorem dX9_worst_55 : decode cX9_worst 55 = .ok (.iconst 1, 1) := by decide +kernel
theorem dX9_worst_56 : decode cX9_worst 56 = .ok (.goto 4, 3) := by decide +kernel
theorem dX9_worst_59 : decode cX9_worst 59 = .ok (.iconst 0, 1) := by decide +kernel
theorem dX9_worst_60 : decode cX9_worst 60 = .ok (.iadd, 1) := by decide +kernel
theorem dX9_worst_61 : decode cX9_worst 61 = .ok (.istore 6, 2) := by decide +kernel
theorem dX9_worst_63 : decode cX9_worst 63 = .ok (.iinc 7 1, 3) := by decide +kernel
theorem dX9_worst_66 : decode cX9_worst 66 = .ok (.goto (-44), 3) := by decide +kernel
theorem dX9_worst_69 : decode cX9_worst 69 = .ok (.iload 6, 2) := by decide +kernel
theorem dX9_worst_71 : decode cX9_worst 71 = .ok (.iload 4, 2) := by decide +kernel
theorem dX9_worst_73 : decode cX9_worst 73 = .ok (.if_icmp .le 8, 3) := by decide +kernel
theorem dX9_worst_76 : decode cX9_worst 76 = .ok (.iload 6, 2) := by decide +kernel
theorem dX9_worst_78 : decode cX9_worst 78 = .ok (.goto 5, 3) := by decide +kernel
theorem dX9_worst_81 : decode cX9_worst 81 = .ok (.iload 4, 2) := by decide +kernel
theorem dX9_worst_83 : decode cX9_worst 83 = .ok (.istore 4, 2) := by decide +kernel
theorem dX9_worst_85 : decode cX9_worst 85 = .ok (.iinc 5 1, 3) := by decide +kernel
theorem dX9_worst_88 : decode cX9_worst 88 = .ok (.goto (-80), 3) := by decide +kernel
theorem dX9_worst_91 : decode cX9_worst 91 = .ok (.iload_n 1, 1) := by decide +kernel
theorem dX9_worst_92 : decode cX9_worst 92 = .ok (.ifCond .ge 7, 3) := by decide +kernel
theorem dX9_worst_95 : decode cX9_worst 95 = .ok (.iconst 0, 1) := by decide +kernel
theorem dX9_worst_96 : decode cX9_worst 96 = .ok (.goto 5, 3) := by decide +kernel
theorem dX9_worst_99 : decode cX9_worst 99 = .ok (.iload 4, 2) := by decide +kernel
theorem dX9_worst_101 : decode cX9_worst 101 = .ok (.ireturn, 1) := by decide +kernel
set_option maxRecDepth 20000 in
theorem ggX9_laysLet_X9_isLet : GoodIn wsX9_laysLet wsX9_isLet := goodIn_r _ [6, 7, 8, 9, 10, 5, 11, 12, 13, 14, 15, 16, 17, 18, 19, 20, 21, 22, 23, 24, 25, 26, 27, 28, 29, 30, 31, 32, 33, 34, 35, 36, 37, 38, 39, 40, 41, 42, 43, 44, 45, 46, 47, 48, 49, 50] (by decide +kernel) (by decide +kernel)
set_option maxRecDepth 20000 in
theorem gX9_laysLet_X9_isLet : GoodIn wsX9_laysLet (wsV RX9 150 RX9 yX9_isLet wsX9_isLet) := goodIn_app (goodIn_of _ (by decide +kernel)) ggX9_laysLet_X9_isLet
theorem dX9_laysLet_0 : decode cX9_laysLet 0 = .ok (.iconst 0, 1) := by decide +kernel
theorem dX9_laysLet_1 : decode cX9_laysLet 1 = .ok (.istore_n 2, 1) := by decide +kernel
theorem dX9_laysLet_2 : decode cX9_laysLet 2 = .ok (.iconst 0, 1) := by decide +kernel
theorem dX9_laysLet_3 : decode cX9_laysLet 3 = .ok (.istore_n 3, 1) := by decide +kernel
theorem dX9_laysLet_4 : decode cX9_laysLet 4 = .ok (.iload_n 3, 1) := by decide +kernel
theorem dX9_laysLet_5 : decode cX9_laysLet 5 = .ok (.sipush 289, 3) := by decide +kernel
theorem dX9_laysLet_8 : decode cX9_laysLet 8 = .ok (.if_icmp .ge 38, 3) := by decide +kernel
theorem dX9_laysLet_11 : decode cX9_laysLet 11 = .ok (.aload_n 0, 1) := by decide +kernel
theorem dX9_laysLet_12 : decode cX9_laysLet 12 = .ok (.getfield 36, 3) := by decide +kernel
theorem dX9_laysLet_15 : decode cX9_laysLet 15 = .ok (.iload_n 3, 1) := by decide +kernel
theorem dX9_laysLet_16 : decode cX9_laysLet 16 = .ok (.aload_n 0, 1) := by decide +kernel
theorem dX9_laysLet_17 : decode cX9_laysLet 17 = .ok (.iload_n 1, 1) := by decide +kernel
theorem dX9_laysLet_18 : decode cX9_laysLet 18 = .ok (.iload_n 3, 1) := by decide +kernel
theorem dX9_laysLet_19 : decode cX9_laysLet 19 = .ok (.invokevirtual 150, 3) := by decide +kernel
theorem dX9_laysLet_22 : decode cX9_laysLet 22 = .ok (.bastore, 1) := by decide +kernel
theorem dX9_laysLet_23 : decode cX9_laysLet 23 = .ok (.iload_n 2, 1) := by decide +kernel
theorem dX9_laysLet_24 : decode cX9_laysLet 24 = .ok (.aload_n 0, 1) := by decide +kernel
theorem dX9_laysLet_25 : decode cX9_laysLet 25 = .ok (.getfield 36, 3) := by decide +kernel
theorem dX9_laysLet_28 : decode cX9_laysLet 28 = .ok (.iload_n 3, 1) := by decide +kernel
theorem dX9_laysLet_29 : decode cX9_laysLet 29 = .ok (.baload, 1) := by decide +kernel
theorem dX9_laysLet_30 : decode cX9_laysLet 30 = .ok (.ifCond .eq 7, 3) := by decide +kernel
theorem dX9_laysLet_33 : decode cX9_laysLet 33 = .ok (.iconst 1, 1) := by decide +kernel
theorem dX9_laysLet_34 : decode cX9_laysLet 34 = .ok (.goto 4, 3) := by decide +kernel
theorem dX9_laysLet_37 : decode cX9_laysLet 37 = .ok (.iconst 0, 1) := by decide +kernel
theorem dX9_laysLet_38 : decode cX9_laysLet 38 = .ok (.iadd, 1) := by decide +kernel
theorem dX9_laysLet_39 : decode cX9_laysLet 39 = .ok (.istore_n 2, 1) := by decide +kernel
theorem dX9_laysLet_40 : decode cX9_laysLet 40 = .ok (.iinc 3 1, 3) := by decide +kernel
theorem dX9_laysLet_43 : decode cX9_laysLet 43 = .ok (.goto (-39), 3) := by decide +kernel
theorem dX9_laysLet_46 : decode cX9_laysLet 46 = .ok (.iload_n 2, 1) := by decide +kernel
theorem dX9_laysLet_47 : decode cX9_laysLet 47 = .ok (.ireturn, 1) := by decide +kernel
set_option maxRecDepth 20000 in
theorem ggX9_tries_X9_isHeap : GoodIn wsX9_tries wsX9_isHeap := goodIn_r _ [7, 8, 9, 10, 6, 11, 46, 47, 48, 49, 50, 51, 52, 53, 54, 55, 56, 57, 58, 59, 60, 61, 62, 63, 64, 65, 66, 67, 68, 69] (by decide +kernel) (by decide +kernel)
set_option maxRecDepth 20000 in
theorem gX9_tries_X9_isHeap : GoodIn wsX9_tries (wsV RX9 153 RX9 yX9_isHeap wsX9_isHeap) := goodIn_app (goodIn_of _ (by decide +kernel)) ggX9_tries_X9_isHeap
set_option maxRecDepth 20000 in
theorem ggX9_tries_X9_isSmall : GoodIn wsX9_tries wsX9_isSmall := goodIn_r _ [14, 15, 16, 9, 10, 6, 11] (by decide +kernel) (by decide +kernel)
set_option maxRecDepth 20000 in
theorem gX9_tries_X9_isSmall : GoodIn wsX9_tries (va_wsS RX9 65 yX9_isSmall wsX9_isSmall) := goodIn_app (goodIn_of _ (by decide +kernel)) ggX9_tries_X9_isSmall
set_option maxRecDepth 20000 in
theorem ggX9_tries_X9_in : GoodIn wsX9_tries wsX9_in := goodIn_r _ [11] (by decide +kernel) (by decide +kernel)
set_option maxRecDepth 20000 in
theorem gX9_tries_X9_in : GoodIn wsX9_tries (va_wsS RX9 58 yX9_in wsX9_in) := goodIn_app (goodIn_of _ (by decide +kernel)) ggX9_tries_X9_in
set_option maxRecDepth 20000 in
theorem ggX9_tries_X9_laysLet : GoodIn wsX9_tries wsX9_laysLet := goodIn_r _ [20, 21, 22, 23, 24, 6, 25, 8, 26, 27, 28, 29, 30, 31, 32, 33, 34, 35, 36, 37, 38, 39, 40, 41, 9, 10, 11, 46, 47, 48, 49, 50, 51, 52, 53, 54, 55, 56, 57, 58, 59, 60, 61, 62, 63, 64, 65, 66, 67, 68, 69] (by decide +kernel) (by decide +kernel)
set_option maxRecDepth 20000 in
theorem gX9_tries_X9_laysLet : GoodIn wsX9_tries (wsV RX9 186 RX9 yX9_laysLet wsX9_laysLet) := goodIn_app (goodIn_of _ (by decide +kernel)) ggX9_tries_X9_laysLet
set_option maxRecDepth 20000 in
theorem ggX9_tries_X9_worst : GoodIn wsX9_tries wsX9_worst := goodIn_r _ [45, 21, 34, 35, 36, 6, 37, 38, 39, 40, 41, 9, 10, 11, 46, 47, 48, 49, 50, 51, 52, 53, 54, 55, 56, 57, 58, 59, 60, 61, 62, 63, 64, 65, 66, 67, 68, 69] (by decide +kernel) (by decide +kernel)
set_option maxRecDepth 20000 in
theorem gX9_tries_X9_worst : GoodIn wsX9_tries (wsV RX9 189 RX9 yX9_worst wsX9_worst) := goodIn_app (goodIn_of _ (by decide +kernel)) ggX9_tries_X9_worst
theorem dX9_tries_0 : decode cX9_tries 0 = .ok (.aload_n 0, 1) := by decide +kernel
theorem dX9_tries_1 : decode cX9_tries 1 = .ok (.iload_n 1, 1) := by decide +kernel
theorem dX9_tries_2 : decode cX9_tries 2 = .ok (.invokevirtual 153, 3) := by decide +kernel
theorem dX9_tries_5 : decode cX9_tries 5 = .ok (.ifCond .eq 24, 3) := by decide +kernel
theorem dX9_tries_8 : decode cX9_tries 8 = .ok (.iload_n 2, 1) := by decide +kernel
theorem dX9_tries_9 : decode cX9_tries 9 = .ok (.invokestatic 65, 3) := by decide +kernel
theorem dX9_tries_12 : decode cX9_tries 12 = .ok (.ifCond .eq 17, 3) := by decide +kernel
theorem dX9_tries_15 : decode cX9_tries 15 = .ok (.iload_n 3, 1) := by decide +kernel
theorem dX9_tries_16 : decode cX9_tries 16 = .ok (.i2l, 1) := by decide +kernel
theorem dX9_tries_17 : decode cX9_tries 17 = .ok (.ldc2_w 182, 3) := by decide +kernel
theorem dX9_tries_20 : decode cX9_tries 20 = .ok (.ldc2_w 184, 3) := by decide +kernel
theorem dX9_tries_23 : decode cX9_tries 23 = .ok (.invokestatic 58, 3) := by decide +kernel
theorem dX9_tries_26 : decode cX9_tries 26 = .ok (.ifCond .ne 5, 3) := by decide +kernel
theorem dX9_tries_29 : decode cX9_tries 29 = .ok (.iconst (-1), 1) := by decide +kernel
theorem dX9_tries_30 : decode cX9_tries 30 = .ok (.ireturn, 1) := by decide +kernel
theorem dX9_tries_31 : decode cX9_tries 31 = .ok (.aload_n 0, 1) := by decide +kernel
theorem dX9_tries_32 : decode cX9_tries 32 = .ok (.iload_n 1, 1) := by decide +kernel
theorem dX9_tries_33 : decode cX9_tries 33 = .ok (.invokevirtual 186, 3) := by decide +kernel
theorem dX9_tries_36 : decode cX9_tries 36 = .ok (.ifCond .ne 8, 3) := by decide +kernel
theorem dX9_tries_39 : decode cX9_tries 39 = .ok (.bipush (-4), 2) := by decide +kernel
theorem dX9_tries_41 : decode cX9_tries 41 = .ok (.goto 10, 3) := by decide +kernel
theorem dX9_tries_44 : decode cX9_tries 44 = .ok (.aload_n 0, 1) := by decide +kernel
theorem dX9_tries_45 : decode cX9_tries 45 = .ok (.iload_n 1, 1) := by decide +kernel
theorem dX9_tries_46 : decode cX9_tries 46 = .ok (.iload_n 2, 1) := by decide +kernel
theorem dX9_tries_47 : decode cX9_tries 47 = .ok (.iload_n 3, 1) := by decide +kernel
theorem dX9_tries_48 : decode cX9_tries 48 = .ok (.invokevirtual 189, 3) := by decide +kernel
theorem dX9_tries_51 : decode cX9_tries 51 = .ok (.ireturn, 1) := by decide +kernel
theorem dX9_pushAt_0 : decode cX9_pushAt 0 = .ok (.iload_n 0, 1) := by decide +kernel
theorem dX9_pushAt_1 : decode cX9_pushAt 1 = .ok (.iconst 2, 1) := by decide +kernel
theorem dX9_pushAt_2 : decode cX9_pushAt 2 = .ok (.irem, 1) := by decide +kernel
theorem dX9_pushAt_3 : decode cX9_pushAt 3 = .ok (.iconst 1, 1) := by decide +kernel
theorem dX9_pushAt_4 : decode cX9_pushAt 4 = .ok (.if_icmp .ne 11, 3) := by decide +kernel
theorem dX9_pushAt_7 : decode cX9_pushAt 7 = .ok (.iload_n 0, 1) := by decide +kernel
theorem dX9_pushAt_8 : decode cX9_pushAt 8 = .ok (.iconst 1, 1) := by decide +kernel
theorem dX9_pushAt_9 : decode cX9_pushAt 9 = .ok (.iadd, 1) := by decide +kernel
theorem dX9_pushAt_10 : decode cX9_pushAt 10 = .ok (.iconst 2, 1) := by decide +kernel
theorem dX9_pushAt_11 : decode cX9_pushAt 11 = .ok (.idiv, 1) := by decide +kernel
theorem dX9_pushAt_12 : decode cX9_pushAt 12 = .ok (.goto 7, 3) := by decide +kernel
theorem dX9_pushAt_15 : decode cX9_pushAt 15 = .ok (.iload_n 0, 1) := by decide +kernel
theorem dX9_pushAt_16 : decode cX9_pushAt 16 = .ok (.ineg, 1) := by decide +kernel
theorem dX9_pushAt_17 : decode cX9_pushAt 17 = .ok (.iconst 2, 1) := by decide +kernel
theorem dX9_pushAt_18 : decode cX9_pushAt 18 = .ok (.idiv, 1) := by decide +kernel
theorem dX9_pushAt_19 : decode cX9_pushAt 19 = .ok (.ireturn, 1) := by decide +kernel
set_option maxRecDepth 20000 in
theorem ggX9_best_X9_isHeap : GoodIn wsX9_best wsX9_isHeap := goodIn_r _ [7, 8, 9, 10, 6, 11, 49, 50, 51, 52, 53, 54, 55, 56, 57, 58, 59, 60, 61, 62, 63, 64, 65, 66, 67, 68, 69, 70, 71, 72] (by decide +kernel) (by decide +kernel)
set_option maxRecDepth 20000 in
theorem gX9_best_X9_isHeap : GoodIn wsX9_best (wsV RX9 153 RX9 yX9_isHeap wsX9_isHeap) := goodIn_app (goodIn_of _ (by decide +kernel)) ggX9_best_X9_isHeap
set_option maxRecDepth 20000 in
theorem ggX9_best_X9_isSmall : GoodIn wsX9_best wsX9_isSmall := goodIn_r _ [14, 15, 16, 9, 10, 6, 11] (by decide +kernel) (by decide +kernel)
set_option maxRecDepth 20000 in
theorem gX9_best_X9_isSmall : GoodIn wsX9_best (va_wsS RX9 65 yX9_isSmall wsX9_isSmall) := goodIn_app (goodIn_of _ (by decide +kernel)) ggX9_best_X9_isSmall
set_option maxRecDepth 20000 in
theorem ggX9_best_X9_laysLet : GoodIn wsX9_best wsX9_laysLet := goodIn_r _ [20, 21, 22, 23, 24, 6, 25, 8, 26, 27, 28, 29, 30, 31, 32, 33, 34, 35, 36, 37, 38, 39, 40, 41, 9, 10, 11, 49, 50, 51, 52, 53, 54, 55, 56, 57, 58, 59, 60, 61, 62, 63, 64, 65, 66, 67, 68, 69, 70, 71, 72] (by decide +kernel) (by decide +kernel)
set_option maxRecDepth 20000 in
theorem gX9_best_X9_laysLet : GoodIn wsX9_best (wsV RX9 186 RX9 yX9_laysLet wsX9_laysLet) := goodIn_app (goodIn_of _ (by decide +kernel)) ggX9_best_X9_laysLet
set_option maxRecDepth 20000 in
theorem ggX9_best_X9_pushAt : GoodIn wsX9_best wsX9_pushAt := goodIn_r _ [44] (by decide +kernel) (by decide +kernel)
set_option maxRecDepth 20000 in
theorem gX9_best_X9_pushAt : GoodIn wsX9_best (va_wsS RX9 192 yX9_pushAt wsX9_pushAt) := goodIn_app (goodIn_of _ (by decide +kernel)) ggX9_best_X9_pushAt
set_option maxRecDepth 20000 in
theorem ggX9_best_X9_worst : GoodIn wsX9_best wsX9_worst := goodIn_r _ [48, 21, 34, 35, 36, 6, 37, 38, 39, 40, 41, 9, 10, 11, 49, 50, 51, 52, 53, 54, 55, 56, 57, 58, 59, 60, 61, 62, 63, 64, 65, 66, 67, 68, 69, 70, 71, 72] (by decide +kernel) (by decide +kernel)
set_option maxRecDepth 20000 in
theorem gX9_best_X9_worst : GoodIn wsX9_best (wsV RX9 189 RX9 yX9_worst wsX9_worst) := goodIn_app (goodIn_of _ (by decide +kernel)) ggX9_best_X9_worst
theorem dX9_best_0 : decode cX9_best 0 = .ok (.aload_n 0, 1) := by decide +kernel
theorem dX9_best_1 : decode cX9_best 1 = .ok (.iload_n 1, 1) := by decide +kernel
theorem dX9_best_2 : decode cX9_best 2 = .ok (.invokevirtual 153, 3) := by decide +kernel
theorem dX9_best_5 : decode cX9_best 5 = .ok (.ifCond .eq 10, 3) := by decide +kernel
theorem dX9_best_8 : decode cX9_best 8 = .ok (.iload_n 2, 1) := by decide +kernel
theorem dX9_best_9 : decode cX9_best 9 = .ok (.invokestatic 65, 3) := by decide +kernel
theorem dX9_best_12 : decode cX9_best 12 = .ok (.ifCond .ne 6, 3) := by decide +kernel
theorem dX9_best_15 : decode cX9_best 15 = .ok (.ldc 129, 2) := by decide +kernel
theorem dX9_best_17 : decode cX9_best 17 = .ok (.ireturn, 1) := by decide +kernel
theorem dX9_best_18 : decode cX9_best 18 = .ok (.aload_n 0, 1) := by decide +kernel
theorem dX9_best_19 : decode cX9_best 19 = .ok (.iload_n 1, 1) := by decide +kernel
theorem dX9_best_20 : decode cX9_best 20 = .ok (.invokevirtual 186, 3) := by decide +kernel
theorem dX9_best_23 : decode cX9_best 23 = .ok (.ifCond .ne 6, 3) := by decide +kernel
theorem dX9_best_26 : decode cX9_best 26 = .ok (.ldc 130, 2) := by decide +kernel
theorem dX9_best_28 : decode cX9_best 28 = .ok (.ireturn, 1) := by decide +kernel
theorem dX9_best_29 : decode cX9_best 29 = .ok (.iconst 0, 1) := by decide +kernel
theorem dX9_best_30 : decode cX9_best 30 = .ok (.istore_n 3, 1) := by decide +kernel
theorem dX9_best_31 : decode cX9_best 31 = .ok (.sipush 1000, 3) := by decide +kernel
theorem dX9_best_34 : decode cX9_best 34 = .ok (.istore 4, 2) := by decide +kernel
theorem dX9_best_36 : decode cX9_best 36 = .ok (.iconst 0, 1) := by decide +kernel
theorem dX9_best_37 : decode cX9_best 37 = .ok (.istore 5, 2) := by decide +kernel
theorem dX9_best_39 : decode cX9_best 39 = .ok (.iload 5, 2) := by decide +kernel
theorem dX9_best_41 : decode cX9_best 41 = .ok (.bipush 19, 2) := by decide +kernel
theorem dX9_best_43 : decode cX9_best 43 = .ok (.if_icmp .ge 55, 3) := by decide +kernel
theorem dX9_best_46 : decode cX9_best 46 = .ok (.aload_n 0, 1) := by decide +kernel
theorem dX9_best_47 : decode cX9_best 47 = .ok (.iload_n 1, 1) := by decide +kernel
theorem dX9_best_48 : decode cX9_best 48 = .ok (.iload_n 2, 1) := by decide +kernel
theorem dX9_best_49 : decode cX9_best 49 = .ok (.iload 5, 2) := by decide +kernel
theorem dX9_best_51 : decode cX9_best 51 = .ok (.invokestatic 192, 3) := by decide +kernel
theorem dX9_best_54 : decode cX9_best 54 = .ok (.invokevirtual 189, 3) := by decide +kernel
theorem dX9_best_57 : decode cX9_best 57 = .ok (.istore 6, 2) := by decide +kernel
theorem dX9_best_59 : decode cX9_best 59 = .ok (.iload 6, 2) := by decide +kernel
theorem dX9_best_61 : decode cX9_best 61 = .ok (.iload 4, 2) := by decide +kernel
theorem dX9_best_63 : decode cX9_best 63 = .ok (.if_icmp .ge 11, 3) := by decide +kernel
theorem dX9_best_66 : decode cX9_best 66 = .ok (.iload 5, 2) := by decide +kernel
theorem dX9_best_68 : decode cX9_best 68 = .ok (.invokestatic 192, 3) := by decide +kernel
theorem dX9_best_71 : decode cX9_best 71 = .ok (.goto 4, 3) := by decide +kernel
theorem dX9_best_74 : decode cX9_best 74 = .ok (.iload_n 3, 1) := by decide +kernel
theorem dX9_best_75 : decode cX9_best 75 = .ok (.istore_n 3, 1) := by decide +kernel
theorem dX9_best_76 : decode cX9_best 76 = .ok (.iload 6, 2) := by decide +kernel
theorem dX9_best_78 : decode cX9_best 78 = .ok (.iload 4, 2) := by decide +kernel
theorem dX9_best_80 : decode cX9_best 80 = .ok (.if_icmp .ge 8, 3) := by decide +kernel
theorem dX9_best_83 : decode cX9_best 83 = .ok (.iload 6, 2) := by decide +kernel
theorem dX9_best_85 : decode cX9_best 85 = .ok (.goto 5, 3) := by decide +kernel
theorem dX9_best_88 : decode cX9_best 88 = .ok (.iload 4, 2) := by decide +kernel
theorem dX9_best_90 : decode cX9_best 90 = .ok (.istore 4, 2) := by decide +kernel
theorem dX9_best_92 : decode cX9_best 92 = .ok (.iinc 5 1, 3) := by decide +kernel
theorem dX9_best_95 : decode cX9_best 95 = .ok (.goto (-56), 3) := by decide +kernel
theorem dX9_best_98 : decode cX9_best 98 = .ok (.iload_n 3, 1) := by decide +kernel
theorem dX9_best_99 : decode cX9_best 99 = .ok (.ireturn, 1) := by decide +kernel
theorem dX9_lower_0 : decode cX9_lower 0 = .ok (.iload_n 0, 1) := by decide +kernel
theorem dX9_lower_1 : decode cX9_lower 1 = .ok (.iconst 4, 1) := by decide +kernel
theorem dX9_lower_2 : decode cX9_lower 2 = .ok (.idiv, 1) := by decide +kernel
theorem dX9_lower_3 : decode cX9_lower 3 = .ok (.istore_n 1, 1) := by decide +kernel
theorem dX9_lower_4 : decode cX9_lower 4 = .ok (.iload_n 0, 1) := by decide +kernel
theorem dX9_lower_5 : decode cX9_lower 5 = .ok (.ifCond .ge 16, 3) := by decide +kernel
theorem dX9_lower_8 : decode cX9_lower 8 = .ok (.iconst 4, 1) := by decide +kernel
theorem dX9_lower_9 : decode cX9_lower 9 = .ok (.iload_n 1, 1) := by decide +kernel
theorem dX9_lower_10 : decode cX9_lower 10 = .ok (.imul, 1) := by decide +kernel
theorem dX9_lower_11 : decode cX9_lower 11 = .ok (.iload_n 0, 1) := by decide +kernel
theorem dX9_lower_12 : decode cX9_lower 12 = .ok (.if_icmp .eq 9, 3) := by decide +kernel
theorem dX9_lower_15 : decode cX9_lower 15 = .ok (.iload_n 1, 1) := by decide +kernel
theorem dX9_lower_16 : decode cX9_lower 16 = .ok (.iconst 1, 1) := by decide +kernel
theorem dX9_lower_17 : decode cX9_lower 17 = .ok (.isub, 1) := by decide +kernel
theorem dX9_lower_18 : decode cX9_lower 18 = .ok (.goto 4, 3) := by decide +kernel
theorem dX9_lower_21 : decode cX9_lower 21 = .ok (.iload_n 1, 1) := by decide +kernel
theorem dX9_lower_22 : decode cX9_lower 22 = .ok (.ireturn, 1) := by decide +kernel
set_option maxRecDepth 20000 in
theorem ggX9_higher_X9_lower : GoodIn wsX9_higher wsX9_lower := goodIn_r _ [4] (by decide +kernel) (by decide +kernel)
set_option maxRecDepth 20000 in
theorem gX9_higher_X9_lower : GoodIn wsX9_higher (va_wsS RX9 195 yX9_lower wsX9_lower) := goodIn_app (goodIn_of _ (by decide +kernel)) ggX9_higher_X9_lower
theorem dX9_higher_0 : decode cX9_higher 0 = .ok (.iload_n 0, 1) := by decide +kernel
theorem dX9_higher_1 : decode cX9_higher 1 = .ok (.ineg, 1) := by decide +kernel
theorem dX9_higher_2 : decode cX9_higher 2 = .ok (.invokestatic 195, 3) := by decide +kernel
theorem dX9_higher_5 : decode cX9_higher 5 = .ok (.ineg, 1) := by decide +kernel
theorem dX9_higher_6 : decode cX9_higher 6 = .ok (.ireturn, 1) := by decide +kernel
set_option maxRecDepth 20000 in
theorem ggX9_apart_X9_isLaw : GoodIn wsX9_apart wsX9_isLaw := goodIn_r _ [7, 8, 9, 10, 6, 11] (by decide +kernel) (by decide +kernel)
set_option maxRecDepth 20000 in
theorem gX9_apart_X9_isLaw : GoodIn wsX9_apart (va_wsS RX9 143 yX9_isLaw wsX9_isLaw) := goodIn_app (goodIn_of _ (by decide +kernel)) ggX9_apart_X9_isLaw
set_option maxRecDepth 20000 in
theorem ggX9_apart_X9_isSmall : GoodIn wsX9_apart wsX9_isSmall := goodIn_r _ [14, 15, 16, 9, 10, 6, 11] (by decide +kernel) (by decide +kernel)
set_option maxRecDepth 20000 in
theorem gX9_apart_X9_isSmall : GoodIn wsX9_apart (va_wsS RX9 65 yX9_isSmall wsX9_isSmall) := goodIn_app (goodIn_of _ (by decide +kernel)) ggX9_apart_X9_isSmall
set_option maxRecDepth 20000 in
theorem ggX9_apart_X9_pushAt : GoodIn wsX9_apart wsX9_pushAt := goodIn_r _ [19] (by decide +kernel) (by decide +kernel)
set_option maxRecDepth 20000 in
theorem gX9_apart_X9_pushAt : GoodIn wsX9_apart (va_wsS RX9 192 yX9_pushAt wsX9_pushAt) := goodIn_app (goodIn_of _ (by decide +kernel)) ggX9_apart_X9_pushAt
set_option maxRecDepth 20000 in
theorem ggX9_apart_X9_sumOf : GoodIn wsX9_apart wsX9_sumOf := goodIn_r _ [22] (by decide +kernel) (by decide +kernel)
set_option maxRecDepth 20000 in
theorem gX9_apart_X9_sumOf : GoodIn wsX9_apart (va_wsS RX9 135 yX9_sumOf wsX9_sumOf) := goodIn_app (goodIn_of _ (by decide +kernel)) ggX9_apart_X9_sumOf
set_option maxRecDepth 20000 in
theorem ggX9_apart_X9_higher : GoodIn wsX9_apart wsX9_higher := goodIn_r _ [25, 26, 27, 6, 28] (by decide +kernel) (by decide +kernel)
set_option maxRecDepth 20000 in
theorem gX9_apart_X9_higher : GoodIn wsX9_apart (va_wsS RX9 198 yX9_higher wsX9_higher) := goodIn_app (goodIn_of _ (by decide +kernel)) ggX9_apart_X9_higher
set_option maxRecDepth 20000 in
theorem ggX9_apart_X9_lower : GoodIn wsX9_apart wsX9_lower := goodIn_r _ [28] (by decide +kernel) (by decide +kernel)
set_option maxRecDepth 20000 in
theorem gX9_apart_X9_lower : GoodIn wsX9_apart (va_wsS RX9 195 yX9_lower wsX9_lower) := goodIn_app (goodIn_of _ (by decide +kernel)) ggX9_apart_X9_lower
theorem dX9_apart_0 : decode cX9_apart 0 = .ok (.iload_n 1, 1) := by decide +kernel
theorem dX9_apart_1 : decode cX9_apart 1 = .ok (.invokestatic 143, 3) := by decide +kernel
theorem dX9_apart_4 : decode cX9_apart 4 = .ok (.ifCond .eq 17, 3) := by decide +kernel
theorem dX9_apart_7 : decode cX9_apart 7 = .ok (.iload_n 2, 1) := by decide +kernel
theorem dX9_apart_8 : decode cX9_apart 8 = .ok (.invokestatic 143, 3) := by decide +kernel
theorem dX9_apart_11 : decode cX9_apart 11 = .ok (.ifCond .eq 10, 3) := by decide +kernel
theorem dX9_apart_14 : decode cX9_apart 14 = .ok (.iload_n 3, 1) := by decide +kernel
theorem dX9_apart_15 : decode cX9_apart 15 = .ok (.invokestatic 65, 3) := by decide +kernel
theorem dX9_apart_18 : decode cX9_apart 18 = .ok (.ifCond .ne 6, 3) := by decide +kernel
theorem dX9_apart_21 : decode cX9_apart 21 = .ok (.ldc 129, 2) := by decide +kernel
theorem dX9_apart_23 : decode cX9_apart 23 = .ok (.ireturn, 1) := by decide +kernel
theorem dX9_apart_24 : decode cX9_apart 24 = .ok (.iconst 0, 1) := by decide +kernel
theorem dX9_apart_25 : decode cX9_apart 25 = .ok (.istore 4, 2) := by decide +kernel
theorem dX9_apart_27 : decode cX9_apart 27 = .ok (.iload 4, 2) := by decide +kernel
theorem dX9_apart_29 : decode cX9_apart 29 = .ok (.bipush 19, 2) := by decide +kernel
theorem dX9_apart_31 : decode cX9_apart 31 = .ok (.if_icmp .ge 98, 3) := by decide +kernel
theorem dX9_apart_34 : decode cX9_apart 34 = .ok (.iload_n 1, 1) := by decide +kernel
theorem dX9_apart_35 : decode cX9_apart 35 = .ok (.iload_n 3, 1) := by decide +kernel
theorem dX9_apart_36 : decode cX9_apart 36 = .ok (.iload 4, 2) := by decide +kernel
theorem dX9_apart_38 : decode cX9_apart 38 = .ok (.invokestatic 192, 3) := by decide +kernel
theorem dX9_apart_41 : decode cX9_apart 41 = .ok (.invokestatic 135, 3) := by decide +kernel
theorem dX9_apart_44 : decode cX9_apart 44 = .ok (.istore 5, 2) := by decide +kernel
theorem dX9_apart_46 : decode cX9_apart 46 = .ok (.iload_n 2, 1) := by decide +kernel
theorem dX9_apart_47 : decode cX9_apart 47 = .ok (.iload_n 3, 1) := by decide +kernel
theorem dX9_apart_48 : decode cX9_apart 48 = .ok (.iload 4, 2) := by decide +kernel
theorem dX9_apart_50 : decode cX9_apart 50 = .ok (.invokestatic 192, 3) := by decide +kernel
theorem dX9_apart_53 : decode cX9_apart 53 = .ok (.invokestatic 135, 3) := by decide +kernel
theorem dX9_apart_56 : decode cX9_apart 56 = .ok (.istore 6, 2) := by decide +kernel
theorem dX9_apart_58 : decode cX9_apart 58 = .ok (.iload 5, 2) := by decide +kernel
theorem dX9_apart_60 : decode cX9_apart 60 = .ok (.iload 6, 2) := by decide +kernel
theorem dX9_apart_62 : decode cX9_apart 62 = .ok (.if_icmp .le 8, 3) := by decide +kernel
theorem dX9_apart_65 : decode cX9_apart 65 = .ok (.iload 5, 2) := by decide +kernel
theorem dX9_apart_67 : decode cX9_apart 67 = .ok (.goto 5, 3) := by decide +kernel
theorem dX9_apart_70 : decode cX9_apart 70 = .ok (.iload 6, 2) := by decide +kernel
theorem dX9_apart_72 : decode cX9_apart 72 = .ok (.iconst 4, 1) := by decide +kernel
theorem dX9_apart_73 : decode cX9_apart 73 = .ok (.aload_n 0, 1) := by decide +kernel
theorem dX9_apart_74 : decode cX9_apart 74 = .ok (.getfield 23, 3) := by decide +kernel
theorem dX9_apart_77 : decode cX9_apart 77 = .ok (.imul, 1) := by decide +kernel
theorem dX9_apart_78 : decode cX9_apart 78 = .ok (.isub, 1) := by decide +kernel
theorem dX9_apart_79 : decode cX9_apart 79 = .ok (.istore 7, 2) := by decide +kernel
theorem dX9_apart_81 : decode cX9_apart 81 = .ok (.iload 5, 2) := by decide +kernel
theorem dX9_apart_83 : decode cX9_apart 83 = .ok (.iload 6, 2) := by decide +kernel
theorem dX9_apart_85 : decode cX9_apart 85 = .ok (.if_icmp .ge 8, 3) := by decide +kernel
theorem dX9_apart_88 : decode cX9_apart 88 = .ok (.iload 5, 2) := by decide +kernel
theorem dX9_apart_90 : decode cX9_apart 90 = .ok (.goto 5, 3) := by decide +kernel
theorem dX9_apart_93 : decode cX9_apart 93 = .ok (.iload 6, 2) := by decide +kernel
theorem dX9_apart_95 : decode cX9_apart 95 = .ok (.iconst 4, 1) := by decide +kernel
theorem dX9_apart_96 : decode cX9_apart 96 = .ok (.aload_n 0, 1) := by decide +kernel
theorem dX9_apart_97 : decode cX9_apart 97 = .ok (.getfield 23, 3) := by decide +kernel
theorem dX9_apart_100 : decode cX9_apart 100 = .ok (.imul, 1) := by decide +kernel
theorem dX9_apart_101 : decode cX9_apart 101 = .ok (.iadd, 1) := by decide +kernel
theorem dX9_apart_102 : decode cX9_apart 102 = .ok (.istore 8, 2) := by decide +kernel
theorem dX9_apart_104 : decode cX9_apart 104 = .ok (.iload 7, 2) := by decide +kernel
theorem dX9_apart_106 : decode cX9_apart 106 = .ok (.invokestatic 198, 3) := by decide +kernel
theorem dX9_apart_109 : decode cX9_apart 109 = .ok (.iload 8, 2) := by decide +kernel
theorem dX9_apart_111 : decode cX9_apart 111 = .ok (.invokestatic 195, 3) := by decide +kernel
theorem dX9_apart_114 : decode cX9_apart 114 = .ok (.if_icmp .le 9, 3) := by decide +kernel
theorem dX9_apart_117 : decode cX9_apart 117 = .ok (.iload 4, 2) := by decide +kernel
theorem dX9_apart_119 : decode cX9_apart 119 = .ok (.invokestatic 192, 3) := by decide +kernel
theorem dX9_apart_122 : decode cX9_apart 122 = .ok (.ireturn, 1) := by decide +kernel
theorem dX9_apart_123 : decode cX9_apart 123 = .ok (.iinc 4 1, 3) := by decide +kernel
theorem dX9_apart_126 : decode cX9_apart 126 = .ok (.goto (-99), 3) := by decide +kernel
theorem dX9_apart_129 : decode cX9_apart 129 = .ok (.ldc 130, 2) := by decide +kernel
theorem dX9_apart_131 : decode cX9_apart 131 = .ok (.ireturn, 1) := by decide +kernel
set_option maxRecDepth 20000 in
theorem ggX9_know_X9_isLaw : GoodIn wsX9_know wsX9_isLaw := goodIn_r _ [7, 8, 9, 10, 6, 11] (by decide +kernel) (by decide +kernel)
set_option maxRecDepth 20000 in
theorem gX9_know_X9_isLaw : GoodIn wsX9_know (va_wsS RX9 143 yX9_isLaw wsX9_isLaw) := goodIn_app (goodIn_of _ (by decide +kernel)) ggX9_know_X9_isLaw
theorem dX9_know_0 : decode cX9_know 0 = .ok (.iload_n 1, 1) := by decide +kernel
theorem dX9_know_1 : decode cX9_know 1 = .ok (.invokestatic 143, 3) := by decide +kernel
theorem dX9_know_4 : decode cX9_know 4 = .ok (.ifCond .ne 5, 3) := by decide +kernel
theorem dX9_know_7 : decode cX9_know 7 = .ok (.iconst (-1), 1) := by decide +kernel
theorem dX9_know_8 : decode cX9_know 8 = .ok (.ireturn, 1) := by decide +kernel
theorem dX9_know_9 : decode cX9_know 9 = .ok (.iconst 0, 1) := by decide +kernel
theorem dX9_know_10 : decode cX9_know 10 = .ok (.istore_n 2, 1) := by decide +kernel
theorem dX9_know_11 : decode cX9_know 11 = .ok (.iload_n 2, 1) := by decide +kernel
theorem dX9_know_12 : decode cX9_know 12 = .ok (.aload_n 0, 1) := by decide +kernel
theorem dX9_know_13 : decode cX9_know 13 = .ok (.getfield 156, 3) := by decide +kernel
theorem dX9_know_16 : decode cX9_know 16 = .ok (.if_icmp .ge 22, 3) := by decide +kernel
theorem dX9_know_19 : decode cX9_know 19 = .ok (.aload_n 0, 1) := by decide +kernel
theorem dX9_know_20 : decode cX9_know 20 = .ok (.getfield 39, 3) := by decide +kernel
theorem dX9_know_23 : decode cX9_know 23 = .ok (.iload_n 2, 1) := by decide +kernel
theorem dX9_know_24 : decode cX9_know 24 = .ok (.iaload, 1) := by decide +kernel
theorem dX9_know_25 : decode cX9_know 25 = .ok (.iload_n 1, 1) := by decide +kernel
theorem dX9_know_26 : decode cX9_know 26 = .ok (.if_icmp .ne 6, 3) := by decide +kernel
theorem dX9_know_29 : decode cX9_know 29 = .ok (.bipush (-2), 2) := by decide +kernel
theorem dX9_know_31 : decode cX9_know 31 = .ok (.ireturn, 1) := by decide +kernel
theorem dX9_know_32 : decode cX9_know 32 = .ok (.iinc 2 1, 3) := by decide +kernel
theorem dX9_know_35 : decode cX9_know 35 = .ok (.goto (-24), 3) := by decide +kernel
theorem dX9_know_38 : decode cX9_know 38 = .ok (.aload_n 0, 1) := by decide +kernel
theorem dX9_know_39 : decode cX9_know 39 = .ok (.getfield 156, 3) := by decide +kernel
theorem dX9_know_42 : decode cX9_know 42 = .ok (.iconst 4, 1) := by decide +kernel
theorem dX9_know_43 : decode cX9_know 43 = .ok (.if_icmp .ne 6, 3) := by decide +kernel
theorem dX9_know_46 : decode cX9_know 46 = .ok (.bipush (-3), 2) := by decide +kernel
theorem dX9_know_48 : decode cX9_know 48 = .ok (.ireturn, 1) := by decide +kernel
theorem dX9_know_49 : decode cX9_know 49 = .ok (.aload_n 0, 1) := by decide +kernel
theorem dX9_know_50 : decode cX9_know 50 = .ok (.getfield 39, 3) := by decide +kernel
theorem dX9_know_53 : decode cX9_know 53 = .ok (.aload_n 0, 1) := by decide +kernel
theorem dX9_know_54 : decode cX9_know 54 = .ok (.getfield 156, 3) := by decide +kernel
theorem dX9_know_57 : decode cX9_know 57 = .ok (.iload_n 1, 1) := by decide +kernel
theorem dX9_know_58 : decode cX9_know 58 = .ok (.iastore, 1) := by decide +kernel
theorem dX9_know_59 : decode cX9_know 59 = .ok (.aload_n 0, 1) := by decide +kernel
theorem dX9_know_60 : decode cX9_know 60 = .ok (.dup, 1) := by decide +kernel
theorem dX9_know_61 : decode cX9_know 61 = .ok (.getfield 156, 3) := by decide +kernel
theorem dX9_know_64 : decode cX9_know 64 = .ok (.iconst 1, 1) := by decide +kernel
theorem dX9_know_65 : decode cX9_know 65 = .ok (.iadd, 1) := by decide +kernel
theorem dX9_know_66 : decode cX9_know 66 = .ok (.putfield 156, 3) := by decide +kernel
theorem dX9_know_69 : decode cX9_know 69 = .ok (.aload_n 0, 1) := by decide +kernel
theorem dX9_know_70 : decode cX9_know 70 = .ok (.iconst 1, 1) := by decide +kernel
theorem dX9_know_71 : decode cX9_know 71 = .ok (.aload_n 0, 1) := by decide +kernel
theorem dX9_know_72 : decode cX9_know 72 = .ok (.getfield 156, 3) := by decide +kernel
theorem dX9_know_75 : decode cX9_know 75 = .ok (.ishl, 1) := by decide +kernel
theorem dX9_know_76 : decode cX9_know 76 = .ok (.iconst 1, 1) := by decide +kernel
theorem dX9_know_77 : decode cX9_know 77 = .ok (.isub, 1) := by decide +kernel
theorem dX9_know_78 : decode cX9_know 78 = .ok (.putfield 201, 3) := by decide +kernel
theorem dX9_know_81 : decode cX9_know 81 = .ok (.aload_n 0, 1) := by decide +kernel
theorem dX9_know_82 : decode cX9_know 82 = .ok (.getfield 156, 3) := by decide +kernel
theorem dX9_know_85 : decode cX9_know 85 = .ok (.iconst 1, 1) := by decide +kernel
theorem dX9_know_86 : decode cX9_know 86 = .ok (.isub, 1) := by decide +kernel
theorem dX9_know_87 : decode cX9_know 87 = .ok (.ireturn, 1) := by decide +kernel
set_option maxRecDepth 20000 in
theorem ggX9_isState_X9_in : GoodIn wsX9_isState wsX9_in := goodIn_r _ [6] (by decide +kernel) (by decide +kernel)
set_option maxRecDepth 20000 in
theorem gX9_isState_X9_in : GoodIn wsX9_isState (va_wsS RX9 58 yX9_in wsX9_in) := goodIn_app (goodIn_of _ (by decide +kernel)) ggX9_isState_X9_in
theorem dX9_isState_0 : decode cX9_isState 0 = .ok (.iload_n 0, 1) := by decide +kernel
theorem dX9_isState_1 : decode cX9_isState 1 = .ok (.i2l, 1) := by decide +kernel
theorem dX9_isState_2 : decode cX9_isState 2 = .ok (.ldc2_w 204, 3) := by decide +kernel
theorem dX9_isState_5 : decode cX9_isState 5 = .ok (.ldc2_w 206, 3) := by decide +kernel
theorem dX9_isState_8 : decode cX9_isState 8 = .ok (.invokestatic 58, 3) := by decide +kernel
theorem dX9_isState_11 : decode cX9_isState 11 = .ok (.ireturn, 1) := by decide +kernel
set_option maxRecDepth 20000 in
theorem ggX9_box_X9_isState : GoodIn wsX9_box wsX9_isState := goodIn_r _ [6, 7, 8, 9, 10, 5, 11] (by decide +kernel) (by decide +kernel)
set_option maxRecDepth 20000 in
theorem gX9_box_X9_isState : GoodIn wsX9_box (va_wsS RX9 208 yX9_isState wsX9_isState) := goodIn_app (goodIn_of _ (by decide +kernel)) ggX9_box_X9_isState
theorem dX9_box_0 : decode cX9_box 0 = .ok (.iload_n 1, 1) := by decide +kernel
theorem dX9_box_1 : decode cX9_box 1 = .ok (.invokestatic 208, 3) := by decide +kernel
theorem dX9_box_4 : decode cX9_box 4 = .ok (.ifCond .eq 15, 3) := by decide +kernel
theorem dX9_box_7 : decode cX9_box 7 = .ok (.iload_n 2, 1) := by decide +kernel
theorem dX9_box_8 : decode cX9_box 8 = .ok (.invokestatic 208, 3) := by decide +kernel
theorem dX9_box_11 : decode cX9_box 11 = .ok (.ifCond .eq 8, 3) := by decide +kernel
theorem dX9_box_14 : decode cX9_box 14 = .ok (.iload_n 1, 1) := by decide +kernel
theorem dX9_box_15 : decode cX9_box 15 = .ok (.iload_n 2, 1) := by decide +kernel
theorem dX9_box_16 : decode cX9_box 16 = .ok (.if_icmp .le 5, 3) := by decide +kernel
theorem dX9_box_19 : decode cX9_box 19 = .ok (.iconst (-1), 1) := by decide +kernel
theorem dX9_box_20 : decode cX9_box 20 = .ok (.ireturn, 1) := by decide +kernel
theorem dX9_box_21 : decode cX9_box 21 = .ok (.aload_n 0, 1) := by decide +kernel
theorem dX9_box_22 : decode cX9_box 22 = .ok (.iload_n 1, 1) := by decide +kernel
theorem dX9_box_23 : decode cX9_box 23 = .ok (.putfield 211, 3) := by decide +kernel
theorem dX9_box_26 : decode cX9_box 26 = .ok (.aload_n 0, 1) := by decide +kernel
theorem dX9_box_27 : decode cX9_box 27 = .ok (.iload_n 2, 1) := by decide +kernel
theorem dX9_box_28 : decode cX9_box 28 = .ok (.putfield 214, 3) := by decide +kernel
theorem dX9_box_31 : decode cX9_box 31 = .ok (.iconst 1, 1) := by decide +kernel
theorem dX9_box_32 : decode cX9_box 32 = .ok (.ireturn, 1) := by decide +kernel
theorem dX9_held_0 : decode cX9_held 0 = .ok (.iload_n 0, 1) := by decide +kernel
theorem dX9_held_1 : decode cX9_held 1 = .ok (.sipush (-9999), 3) := by decide +kernel
theorem dX9_held_4 : decode cX9_held 4 = .ok (.if_icmp .ge 9, 3) := by decide +kernel
theorem dX9_held_7 : decode cX9_held 7 = .ok (.sipush (-9999), 3) := by decide +kernel
theorem dX9_held_10 : decode cX9_held 10 = .ok (.goto 17, 3) := by decide +kernel
theorem dX9_held_13 : decode cX9_held 13 = .ok (.iload_n 0, 1) := by decide +kernel
theorem dX9_held_14 : decode cX9_held 14 = .ok (.sipush 9999, 3) := by decide +kernel
theorem dX9_held_17 : decode cX9_held 17 = .ok (.if_icmp .le 9, 3) := by decide +kernel
theorem dX9_held_20 : decode cX9_held 20 = .ok (.sipush 9999, 3) := by decide +kernel
theorem dX9_held_23 : decode cX9_held 23 = .ok (.goto 4, 3) := by decide +kernel
theorem dX9_held_26 : decode cX9_held 26 = .ok (.iload_n 0, 1) := by decide +kernel
theorem dX9_held_27 : decode cX9_held 27 = .ok (.ireturn, 1) := by decide +kernel
set_option maxRecDepth 20000 in
theorem ggX9_steps_X9_sumOf : GoodIn wsX9_steps wsX9_sumOf := goodIn_r _ [9] (by decide +kernel) (by decide +kernel)
set_option maxRecDepth 20000 in
theorem gX9_steps_X9_sumOf : GoodIn wsX9_steps (va_wsS RX9 135 yX9_sumOf wsX9_sumOf) := goodIn_app (goodIn_of _ (by decide +kernel)) ggX9_steps_X9_sumOf
set_option maxRecDepth 20000 in
theorem ggX9_steps_X9_lower : GoodIn wsX9_steps wsX9_lower := goodIn_r _ [12] (by decide +kernel) (by decide +kernel)
set_option maxRecDepth 20000 in
theorem gX9_steps_X9_lower : GoodIn wsX9_steps (va_wsS RX9 195 yX9_lower wsX9_lower) := goodIn_app (goodIn_of _ (by decide +kernel)) ggX9_steps_X9_lower
set_option maxRecDepth 20000 in
theorem ggX9_steps_X9_held : GoodIn wsX9_steps wsX9_held := goodIn_r _ [15] (by decide +kernel) (by decide +kernel)
set_option maxRecDepth 20000 in
theorem gX9_steps_X9_held : GoodIn wsX9_steps (va_wsS RX9 217 yX9_held wsX9_held) := goodIn_app (goodIn_of _ (by decide +kernel)) ggX9_steps_X9_held
set_option maxRecDepth 20000 in
theorem ggX9_steps_X9_higher : GoodIn wsX9_steps wsX9_higher := goodIn_r _ [18, 10, 11, 8, 12] (by decide +kernel) (by decide +kernel)
set_option maxRecDepth 20000 in
theorem gX9_steps_X9_higher : GoodIn wsX9_steps (va_wsS RX9 198 yX9_higher wsX9_higher) := goodIn_app (goodIn_of _ (by decide +kernel)) ggX9_steps_X9_higher
theorem dX9_steps_0 : decode cX9_steps 0 = .ok (.iconst 0, 1) := by decide +kernel
theorem dX9_steps_1 : decode cX9_steps 1 = .ok (.istore_n 2, 1) := by decide +kernel
theorem dX9_steps_2 : decode cX9_steps 2 = .ok (.iconst 0, 1) := by decide +kernel
theorem dX9_steps_3 : decode cX9_steps 3 = .ok (.istore_n 3, 1) := by decide +kernel
theorem dX9_steps_4 : decode cX9_steps 4 = .ok (.iconst 0, 1) := by decide +kernel
theorem dX9_steps_5 : decode cX9_steps 5 = .ok (.istore 4, 2) := by decide +kernel
theorem dX9_steps_7 : decode cX9_steps 7 = .ok (.iload 4, 2) := by decide +kernel
theorem dX9_steps_9 : decode cX9_steps 9 = .ok (.aload_n 0, 1) := by decide +kernel
theorem dX9_steps_10 : decode cX9_steps 10 = .ok (.getfield 156, 3) := by decide +kernel
theorem dX9_steps_13 : decode cX9_steps 13 = .ok (.if_icmp .ge 111, 3) := by decide +kernel
theorem dX9_steps_16 : decode cX9_steps 16 = .ok (.aload_n 0, 1) := by decide +kernel
theorem dX9_steps_17 : decode cX9_steps 17 = .ok (.getfield 39, 3) := by decide +kernel
theorem dX9_steps_20 : decode cX9_steps 20 = .ok (.iload 4, 2) := by decide +kernel
theorem dX9_steps_22 : decode cX9_steps 22 = .ok (.iaload, 1) := by decide +kernel
theorem dX9_steps_23 : decode cX9_steps 23 = .ok (.aload_n 0, 1) := by decide +kernel
theorem dX9_steps_24 : decode cX9_steps 24 = .ok (.getfield 211, 3) := by decide +kernel
theorem dX9_steps_27 : decode cX9_steps 27 = .ok (.iload_n 1, 1) := by decide +kernel
theorem dX9_steps_28 : decode cX9_steps 28 = .ok (.invokestatic 135, 3) := by decide +kernel
theorem dX9_steps_31 : decode cX9_steps 31 = .ok (.istore 5, 2) := by decide +kernel
theorem dX9_steps_33 : decode cX9_steps 33 = .ok (.aload_n 0, 1) := by decide +kernel
theorem dX9_steps_34 : decode cX9_steps 34 = .ok (.getfield 39, 3) := by decide +kernel
theorem dX9_steps_37 : decode cX9_steps 37 = .ok (.iload 4, 2) := by decide +kernel
theorem dX9_steps_39 : decode cX9_steps 39 = .ok (.iaload, 1) := by decide +kernel
theorem dX9_steps_40 : decode cX9_steps 40 = .ok (.aload_n 0, 1) := by decide +kernel
theorem dX9_steps_41 : decode cX9_steps 41 = .ok (.getfield 214, 3) := by decide +kernel
theorem dX9_steps_44 : decode cX9_steps 44 = .ok (.iload_n 1, 1) := by decide +kernel
theorem dX9_steps_45 : decode cX9_steps 45 = .ok (.invokestatic 135, 3) := by decide +kernel
theorem dX9_steps_48 : decode cX9_steps 48 = .ok (.istore 6, 2) := by decide +kernel
theorem dX9_steps_50 : decode cX9_steps 50 = .ok (.iload 5, 2) := by decide +kernel
theorem dX9_steps_52 : decode cX9_steps 52 = .ok (.iload 6, 2) := by decide +kernel
theorem dX9_steps_54 : decode cX9_steps 54 = .ok (.if_icmp .ge 8, 3) := by decide +kernel
theorem dX9_steps_57 : decode cX9_steps 57 = .ok (.iload 5, 2) := by decide +kernel
theorem dX9_steps_59 : decode cX9_steps 59 = .ok (.goto 5, 3) := by decide +kernel
theorem dX9_steps_62 : decode cX9_steps 62 = .ok (.iload 6, 2) := by decide +kernel
theorem dX9_steps_64 : decode cX9_steps 64 = .ok (.istore 7, 2) := by decide +kernel
theorem dX9_steps_66 : decode cX9_steps 66 = .ok (.iload 5, 2) := by decide +kernel
theorem dX9_steps_68 : decode cX9_steps 68 = .ok (.iload 6, 2) := by decide +kernel
theorem dX9_steps_70 : decode cX9_steps 70 = .ok (.if_icmp .ge 8, 3) := by decide +kernel
theorem dX9_steps_73 : decode cX9_steps 73 = .ok (.iload 6, 2) := by decide +kernel
theorem dX9_steps_75 : decode cX9_steps 75 = .ok (.goto 5, 3) := by decide +kernel
theorem dX9_steps_78 : decode cX9_steps 78 = .ok (.iload 5, 2) := by decide +kernel
theorem dX9_steps_80 : decode cX9_steps 80 = .ok (.istore 8, 2) := by decide +kernel
theorem dX9_steps_82 : decode cX9_steps 82 = .ok (.iload 4, 2) := by decide +kernel
theorem dX9_steps_84 : decode cX9_steps 84 = .ok (.ifCond .eq 9, 3) := by decide +kernel
theorem dX9_steps_87 : decode cX9_steps 87 = .ok (.iload 7, 2) := by decide +kernel
theorem dX9_steps_89 : decode cX9_steps 89 = .ok (.iload_n 2, 1) := by decide +kernel
theorem dX9_steps_90 : decode cX9_steps 90 = .ok (.if_icmp .ge 8, 3) := by decide +kernel
theorem dX9_steps_93 : decode cX9_steps 93 = .ok (.iload 7, 2) := by decide +kernel
theorem dX9_steps_95 : decode cX9_steps 95 = .ok (.goto 4, 3) := by decide +kernel
theorem dX9_steps_98 : decode cX9_steps 98 = .ok (.iload_n 2, 1) := by decide +kernel
theorem dX9_steps_99 : decode cX9_steps 99 = .ok (.istore_n 2, 1) := by decide +kernel
theorem dX9_steps_100 : decode cX9_steps 100 = .ok (.iload 4, 2) := by decide +kernel
theorem dX9_steps_102 : decode cX9_steps 102 = .ok (.ifCond .eq 9, 3) := by decide +kernel
theorem dX9_steps_105 : decode cX9_steps 105 = .ok (.iload 8, 2) := by decide +kernel
theorem dX9_steps_107 : decode cX9_steps 107 = .ok (.iload_n 3, 1) := by decide +kernel
theorem dX9_steps_108 : decode cX9_steps 108 = .ok (.if_icmp .le 8, 3) := by decide +kernel
theorem dX9_steps_111 : decode cX9_steps 111 = .ok (.iload 8, 2) := by decide +kernel
theorem dX9_steps_113 : decode cX9_steps 113 = .ok (.goto 4, 3) := by decide +kernel
theorem dX9_steps_116 : decode cX9_steps 116 = .ok (.iload_n 3, 1) := by decide +kernel
theorem dX9_steps_117 : decode cX9_steps 117 = .ok (.istore_n 3, 1) := by decide +kernel
theorem dX9_steps_118 : decode cX9_steps 118 = .ok (.iinc 4 1, 3) := by decide +kernel
theorem dX9_steps_121 : decode cX9_steps 121 = .ok (.goto (-114), 3) := by decide +kernel
theorem dX9_steps_124 : decode cX9_steps 124 = .ok (.aload_n 0, 1) := by decide +kernel
theorem dX9_steps_125 : decode cX9_steps 125 = .ok (.iload_n 2, 1) := by decide +kernel
theorem dX9_steps_126 : decode cX9_steps 126 = .ok (.iconst 4, 1) := by decide +kernel
theorem dX9_steps_127 : decode cX9_steps 127 = .ok (.aload_n 0, 1) := by decide +kernel
theorem dX9_steps_128 : decode cX9_steps 128 = .ok (.getfield 23, 3) := by decide +kernel
theorem dX9_steps_131 : decode cX9_steps 131 = .ok (.imul, 1) := by decide +kernel
theorem dX9_steps_132 : decode cX9_steps 132 = .ok (.isub, 1) := by decide +kernel
theorem dX9_steps_133 : decode cX9_steps 133 = .ok (.invokestatic 195, 3) := by decide +kernel
theorem dX9_steps_136 : decode cX9_steps 136 = .ok (.invokestatic 217, 3) := by decide +kernel
theorem dX9_steps_139 : decode cX9_steps 139 = .ok (.putfield 211, 3) := by decide +kernel
theorem dX9_steps_142 : decode cX9_steps 142 = .ok (.aload_n 0, 1) := by decide +kernel
theorem dX9_steps_143 : decode cX9_steps 143 = .ok (.iload_n 3, 1) := by decide +kernel
theorem dX9_steps_144 : decode cX9_steps 144 = .ok (.iconst 4, 1) := by decide +kernel
theorem dX9_steps_145 : decode cX9_steps 145 = .ok (.aload_n 0, 1) := by decide +kernel
theorem dX9_steps_146 : decode cX9_steps 146 = .ok (.getfield 23, 3) := by decide +kernel
theorem dX9_steps_149 : decode cX9_steps 149 = .ok (.imul, 1) := by decide +kernel
theorem dX9_steps_150 : decode cX9_steps 150 = .ok (.iadd, 1) := by decide +kernel
theorem dX9_steps_151 : decode cX9_steps 151 = .ok (.invokestatic 198, 3) := by decide +kernel
theorem dX9_steps_154 : decode cX9_steps 154 = .ok (.invokestatic 217, 3) := by decide +kernel
theorem dX9_steps_157 : decode cX9_steps 157 = .ok (.putfield 214, 3) := by decide +kernel
theorem dX9_steps_160 : decode cX9_steps 160 = .ok (.return_, 1) := by decide +kernel
set_option maxRecDepth 20000 in
theorem ggX9_step_X9_isSmall : GoodIn wsX9_step wsX9_isSmall := goodIn_r _ [5, 6, 7, 8, 9, 4, 10] (by decide +kernel) (by decide +kernel)
set_option maxRecDepth 20000 in
theorem gX9_step_X9_isSmall : GoodIn wsX9_step (va_wsS RX9 65 yX9_isSmall wsX9_isSmall) := goodIn_app (goodIn_of _ (by decide +kernel)) ggX9_step_X9_isSmall
set_option maxRecDepth 20000 in
theorem ggX9_step_X9_steps : GoodIn wsX9_step wsX9_steps := goodIn_r _ [14, 1, 15, 16, 17, 18, 19, 20, 4, 21, 22, 23, 24, 25, 26, 27, 28, 29, 30, 31, 32, 33, 34, 35, 36, 37, 38, 39, 40, 41, 42, 43, 44, 45, 46, 47, 48, 49, 50, 51, 52, 53, 54] (by decide +kernel) (by decide +kernel)
set_option maxRecDepth 20000 in
theorem gX9_step_X9_steps : GoodIn wsX9_step (wsV RX9 220 RX9 yX9_steps wsX9_steps) := goodIn_app (goodIn_of _ (by decide +kernel)) ggX9_step_X9_steps
theorem dX9_step_0 : decode cX9_step 0 = .ok (.iload_n 1, 1) := by decide +kernel
theorem dX9_step_1 : decode cX9_step 1 = .ok (.invokestatic 65, 3) := by decide +kernel
theorem dX9_step_4 : decode cX9_step 4 = .ok (.ifCond .ne 5, 3) := by decide +kernel
theorem dX9_step_7 : decode cX9_step 7 = .ok (.iconst (-1), 1) := by decide +kernel
theorem dX9_step_8 : decode cX9_step 8 = .ok (.ireturn, 1) := by decide +kernel
theorem dX9_step_9 : decode cX9_step 9 = .ok (.aload_n 0, 1) := by decide +kernel
theorem dX9_step_10 : decode cX9_step 10 = .ok (.getfield 156, 3) := by decide +kernel
theorem dX9_step_13 : decode cX9_step 13 = .ok (.ifCond .ne 6, 3) := by decide +kernel
theorem dX9_step_16 : decode cX9_step 16 = .ok (.bipush (-4), 2) := by decide +kernel
theorem dX9_step_18 : decode cX9_step 18 = .ok (.ireturn, 1) := by decide +kernel
theorem dX9_step_19 : decode cX9_step 19 = .ok (.aload_n 0, 1) := by decide +kernel
theorem dX9_step_20 : decode cX9_step 20 = .ok (.iload_n 1, 1) := by decide +kernel
theorem dX9_step_21 : decode cX9_step 21 = .ok (.invokevirtual 220, 3) := by decide +kernel
theorem dX9_step_24 : decode cX9_step 24 = .ok (.iconst 1, 1) := by decide +kernel
theorem dX9_step_25 : decode cX9_step 25 = .ok (.ireturn, 1) := by decide +kernel
theorem dX9_holds_0 : decode cX9_holds 0 = .ok (.iload_n 1, 1) := by decide +kernel
theorem dX9_holds_1 : decode cX9_holds 1 = .ok (.ifCond .ne 10, 3) := by decide +kernel
theorem dX9_holds_4 : decode cX9_holds 4 = .ok (.aload_n 0, 1) := by decide +kernel
theorem dX9_holds_5 : decode cX9_holds 5 = .ok (.getfield 211, 3) := by decide +kernel
theorem dX9_holds_8 : decode cX9_holds 8 = .ok (.goto 17, 3) := by decide +kernel
theorem dX9_holds_11 : decode cX9_holds 11 = .ok (.iload_n 1, 1) := by decide +kernel
theorem dX9_holds_12 : decode cX9_holds 12 = .ok (.iconst 1, 1) := by decide +kernel
theorem dX9_holds_13 : decode cX9_holds 13 = .ok (.if_icmp .ne 10, 3) := by decide +kernel
theorem dX9_holds_16 : decode cX9_holds 16 = .ok (.aload_n 0, 1) := by decide +kernel
theorem dX9_holds_17 : decode cX9_holds 17 = .ok (.getfield 214, 3) := by decide +kernel
theorem dX9_holds_20 : decode cX9_holds 20 = .ok (.goto 5, 3) := by decide +kernel
theorem dX9_holds_23 : decode cX9_holds 23 = .ok (.ldc 129, 2) := by decide +kernel
theorem dX9_holds_25 : decode cX9_holds 25 = .ok (.ireturn, 1) := by decide +kernel
set_option maxRecDepth 20000 in
theorem ggX9_brake_X9_isSmall : GoodIn wsX9_brake wsX9_isSmall := goodIn_r _ [8, 9, 10, 11, 12, 7, 13] (by decide +kernel) (by decide +kernel)
set_option maxRecDepth 20000 in
theorem gX9_brake_X9_isSmall : GoodIn wsX9_brake (va_wsS RX9 65 yX9_isSmall wsX9_isSmall) := goodIn_app (goodIn_of _ (by decide +kernel)) ggX9_brake_X9_isSmall
set_option maxRecDepth 20000 in
theorem ggX9_brake_X9_in : GoodIn wsX9_brake wsX9_in := goodIn_r _ [13] (by decide +kernel) (by decide +kernel)
set_option maxRecDepth 20000 in
theorem gX9_brake_X9_in : GoodIn wsX9_brake (va_wsS RX9 58 yX9_in wsX9_in) := goodIn_app (goodIn_of _ (by decide +kernel)) ggX9_brake_X9_in
set_option maxRecDepth 20000 in
theorem ggX9_brake_X9_isState : GoodIn wsX9_brake wsX9_isState := goodIn_r _ [16, 17, 18, 11, 12, 7, 13] (by decide +kernel) (by decide +kernel)
set_option maxRecDepth 20000 in
theorem gX9_brake_X9_isState : GoodIn wsX9_brake (va_wsS RX9 208 yX9_isState wsX9_isState) := goodIn_app (goodIn_of _ (by decide +kernel)) ggX9_brake_X9_isState
set_option maxRecDepth 20000 in
theorem ggX9_brake_X9_steps : GoodIn wsX9_brake wsX9_steps := goodIn_r _ [22, 2, 23, 3, 4, 24, 25, 26, 7, 27, 28, 29, 30, 31, 32, 33, 34, 35, 36, 37, 38, 39, 40, 41, 42, 43, 44, 45, 46, 47, 48, 49, 50, 51, 52, 53, 54, 55, 56, 57, 58, 59, 60] (by decide +kernel) (by decide +kernel)
set_option maxRecDepth 20000 in
theorem gX9_brake_X9_steps : GoodIn wsX9_brake (wsV RX9 220 RX9 yX9_steps wsX9_steps) := goodIn_app (goodIn_of _ (by decide +kernel)) ggX9_brake_X9_steps
theorem dX9_brake_0 : decode cX9_brake 0 = .ok (.iload_n 1, 1) := by decide +kernel
theorem dX9_brake_1 : decode cX9_brake 1 = .ok (.invokestatic 65, 3) := by decide +kernel
theorem dX9_brake_4 : decode cX9_brake 4 = .ok (.ifCond .eq 36, 3) := by decide +kernel
theorem dX9_brake_7 : decode cX9_brake 7 = .ok (.iload_n 2, 1) := by decide +kernel
theorem dX9_brake_8 : decode cX9_brake 8 = .ok (.i2l, 1) := by decide +kernel
theorem dX9_brake_9 : decode cX9_brake 9 = .ok (.lconst 1, 1) := by decide +kernel
theorem dX9_brake_10 : decode cX9_brake 10 = .ok (.ldc2_w 224, 3) := by decide +kernel
theorem dX9_brake_13 : decode cX9_brake 13 = .ok (.invokestatic 58, 3) := by decide +kernel
theorem dX9_brake_16 : decode cX9_brake 16 = .ok (.ifCond .eq 24, 3) := by decide +kernel
theorem dX9_brake_19 : decode cX9_brake 19 = .ok (.iload_n 3, 1) := by decide +kernel
theorem dX9_brake_20 : decode cX9_brake 20 = .ok (.invokestatic 208, 3) := by decide +kernel
theorem dX9_brake_23 : decode cX9_brake 23 = .ok (.ifCond .eq 17, 3) := by decide +kernel
theorem dX9_brake_26 : decode cX9_brake 26 = .ok (.iload 4, 2) := by decide +kernel
theorem dX9_brake_28 : decode cX9_brake 28 = .ok (.invokestatic 208, 3) := by decide +kernel
theorem dX9_brake_31 : decode cX9_brake 31 = .ok (.ifCond .eq 9, 3) := by decide +kernel
theorem dX9_brake_34 : decode cX9_brake 34 = .ok (.iload_n 3, 1) := by decide +kernel
theorem dX9_brake_35 : decode cX9_brake 35 = .ok (.iload 4, 2) := by decide +kernel
theorem dX9_brake_37 : decode cX9_brake 37 = .ok (.if_icmp .le 5, 3) := by decide +kernel
theorem dX9_brake_40 : decode cX9_brake 40 = .ok (.iconst (-1), 1) := by decide +kernel
theorem dX9_brake_41 : decode cX9_brake 41 = .ok (.ireturn, 1) := by decide +kernel
theorem dX9_brake_42 : decode cX9_brake 42 = .ok (.aload_n 0, 1) := by decide +kernel
theorem dX9_brake_43 : decode cX9_brake 43 = .ok (.getfield 156, 3) := by decide +kernel
theorem dX9_brake_46 : decode cX9_brake 46 = .ok (.ifCond .ne 6, 3) := by decide +kernel
theorem dX9_brake_49 : decode cX9_brake 49 = .ok (.bipush (-2), 2) := by decide +kernel
theorem dX9_brake_51 : decode cX9_brake 51 = .ok (.ireturn, 1) := by decide +kernel
theorem dX9_brake_52 : decode cX9_brake 52 = .ok (.aload_n 0, 1) := by decide +kernel
theorem dX9_brake_53 : decode cX9_brake 53 = .ok (.getfield 211, 3) := by decide +kernel
theorem dX9_brake_56 : decode cX9_brake 56 = .ok (.istore 5, 2) := by decide +kernel
theorem dX9_brake_58 : decode cX9_brake 58 = .ok (.aload_n 0, 1) := by decide +kernel
theorem dX9_brake_59 : decode cX9_brake 59 = .ok (.getfield 214, 3) := by decide +kernel
theorem dX9_brake_62 : decode cX9_brake 62 = .ok (.istore 6, 2) := by decide +kernel
theorem dX9_brake_64 : decode cX9_brake 64 = .ok (.bipush (-4), 2) := by decide +kernel
theorem dX9_brake_66 : decode cX9_brake 66 = .ok (.istore 7, 2) := by decide +kernel
theorem dX9_brake_68 : decode cX9_brake 68 = .ok (.iconst 1, 1) := by decide +kernel
theorem dX9_brake_69 : decode cX9_brake 69 = .ok (.istore 8, 2) := by decide +kernel
theorem dX9_brake_71 : decode cX9_brake 71 = .ok (.iload 8, 2) := by decide +kernel
theorem dX9_brake_73 : decode cX9_brake 73 = .ok (.iload_n 2, 1) := by decide +kernel
theorem dX9_brake_74 : decode cX9_brake 74 = .ok (.if_icmp .gt 45, 3) := by decide +kernel
theorem dX9_brake_77 : decode cX9_brake 77 = .ok (.iload 7, 2) := by decide +kernel
theorem dX9_brake_79 : decode cX9_brake 79 = .ok (.ifCond .ge 40, 3) := by decide +kernel
theorem dX9_brake_82 : decode cX9_brake 82 = .ok (.aload_n 0, 1) := by decide +kernel
theorem dX9_brake_83 : decode cX9_brake 83 = .ok (.iload_n 1, 1) := by decide +kernel
theorem dX9_brake_84 : decode cX9_brake 84 = .ok (.invokevirtual 220, 3) := by decide +kernel
theorem dX9_brake_87 : decode cX9_brake 87 = .ok (.aload_n 0, 1) := by decide +kernel
theorem dX9_brake_88 : decode cX9_brake 88 = .ok (.getfield 211, 3) := by decide +kernel
theorem dX9_brake_91 : decode cX9_brake 91 = .ok (.iload_n 3, 1) := by decide +kernel
theorem dX9_brake_92 : decode cX9_brake 92 = .ok (.if_icmp .lt 12, 3) := by decide +kernel
theorem dX9_brake_95 : decode cX9_brake 95 = .ok (.aload_n 0, 1) := by decide +kernel
theorem dX9_brake_96 : decode cX9_brake 96 = .ok (.getfield 214, 3) := by decide +kernel
theorem dX9_brake_99 : decode cX9_brake 99 = .ok (.iload 4, 2) := by decide +kernel
theorem dX9_brake_101 : decode cX9_brake 101 = .ok (.if_icmp .le 8, 3) := by decide +kernel
theorem dX9_brake_104 : decode cX9_brake 104 = .ok (.iload 8, 2) := by decide +kernel
theorem dX9_brake_106 : decode cX9_brake 106 = .ok (.goto 5, 3) := by decide +kernel
theorem dX9_brake_109 : decode cX9_brake 109 = .ok (.bipush (-4), 2) := by decide +kernel
theorem dX9_brake_111 : decode cX9_brake 111 = .ok (.istore 7, 2) := by decide +kernel
theorem dX9_brake_113 : decode cX9_brake 113 = .ok (.iinc 8 1, 3) := by decide +kernel
theorem dX9_brake_116 : decode cX9_brake 116 = .ok (.goto (-45), 3) := by decide +kernel
theorem dX9_brake_119 : decode cX9_brake 119 = .ok (.aload_n 0, 1) := by decide +kernel
theorem dX9_brake_120 : decode cX9_brake 120 = .ok (.iload 5, 2) := by decide +kernel
theorem dX9_brake_122 : decode cX9_brake 122 = .ok (.putfield 211, 3) := by decide +kernel
theorem dX9_brake_125 : decode cX9_brake 125 = .ok (.aload_n 0, 1) := by decide +kernel
theorem dX9_brake_126 : decode cX9_brake 126 = .ok (.iload 6, 2) := by decide +kernel
theorem dX9_brake_128 : decode cX9_brake 128 = .ok (.putfield 214, 3) := by decide +kernel
theorem dX9_brake_131 : decode cX9_brake 131 = .ok (.iload 7, 2) := by decide +kernel
theorem dX9_brake_133 : decode cX9_brake 133 = .ok (.ireturn, 1) := by decide +kernel
set_option maxRecDepth 20000 in
theorem ggX9_watch_X9_isSmall : GoodIn wsX9_watch wsX9_isSmall := goodIn_r _ [9, 10, 11, 12, 13, 8, 14] (by decide +kernel) (by decide +kernel)
set_option maxRecDepth 20000 in
theorem gX9_watch_X9_isSmall : GoodIn wsX9_watch (va_wsS RX9 65 yX9_isSmall wsX9_isSmall) := goodIn_app (goodIn_of _ (by decide +kernel)) ggX9_watch_X9_isSmall
set_option maxRecDepth 20000 in
theorem ggX9_watch_X9_fits : GoodIn wsX9_watch wsX9_fits := goodIn_r _ [18, 19, 20, 21, 8, 22, 12, 13, 14, 23, 24, 25, 26, 27, 28, 29, 30, 31, 32, 33, 34, 35, 36, 37, 38, 39, 40, 41, 42, 43, 44, 45, 46] (by decide +kernel) (by decide +kernel)
set_option maxRecDepth 20000 in
theorem gX9_watch_X9_fits : GoodIn wsX9_watch (wsV RX9 139 RX9 yX9_fits wsX9_fits) := goodIn_app (goodIn_of _ (by decide +kernel)) ggX9_watch_X9_fits
theorem dX9_watch_0 : decode cX9_watch 0 = .ok (.iload_n 1, 1) := by decide +kernel
theorem dX9_watch_1 : decode cX9_watch 1 = .ok (.invokestatic 65, 3) := by decide +kernel
theorem dX9_watch_4 : decode cX9_watch 4 = .ok (.ifCond .eq 17, 3) := by decide +kernel
theorem dX9_watch_7 : decode cX9_watch 7 = .ok (.iload_n 2, 1) := by decide +kernel
theorem dX9_watch_8 : decode cX9_watch 8 = .ok (.invokestatic 65, 3) := by decide +kernel
theorem dX9_watch_11 : decode cX9_watch 11 = .ok (.ifCond .eq 10, 3) := by decide +kernel
theorem dX9_watch_14 : decode cX9_watch 14 = .ok (.iload_n 3, 1) := by decide +kernel
theorem dX9_watch_15 : decode cX9_watch 15 = .ok (.invokestatic 65, 3) := by decide +kernel
theorem dX9_watch_18 : decode cX9_watch 18 = .ok (.ifCond .ne 5, 3) := by decide +kernel
theorem dX9_watch_21 : decode cX9_watch 21 = .ok (.iconst (-1), 1) := by decide +kernel
theorem dX9_watch_22 : decode cX9_watch 22 = .ok (.ireturn, 1) := by decide +kernel
theorem dX9_watch_23 : decode cX9_watch 23 = .ok (.aload_n 0, 1) := by decide +kernel
theorem dX9_watch_24 : decode cX9_watch 24 = .ok (.getfield 156, 3) := by decide +kernel
theorem dX9_watch_27 : decode cX9_watch 27 = .ok (.ifCond .ne 6, 3) := by decide +kernel
theorem dX9_watch_30 : decode cX9_watch 30 = .ok (.bipush (-2), 2) := by decide +kernel
theorem dX9_watch_32 : decode cX9_watch 32 = .ok (.ireturn, 1) := by decide +kernel
theorem dX9_watch_33 : decode cX9_watch 33 = .ok (.iconst 1, 1) := by decide +kernel
theorem dX9_watch_34 : decode cX9_watch 34 = .ok (.aload_n 0, 1) := by decide +kernel
theorem dX9_watch_35 : decode cX9_watch 35 = .ok (.getfield 156, 3) := by decide +kernel
theorem dX9_watch_38 : decode cX9_watch 38 = .ok (.ishl, 1) := by decide +kernel
theorem dX9_watch_39 : decode cX9_watch 39 = .ok (.iconst 1, 1) := by decide +kernel
theorem dX9_watch_40 : decode cX9_watch 40 = .ok (.isub, 1) := by decide +kernel
theorem dX9_watch_41 : decode cX9_watch 41 = .ok (.istore 4, 2) := by decide +kernel
theorem dX9_watch_43 : decode cX9_watch 43 = .ok (.iconst 0, 1) := by decide +kernel
theorem dX9_watch_44 : decode cX9_watch 44 = .ok (.istore 5, 2) := by decide +kernel
theorem dX9_watch_46 : decode cX9_watch 46 = .ok (.iconst 0, 1) := by decide +kernel
theorem dX9_watch_47 : decode cX9_watch 47 = .ok (.istore 6, 2) := by decide +kernel
theorem dX9_watch_49 : decode cX9_watch 49 = .ok (.iload 6, 2) := by decide +kernel
theorem dX9_watch_51 : decode cX9_watch 51 = .ok (.aload_n 0, 1) := by decide +kernel
theorem dX9_watch_52 : decode cX9_watch 52 = .ok (.getfield 156, 3) := by decide +kernel
theorem dX9_watch_55 : decode cX9_watch 55 = .ok (.if_icmp .ge 39, 3) := by decide +kernel
theorem dX9_watch_58 : decode cX9_watch 58 = .ok (.iload 5, 2) := by decide +kernel
theorem dX9_watch_60 : decode cX9_watch 60 = .ok (.aload_n 0, 1) := by decide +kernel
theorem dX9_watch_61 : decode cX9_watch 61 = .ok (.aload_n 0, 1) := by decide +kernel
theorem dX9_watch_62 : decode cX9_watch 62 = .ok (.getfield 39, 3) := by decide +kernel
theorem dX9_watch_65 : decode cX9_watch 65 = .ok (.iload 6, 2) := by decide +kernel
theorem dX9_watch_67 : decode cX9_watch 67 = .ok (.iaload, 1) := by decide +kernel
theorem dX9_watch_68 : decode cX9_watch 68 = .ok (.iload_n 1, 1) := by decide +kernel
theorem dX9_watch_69 : decode cX9_watch 69 = .ok (.iload_n 2, 1) := by decide +kernel
theorem dX9_watch_70 : decode cX9_watch 70 = .ok (.iload_n 3, 1) := by decide +kernel
theorem dX9_watch_71 : decode cX9_watch 71 = .ok (.invokevirtual 139, 3) := by decide +kernel
theorem dX9_watch_74 : decode cX9_watch 74 = .ok (.ifCond .eq 10, 3) := by decide +kernel
theorem dX9_watch_77 : decode cX9_watch 77 = .ok (.iconst 1, 1) := by decide +kernel
theorem dX9_watch_78 : decode cX9_watch 78 = .ok (.iload 6, 2) := by decide +kernel
theorem dX9_watch_80 : decode cX9_watch 80 = .ok (.ishl, 1) := by decide +kernel
theorem dX9_watch_81 : decode cX9_watch 81 = .ok (.goto 4, 3) := by decide +kernel
theorem dX9_watch_84 : decode cX9_watch 84 = .ok (.iconst 0, 1) := by decide +kernel
theorem dX9_watch_85 : decode cX9_watch 85 = .ok (.ior, 1) := by decide +kernel
theorem dX9_watch_86 : decode cX9_watch 86 = .ok (.istore 5, 2) := by decide +kernel
theorem dX9_watch_88 : decode cX9_watch 88 = .ok (.iinc 6 1, 3) := by decide +kernel
theorem dX9_watch_91 : decode cX9_watch 91 = .ok (.goto (-42), 3) := by decide +kernel
theorem dX9_watch_94 : decode cX9_watch 94 = .ok (.aload_n 0, 1) := by decide +kernel
theorem dX9_watch_95 : decode cX9_watch 95 = .ok (.getfield 201, 3) := by decide +kernel
theorem dX9_watch_98 : decode cX9_watch 98 = .ok (.iload 5, 2) := by decide +kernel
theorem dX9_watch_100 : decode cX9_watch 100 = .ok (.iand, 1) := by decide +kernel
theorem dX9_watch_101 : decode cX9_watch 101 = .ok (.ifCond .ne 7, 3) := by decide +kernel
theorem dX9_watch_104 : decode cX9_watch 104 = .ok (.iconst 1, 1) := by decide +kernel
theorem dX9_watch_105 : decode cX9_watch 105 = .ok (.goto 4, 3) := by decide +kernel
theorem dX9_watch_108 : decode cX9_watch 108 = .ok (.iconst 0, 1) := by decide +kernel
theorem dX9_watch_109 : decode cX9_watch 109 = .ok (.istore 6, 2) := by decide +kernel
theorem dX9_watch_111 : decode cX9_watch 111 = .ok (.aload_n 0, 1) := by decide +kernel
theorem dX9_watch_112 : decode cX9_watch 112 = .ok (.iload 6, 2) := by decide +kernel
theorem dX9_watch_114 : decode cX9_watch 114 = .ok (.ifCond .ne 13, 3) := by decide +kernel
theorem dX9_watch_117 : decode cX9_watch 117 = .ok (.aload_n 0, 1) := by decide +kernel
theorem dX9_watch_118 : decode cX9_watch 118 = .ok (.getfield 201, 3) := by decide +kernel
theorem dX9_watch_121 : decode cX9_watch 121 = .ok (.iload 5, 2) := by decide +kernel
theorem dX9_watch_123 : decode cX9_watch 123 = .ok (.iand, 1) := by decide +kernel
theorem dX9_watch_124 : decode cX9_watch 124 = .ok (.goto 15, 3) := by decide +kernel
theorem dX9_watch_127 : decode cX9_watch 127 = .ok (.iload 5, 2) := by decide +kernel
theorem dX9_watch_129 : decode cX9_watch 129 = .ok (.ifCond .ne 8, 3) := by decide +kernel
theorem dX9_watch_132 : decode cX9_watch 132 = .ok (.iload 4, 2) := by decide +kernel
theorem dX9_watch_134 : decode cX9_watch 134 = .ok (.goto 5, 3) := by decide +kernel
theorem dX9_watch_137 : decode cX9_watch 137 = .ok (.iload 5, 2) := by decide +kernel
theorem dX9_watch_139 : decode cX9_watch 139 = .ok (.putfield 201, 3) := by decide +kernel
theorem dX9_watch_142 : decode cX9_watch 142 = .ok (.aload_n 0, 1) := by decide +kernel
theorem dX9_watch_143 : decode cX9_watch 143 = .ok (.dup, 1) := by decide +kernel
theorem dX9_watch_144 : decode cX9_watch 144 = .ok (.getfield 159, 3) := by decide +kernel
theorem dX9_watch_147 : decode cX9_watch 147 = .ok (.iconst 1, 1) := by decide +kernel
theorem dX9_watch_148 : decode cX9_watch 148 = .ok (.iadd, 1) := by decide +kernel
theorem dX9_watch_149 : decode cX9_watch 149 = .ok (.putfield 159, 3) := by decide +kernel
theorem dX9_watch_152 : decode cX9_watch 152 = .ok (.aload_n 0, 1) := by decide +kernel
theorem dX9_watch_153 : decode cX9_watch 153 = .ok (.dup, 1) := by decide +kernel
theorem dX9_watch_154 : decode cX9_watch 154 = .ok (.getfield 162, 3) := by decide +kernel
theorem dX9_watch_157 : decode cX9_watch 157 = .ok (.iload 6, 2) := by decide +kernel
theorem dX9_watch_159 : decode cX9_watch 159 = .ok (.ifCond .eq 7, 3) := by decide +kernel
theorem dX9_watch_162 : decode cX9_watch 162 = .ok (.iconst 1, 1) := by decide +kernel
theorem dX9_watch_163 : decode cX9_watch 163 = .ok (.goto 4, 3) := by decide +kernel
theorem dX9_watch_166 : decode cX9_watch 166 = .ok (.iconst 0, 1) := by decide +kernel
theorem dX9_watch_167 : decode cX9_watch 167 = .ok (.iadd, 1) := by decide +kernel
theorem dX9_watch_168 : decode cX9_watch 168 = .ok (.putfield 162, 3) := by decide +kernel
theorem dX9_watch_171 : decode cX9_watch 171 = .ok (.aload_n 0, 1) := by decide +kernel
theorem dX9_watch_172 : decode cX9_watch 172 = .ok (.getfield 201, 3) := by decide +kernel
theorem dX9_watch_175 : decode cX9_watch 175 = .ok (.iload 6, 2) := by decide +kernel
theorem dX9_watch_177 : decode cX9_watch 177 = .ok (.ifCond .eq 8, 3) := by decide +kernel
theorem dX9_watch_180 : decode cX9_watch 180 = .ok (.bipush 16, 2) := by decide +kernel
theorem dX9_watch_182 : decode cX9_watch 182 = .ok (.goto 4, 3) := by decide +kernel
theorem dX9_watch_185 : decode cX9_watch 185 = .ok (.iconst 0, 1) := by decide +kernel
theorem dX9_watch_186 : decode cX9_watch 186 = .ok (.iadd, 1) := by decide +kernel
theorem dX9_watch_187 : decode cX9_watch 187 = .ok (.ireturn, 1) := by decide +kernel
set_option maxRecDepth 20000 in
theorem ggX9_isSheet_X9_in : GoodIn wsX9_isSheet wsX9_in := goodIn_r _ [5] (by decide +kernel) (by decide +kernel)
set_option maxRecDepth 20000 in
theorem gX9_isSheet_X9_in : GoodIn wsX9_isSheet (va_wsS RX9 58 yX9_in wsX9_in) := goodIn_app (goodIn_of _ (by decide +kernel)) ggX9_isSheet_X9_in
theorem dX9_isSheet_0 : decode cX9_isSheet 0 = .ok (.iload_n 0, 1) := by decide +kernel
theorem dX9_isSheet_1 : decode cX9_isSheet 1 = .ok (.i2l, 1) := by decide +kernel
theorem dX9_isSheet_2 : decode cX9_isSheet 2 = .ok (.lconst 0, 1) := by decide +kernel
theorem dX9_isSheet_3 : decode cX9_isSheet 3 = .ok (.ldc2_w 226, 3) := by decide +kernel
theorem dX9_isSheet_6 : decode cX9_isSheet 6 = .ok (.invokestatic 58, 3) := by decide +kernel
theorem dX9_isSheet_9 : decode cX9_isSheet 9 = .ok (.ireturn, 1) := by decide +kernel
set_option maxRecDepth 20000 in
theorem ggX9_isLane_X9_in : GoodIn wsX9_isLane wsX9_in := goodIn_r _ [5] (by decide +kernel) (by decide +kernel)
set_option maxRecDepth 20000 in
theorem gX9_isLane_X9_in : GoodIn wsX9_isLane (va_wsS RX9 58 yX9_in wsX9_in) := goodIn_app (goodIn_of _ (by decide +kernel)) ggX9_isLane_X9_in
theorem dX9_isLane_0 : decode cX9_isLane 0 = .ok (.iload_n 0, 1) := by decide +kernel
theorem dX9_isLane_1 : decode cX9_isLane 1 = .ok (.i2l, 1) := by decide +kernel
theorem dX9_isLane_2 : decode cX9_isLane 2 = .ok (.lconst 0, 1) := by decide +kernel
theorem dX9_isLane_3 : decode cX9_isLane 3 = .ok (.ldc2_w 127, 3) := by decide +kernel
theorem dX9_isLane_6 : decode cX9_isLane 6 = .ok (.invokestatic 58, 3) := by decide +kernel
theorem dX9_isLane_9 : decode cX9_isLane 9 = .ok (.ireturn, 1) := by decide +kernel
theorem dX9_finds_0 : decode cX9_finds 0 = .ok (.aload_n 0, 1) := by decide +kernel
theorem dX9_finds_1 : decode cX9_finds 1 = .ok (.getfield 42, 3) := by decide +kernel
theorem dX9_finds_4 : decode cX9_finds 4 = .ok (.iload_n 1, 1) := by decide +kernel
theorem dX9_finds_5 : decode cX9_finds 5 = .ok (.iaload, 1) := by decide +kernel
theorem dX9_finds_6 : decode cX9_finds 6 = .ok (.ifCond .ge 6, 3) := by decide +kernel
theorem dX9_finds_9 : decode cX9_finds 9 = .ok (.bipush (-11), 2) := by decide +kernel
theorem dX9_finds_11 : decode cX9_finds 11 = .ok (.ireturn, 1) := by decide +kernel
theorem dX9_finds_12 : decode cX9_finds 12 = .ok (.aload_n 0, 1) := by decide +kernel
theorem dX9_finds_13 : decode cX9_finds 13 = .ok (.getfield 42, 3) := by decide +kernel
theorem dX9_finds_16 : decode cX9_finds 16 = .ok (.iload_n 1, 1) := by decide +kernel
theorem dX9_finds_17 : decode cX9_finds 17 = .ok (.iaload, 1) := by decide +kernel
theorem dX9_finds_18 : decode cX9_finds 18 = .ok (.iload_n 2, 1) := by decide +kernel
theorem dX9_finds_19 : decode cX9_finds 19 = .ok (.if_icmp .eq 6, 3) := by decide +kernel
theorem dX9_finds_22 : decode cX9_finds 22 = .ok (.bipush (-12), 2) := by decide +kernel
theorem dX9_finds_24 : decode cX9_finds 24 = .ok (.ireturn, 1) := by decide +kernel
theorem dX9_finds_25 : decode cX9_finds 25 = .ok (.iload_n 3, 1) := by decide +kernel
theorem dX9_finds_26 : decode cX9_finds 26 = .ok (.ifCond .lt 20, 3) := by decide +kernel
theorem dX9_finds_29 : decode cX9_finds 29 = .ok (.iload_n 3, 1) := by decide +kernel
theorem dX9_finds_30 : decode cX9_finds 30 = .ok (.i2l, 1) := by decide +kernel
theorem dX9_finds_31 : decode cX9_finds 31 = .ok (.iload 4, 2) := by decide +kernel
theorem dX9_finds_33 : decode cX9_finds 33 = .ok (.i2l, 1) := by decide +kernel
theorem dX9_finds_34 : decode cX9_finds 34 = .ok (.ladd, 1) := by decide +kernel
theorem dX9_finds_35 : decode cX9_finds 35 = .ok (.aload_n 0, 1) := by decide +kernel
theorem dX9_finds_36 : decode cX9_finds 36 = .ok (.getfield 45, 3) := by decide +kernel
theorem dX9_finds_39 : decode cX9_finds 39 = .ok (.iload_n 1, 1) := by decide +kernel
theorem dX9_finds_40 : decode cX9_finds 40 = .ok (.iaload, 1) := by decide +kernel
theorem dX9_finds_41 : decode cX9_finds 41 = .ok (.i2l, 1) := by decide +kernel
theorem dX9_finds_42 : decode cX9_finds 42 = .ok (.lcmp, 1) := by decide +kernel
theorem dX9_finds_43 : decode cX9_finds 43 = .ok (.ifCond .le 8, 3) := by decide +kernel
theorem dX9_finds_46 : decode cX9_finds 46 = .ok (.bipush (-13), 2) := by decide +kernel
theorem dX9_finds_48 : decode cX9_finds 48 = .ok (.goto 4, 3) := by decide +kernel
theorem dX9_finds_51 : decode cX9_finds 51 = .ok (.iconst 0, 1) := by decide +kernel
theorem dX9_finds_52 : decode cX9_finds 52 = .ok (.ireturn, 1) := by decide +kernel
set_option maxRecDepth 20000 in
theorem ggX9_sheet_X9_isSheet : GoodIn wsX9_sheet wsX9_isSheet := goodIn_r _ [7, 8, 9, 10, 6, 11] (by decide +kernel) (by decide +kernel)
set_option maxRecDepth 20000 in
theorem gX9_sheet_X9_isSheet : GoodIn wsX9_sheet (va_wsS RX9 73 yX9_isSheet wsX9_isSheet) := goodIn_app (goodIn_of _ (by decide +kernel)) ggX9_sheet_X9_isSheet
set_option maxRecDepth 20000 in
theorem ggX9_sheet_X9_isLane : GoodIn wsX9_sheet wsX9_isLane := goodIn_r _ [14, 15, 9, 10, 6, 11] (by decide +kernel) (by decide +kernel)
set_option maxRecDepth 20000 in
theorem gX9_sheet_X9_isLane : GoodIn wsX9_sheet (va_wsS RX9 76 yX9_isLane wsX9_isLane) := goodIn_app (goodIn_of _ (by decide +kernel)) ggX9_sheet_X9_isLane
theorem dX9_sheet_0 : decode cX9_sheet 0 = .ok (.iload_n 1, 1) := by decide +kernel
theorem dX9_sheet_1 : decode cX9_sheet 1 = .ok (.invokestatic 73, 3) := by decide +kernel
theorem dX9_sheet_4 : decode cX9_sheet 4 = .ok (.ifCond .eq 16, 3) := by decide +kernel
theorem dX9_sheet_7 : decode cX9_sheet 7 = .ok (.iload_n 2, 1) := by decide +kernel
theorem dX9_sheet_8 : decode cX9_sheet 8 = .ok (.invokestatic 76, 3) := by decide +kernel
theorem dX9_sheet_11 : decode cX9_sheet 11 = .ok (.ifCond .eq 9, 3) := by decide +kernel
theorem dX9_sheet_14 : decode cX9_sheet 14 = .ok (.iload_n 3, 1) := by decide +kernel
theorem dX9_sheet_15 : decode cX9_sheet 15 = .ok (.bipush 36, 2) := by decide +kernel
theorem dX9_sheet_17 : decode cX9_sheet 17 = .ok (.if_icmp .le 5, 3) := by decide +kernel
theorem dX9_sheet_20 : decode cX9_sheet 20 = .ok (.iconst (-1), 1) := by decide +kernel
theorem dX9_sheet_21 : decode cX9_sheet 21 = .ok (.ireturn, 1) := by decide +kernel
theorem dX9_sheet_22 : decode cX9_sheet 22 = .ok (.iload_n 3, 1) := by decide +kernel
theorem dX9_sheet_23 : decode cX9_sheet 23 = .ok (.ifCond .ge 6, 3) := by decide +kernel
theorem dX9_sheet_26 : decode cX9_sheet 26 = .ok (.bipush (-14), 2) := by decide +kernel
theorem dX9_sheet_28 : decode cX9_sheet 28 = .ok (.ireturn, 1) := by decide +kernel
theorem dX9_sheet_29 : decode cX9_sheet 29 = .ok (.aload_n 0, 1) := by decide +kernel
theorem dX9_sheet_30 : decode cX9_sheet 30 = .ok (.getfield 42, 3) := by decide +kernel
theorem dX9_sheet_33 : decode cX9_sheet 33 = .ok (.iload_n 1, 1) := by decide +kernel
theorem dX9_sheet_34 : decode cX9_sheet 34 = .ok (.iload_n 2, 1) := by decide +kernel
theorem dX9_sheet_35 : decode cX9_sheet 35 = .ok (.iastore, 1) := by decide +kernel
theorem dX9_sheet_36 : decode cX9_sheet 36 = .ok (.aload_n 0, 1) := by decide +kernel
theorem dX9_sheet_37 : decode cX9_sheet 37 = .ok (.getfield 45, 3) := by decide +kernel
theorem dX9_sheet_40 : decode cX9_sheet 40 = .ok (.iload_n 1, 1) := by decide +kernel
theorem dX9_sheet_41 : decode cX9_sheet 41 = .ok (.iload_n 3, 1) := by decide +kernel
theorem dX9_sheet_42 : decode cX9_sheet 42 = .ok (.iastore, 1) := by decide +kernel
theorem dX9_sheet_43 : decode cX9_sheet 43 = .ok (.iconst 0, 1) := by decide +kernel
theorem dX9_sheet_44 : decode cX9_sheet 44 = .ok (.istore 4, 2) := by decide +kernel
theorem dX9_sheet_46 : decode cX9_sheet 46 = .ok (.iload 4, 2) := by decide +kernel
theorem dX9_sheet_48 : decode cX9_sheet 48 = .ok (.bipush 36, 2) := by decide +kernel
theorem dX9_sheet_50 : decode cX9_sheet 50 = .ok (.if_icmp .ge 22, 3) := by decide +kernel
theorem dX9_sheet_53 : decode cX9_sheet 53 = .ok (.aload_n 0, 1) := by decide +kernel
theorem dX9_sheet_54 : decode cX9_sheet 54 = .ok (.getfield 48, 3) := by decide +kernel
theorem dX9_sheet_57 : decode cX9_sheet 57 = .ok (.bipush 36, 2) := by decide +kernel
theorem dX9_sheet_59 : decode cX9_sheet 59 = .ok (.iload_n 1, 1) := by decide +kernel
theorem dX9_sheet_60 : decode cX9_sheet 60 = .ok (.imul, 1) := by decide +kernel
theorem dX9_sheet_61 : decode cX9_sheet 61 = .ok (.iload 4, 2) := by decide +kernel
theorem dX9_sheet_63 : decode cX9_sheet 63 = .ok (.iadd, 1) := by decide +kernel
theorem dX9_sheet_64 : decode cX9_sheet 64 = .ok (.iconst 0, 1) := by decide +kernel
theorem dX9_sheet_65 : decode cX9_sheet 65 = .ok (.iastore, 1) := by decide +kernel
theorem dX9_sheet_66 : decode cX9_sheet 66 = .ok (.iinc 4 1, 3) := by decide +kernel
theorem dX9_sheet_69 : decode cX9_sheet 69 = .ok (.goto (-23), 3) := by decide +kernel
theorem dX9_sheet_72 : decode cX9_sheet 72 = .ok (.iload_n 3, 1) := by decide +kernel
theorem dX9_sheet_73 : decode cX9_sheet 73 = .ok (.ireturn, 1) := by decide +kernel
set_option maxRecDepth 20000 in
theorem ggX9_drop_X9_isSheet : GoodIn wsX9_drop wsX9_isSheet := goodIn_r _ [6, 7, 8, 9, 5, 10] (by decide +kernel) (by decide +kernel)
set_option maxRecDepth 20000 in
theorem gX9_drop_X9_isSheet : GoodIn wsX9_drop (va_wsS RX9 73 yX9_isSheet wsX9_isSheet) := goodIn_app (goodIn_of _ (by decide +kernel)) ggX9_drop_X9_isSheet
theorem dX9_drop_0 : decode cX9_drop 0 = .ok (.iload_n 1, 1) := by decide +kernel
theorem dX9_drop_1 : decode cX9_drop 1 = .ok (.invokestatic 73, 3) := by decide +kernel
theorem dX9_drop_4 : decode cX9_drop 4 = .ok (.ifCond .ne 5, 3) := by decide +kernel
