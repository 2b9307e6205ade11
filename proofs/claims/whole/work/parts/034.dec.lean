theorem dX9_drop_7 : decode cX9_drop 7 = .ok (.iconst (-1), 1) := by decide +kernel
theorem dX9_drop_8 : decode cX9_drop 8 = .ok (.ireturn, 1) := by decide +kernel
theorem dX9_drop_9 : decode cX9_drop 9 = .ok (.aload_n 0, 1) := by decide +kernel
theorem dX9_drop_10 : decode cX9_drop 10 = .ok (.getfield 42, 3) := by decide +kernel
theorem dX9_drop_13 : decode cX9_drop 13 = .ok (.iload_n 1, 1) := by decide +kernel
theorem dX9_drop_14 : decode cX9_drop 14 = .ok (.iaload, 1) := by decide +kernel
theorem dX9_drop_15 : decode cX9_drop 15 = .ok (.ifCond .ge 6, 3) := by decide +kernel
theorem dX9_drop_18 : decode cX9_drop 18 = .ok (.bipush (-11), 2) := by decide +kernel
theorem dX9_drop_20 : decode cX9_drop 20 = .ok (.ireturn, 1) := by decide +kernel
theorem dX9_drop_21 : decode cX9_drop 21 = .ok (.aload_n 0, 1) := by decide +kernel
theorem dX9_drop_22 : decode cX9_drop 22 = .ok (.getfield 42, 3) := by decide +kernel
theorem dX9_drop_25 : decode cX9_drop 25 = .ok (.iload_n 1, 1) := by decide +kernel
theorem dX9_drop_26 : decode cX9_drop 26 = .ok (.iconst (-1), 1) := by decide +kernel
theorem dX9_drop_27 : decode cX9_drop 27 = .ok (.iastore, 1) := by decide +kernel
theorem dX9_drop_28 : decode cX9_drop 28 = .ok (.aload_n 0, 1) := by decide +kernel
theorem dX9_drop_29 : decode cX9_drop 29 = .ok (.getfield 45, 3) := by decide +kernel
theorem dX9_drop_32 : decode cX9_drop 32 = .ok (.iload_n 1, 1) := by decide +kernel
theorem dX9_drop_33 : decode cX9_drop 33 = .ok (.iaload, 1) := by decide +kernel
theorem dX9_drop_34 : decode cX9_drop 34 = .ok (.ireturn, 1) := by decide +kernel
set_option maxRecDepth 20000 in
theorem ggX9_item_X9_isSheet : GoodIn wsX9_item wsX9_isSheet := goodIn_r _ [5, 6, 7, 8, 4, 9] (by decide +kernel) (by decide +kernel)
set_option maxRecDepth 20000 in
theorem gX9_item_X9_isSheet : GoodIn wsX9_item (va_wsS RX9 73 yX9_isSheet wsX9_isSheet) := goodIn_app (goodIn_of _ (by decide +kernel)) ggX9_item_X9_isSheet
set_option maxRecDepth 20000 in
theorem ggX9_item_X9_isLane : GoodIn wsX9_item wsX9_isLane := goodIn_r _ [12, 13, 7, 8, 4, 9] (by decide +kernel) (by decide +kernel)
set_option maxRecDepth 20000 in
theorem gX9_item_X9_isLane : GoodIn wsX9_item (va_wsS RX9 76 yX9_isLane wsX9_isLane) := goodIn_app (goodIn_of _ (by decide +kernel)) ggX9_item_X9_isLane
set_option maxRecDepth 20000 in
theorem ggX9_item_X9_finds : GoodIn wsX9_item wsX9_finds := goodIn_r _ [17, 18, 19, 20, 21, 22, 23, 24, 25, 26, 27, 28, 29, 30, 31, 32, 33, 34, 35, 36, 37, 38, 39, 40, 41, 42, 43] (by decide +kernel) (by decide +kernel)
set_option maxRecDepth 20000 in
theorem gX9_item_X9_finds : GoodIn wsX9_item (wsV RX9 81 RX9 yX9_finds wsX9_finds) := goodIn_app (goodIn_of _ (by decide +kernel)) ggX9_item_X9_finds
theorem dX9_item_0 : decode cX9_item 0 = .ok (.iload_n 1, 1) := by decide +kernel
theorem dX9_item_1 : decode cX9_item 1 = .ok (.invokestatic 73, 3) := by decide +kernel
theorem dX9_item_4 : decode cX9_item 4 = .ok (.ifCond .eq 10, 3) := by decide +kernel
theorem dX9_item_7 : decode cX9_item 7 = .ok (.iload_n 2, 1) := by decide +kernel
theorem dX9_item_8 : decode cX9_item 8 = .ok (.invokestatic 76, 3) := by decide +kernel
theorem dX9_item_11 : decode cX9_item 11 = .ok (.ifCond .ne 5, 3) := by decide +kernel
theorem dX9_item_14 : decode cX9_item 14 = .ok (.iconst (-1), 1) := by decide +kernel
theorem dX9_item_15 : decode cX9_item 15 = .ok (.ireturn, 1) := by decide +kernel
theorem dX9_item_16 : decode cX9_item 16 = .ok (.aload_n 0, 1) := by decide +kernel
theorem dX9_item_17 : decode cX9_item 17 = .ok (.iload_n 1, 1) := by decide +kernel
theorem dX9_item_18 : decode cX9_item 18 = .ok (.iload_n 2, 1) := by decide +kernel
theorem dX9_item_19 : decode cX9_item 19 = .ok (.iload_n 3, 1) := by decide +kernel
theorem dX9_item_20 : decode cX9_item 20 = .ok (.iconst 1, 1) := by decide +kernel
theorem dX9_item_21 : decode cX9_item 21 = .ok (.invokevirtual 81, 3) := by decide +kernel
theorem dX9_item_24 : decode cX9_item 24 = .ok (.istore 5, 2) := by decide +kernel
theorem dX9_item_26 : decode cX9_item 26 = .ok (.iload 5, 2) := by decide +kernel
theorem dX9_item_28 : decode cX9_item 28 = .ok (.ifCond .ge 6, 3) := by decide +kernel
theorem dX9_item_31 : decode cX9_item 31 = .ok (.iload 5, 2) := by decide +kernel
theorem dX9_item_33 : decode cX9_item 33 = .ok (.ireturn, 1) := by decide +kernel
theorem dX9_item_34 : decode cX9_item 34 = .ok (.aload_n 0, 1) := by decide +kernel
theorem dX9_item_35 : decode cX9_item 35 = .ok (.getfield 48, 3) := by decide +kernel
theorem dX9_item_38 : decode cX9_item 38 = .ok (.bipush 36, 2) := by decide +kernel
theorem dX9_item_40 : decode cX9_item 40 = .ok (.iload_n 1, 1) := by decide +kernel
theorem dX9_item_41 : decode cX9_item 41 = .ok (.imul, 1) := by decide +kernel
theorem dX9_item_42 : decode cX9_item 42 = .ok (.iload_n 3, 1) := by decide +kernel
theorem dX9_item_43 : decode cX9_item 43 = .ok (.iadd, 1) := by decide +kernel
theorem dX9_item_44 : decode cX9_item 44 = .ok (.iload_n 2, 1) := by decide +kernel
theorem dX9_item_45 : decode cX9_item 45 = .ok (.ifCond .ne 9, 3) := by decide +kernel
theorem dX9_item_48 : decode cX9_item 48 = .ok (.iload 4, 2) := by decide +kernel
theorem dX9_item_50 : decode cX9_item 50 = .ok (.i2b, 1) := by decide +kernel
theorem dX9_item_51 : decode cX9_item 51 = .ok (.goto 16, 3) := by decide +kernel
theorem dX9_item_54 : decode cX9_item 54 = .ok (.iload_n 2, 1) := by decide +kernel
theorem dX9_item_55 : decode cX9_item 55 = .ok (.iconst 1, 1) := by decide +kernel
theorem dX9_item_56 : decode cX9_item 56 = .ok (.if_icmp .ne 9, 3) := by decide +kernel
theorem dX9_item_59 : decode cX9_item 59 = .ok (.iload 4, 2) := by decide +kernel
theorem dX9_item_61 : decode cX9_item 61 = .ok (.i2s, 1) := by decide +kernel
theorem dX9_item_62 : decode cX9_item 62 = .ok (.goto 5, 3) := by decide +kernel
theorem dX9_item_65 : decode cX9_item 65 = .ok (.iload 4, 2) := by decide +kernel
theorem dX9_item_67 : decode cX9_item 67 = .ok (.iastore, 1) := by decide +kernel
theorem dX9_item_68 : decode cX9_item 68 = .ok (.iconst 1, 1) := by decide +kernel
theorem dX9_item_69 : decode cX9_item 69 = .ok (.ireturn, 1) := by decide +kernel
set_option maxRecDepth 20000 in
theorem ggX9_copy_X9_isSheet : GoodIn wsX9_copy wsX9_isSheet := goodIn_r _ [7, 8, 9, 10, 6, 11] (by decide +kernel) (by decide +kernel)
set_option maxRecDepth 20000 in
theorem gX9_copy_X9_isSheet : GoodIn wsX9_copy (va_wsS RX9 73 yX9_isSheet wsX9_isSheet) := goodIn_app (goodIn_of _ (by decide +kernel)) ggX9_copy_X9_isSheet
set_option maxRecDepth 20000 in
theorem ggX9_copy_X9_finds : GoodIn wsX9_copy wsX9_finds := goodIn_r _ [15, 1, 16, 17, 18, 19, 20, 21, 22, 23, 24, 25, 26, 27, 28, 29, 30, 31, 32, 33, 34, 35, 36, 37, 38, 39, 40] (by decide +kernel) (by decide +kernel)
set_option maxRecDepth 20000 in
theorem gX9_copy_X9_finds : GoodIn wsX9_copy (wsV RX9 81 RX9 yX9_finds wsX9_finds) := goodIn_app (goodIn_of _ (by decide +kernel)) ggX9_copy_X9_finds
theorem dX9_copy_0 : decode cX9_copy 0 = .ok (.iload_n 1, 1) := by decide +kernel
theorem dX9_copy_1 : decode cX9_copy 1 = .ok (.invokestatic 73, 3) := by decide +kernel
theorem dX9_copy_4 : decode cX9_copy 4 = .ok (.ifCond .eq 10, 3) := by decide +kernel
theorem dX9_copy_7 : decode cX9_copy 7 = .ok (.iload_n 3, 1) := by decide +kernel
theorem dX9_copy_8 : decode cX9_copy 8 = .ok (.invokestatic 73, 3) := by decide +kernel
theorem dX9_copy_11 : decode cX9_copy 11 = .ok (.ifCond .ne 5, 3) := by decide +kernel
theorem dX9_copy_14 : decode cX9_copy 14 = .ok (.iconst (-1), 1) := by decide +kernel
theorem dX9_copy_15 : decode cX9_copy 15 = .ok (.ireturn, 1) := by decide +kernel
theorem dX9_copy_16 : decode cX9_copy 16 = .ok (.aload_n 0, 1) := by decide +kernel
theorem dX9_copy_17 : decode cX9_copy 17 = .ok (.getfield 42, 3) := by decide +kernel
theorem dX9_copy_20 : decode cX9_copy 20 = .ok (.iload_n 1, 1) := by decide +kernel
theorem dX9_copy_21 : decode cX9_copy 21 = .ok (.iaload, 1) := by decide +kernel
theorem dX9_copy_22 : decode cX9_copy 22 = .ok (.ifCond .lt 12, 3) := by decide +kernel
theorem dX9_copy_25 : decode cX9_copy 25 = .ok (.aload_n 0, 1) := by decide +kernel
theorem dX9_copy_26 : decode cX9_copy 26 = .ok (.getfield 42, 3) := by decide +kernel
theorem dX9_copy_29 : decode cX9_copy 29 = .ok (.iload_n 3, 1) := by decide +kernel
theorem dX9_copy_30 : decode cX9_copy 30 = .ok (.iaload, 1) := by decide +kernel
theorem dX9_copy_31 : decode cX9_copy 31 = .ok (.ifCond .ge 6, 3) := by decide +kernel
theorem dX9_copy_34 : decode cX9_copy 34 = .ok (.bipush (-11), 2) := by decide +kernel
theorem dX9_copy_36 : decode cX9_copy 36 = .ok (.ireturn, 1) := by decide +kernel
theorem dX9_copy_37 : decode cX9_copy 37 = .ok (.aload_n 0, 1) := by decide +kernel
theorem dX9_copy_38 : decode cX9_copy 38 = .ok (.getfield 42, 3) := by decide +kernel
theorem dX9_copy_41 : decode cX9_copy 41 = .ok (.iload_n 1, 1) := by decide +kernel
theorem dX9_copy_42 : decode cX9_copy 42 = .ok (.iaload, 1) := by decide +kernel
theorem dX9_copy_43 : decode cX9_copy 43 = .ok (.aload_n 0, 1) := by decide +kernel
theorem dX9_copy_44 : decode cX9_copy 44 = .ok (.getfield 42, 3) := by decide +kernel
theorem dX9_copy_47 : decode cX9_copy 47 = .ok (.iload_n 3, 1) := by decide +kernel
theorem dX9_copy_48 : decode cX9_copy 48 = .ok (.iaload, 1) := by decide +kernel
theorem dX9_copy_49 : decode cX9_copy 49 = .ok (.if_icmp .eq 6, 3) := by decide +kernel
theorem dX9_copy_52 : decode cX9_copy 52 = .ok (.bipush (-12), 2) := by decide +kernel
theorem dX9_copy_54 : decode cX9_copy 54 = .ok (.ireturn, 1) := by decide +kernel
theorem dX9_copy_55 : decode cX9_copy 55 = .ok (.iload 5, 2) := by decide +kernel
theorem dX9_copy_57 : decode cX9_copy 57 = .ok (.ifCond .lt 38, 3) := by decide +kernel
theorem dX9_copy_60 : decode cX9_copy 60 = .ok (.aload_n 0, 1) := by decide +kernel
theorem dX9_copy_61 : decode cX9_copy 61 = .ok (.iload_n 1, 1) := by decide +kernel
theorem dX9_copy_62 : decode cX9_copy 62 = .ok (.aload_n 0, 1) := by decide +kernel
theorem dX9_copy_63 : decode cX9_copy 63 = .ok (.getfield 42, 3) := by decide +kernel
theorem dX9_copy_66 : decode cX9_copy 66 = .ok (.iload_n 1, 1) := by decide +kernel
theorem dX9_copy_67 : decode cX9_copy 67 = .ok (.iaload, 1) := by decide +kernel
theorem dX9_copy_68 : decode cX9_copy 68 = .ok (.iload_n 2, 1) := by decide +kernel
theorem dX9_copy_69 : decode cX9_copy 69 = .ok (.iload 5, 2) := by decide +kernel
theorem dX9_copy_71 : decode cX9_copy 71 = .ok (.invokevirtual 81, 3) := by decide +kernel
theorem dX9_copy_74 : decode cX9_copy 74 = .ok (.ifCond .lt 21, 3) := by decide +kernel
theorem dX9_copy_77 : decode cX9_copy 77 = .ok (.aload_n 0, 1) := by decide +kernel
theorem dX9_copy_78 : decode cX9_copy 78 = .ok (.iload_n 3, 1) := by decide +kernel
theorem dX9_copy_79 : decode cX9_copy 79 = .ok (.aload_n 0, 1) := by decide +kernel
theorem dX9_copy_80 : decode cX9_copy 80 = .ok (.getfield 42, 3) := by decide +kernel
theorem dX9_copy_83 : decode cX9_copy 83 = .ok (.iload_n 3, 1) := by decide +kernel
theorem dX9_copy_84 : decode cX9_copy 84 = .ok (.iaload, 1) := by decide +kernel
theorem dX9_copy_85 : decode cX9_copy 85 = .ok (.iload 4, 2) := by decide +kernel
theorem dX9_copy_87 : decode cX9_copy 87 = .ok (.iload 5, 2) := by decide +kernel
theorem dX9_copy_89 : decode cX9_copy 89 = .ok (.invokevirtual 81, 3) := by decide +kernel
theorem dX9_copy_92 : decode cX9_copy 92 = .ok (.ifCond .ge 6, 3) := by decide +kernel
theorem dX9_copy_95 : decode cX9_copy 95 = .ok (.bipush (-13), 2) := by decide +kernel
theorem dX9_copy_97 : decode cX9_copy 97 = .ok (.ireturn, 1) := by decide +kernel
theorem dX9_copy_98 : decode cX9_copy 98 = .ok (.iconst 0, 1) := by decide +kernel
theorem dX9_copy_99 : decode cX9_copy 99 = .ok (.istore 6, 2) := by decide +kernel
theorem dX9_copy_101 : decode cX9_copy 101 = .ok (.iload 6, 2) := by decide +kernel
theorem dX9_copy_103 : decode cX9_copy 103 = .ok (.iload 5, 2) := by decide +kernel
theorem dX9_copy_105 : decode cX9_copy 105 = .ok (.if_icmp .ge 30, 3) := by decide +kernel
theorem dX9_copy_108 : decode cX9_copy 108 = .ok (.aload_n 0, 1) := by decide +kernel
theorem dX9_copy_109 : decode cX9_copy 109 = .ok (.getfield 51, 3) := by decide +kernel
theorem dX9_copy_112 : decode cX9_copy 112 = .ok (.iload 6, 2) := by decide +kernel
theorem dX9_copy_114 : decode cX9_copy 114 = .ok (.aload_n 0, 1) := by decide +kernel
theorem dX9_copy_115 : decode cX9_copy 115 = .ok (.getfield 48, 3) := by decide +kernel
theorem dX9_copy_118 : decode cX9_copy 118 = .ok (.bipush 36, 2) := by decide +kernel
theorem dX9_copy_120 : decode cX9_copy 120 = .ok (.iload_n 1, 1) := by decide +kernel
theorem dX9_copy_121 : decode cX9_copy 121 = .ok (.imul, 1) := by decide +kernel
theorem dX9_copy_122 : decode cX9_copy 122 = .ok (.iload_n 2, 1) := by decide +kernel
theorem dX9_copy_123 : decode cX9_copy 123 = .ok (.iadd, 1) := by decide +kernel
theorem dX9_copy_124 : decode cX9_copy 124 = .ok (.iload 6, 2) := by decide +kernel
theorem dX9_copy_126 : decode cX9_copy 126 = .ok (.iadd, 1) := by decide +kernel
theorem dX9_copy_127 : decode cX9_copy 127 = .ok (.iaload, 1) := by decide +kernel
theorem dX9_copy_128 : decode cX9_copy 128 = .ok (.iastore, 1) := by decide +kernel
theorem dX9_copy_129 : decode cX9_copy 129 = .ok (.iinc 6 1, 3) := by decide +kernel
theorem dX9_copy_132 : decode cX9_copy 132 = .ok (.goto (-31), 3) := by decide +kernel
theorem dX9_copy_135 : decode cX9_copy 135 = .ok (.iconst 0, 1) := by decide +kernel
theorem dX9_copy_136 : decode cX9_copy 136 = .ok (.istore 6, 2) := by decide +kernel
theorem dX9_copy_138 : decode cX9_copy 138 = .ok (.iload 6, 2) := by decide +kernel
theorem dX9_copy_140 : decode cX9_copy 140 = .ok (.iload 5, 2) := by decide +kernel
theorem dX9_copy_142 : decode cX9_copy 142 = .ok (.if_icmp .ge 31, 3) := by decide +kernel
theorem dX9_copy_145 : decode cX9_copy 145 = .ok (.aload_n 0, 1) := by decide +kernel
theorem dX9_copy_146 : decode cX9_copy 146 = .ok (.getfield 48, 3) := by decide +kernel
theorem dX9_copy_149 : decode cX9_copy 149 = .ok (.bipush 36, 2) := by decide +kernel
theorem dX9_copy_151 : decode cX9_copy 151 = .ok (.iload_n 3, 1) := by decide +kernel
theorem dX9_copy_152 : decode cX9_copy 152 = .ok (.imul, 1) := by decide +kernel
theorem dX9_copy_153 : decode cX9_copy 153 = .ok (.iload 4, 2) := by decide +kernel
theorem dX9_copy_155 : decode cX9_copy 155 = .ok (.iadd, 1) := by decide +kernel
theorem dX9_copy_156 : decode cX9_copy 156 = .ok (.iload 6, 2) := by decide +kernel
theorem dX9_copy_158 : decode cX9_copy 158 = .ok (.iadd, 1) := by decide +kernel
theorem dX9_copy_159 : decode cX9_copy 159 = .ok (.aload_n 0, 1) := by decide +kernel
theorem dX9_copy_160 : decode cX9_copy 160 = .ok (.getfield 51, 3) := by decide +kernel
theorem dX9_copy_163 : decode cX9_copy 163 = .ok (.iload 6, 2) := by decide +kernel
theorem dX9_copy_165 : decode cX9_copy 165 = .ok (.iaload, 1) := by decide +kernel
theorem dX9_copy_166 : decode cX9_copy 166 = .ok (.iastore, 1) := by decide +kernel
theorem dX9_copy_167 : decode cX9_copy 167 = .ok (.iinc 6 1, 3) := by decide +kernel
theorem dX9_copy_170 : decode cX9_copy 170 = .ok (.goto (-32), 3) := by decide +kernel
theorem dX9_copy_173 : decode cX9_copy 173 = .ok (.iload 5, 2) := by decide +kernel
theorem dX9_copy_175 : decode cX9_copy 175 = .ok (.ireturn, 1) := by decide +kernel
theorem dJ6_bitCount_0f7a4_0 : decode cJ6_bitCount_0f7a4 0 = .ok (.iload_n 0, 1) := by decide +kernel
theorem dJ6_bitCount_0f7a4_1 : decode cJ6_bitCount_0f7a4 1 = .ok (.iload_n 0, 1) := by decide +kernel
theorem dJ6_bitCount_0f7a4_2 : decode cJ6_bitCount_0f7a4 2 = .ok (.iconst 1, 1) := by decide +kernel
theorem dJ6_bitCount_0f7a4_3 : decode cJ6_bitCount_0f7a4 3 = .ok (.iushr, 1) := by decide +kernel
theorem dJ6_bitCount_0f7a4_4 : decode cJ6_bitCount_0f7a4 4 = .ok (.ldc_w 265, 3) := by decide +kernel
theorem dJ6_bitCount_0f7a4_7 : decode cJ6_bitCount_0f7a4 7 = .ok (.iand, 1) := by decide +kernel
theorem dJ6_bitCount_0f7a4_8 : decode cJ6_bitCount_0f7a4 8 = .ok (.isub, 1) := by decide +kernel
theorem dJ6_bitCount_0f7a4_9 : decode cJ6_bitCount_0f7a4 9 = .ok (.istore_n 0, 1) := by decide +kernel
theorem dJ6_bitCount_0f7a4_10 : decode cJ6_bitCount_0f7a4 10 = .ok (.iload_n 0, 1) := by decide +kernel
theorem dJ6_bitCount_0f7a4_11 : decode cJ6_bitCount_0f7a4 11 = .ok (.ldc_w 266, 3) := by decide +kernel
theorem dJ6_bitCount_0f7a4_14 : decode cJ6_bitCount_0f7a4 14 = .ok (.iand, 1) := by decide +kernel
theorem dJ6_bitCount_0f7a4_15 : decode cJ6_bitCount_0f7a4 15 = .ok (.iload_n 0, 1) := by decide +kernel
theorem dJ6_bitCount_0f7a4_16 : decode cJ6_bitCount_0f7a4 16 = .ok (.iconst 2, 1) := by decide +kernel
theorem dJ6_bitCount_0f7a4_17 : decode cJ6_bitCount_0f7a4 17 = .ok (.iushr, 1) := by decide +kernel
theorem dJ6_bitCount_0f7a4_18 : decode cJ6_bitCount_0f7a4 18 = .ok (.ldc_w 266, 3) := by decide +kernel
theorem dJ6_bitCount_0f7a4_21 : decode cJ6_bitCount_0f7a4 21 = .ok (.iand, 1) := by decide +kernel
theorem dJ6_bitCount_0f7a4_22 : decode cJ6_bitCount_0f7a4 22 = .ok (.iadd, 1) := by decide +kernel
theorem dJ6_bitCount_0f7a4_23 : decode cJ6_bitCount_0f7a4 23 = .ok (.istore_n 0, 1) := by decide +kernel
theorem dJ6_bitCount_0f7a4_24 : decode cJ6_bitCount_0f7a4 24 = .ok (.iload_n 0, 1) := by decide +kernel
theorem dJ6_bitCount_0f7a4_25 : decode cJ6_bitCount_0f7a4 25 = .ok (.iload_n 0, 1) := by decide +kernel
theorem dJ6_bitCount_0f7a4_26 : decode cJ6_bitCount_0f7a4 26 = .ok (.iconst 4, 1) := by decide +kernel
theorem dJ6_bitCount_0f7a4_27 : decode cJ6_bitCount_0f7a4 27 = .ok (.iushr, 1) := by decide +kernel
theorem dJ6_bitCount_0f7a4_28 : decode cJ6_bitCount_0f7a4 28 = .ok (.iadd, 1) := by decide +kernel
theorem dJ6_bitCount_0f7a4_29 : decode cJ6_bitCount_0f7a4 29 = .ok (.ldc_w 267, 3) := by decide +kernel
theorem dJ6_bitCount_0f7a4_32 : decode cJ6_bitCount_0f7a4 32 = .ok (.iand, 1) := by decide +kernel
theorem dJ6_bitCount_0f7a4_33 : decode cJ6_bitCount_0f7a4 33 = .ok (.istore_n 0, 1) := by decide +kernel
theorem dJ6_bitCount_0f7a4_34 : decode cJ6_bitCount_0f7a4 34 = .ok (.iload_n 0, 1) := by decide +kernel
theorem dJ6_bitCount_0f7a4_35 : decode cJ6_bitCount_0f7a4 35 = .ok (.iload_n 0, 1) := by decide +kernel
theorem dJ6_bitCount_0f7a4_36 : decode cJ6_bitCount_0f7a4 36 = .ok (.bipush 8, 2) := by decide +kernel
theorem dJ6_bitCount_0f7a4_38 : decode cJ6_bitCount_0f7a4 38 = .ok (.iushr, 1) := by decide +kernel
theorem dJ6_bitCount_0f7a4_39 : decode cJ6_bitCount_0f7a4 39 = .ok (.iadd, 1) := by decide +kernel
theorem dJ6_bitCount_0f7a4_40 : decode cJ6_bitCount_0f7a4 40 = .ok (.istore_n 0, 1) := by decide +kernel
theorem dJ6_bitCount_0f7a4_41 : decode cJ6_bitCount_0f7a4 41 = .ok (.iload_n 0, 1) := by decide +kernel
theorem dJ6_bitCount_0f7a4_42 : decode cJ6_bitCount_0f7a4 42 = .ok (.iload_n 0, 1) := by decide +kernel
theorem dJ6_bitCount_0f7a4_43 : decode cJ6_bitCount_0f7a4 43 = .ok (.bipush 16, 2) := by decide +kernel
theorem dJ6_bitCount_0f7a4_45 : decode cJ6_bitCount_0f7a4 45 = .ok (.iushr, 1) := by decide +kernel
theorem dJ6_bitCount_0f7a4_46 : decode cJ6_bitCount_0f7a4 46 = .ok (.iadd, 1) := by decide +kernel
theorem dJ6_bitCount_0f7a4_47 : decode cJ6_bitCount_0f7a4 47 = .ok (.istore_n 0, 1) := by decide +kernel
theorem dJ6_bitCount_0f7a4_48 : decode cJ6_bitCount_0f7a4 48 = .ok (.iload_n 0, 1) := by decide +kernel
theorem dJ6_bitCount_0f7a4_49 : decode cJ6_bitCount_0f7a4 49 = .ok (.bipush 63, 2) := by decide +kernel
theorem dJ6_bitCount_0f7a4_51 : decode cJ6_bitCount_0f7a4 51 = .ok (.iand, 1) := by decide +kernel
theorem dJ6_bitCount_0f7a4_52 : decode cJ6_bitCount_0f7a4 52 = .ok (.ireturn, 1) := by decide +kernel
theorem dJ9_floorDiv_7cf53_0 : decode cJ9_floorDiv_7cf53 0 = .ok (.iload_n 0, 1) := by decide +kernel
theorem dJ9_floorDiv_7cf53_1 : decode cJ9_floorDiv_7cf53 1 = .ok (.iload_n 1, 1) := by decide +kernel
theorem dJ9_floorDiv_7cf53_2 : decode cJ9_floorDiv_7cf53 2 = .ok (.idiv, 1) := by decide +kernel
theorem dJ9_floorDiv_7cf53_3 : decode cJ9_floorDiv_7cf53 3 = .ok (.istore_n 2, 1) := by decide +kernel
theorem dJ9_floorDiv_7cf53_4 : decode cJ9_floorDiv_7cf53 4 = .ok (.iload_n 0, 1) := by decide +kernel
theorem dJ9_floorDiv_7cf53_5 : decode cJ9_floorDiv_7cf53 5 = .ok (.iload_n 1, 1) := by decide +kernel
theorem dJ9_floorDiv_7cf53_6 : decode cJ9_floorDiv_7cf53 6 = .ok (.ixor, 1) := by decide +kernel
theorem dJ9_floorDiv_7cf53_7 : decode cJ9_floorDiv_7cf53 7 = .ok (.ifCond .ge 14, 3) := by decide +kernel
theorem dJ9_floorDiv_7cf53_10 : decode cJ9_floorDiv_7cf53 10 = .ok (.iload_n 2, 1) := by decide +kernel
theorem dJ9_floorDiv_7cf53_11 : decode cJ9_floorDiv_7cf53 11 = .ok (.iload_n 1, 1) := by decide +kernel
theorem dJ9_floorDiv_7cf53_12 : decode cJ9_floorDiv_7cf53 12 = .ok (.imul, 1) := by decide +kernel
theorem dJ9_floorDiv_7cf53_13 : decode cJ9_floorDiv_7cf53 13 = .ok (.iload_n 0, 1) := by decide +kernel
theorem dJ9_floorDiv_7cf53_14 : decode cJ9_floorDiv_7cf53 14 = .ok (.if_icmp .eq 7, 3) := by decide +kernel
theorem dJ9_floorDiv_7cf53_17 : decode cJ9_floorDiv_7cf53 17 = .ok (.iload_n 2, 1) := by decide +kernel
theorem dJ9_floorDiv_7cf53_18 : decode cJ9_floorDiv_7cf53 18 = .ok (.iconst 1, 1) := by decide +kernel
theorem dJ9_floorDiv_7cf53_19 : decode cJ9_floorDiv_7cf53 19 = .ok (.isub, 1) := by decide +kernel
theorem dJ9_floorDiv_7cf53_20 : decode cJ9_floorDiv_7cf53 20 = .ok (.ireturn, 1) := by decide +kernel
theorem dJ9_floorDiv_7cf53_21 : decode cJ9_floorDiv_7cf53 21 = .ok (.iload_n 2, 1) := by decide +kernel
theorem dJ9_floorDiv_7cf53_22 : decode cJ9_floorDiv_7cf53 22 = .ok (.ireturn, 1) := by decide +kernel
theorem dJ9_abs_0f7a4_0 : decode cJ9_abs_0f7a4 0 = .ok (.iload_n 0, 1) := by decide +kernel
theorem dJ9_abs_0f7a4_1 : decode cJ9_abs_0f7a4 1 = .ok (.ifCond .ge 8, 3) := by decide +kernel
theorem dJ9_abs_0f7a4_4 : decode cJ9_abs_0f7a4 4 = .ok (.iload_n 0, 1) := by decide +kernel
theorem dJ9_abs_0f7a4_5 : decode cJ9_abs_0f7a4 5 = .ok (.ineg, 1) := by decide +kernel
theorem dJ9_abs_0f7a4_6 : decode cJ9_abs_0f7a4 6 = .ok (.goto 4, 3) := by decide +kernel
theorem dJ9_abs_0f7a4_9 : decode cJ9_abs_0f7a4 9 = .ok (.iload_n 0, 1) := by decide +kernel
theorem dJ9_abs_0f7a4_10 : decode cJ9_abs_0f7a4 10 = .ok (.ireturn, 1) := by decide +kernel
theorem dJ9_max_7cf53_0 : decode cJ9_max_7cf53 0 = .ok (.iload_n 0, 1) := by decide +kernel
theorem dJ9_max_7cf53_1 : decode cJ9_max_7cf53 1 = .ok (.iload_n 1, 1) := by decide +kernel
theorem dJ9_max_7cf53_2 : decode cJ9_max_7cf53 2 = .ok (.if_icmp .lt 7, 3) := by decide +kernel
theorem dJ9_max_7cf53_5 : decode cJ9_max_7cf53 5 = .ok (.iload_n 0, 1) := by decide +kernel
theorem dJ9_max_7cf53_6 : decode cJ9_max_7cf53 6 = .ok (.goto 4, 3) := by decide +kernel
theorem dJ9_max_7cf53_9 : decode cJ9_max_7cf53 9 = .ok (.iload_n 1, 1) := by decide +kernel
theorem dJ9_max_7cf53_10 : decode cJ9_max_7cf53 10 = .ok (.ireturn, 1) := by decide +kernel
theorem dJ9_min_7cf53_0 : decode cJ9_min_7cf53 0 = .ok (.iload_n 0, 1) := by decide +kernel
theorem dJ9_min_7cf53_1 : decode cJ9_min_7cf53 1 = .ok (.iload_n 1, 1) := by decide +kernel
theorem dJ9_min_7cf53_2 : decode cJ9_min_7cf53 2 = .ok (.if_icmp .gt 7, 3) := by decide +kernel
theorem dJ9_min_7cf53_5 : decode cJ9_min_7cf53 5 = .ok (.iload_n 0, 1) := by decide +kernel
theorem dJ9_min_7cf53_6 : decode cJ9_min_7cf53 6 = .ok (.goto 4, 3) := by decide +kernel
theorem dJ9_min_7cf53_9 : decode cJ9_min_7cf53 9 = .ok (.iload_n 1, 1) := by decide +kernel
theorem dJ9_min_7cf53_10 : decode cJ9_min_7cf53 10 = .ok (.ireturn, 1) := by decide +kernel
theorem dJ7_fill_53178_0 : decode cJ7_fill_53178 0 = .ok (.iconst 0, 1) := by decide +kernel
theorem dJ7_fill_53178_1 : decode cJ7_fill_53178 1 = .ok (.istore_n 2, 1) := by decide +kernel
theorem dJ7_fill_53178_2 : decode cJ7_fill_53178 2 = .ok (.aload_n 0, 1) := by decide +kernel
theorem dJ7_fill_53178_3 : decode cJ7_fill_53178 3 = .ok (.arraylength, 1) := by decide +kernel
theorem dJ7_fill_53178_4 : decode cJ7_fill_53178 4 = .ok (.istore_n 3, 1) := by decide +kernel
theorem dJ7_fill_53178_5 : decode cJ7_fill_53178 5 = .ok (.iload_n 2, 1) := by decide +kernel
theorem dJ7_fill_53178_6 : decode cJ7_fill_53178 6 = .ok (.iload_n 3, 1) := by decide +kernel
theorem dJ7_fill_53178_7 : decode cJ7_fill_53178 7 = .ok (.if_icmp .ge 13, 3) := by decide +kernel
theorem dJ7_fill_53178_10 : decode cJ7_fill_53178 10 = .ok (.aload_n 0, 1) := by decide +kernel
theorem dJ7_fill_53178_11 : decode cJ7_fill_53178 11 = .ok (.iload_n 2, 1) := by decide +kernel
theorem dJ7_fill_53178_12 : decode cJ7_fill_53178 12 = .ok (.iload_n 1, 1) := by decide +kernel
theorem dJ7_fill_53178_13 : decode cJ7_fill_53178 13 = .ok (.iastore, 1) := by decide +kernel
theorem dJ7_fill_53178_14 : decode cJ7_fill_53178 14 = .ok (.iinc 2 1, 3) := by decide +kernel
theorem dJ7_fill_53178_17 : decode cJ7_fill_53178 17 = .ok (.goto (-12), 3) := by decide +kernel
theorem dJ7_fill_53178_20 : decode cJ7_fill_53178 20 = .ok (.return_, 1) := by decide +kernel
