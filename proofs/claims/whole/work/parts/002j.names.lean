theorem dX6_firstOf_21 : decode cX6_firstOf 21 = .ok (.iinc 2 1, 3) := by decide +kernel
theorem dX6_firstOf_24 : decode cX6_firstOf 24 = .ok (.goto (-22), 3) := by decide +kernel
theorem dX6_firstOf_27 : decode cX6_firstOf 27 = .ok (.iconst (-1), 1) := by decide +kernel
theorem dX6_firstOf_28 : decode cX6_firstOf 28 = .ok (.ireturn, 1) := by decide +kernel
set_option maxRecDepth 20000 in
theorem ggX6_came_X6_isWord : GoodIn wsX6_came wsX6_isWord := goodIn_r _ [6, 7, 8, 9, 5, 10, 25, 26, 27, 28, 29, 30, 31, 32, 33, 34, 35, 36, 37, 38, 39, 40, 41, 42, 43, 44, 45, 46, 47, 48, 49, 50] (by decide +kernel) (by decide +kernel)
set_option maxRecDepth 20000 in
theorem gX6_came_X6_isWord : GoodIn wsX6_came (wsV RX6 83 RX6 yX6_isWord wsX6_isWord) := goodIn_app (goodIn_of _ (by decide +kernel)) ggX6_came_X6_isWord
set_option maxRecDepth 20000 in
theorem ggX6_came_X6_isIn : GoodIn wsX6_came wsX6_isIn := goodIn_r _ [10] (by decide +kernel) (by decide +kernel)
set_option maxRecDepth 20000 in
theorem gX6_came_X6_isIn : GoodIn wsX6_came (va_wsS RX6 79 yX6_isIn wsX6_isIn) := goodIn_app (goodIn_of _ (by decide +kernel)) ggX6_came_X6_isIn
set_option maxRecDepth 20000 in
theorem ggX6_came_X6_firstOf : GoodIn wsX6_came wsX6_firstOf := goodIn_r _ [14, 1, 15, 16, 17, 5, 18, 7, 19, 20, 21, 22, 23, 24, 25, 26, 27, 28, 29, 30, 31, 32, 33, 34, 35, 36, 37, 38, 39, 40, 41, 42, 43, 44, 45, 46, 47, 48, 49, 50] (by decide +kernel) (by decide +kernel)
set_option maxRecDepth 20000 in
theorem gX6_came_X6_firstOf : GoodIn wsX6_came (wsV RX6 203 RX6 yX6_firstOf wsX6_firstOf) := goodIn_app (goodIn_of _ (by decide +kernel)) ggX6_came_X6_firstOf
set_option maxRecDepth 20000 in
theorem ggX6_came_X6_stands : GoodIn wsX6_came wsX6_stands := goodIn_r _ [18, 7, 19, 20, 21, 22, 5, 23, 24, 25, 26, 27, 28, 29, 30, 31, 32, 33, 34, 35, 36, 37, 38, 39, 40, 41, 42, 43, 44, 45, 46, 47, 48, 49, 50] (by decide +kernel) (by decide +kernel)
set_option maxRecDepth 20000 in
theorem gX6_came_X6_stands : GoodIn wsX6_came (wsV RX6 200 RX6 yX6_stands wsX6_stands) := goodIn_app (goodIn_of _ (by decide +kernel)) ggX6_came_X6_stands
theorem dX6_came_0 : decode cX6_came 0 = .ok (.aload_n 0, 1) := by decide +kernel
theorem dX6_came_1 : decode cX6_came 1 = .ok (.iload_n 1, 1) := by decide +kernel
theorem dX6_came_2 : decode cX6_came 2 = .ok (.invokevirtual 83, 3) := by decide +kernel
theorem dX6_came_5 : decode cX6_came 5 = .ok (.ifCond .eq 11, 3) := by decide +kernel
theorem dX6_came_8 : decode cX6_came 8 = .ok (.iload_n 2, 1) := by decide +kernel
theorem dX6_came_9 : decode cX6_came 9 = .ok (.iconst 2, 1) := by decide +kernel
theorem dX6_came_10 : decode cX6_came 10 = .ok (.invokestatic 79, 3) := by decide +kernel
theorem dX6_came_13 : decode cX6_came 13 = .ok (.ifCond .ne 5, 3) := by decide +kernel
theorem dX6_came_16 : decode cX6_came 16 = .ok (.iconst (-1), 1) := by decide +kernel
theorem dX6_came_17 : decode cX6_came 17 = .ok (.ireturn, 1) := by decide +kernel
theorem dX6_came_18 : decode cX6_came 18 = .ok (.iload_n 2, 1) := by decide +kernel
theorem dX6_came_19 : decode cX6_came 19 = .ok (.ifCond .ne 9, 3) := by decide +kernel
theorem dX6_came_22 : decode cX6_came 22 = .ok (.aload_n 0, 1) := by decide +kernel
theorem dX6_came_23 : decode cX6_came 23 = .ok (.iload_n 1, 1) := by decide +kernel
theorem dX6_came_24 : decode cX6_came 24 = .ok (.invokevirtual 203, 3) := by decide +kernel
theorem dX6_came_27 : decode cX6_came 27 = .ok (.ireturn, 1) := by decide +kernel
theorem dX6_came_28 : decode cX6_came 28 = .ok (.iconst 0, 1) := by decide +kernel
theorem dX6_came_29 : decode cX6_came 29 = .ok (.istore_n 3, 1) := by decide +kernel
theorem dX6_came_30 : decode cX6_came 30 = .ok (.iconst 1, 1) := by decide +kernel
theorem dX6_came_31 : decode cX6_came 31 = .ok (.istore 4, 2) := by decide +kernel
theorem dX6_came_33 : decode cX6_came 33 = .ok (.iload 4, 2) := by decide +kernel
theorem dX6_came_35 : decode cX6_came 35 = .ok (.aload_n 0, 1) := by decide +kernel
theorem dX6_came_36 : decode cX6_came 36 = .ok (.getfield 76, 3) := by decide +kernel
theorem dX6_came_39 : decode cX6_came 39 = .ok (.if_icmp .gt 27, 3) := by decide +kernel
theorem dX6_came_42 : decode cX6_came 42 = .ok (.iload_n 3, 1) := by decide +kernel
theorem dX6_came_43 : decode cX6_came 43 = .ok (.aload_n 0, 1) := by decide +kernel
theorem dX6_came_44 : decode cX6_came 44 = .ok (.iload_n 1, 1) := by decide +kernel
theorem dX6_came_45 : decode cX6_came 45 = .ok (.iload 4, 2) := by decide +kernel
theorem dX6_came_47 : decode cX6_came 47 = .ok (.invokevirtual 200, 3) := by decide +kernel
theorem dX6_came_50 : decode cX6_came 50 = .ok (.ifCond .eq 7, 3) := by decide +kernel
theorem dX6_came_53 : decode cX6_came 53 = .ok (.iconst 1, 1) := by decide +kernel
theorem dX6_came_54 : decode cX6_came 54 = .ok (.goto 4, 3) := by decide +kernel
theorem dX6_came_57 : decode cX6_came 57 = .ok (.iconst 0, 1) := by decide +kernel
theorem dX6_came_58 : decode cX6_came 58 = .ok (.iadd, 1) := by decide +kernel
theorem dX6_came_59 : decode cX6_came 59 = .ok (.istore_n 3, 1) := by decide +kernel
theorem dX6_came_60 : decode cX6_came 60 = .ok (.iinc 4 1, 3) := by decide +kernel
theorem dX6_came_63 : decode cX6_came 63 = .ok (.goto (-30), 3) := by decide +kernel
theorem dX6_came_66 : decode cX6_came 66 = .ok (.iload_n 3, 1) := by decide +kernel
theorem dX6_came_67 : decode cX6_came 67 = .ok (.ireturn, 1) := by decide +kernel
set_option maxRecDepth 20000 in
theorem ggX6_won_X6_isWord : GoodIn wsX6_won wsX6_isWord := goodIn_r _ [9, 1, 10, 11, 8, 12, 50, 51, 52, 53, 54, 55, 56, 57, 58, 59, 60, 61, 62, 63, 64, 65, 66, 67, 68, 69, 70, 71, 72, 73, 74, 75] (by decide +kernel) (by decide +kernel)
set_option maxRecDepth 20000 in
theorem gX6_won_X6_isWord : GoodIn wsX6_won (wsV RX6 83 RX6 yX6_isWord wsX6_isWord) := goodIn_app (goodIn_of _ (by decide +kernel)) ggX6_won_X6_isWord
set_option maxRecDepth 20000 in
theorem ggX6_won_X6_firstOf : GoodIn wsX6_won wsX6_firstOf := goodIn_r _ [16, 17, 18, 19, 20, 8, 21, 1, 2, 22, 23, 24, 25, 26, 50, 51, 52, 53, 54, 55, 56, 57, 58, 59, 60, 61, 62, 63, 64, 65, 66, 67, 68, 69, 70, 71, 72, 73, 74, 75] (by decide +kernel) (by decide +kernel)
set_option maxRecDepth 20000 in
theorem gX6_won_X6_firstOf : GoodIn wsX6_won (wsV RX6 203 RX6 yX6_firstOf wsX6_firstOf) := goodIn_app (goodIn_of _ (by decide +kernel)) ggX6_won_X6_firstOf
set_option maxRecDepth 20000 in
theorem ggX6_won_X6_letterOf : GoodIn wsX6_won wsX6_letterOf := goodIn_r _ [25, 26, 50, 51, 52, 53, 54, 55, 56, 57, 58, 59, 60, 61, 62, 63, 64, 65, 66, 67, 68, 69, 70, 71, 72, 73, 74, 75] (by decide +kernel) (by decide +kernel)
set_option maxRecDepth 20000 in
theorem gX6_won_X6_letterOf : GoodIn wsX6_won (wsV RX6 87 RX6 yX6_letterOf wsX6_letterOf) := goodIn_app (goodIn_of _ (by decide +kernel)) ggX6_won_X6_letterOf
set_option maxRecDepth 20000 in
theorem ggX6_won_X6_over : GoodIn wsX6_won wsX6_over := goodIn_r _ [30, 31, 32, 22, 23, 24, 8, 25, 26, 33, 34, 35, 36, 3, 4, 37, 38, 39, 50, 51, 52, 53, 54, 55, 56, 57, 58, 59, 60, 61, 62, 63, 64, 65, 66, 67, 68, 69, 70, 71, 72, 73, 74, 75] (by decide +kernel) (by decide +kernel)
set_option maxRecDepth 20000 in
theorem gX6_won_X6_over : GoodIn wsX6_won (wsV RX6 119 RX6 yX6_over wsX6_over) := goodIn_app (goodIn_of _ (by decide +kernel)) ggX6_won_X6_over
set_option maxRecDepth 20000 in
theorem ggX6_won_X6_add : GoodIn wsX6_won wsX6_add := goodIn_r _ [43, 37, 38, 8, 39, 33, 34, 35, 36, 3, 4, 50, 51, 52, 53, 54, 55, 56, 57, 58, 59, 60, 61, 62, 63, 64, 65, 66, 67, 68, 69, 70, 71, 72, 73, 74, 75] (by decide +kernel) (by decide +kernel)
set_option maxRecDepth 20000 in
theorem gX6_won_X6_add : GoodIn wsX6_won (wsV RX6 123 RX6 yX6_add wsX6_add) := goodIn_app (goodIn_of _ (by decide +kernel)) ggX6_won_X6_add
set_option maxRecDepth 20000 in
theorem ggX6_won_X6_atHand : GoodIn wsX6_won wsX6_atHand := goodIn_r _ [47, 3, 48, 4, 49, 33, 34, 35, 8, 36, 37, 38, 39, 50, 51, 52, 53, 54, 55, 56, 57, 58, 59, 60, 61, 62, 63, 64, 65, 66, 67, 68, 69, 70, 71, 72, 73, 74, 75] (by decide +kernel) (by decide +kernel)
set_option maxRecDepth 20000 in
theorem gX6_won_X6_atHand : GoodIn wsX6_won (wsV RX6 127 RX6 yX6_atHand wsX6_atHand) := goodIn_app (goodIn_of _ (by decide +kernel)) ggX6_won_X6_atHand
theorem dX6_won_0 : decode cX6_won 0 = .ok (.aload_n 0, 1) := by decide +kernel
theorem dX6_won_1 : decode cX6_won 1 = .ok (.iload_n 1, 1) := by decide +kernel
theorem dX6_won_2 : decode cX6_won 2 = .ok (.invokevirtual 83, 3) := by decide +kernel
theorem dX6_won_5 : decode cX6_won 5 = .ok (.ifCond .eq 11, 3) := by decide +kernel
theorem dX6_won_8 : decode cX6_won 8 = .ok (.aload_n 0, 1) := by decide +kernel
theorem dX6_won_9 : decode cX6_won 9 = .ok (.iload_n 1, 1) := by decide +kernel
theorem dX6_won_10 : decode cX6_won 10 = .ok (.invokevirtual 203, 3) := by decide +kernel
theorem dX6_won_13 : decode cX6_won 13 = .ok (.goto 4, 3) := by decide +kernel
theorem dX6_won_16 : decode cX6_won 16 = .ok (.iconst (-1), 1) := by decide +kernel
theorem dX6_won_17 : decode cX6_won 17 = .ok (.istore_n 2, 1) := by decide +kernel
theorem dX6_won_18 : decode cX6_won 18 = .ok (.iload_n 2, 1) := by decide +kernel
theorem dX6_won_19 : decode cX6_won 19 = .ok (.ifCond .ge 5, 3) := by decide +kernel
theorem dX6_won_22 : decode cX6_won 22 = .ok (.iconst 0, 1) := by decide +kernel
theorem dX6_won_23 : decode cX6_won 23 = .ok (.ireturn, 1) := by decide +kernel
theorem dX6_won_24 : decode cX6_won 24 = .ok (.lconst 0, 1) := by decide +kernel
theorem dX6_won_25 : decode cX6_won 25 = .ok (.lstore_n 3, 1) := by decide +kernel
theorem dX6_won_26 : decode cX6_won 26 = .ok (.lconst 1, 1) := by decide +kernel
theorem dX6_won_27 : decode cX6_won 27 = .ok (.lstore 5, 2) := by decide +kernel
theorem dX6_won_29 : decode cX6_won 29 = .ok (.iconst 0, 1) := by decide +kernel
theorem dX6_won_30 : decode cX6_won 30 = .ok (.istore 7, 2) := by decide +kernel
theorem dX6_won_32 : decode cX6_won 32 = .ok (.iload 7, 2) := by decide +kernel
theorem dX6_won_34 : decode cX6_won 34 = .ok (.iload_n 2, 1) := by decide +kernel
theorem dX6_won_35 : decode cX6_won 35 = .ok (.if_icmp .ge 122, 3) := by decide +kernel
theorem dX6_won_38 : decode cX6_won 38 = .ok (.iload_n 2, 1) := by decide +kernel
theorem dX6_won_39 : decode cX6_won 39 = .ok (.iload 7, 2) := by decide +kernel
theorem dX6_won_41 : decode cX6_won 41 = .ok (.isub, 1) := by decide +kernel
theorem dX6_won_42 : decode cX6_won 42 = .ok (.aload_n 0, 1) := by decide +kernel
theorem dX6_won_43 : decode cX6_won 43 = .ok (.getfield 20, 3) := by decide +kernel
theorem dX6_won_46 : decode cX6_won 46 = .ok (.iload_n 1, 1) := by decide +kernel
theorem dX6_won_47 : decode cX6_won 47 = .ok (.iaload, 1) := by decide +kernel
theorem dX6_won_48 : decode cX6_won 48 = .ok (.if_icmp .gt 7, 3) := by decide +kernel
theorem dX6_won_51 : decode cX6_won 51 = .ok (.iconst 1, 1) := by decide +kernel
theorem dX6_won_52 : decode cX6_won 52 = .ok (.goto 4, 3) := by decide +kernel
theorem dX6_won_55 : decode cX6_won 55 = .ok (.iconst 0, 1) := by decide +kernel
theorem dX6_won_56 : decode cX6_won 56 = .ok (.istore 8, 2) := by decide +kernel
theorem dX6_won_58 : decode cX6_won 58 = .ok (.iconst 0, 1) := by decide +kernel
theorem dX6_won_59 : decode cX6_won 59 = .ok (.istore 9, 2) := by decide +kernel
theorem dX6_won_61 : decode cX6_won 61 = .ok (.iload 7, 2) := by decide +kernel
theorem dX6_won_63 : decode cX6_won 63 = .ok (.iload 9, 2) := by decide +kernel
theorem dX6_won_65 : decode cX6_won 65 = .ok (.iadd, 1) := by decide +kernel
theorem dX6_won_66 : decode cX6_won 66 = .ok (.iload_n 2, 1) := by decide +kernel
theorem dX6_won_67 : decode cX6_won 67 = .ok (.if_icmp .ge 41, 3) := by decide +kernel
theorem dX6_won_70 : decode cX6_won 70 = .ok (.iload 8, 2) := by decide +kernel
theorem dX6_won_72 : decode cX6_won 72 = .ok (.ifCond .eq 36, 3) := by decide +kernel
theorem dX6_won_75 : decode cX6_won 75 = .ok (.aload_n 0, 1) := by decide +kernel
theorem dX6_won_76 : decode cX6_won 76 = .ok (.getfield 26, 3) := by decide +kernel
theorem dX6_won_79 : decode cX6_won 79 = .ok (.iload 7, 2) := by decide +kernel
theorem dX6_won_81 : decode cX6_won 81 = .ok (.iload 9, 2) := by decide +kernel
theorem dX6_won_83 : decode cX6_won 83 = .ok (.iadd, 1) := by decide +kernel
theorem dX6_won_84 : decode cX6_won 84 = .ok (.iaload, 1) := by decide +kernel
theorem dX6_won_85 : decode cX6_won 85 = .ok (.aload_n 0, 1) := by decide +kernel
theorem dX6_won_86 : decode cX6_won 86 = .ok (.iload_n 1, 1) := by decide +kernel
theorem dX6_won_87 : decode cX6_won 87 = .ok (.iload 9, 2) := by decide +kernel
theorem dX6_won_89 : decode cX6_won 89 = .ok (.invokevirtual 87, 3) := by decide +kernel
theorem dX6_won_92 : decode cX6_won 92 = .ok (.if_icmp .ne 7, 3) := by decide +kernel
theorem dX6_won_95 : decode cX6_won 95 = .ok (.iconst 1, 1) := by decide +kernel
theorem dX6_won_96 : decode cX6_won 96 = .ok (.goto 4, 3) := by decide +kernel
theorem dX6_won_99 : decode cX6_won 99 = .ok (.iconst 0, 1) := by decide +kernel
theorem dX6_won_100 : decode cX6_won 100 = .ok (.istore 8, 2) := by decide +kernel
theorem dX6_won_102 : decode cX6_won 102 = .ok (.iinc 9 1, 3) := by decide +kernel
theorem dX6_won_105 : decode cX6_won 105 = .ok (.goto (-44), 3) := by decide +kernel
theorem dX6_won_108 : decode cX6_won 108 = .ok (.iload 8, 2) := by decide +kernel
theorem dX6_won_110 : decode cX6_won 110 = .ok (.ifCond .ne 6, 3) := by decide +kernel
theorem dX6_won_113 : decode cX6_won 113 = .ok (.goto 38, 3) := by decide +kernel
theorem dX6_won_116 : decode cX6_won 116 = .ok (.aload_n 0, 1) := by decide +kernel
theorem dX6_won_117 : decode cX6_won 117 = .ok (.iload_n 1, 1) := by decide +kernel
theorem dX6_won_118 : decode cX6_won 118 = .ok (.iload_n 2, 1) := by decide +kernel
theorem dX6_won_119 : decode cX6_won 119 = .ok (.iload 7, 2) := by decide +kernel
theorem dX6_won_121 : decode cX6_won 121 = .ok (.isub, 1) := by decide +kernel
theorem dX6_won_122 : decode cX6_won 122 = .ok (.invokevirtual 119, 3) := by decide +kernel
theorem dX6_won_125 : decode cX6_won 125 = .ok (.aload_n 0, 1) := by decide +kernel
theorem dX6_won_126 : decode cX6_won 126 = .ok (.lload_n 3, 1) := by decide +kernel
theorem dX6_won_127 : decode cX6_won 127 = .ok (.lload 5, 2) := by decide +kernel
theorem dX6_won_129 : decode cX6_won 129 = .ok (.aload_n 0, 1) := by decide +kernel
theorem dX6_won_130 : decode cX6_won 130 = .ok (.getfield 106, 3) := by decide +kernel
theorem dX6_won_133 : decode cX6_won 133 = .ok (.aload_n 0, 1) := by decide +kernel
theorem dX6_won_134 : decode cX6_won 134 = .ok (.getfield 109, 3) := by decide +kernel
theorem dX6_won_137 : decode cX6_won 137 = .ok (.invokevirtual 123, 3) := by decide +kernel
theorem dX6_won_140 : decode cX6_won 140 = .ok (.aload_n 0, 1) := by decide +kernel
theorem dX6_won_141 : decode cX6_won 141 = .ok (.getfield 106, 3) := by decide +kernel
theorem dX6_won_144 : decode cX6_won 144 = .ok (.lstore_n 3, 1) := by decide +kernel
theorem dX6_won_145 : decode cX6_won 145 = .ok (.aload_n 0, 1) := by decide +kernel
theorem dX6_won_146 : decode cX6_won 146 = .ok (.getfield 109, 3) := by decide +kernel
theorem dX6_won_149 : decode cX6_won 149 = .ok (.lstore 5, 2) := by decide +kernel
theorem dX6_won_151 : decode cX6_won 151 = .ok (.iinc 7 1, 3) := by decide +kernel
theorem dX6_won_154 : decode cX6_won 154 = .ok (.goto (-122), 3) := by decide +kernel
theorem dX6_won_157 : decode cX6_won 157 = .ok (.aload_n 0, 1) := by decide +kernel
theorem dX6_won_158 : decode cX6_won 158 = .ok (.lload_n 3, 1) := by decide +kernel
theorem dX6_won_159 : decode cX6_won 159 = .ok (.lload 5, 2) := by decide +kernel
theorem dX6_won_161 : decode cX6_won 161 = .ok (.invokevirtual 127, 3) := by decide +kernel
theorem dX6_won_164 : decode cX6_won 164 = .ok (.iconst 1, 1) := by decide +kernel
theorem dX6_won_165 : decode cX6_won 165 = .ok (.ireturn, 1) := by decide +kernel
theorem dJ6_bitCount_0f7a4_0 : decode cJ6_bitCount_0f7a4 0 = .ok (.iload_n 0, 1) := by decide +kernel
theorem dJ6_bitCount_0f7a4_1 : decode cJ6_bitCount_0f7a4 1 = .ok (.iload_n 0, 1) := by decide +kernel
theorem dJ6_bitCount_0f7a4_2 : decode cJ6_bitCount_0f7a4 2 = .ok (.iconst 1, 1) := by decide +kernel
theorem dJ6_bitCount_0f7a4_3 : decode cJ6_bitCount_0f7a4 3 = .ok (.iushr, 1) := by decide +kernel
theorem dJ6_bitCount_0f7a4_4 : decode cJ6_bitCount_0f7a4 4 = .ok (.ldc_w 265, 3) := by decide +kernel
theorem dJ6_bitCount_0f7a4_7 : decode cJ6_bitCount_0f7a4 7 = .ok (.iand, 1) := by decide +kernel
theorem dJ6_bitCount_0f7a4_8 : decode cJ6_bitCount_0f7a4 8 = .ok (.isub, 1) := by decide +kernel
theorem dJ6_bitCount_0f7a4_9 : decode cJ6_bitCount_0f7a4 9 = .ok (.istore_n 0, 1) := by decide +kernel
theorem dJ6_bitCount_0f7a4_10 : decode cJ6_bitCount_0f7a4 10 = .ok (.iload_n 0, 1) := by decide +kernel
theorem dJ6_bitCount_0f7a4_11 : decode cJ6_bitCount_0f7a4 11 = .ok (.ldc_w 266, 3) := by decide +kernel
theorem dJ6_bitCount_0f7a4_14 : decode cJ6_bitCount_0f7a4 14 = .ok (.iand, 1) := by decide +kernel
theorem dJ6_bitCount_0f7a4_15 : decode cJ6_bitCount_0f7a4 15 = .ok (.iload_n 0, 1) := by decide +kernel
theorem dJ6_bitCount_0f7a4_16 : decode cJ6_bitCount_0f7a4 16 = .ok (.iconst 2, 1) := by decide +kernel
theorem dJ6_bitCount_0f7a4_17 : decode cJ6_bitCount_0f7a4 17 = .ok (.iushr, 1) := by decide +kernel
theorem dJ6_bitCount_0f7a4_18 : decode cJ6_bitCount_0f7a4 18 = .ok (.ldc_w 266, 3) := by decide +kernel
theorem dJ6_bitCount_0f7a4_21 : decode cJ6_bitCount_0f7a4 21 = .ok (.iand, 1) := by decide +kernel
theorem dJ6_bitCount_0f7a4_22 : decode cJ6_bitCount_0f7a4 22 = .ok (.iadd, 1) := by decide +kernel
theorem dJ6_bitCount_0f7a4_23 : decode cJ6_bitCount_0f7a4 23 = .ok (.istore_n 0, 1) := by decide +kernel
theorem dJ6_bitCount_0f7a4_24 : decode cJ6_bitCount_0f7a4 24 = .ok (.iload_n 0, 1) := by decide +kernel
theorem dJ6_bitCount_0f7a4_25 : decode cJ6_bitCount_0f7a4 25 = .ok (.iload_n 0, 1) := by decide +kernel
theorem dJ6_bitCount_0f7a4_26 : decode cJ6_bitCount_0f7a4 26 = .ok (.iconst 4, 1) := by decide +kernel
theorem dJ6_bitCount_0f7a4_27 : decode cJ6_bitCount_0f7a4 27 = .ok (.iushr, 1) := by decide +kernel
theorem dJ6_bitCount_0f7a4_28 : decode cJ6_bitCount_0f7a4 28 = .ok (.iadd, 1) := by decide +kernel
theorem dJ6_bitCount_0f7a4_29 : decode cJ6_bitCount_0f7a4 29 = .ok (.ldc_w 267, 3) := by decide +kernel
theorem dJ6_bitCount_0f7a4_32 : decode cJ6_bitCount_0f7a4 32 = .ok (.iand, 1) := by decide +kernel
theorem dJ6_bitCount_0f7a4_33 : decode cJ6_bitCount_0f7a4 33 = .ok (.istore_n 0, 1) := by decide +kernel
theorem dJ6_bitCount_0f7a4_34 : decode cJ6_bitCount_0f7a4 34 = .ok (.iload_n 0, 1) := by decide +kernel
theorem dJ6_bitCount_0f7a4_35 : decode cJ6_bitCount_0f7a4 35 = .ok (.iload_n 0, 1) := by decide +kernel
theorem dJ6_bitCount_0f7a4_36 : decode cJ6_bitCount_0f7a4 36 = .ok (.bipush 8, 2) := by decide +kernel
theorem dJ6_bitCount_0f7a4_38 : decode cJ6_bitCount_0f7a4 38 = .ok (.iushr, 1) := by decide +kernel
theorem dJ6_bitCount_0f7a4_39 : decode cJ6_bitCount_0f7a4 39 = .ok (.iadd, 1) := by decide +kernel
theorem dJ6_bitCount_0f7a4_40 : decode cJ6_bitCount_0f7a4 40 = .ok (.istore_n 0, 1) := by decide +kernel
theorem dJ6_bitCount_0f7a4_41 : decode cJ6_bitCount_0f7a4 41 = .ok (.iload_n 0, 1) := by decide +kernel
theorem dJ6_bitCount_0f7a4_42 : decode cJ6_bitCount_0f7a4 42 = .ok (.iload_n 0, 1) := by decide +kernel
theorem dJ6_bitCount_0f7a4_43 : decode cJ6_bitCount_0f7a4 43 = .ok (.bipush 16, 2) := by decide +kernel
theorem dJ6_bitCount_0f7a4_45 : decode cJ6_bitCount_0f7a4 45 = .ok (.iushr, 1) := by decide +kernel
theorem dJ6_bitCount_0f7a4_46 : decode cJ6_bitCount_0f7a4 46 = .ok (.iadd, 1) := by decide +kernel
theorem dJ6_bitCount_0f7a4_47 : decode cJ6_bitCount_0f7a4 47 = .ok (.istore_n 0, 1) := by decide +kernel
theorem dJ6_bitCount_0f7a4_48 : decode cJ6_bitCount_0f7a4 48 = .ok (.iload_n 0, 1) := by decide +kernel
theorem dJ6_bitCount_0f7a4_49 : decode cJ6_bitCount_0f7a4 49 = .ok (.bipush 63, 2) := by decide +kernel
theorem dJ6_bitCount_0f7a4_51 : decode cJ6_bitCount_0f7a4 51 = .ok (.iand, 1) := by decide +kernel
theorem dJ6_bitCount_0f7a4_52 : decode cJ6_bitCount_0f7a4 52 = .ok (.ireturn, 1) := by decide +kernel
theorem dJ9_abs_067f4_0 : decode cJ9_abs_067f4 0 = .ok (.lload_n 0, 1) := by decide +kernel
theorem dJ9_abs_067f4_1 : decode cJ9_abs_067f4 1 = .ok (.lconst 0, 1) := by decide +kernel
theorem dJ9_abs_067f4_2 : decode cJ9_abs_067f4 2 = .ok (.lcmp, 1) := by decide +kernel
theorem dJ9_abs_067f4_3 : decode cJ9_abs_067f4 3 = .ok (.ifCond .ge 8, 3) := by decide +kernel
theorem dJ9_abs_067f4_6 : decode cJ9_abs_067f4 6 = .ok (.lload_n 0, 1) := by decide +kernel
theorem dJ9_abs_067f4_7 : decode cJ9_abs_067f4 7 = .ok (.lneg, 1) := by decide +kernel
theorem dJ9_abs_067f4_8 : decode cJ9_abs_067f4 8 = .ok (.goto 4, 3) := by decide +kernel
theorem dJ9_abs_067f4_11 : decode cJ9_abs_067f4 11 = .ok (.lload_n 0, 1) := by decide +kernel
theorem dJ9_abs_067f4_12 : decode cJ9_abs_067f4 12 = .ok (.lreturn, 1) := by decide +kernel
theorem dJ9_min_7cf53_0 : decode cJ9_min_7cf53 0 = .ok (.iload_n 0, 1) := by decide +kernel
theorem dJ9_min_7cf53_1 : decode cJ9_min_7cf53 1 = .ok (.iload_n 1, 1) := by decide +kernel
theorem dJ9_min_7cf53_2 : decode cJ9_min_7cf53 2 = .ok (.if_icmp .gt 7, 3) := by decide +kernel
theorem dJ9_min_7cf53_5 : decode cJ9_min_7cf53 5 = .ok (.iload_n 0, 1) := by decide +kernel
theorem dJ9_min_7cf53_6 : decode cJ9_min_7cf53 6 = .ok (.goto 4, 3) := by decide +kernel
theorem dJ9_min_7cf53_9 : decode cJ9_min_7cf53 9 = .ok (.iload_n 1, 1) := by decide +kernel
theorem dJ9_min_7cf53_10 : decode cJ9_min_7cf53 10 = .ok (.ireturn, 1) := by decide +kernel
theorem dJ7_fill_d0a16_0 : decode cJ7_fill_d0a16 0 = .ok (.iconst 0, 1) := by decide +kernel
theorem dJ7_fill_d0a16_1 : decode cJ7_fill_d0a16 1 = .ok (.istore_n 3, 1) := by decide +kernel
theorem dJ7_fill_d0a16_2 : decode cJ7_fill_d0a16 2 = .ok (.aload_n 0, 1) := by decide +kernel
theorem dJ7_fill_d0a16_3 : decode cJ7_fill_d0a16 3 = .ok (.arraylength, 1) := by decide +kernel
theorem dJ7_fill_d0a16_4 : decode cJ7_fill_d0a16 4 = .ok (.istore 4, 2) := by decide +kernel
theorem dJ7_fill_d0a16_6 : decode cJ7_fill_d0a16 6 = .ok (.iload_n 3, 1) := by decide +kernel
theorem dJ7_fill_d0a16_7 : decode cJ7_fill_d0a16 7 = .ok (.iload 4, 2) := by decide +kernel
theorem dJ7_fill_d0a16_9 : decode cJ7_fill_d0a16 9 = .ok (.if_icmp .ge 13, 3) := by decide +kernel
theorem dJ7_fill_d0a16_12 : decode cJ7_fill_d0a16 12 = .ok (.aload_n 0, 1) := by decide +kernel
theorem dJ7_fill_d0a16_13 : decode cJ7_fill_d0a16 13 = .ok (.iload_n 3, 1) := by decide +kernel
theorem dJ7_fill_d0a16_14 : decode cJ7_fill_d0a16 14 = .ok (.lload_n 1, 1) := by decide +kernel
theorem dJ7_fill_d0a16_15 : decode cJ7_fill_d0a16 15 = .ok (.lastore, 1) := by decide +kernel
theorem dJ7_fill_d0a16_16 : decode cJ7_fill_d0a16 16 = .ok (.iinc 3 1, 3) := by decide +kernel
theorem dJ7_fill_d0a16_19 : decode cJ7_fill_d0a16 19 = .ok (.goto (-13), 3) := by decide +kernel
theorem dJ7_fill_d0a16_22 : decode cJ7_fill_d0a16 22 = .ok (.return_, 1) := by decide +kernel
theorem dJ7_fill_53178_0 : decode cJ7_fill_53178 0 = .ok (.iconst 0, 1) := by decide +kernel
theorem dJ7_fill_53178_1 : decode cJ7_fill_53178 1 = .ok (.istore_n 2, 1) := by decide +kernel
theorem dJ7_fill_53178_2 : decode cJ7_fill_53178 2 = .ok (.aload_n 0, 1) := by decide +kernel
theorem dJ7_fill_53178_3 : decode cJ7_fill_53178 3 = .ok (.arraylength, 1) := by decide +kernel
theorem dJ7_fill_53178_4 : decode cJ7_fill_53178 4 = .ok (.istore_n 3, 1) := by decide +kernel
theorem dJ7_fill_53178_5 : decode cJ7_fill_53178 5 = .ok (.iload_n 2, 1) := by decide +kernel
theorem dJ7_fill_53178_6 : decode cJ7_fill_53178 6 = .ok (.iload_n 3, 1) := by decide +kernel
theorem dJ7_fill_53178_7 : decode cJ7_fill_53178 7 = .ok (.if_icmp .ge 13, 3) := by decide +kernel
theorem dJ7_fill_53178_10 : decode cJ7_fill_53178 10 = .ok (.aload_n 0, 1) := by decide +kernel
theorem dJ7_fill_53178_11 : decode cJ7_fill_53178 11 = .ok (.iload_n 2, 1) := by decide +kernel
theorem dJ7_fill_53178_12 : decode cJ7_fill_53178 12 = .ok (.iload_n 1, 1) := by decide +kernel
theorem dJ7_fill_53178_13 : decode cJ7_fill_53178 13 = .ok (.iastore, 1) := by decide +kernel
theorem dJ7_fill_53178_14 : decode cJ7_fill_53178 14 = .ok (.iinc 2 1, 3) := by decide +kernel
theorem dJ7_fill_53178_17 : decode cJ7_fill_53178 17 = .ok (.goto (-12), 3) := by decide +kernel
theorem dJ7_fill_53178_20 : decode cJ7_fill_53178 20 = .ok (.return_, 1) := by decide +kernel
abbrev vwCl : List vw_C := [(RX0, TX0, 3), (RX1, TX1, 7), (RX2, TX2, 4), (RX3, TX3, 2), (RX4, TX4, 7), (RX5, TX5, 8), (RX6, TX6, 26)]
