theorem dX6_firstOf_21 : decode cX6_firstOf 21 = .ok (.iinc 2 1, 3) := by decide +kernel
theorem dX6_firstOf_24 : decode cX6_firstOf 24 = .ok (.goto (-22), 3) := by decide +kernel
theorem dX6_firstOf_27 : decode cX6_firstOf 27 = .ok (.iconst (-1), 1) := by decide +kernel
theorem dX6_firstOf_28 : decode cX6_firstOf 28 = .ok (.ireturn, 1) := by decide +kernel
set_option maxRecDepth 20000 in
theorem ggX6_came_X6_isWord : GoodIn wsX6_came wsX6_isWord := goodIn_r _ [6, 7, 8, 9, 5, 10, 25, 26, 27, 28, 29, 30, 31, 32, 33, 34, 35, 36, 37, 38, 39, 40, 41, 42, 43, 44, 45, 46, 47, 48, 49, 50] (by decide +kernel) (by decide +kernel)
set_option maxRecDepth 20000 in
theorem gX6_came_X6_isWord : GoodIn wsX6_came (wsV RX6 83 RX6 yX6_isWord wsX6_isWord) := goodIn_app (goodIn_of _ (by decide +kernel)) ggX6_came_X6_isWord
set_option maxRecDepth 20000 in
theorem ggX6_came_X6_isIn : GoodIn wsX6_came wsX6_isIn := goodIn_r _ [10] (by decide +kernel) (by decide +kernel)
set_option maxRecDepth 20000 in
theorem gX6_came_X6_isIn : GoodIn wsX6_came (va_wsS RX6 79 yX6_isIn wsX6_isIn) := goodIn_app (goodIn_of _ (by decide +kernel)) ggX6_came_X6_isIn
set_option maxRecDepth 20000 in
theorem ggX6_came_X6_firstOf : GoodIn wsX6_came wsX6_firstOf := goodIn_r _ [14, 1, 15, 16, 17, 5, 18, 7, 19, 20, 21, 22, 23, 24, 25, 26, 27, 28, 29, 30, 31, 32, 33, 34, 35, 36, 37, 38, 39, 40, 41, 42, 43, 44, 45, 46, 47, 48, 49, 50] (by decide +kernel) (by decide +kernel)
set_option maxRecDepth 20000 in
theorem gX6_came_X6_firstOf : GoodIn wsX6_came (wsV RX6 203 RX6 yX6_firstOf wsX6_firstOf) := goodIn_app (goodIn_of _ (by decide +kernel)) ggX6_came_X6_firstOf
set_option maxRecDepth 20000 in
theorem ggX6_came_X6_stands : GoodIn wsX6_came wsX6_stands := goodIn_r _ [18, 7, 19, 20, 21, 22, 5, 23, 24, 25, 26, 27, 28, 29, 30, 31, 32, 33, 34, 35, 36, 37, 38, 39, 40, 41, 42, 43, 44, 45, 46, 47, 48, 49, 50] (by decide +kernel) (by decide +kernel)
set_option maxRecDepth 20000 in
theorem gX6_came_X6_stands : GoodIn wsX6_came (wsV RX6 200 RX6 yX6_stands wsX6_stands) := goodIn_app (goodIn_of _ (by decide +kernel)) ggX6_came_X6_stands
theorem dX6_came_0 : decode cX6_came 0 = .ok (.aload_n 0, 1) := by decide +kernel
theorem dX6_came_1 : decode cX6_came 1 = .ok (.iload_n 1, 1) := by decide +kernel
theorem dX6_came_2 : decode cX6_came 2 = .ok (.invokevirtual 83, 3) := by decide +kernel
theorem dX6_came_5 : decode cX6_came 5 = .ok (.ifCond .eq 11, 3) := by decide +kernel
theorem dX6_came_8 : decode cX6_came 8 = .ok (.iload_n 2, 1) := by decide +kernel
theorem dX6_came_9 : decode cX6_came 9 = .ok (.iconst 2, 1) := by decide +kernel
theorem dX6_came_10 : decode cX6_came 10 = .ok (.invokestatic 79, 3) := by decide +kernel
theorem dX6_came_13 : decode cX6_came 13 = .ok (.ifCond .ne 5, 3) := by decide +kernel
theorem dX6_came_16 : decode cX6_came 16 = .ok (.iconst (-1), 1) := by decide +kernel
theorem dX6_came_17 : decode cX6_came 17 = .ok (.ireturn, 1) := by decide +kernel
theorem dX6_came_18 : decode cX6_came 18 = .ok (.iload_n 2, 1) := by decide +kernel
theorem dX6_came_19 : decode cX6_came 19 = .ok (.ifCond .ne 9, 3) := by decide +kernel
theorem dX6_came_22 : decode cX6_came 22 = .ok (.aload_n 0, 1) := by decide +kernel
theorem dX6_came_23 : decode cX6_came 23 = .ok (.iload_n 1, 1) := by decide +kernel
theorem dX6_came_24 : decode cX6_came 24 = .ok (.invokevirtual 203, 3) := by decide +kernel
theorem dX6_came_27 : decode cX6_came 27 = .ok (.ireturn, 1) := by decide +kernel
theorem dX6_came_28 : decode cX6_came 28 = .ok (.iconst 0, 1) := by decide +kernel
theorem dX6_came_29 : decode cX6_came 29 = .ok (.istore_n 3, 1) := by decide +kernel
theorem dX6_came_30 : decode cX6_came 30 = .ok (.iconst 1, 1) := by decide +kernel
theorem dX6_came_31 : decode cX6_came 31 = .ok (.istore 4, 2) := by decide +kernel
theorem dX6_came_33 : decode cX6_came 33 = .ok (.iload 4, 2) := by decide +kernel
theorem dX6_came_35 : decode cX6_came 35 = .ok (.aload_n 0, 1) := by decide +kernel
theorem dX6_came_36 : decode cX6_came 36 = .ok (.getfield 76, 3) := by decide +kernel
theorem dX6_came_39 : decode cX6_came 39 = .ok (.if_icmp .gt 27, 3) := by decide +kernel
theorem dX6_came_42 : decode cX6_came 42 = .ok (.iload_n 3, 1) := by decide +kernel
theorem dX6_came_43 : decode cX6_came 43 = .ok (.aload_n 0, 1) := by decide +kernel
theorem dX6_came_44 : decode cX6_came 44 = .ok (.iload_n 1, 1) := by decide +kernel
theorem dX6_came_45 : decode cX6_came 45 = .ok (.iload 4, 2) := by decide +kernel
theorem dX6_came_47 : decode cX6_came 47 = .ok (.invokevirtual 200, 3) := by decide +kernel
theorem dX6_came_50 : decode cX6_came 50 = .ok (.ifCond .eq 7, 3) := by decide +kernel
theorem dX6_came_53 : decode cX6_came 53 = .ok (.iconst 1, 1) := by decide +kernel
theorem dX6_came_54 : decode cX6_came 54 = .ok (.goto 4, 3) := by decide +kernel
theorem dX6_came_57 : decode cX6_came 57 = .ok (.iconst 0, 1) := by decide +kernel
theorem dX6_came_58 : decode cX6_came 58 = .ok (.iadd, 1) := by decide +kernel
theorem dX6_came_59 : decode cX6_came 59 = .ok (.istore_n 3, 1) := by decide +kernel
theorem dX6_came_60 : decode cX6_came 60 = .ok (.iinc 4 1, 3) := by decide +kernel
theorem dX6_came_63 : decode cX6_came 63 = .ok (.goto (-30), 3) := by decide +kernel
theorem dX6_came_66 : decode cX6_came 66 = .ok (.iload_n 3, 1) := by decide +kernel
theorem dX6_came_67 : decode cX6_came 67 = .ok (.ireturn, 1) := by decide +kernel
set_option maxRecDepth 20000 in
theorem ggX6_won_X6_isWord : GoodIn wsX6_won wsX6_isWord := goodIn_r _ [9, 1, 10, 11, 8, 12, 50, 51, 52, 53, 54, 55, 56, 57, 58, 59, 60, 61, 62, 63, 64, 65, 66, 67, 68, 69, 70, 71, 72, 73, 74, 75] (by decide +kernel) (by decide +kernel)
set_option maxRecDepth 20000 in
theorem gX6_won_X6_isWord : GoodIn wsX6_won (wsV RX6 83 RX6 yX6_isWord wsX6_isWord) := goodIn_app (goodIn_of _ (by decide +kernel)) ggX6_won_X6_isWord
set_option maxRecDepth 20000 in
theorem ggX6_won_X6_firstOf : GoodIn wsX6_won wsX6_firstOf := goodIn_r _ [16, 17, 18, 19, 20, 8, 21, 1, 2, 22, 23, 24, 25, 26, 50, 51, 52, 53, 54, 55, 56, 57, 58, 59, 60, 61, 62, 63, 64, 65, 66, 67, 68, 69, 70, 71, 72, 73, 74, 75] (by decide +kernel) (by decide +kernel)
set_option maxRecDepth 20000 in
theorem gX6_won_X6_firstOf : GoodIn wsX6_won (wsV RX6 203 RX6 yX6_firstOf wsX6_firstOf) := goodIn_app (goodIn_of _ (by decide +kernel)) ggX6_won_X6_firstOf
set_option maxRecDepth 20000 in
theorem ggX6_won_X6_letterOf : GoodIn wsX6_won wsX6_letterOf := goodIn_r _ [25, 26, 50, 51, 52, 53, 54, 55, 56, 57, 58, 59, 60, 61, 62, 63, 64, 65, 66, 67, 68, 69, 70, 71, 72, 73, 74, 75] (by decide +kernel) (by decide +kernel)
set_option maxRecDepth 20000 in
theorem gX6_won_X6_letterOf : GoodIn wsX6_won (wsV RX6 87 RX6 yX6_letterOf wsX6_letterOf) := goodIn_app (goodIn_of _ (by decide +kernel)) ggX6_won_X6_letterOf
set_option maxRecDepth 20000 in
theorem ggX6_won_X6_over : GoodIn wsX6_won wsX6_over := goodIn_r _ [30, 31, 32, 22, 23, 24, 8, 25, 26, 33, 34, 35, 36, 3, 4, 37, 38, 39, 50, 51, 52, 53, 54, 55, 56, 57, 58, 59, 60, 61, 62, 63, 64, 65, 66, 67, 68, 69, 70, 71, 72, 73, 74, 75] (by decide +kernel) (by decide +kernel)
set_option maxRecDepth 20000 in
theorem gX6_won_X6_over : GoodIn wsX6_won (wsV RX6 119 RX6 yX6_over wsX6_over) := goodIn_app (goodIn_of _ (by decide +kernel)) ggX6_won_X6_over
set_option maxRecDepth 20000 in
theorem ggX6_won_X6_add : GoodIn wsX6_won wsX6_add := goodIn_r _ [43, 37, 38, 8, 39, 33, 34, 35, 36, 3, 4, 50, 51, 52, 53, 54, 55, 56, 57, 58, 59, 60, 61, 62, 63, 64, 65, 66, 67, 68, 69, 70, 71, 72, 73, 74, 75] (by decide +kernel) (by decide +kernel)
set_option maxRecDepth 20000 in
theorem gX6_won_X6_add : GoodIn wsX6_won (wsV RX6 123 RX6 yX6_add wsX6_add) := goodIn_app (goodIn_of _ (by decide +kernel)) ggX6_won_X6_add
set_option maxRecDepth 20000 in
theorem ggX6_won_X6_atHand : GoodIn wsX6_won wsX6_atHand := goodIn_r _ [47, 3, 48, 4, 49, 33, 34, 35, 8, 36, 37, 38, 39, 50, 51, 52, 53, 54, 55, 56, 57, 58, 59, 60, 61, 62, 63, 64, 65, 66, 67, 68, 69, 70, 71, 72, 73, 74, 75] (by decide +kernel) (by decide +kernel)
set_option maxRecDepth 20000 in
theorem gX6_won_X6_atHand : GoodIn wsX6_won (wsV RX6 127 RX6 yX6_atHand wsX6_atHand) := goodIn_app (goodIn_of _ (by decide +kernel)) ggX6_won_X6_atHand
theorem dX6_won_0 : decode cX6_won 0 = .ok (.aload_n 0, 1) := by decide +kernel
theorem dX6_won_1 : decode cX6_won 1 = .ok (.iload_n 1, 1) := by decide +kernel
theorem dX6_won_2 : decode cX6_won 2 = .ok (.invokevirtual 83, 3) := by decide +kernel
theorem dX6_won_5 : decode cX6_won 5 = .ok (.ifCond .eq 11, 3) := by decide +kernel
theorem dX6_won_8 : decode cX6_won 8 = .ok (.aload_n 0, 1) := by decide +kernel
theorem dX6_won_9 : decode cX6_won 9 = .ok (.iload_n 1, 1) := by decide +kernel
theorem dX6_won_10 : decode cX6_won 10 = .ok (.invokevirtual 203, 3) := by decide +kernel
theorem dX6_won_13 : decode cX6_won 13 = .ok (.goto 4, 3) := by decide +kernel
theorem dX6_won_16 : decode cX6_won 16 = .ok (.iconst (-1), 1) := by decide +kernel
theorem dX6_won_17 : decode cX6_won 17 = .ok (.istore_n 2, 1) := by decide +kernel
theorem dX6_won_18 : decode cX6_won 18 = .ok (.iload_n 2, 1) := by decide +kernel
theorem dX6_won_19 : decode cX6_won 19 = .ok (.ifCond .ge 5, 3) := by decide +kernel
theorem dX6_won_22 : decode cX6_won 22 = .ok (.iconst 0, 1) := by decide +kernel
theorem dX6_won_23 : decode cX6_won 23 = .ok (.ireturn, 1) := by decide +kernel
theorem dX6_won_24 : decode cX6_won 24 = .ok (.lconst 0, 1) := by decide +kernel
theorem dX6_won_25 : decode cX6_won 25 = .ok (.lstore_n 3, 1) := by decide +kernel
theorem dX6_won_26 : decode cX6_won 26 = .ok (.lconst 1, 1) := by decide +kernel
theorem dX6_won_27 : decode cX6_won 27 = .ok (.lstore 5, 2) := by decide +kernel
theorem dX6_won_29 : decode cX6_won 29 = .ok (.iconst 0, 1) := by decide +kernel
theorem dX6_won_30 : decode cX6_won 30 = .ok (.istore 7, 2) := by decide +kernel
theorem dX6_won_32 : decode cX6_won 32 = .ok (.iload 7, 2) := by decide +kernel
theorem dX6_won_34 : decode cX6_won 34 = .ok (.iload_n 2, 1) := by decide +kernel
theorem dX6_won_35 : decode cX6_won 35 = .ok (.if_icmp .ge 122, 3) := by decide +kernel
theorem dX6_won_38 : decode cX6_won 38 = .ok (.iload_n 2, 1) := by decide +kernel
theorem dX6_won_39 : decode cX6_won 39 = .ok (.iload 7, 2) := by decide +kernel
theorem dX6_won_41 : decode cX6_won 41 = .ok (.isub, 1) := by decide +kernel
theorem dX6_won_42 : decode cX6_won 42 = .ok (.aload_n 0, 1) := by decide +kernel
theorem dX6_won_43 : decode cX6_won 43 = .ok (.getfield 20, 3) := by decide +kernel
theorem dX6_won_46 : decode cX6_won 46 = .ok (.iload_n 1, 1) := by decide +kernel
theorem dX6_won_47 : decode cX6_won 47 = .ok (.iaload, 1) := by decide +kernel
theorem dX6_won_48 : decode cX6_won 48 = .ok (.if_icmp .gt 7, 3) := by decide +kernel
theorem dX6_won_51 : decode cX6_won 51 = .ok (.iconst 1, 1) := by decide +kernel
theorem dX6_won_52 : decode cX6_won 52 = .ok (.goto 4, 3) := by decide +kernel
theorem dX6_won_55 : decode cX6_won 55 = .ok (.iconst 0, 1) := by decide +kernel
theorem dX6_won_56 : decode cX6_won 56 = .ok (.istore 8, 2) := by decide +kernel
theorem dX6_won_58 : decode cX6_won 58 = .ok (.iconst 0, 1) := by decide +kernel
theorem dX6_won_59 : decode cX6_won 59 = .ok (.istore 9, 2) := by decide +kernel
theorem dX6_won_61 : decode cX6_won 61 = .ok (.iload 7, 2) := by decide +kernel
theorem dX6_won_63 : decode cX6_won 63 = .ok (.iload 9, 2) := by decide +kernel
theorem dX6_won_65 : decode cX6_won 65 = .ok (.iadd, 1) := by decide +kernel
theorem dX6_won_66 : decode cX6_won 66 = .ok (.iload_n 2, 1) := by decide +kernel
theorem dX6_won_67 : decode cX6_won 67 = .ok (.if_icmp .ge 41, 3) := by decide +kernel
theorem dX6_won_70 : decode cX6_won 70 = .ok (.iload 8, 2) := by decide +kernel
theorem dX6_won_72 : decode cX6_won 72 = .ok (.ifCond .eq 36, 3) := by decide +kernel
theorem dX6_won_75 : decode cX6_won 75 = .ok (.aload_n 0, 1) := by decide +kernel
theorem dX6_won_76 : decode cX6_won 76 = .ok (.getfield 26, 3) := by decide +kernel
theorem dX6_won_79 : decode cX6_won 79 = .ok (.iload 7, 2) := by decide +kernel
theorem dX6_won_81 : decode cX6_won 81 = .ok (.iload 9, 2) := by decide +kernel
theorem dX6_won_83 : decode cX6_won 83 = .ok (.iadd, 1) := by decide +kernel
theorem dX6_won_84 : decode cX6_won 84 = .ok (.iaload, 1) := by decide +kernel
theorem dX6_won_85 : decode cX6_won 85 = .ok (.aload_n 0, 1) := by decide +kernel
theorem dX6_won_86 : decode cX6_won 86 = .ok (.iload_n 1, 1) := by decide +kernel
theorem dX6_won_87 : decode cX6_won 87 = .ok (.iload 9, 2) := by decide +kernel
theorem dX6_won_89 : decode cX6_won 89 = .ok (.invokevirtual 87, 3) := by decide +kernel
theorem dX6_won_92 : decode cX6_won 92 = .ok (.if_icmp .ne 7, 3) := by decide +kernel
theorem dX6_won_95 : decode cX6_won 95 = .ok (.iconst 1, 1) := by decide +kernel
theorem dX6_won_96 : decode cX6_won 96 = .ok (.goto 4, 3) := by decide +kernel
theorem dX6_won_99 : decode cX6_won 99 = .ok (.iconst 0, 1) := by decide +kernel
theorem dX6_won_100 : decode cX6_won 100 = .ok (.istore 8, 2) := by decide +kernel
theorem dX6_won_102 : decode cX6_won 102 = .ok (.iinc 9 1, 3) := by decide +kernel
theorem dX6_won_105 : decode cX6_won 105 = .ok (.goto (-44), 3) := by decide +kernel
theorem dX6_won_108 : decode cX6_won 108 = .ok (.iload 8, 2) := by decide +kernel
theorem dX6_won_110 : decode cX6_won 110 = .ok (.ifCond .ne 6, 3) := by decide +kernel
theorem dX6_won_113 : decode cX6_won 113 = .ok (.goto 38, 3) := by decide +kernel
theorem dX6_won_116 : decode cX6_won 116 = .ok (.aload_n 0, 1) := by decide +kernel
theorem dX6_won_117 : decode cX6_won 117 = .ok (.iload_n 1, 1) := by decide +kernel
theorem dX6_won_118 : decode cX6_won 118 = .ok (.iload_n 2, 1) := by decide +kernel
theorem dX6_won_119 : decode cX6_won 119 = .ok (.iload 7, 2) := by decide +kernel
theorem dX6_won_121 : decode cX6_won 121 = .ok (.isub, 1) := by decide +kernel
theorem dX6_won_122 : decode cX6_won 122 = .ok (.invokevirtual 119, 3) := by decide +kernel
theorem dX6_won_125 : decode cX6_won 125 = .ok (.aload_n 0, 1) := by decide +kernel
theorem dX6_won_126 : decode cX6_won 126 = .ok (.lload_n 3, 1) := by decide +kernel
theorem dX6_won_127 : decode cX6_won 127 = .ok (.lload 5, 2) := by decide +kernel
theorem dX6_won_129 : decode cX6_won 129 = .ok (.aload_n 0, 1) := by decide +kernel
theorem dX6_won_130 : decode cX6_won 130 = .ok (.getfield 106, 3) := by decide +kernel
theorem dX6_won_133 : decode cX6_won 133 = .ok (.aload_n 0, 1) := by decide +kernel
theorem dX6_won_134 : decode cX6_won 134 = .ok (.getfield 109, 3) := by decide +kernel
theorem dX6_won_137 : decode cX6_won 137 = .ok (.invokevirtual 123, 3) := by decide +kernel
theorem dX6_won_140 : decode cX6_won 140 = .ok (.aload_n 0, 1) := by decide +kernel
theorem dX6_won_141 : decode cX6_won 141 = .ok (.getfield 106, 3) := by decide +kernel
theorem dX6_won_144 : decode cX6_won 144 = .ok (.lstore_n 3, 1) := by decide +kernel
theorem dX6_won_145 : decode cX6_won 145 = .ok (.aload_n 0, 1) := by decide +kernel
theorem dX6_won_146 : decode cX6_won 146 = .ok (.getfield 109, 3) := by decide +kernel
theorem dX6_won_149 : decode cX6_won 149 = .ok (.lstore 5, 2) := by decide +kernel
theorem dX6_won_151 : decode cX6_won 151 = .ok (.iinc 7 1, 3) := by decide +kernel
theorem dX6_won_154 : decode cX6_won 154 = .ok (.goto (-122), 3) := by decide +kernel
theorem dX6_won_157 : decode cX6_won 157 = .ok (.aload_n 0, 1) := by decide +kernel
theorem dX6_won_158 : decode cX6_won 158 = .ok (.lload_n 3, 1) := by decide +kernel
theorem dX6_won_159 : decode cX6_won 159 = .ok (.lload 5, 2) := by decide +kernel
theorem dX6_won_161 : decode cX6_won 161 = .ok (.invokevirtual 127, 3) := by decide +kernel
theorem dX6_won_164 : decode cX6_won 164 = .ok (.iconst 1, 1) := by decide +kernel
theorem dX6_won_165 : decode cX6_won 165 = .ok (.ireturn, 1) := by decide +kernel
theorem dJ6_bitCount_0f7a4_0 : decode cJ6_bitCount_0f7a4 0 = .ok (.iload_n 0, 1) := by decide +kernel
theorem dJ6_bitCount_0f7a4_1 : decode cJ6_bitCount_0f7a4 1 = .ok (.iload_n 0, 1) := by decide +kernel
theorem dJ6_bitCount_0f7a4_2 : decode cJ6_bitCount_0f7a4 2 = .ok (.iconst 1, 1) := by decide +kernel
theorem dJ6_bitCount_0f7a4_3 : decode cJ6_bitCount_0f7a4 3 = .ok (.iushr, 1) := by decide +kernel
theorem dJ6_bitCount_0f7a4_4 : decode cJ6_bitCount_0f7a4 4 = .ok (.ldc_w 265, 3) := by decide +kernel
theorem dJ6_bitCount_0f7a4_7 : decode cJ6_bitCount_0f7a4 7 = .ok (.iand, 1) := by decide +kernel
theorem dJ6_bitCount_0f7a4_8 : decode cJ6_bitCount_0f7a4 8 = .ok (.isub, 1) := by decide +kernel
theorem dJ6_bitCount_0f7a4_9 : decode cJ6_bitCount_0f7a4 9 = .ok (.istore_n 0, 1) := by decide +kernel
theorem dJ6_bitCount_0f7a4_10 : decode cJ6_bitCount_0f7a4 10 = .ok (.iload_n 0, 1) := by decide +kernel
theorem dJ6_bitCount_0f7a4_11 : decode cJ6_bitCount_0f7a4 11 = .ok (.ldc_w 266, 3) := by decide +kernel
theorem dJ6_bitCount_0f7a4_14 : decode cJ6_bitCount_0f7a4 14 = .ok (.iand, 1) := by decide +kernel
theorem dJ6_bitCount_0f7a4_15 : decode cJ6_bitCount_0f7a4 15 = .ok (.iload_n 0, 1) := by decide +kernel
theorem dJ6_bitCount_0f7a4_16 : decode cJ6_bitCount_0f7a4 16 = .ok (.iconst 2, 1) := by decide +kernel
theorem dJ6_bitCount_0f7a4_17 : decode cJ6_bitCount_0f7a4 17 = .ok (.iushr, 1) := by decide +kernel
theorem dJ6_bitCount_0f7a4_18 : decode cJ6_bitCount_0f7a4 18 = .ok (.ldc_w 266, 3) := by decide +kernel
theorem dJ6_bitCount_0f7a4_21 : decode cJ6_bitCount_0f7a4 21 = .ok (.iand, 1) := by decide +kernel
theorem dJ6_bitCount_0f7a4_22 : decode cJ6_bitCount_0f7a4 22 = .ok (.iadd, 1) := by decide +kernel
theorem dJ6_bitCount_0f7a4_23 : decode cJ6_bitCount_0f7a4 23 = .ok (.istore_n 0, 1) := by decide +kernel
theorem dJ6_bitCount_0f7a4_24 : decode cJ6_bitCount_0f7a4 24 = .ok (.iload_n 0, 1) := by decide +kernel
theorem dJ6_bitCount_0f7a4_25 : decode cJ6_bitCount_0f7a4 25 = .ok (.iload_n 0, 1) := by decide +kernel
theorem dJ6_bitCount_0f7a4_26 : decode cJ6_bitCount_0f7a4 26 = .ok (.iconst 4, 1) := by decide +kernel
theorem dJ6_bitCount_0f7a4_27 : decode cJ6_bitCount_0f7a4 27 = .ok (.iushr, 1) := by decide +kernel
theorem dJ6_bitCount_0f7a4_28 : decode cJ6_bitCount_0f7a4 28 = .ok (.iadd, 1) := by decide +kernel
theorem dJ6_bitCount_0f7a4_29 : decode cJ6_bitCount_0f7a4 29 = .ok (.ldc_w 267, 3) := by decide +kernel
theorem dJ6_bitCount_0f7a4_32 : decode cJ6_bitCount_0f7a4 32 = .ok (.iand, 1) := by decide +kernel
theorem dJ6_bitCount_0f7a4_33 : decode cJ6_bitCount_0f7a4 33 = .ok (.istore_n 0, 1) := by decide +kernel
theorem dJ6_bitCount_0f7a4_34 : decode cJ6_bitCount_0f7a4 34 = .ok (.iload_n 0, 1) := by decide +kernel
theorem dJ6_bitCount_0f7a4_35 : decode cJ6_bitCount_0f7a4 35 = .ok (.iload_n 0, 1) := by decide +kernel
theorem dJ6_bitCount_0f7a4_36 : decode cJ6_bitCount_0f7a4 36 = .ok (.bipush 8, 2) := by decide +kernel
theorem dJ6_bitCount_0f7a4_38 : decode cJ6_bitCount_0f7a4 38 = .ok (.iushr, 1) := by decide +kernel
theorem dJ6_bitCount_0f7a4_39 : decode cJ6_bitCount_0f7a4 39 = .ok (.iadd, 1) := by decide +kernel
theorem dJ6_bitCount_0f7a4_40 : decode cJ6_bitCount_0f7a4 40 = .ok (.istore_n 0, 1) := by decide +kernel
theorem dJ6_bitCount_0f7a4_41 : decode cJ6_bitCount_0f7a4 41 = .ok (.iload_n 0, 1) := by decide +kernel
theorem dJ6_bitCount_0f7a4_42 : decode cJ6_bitCount_0f7a4 42 = .ok (.iload_n 0, 1) := by decide +kernel
theorem dJ6_bitCount_0f7a4_43 : decode cJ6_bitCount_0f7a4 43 = .ok (.bipush 16, 2) := by decide +kernel
theorem dJ6_bitCount_0f7a4_45 : decode cJ6_bitCount_0f7a4 45 = .ok (.iushr, 1) := by decide +kernel
theorem dJ6_bitCount_0f7a4_46 : decode cJ6_bitCount_0f7a4 46 = .ok (.iadd, 1) := by decide +kernel
theorem dJ6_bitCount_0f7a4_47 : decode cJ6_bitCount_0f7a4 47 = .ok (.istore_n 0, 1) := by decide +kernel
theorem dJ6_bitCount_0f7a4_48 : decode cJ6_bitCount_0f7a4 48 = .ok (.iload_n 0, 1) := by decide +kernel
theorem dJ6_bitCount_0f7a4_49 : decode cJ6_bitCount_0f7a4 49 = .ok (.bipush 63, 2) := by decide +kernel
theorem dJ6_bitCount_0f7a4_51 : decode cJ6_bitCount_0f7a4 51 = .ok (.iand, 1) := by decide +kernel
theorem dJ6_bitCount_0f7a4_52 : decode cJ6_bitCount_0f7a4 52 = .ok (.ireturn, 1) := by decide +kernel
theorem dJ9_abs_067f4_0 : decode cJ9_abs_067f4 0 = .ok (.lload_n 0, 1) := by decide +kernel
theorem dJ9_abs_067f4_1 : decode cJ9_abs_067f4 1 = .ok (.lconst 0, 1) := by decide +kernel
theorem dJ9_abs_067f4_2 : decode cJ9_abs_067f4 2 = .ok (.lcmp, 1) := by decide +kernel
theorem dJ9_abs_067f4_3 : decode cJ9_abs_067f4 3 = .ok (.ifCond .ge 8, 3) := by decide +kernel
theorem dJ9_abs_067f4_6 : decode cJ9_abs_067f4 6 = .ok (.lload_n 0, 1) := by decide +kernel
theorem dJ9_abs_067f4_7 : decode cJ9_abs_067f4 7 = .ok (.lneg, 1) := by decide +kernel
theorem dJ9_abs_067f4_8 : decode cJ9_abs_067f4 8 = .ok (.goto 4, 3) := by decide +kernel
theorem dJ9_abs_067f4_11 : decode cJ9_abs_067f4 11 = .ok (.lload_n 0, 1) := by decide +kernel
theorem dJ9_abs_067f4_12 : decode cJ9_abs_067f4 12 = .ok (.lreturn, 1) := by decide +kernel
theorem dJ9_min_7cf53_0 : decode cJ9_min_7cf53 0 = .ok (.iload_n 0, 1) := by decide +kernel
theorem dJ9_min_7cf53_1 : decode cJ9_min_7cf53 1 = .ok (.iload_n 1, 1) := by decide +kernel
theorem dJ9_min_7cf53_2 : decode cJ9_min_7cf53 2 = .ok (.if_icmp .gt 7, 3) := by decide +kernel
theorem dJ9_min_7cf53_5 : decode cJ9_min_7cf53 5 = .ok (.iload_n 0, 1) := by decide +kernel
theorem dJ9_min_7cf53_6 : decode cJ9_min_7cf53 6 = .ok (.goto 4, 3) := by decide +kernel
theorem dJ9_min_7cf53_9 : decode cJ9_min_7cf53 9 = .ok (.iload_n 1, 1) := by decide +kernel
theorem dJ9_min_7cf53_10 : decode cJ9_min_7cf53 10 = .ok (.ireturn, 1) := by decide +kernel
theorem dJ7_fill_d0a16_0 : decode cJ7_fill_d0a16 0 = .ok (.iconst 0, 1) := by decide +kernel
theorem dJ7_fill_d0a16_1 : decode cJ7_fill_d0a16 1 = .ok (.istore_n 3, 1) := by decide +kernel
theorem dJ7_fill_d0a16_2 : decode cJ7_fill_d0a16 2 = .ok (.aload_n 0, 1) := by decide +kernel
theorem dJ7_fill_d0a16_3 : decode cJ7_fill_d0a16 3 = .ok (.arraylength, 1) := by decide +kernel
theorem dJ7_fill_d0a16_4 : decode cJ7_fill_d0a16 4 = .ok (.istore 4, 2) := by decide +kernel
theorem dJ7_fill_d0a16_6 : decode cJ7_fill_d0a16 6 = .ok (.iload_n 3, 1) := by decide +kernel
theorem dJ7_fill_d0a16_7 : decode cJ7_fill_d0a16 7 = .ok (.iload 4, 2) := by decide +kernel
theorem dJ7_fill_d0a16_9 : decode cJ7_fill_d0a16 9 = .ok (.if_icmp .ge 13, 3) := by decide +kernel
theorem dJ7_fill_d0a16_12 : decode cJ7_fill_d0a16 12 = .ok (.aload_n 0, 1) := by decide +kernel
theorem dJ7_fill_d0a16_13 : decode cJ7_fill_d0a16 13 = .ok (.iload_n 3, 1) := by decide +kernel
theorem dJ7_fill_d0a16_14 : decode cJ7_fill_d0a16 14 = .ok (.lload_n 1, 1) := by decide +kernel
theorem dJ7_fill_d0a16_15 : decode cJ7_fill_d0a16 15 = .ok (.lastore, 1) := by decide +kernel
theorem dJ7_fill_d0a16_16 : decode cJ7_fill_d0a16 16 = .ok (.iinc 3 1, 3) := by decide +kernel
theorem dJ7_fill_d0a16_19 : decode cJ7_fill_d0a16 19 = .ok (.goto (-13), 3) := by decide +kernel
theorem dJ7_fill_d0a16_22 : decode cJ7_fill_d0a16 22 = .ok (.return_, 1) := by decide +kernel
theorem dJ7_fill_53178_0 : decode cJ7_fill_53178 0 = .ok (.iconst 0, 1) := by decide +kernel
theorem dJ7_fill_53178_1 : decode cJ7_fill_53178 1 = .ok (.istore_n 2, 1) := by decide +kernel
theorem dJ7_fill_53178_2 : decode cJ7_fill_53178 2 = .ok (.aload_n 0, 1) := by decide +kernel
theorem dJ7_fill_53178_3 : decode cJ7_fill_53178 3 = .ok (.arraylength, 1) := by decide +kernel
theorem dJ7_fill_53178_4 : decode cJ7_fill_53178 4 = .ok (.istore_n 3, 1) := by decide +kernel
theorem dJ7_fill_53178_5 : decode cJ7_fill_53178 5 = .ok (.iload_n 2, 1) := by decide +kernel
theorem dJ7_fill_53178_6 : decode cJ7_fill_53178 6 = .ok (.iload_n 3, 1) := by decide +kernel
theorem dJ7_fill_53178_7 : decode cJ7_fill_53178 7 = .ok (.if_icmp .ge 13, 3) := by decide +kernel
theorem dJ7_fill_53178_10 : decode cJ7_fill_53178 10 = .ok (.aload_n 0, 1) := by decide +kernel
theorem dJ7_fill_53178_11 : decode cJ7_fill_53178 11 = .ok (.iload_n 2, 1) := by decide +kernel
theorem dJ7_fill_53178_12 : decode cJ7_fill_53178 12 = .ok (.iload_n 1, 1) := by decide +kernel
theorem dJ7_fill_53178_13 : decode cJ7_fill_53178 13 = .ok (.iastore, 1) := by decide +kernel
theorem dJ7_fill_53178_14 : decode cJ7_fill_53178 14 = .ok (.iinc 2 1, 3) := by decide +kernel
theorem dJ7_fill_53178_17 : decode cJ7_fill_53178 17 = .ok (.goto (-12), 3) := by decide +kernel
theorem dJ7_fill_53178_20 : decode cJ7_fill_53178 20 = .ok (.return_, 1) := by decide +kernel
set_option maxRecDepth 20000 in
theorem ggL_law_X5_init : GoodIn wsL_law wsX5_init := goodIn_r _ [8, 9, 10, 11, 12, 13, 14, 15, 16, 17, 18, 19, 20, 21, 22, 23, 24, 25, 26, 27, 28, 29, 30, 31, 32, 33, 34, 35, 36, 37, 38, 39, 40, 41, 42, 43, 44, 45, 46, 47, 48, 49, 50, 51, 52, 53, 54, 55, 56, 57, 58, 59, 60, 61, 62, 63, 64, 65, 66, 67, 68, 69, 70, 71, 72, 73, 74, 75, 76, 77, 78, 79, 80, 81, 82, 653, 654, 655, 619, 620, 621, 622, 623, 624, 625, 626, 656, 657, 658, 659, 660, 661, 662, 663, 664, 665, 666, 667, 668, 669, 670, 671, 672, 673, 674, 675] (by decide +kernel) (by decide +kernel)
set_option maxRecDepth 20000 in
theorem gL_law_X5_init : GoodIn wsL_law (wsX5_init) := ggL_law_X5_init
set_option maxRecDepth 20000 in
theorem ggL_law_X6_init : GoodIn wsL_law wsX6_init := goodIn_r _ [85, 86, 10, 11, 87, 88, 39, 89, 90, 91, 92, 93, 94, 95, 96, 97, 50, 98, 99, 100, 101, 102, 103, 104, 105, 106, 107, 627, 628, 629, 630, 631, 632, 633, 634, 635, 636, 637, 638, 639, 640, 641, 642, 643, 644, 645, 646, 647, 648, 649, 650, 651, 652] (by decide +kernel) (by decide +kernel)
set_option maxRecDepth 20000 in
theorem gL_law_X6_init : GoodIn wsL_law (wsX6_init) := ggL_law_X6_init
set_option maxRecDepth 20000 in
theorem ggL_law_X5_source : GoodIn wsL_law wsX5_source := goodIn_r _ [111, 15, 17, 32, 112, 113, 114, 115, 14, 116, 40, 41, 42, 117, 118, 119, 120, 121, 122, 19, 123, 124, 125, 126, 127, 31, 128, 82, 619, 620, 621, 622, 623, 624, 625, 626, 653, 654, 655, 656, 657, 658, 659, 660, 661, 662, 674, 675] (by decide +kernel) (by decide +kernel)
set_option maxRecDepth 20000 in
theorem gL_law_X5_source : GoodIn wsL_law (wsV RL 13 RX5 yX5_source wsX5_source) := goodIn_app (goodIn_of _ (by decide +kernel)) ggL_law_X5_source
set_option maxRecDepth 20000 in
theorem ggL_law_X6_source : GoodIn wsL_law wsX6_source := goodIn_r _ [132, 87, 88, 89, 90, 133, 627, 628, 629, 630, 631, 632, 633, 634, 635, 636, 637, 638, 639, 640, 641, 642, 643, 644, 645, 646, 647, 648, 649, 650, 651, 652] (by decide +kernel) (by decide +kernel)
set_option maxRecDepth 20000 in
theorem gL_law_X6_source : GoodIn wsL_law (wsV RL 17 RX6 yX6_source wsX6_source) := goodIn_app (goodIn_of _ (by decide +kernel)) ggL_law_X6_source
set_option maxRecDepth 20000 in
theorem ggL_law_X5_word : GoodIn wsL_law wsX5_word := goodIn_r _ [137, 17, 15, 138, 139, 2, 140, 141, 142, 143, 19, 144, 145, 124, 146, 47, 49, 48, 147, 148, 149, 150, 151, 152, 153, 51, 154, 155, 156, 157, 158, 159, 160, 161, 162, 163, 164, 165, 166, 167, 619, 620, 621, 622, 623, 624, 625, 626, 653, 654, 655, 656, 657, 658, 659, 660, 661, 662] (by decide +kernel) (by decide +kernel)
set_option maxRecDepth 20000 in
theorem gL_law_X5_word : GoodIn wsL_law (wsV RL 18 RX5 yX5_word wsX5_word) := goodIn_app (goodIn_of _ (by decide +kernel)) ggL_law_X5_word
set_option maxRecDepth 20000 in
theorem ggL_law_X6_word : GoodIn wsL_law wsX6_word := goodIn_r _ [171, 87, 90, 91, 172, 173, 5, 174, 627, 628, 629, 630, 631, 632, 633, 634, 635, 636, 637, 638, 639, 640, 641, 642, 643, 644, 645, 646, 647, 648, 649, 650, 651, 652] (by decide +kernel) (by decide +kernel)
set_option maxRecDepth 20000 in
theorem gL_law_X6_word : GoodIn wsL_law (wsV RL 22 RX6 yX6_word wsX6_word) := goodIn_app (goodIn_of _ (by decide +kernel)) ggL_law_X6_word
set_option maxRecDepth 20000 in
theorem ggL_law_X5_drop : GoodIn wsL_law wsX5_drop := goodIn_r _ [178, 179, 180, 181, 2, 182, 17, 183, 138, 139, 140, 120, 121, 122, 19, 123, 124, 619, 620, 621, 622, 623, 624, 625, 626, 656, 657, 658, 659, 660, 661, 662] (by decide +kernel) (by decide +kernel)
set_option maxRecDepth 20000 in
theorem gL_law_X5_drop : GoodIn wsL_law (wsV RL 23 RX5 yX5_drop wsX5_drop) := goodIn_app (goodIn_of _ (by decide +kernel)) ggL_law_X5_drop
set_option maxRecDepth 20000 in
theorem ggL_law_X6_drop : GoodIn wsL_law wsX6_drop := goodIn_r _ [187, 90, 188, 189, 190, 5, 191, 172, 173, 174, 627, 628, 629, 630, 631, 632, 633, 634, 635, 636, 637, 638, 639, 640, 641, 642, 643, 644, 645, 646, 647, 648, 649, 650, 651, 652] (by decide +kernel) (by decide +kernel)
set_option maxRecDepth 20000 in
theorem gL_law_X6_drop : GoodIn wsL_law (wsV RL 27 RX6 yX6_drop wsX6_drop) := goodIn_app (goodIn_of _ (by decide +kernel)) ggL_law_X6_drop
set_option maxRecDepth 20000 in
theorem ggL_law_X5_tell : GoodIn wsL_law wsX5_tell := goodIn_r _ [195, 183, 196, 179, 180, 181, 2, 182, 17, 138, 139, 140, 197, 198, 199, 19, 200, 124, 47, 656, 657, 658, 659, 660, 661, 662, 619, 620, 621, 622, 623, 624, 625, 626] (by decide +kernel) (by decide +kernel)
set_option maxRecDepth 20000 in
theorem gL_law_X5_tell : GoodIn wsL_law (wsV RL 28 RX5 yX5_tell wsX5_tell) := goodIn_app (goodIn_of _ (by decide +kernel)) ggL_law_X5_tell
set_option maxRecDepth 20000 in
theorem ggL_law_X6_tell : GoodIn wsL_law wsX6_tell := goodIn_r _ [204, 90, 188, 189, 190, 5, 191, 172, 173, 174, 205, 206, 207, 208, 87, 209, 210, 211, 212, 91, 627, 628, 629, 630, 631, 632, 633, 634, 635, 636, 637, 638, 639, 640, 641, 642, 643, 644, 645, 646, 647, 648, 649, 650, 651, 652] (by decide +kernel) (by decide +kernel)
set_option maxRecDepth 20000 in
theorem gL_law_X6_tell : GoodIn wsL_law (wsV RL 32 RX6 yX6_tell wsX6_tell) := goodIn_app (goodIn_of _ (by decide +kernel)) ggL_law_X6_tell
set_option maxRecDepth 20000 in
theorem ggL_law_X5_laps : GoodIn wsL_law wsX5_laps := goodIn_r _ [216, 179, 180, 181, 2, 182, 17, 183, 138, 139, 140, 217, 218, 219, 19, 220, 124, 160, 161, 162, 163, 164, 165, 166, 167, 49, 48, 619, 620, 621, 622, 623, 624, 625, 626, 656, 657, 658, 659, 660, 661, 662] (by decide +kernel) (by decide +kernel)
set_option maxRecDepth 20000 in
theorem gL_law_X5_laps : GoodIn wsL_law (wsV RL 33 RX5 yX5_laps wsX5_laps) := goodIn_app (goodIn_of _ (by decide +kernel)) ggL_law_X5_laps
set_option maxRecDepth 20000 in
theorem ggL_law_X6_laps : GoodIn wsL_law wsX6_laps := goodIn_r _ [224, 188, 189, 190, 5, 191, 90, 172, 173, 174, 225, 226, 227, 228, 209, 210, 211, 212, 91, 627, 628, 629, 630, 631, 632, 633, 634, 635, 636, 637, 638, 639, 640, 641, 642, 643, 644, 645, 646, 647, 648, 649, 650, 651, 652] (by decide +kernel) (by decide +kernel)
set_option maxRecDepth 20000 in
theorem gL_law_X6_laps : GoodIn wsL_law (wsV RL 36 RX6 yX6_laps wsX6_laps) := goodIn_app (goodIn_of _ (by decide +kernel)) ggL_law_X6_laps
set_option maxRecDepth 20000 in
theorem ggL_law_X5_within : GoodIn wsL_law wsX5_within := goodIn_r _ [232, 179, 180, 181, 2, 182, 17, 183, 138, 139, 140, 233, 234, 235, 19, 236, 124, 47, 237, 238, 239, 240, 619, 620, 621, 622, 623, 624, 625, 626, 656, 657, 658, 659, 660, 661, 662] (by decide +kernel) (by decide +kernel)
set_option maxRecDepth 20000 in
theorem gL_law_X5_within : GoodIn wsL_law (wsV RL 37 RX5 yX5_within wsX5_within) := goodIn_app (goodIn_of _ (by decide +kernel)) ggL_law_X5_within
set_option maxRecDepth 20000 in
theorem ggL_law_X6_within : GoodIn wsL_law wsX6_within := goodIn_r _ [244, 188, 189, 190, 5, 191, 90, 172, 173, 174, 245, 246, 247, 248, 209, 210, 211, 212, 91, 627, 628, 629, 630, 631, 632, 633, 634, 635, 636, 637, 638, 639, 640, 641, 642, 643, 644, 645, 646, 647, 648, 649, 650, 651, 652] (by decide +kernel) (by decide +kernel)
set_option maxRecDepth 20000 in
theorem gL_law_X6_within : GoodIn wsL_law (wsV RL 41 RX6 yX6_within wsX6_within) := goodIn_app (goodIn_of _ (by decide +kernel)) ggL_law_X6_within
set_option maxRecDepth 20000 in
theorem ggL_law_X5_lead : GoodIn wsL_law wsX5_lead := goodIn_r _ [252, 179, 180, 181, 2, 182, 17, 183, 138, 139, 140, 253, 157, 158, 19, 159, 124, 160, 161, 162, 163, 51, 164, 165, 166, 167, 49, 48, 254, 255, 256, 257, 258, 259, 260, 261, 262, 263, 264, 33, 34, 265, 266, 267, 619, 620, 621, 622, 623, 624, 625, 626, 656, 657, 658, 659, 660, 661, 662] (by decide +kernel) (by decide +kernel)
set_option maxRecDepth 20000 in
theorem gL_law_X5_lead : GoodIn wsL_law (wsV RL 42 RX5 yX5_lead wsX5_lead) := goodIn_app (goodIn_of _ (by decide +kernel)) ggL_law_X5_lead
set_option maxRecDepth 20000 in
theorem ggL_law_X6_lead : GoodIn wsL_law wsX6_lead := goodIn_r _ [271, 272, 273, 188, 189, 190, 5, 191, 90, 172, 173, 174, 225, 226, 227, 228, 209, 210, 211, 212, 91, 274, 275, 276, 277, 88, 89, 278, 279, 280, 281, 282, 283, 284, 285, 286, 287, 288, 289, 290, 291, 292, 293, 93, 627, 628, 629, 630, 631, 632, 633, 634, 635, 636, 637, 638, 639, 640, 641, 642, 643, 644, 645, 646, 647, 648, 649, 650, 651, 652] (by decide +kernel) (by decide +kernel)
set_option maxRecDepth 20000 in
theorem gL_law_X6_lead : GoodIn wsL_law (wsV RL 45 RX6 yX6_lead wsX6_lead) := goodIn_app (goodIn_of _ (by decide +kernel)) ggL_law_X6_lead
set_option maxRecDepth 20000 in
theorem ggL_law_X5_wait : GoodIn wsL_law wsX5_wait := goodIn_r _ [297, 298, 179, 180, 181, 2, 182, 17, 183, 138, 139, 140, 254, 255, 256, 19, 257, 51, 258, 259, 260, 261, 262, 263, 162, 264, 33, 34, 265, 266, 267, 299, 300, 301, 302, 124, 147, 164, 165, 166, 167, 49, 48, 303, 656, 657, 658, 659, 660, 661, 662, 619, 620, 621, 622, 623, 624, 625, 626] (by decide +kernel) (by decide +kernel)
set_option maxRecDepth 20000 in
theorem gL_law_X5_wait : GoodIn wsL_law (wsV RL 46 RX5 yX5_wait wsX5_wait) := goodIn_app (goodIn_of _ (by decide +kernel)) ggL_law_X5_wait
set_option maxRecDepth 20000 in
theorem ggL_law_X6_wait : GoodIn wsL_law wsX6_wait := goodIn_r _ [307, 100, 101, 308, 102, 103, 88, 87, 96, 309, 89, 272, 273, 188, 189, 190, 5, 191, 90, 172, 173, 174, 310, 311, 312, 313, 314, 315, 316, 317, 94, 95, 318, 319, 320, 321, 322, 323, 324, 325, 209, 210, 211, 212, 91, 326, 327, 328, 329, 97, 330, 331, 332, 333, 334, 335, 336, 337, 98, 99, 338, 339, 340, 341, 278, 279, 280, 281, 282, 283, 284, 342, 343, 344, 345, 346, 347, 348, 349, 350, 351, 352, 353, 285, 286, 287, 288, 289, 290, 291, 292, 293, 93, 627, 628, 629, 630, 631, 632, 633, 634, 635, 636, 637, 638, 639, 640, 641, 642, 643, 644, 645, 646, 647, 648, 649, 650, 651, 652] (by decide +kernel) (by decide +kernel)
set_option maxRecDepth 20000 in
theorem gL_law_X6_wait : GoodIn wsL_law (wsV RL 49 RX6 yX6_wait wsX6_wait) := goodIn_app (goodIn_of _ (by decide +kernel)) ggL_law_X6_wait
set_option maxRecDepth 20000 in
theorem ggL_law_X5_first : GoodIn wsL_law wsX5_first := goodIn_r _ [357, 24, 358, 359, 360, 2, 361, 362, 61, 62, 23, 63, 64, 57, 59, 58, 179, 180, 181, 182, 17, 183, 138, 139, 140, 363, 364, 365, 366, 367, 234, 235, 19, 236, 124, 47, 237, 238, 239, 240, 368, 255, 256, 257, 51, 369, 157, 158, 159, 160, 161, 162, 163, 164, 165, 166, 167, 49, 48, 370, 371, 372, 373, 374, 375, 376, 377, 378, 379, 380, 381, 382, 383, 384, 385, 386, 258, 259, 260, 261, 262, 263, 264, 33, 34, 265, 266, 267, 387, 388, 389, 390, 391, 392, 393, 619, 620, 621, 622, 623, 624, 625, 626, 663, 664, 665, 666, 656, 657, 658, 659, 660, 661, 662] (by decide +kernel) (by decide +kernel)
set_option maxRecDepth 20000 in
theorem gL_law_X5_first : GoodIn wsL_law (wsV RL 50 RX5 yX5_first wsX5_first) := goodIn_app (goodIn_of _ (by decide +kernel)) ggL_law_X5_first
set_option maxRecDepth 20000 in
theorem ggL_law_X6_first : GoodIn wsL_law wsX6_first := goodIn_r _ [397, 100, 101, 272, 273, 398, 399, 400, 5, 401, 90, 245, 246, 247, 248, 209, 210, 211, 212, 91, 172, 173, 174, 310, 311, 312, 313, 308, 88, 314, 315, 316, 317, 94, 95, 87, 96, 318, 319, 320, 321, 322, 323, 324, 325, 326, 327, 328, 329, 97, 330, 331, 332, 333, 334, 335, 336, 337, 98, 99, 89, 338, 339, 340, 341, 278, 279, 280, 281, 282, 283, 284, 342, 343, 344, 345, 346, 347, 348, 349, 350, 351, 352, 353, 285, 286, 287, 288, 289, 290, 291, 292, 293, 93, 402, 403, 404, 405, 627, 628, 629, 630, 631, 632, 633, 634, 635, 636, 637, 638, 639, 640, 641, 642, 643, 644, 645, 646, 647, 648, 649, 650, 651, 652] (by decide +kernel) (by decide +kernel)
set_option maxRecDepth 20000 in
theorem gL_law_X6_first : GoodIn wsL_law (wsV RL 53 RX6 yX6_first wsX6_first) := goodIn_app (goodIn_of _ (by decide +kernel)) ggL_law_X6_first
set_option maxRecDepth 20000 in
theorem ggL_law_X5_odds : GoodIn wsL_law wsX5_odds := goodIn_r _ [409, 24, 179, 180, 181, 2, 182, 17, 183, 138, 139, 140, 362, 61, 62, 23, 63, 64, 57, 59, 58, 363, 364, 365, 366, 367, 234, 235, 19, 236, 124, 47, 237, 238, 239, 240, 368, 255, 256, 257, 51, 369, 157, 158, 159, 160, 161, 162, 163, 164, 165, 166, 167, 49, 48, 410, 411, 412, 413, 147, 303, 156, 258, 259, 260, 261, 262, 263, 264, 33, 34, 265, 266, 267, 619, 620, 621, 622, 623, 624, 625, 626, 656, 657, 658, 659, 660, 661, 662, 663, 664, 665, 666] (by decide +kernel) (by decide +kernel)
set_option maxRecDepth 20000 in
theorem gL_law_X5_odds : GoodIn wsL_law (wsV RL 54 RX5 yX5_odds wsX5_odds) := goodIn_app (goodIn_of _ (by decide +kernel)) ggL_law_X5_odds
set_option maxRecDepth 20000 in
theorem ggL_law_X6_odds : GoodIn wsL_law wsX6_odds := goodIn_r _ [417, 272, 273, 188, 189, 190, 5, 191, 90, 172, 173, 174, 398, 399, 400, 401, 245, 246, 247, 248, 209, 210, 211, 212, 91, 402, 403, 404, 405, 308, 87, 96, 89, 100, 101, 314, 315, 316, 317, 94, 95, 318, 319, 320, 321, 322, 323, 324, 325, 326, 327, 328, 329, 97, 330, 331, 332, 333, 334, 335, 336, 337, 98, 88, 99, 338, 339, 340, 341, 278, 279, 280, 281, 282, 283, 284, 342, 343, 344, 345, 346, 347, 348, 349, 350, 351, 352, 353, 285, 286, 287, 288, 289, 290, 291, 292, 293, 93, 627, 628, 629, 630, 631, 632, 633, 634, 635, 636, 637, 638, 639, 640, 641, 642, 643, 644, 645, 646, 647, 648, 649, 650, 651, 652] (by decide +kernel) (by decide +kernel)
set_option maxRecDepth 20000 in
theorem gL_law_X6_odds : GoodIn wsL_law (wsV RL 57 RX6 yX6_odds wsX6_odds) := goodIn_app (goodIn_of _ (by decide +kernel)) ggL_law_X6_odds
set_option maxRecDepth 20000 in
theorem ggL_law_X5_best : GoodIn wsL_law wsX5_best := goodIn_r _ [421, 15, 183, 422, 196, 20, 179, 180, 181, 2, 182, 17, 138, 139, 140, 423, 424, 425, 14, 426, 41, 40, 427, 148, 149, 141, 142, 143, 19, 144, 145, 124, 146, 47, 49, 48, 147, 150, 151, 152, 153, 51, 154, 155, 156, 157, 158, 159, 160, 161, 162, 163, 164, 165, 166, 167, 410, 411, 412, 413, 303, 255, 256, 257, 258, 259, 260, 261, 262, 263, 264, 33, 34, 265, 266, 267, 619, 620, 621, 622, 623, 624, 625, 626, 656, 657, 658, 659, 660, 661, 662, 653, 654, 655] (by decide +kernel) (by decide +kernel)
set_option maxRecDepth 20000 in
theorem gL_law_X5_best : GoodIn wsL_law (wsV RL 58 RX5 yX5_best wsX5_best) := goodIn_app (goodIn_of _ (by decide +kernel)) ggL_law_X5_best
set_option maxRecDepth 20000 in
theorem ggL_law_X6_best : GoodIn wsL_law wsX6_best := goodIn_r _ [431, 90, 87, 89, 272, 273, 188, 189, 190, 5, 191, 172, 173, 174, 205, 206, 207, 208, 209, 210, 211, 212, 91, 432, 169, 170, 171, 402, 403, 404, 405, 308, 96, 100, 101, 314, 315, 316, 317, 94, 95, 318, 319, 320, 321, 322, 323, 324, 325, 326, 327, 328, 329, 97, 330, 331, 332, 333, 334, 335, 336, 337, 98, 88, 99, 338, 339, 340, 341, 278, 279, 280, 281, 282, 283, 284, 342, 343, 344, 345, 346, 347, 348, 349, 350, 351, 352, 353, 285, 286, 287, 288, 289, 290, 291, 292, 293, 93, 627, 628, 629, 630, 631, 632, 633, 634, 635, 636, 637, 638, 639, 640, 641, 642, 643, 644, 645, 646, 647, 648, 649, 650, 651, 652] (by decide +kernel) (by decide +kernel)
set_option maxRecDepth 20000 in
theorem gL_law_X6_best : GoodIn wsL_law (wsV RL 62 RX6 yX6_best wsX6_best) := goodIn_app (goodIn_of _ (by decide +kernel)) ggL_law_X6_best
set_option maxRecDepth 20000 in
theorem ggL_law_X5_cover : GoodIn wsL_law wsX5_cover := goodIn_r _ [436, 15, 422, 112, 437, 438, 439, 440, 14, 441, 41, 40, 387, 388, 389, 390, 391, 392, 393, 258, 259, 260, 2, 261, 262, 263, 162, 264, 33, 34, 265, 266, 267, 619, 620, 621, 622, 623, 624, 625, 626, 653, 654, 655] (by decide +kernel) (by decide +kernel)
set_option maxRecDepth 20000 in
theorem gL_law_X5_cover : GoodIn wsL_law (wsV RL 63 RX5 yX5_cover wsX5_cover) := goodIn_app (goodIn_of _ (by decide +kernel)) ggL_law_X5_cover
set_option maxRecDepth 20000 in
theorem ggL_law_X6_cover : GoodIn wsL_law wsX6_cover := goodIn_r _ [445, 87, 104, 105, 88, 89, 272, 273, 346, 347, 348, 5, 349, 282, 283, 284, 278, 279, 280, 281, 285, 286, 287, 288, 289, 290, 291, 292, 293, 93, 627, 628, 629, 630, 631, 632, 633, 634, 635, 636, 637, 638, 639, 640, 641, 642, 643, 644, 645, 646, 647, 648, 649, 650, 651, 652] (by decide +kernel) (by decide +kernel)
set_option maxRecDepth 20000 in
theorem gL_law_X6_cover : GoodIn wsL_law (wsV RL 66 RX6 yX6_cover wsX6_cover) := goodIn_app (goodIn_of _ (by decide +kernel)) ggL_law_X6_cover
set_option maxRecDepth 20000 in
theorem ggL_law_X5_won : GoodIn wsL_law wsX5_won := goodIn_r _ [449, 32, 298, 179, 180, 181, 2, 182, 17, 183, 138, 139, 140, 450, 451, 452, 31, 453, 454, 82, 81, 455, 238, 239, 19, 240, 124, 47, 254, 255, 256, 257, 51, 258, 259, 260, 261, 262, 263, 162, 264, 33, 34, 265, 266, 267, 619, 620, 621, 622, 623, 624, 625, 626, 656, 657, 658, 659, 660, 661, 662, 674, 675] (by decide +kernel) (by decide +kernel)
set_option maxRecDepth 20000 in
theorem gL_law_X5_won : GoodIn wsL_law (wsV RL 67 RX5 yX5_won wsX5_won) := goodIn_app (goodIn_of _ (by decide +kernel)) ggL_law_X5_won
set_option maxRecDepth 20000 in
theorem ggL_law_X6_won : GoodIn wsL_law wsX6_won := goodIn_r _ [459, 90, 92, 272, 273, 188, 189, 190, 5, 191, 172, 173, 174, 460, 461, 462, 463, 133, 464, 465, 466, 467, 209, 210, 211, 212, 91, 274, 275, 276, 277, 88, 89, 278, 279, 280, 281, 282, 283, 284, 285, 286, 287, 288, 289, 290, 291, 292, 293, 93, 627, 628, 629, 630, 631, 632, 633, 634, 635, 636, 637, 638, 639, 640, 641, 642, 643, 644, 645, 646, 647, 648, 649, 650, 651, 652] (by decide +kernel) (by decide +kernel)
set_option maxRecDepth 20000 in
theorem gL_law_X6_won : GoodIn wsL_law (wsV RL 70 RX6 yX6_won wsX6_won) := goodIn_app (goodIn_of _ (by decide +kernel)) ggL_law_X6_won
set_option maxRecDepth 20000 in
theorem ggL_law_X5_top : GoodIn wsL_law wsX5_top := goodIn_r _ [471, 33, 619, 620, 621, 622, 623, 624, 625, 626] (by decide +kernel) (by decide +kernel)
set_option maxRecDepth 20000 in
theorem gL_law_X5_top : GoodIn wsL_law (wsV RL 71 RX5 yX5_top wsX5_top) := goodIn_app (goodIn_of _ (by decide +kernel)) ggL_law_X5_top
set_option maxRecDepth 20000 in
theorem ggL_law_X6_top : GoodIn wsL_law wsX6_top := goodIn_r _ [475, 293, 627, 628, 629, 630, 631, 632, 633, 634, 635, 636, 637, 638, 639, 640, 641, 642, 643, 644, 645, 646, 647, 648, 649, 650, 651, 652] (by decide +kernel) (by decide +kernel)
set_option maxRecDepth 20000 in
theorem gL_law_X6_top : GoodIn wsL_law (wsV RL 75 RX6 yX6_top wsX6_top) := goodIn_app (goodIn_of _ (by decide +kernel)) ggL_law_X6_top
set_option maxRecDepth 20000 in
theorem ggL_law_X5_bottom : GoodIn wsL_law wsX5_bottom := goodIn_r _ [479, 34, 619, 620, 621, 622, 623, 624, 625, 626] (by decide +kernel) (by decide +kernel)
set_option maxRecDepth 20000 in
theorem gL_law_X5_bottom : GoodIn wsL_law (wsV RL 76 RX5 yX5_bottom wsX5_bottom) := goodIn_app (goodIn_of _ (by decide +kernel)) ggL_law_X5_bottom
set_option maxRecDepth 20000 in
theorem ggL_law_X6_bottom : GoodIn wsL_law wsX6_bottom := goodIn_r _ [483, 93, 627, 628, 629, 630, 631, 632, 633, 634, 635, 636, 637, 638, 639, 640, 641, 642, 643, 644, 645, 646, 647, 648, 649, 650, 651, 652] (by decide +kernel) (by decide +kernel)
set_option maxRecDepth 20000 in
theorem gL_law_X6_bottom : GoodIn wsL_law (wsV RL 79 RX6 yX6_bottom wsX6_bottom) := goodIn_app (goodIn_of _ (by decide +kernel)) ggL_law_X6_bottom
set_option maxRecDepth 20000 in
theorem ggL_law_X5_times : GoodIn wsL_law wsX5_times := goodIn_r _ [487, 488, 15, 112, 28, 179, 180, 181, 2, 182, 17, 183, 138, 139, 140, 489, 490, 491, 427, 148, 149, 492, 493, 494, 27, 495, 69, 70, 73, 76, 496, 497, 498, 499, 500, 501, 502, 503, 504, 505, 506, 507, 508, 509, 71, 510, 511, 512, 513, 514, 74, 515, 161, 162, 163, 516, 517, 518, 519, 520, 521, 522, 75, 523, 524, 525, 526, 527, 619, 620, 621, 622, 623, 624, 625, 626, 653, 654, 655, 656, 657, 658, 659, 660, 661, 662, 667, 668, 669, 670, 671, 672, 673] (by decide +kernel) (by decide +kernel)
set_option maxRecDepth 20000 in
theorem gL_law_X5_times : GoodIn wsL_law (wsV RL 80 RX5 yX5_times wsX5_times) := goodIn_app (goodIn_of _ (by decide +kernel)) ggL_law_X5_times
set_option maxRecDepth 20000 in
theorem ggL_law_X6_times_ : GoodIn wsL_law wsX6_times_ := goodIn_r _ [531, 532, 188, 189, 190, 5, 191, 90, 172, 173, 174, 533, 534, 535, 536, 88, 537, 538, 539, 540, 106, 107, 87, 89, 541, 542, 543, 544, 209, 210, 211, 212, 91, 545, 546, 547, 548, 549, 550, 551, 627, 628, 629, 630, 631, 632, 633, 634, 635, 636, 637, 638, 639, 640, 641, 642, 643, 644, 645, 646, 647, 648, 649, 650, 651, 652] (by decide +kernel) (by decide +kernel)
set_option maxRecDepth 20000 in
theorem gL_law_X6_times_ : GoodIn wsL_law (wsV RL 84 RX6 yX6_times_ wsX6_times_) := goodIn_app (goodIn_of _ (by decide +kernel)) ggL_law_X6_times_
set_option maxRecDepth 20000 in
theorem ggL_law_X5_never : GoodIn wsL_law wsX5_never := goodIn_r _ [555, 488, 28, 15, 489, 490, 2, 491, 492, 493, 494, 27, 495, 69, 70, 73, 76, 496, 497, 498, 499, 179, 180, 181, 182, 17, 183, 138, 139, 140, 500, 501, 502, 503, 504, 505, 506, 507, 508, 509, 71, 510, 511, 512, 513, 514, 74, 515, 161, 162, 163, 516, 517, 518, 519, 520, 521, 522, 75, 523, 524, 525, 526, 527, 619, 620, 621, 622, 623, 624, 625, 626, 667, 668, 669, 670, 671, 672, 673, 656, 657, 658, 659, 660, 661, 662, 653, 654, 655] (by decide +kernel) (by decide +kernel)
set_option maxRecDepth 20000 in
theorem gL_law_X5_never : GoodIn wsL_law (wsV RL 85 RX5 yX5_never wsX5_never) := goodIn_app (goodIn_of _ (by decide +kernel)) ggL_law_X5_never
set_option maxRecDepth 20000 in
theorem ggL_law_X6_never : GoodIn wsL_law wsX6_never := goodIn_r _ [559, 532, 172, 173, 5, 174, 537, 538, 539, 540, 106, 107, 87, 90, 89, 541, 542, 543, 544, 209, 210, 211, 212, 91, 545, 546, 547, 548, 549, 550, 551, 627, 628, 629, 630, 631, 632, 633, 634, 635, 636, 637, 638, 639, 640, 641, 642, 643, 644, 645, 646, 647, 648, 649, 650, 651, 652] (by decide +kernel) (by decide +kernel)
set_option maxRecDepth 20000 in
theorem gL_law_X6_never : GoodIn wsL_law (wsV RL 89 RX6 yX6_never wsX6_never) := goodIn_app (goodIn_of _ (by decide +kernel)) ggL_law_X6_never
set_option maxRecDepth 20000 in
theorem ggL_law_X5_covered : GoodIn wsL_law wsX5_covered := goodIn_r _ [563, 488, 15, 422, 489, 490, 2, 491, 438, 439, 440, 14, 441, 41, 40, 427, 148, 149, 387, 388, 389, 390, 391, 392, 393, 619, 620, 621, 622, 623, 624, 625, 626, 653, 654, 655] (by decide +kernel) (by decide +kernel)
set_option maxRecDepth 20000 in
theorem gL_law_X5_covered : GoodIn wsL_law (wsV RL 90 RX5 yX5_covered wsX5_covered) := goodIn_app (goodIn_of _ (by decide +kernel)) ggL_law_X5_covered
set_option maxRecDepth 20000 in
theorem ggL_law_X6_covered : GoodIn wsL_law wsX6_covered := goodIn_r _ [567, 532, 106, 107, 87, 89, 172, 173, 5, 174, 627, 628, 629, 630, 631, 632, 633, 634, 635, 636, 637, 638, 639, 640, 641, 642, 643, 644, 645, 646, 647, 648, 649, 650, 651, 652] (by decide +kernel) (by decide +kernel)
set_option maxRecDepth 20000 in
theorem gL_law_X6_covered : GoodIn wsL_law (wsV RL 94 RX6 yX6_covered wsX6_covered) := goodIn_app (goodIn_of _ (by decide +kernel)) ggL_law_X6_covered
set_option maxRecDepth 20000 in
theorem ggL_law_X5_draw : GoodIn wsL_law wsX5_draw := goodIn_r _ [571, 32, 572, 15, 125, 126, 127, 31, 128, 82, 573, 574, 575, 14, 576, 42, 41, 40, 577, 578, 579, 580, 81, 619, 620, 621, 622, 623, 624, 625, 626, 674, 675, 653, 654, 655] (by decide +kernel) (by decide +kernel)
set_option maxRecDepth 20000 in
theorem gL_law_X5_draw : GoodIn wsL_law (wsV RL 95 RX5 yX5_draw wsX5_draw) := goodIn_app (goodIn_of _ (by decide +kernel)) ggL_law_X5_draw
set_option maxRecDepth 20000 in
theorem ggL_law_X6_draw : GoodIn wsL_law wsX6_draw := goodIn_r _ [584, 585, 88, 89, 92, 133, 172, 173, 5, 174, 627, 628, 629, 630, 631, 632, 633, 634, 635, 636, 637, 638, 639, 640, 641, 642, 643, 644, 645, 646, 647, 648, 649, 650, 651, 652] (by decide +kernel) (by decide +kernel)
set_option maxRecDepth 20000 in
theorem gL_law_X6_draw : GoodIn wsL_law (wsV RL 98 RX6 yX6_draw wsX6_draw) := goodIn_app (goodIn_of _ (by decide +kernel)) ggL_law_X6_draw
set_option maxRecDepth 20000 in
theorem ggL_law_X5_add : GoodIn wsL_law wsX5_add := goodIn_r _ [589, 15, 422, 32, 590, 577, 578, 579, 31, 580, 82, 81, 619, 620, 621, 622, 623, 624, 625, 626, 653, 654, 655, 674, 675] (by decide +kernel) (by decide +kernel)
set_option maxRecDepth 20000 in
theorem gL_law_X5_add : GoodIn wsL_law (wsV RL 99 RX5 yX5_add wsX5_add) := goodIn_app (goodIn_of _ (by decide +kernel)) ggL_law_X5_add
set_option maxRecDepth 20000 in
theorem ggL_law_X6_add_ : GoodIn wsL_law wsX6_add_ := goodIn_r _ [594, 87, 133, 92, 172, 173, 5, 174, 627, 628, 629, 630, 631, 632, 633, 634, 635, 636, 637, 638, 639, 640, 641, 642, 643, 644, 645, 646, 647, 648, 649, 650, 651, 652] (by decide +kernel) (by decide +kernel)
set_option maxRecDepth 20000 in
theorem gL_law_X6_add_ : GoodIn wsL_law (wsV RL 102 RX6 yX6_add_ wsX6_add_) := goodIn_app (goodIn_of _ (by decide +kernel)) ggL_law_X6_add_
set_option maxRecDepth 20000 in
theorem ggL_law_X5_letter : GoodIn wsL_law wsX5_letter := goodIn_r _ [598, 32, 599, 600, 601, 31, 602, 82, 81, 619, 620, 621, 622, 623, 624, 625, 626, 674, 675] (by decide +kernel) (by decide +kernel)
set_option maxRecDepth 20000 in
theorem gL_law_X5_letter : GoodIn wsL_law (wsV RL 103 RX5 yX5_letter wsX5_letter) := goodIn_app (goodIn_of _ (by decide +kernel)) ggL_law_X5_letter
set_option maxRecDepth 20000 in
theorem ggL_law_X6_letter : GoodIn wsL_law wsX6_letter := goodIn_r _ [606, 133, 92, 172, 173, 5, 174, 627, 628, 629, 630, 631, 632, 633, 634, 635, 636, 637, 638, 639, 640, 641, 642, 643, 644, 645, 646, 647, 648, 649, 650, 651, 652] (by decide +kernel) (by decide +kernel)
set_option maxRecDepth 20000 in
theorem gL_law_X6_letter : GoodIn wsL_law (wsV RL 106 RX6 yX6_letter wsX6_letter) := goodIn_app (goodIn_of _ (by decide +kernel)) ggL_law_X6_letter
set_option maxRecDepth 20000 in
theorem ggL_law_X5_came : GoodIn wsL_law wsX5_came := goodIn_r _ [610, 32, 179, 180, 181, 2, 182, 17, 183, 138, 139, 140, 450, 451, 452, 31, 453, 454, 82, 81, 455, 238, 239, 19, 240, 124, 47, 611, 612, 613, 614, 619, 620, 621, 622, 623, 624, 625, 626, 656, 657, 658, 659, 660, 661, 662, 674, 675] (by decide +kernel) (by decide +kernel)
set_option maxRecDepth 20000 in
theorem gL_law_X5_came : GoodIn wsL_law (wsV RL 107 RX5 yX5_came wsX5_came) := goodIn_app (goodIn_of _ (by decide +kernel)) ggL_law_X5_came
set_option maxRecDepth 20000 in
theorem ggL_law_X6_came : GoodIn wsL_law wsX6_came := goodIn_r _ [618, 133, 188, 189, 190, 5, 191, 90, 172, 173, 174, 460, 461, 462, 463, 464, 465, 466, 467, 92, 209, 210, 211, 212, 91, 627, 628, 629, 630, 631, 632, 633, 634, 635, 636, 637, 638, 639, 640, 641, 642, 643, 644, 645, 646, 647, 648, 649, 650, 651, 652] (by decide +kernel) (by decide +kernel)
set_option maxRecDepth 20000 in
theorem gL_law_X6_came : GoodIn wsL_law (wsV RL 110 RX6 yX6_came wsX6_came) := goodIn_app (goodIn_of _ (by decide +kernel)) ggL_law_X6_came
theorem dL_law_0 : decode cL_law 0 = .ok (.new 7, 3) := by decide +kernel
theorem dL_law_3 : decode cL_law 3 = .ok (.dup, 1) := by decide +kernel
theorem dL_law_4 : decode cL_law 4 = .ok (.invokespecial 9, 3) := by decide +kernel
theorem dL_law_7 : decode cL_law 7 = .ok (.astore_n 1, 1) := by decide +kernel
theorem dL_law_8 : decode cL_law 8 = .ok (.new 10, 3) := by decide +kernel
theorem dL_law_11 : decode cL_law 11 = .ok (.dup, 1) := by decide +kernel
theorem dL_law_12 : decode cL_law 12 = .ok (.invokespecial 12, 3) := by decide +kernel
theorem dL_law_15 : decode cL_law 15 = .ok (.astore_n 2, 1) := by decide +kernel
theorem dL_law_16 : decode cL_law 16 = .ok (.iconst 0, 1) := by decide +kernel
theorem dL_law_17 : decode cL_law 17 = .ok (.istore_n 3, 1) := by decide +kernel
theorem dL_law_18 : decode cL_law 18 = .ok (.iload_n 3, 1) := by decide +kernel
theorem dL_law_19 : decode cL_law 19 = .ok (.aload_n 0, 1) := by decide +kernel
theorem dL_law_20 : decode cL_law 20 = .ok (.arraylength, 1) := by decide +kernel
theorem dL_law_21 : decode cL_law 21 = .ok (.bipush 6, 2) := by decide +kernel
theorem dL_law_23 : decode cL_law 23 = .ok (.isub, 1) := by decide +kernel
theorem dL_law_24 : decode cL_law 24 = .ok (.if_icmp .gt 803, 3) := by decide +kernel
theorem dL_law_27 : decode cL_law 27 = .ok (.aload_n 0, 1) := by decide +kernel
theorem dL_law_28 : decode cL_law 28 = .ok (.iload_n 3, 1) := by decide +kernel
theorem dL_law_29 : decode cL_law 29 = .ok (.iaload, 1) := by decide +kernel
theorem dL_law_30 : decode cL_law 30 = .ok (.bipush 31, 2) := by decide +kernel
theorem dL_law_32 : decode cL_law 32 = .ok (.iand, 1) := by decide +kernel
theorem dL_law_33 : decode cL_law 33 = .ok (.tableswitch 788 0 21 #[103, 166, 209, 232, 265, 298, 331, 364, 397, 430, 463, 486, 497, 520, 534, 548, 618, 652, 676, 709, 732, 755], 103) := by decide +kernel
theorem dL_law_136 : decode cL_law 136 = .ok (.aload_n 1, 1) := by decide +kernel
theorem dL_law_137 : decode cL_law 137 = .ok (.aload_n 0, 1) := by decide +kernel
theorem dL_law_138 : decode cL_law 138 = .ok (.iload_n 3, 1) := by decide +kernel
theorem dL_law_139 : decode cL_law 139 = .ok (.iconst 1, 1) := by decide +kernel
theorem dL_law_140 : decode cL_law 140 = .ok (.iadd, 1) := by decide +kernel
theorem dL_law_141 : decode cL_law 141 = .ok (.iaload, 1) := by decide +kernel
theorem dL_law_142 : decode cL_law 142 = .ok (.aload_n 0, 1) := by decide +kernel
theorem dL_law_143 : decode cL_law 143 = .ok (.iload_n 3, 1) := by decide +kernel
theorem dL_law_144 : decode cL_law 144 = .ok (.iconst 2, 1) := by decide +kernel
theorem dL_law_145 : decode cL_law 145 = .ok (.iadd, 1) := by decide +kernel
theorem dL_law_146 : decode cL_law 146 = .ok (.iaload, 1) := by decide +kernel
theorem dL_law_147 : decode cL_law 147 = .ok (.aload_n 0, 1) := by decide +kernel
theorem dL_law_148 : decode cL_law 148 = .ok (.iload_n 3, 1) := by decide +kernel
theorem dL_law_149 : decode cL_law 149 = .ok (.iconst 3, 1) := by decide +kernel
theorem dL_law_150 : decode cL_law 150 = .ok (.iadd, 1) := by decide +kernel
theorem dL_law_151 : decode cL_law 151 = .ok (.iaload, 1) := by decide +kernel
theorem dL_law_152 : decode cL_law 152 = .ok (.aload_n 0, 1) := by decide +kernel
theorem dL_law_153 : decode cL_law 153 = .ok (.iload_n 3, 1) := by decide +kernel
theorem dL_law_154 : decode cL_law 154 = .ok (.iconst 4, 1) := by decide +kernel
theorem dL_law_155 : decode cL_law 155 = .ok (.iadd, 1) := by decide +kernel
theorem dL_law_156 : decode cL_law 156 = .ok (.iaload, 1) := by decide +kernel
theorem dL_law_157 : decode cL_law 157 = .ok (.aload_n 0, 1) := by decide +kernel
theorem dL_law_158 : decode cL_law 158 = .ok (.iload_n 3, 1) := by decide +kernel
theorem dL_law_159 : decode cL_law 159 = .ok (.iconst 5, 1) := by decide +kernel
theorem dL_law_160 : decode cL_law 160 = .ok (.iadd, 1) := by decide +kernel
theorem dL_law_161 : decode cL_law 161 = .ok (.iaload, 1) := by decide +kernel
theorem dL_law_162 : decode cL_law 162 = .ok (.invokevirtual 13, 3) := by decide +kernel
theorem dL_law_165 : decode cL_law 165 = .ok (.aload_n 2, 1) := by decide +kernel
theorem dL_law_166 : decode cL_law 166 = .ok (.aload_n 0, 1) := by decide +kernel
theorem dL_law_167 : decode cL_law 167 = .ok (.iload_n 3, 1) := by decide +kernel
theorem dL_law_168 : decode cL_law 168 = .ok (.iconst 1, 1) := by decide +kernel
theorem dL_law_169 : decode cL_law 169 = .ok (.iadd, 1) := by decide +kernel
theorem dL_law_170 : decode cL_law 170 = .ok (.iaload, 1) := by decide +kernel
theorem dL_law_171 : decode cL_law 171 = .ok (.aload_n 0, 1) := by decide +kernel
theorem dL_law_172 : decode cL_law 172 = .ok (.iload_n 3, 1) := by decide +kernel
theorem dL_law_173 : decode cL_law 173 = .ok (.iconst 2, 1) := by decide +kernel
theorem dL_law_174 : decode cL_law 174 = .ok (.iadd, 1) := by decide +kernel
theorem dL_law_175 : decode cL_law 175 = .ok (.iaload, 1) := by decide +kernel
theorem dL_law_176 : decode cL_law 176 = .ok (.aload_n 0, 1) := by decide +kernel
theorem dL_law_177 : decode cL_law 177 = .ok (.iload_n 3, 1) := by decide +kernel
theorem dL_law_178 : decode cL_law 178 = .ok (.iconst 3, 1) := by decide +kernel
theorem dL_law_179 : decode cL_law 179 = .ok (.iadd, 1) := by decide +kernel
theorem dL_law_180 : decode cL_law 180 = .ok (.iaload, 1) := by decide +kernel
theorem dL_law_181 : decode cL_law 181 = .ok (.aload_n 0, 1) := by decide +kernel
theorem dL_law_182 : decode cL_law 182 = .ok (.iload_n 3, 1) := by decide +kernel
theorem dL_law_183 : decode cL_law 183 = .ok (.iconst 4, 1) := by decide +kernel
theorem dL_law_184 : decode cL_law 184 = .ok (.iadd, 1) := by decide +kernel
theorem dL_law_185 : decode cL_law 185 = .ok (.iaload, 1) := by decide +kernel
theorem dL_law_186 : decode cL_law 186 = .ok (.aload_n 0, 1) := by decide +kernel
theorem dL_law_187 : decode cL_law 187 = .ok (.iload_n 3, 1) := by decide +kernel
theorem dL_law_188 : decode cL_law 188 = .ok (.iconst 5, 1) := by decide +kernel
theorem dL_law_189 : decode cL_law 189 = .ok (.iadd, 1) := by decide +kernel
theorem dL_law_190 : decode cL_law 190 = .ok (.iaload, 1) := by decide +kernel
theorem dL_law_191 : decode cL_law 191 = .ok (.invokevirtual 17, 3) := by decide +kernel
theorem dL_law_194 : decode cL_law 194 = .ok (.if_icmp .eq 627, 3) := by decide +kernel
theorem dL_law_197 : decode cL_law 197 = .ok (.iconst 0, 1) := by decide +kernel
theorem dL_law_198 : decode cL_law 198 = .ok (.ireturn, 1) := by decide +kernel
theorem dL_law_199 : decode cL_law 199 = .ok (.aload_n 1, 1) := by decide +kernel
theorem dL_law_200 : decode cL_law 200 = .ok (.aload_n 0, 1) := by decide +kernel
theorem dL_law_201 : decode cL_law 201 = .ok (.iload_n 3, 1) := by decide +kernel
theorem dL_law_202 : decode cL_law 202 = .ok (.iconst 1, 1) := by decide +kernel
theorem dL_law_203 : decode cL_law 203 = .ok (.iadd, 1) := by decide +kernel
theorem dL_law_204 : decode cL_law 204 = .ok (.iaload, 1) := by decide +kernel
theorem dL_law_205 : decode cL_law 205 = .ok (.aload_n 0, 1) := by decide +kernel
theorem dL_law_206 : decode cL_law 206 = .ok (.iload_n 3, 1) := by decide +kernel
theorem dL_law_207 : decode cL_law 207 = .ok (.iconst 2, 1) := by decide +kernel
theorem dL_law_208 : decode cL_law 208 = .ok (.iadd, 1) := by decide +kernel
theorem dL_law_209 : decode cL_law 209 = .ok (.iaload, 1) := by decide +kernel
theorem dL_law_210 : decode cL_law 210 = .ok (.aload_n 0, 1) := by decide +kernel
theorem dL_law_211 : decode cL_law 211 = .ok (.iload_n 3, 1) := by decide +kernel
theorem dL_law_212 : decode cL_law 212 = .ok (.iconst 3, 1) := by decide +kernel
theorem dL_law_213 : decode cL_law 213 = .ok (.iadd, 1) := by decide +kernel
theorem dL_law_214 : decode cL_law 214 = .ok (.iaload, 1) := by decide +kernel
theorem dL_law_215 : decode cL_law 215 = .ok (.invokevirtual 18, 3) := by decide +kernel
theorem dL_law_218 : decode cL_law 218 = .ok (.aload_n 2, 1) := by decide +kernel
theorem dL_law_219 : decode cL_law 219 = .ok (.aload_n 0, 1) := by decide +kernel
theorem dL_law_220 : decode cL_law 220 = .ok (.iload_n 3, 1) := by decide +kernel
theorem dL_law_221 : decode cL_law 221 = .ok (.iconst 1, 1) := by decide +kernel
theorem dL_law_222 : decode cL_law 222 = .ok (.iadd, 1) := by decide +kernel
theorem dL_law_223 : decode cL_law 223 = .ok (.iaload, 1) := by decide +kernel
theorem dL_law_224 : decode cL_law 224 = .ok (.aload_n 0, 1) := by decide +kernel
theorem dL_law_225 : decode cL_law 225 = .ok (.iload_n 3, 1) := by decide +kernel
theorem dL_law_226 : decode cL_law 226 = .ok (.iconst 2, 1) := by decide +kernel
theorem dL_law_227 : decode cL_law 227 = .ok (.iadd, 1) := by decide +kernel
theorem dL_law_228 : decode cL_law 228 = .ok (.iaload, 1) := by decide +kernel
theorem dL_law_229 : decode cL_law 229 = .ok (.aload_n 0, 1) := by decide +kernel
theorem dL_law_230 : decode cL_law 230 = .ok (.iload_n 3, 1) := by decide +kernel
theorem dL_law_231 : decode cL_law 231 = .ok (.iconst 3, 1) := by decide +kernel
theorem dL_law_232 : decode cL_law 232 = .ok (.iadd, 1) := by decide +kernel
theorem dL_law_233 : decode cL_law 233 = .ok (.iaload, 1) := by decide +kernel
theorem dL_law_234 : decode cL_law 234 = .ok (.invokevirtual 22, 3) := by decide +kernel
theorem dL_law_237 : decode cL_law 237 = .ok (.if_icmp .eq 584, 3) := by decide +kernel
theorem dL_law_240 : decode cL_law 240 = .ok (.iconst 0, 1) := by decide +kernel
theorem dL_law_241 : decode cL_law 241 = .ok (.ireturn, 1) := by decide +kernel
theorem dL_law_242 : decode cL_law 242 = .ok (.aload_n 1, 1) := by decide +kernel
theorem dL_law_243 : decode cL_law 243 = .ok (.aload_n 0, 1) := by decide +kernel
theorem dL_law_244 : decode cL_law 244 = .ok (.iload_n 3, 1) := by decide +kernel
theorem dL_law_245 : decode cL_law 245 = .ok (.iconst 1, 1) := by decide +kernel
theorem dL_law_246 : decode cL_law 246 = .ok (.iadd, 1) := by decide +kernel
theorem dL_law_247 : decode cL_law 247 = .ok (.iaload, 1) := by decide +kernel
theorem dL_law_248 : decode cL_law 248 = .ok (.invokevirtual 23, 3) := by decide +kernel
theorem dL_law_251 : decode cL_law 251 = .ok (.aload_n 2, 1) := by decide +kernel
theorem dL_law_252 : decode cL_law 252 = .ok (.aload_n 0, 1) := by decide +kernel
theorem dL_law_253 : decode cL_law 253 = .ok (.iload_n 3, 1) := by decide +kernel
theorem dL_law_254 : decode cL_law 254 = .ok (.iconst 1, 1) := by decide +kernel
theorem dL_law_255 : decode cL_law 255 = .ok (.iadd, 1) := by decide +kernel
theorem dL_law_256 : decode cL_law 256 = .ok (.iaload, 1) := by decide +kernel
theorem dL_law_257 : decode cL_law 257 = .ok (.invokevirtual 27, 3) := by decide +kernel
theorem dL_law_260 : decode cL_law 260 = .ok (.if_icmp .eq 561, 3) := by decide +kernel
theorem dL_law_263 : decode cL_law 263 = .ok (.iconst 0, 1) := by decide +kernel
theorem dL_law_264 : decode cL_law 264 = .ok (.ireturn, 1) := by decide +kernel
theorem dL_law_265 : decode cL_law 265 = .ok (.aload_n 1, 1) := by decide +kernel
theorem dL_law_266 : decode cL_law 266 = .ok (.aload_n 0, 1) := by decide +kernel
theorem dL_law_267 : decode cL_law 267 = .ok (.iload_n 3, 1) := by decide +kernel
theorem dL_law_268 : decode cL_law 268 = .ok (.iconst 1, 1) := by decide +kernel
theorem dL_law_269 : decode cL_law 269 = .ok (.iadd, 1) := by decide +kernel
theorem dL_law_270 : decode cL_law 270 = .ok (.iaload, 1) := by decide +kernel
theorem dL_law_271 : decode cL_law 271 = .ok (.aload_n 0, 1) := by decide +kernel
theorem dL_law_272 : decode cL_law 272 = .ok (.iload_n 3, 1) := by decide +kernel
theorem dL_law_273 : decode cL_law 273 = .ok (.iconst 2, 1) := by decide +kernel
theorem dL_law_274 : decode cL_law 274 = .ok (.iadd, 1) := by decide +kernel
theorem dL_law_275 : decode cL_law 275 = .ok (.iaload, 1) := by decide +kernel
theorem dL_law_276 : decode cL_law 276 = .ok (.invokevirtual 28, 3) := by decide +kernel
theorem dL_law_279 : decode cL_law 279 = .ok (.aload_n 2, 1) := by decide +kernel
theorem dL_law_280 : decode cL_law 280 = .ok (.aload_n 0, 1) := by decide +kernel
theorem dL_law_281 : decode cL_law 281 = .ok (.iload_n 3, 1) := by decide +kernel
theorem dL_law_282 : decode cL_law 282 = .ok (.iconst 1, 1) := by decide +kernel
theorem dL_law_283 : decode cL_law 283 = .ok (.iadd, 1) := by decide +kernel
theorem dL_law_284 : decode cL_law 284 = .ok (.iaload, 1) := by decide +kernel
theorem dL_law_285 : decode cL_law 285 = .ok (.aload_n 0, 1) := by decide +kernel
theorem dL_law_286 : decode cL_law 286 = .ok (.iload_n 3, 1) := by decide +kernel
theorem dL_law_287 : decode cL_law 287 = .ok (.iconst 2, 1) := by decide +kernel
theorem dL_law_288 : decode cL_law 288 = .ok (.iadd, 1) := by decide +kernel
theorem dL_law_289 : decode cL_law 289 = .ok (.iaload, 1) := by decide +kernel
theorem dL_law_290 : decode cL_law 290 = .ok (.invokevirtual 32, 3) := by decide +kernel
theorem dL_law_293 : decode cL_law 293 = .ok (.if_icmp .eq 528, 3) := by decide +kernel
theorem dL_law_296 : decode cL_law 296 = .ok (.iconst 0, 1) := by decide +kernel
theorem dL_law_297 : decode cL_law 297 = .ok (.ireturn, 1) := by decide +kernel
theorem dL_law_298 : decode cL_law 298 = .ok (.aload_n 1, 1) := by decide +kernel
theorem dL_law_299 : decode cL_law 299 = .ok (.aload_n 0, 1) := by decide +kernel
theorem dL_law_300 : decode cL_law 300 = .ok (.iload_n 3, 1) := by decide +kernel
theorem dL_law_301 : decode cL_law 301 = .ok (.iconst 1, 1) := by decide +kernel
theorem dL_law_302 : decode cL_law 302 = .ok (.iadd, 1) := by decide +kernel
theorem dL_law_303 : decode cL_law 303 = .ok (.iaload, 1) := by decide +kernel
theorem dL_law_304 : decode cL_law 304 = .ok (.aload_n 0, 1) := by decide +kernel
theorem dL_law_305 : decode cL_law 305 = .ok (.iload_n 3, 1) := by decide +kernel
theorem dL_law_306 : decode cL_law 306 = .ok (.iconst 2, 1) := by decide +kernel
theorem dL_law_307 : decode cL_law 307 = .ok (.iadd, 1) := by decide +kernel
theorem dL_law_308 : decode cL_law 308 = .ok (.iaload, 1) := by decide +kernel
theorem dL_law_309 : decode cL_law 309 = .ok (.invokevirtual 33, 3) := by decide +kernel
theorem dL_law_312 : decode cL_law 312 = .ok (.aload_n 2, 1) := by decide +kernel
theorem dL_law_313 : decode cL_law 313 = .ok (.aload_n 0, 1) := by decide +kernel
theorem dL_law_314 : decode cL_law 314 = .ok (.iload_n 3, 1) := by decide +kernel
theorem dL_law_315 : decode cL_law 315 = .ok (.iconst 1, 1) := by decide +kernel
theorem dL_law_316 : decode cL_law 316 = .ok (.iadd, 1) := by decide +kernel
theorem dL_law_317 : decode cL_law 317 = .ok (.iaload, 1) := by decide +kernel
theorem dL_law_318 : decode cL_law 318 = .ok (.aload_n 0, 1) := by decide +kernel
theorem dL_law_319 : decode cL_law 319 = .ok (.iload_n 3, 1) := by decide +kernel
theorem dL_law_320 : decode cL_law 320 = .ok (.iconst 2, 1) := by decide +kernel
theorem dL_law_321 : decode cL_law 321 = .ok (.iadd, 1) := by decide +kernel
theorem dL_law_322 : decode cL_law 322 = .ok (.iaload, 1) := by decide +kernel
theorem dL_law_323 : decode cL_law 323 = .ok (.invokevirtual 36, 3) := by decide +kernel
theorem dL_law_326 : decode cL_law 326 = .ok (.if_icmp .eq 495, 3) := by decide +kernel
theorem dL_law_329 : decode cL_law 329 = .ok (.iconst 0, 1) := by decide +kernel
theorem dL_law_330 : decode cL_law 330 = .ok (.ireturn, 1) := by decide +kernel
theorem dL_law_331 : decode cL_law 331 = .ok (.aload_n 1, 1) := by decide +kernel
theorem dL_law_332 : decode cL_law 332 = .ok (.aload_n 0, 1) := by decide +kernel
theorem dL_law_333 : decode cL_law 333 = .ok (.iload_n 3, 1) := by decide +kernel
theorem dL_law_334 : decode cL_law 334 = .ok (.iconst 1, 1) := by decide +kernel
theorem dL_law_335 : decode cL_law 335 = .ok (.iadd, 1) := by decide +kernel
theorem dL_law_336 : decode cL_law 336 = .ok (.iaload, 1) := by decide +kernel
theorem dL_law_337 : decode cL_law 337 = .ok (.aload_n 0, 1) := by decide +kernel
theorem dL_law_338 : decode cL_law 338 = .ok (.iload_n 3, 1) := by decide +kernel
theorem dL_law_339 : decode cL_law 339 = .ok (.iconst 2, 1) := by decide +kernel
theorem dL_law_340 : decode cL_law 340 = .ok (.iadd, 1) := by decide +kernel
theorem dL_law_341 : decode cL_law 341 = .ok (.iaload, 1) := by decide +kernel
theorem dL_law_342 : decode cL_law 342 = .ok (.invokevirtual 37, 3) := by decide +kernel
theorem dL_law_345 : decode cL_law 345 = .ok (.aload_n 2, 1) := by decide +kernel
theorem dL_law_346 : decode cL_law 346 = .ok (.aload_n 0, 1) := by decide +kernel
theorem dL_law_347 : decode cL_law 347 = .ok (.iload_n 3, 1) := by decide +kernel
theorem dL_law_348 : decode cL_law 348 = .ok (.iconst 1, 1) := by decide +kernel
theorem dL_law_349 : decode cL_law 349 = .ok (.iadd, 1) := by decide +kernel
theorem dL_law_350 : decode cL_law 350 = .ok (.iaload, 1) := by decide +kernel
theorem dL_law_351 : decode cL_law 351 = .ok (.aload_n 0, 1) := by decide +kernel
theorem dL_law_352 : decode cL_law 352 = .ok (.iload_n 3, 1) := by decide +kernel
theorem dL_law_353 : decode cL_law 353 = .ok (.iconst 2, 1) := by decide +kernel
theorem dL_law_354 : decode cL_law 354 = .ok (.iadd, 1) := by decide +kernel
theorem dL_law_355 : decode cL_law 355 = .ok (.iaload, 1) := by decide +kernel
theorem dL_law_356 : decode cL_law 356 = .ok (.invokevirtual 41, 3) := by decide +kernel
theorem dL_law_359 : decode cL_law 359 = .ok (.if_icmp .eq 462, 3) := by decide +kernel
theorem dL_law_362 : decode cL_law 362 = .ok (.iconst 0, 1) := by decide +kernel
theorem dL_law_363 : decode cL_law 363 = .ok (.ireturn, 1) := by decide +kernel
theorem dL_law_364 : decode cL_law 364 = .ok (.aload_n 1, 1) := by decide +kernel
theorem dL_law_365 : decode cL_law 365 = .ok (.aload_n 0, 1) := by decide +kernel
theorem dL_law_366 : decode cL_law 366 = .ok (.iload_n 3, 1) := by decide +kernel
theorem dL_law_367 : decode cL_law 367 = .ok (.iconst 1, 1) := by decide +kernel
theorem dL_law_368 : decode cL_law 368 = .ok (.iadd, 1) := by decide +kernel
theorem dL_law_369 : decode cL_law 369 = .ok (.iaload, 1) := by decide +kernel
theorem dL_law_370 : decode cL_law 370 = .ok (.aload_n 0, 1) := by decide +kernel
theorem dL_law_371 : decode cL_law 371 = .ok (.iload_n 3, 1) := by decide +kernel
theorem dL_law_372 : decode cL_law 372 = .ok (.iconst 2, 1) := by decide +kernel
theorem dL_law_373 : decode cL_law 373 = .ok (.iadd, 1) := by decide +kernel
theorem dL_law_374 : decode cL_law 374 = .ok (.iaload, 1) := by decide +kernel
theorem dL_law_375 : decode cL_law 375 = .ok (.invokevirtual 42, 3) := by decide +kernel
theorem dL_law_378 : decode cL_law 378 = .ok (.aload_n 2, 1) := by decide +kernel
theorem dL_law_379 : decode cL_law 379 = .ok (.aload_n 0, 1) := by decide +kernel
theorem dL_law_380 : decode cL_law 380 = .ok (.iload_n 3, 1) := by decide +kernel
theorem dL_law_381 : decode cL_law 381 = .ok (.iconst 1, 1) := by decide +kernel
theorem dL_law_382 : decode cL_law 382 = .ok (.iadd, 1) := by decide +kernel
theorem dL_law_383 : decode cL_law 383 = .ok (.iaload, 1) := by decide +kernel
theorem dL_law_384 : decode cL_law 384 = .ok (.aload_n 0, 1) := by decide +kernel
theorem dL_law_385 : decode cL_law 385 = .ok (.iload_n 3, 1) := by decide +kernel
theorem dL_law_386 : decode cL_law 386 = .ok (.iconst 2, 1) := by decide +kernel
theorem dL_law_387 : decode cL_law 387 = .ok (.iadd, 1) := by decide +kernel
theorem dL_law_388 : decode cL_law 388 = .ok (.iaload, 1) := by decide +kernel
theorem dL_law_389 : decode cL_law 389 = .ok (.invokevirtual 45, 3) := by decide +kernel
theorem dL_law_392 : decode cL_law 392 = .ok (.if_icmp .eq 429, 3) := by decide +kernel
theorem dL_law_395 : decode cL_law 395 = .ok (.iconst 0, 1) := by decide +kernel
theorem dL_law_396 : decode cL_law 396 = .ok (.ireturn, 1) := by decide +kernel
theorem dL_law_397 : decode cL_law 397 = .ok (.aload_n 1, 1) := by decide +kernel
theorem dL_law_398 : decode cL_law 398 = .ok (.aload_n 0, 1) := by decide +kernel
theorem dL_law_399 : decode cL_law 399 = .ok (.iload_n 3, 1) := by decide +kernel
theorem dL_law_400 : decode cL_law 400 = .ok (.iconst 1, 1) := by decide +kernel
theorem dL_law_401 : decode cL_law 401 = .ok (.iadd, 1) := by decide +kernel
theorem dL_law_402 : decode cL_law 402 = .ok (.iaload, 1) := by decide +kernel
theorem dL_law_403 : decode cL_law 403 = .ok (.aload_n 0, 1) := by decide +kernel
theorem dL_law_404 : decode cL_law 404 = .ok (.iload_n 3, 1) := by decide +kernel
theorem dL_law_405 : decode cL_law 405 = .ok (.iconst 2, 1) := by decide +kernel
theorem dL_law_406 : decode cL_law 406 = .ok (.iadd, 1) := by decide +kernel
theorem dL_law_407 : decode cL_law 407 = .ok (.iaload, 1) := by decide +kernel
theorem dL_law_408 : decode cL_law 408 = .ok (.invokevirtual 46, 3) := by decide +kernel
