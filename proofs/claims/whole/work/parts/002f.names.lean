theorem dX6_source_125 : decode cX6_source 125 = .ok (.iconst 0, 1) := by decide +kernel
theorem dX6_source_126 : decode cX6_source 126 = .ok (.goto 35, 3) := by decide +kernel
theorem dX6_source_129 : decode cX6_source 129 = .ok (.iload 7, 2) := by decide +kernel
theorem dX6_source_131 : decode cX6_source 131 = .ok (.ifCond .ne 7, 3) := by decide +kernel
theorem dX6_source_134 : decode cX6_source 134 = .ok (.iload_n 2, 1) := by decide +kernel
theorem dX6_source_135 : decode cX6_source 135 = .ok (.goto 26, 3) := by decide +kernel
theorem dX6_source_138 : decode cX6_source 138 = .ok (.iload 7, 2) := by decide +kernel
theorem dX6_source_140 : decode cX6_source 140 = .ok (.iconst 1, 1) := by decide +kernel
theorem dX6_source_141 : decode cX6_source 141 = .ok (.if_icmp .ne 7, 3) := by decide +kernel
theorem dX6_source_144 : decode cX6_source 144 = .ok (.iload_n 3, 1) := by decide +kernel
theorem dX6_source_145 : decode cX6_source 145 = .ok (.goto 16, 3) := by decide +kernel
theorem dX6_source_148 : decode cX6_source 148 = .ok (.iload 7, 2) := by decide +kernel
theorem dX6_source_150 : decode cX6_source 150 = .ok (.iconst 2, 1) := by decide +kernel
theorem dX6_source_151 : decode cX6_source 151 = .ok (.if_icmp .ne 8, 3) := by decide +kernel
theorem dX6_source_154 : decode cX6_source 154 = .ok (.iload 4, 2) := by decide +kernel
theorem dX6_source_156 : decode cX6_source 156 = .ok (.goto 5, 3) := by decide +kernel
theorem dX6_source_159 : decode cX6_source 159 = .ok (.iload 5, 2) := by decide +kernel
theorem dX6_source_161 : decode cX6_source 161 = .ok (.iastore, 1) := by decide +kernel
theorem dX6_source_162 : decode cX6_source 162 = .ok (.iinc 7 1, 3) := by decide +kernel
theorem dX6_source_165 : decode cX6_source 165 = .ok (.goto (-58), 3) := by decide +kernel
theorem dX6_source_168 : decode cX6_source 168 = .ok (.iconst 0, 1) := by decide +kernel
theorem dX6_source_169 : decode cX6_source 169 = .ok (.istore 7, 2) := by decide +kernel
theorem dX6_source_171 : decode cX6_source 171 = .ok (.iload 7, 2) := by decide +kernel
theorem dX6_source_173 : decode cX6_source 173 = .ok (.bipush 8, 2) := by decide +kernel
theorem dX6_source_175 : decode cX6_source 175 = .ok (.if_icmp .ge 17, 3) := by decide +kernel
theorem dX6_source_178 : decode cX6_source 178 = .ok (.aload_n 0, 1) := by decide +kernel
theorem dX6_source_179 : decode cX6_source 179 = .ok (.getfield 20, 3) := by decide +kernel
theorem dX6_source_182 : decode cX6_source 182 = .ok (.iload 7, 2) := by decide +kernel
theorem dX6_source_184 : decode cX6_source 184 = .ok (.iconst 0, 1) := by decide +kernel
theorem dX6_source_185 : decode cX6_source 185 = .ok (.iastore, 1) := by decide +kernel
theorem dX6_source_186 : decode cX6_source 186 = .ok (.iinc 7 1, 3) := by decide +kernel
theorem dX6_source_189 : decode cX6_source 189 = .ok (.goto (-18), 3) := by decide +kernel
theorem dX6_source_192 : decode cX6_source 192 = .ok (.aload_n 0, 1) := by decide +kernel
theorem dX6_source_193 : decode cX6_source 193 = .ok (.iconst 0, 1) := by decide +kernel
theorem dX6_source_194 : decode cX6_source 194 = .ok (.putfield 76, 3) := by decide +kernel
theorem dX6_source_197 : decode cX6_source 197 = .ok (.aload_n 0, 1) := by decide +kernel
theorem dX6_source_198 : decode cX6_source 198 = .ok (.getfield 13, 3) := by decide +kernel
theorem dX6_source_201 : decode cX6_source 201 = .ok (.ireturn, 1) := by decide +kernel
set_option maxRecDepth 20000 in
theorem ggX6_isWord_X6_isIn : GoodIn wsX6_isWord wsX6_isIn := goodIn_r _ [5] (by decide +kernel) (by decide +kernel)
set_option maxRecDepth 20000 in
theorem gX6_isWord_X6_isIn : GoodIn wsX6_isWord (va_wsS RX6 79 yX6_isIn wsX6_isIn) := goodIn_app (goodIn_of _ (by decide +kernel)) ggX6_isWord_X6_isIn
theorem dX6_isWord_0 : decode cX6_isWord 0 = .ok (.iload_n 1, 1) := by decide +kernel
theorem dX6_isWord_1 : decode cX6_isWord 1 = .ok (.bipush 8, 2) := by decide +kernel
theorem dX6_isWord_3 : decode cX6_isWord 3 = .ok (.invokestatic 79, 3) := by decide +kernel
theorem dX6_isWord_6 : decode cX6_isWord 6 = .ok (.ifCond .eq 16, 3) := by decide +kernel
theorem dX6_isWord_9 : decode cX6_isWord 9 = .ok (.aload_n 0, 1) := by decide +kernel
theorem dX6_isWord_10 : decode cX6_isWord 10 = .ok (.getfield 20, 3) := by decide +kernel
theorem dX6_isWord_13 : decode cX6_isWord 13 = .ok (.iload_n 1, 1) := by decide +kernel
theorem dX6_isWord_14 : decode cX6_isWord 14 = .ok (.iaload, 1) := by decide +kernel
theorem dX6_isWord_15 : decode cX6_isWord 15 = .ok (.ifCond .le 7, 3) := by decide +kernel
theorem dX6_isWord_18 : decode cX6_isWord 18 = .ok (.iconst 1, 1) := by decide +kernel
theorem dX6_isWord_19 : decode cX6_isWord 19 = .ok (.goto 4, 3) := by decide +kernel
theorem dX6_isWord_22 : decode cX6_isWord 22 = .ok (.iconst 0, 1) := by decide +kernel
theorem dX6_isWord_23 : decode cX6_isWord 23 = .ok (.ireturn, 1) := by decide +kernel
set_option maxRecDepth 20000 in
theorem ggX6_word_X6_isIn : GoodIn wsX6_word wsX6_isIn := goodIn_r _ [7] (by decide +kernel) (by decide +kernel)
set_option maxRecDepth 20000 in
theorem gX6_word_X6_isIn : GoodIn wsX6_word (va_wsS RX6 79 yX6_isIn wsX6_isIn) := goodIn_app (goodIn_of _ (by decide +kernel)) ggX6_word_X6_isIn
theorem dX6_word_0 : decode cX6_word 0 = .ok (.iload_n 1, 1) := by decide +kernel
theorem dX6_word_1 : decode cX6_word 1 = .ok (.bipush 8, 2) := by decide +kernel
theorem dX6_word_3 : decode cX6_word 3 = .ok (.invokestatic 79, 3) := by decide +kernel
theorem dX6_word_6 : decode cX6_word 6 = .ok (.ifCond .eq 17, 3) := by decide +kernel
theorem dX6_word_9 : decode cX6_word 9 = .ok (.iload_n 2, 1) := by decide +kernel
theorem dX6_word_10 : decode cX6_word 10 = .ok (.iconst 1, 1) := by decide +kernel
theorem dX6_word_11 : decode cX6_word 11 = .ok (.if_icmp .lt 12, 3) := by decide +kernel
theorem dX6_word_14 : decode cX6_word 14 = .ok (.iload_n 2, 1) := by decide +kernel
theorem dX6_word_15 : decode cX6_word 15 = .ok (.iconst 5, 1) := by decide +kernel
theorem dX6_word_16 : decode cX6_word 16 = .ok (.if_icmp .gt 7, 3) := by decide +kernel
theorem dX6_word_19 : decode cX6_word 19 = .ok (.iload_n 3, 1) := by decide +kernel
theorem dX6_word_20 : decode cX6_word 20 = .ok (.ifCond .ge 5, 3) := by decide +kernel
theorem dX6_word_23 : decode cX6_word 23 = .ok (.iconst 0, 1) := by decide +kernel
theorem dX6_word_24 : decode cX6_word 24 = .ok (.ireturn, 1) := by decide +kernel
theorem dX6_word_25 : decode cX6_word 25 = .ok (.iconst 1, 1) := by decide +kernel
theorem dX6_word_26 : decode cX6_word 26 = .ok (.istore 4, 2) := by decide +kernel
theorem dX6_word_28 : decode cX6_word 28 = .ok (.iconst 0, 1) := by decide +kernel
theorem dX6_word_29 : decode cX6_word 29 = .ok (.istore 5, 2) := by decide +kernel
theorem dX6_word_31 : decode cX6_word 31 = .ok (.iload 5, 2) := by decide +kernel
theorem dX6_word_33 : decode cX6_word 33 = .ok (.iload_n 2, 1) := by decide +kernel
theorem dX6_word_34 : decode cX6_word 34 = .ok (.if_icmp .ge 18, 3) := by decide +kernel
theorem dX6_word_37 : decode cX6_word 37 = .ok (.iload 4, 2) := by decide +kernel
theorem dX6_word_39 : decode cX6_word 39 = .ok (.aload_n 0, 1) := by decide +kernel
theorem dX6_word_40 : decode cX6_word 40 = .ok (.getfield 7, 3) := by decide +kernel
theorem dX6_word_43 : decode cX6_word 43 = .ok (.imul, 1) := by decide +kernel
theorem dX6_word_44 : decode cX6_word 44 = .ok (.istore 4, 2) := by decide +kernel
theorem dX6_word_46 : decode cX6_word 46 = .ok (.iinc 5 1, 3) := by decide +kernel
theorem dX6_word_49 : decode cX6_word 49 = .ok (.goto (-18), 3) := by decide +kernel
theorem dX6_word_52 : decode cX6_word 52 = .ok (.iload_n 3, 1) := by decide +kernel
theorem dX6_word_53 : decode cX6_word 53 = .ok (.iload 4, 2) := by decide +kernel
theorem dX6_word_55 : decode cX6_word 55 = .ok (.if_icmp .lt 5, 3) := by decide +kernel
theorem dX6_word_58 : decode cX6_word 58 = .ok (.iconst 0, 1) := by decide +kernel
theorem dX6_word_59 : decode cX6_word 59 = .ok (.ireturn, 1) := by decide +kernel
theorem dX6_word_60 : decode cX6_word 60 = .ok (.aload_n 0, 1) := by decide +kernel
theorem dX6_word_61 : decode cX6_word 61 = .ok (.getfield 20, 3) := by decide +kernel
theorem dX6_word_64 : decode cX6_word 64 = .ok (.iload_n 1, 1) := by decide +kernel
theorem dX6_word_65 : decode cX6_word 65 = .ok (.iload_n 2, 1) := by decide +kernel
theorem dX6_word_66 : decode cX6_word 66 = .ok (.iastore, 1) := by decide +kernel
theorem dX6_word_67 : decode cX6_word 67 = .ok (.iload_n 3, 1) := by decide +kernel
theorem dX6_word_68 : decode cX6_word 68 = .ok (.istore 5, 2) := by decide +kernel
theorem dX6_word_70 : decode cX6_word 70 = .ok (.iload_n 2, 1) := by decide +kernel
theorem dX6_word_71 : decode cX6_word 71 = .ok (.iconst 1, 1) := by decide +kernel
theorem dX6_word_72 : decode cX6_word 72 = .ok (.isub, 1) := by decide +kernel
theorem dX6_word_73 : decode cX6_word 73 = .ok (.istore 6, 2) := by decide +kernel
theorem dX6_word_75 : decode cX6_word 75 = .ok (.iload 6, 2) := by decide +kernel
theorem dX6_word_77 : decode cX6_word 77 = .ok (.ifCond .lt 36, 3) := by decide +kernel
theorem dX6_word_80 : decode cX6_word 80 = .ok (.aload_n 0, 1) := by decide +kernel
theorem dX6_word_81 : decode cX6_word 81 = .ok (.getfield 23, 3) := by decide +kernel
theorem dX6_word_84 : decode cX6_word 84 = .ok (.iconst 5, 1) := by decide +kernel
theorem dX6_word_85 : decode cX6_word 85 = .ok (.iload_n 1, 1) := by decide +kernel
theorem dX6_word_86 : decode cX6_word 86 = .ok (.imul, 1) := by decide +kernel
theorem dX6_word_87 : decode cX6_word 87 = .ok (.iload 6, 2) := by decide +kernel
theorem dX6_word_89 : decode cX6_word 89 = .ok (.iadd, 1) := by decide +kernel
theorem dX6_word_90 : decode cX6_word 90 = .ok (.iload 5, 2) := by decide +kernel
theorem dX6_word_92 : decode cX6_word 92 = .ok (.aload_n 0, 1) := by decide +kernel
theorem dX6_word_93 : decode cX6_word 93 = .ok (.getfield 7, 3) := by decide +kernel
theorem dX6_word_96 : decode cX6_word 96 = .ok (.irem, 1) := by decide +kernel
theorem dX6_word_97 : decode cX6_word 97 = .ok (.iastore, 1) := by decide +kernel
theorem dX6_word_98 : decode cX6_word 98 = .ok (.iload 5, 2) := by decide +kernel
theorem dX6_word_100 : decode cX6_word 100 = .ok (.aload_n 0, 1) := by decide +kernel
theorem dX6_word_101 : decode cX6_word 101 = .ok (.getfield 7, 3) := by decide +kernel
theorem dX6_word_104 : decode cX6_word 104 = .ok (.idiv, 1) := by decide +kernel
theorem dX6_word_105 : decode cX6_word 105 = .ok (.istore 5, 2) := by decide +kernel
theorem dX6_word_107 : decode cX6_word 107 = .ok (.iinc 6 (-1), 3) := by decide +kernel
theorem dX6_word_110 : decode cX6_word 110 = .ok (.goto (-35), 3) := by decide +kernel
theorem dX6_word_113 : decode cX6_word 113 = .ok (.iconst 1, 1) := by decide +kernel
theorem dX6_word_114 : decode cX6_word 114 = .ok (.ireturn, 1) := by decide +kernel
set_option maxRecDepth 20000 in
theorem ggX6_drop_X6_isWord : GoodIn wsX6_drop wsX6_isWord := goodIn_r _ [6, 1, 7, 8, 5, 9, 10, 11, 12, 13, 14, 15, 16, 17, 18, 19, 20, 21, 22, 23, 24, 25, 26, 27, 28, 29, 30, 31, 32, 33, 34, 35] (by decide +kernel) (by decide +kernel)
set_option maxRecDepth 20000 in
theorem gX6_drop_X6_isWord : GoodIn wsX6_drop (wsV RX6 83 RX6 yX6_isWord wsX6_isWord) := goodIn_app (goodIn_of _ (by decide +kernel)) ggX6_drop_X6_isWord
theorem dX6_drop_0 : decode cX6_drop 0 = .ok (.aload_n 0, 1) := by decide +kernel
theorem dX6_drop_1 : decode cX6_drop 1 = .ok (.iload_n 1, 1) := by decide +kernel
theorem dX6_drop_2 : decode cX6_drop 2 = .ok (.invokevirtual 83, 3) := by decide +kernel
theorem dX6_drop_5 : decode cX6_drop 5 = .ok (.ifCond .ne 5, 3) := by decide +kernel
theorem dX6_drop_8 : decode cX6_drop 8 = .ok (.iconst 0, 1) := by decide +kernel
theorem dX6_drop_9 : decode cX6_drop 9 = .ok (.ireturn, 1) := by decide +kernel
theorem dX6_drop_10 : decode cX6_drop 10 = .ok (.aload_n 0, 1) := by decide +kernel
theorem dX6_drop_11 : decode cX6_drop 11 = .ok (.getfield 20, 3) := by decide +kernel
theorem dX6_drop_14 : decode cX6_drop 14 = .ok (.iload_n 1, 1) := by decide +kernel
theorem dX6_drop_15 : decode cX6_drop 15 = .ok (.iconst 0, 1) := by decide +kernel
theorem dX6_drop_16 : decode cX6_drop 16 = .ok (.iastore, 1) := by decide +kernel
theorem dX6_drop_17 : decode cX6_drop 17 = .ok (.iconst 1, 1) := by decide +kernel
theorem dX6_drop_18 : decode cX6_drop 18 = .ok (.ireturn, 1) := by decide +kernel
theorem dX6_letterOf_0 : decode cX6_letterOf 0 = .ok (.aload_n 0, 1) := by decide +kernel
theorem dX6_letterOf_1 : decode cX6_letterOf 1 = .ok (.getfield 23, 3) := by decide +kernel
theorem dX6_letterOf_4 : decode cX6_letterOf 4 = .ok (.iconst 5, 1) := by decide +kernel
theorem dX6_letterOf_5 : decode cX6_letterOf 5 = .ok (.iload_n 1, 1) := by decide +kernel
theorem dX6_letterOf_6 : decode cX6_letterOf 6 = .ok (.imul, 1) := by decide +kernel
theorem dX6_letterOf_7 : decode cX6_letterOf 7 = .ok (.iload_n 2, 1) := by decide +kernel
theorem dX6_letterOf_8 : decode cX6_letterOf 8 = .ok (.iadd, 1) := by decide +kernel
theorem dX6_letterOf_9 : decode cX6_letterOf 9 = .ok (.iaload, 1) := by decide +kernel
theorem dX6_letterOf_10 : decode cX6_letterOf 10 = .ok (.ireturn, 1) := by decide +kernel
set_option maxRecDepth 20000 in
theorem ggX6_codeOf_X6_letterOf : GoodIn wsX6_codeOf wsX6_letterOf := goodIn_r _ [7, 8, 9, 10, 11, 12, 13, 14, 15, 16, 17, 18, 19, 20, 21, 22, 23, 24, 25, 26, 27, 28, 29, 30, 31, 32, 33, 34] (by decide +kernel) (by decide +kernel)
set_option maxRecDepth 20000 in
theorem gX6_codeOf_X6_letterOf : GoodIn wsX6_codeOf (wsV RX6 87 RX6 yX6_letterOf wsX6_letterOf) := goodIn_app (goodIn_of _ (by decide +kernel)) ggX6_codeOf_X6_letterOf
theorem dX6_codeOf_0 : decode cX6_codeOf 0 = .ok (.iconst 0, 1) := by decide +kernel
theorem dX6_codeOf_1 : decode cX6_codeOf 1 = .ok (.istore_n 2, 1) := by decide +kernel
theorem dX6_codeOf_2 : decode cX6_codeOf 2 = .ok (.iconst 0, 1) := by decide +kernel
theorem dX6_codeOf_3 : decode cX6_codeOf 3 = .ok (.istore_n 3, 1) := by decide +kernel
theorem dX6_codeOf_4 : decode cX6_codeOf 4 = .ok (.iload_n 3, 1) := by decide +kernel
theorem dX6_codeOf_5 : decode cX6_codeOf 5 = .ok (.aload_n 0, 1) := by decide +kernel
theorem dX6_codeOf_6 : decode cX6_codeOf 6 = .ok (.getfield 20, 3) := by decide +kernel
theorem dX6_codeOf_9 : decode cX6_codeOf 9 = .ok (.iload_n 1, 1) := by decide +kernel
theorem dX6_codeOf_10 : decode cX6_codeOf 10 = .ok (.iaload, 1) := by decide +kernel
theorem dX6_codeOf_11 : decode cX6_codeOf 11 = .ok (.if_icmp .ge 23, 3) := by decide +kernel
theorem dX6_codeOf_14 : decode cX6_codeOf 14 = .ok (.aload_n 0, 1) := by decide +kernel
theorem dX6_codeOf_15 : decode cX6_codeOf 15 = .ok (.getfield 7, 3) := by decide +kernel
theorem dX6_codeOf_18 : decode cX6_codeOf 18 = .ok (.iload_n 2, 1) := by decide +kernel
theorem dX6_codeOf_19 : decode cX6_codeOf 19 = .ok (.imul, 1) := by decide +kernel
theorem dX6_codeOf_20 : decode cX6_codeOf 20 = .ok (.aload_n 0, 1) := by decide +kernel
theorem dX6_codeOf_21 : decode cX6_codeOf 21 = .ok (.iload_n 1, 1) := by decide +kernel
theorem dX6_codeOf_22 : decode cX6_codeOf 22 = .ok (.iload_n 3, 1) := by decide +kernel
theorem dX6_codeOf_23 : decode cX6_codeOf 23 = .ok (.invokevirtual 87, 3) := by decide +kernel
theorem dX6_codeOf_26 : decode cX6_codeOf 26 = .ok (.iadd, 1) := by decide +kernel
theorem dX6_codeOf_27 : decode cX6_codeOf 27 = .ok (.istore_n 2, 1) := by decide +kernel
theorem dX6_codeOf_28 : decode cX6_codeOf 28 = .ok (.iinc 3 1, 3) := by decide +kernel
theorem dX6_codeOf_31 : decode cX6_codeOf 31 = .ok (.goto (-27), 3) := by decide +kernel
theorem dX6_codeOf_34 : decode cX6_codeOf 34 = .ok (.iload_n 2, 1) := by decide +kernel
theorem dX6_codeOf_35 : decode cX6_codeOf 35 = .ok (.ireturn, 1) := by decide +kernel
set_option maxRecDepth 20000 in
theorem ggX6_tell_X6_isWord : GoodIn wsX6_tell wsX6_isWord := goodIn_r _ [6, 1, 7, 8, 5, 9, 20, 21, 22, 23, 24, 25, 26, 27, 28, 29, 30, 31, 32, 33, 34, 35, 36, 37, 38, 39, 40, 41, 42, 43, 44, 45] (by decide +kernel) (by decide +kernel)
set_option maxRecDepth 20000 in
theorem gX6_tell_X6_isWord : GoodIn wsX6_tell (wsV RX6 83 RX6 yX6_isWord wsX6_isWord) := goodIn_app (goodIn_of _ (by decide +kernel)) ggX6_tell_X6_isWord
set_option maxRecDepth 20000 in
theorem ggX6_tell_X6_codeOf : GoodIn wsX6_tell wsX6_codeOf := goodIn_r _ [13, 1, 14, 15, 16, 17, 5, 18, 19, 20, 21, 22, 23, 24, 25, 26, 27, 28, 29, 30, 31, 32, 33, 34, 35, 36, 37, 38, 39, 40, 41, 42, 43, 44, 45] (by decide +kernel) (by decide +kernel)
set_option maxRecDepth 20000 in
theorem gX6_tell_X6_codeOf : GoodIn wsX6_tell (wsV RX6 91 RX6 yX6_codeOf wsX6_codeOf) := goodIn_app (goodIn_of _ (by decide +kernel)) ggX6_tell_X6_codeOf
set_option maxRecDepth 20000 in
theorem ggX6_tell_X6_letterOf : GoodIn wsX6_tell wsX6_letterOf := goodIn_r _ [18, 19, 20, 21, 22, 23, 24, 25, 26, 27, 28, 29, 30, 31, 32, 33, 34, 35, 36, 37, 38, 39, 40, 41, 42, 43, 44, 45] (by decide +kernel) (by decide +kernel)
set_option maxRecDepth 20000 in
theorem gX6_tell_X6_letterOf : GoodIn wsX6_tell (wsV RX6 87 RX6 yX6_letterOf wsX6_letterOf) := goodIn_app (goodIn_of _ (by decide +kernel)) ggX6_tell_X6_letterOf
theorem dX6_tell_0 : decode cX6_tell 0 = .ok (.aload_n 0, 1) := by decide +kernel
theorem dX6_tell_1 : decode cX6_tell 1 = .ok (.iload_n 1, 1) := by decide +kernel
theorem dX6_tell_2 : decode cX6_tell 2 = .ok (.invokevirtual 83, 3) := by decide +kernel
theorem dX6_tell_5 : decode cX6_tell 5 = .ok (.ifCond .eq 7, 3) := by decide +kernel
theorem dX6_tell_8 : decode cX6_tell 8 = .ok (.iload_n 2, 1) := by decide +kernel
theorem dX6_tell_9 : decode cX6_tell 9 = .ok (.ifCond .ge 5, 3) := by decide +kernel
theorem dX6_tell_12 : decode cX6_tell 12 = .ok (.iconst (-1), 1) := by decide +kernel
theorem dX6_tell_13 : decode cX6_tell 13 = .ok (.ireturn, 1) := by decide +kernel
theorem dX6_tell_14 : decode cX6_tell 14 = .ok (.iload_n 2, 1) := by decide +kernel
theorem dX6_tell_15 : decode cX6_tell 15 = .ok (.ifCond .ne 10, 3) := by decide +kernel
theorem dX6_tell_18 : decode cX6_tell 18 = .ok (.aload_n 0, 1) := by decide +kernel
theorem dX6_tell_19 : decode cX6_tell 19 = .ok (.getfield 20, 3) := by decide +kernel
theorem dX6_tell_22 : decode cX6_tell 22 = .ok (.iload_n 1, 1) := by decide +kernel
theorem dX6_tell_23 : decode cX6_tell 23 = .ok (.iaload, 1) := by decide +kernel
theorem dX6_tell_24 : decode cX6_tell 24 = .ok (.ireturn, 1) := by decide +kernel
theorem dX6_tell_25 : decode cX6_tell 25 = .ok (.iload_n 2, 1) := by decide +kernel
theorem dX6_tell_26 : decode cX6_tell 26 = .ok (.iconst 1, 1) := by decide +kernel
theorem dX6_tell_27 : decode cX6_tell 27 = .ok (.if_icmp .ne 9, 3) := by decide +kernel
theorem dX6_tell_30 : decode cX6_tell 30 = .ok (.aload_n 0, 1) := by decide +kernel
theorem dX6_tell_31 : decode cX6_tell 31 = .ok (.iload_n 1, 1) := by decide +kernel
theorem dX6_tell_32 : decode cX6_tell 32 = .ok (.invokevirtual 91, 3) := by decide +kernel
theorem dX6_tell_35 : decode cX6_tell 35 = .ok (.ireturn, 1) := by decide +kernel
theorem dX6_tell_36 : decode cX6_tell 36 = .ok (.iload_n 2, 1) := by decide +kernel
theorem dX6_tell_37 : decode cX6_tell 37 = .ok (.iconst 2, 1) := by decide +kernel
theorem dX6_tell_38 : decode cX6_tell 38 = .ok (.isub, 1) := by decide +kernel
theorem dX6_tell_39 : decode cX6_tell 39 = .ok (.aload_n 0, 1) := by decide +kernel
theorem dX6_tell_40 : decode cX6_tell 40 = .ok (.getfield 20, 3) := by decide +kernel
theorem dX6_tell_43 : decode cX6_tell 43 = .ok (.iload_n 1, 1) := by decide +kernel
theorem dX6_tell_44 : decode cX6_tell 44 = .ok (.iaload, 1) := by decide +kernel
theorem dX6_tell_45 : decode cX6_tell 45 = .ok (.if_icmp .ge 14, 3) := by decide +kernel
theorem dX6_tell_48 : decode cX6_tell 48 = .ok (.aload_n 0, 1) := by decide +kernel
theorem dX6_tell_49 : decode cX6_tell 49 = .ok (.iload_n 1, 1) := by decide +kernel
theorem dX6_tell_50 : decode cX6_tell 50 = .ok (.iload_n 2, 1) := by decide +kernel
theorem dX6_tell_51 : decode cX6_tell 51 = .ok (.iconst 2, 1) := by decide +kernel
theorem dX6_tell_52 : decode cX6_tell 52 = .ok (.isub, 1) := by decide +kernel
theorem dX6_tell_53 : decode cX6_tell 53 = .ok (.invokevirtual 87, 3) := by decide +kernel
theorem dX6_tell_56 : decode cX6_tell 56 = .ok (.goto 4, 3) := by decide +kernel
theorem dX6_tell_59 : decode cX6_tell 59 = .ok (.iconst (-1), 1) := by decide +kernel
theorem dX6_tell_60 : decode cX6_tell 60 = .ok (.ireturn, 1) := by decide +kernel
set_option maxRecDepth 20000 in
theorem ggX6_isLap_X6_letterOf : GoodIn wsX6_isLap wsX6_letterOf := goodIn_r _ [6, 7, 8, 9, 10, 11, 12, 13, 14, 15, 16, 17, 18, 19, 20, 21, 22, 23, 24, 25, 26, 27, 28, 29, 30, 31, 32, 33] (by decide +kernel) (by decide +kernel)
set_option maxRecDepth 20000 in
theorem gX6_isLap_X6_letterOf : GoodIn wsX6_isLap (wsV RX6 87 RX6 yX6_letterOf wsX6_letterOf) := goodIn_app (goodIn_of _ (by decide +kernel)) ggX6_isLap_X6_letterOf
theorem dX6_isLap_0 : decode cX6_isLap 0 = .ok (.iload_n 3, 1) := by decide +kernel
theorem dX6_isLap_1 : decode cX6_isLap 1 = .ok (.aload_n 0, 1) := by decide +kernel
theorem dX6_isLap_2 : decode cX6_isLap 2 = .ok (.getfield 20, 3) := by decide +kernel
theorem dX6_isLap_5 : decode cX6_isLap 5 = .ok (.iload_n 1, 1) := by decide +kernel
theorem dX6_isLap_6 : decode cX6_isLap 6 = .ok (.iaload, 1) := by decide +kernel
theorem dX6_isLap_7 : decode cX6_isLap 7 = .ok (.if_icmp .gt 17, 3) := by decide +kernel
theorem dX6_isLap_10 : decode cX6_isLap 10 = .ok (.iload_n 3, 1) := by decide +kernel
theorem dX6_isLap_11 : decode cX6_isLap 11 = .ok (.aload_n 0, 1) := by decide +kernel
theorem dX6_isLap_12 : decode cX6_isLap 12 = .ok (.getfield 20, 3) := by decide +kernel
theorem dX6_isLap_15 : decode cX6_isLap 15 = .ok (.iload_n 2, 1) := by decide +kernel
theorem dX6_isLap_16 : decode cX6_isLap 16 = .ok (.iaload, 1) := by decide +kernel
theorem dX6_isLap_17 : decode cX6_isLap 17 = .ok (.if_icmp .gt 7, 3) := by decide +kernel
theorem dX6_isLap_20 : decode cX6_isLap 20 = .ok (.iconst 1, 1) := by decide +kernel
theorem dX6_isLap_21 : decode cX6_isLap 21 = .ok (.goto 4, 3) := by decide +kernel
theorem dX6_isLap_24 : decode cX6_isLap 24 = .ok (.iconst 0, 1) := by decide +kernel
theorem dX6_isLap_25 : decode cX6_isLap 25 = .ok (.istore 4, 2) := by decide +kernel
theorem dX6_isLap_27 : decode cX6_isLap 27 = .ok (.iconst 0, 1) := by decide +kernel
theorem dX6_isLap_28 : decode cX6_isLap 28 = .ok (.istore 5, 2) := by decide +kernel
theorem dX6_isLap_30 : decode cX6_isLap 30 = .ok (.iload 5, 2) := by decide +kernel
theorem dX6_isLap_32 : decode cX6_isLap 32 = .ok (.iload_n 3, 1) := by decide +kernel
theorem dX6_isLap_33 : decode cX6_isLap 33 = .ok (.if_icmp .ge 47, 3) := by decide +kernel
theorem dX6_isLap_36 : decode cX6_isLap 36 = .ok (.iload 4, 2) := by decide +kernel
theorem dX6_isLap_38 : decode cX6_isLap 38 = .ok (.ifCond .eq 42, 3) := by decide +kernel
theorem dX6_isLap_41 : decode cX6_isLap 41 = .ok (.aload_n 0, 1) := by decide +kernel
theorem dX6_isLap_42 : decode cX6_isLap 42 = .ok (.iload_n 1, 1) := by decide +kernel
theorem dX6_isLap_43 : decode cX6_isLap 43 = .ok (.aload_n 0, 1) := by decide +kernel
theorem dX6_isLap_44 : decode cX6_isLap 44 = .ok (.getfield 20, 3) := by decide +kernel
theorem dX6_isLap_47 : decode cX6_isLap 47 = .ok (.iload_n 1, 1) := by decide +kernel
theorem dX6_isLap_48 : decode cX6_isLap 48 = .ok (.iaload, 1) := by decide +kernel
theorem dX6_isLap_49 : decode cX6_isLap 49 = .ok (.iload_n 3, 1) := by decide +kernel
theorem dX6_isLap_50 : decode cX6_isLap 50 = .ok (.isub, 1) := by decide +kernel
theorem dX6_isLap_51 : decode cX6_isLap 51 = .ok (.iload 5, 2) := by decide +kernel
theorem dX6_isLap_53 : decode cX6_isLap 53 = .ok (.iadd, 1) := by decide +kernel
theorem dX6_isLap_54 : decode cX6_isLap 54 = .ok (.invokevirtual 87, 3) := by decide +kernel
theorem dX6_isLap_57 : decode cX6_isLap 57 = .ok (.aload_n 0, 1) := by decide +kernel
theorem dX6_isLap_58 : decode cX6_isLap 58 = .ok (.iload_n 2, 1) := by decide +kernel
theorem dX6_isLap_59 : decode cX6_isLap 59 = .ok (.iload 5, 2) := by decide +kernel
theorem dX6_isLap_61 : decode cX6_isLap 61 = .ok (.invokevirtual 87, 3) := by decide +kernel
theorem dX6_isLap_64 : decode cX6_isLap 64 = .ok (.if_icmp .ne 7, 3) := by decide +kernel
theorem dX6_isLap_67 : decode cX6_isLap 67 = .ok (.iconst 1, 1) := by decide +kernel
theorem dX6_isLap_68 : decode cX6_isLap 68 = .ok (.goto 4, 3) := by decide +kernel
theorem dX6_isLap_71 : decode cX6_isLap 71 = .ok (.iconst 0, 1) := by decide +kernel
theorem dX6_isLap_72 : decode cX6_isLap 72 = .ok (.istore 4, 2) := by decide +kernel
theorem dX6_isLap_74 : decode cX6_isLap 74 = .ok (.iinc 5 1, 3) := by decide +kernel
theorem dX6_isLap_77 : decode cX6_isLap 77 = .ok (.goto (-47), 3) := by decide +kernel
theorem dX6_isLap_80 : decode cX6_isLap 80 = .ok (.iload 4, 2) := by decide +kernel
theorem dX6_isLap_82 : decode cX6_isLap 82 = .ok (.ireturn, 1) := by decide +kernel
set_option maxRecDepth 20000 in
theorem ggX6_laps_X6_isWord : GoodIn wsX6_laps wsX6_isWord := goodIn_r _ [5, 6, 7, 8, 4, 9, 19, 20, 21, 22, 23, 24, 25, 26, 27, 28, 29, 30, 31, 32, 33, 34, 35, 36, 37, 38, 39, 40, 41, 42, 43, 44] (by decide +kernel) (by decide +kernel)
set_option maxRecDepth 20000 in
theorem gX6_laps_X6_isWord : GoodIn wsX6_laps (wsV RX6 83 RX6 yX6_isWord wsX6_isWord) := goodIn_app (goodIn_of _ (by decide +kernel)) ggX6_laps_X6_isWord
set_option maxRecDepth 20000 in
theorem ggX6_laps_X6_isLap : GoodIn wsX6_laps wsX6_isLap := goodIn_r _ [13, 6, 14, 15, 16, 4, 17, 18, 19, 20, 21, 22, 23, 24, 25, 26, 27, 28, 29, 30, 31, 32, 33, 34, 35, 36, 37, 38, 39, 40, 41, 42, 43, 44] (by decide +kernel) (by decide +kernel)
set_option maxRecDepth 20000 in
theorem gX6_laps_X6_isLap : GoodIn wsX6_laps (wsV RX6 95 RX6 yX6_isLap wsX6_isLap) := goodIn_app (goodIn_of _ (by decide +kernel)) ggX6_laps_X6_isLap
theorem dX6_laps_0 : decode cX6_laps 0 = .ok (.aload_n 0, 1) := by decide +kernel
theorem dX6_laps_1 : decode cX6_laps 1 = .ok (.iload_n 1, 1) := by decide +kernel
theorem dX6_laps_2 : decode cX6_laps 2 = .ok (.invokevirtual 83, 3) := by decide +kernel
theorem dX6_laps_5 : decode cX6_laps 5 = .ok (.ifCond .eq 11, 3) := by decide +kernel
theorem dX6_laps_8 : decode cX6_laps 8 = .ok (.aload_n 0, 1) := by decide +kernel
theorem dX6_laps_9 : decode cX6_laps 9 = .ok (.iload_n 2, 1) := by decide +kernel
theorem dX6_laps_10 : decode cX6_laps 10 = .ok (.invokevirtual 83, 3) := by decide +kernel
theorem dX6_laps_13 : decode cX6_laps 13 = .ok (.ifCond .ne 5, 3) := by decide +kernel
theorem dX6_laps_16 : decode cX6_laps 16 = .ok (.iconst (-1), 1) := by decide +kernel
theorem dX6_laps_17 : decode cX6_laps 17 = .ok (.ireturn, 1) := by decide +kernel
theorem dX6_laps_18 : decode cX6_laps 18 = .ok (.iconst 0, 1) := by decide +kernel
theorem dX6_laps_19 : decode cX6_laps 19 = .ok (.istore_n 3, 1) := by decide +kernel
theorem dX6_laps_20 : decode cX6_laps 20 = .ok (.iconst 1, 1) := by decide +kernel
theorem dX6_laps_21 : decode cX6_laps 21 = .ok (.istore 4, 2) := by decide +kernel
theorem dX6_laps_23 : decode cX6_laps 23 = .ok (.iload 4, 2) := by decide +kernel
theorem dX6_laps_25 : decode cX6_laps 25 = .ok (.iconst 5, 1) := by decide +kernel
theorem dX6_laps_26 : decode cX6_laps 26 = .ok (.if_icmp .gt 33, 3) := by decide +kernel
theorem dX6_laps_29 : decode cX6_laps 29 = .ok (.iload_n 3, 1) := by decide +kernel
theorem dX6_laps_30 : decode cX6_laps 30 = .ok (.aload_n 0, 1) := by decide +kernel
theorem dX6_laps_31 : decode cX6_laps 31 = .ok (.iload_n 1, 1) := by decide +kernel
theorem dX6_laps_32 : decode cX6_laps 32 = .ok (.iload_n 2, 1) := by decide +kernel
theorem dX6_laps_33 : decode cX6_laps 33 = .ok (.iload 4, 2) := by decide +kernel
theorem dX6_laps_35 : decode cX6_laps 35 = .ok (.invokevirtual 95, 3) := by decide +kernel
theorem dX6_laps_38 : decode cX6_laps 38 = .ok (.ifCond .eq 12, 3) := by decide +kernel
theorem dX6_laps_41 : decode cX6_laps 41 = .ok (.iconst 1, 1) := by decide +kernel
theorem dX6_laps_42 : decode cX6_laps 42 = .ok (.iload 4, 2) := by decide +kernel
theorem dX6_laps_44 : decode cX6_laps 44 = .ok (.iconst 1, 1) := by decide +kernel
theorem dX6_laps_45 : decode cX6_laps 45 = .ok (.isub, 1) := by decide +kernel
theorem dX6_laps_46 : decode cX6_laps 46 = .ok (.ishl, 1) := by decide +kernel
theorem dX6_laps_47 : decode cX6_laps 47 = .ok (.goto 4, 3) := by decide +kernel
theorem dX6_laps_50 : decode cX6_laps 50 = .ok (.iconst 0, 1) := by decide +kernel
theorem dX6_laps_51 : decode cX6_laps 51 = .ok (.ior, 1) := by decide +kernel
theorem dX6_laps_52 : decode cX6_laps 52 = .ok (.istore_n 3, 1) := by decide +kernel
theorem dX6_laps_53 : decode cX6_laps 53 = .ok (.iinc 4 1, 3) := by decide +kernel
theorem dX6_laps_56 : decode cX6_laps 56 = .ok (.goto (-33), 3) := by decide +kernel
theorem dX6_laps_59 : decode cX6_laps 59 = .ok (.iload_n 3, 1) := by decide +kernel
theorem dX6_laps_60 : decode cX6_laps 60 = .ok (.ireturn, 1) := by decide +kernel
set_option maxRecDepth 20000 in
theorem ggX6_lies_X6_letterOf : GoodIn wsX6_lies wsX6_letterOf := goodIn_r _ [6, 7, 8, 9, 10, 11, 12, 13, 14, 15, 16, 17, 18, 19, 20, 21, 22, 23, 24, 25, 26, 27, 28, 29, 30, 31, 32, 33] (by decide +kernel) (by decide +kernel)
set_option maxRecDepth 20000 in
theorem gX6_lies_X6_letterOf : GoodIn wsX6_lies (wsV RX6 87 RX6 yX6_letterOf wsX6_letterOf) := goodIn_app (goodIn_of _ (by decide +kernel)) ggX6_lies_X6_letterOf
theorem dX6_lies_0 : decode cX6_lies 0 = .ok (.iconst 0, 1) := by decide +kernel
theorem dX6_lies_1 : decode cX6_lies 1 = .ok (.istore_n 3, 1) := by decide +kernel
theorem dX6_lies_2 : decode cX6_lies 2 = .ok (.iconst 0, 1) := by decide +kernel
theorem dX6_lies_3 : decode cX6_lies 3 = .ok (.istore 4, 2) := by decide +kernel
theorem dX6_lies_5 : decode cX6_lies 5 = .ok (.iload 4, 2) := by decide +kernel
theorem dX6_lies_7 : decode cX6_lies 7 = .ok (.aload_n 0, 1) := by decide +kernel
theorem dX6_lies_8 : decode cX6_lies 8 = .ok (.getfield 20, 3) := by decide +kernel
theorem dX6_lies_11 : decode cX6_lies 11 = .ok (.iload_n 1, 1) := by decide +kernel
theorem dX6_lies_12 : decode cX6_lies 12 = .ok (.iaload, 1) := by decide +kernel
theorem dX6_lies_13 : decode cX6_lies 13 = .ok (.iadd, 1) := by decide +kernel
theorem dX6_lies_14 : decode cX6_lies 14 = .ok (.aload_n 0, 1) := by decide +kernel
theorem dX6_lies_15 : decode cX6_lies 15 = .ok (.getfield 20, 3) := by decide +kernel
theorem dX6_lies_18 : decode cX6_lies 18 = .ok (.iload_n 2, 1) := by decide +kernel
theorem dX6_lies_19 : decode cX6_lies 19 = .ok (.iaload, 1) := by decide +kernel
theorem dX6_lies_20 : decode cX6_lies 20 = .ok (.if_icmp .gt 79, 3) := by decide +kernel
theorem dX6_lies_23 : decode cX6_lies 23 = .ok (.iconst 1, 1) := by decide +kernel
theorem dX6_lies_24 : decode cX6_lies 24 = .ok (.istore 5, 2) := by decide +kernel
theorem dX6_lies_26 : decode cX6_lies 26 = .ok (.iconst 0, 1) := by decide +kernel
theorem dX6_lies_27 : decode cX6_lies 27 = .ok (.istore 6, 2) := by decide +kernel
theorem dX6_lies_29 : decode cX6_lies 29 = .ok (.iload 6, 2) := by decide +kernel
theorem dX6_lies_31 : decode cX6_lies 31 = .ok (.aload_n 0, 1) := by decide +kernel
theorem dX6_lies_32 : decode cX6_lies 32 = .ok (.getfield 20, 3) := by decide +kernel
theorem dX6_lies_35 : decode cX6_lies 35 = .ok (.iload_n 1, 1) := by decide +kernel
theorem dX6_lies_36 : decode cX6_lies 36 = .ok (.iaload, 1) := by decide +kernel
theorem dX6_lies_37 : decode cX6_lies 37 = .ok (.if_icmp .ge 41, 3) := by decide +kernel
theorem dX6_lies_40 : decode cX6_lies 40 = .ok (.iload 5, 2) := by decide +kernel
theorem dX6_lies_42 : decode cX6_lies 42 = .ok (.ifCond .eq 27, 3) := by decide +kernel
theorem dX6_lies_45 : decode cX6_lies 45 = .ok (.aload_n 0, 1) := by decide +kernel
theorem dX6_lies_46 : decode cX6_lies 46 = .ok (.iload_n 1, 1) := by decide +kernel
theorem dX6_lies_47 : decode cX6_lies 47 = .ok (.iload 6, 2) := by decide +kernel
theorem dX6_lies_49 : decode cX6_lies 49 = .ok (.invokevirtual 87, 3) := by decide +kernel
theorem dX6_lies_52 : decode cX6_lies 52 = .ok (.aload_n 0, 1) := by decide +kernel
theorem dX6_lies_53 : decode cX6_lies 53 = .ok (.iload_n 2, 1) := by decide +kernel
theorem dX6_lies_54 : decode cX6_lies 54 = .ok (.iload 4, 2) := by decide +kernel
theorem dX6_lies_56 : decode cX6_lies 56 = .ok (.iload 6, 2) := by decide +kernel
theorem dX6_lies_58 : decode cX6_lies 58 = .ok (.iadd, 1) := by decide +kernel
theorem dX6_lies_59 : decode cX6_lies 59 = .ok (.invokevirtual 87, 3) := by decide +kernel
theorem dX6_lies_62 : decode cX6_lies 62 = .ok (.if_icmp .ne 7, 3) := by decide +kernel
theorem dX6_lies_65 : decode cX6_lies 65 = .ok (.iconst 1, 1) := by decide +kernel
theorem dX6_lies_66 : decode cX6_lies 66 = .ok (.goto 4, 3) := by decide +kernel
theorem dX6_lies_69 : decode cX6_lies 69 = .ok (.iconst 0, 1) := by decide +kernel
theorem dX6_lies_70 : decode cX6_lies 70 = .ok (.istore 5, 2) := by decide +kernel
theorem dX6_lies_72 : decode cX6_lies 72 = .ok (.iinc 6 1, 3) := by decide +kernel
theorem dX6_lies_75 : decode cX6_lies 75 = .ok (.goto (-46), 3) := by decide +kernel
theorem dX6_lies_78 : decode cX6_lies 78 = .ok (.iload_n 3, 1) := by decide +kernel
theorem dX6_lies_79 : decode cX6_lies 79 = .ok (.ifCond .ne 8, 3) := by decide +kernel
theorem dX6_lies_82 : decode cX6_lies 82 = .ok (.iload 5, 2) := by decide +kernel
theorem dX6_lies_84 : decode cX6_lies 84 = .ok (.ifCond .eq 7, 3) := by decide +kernel
theorem dX6_lies_87 : decode cX6_lies 87 = .ok (.iconst 1, 1) := by decide +kernel
theorem dX6_lies_88 : decode cX6_lies 88 = .ok (.goto 4, 3) := by decide +kernel
theorem dX6_lies_91 : decode cX6_lies 91 = .ok (.iconst 0, 1) := by decide +kernel
theorem dX6_lies_92 : decode cX6_lies 92 = .ok (.istore_n 3, 1) := by decide +kernel
theorem dX6_lies_93 : decode cX6_lies 93 = .ok (.iinc 4 1, 3) := by decide +kernel
theorem dX6_lies_96 : decode cX6_lies 96 = .ok (.goto (-91), 3) := by decide +kernel
theorem dX6_lies_99 : decode cX6_lies 99 = .ok (.iload_n 3, 1) := by decide +kernel
theorem dX6_lies_100 : decode cX6_lies 100 = .ok (.ireturn, 1) := by decide +kernel
set_option maxRecDepth 20000 in
theorem ggX6_within_X6_isWord : GoodIn wsX6_within wsX6_isWord := goodIn_r _ [5, 6, 7, 8, 4, 9, 19, 20, 21, 22, 23, 24, 25, 26, 27, 28, 29, 30, 31, 32, 33, 34, 35, 36, 37, 38, 39, 40, 41, 42, 43, 44] (by decide +kernel) (by decide +kernel)
set_option maxRecDepth 20000 in
theorem gX6_within_X6_isWord : GoodIn wsX6_within (wsV RX6 83 RX6 yX6_isWord wsX6_isWord) := goodIn_app (goodIn_of _ (by decide +kernel)) ggX6_within_X6_isWord
set_option maxRecDepth 20000 in
theorem ggX6_within_X6_lies : GoodIn wsX6_within wsX6_lies := goodIn_r _ [13, 6, 14, 15, 16, 4, 17, 18, 19, 20, 21, 22, 23, 24, 25, 26, 27, 28, 29, 30, 31, 32, 33, 34, 35, 36, 37, 38, 39, 40, 41, 42, 43, 44] (by decide +kernel) (by decide +kernel)
set_option maxRecDepth 20000 in
theorem gX6_within_X6_lies : GoodIn wsX6_within (wsV RX6 99 RX6 yX6_lies wsX6_lies) := goodIn_app (goodIn_of _ (by decide +kernel)) ggX6_within_X6_lies
theorem dX6_within_0 : decode cX6_within 0 = .ok (.aload_n 0, 1) := by decide +kernel
theorem dX6_within_1 : decode cX6_within 1 = .ok (.iload_n 1, 1) := by decide +kernel
theorem dX6_within_2 : decode cX6_within 2 = .ok (.invokevirtual 83, 3) := by decide +kernel
theorem dX6_within_5 : decode cX6_within 5 = .ok (.ifCond .eq 24, 3) := by decide +kernel
theorem dX6_within_8 : decode cX6_within 8 = .ok (.aload_n 0, 1) := by decide +kernel
theorem dX6_within_9 : decode cX6_within 9 = .ok (.iload_n 2, 1) := by decide +kernel
theorem dX6_within_10 : decode cX6_within 10 = .ok (.invokevirtual 83, 3) := by decide +kernel
theorem dX6_within_13 : decode cX6_within 13 = .ok (.ifCond .eq 16, 3) := by decide +kernel
theorem dX6_within_16 : decode cX6_within 16 = .ok (.aload_n 0, 1) := by decide +kernel
theorem dX6_within_17 : decode cX6_within 17 = .ok (.iload_n 1, 1) := by decide +kernel
theorem dX6_within_18 : decode cX6_within 18 = .ok (.iload_n 2, 1) := by decide +kernel
theorem dX6_within_19 : decode cX6_within 19 = .ok (.invokevirtual 99, 3) := by decide +kernel
theorem dX6_within_22 : decode cX6_within 22 = .ok (.ifCond .eq 7, 3) := by decide +kernel
theorem dX6_within_25 : decode cX6_within 25 = .ok (.iconst 1, 1) := by decide +kernel
theorem dX6_within_26 : decode cX6_within 26 = .ok (.goto 4, 3) := by decide +kernel
theorem dX6_within_29 : decode cX6_within 29 = .ok (.iconst 0, 1) := by decide +kernel
theorem dX6_within_30 : decode cX6_within 30 = .ok (.ireturn, 1) := by decide +kernel
theorem dX6_common_0 : decode cX6_common 0 = .ok (.lload_n 0, 1) := by decide +kernel
theorem dX6_common_1 : decode cX6_common 1 = .ok (.lconst 0, 1) := by decide +kernel
theorem dX6_common_2 : decode cX6_common 2 = .ok (.lcmp, 1) := by decide +kernel
theorem dX6_common_3 : decode cX6_common 3 = .ok (.ifCond .ge 8, 3) := by decide +kernel
theorem dX6_common_6 : decode cX6_common 6 = .ok (.lload_n 0, 1) := by decide +kernel
theorem dX6_common_7 : decode cX6_common 7 = .ok (.lneg, 1) := by decide +kernel
theorem dX6_common_8 : decode cX6_common 8 = .ok (.goto 4, 3) := by decide +kernel
theorem dX6_common_11 : decode cX6_common 11 = .ok (.lload_n 0, 1) := by decide +kernel
theorem dX6_common_12 : decode cX6_common 12 = .ok (.lstore 4, 2) := by decide +kernel
theorem dX6_common_14 : decode cX6_common 14 = .ok (.lload_n 2, 1) := by decide +kernel
theorem dX6_common_15 : decode cX6_common 15 = .ok (.lstore 6, 2) := by decide +kernel
theorem dX6_common_17 : decode cX6_common 17 = .ok (.lload 4, 2) := by decide +kernel
theorem dX6_common_19 : decode cX6_common 19 = .ok (.lconst 0, 1) := by decide +kernel
theorem dX6_common_20 : decode cX6_common 20 = .ok (.lcmp, 1) := by decide +kernel
theorem dX6_common_21 : decode cX6_common 21 = .ok (.ifCond .eq 21, 3) := by decide +kernel
theorem dX6_common_24 : decode cX6_common 24 = .ok (.lload 6, 2) := by decide +kernel
theorem dX6_common_26 : decode cX6_common 26 = .ok (.lload 4, 2) := by decide +kernel
theorem dX6_common_28 : decode cX6_common 28 = .ok (.lrem, 1) := by decide +kernel
theorem dX6_common_29 : decode cX6_common 29 = .ok (.lstore 8, 2) := by decide +kernel
theorem dX6_common_31 : decode cX6_common 31 = .ok (.lload 4, 2) := by decide +kernel
theorem dX6_common_33 : decode cX6_common 33 = .ok (.lstore 6, 2) := by decide +kernel
theorem dX6_common_35 : decode cX6_common 35 = .ok (.lload 8, 2) := by decide +kernel
theorem dX6_common_37 : decode cX6_common 37 = .ok (.lstore 4, 2) := by decide +kernel
theorem dX6_common_39 : decode cX6_common 39 = .ok (.goto (-22), 3) := by decide +kernel
theorem dX6_common_42 : decode cX6_common 42 = .ok (.lload 6, 2) := by decide +kernel
theorem dX6_common_44 : decode cX6_common 44 = .ok (.lreturn, 1) := by decide +kernel
set_option maxRecDepth 20000 in
theorem ggX6_set_X6_common : GoodIn wsX6_set wsX6_common := goodIn_r _ [6] (by decide +kernel) (by decide +kernel)
set_option maxRecDepth 20000 in
theorem gX6_set_X6_common : GoodIn wsX6_set (va_wsS RX6 102 yX6_common wsX6_common) := goodIn_app (goodIn_of _ (by decide +kernel)) ggX6_set_X6_common
theorem dX6_set_0 : decode cX6_set 0 = .ok (.lload_n 1, 1) := by decide +kernel
theorem dX6_set_1 : decode cX6_set 1 = .ok (.lload_n 3, 1) := by decide +kernel
theorem dX6_set_2 : decode cX6_set 2 = .ok (.invokestatic 102, 3) := by decide +kernel
theorem dX6_set_5 : decode cX6_set 5 = .ok (.lstore 5, 2) := by decide +kernel
theorem dX6_set_7 : decode cX6_set 7 = .ok (.aload_n 0, 1) := by decide +kernel
theorem dX6_set_8 : decode cX6_set 8 = .ok (.lload_n 1, 1) := by decide +kernel
theorem dX6_set_9 : decode cX6_set 9 = .ok (.lload 5, 2) := by decide +kernel
theorem dX6_set_11 : decode cX6_set 11 = .ok (.ldiv, 1) := by decide +kernel
theorem dX6_set_12 : decode cX6_set 12 = .ok (.putfield 106, 3) := by decide +kernel
theorem dX6_set_15 : decode cX6_set 15 = .ok (.aload_n 0, 1) := by decide +kernel
theorem dX6_set_16 : decode cX6_set 16 = .ok (.lload_n 3, 1) := by decide +kernel
theorem dX6_set_17 : decode cX6_set 17 = .ok (.lload 5, 2) := by decide +kernel
theorem dX6_set_19 : decode cX6_set 19 = .ok (.ldiv, 1) := by decide +kernel
theorem dX6_set_20 : decode cX6_set 20 = .ok (.putfield 109, 3) := by decide +kernel
theorem dX6_set_23 : decode cX6_set 23 = .ok (.return_, 1) := by decide +kernel
set_option maxRecDepth 20000 in
theorem ggX6_add_X6_common : GoodIn wsX6_add wsX6_common := goodIn_r _ [4] (by decide +kernel) (by decide +kernel)
set_option maxRecDepth 20000 in
theorem gX6_add_X6_common : GoodIn wsX6_add (va_wsS RX6 102 yX6_common wsX6_common) := goodIn_app (goodIn_of _ (by decide +kernel)) ggX6_add_X6_common
set_option maxRecDepth 20000 in
theorem ggX6_add_X6_set : GoodIn wsX6_add wsX6_set := goodIn_r _ [8, 9, 10, 1, 2, 3, 4, 11, 12, 13, 14, 15, 16, 17, 18, 19, 20, 21, 22, 23, 24, 25, 26, 27, 28, 29, 30, 31, 32, 33, 34, 35, 36] (by decide +kernel) (by decide +kernel)
set_option maxRecDepth 20000 in
theorem gX6_add_X6_set : GoodIn wsX6_add (wsV RX6 112 RX6 yX6_set wsX6_set) := goodIn_app (goodIn_of _ (by decide +kernel)) ggX6_add_X6_set
theorem dX6_add_0 : decode cX6_add 0 = .ok (.lload_n 3, 1) := by decide +kernel
theorem dX6_add_1 : decode cX6_add 1 = .ok (.lload 7, 2) := by decide +kernel
theorem dX6_add_3 : decode cX6_add 3 = .ok (.invokestatic 102, 3) := by decide +kernel
theorem dX6_add_6 : decode cX6_add 6 = .ok (.lstore 9, 2) := by decide +kernel
theorem dX6_add_8 : decode cX6_add 8 = .ok (.aload_n 0, 1) := by decide +kernel
theorem dX6_add_9 : decode cX6_add 9 = .ok (.lload_n 1, 1) := by decide +kernel
theorem dX6_add_10 : decode cX6_add 10 = .ok (.lload 7, 2) := by decide +kernel
theorem dX6_add_12 : decode cX6_add 12 = .ok (.lload 9, 2) := by decide +kernel
theorem dX6_add_14 : decode cX6_add 14 = .ok (.ldiv, 1) := by decide +kernel
theorem dX6_add_15 : decode cX6_add 15 = .ok (.lmul, 1) := by decide +kernel
theorem dX6_add_16 : decode cX6_add 16 = .ok (.lload 5, 2) := by decide +kernel
theorem dX6_add_18 : decode cX6_add 18 = .ok (.lload_n 3, 1) := by decide +kernel
theorem dX6_add_19 : decode cX6_add 19 = .ok (.lload 9, 2) := by decide +kernel
theorem dX6_add_21 : decode cX6_add 21 = .ok (.ldiv, 1) := by decide +kernel
theorem dX6_add_22 : decode cX6_add 22 = .ok (.lmul, 1) := by decide +kernel
theorem dX6_add_23 : decode cX6_add 23 = .ok (.ladd, 1) := by decide +kernel
theorem dX6_add_24 : decode cX6_add 24 = .ok (.lload_n 3, 1) := by decide +kernel
theorem dX6_add_25 : decode cX6_add 25 = .ok (.lload 9, 2) := by decide +kernel
theorem dX6_add_27 : decode cX6_add 27 = .ok (.ldiv, 1) := by decide +kernel
theorem dX6_add_28 : decode cX6_add 28 = .ok (.lload 7, 2) := by decide +kernel
theorem dX6_add_30 : decode cX6_add 30 = .ok (.lmul, 1) := by decide +kernel
theorem dX6_add_31 : decode cX6_add 31 = .ok (.invokevirtual 112, 3) := by decide +kernel
theorem dX6_add_34 : decode cX6_add 34 = .ok (.return_, 1) := by decide +kernel
set_option maxRecDepth 20000 in
theorem ggX6_times_X6_common : GoodIn wsX6_times wsX6_common := goodIn_r _ [4] (by decide +kernel) (by decide +kernel)
set_option maxRecDepth 20000 in
theorem gX6_times_X6_common : GoodIn wsX6_times (va_wsS RX6 102 yX6_common wsX6_common) := goodIn_app (goodIn_of _ (by decide +kernel)) ggX6_times_X6_common
set_option maxRecDepth 20000 in
theorem ggX6_times_X6_set : GoodIn wsX6_times wsX6_set := goodIn_r _ [8, 9, 10, 1, 2, 3, 4, 11, 12, 13, 14, 15, 16, 17, 18, 19, 20, 21, 22, 23, 24, 25, 26, 27, 28, 29, 30, 31, 32, 33, 34, 35, 36] (by decide +kernel) (by decide +kernel)
set_option maxRecDepth 20000 in
theorem gX6_times_X6_set : GoodIn wsX6_times (wsV RX6 112 RX6 yX6_set wsX6_set) := goodIn_app (goodIn_of _ (by decide +kernel)) ggX6_times_X6_set
theorem dX6_times_0 : decode cX6_times 0 = .ok (.lload_n 1, 1) := by decide +kernel
theorem dX6_times_1 : decode cX6_times 1 = .ok (.lload 7, 2) := by decide +kernel
theorem dX6_times_3 : decode cX6_times 3 = .ok (.invokestatic 102, 3) := by decide +kernel
theorem dX6_times_6 : decode cX6_times 6 = .ok (.lstore 9, 2) := by decide +kernel
theorem dX6_times_8 : decode cX6_times 8 = .ok (.lload 5, 2) := by decide +kernel
theorem dX6_times_10 : decode cX6_times 10 = .ok (.lload_n 3, 1) := by decide +kernel
theorem dX6_times_11 : decode cX6_times 11 = .ok (.invokestatic 102, 3) := by decide +kernel
theorem dX6_times_14 : decode cX6_times 14 = .ok (.lstore 11, 2) := by decide +kernel
theorem dX6_times_16 : decode cX6_times 16 = .ok (.aload_n 0, 1) := by decide +kernel
theorem dX6_times_17 : decode cX6_times 17 = .ok (.lload_n 1, 1) := by decide +kernel
theorem dX6_times_18 : decode cX6_times 18 = .ok (.lload 9, 2) := by decide +kernel
theorem dX6_times_20 : decode cX6_times 20 = .ok (.ldiv, 1) := by decide +kernel
theorem dX6_times_21 : decode cX6_times 21 = .ok (.lload 5, 2) := by decide +kernel
theorem dX6_times_23 : decode cX6_times 23 = .ok (.lload 11, 2) := by decide +kernel
theorem dX6_times_25 : decode cX6_times 25 = .ok (.ldiv, 1) := by decide +kernel
theorem dX6_times_26 : decode cX6_times 26 = .ok (.lmul, 1) := by decide +kernel
theorem dX6_times_27 : decode cX6_times 27 = .ok (.lload_n 3, 1) := by decide +kernel
theorem dX6_times_28 : decode cX6_times 28 = .ok (.lload 11, 2) := by decide +kernel
theorem dX6_times_30 : decode cX6_times 30 = .ok (.ldiv, 1) := by decide +kernel
theorem dX6_times_31 : decode cX6_times 31 = .ok (.lload 7, 2) := by decide +kernel
theorem dX6_times_33 : decode cX6_times 33 = .ok (.lload 9, 2) := by decide +kernel
theorem dX6_times_35 : decode cX6_times 35 = .ok (.ldiv, 1) := by decide +kernel
theorem dX6_times_36 : decode cX6_times 36 = .ok (.lmul, 1) := by decide +kernel
theorem dX6_times_37 : decode cX6_times 37 = .ok (.invokevirtual 112, 3) := by decide +kernel
theorem dX6_times_40 : decode cX6_times 40 = .ok (.return_, 1) := by decide +kernel
set_option maxRecDepth 20000 in
theorem ggX6_atHand_X6_set : GoodIn wsX6_atHand wsX6_set := goodIn_r _ [9, 1, 3, 10, 11, 8, 12, 13, 14, 15, 16, 17, 18, 19, 20, 21, 22, 23, 24, 25, 26, 27, 28, 29, 30, 31, 32, 33, 34, 35, 36, 37, 38] (by decide +kernel) (by decide +kernel)
set_option maxRecDepth 20000 in
theorem gX6_atHand_X6_set : GoodIn wsX6_atHand (wsV RX6 112 RX6 yX6_set wsX6_set) := goodIn_app (goodIn_of _ (by decide +kernel)) ggX6_atHand_X6_set
theorem dX6_atHand_0 : decode cX6_atHand 0 = .ok (.aload_n 0, 1) := by decide +kernel
theorem dX6_atHand_1 : decode cX6_atHand 1 = .ok (.lload_n 1, 1) := by decide +kernel
theorem dX6_atHand_2 : decode cX6_atHand 2 = .ok (.lload_n 3, 1) := by decide +kernel
theorem dX6_atHand_3 : decode cX6_atHand 3 = .ok (.invokevirtual 112, 3) := by decide +kernel
theorem dX6_atHand_6 : decode cX6_atHand 6 = .ok (.aload_n 0, 1) := by decide +kernel
theorem dX6_atHand_7 : decode cX6_atHand 7 = .ok (.aload_n 0, 1) := by decide +kernel
theorem dX6_atHand_8 : decode cX6_atHand 8 = .ok (.getfield 106, 3) := by decide +kernel
theorem dX6_atHand_11 : decode cX6_atHand 11 = .ok (.putfield 116, 3) := by decide +kernel
theorem dX6_atHand_14 : decode cX6_atHand 14 = .ok (.aload_n 0, 1) := by decide +kernel
theorem dX6_atHand_15 : decode cX6_atHand 15 = .ok (.aload_n 0, 1) := by decide +kernel
theorem dX6_atHand_16 : decode cX6_atHand 16 = .ok (.getfield 109, 3) := by decide +kernel
theorem dX6_atHand_19 : decode cX6_atHand 19 = .ok (.putfield 29, 3) := by decide +kernel
theorem dX6_atHand_22 : decode cX6_atHand 22 = .ok (.return_, 1) := by decide +kernel
theorem dX6_top_0 : decode cX6_top 0 = .ok (.aload_n 0, 1) := by decide +kernel
theorem dX6_top_1 : decode cX6_top 1 = .ok (.getfield 116, 3) := by decide +kernel
theorem dX6_top_4 : decode cX6_top 4 = .ok (.lreturn, 1) := by decide +kernel
theorem dX6_bottom_0 : decode cX6_bottom 0 = .ok (.aload_n 0, 1) := by decide +kernel
theorem dX6_bottom_1 : decode cX6_bottom 1 = .ok (.getfield 29, 3) := by decide +kernel
theorem dX6_bottom_4 : decode cX6_bottom 4 = .ok (.lreturn, 1) := by decide +kernel
set_option maxRecDepth 20000 in
theorem ggX6_over_X6_letterOf : GoodIn wsX6_over wsX6_letterOf := goodIn_r _ [7, 8, 18, 19, 20, 21, 22, 23, 24, 25, 26, 27, 28, 29, 30, 31, 32, 33, 34, 35, 36, 37, 38, 39, 40, 41, 42, 43] (by decide +kernel) (by decide +kernel)
set_option maxRecDepth 20000 in
theorem gX6_over_X6_letterOf : GoodIn wsX6_over (wsV RX6 87 RX6 yX6_letterOf wsX6_letterOf) := goodIn_app (goodIn_of _ (by decide +kernel)) ggX6_over_X6_letterOf
set_option maxRecDepth 20000 in
theorem ggX6_over_X6_set : GoodIn wsX6_over wsX6_set := goodIn_r _ [12, 13, 14, 15, 16, 6, 17, 18, 19, 20, 21, 22, 23, 24, 25, 26, 27, 28, 29, 30, 31, 32, 33, 34, 35, 36, 37, 38, 39, 40, 41, 42, 43] (by decide +kernel) (by decide +kernel)
set_option maxRecDepth 20000 in
theorem gX6_over_X6_set : GoodIn wsX6_over (wsV RX6 112 RX6 yX6_set wsX6_set) := goodIn_app (goodIn_of _ (by decide +kernel)) ggX6_over_X6_set
theorem dX6_over_0 : decode cX6_over 0 = .ok (.lconst 1, 1) := by decide +kernel
theorem dX6_over_1 : decode cX6_over 1 = .ok (.lstore_n 3, 1) := by decide +kernel
theorem dX6_over_2 : decode cX6_over 2 = .ok (.lconst 1, 1) := by decide +kernel
theorem dX6_over_3 : decode cX6_over 3 = .ok (.lstore 5, 2) := by decide +kernel
theorem dX6_over_5 : decode cX6_over 5 = .ok (.iconst 0, 1) := by decide +kernel
theorem dX6_over_6 : decode cX6_over 6 = .ok (.istore 7, 2) := by decide +kernel
theorem dX6_over_8 : decode cX6_over 8 = .ok (.iload 7, 2) := by decide +kernel
theorem dX6_over_10 : decode cX6_over 10 = .ok (.iload_n 2, 1) := by decide +kernel
theorem dX6_over_11 : decode cX6_over 11 = .ok (.if_icmp .ge 35, 3) := by decide +kernel
theorem dX6_over_14 : decode cX6_over 14 = .ok (.lload_n 3, 1) := by decide +kernel
theorem dX6_over_15 : decode cX6_over 15 = .ok (.aload_n 0, 1) := by decide +kernel
theorem dX6_over_16 : decode cX6_over 16 = .ok (.getfield 13, 3) := by decide +kernel
theorem dX6_over_19 : decode cX6_over 19 = .ok (.i2l, 1) := by decide +kernel
theorem dX6_over_20 : decode cX6_over 20 = .ok (.lmul, 1) := by decide +kernel
theorem dX6_over_21 : decode cX6_over 21 = .ok (.lstore_n 3, 1) := by decide +kernel
theorem dX6_over_22 : decode cX6_over 22 = .ok (.lload 5, 2) := by decide +kernel
theorem dX6_over_24 : decode cX6_over 24 = .ok (.aload_n 0, 1) := by decide +kernel
theorem dX6_over_25 : decode cX6_over 25 = .ok (.getfield 16, 3) := by decide +kernel
theorem dX6_over_28 : decode cX6_over 28 = .ok (.aload_n 0, 1) := by decide +kernel
theorem dX6_over_29 : decode cX6_over 29 = .ok (.iload_n 1, 1) := by decide +kernel
theorem dX6_over_30 : decode cX6_over 30 = .ok (.iload 7, 2) := by decide +kernel
theorem dX6_over_32 : decode cX6_over 32 = .ok (.invokevirtual 87, 3) := by decide +kernel
theorem dX6_over_35 : decode cX6_over 35 = .ok (.iaload, 1) := by decide +kernel
theorem dX6_over_36 : decode cX6_over 36 = .ok (.i2l, 1) := by decide +kernel
theorem dX6_over_37 : decode cX6_over 37 = .ok (.lmul, 1) := by decide +kernel
theorem dX6_over_38 : decode cX6_over 38 = .ok (.lstore 5, 2) := by decide +kernel
theorem dX6_over_40 : decode cX6_over 40 = .ok (.iinc 7 1, 3) := by decide +kernel
theorem dX6_over_43 : decode cX6_over 43 = .ok (.goto (-35), 3) := by decide +kernel
theorem dX6_over_46 : decode cX6_over 46 = .ok (.aload_n 0, 1) := by decide +kernel
theorem dX6_over_47 : decode cX6_over 47 = .ok (.lload_n 3, 1) := by decide +kernel
theorem dX6_over_48 : decode cX6_over 48 = .ok (.lload 5, 2) := by decide +kernel
theorem dX6_over_50 : decode cX6_over 50 = .ok (.invokevirtual 112, 3) := by decide +kernel
theorem dX6_over_53 : decode cX6_over 53 = .ok (.return_, 1) := by decide +kernel
set_option maxRecDepth 20000 in
theorem ggX6_lead_X6_isWord : GoodIn wsX6_lead wsX6_isWord := goodIn_r _ [7, 8, 9, 10, 6, 11, 44, 45, 46, 47, 48, 49, 50, 51, 52, 53, 54, 55, 56, 57, 58, 59, 60, 61, 62, 63, 64, 65, 66, 67, 68, 69] (by decide +kernel) (by decide +kernel)
set_option maxRecDepth 20000 in
theorem gX6_lead_X6_isWord : GoodIn wsX6_lead (wsV RX6 83 RX6 yX6_isWord wsX6_isWord) := goodIn_app (goodIn_of _ (by decide +kernel)) ggX6_lead_X6_isWord
set_option maxRecDepth 20000 in
theorem ggX6_lead_X6_isLap : GoodIn wsX6_lead wsX6_isLap := goodIn_r _ [15, 8, 16, 17, 18, 6, 19, 20, 44, 45, 46, 47, 48, 49, 50, 51, 52, 53, 54, 55, 56, 57, 58, 59, 60, 61, 62, 63, 64, 65, 66, 67, 68, 69] (by decide +kernel) (by decide +kernel)
set_option maxRecDepth 20000 in
theorem gX6_lead_X6_isLap : GoodIn wsX6_lead (wsV RX6 95 RX6 yX6_isLap wsX6_isLap) := goodIn_app (goodIn_of _ (by decide +kernel)) ggX6_lead_X6_isLap
set_option maxRecDepth 20000 in
theorem ggX6_lead_X6_over : GoodIn wsX6_lead wsX6_over := goodIn_r _ [24, 25, 26, 16, 17, 18, 6, 19, 20, 27, 28, 29, 30, 1, 2, 31, 32, 33, 44, 45, 46, 47, 48, 49, 50, 51, 52, 53, 54, 55, 56, 57, 58, 59, 60, 61, 62, 63, 64, 65, 66, 67, 68, 69] (by decide +kernel) (by decide +kernel)
set_option maxRecDepth 20000 in
theorem gX6_lead_X6_over : GoodIn wsX6_lead (wsV RX6 119 RX6 yX6_over wsX6_over) := goodIn_app (goodIn_of _ (by decide +kernel)) ggX6_lead_X6_over
set_option maxRecDepth 20000 in
theorem ggX6_lead_X6_add : GoodIn wsX6_lead wsX6_add := goodIn_r _ [37, 31, 32, 6, 33, 27, 28, 29, 30, 1, 2, 44, 45, 46, 47, 48, 49, 50, 51, 52, 53, 54, 55, 56, 57, 58, 59, 60, 61, 62, 63, 64, 65, 66, 67, 68, 69] (by decide +kernel) (by decide +kernel)
set_option maxRecDepth 20000 in
theorem gX6_lead_X6_add : GoodIn wsX6_lead (wsV RX6 123 RX6 yX6_add wsX6_add) := goodIn_app (goodIn_of _ (by decide +kernel)) ggX6_lead_X6_add
set_option maxRecDepth 20000 in
theorem ggX6_lead_X6_atHand : GoodIn wsX6_lead wsX6_atHand := goodIn_r _ [41, 1, 42, 2, 43, 27, 28, 29, 6, 30, 31, 32, 33, 44, 45, 46, 47, 48, 49, 50, 51, 52, 53, 54, 55, 56, 57, 58, 59, 60, 61, 62, 63, 64, 65, 66, 67, 68, 69] (by decide +kernel) (by decide +kernel)
set_option maxRecDepth 20000 in
theorem gX6_lead_X6_atHand : GoodIn wsX6_lead (wsV RX6 127 RX6 yX6_atHand wsX6_atHand) := goodIn_app (goodIn_of _ (by decide +kernel)) ggX6_lead_X6_atHand
theorem dX6_lead_0 : decode cX6_lead 0 = .ok (.aload_n 0, 1) := by decide +kernel
theorem dX6_lead_1 : decode cX6_lead 1 = .ok (.iload_n 1, 1) := by decide +kernel
theorem dX6_lead_2 : decode cX6_lead 2 = .ok (.invokevirtual 83, 3) := by decide +kernel
theorem dX6_lead_5 : decode cX6_lead 5 = .ok (.ifCond .eq 11, 3) := by decide +kernel
theorem dX6_lead_8 : decode cX6_lead 8 = .ok (.aload_n 0, 1) := by decide +kernel
theorem dX6_lead_9 : decode cX6_lead 9 = .ok (.iload_n 2, 1) := by decide +kernel
theorem dX6_lead_10 : decode cX6_lead 10 = .ok (.invokevirtual 83, 3) := by decide +kernel
theorem dX6_lead_13 : decode cX6_lead 13 = .ok (.ifCond .ne 5, 3) := by decide +kernel
theorem dX6_lead_16 : decode cX6_lead 16 = .ok (.iconst 0, 1) := by decide +kernel
theorem dX6_lead_17 : decode cX6_lead 17 = .ok (.ireturn, 1) := by decide +kernel
theorem dX6_lead_18 : decode cX6_lead 18 = .ok (.lconst 0, 1) := by decide +kernel
theorem dX6_lead_19 : decode cX6_lead 19 = .ok (.lstore_n 3, 1) := by decide +kernel
theorem dX6_lead_20 : decode cX6_lead 20 = .ok (.lconst 1, 1) := by decide +kernel
theorem dX6_lead_21 : decode cX6_lead 21 = .ok (.lstore 5, 2) := by decide +kernel
theorem dX6_lead_23 : decode cX6_lead 23 = .ok (.iconst 1, 1) := by decide +kernel
theorem dX6_lead_24 : decode cX6_lead 24 = .ok (.istore 7, 2) := by decide +kernel
theorem dX6_lead_26 : decode cX6_lead 26 = .ok (.iload 7, 2) := by decide +kernel
theorem dX6_lead_28 : decode cX6_lead 28 = .ok (.iconst 5, 1) := by decide +kernel
theorem dX6_lead_29 : decode cX6_lead 29 = .ok (.if_icmp .gt 56, 3) := by decide +kernel
theorem dX6_lead_32 : decode cX6_lead 32 = .ok (.aload_n 0, 1) := by decide +kernel
theorem dX6_lead_33 : decode cX6_lead 33 = .ok (.iload_n 1, 1) := by decide +kernel
theorem dX6_lead_34 : decode cX6_lead 34 = .ok (.iload_n 2, 1) := by decide +kernel
theorem dX6_lead_35 : decode cX6_lead 35 = .ok (.iload 7, 2) := by decide +kernel
theorem dX6_lead_37 : decode cX6_lead 37 = .ok (.invokevirtual 95, 3) := by decide +kernel
theorem dX6_lead_40 : decode cX6_lead 40 = .ok (.ifCond .ne 6, 3) := by decide +kernel
theorem dX6_lead_43 : decode cX6_lead 43 = .ok (.goto 36, 3) := by decide +kernel
theorem dX6_lead_46 : decode cX6_lead 46 = .ok (.aload_n 0, 1) := by decide +kernel
theorem dX6_lead_47 : decode cX6_lead 47 = .ok (.iload_n 2, 1) := by decide +kernel
theorem dX6_lead_48 : decode cX6_lead 48 = .ok (.iload 7, 2) := by decide +kernel
theorem dX6_lead_50 : decode cX6_lead 50 = .ok (.invokevirtual 119, 3) := by decide +kernel
theorem dX6_lead_53 : decode cX6_lead 53 = .ok (.aload_n 0, 1) := by decide +kernel
theorem dX6_lead_54 : decode cX6_lead 54 = .ok (.lload_n 3, 1) := by decide +kernel
theorem dX6_lead_55 : decode cX6_lead 55 = .ok (.lload 5, 2) := by decide +kernel
theorem dX6_lead_57 : decode cX6_lead 57 = .ok (.aload_n 0, 1) := by decide +kernel
theorem dX6_lead_58 : decode cX6_lead 58 = .ok (.getfield 106, 3) := by decide +kernel
theorem dX6_lead_61 : decode cX6_lead 61 = .ok (.aload_n 0, 1) := by decide +kernel
theorem dX6_lead_62 : decode cX6_lead 62 = .ok (.getfield 109, 3) := by decide +kernel
theorem dX6_lead_65 : decode cX6_lead 65 = .ok (.invokevirtual 123, 3) := by decide +kernel
theorem dX6_lead_68 : decode cX6_lead 68 = .ok (.aload_n 0, 1) := by decide +kernel
theorem dX6_lead_69 : decode cX6_lead 69 = .ok (.getfield 106, 3) := by decide +kernel
theorem dX6_lead_72 : decode cX6_lead 72 = .ok (.lstore_n 3, 1) := by decide +kernel
theorem dX6_lead_73 : decode cX6_lead 73 = .ok (.aload_n 0, 1) := by decide +kernel
theorem dX6_lead_74 : decode cX6_lead 74 = .ok (.getfield 109, 3) := by decide +kernel
theorem dX6_lead_77 : decode cX6_lead 77 = .ok (.lstore 5, 2) := by decide +kernel
theorem dX6_lead_79 : decode cX6_lead 79 = .ok (.iinc 7 1, 3) := by decide +kernel
theorem dX6_lead_82 : decode cX6_lead 82 = .ok (.goto (-56), 3) := by decide +kernel
theorem dX6_lead_85 : decode cX6_lead 85 = .ok (.aload_n 0, 1) := by decide +kernel
theorem dX6_lead_86 : decode cX6_lead 86 = .ok (.lload_n 3, 1) := by decide +kernel
theorem dX6_lead_87 : decode cX6_lead 87 = .ok (.lload 5, 2) := by decide +kernel
theorem dX6_lead_89 : decode cX6_lead 89 = .ok (.invokevirtual 127, 3) := by decide +kernel
theorem dX6_lead_92 : decode cX6_lead 92 = .ok (.iconst 1, 1) := by decide +kernel
theorem dX6_lead_93 : decode cX6_lead 93 = .ok (.ireturn, 1) := by decide +kernel
set_option maxRecDepth 20000 in
theorem ggX6_isBeginning_X6_letterOf : GoodIn wsX6_isBeginning wsX6_letterOf := goodIn_r _ [5, 6, 7, 8, 9, 10, 11, 12, 13, 14, 15, 16, 17, 18, 19, 20, 21, 22, 23, 24, 25, 26, 27, 28, 29, 30, 31, 32] (by decide +kernel) (by decide +kernel)
set_option maxRecDepth 20000 in
theorem gX6_isBeginning_X6_letterOf : GoodIn wsX6_isBeginning (wsV RX6 87 RX6 yX6_letterOf wsX6_letterOf) := goodIn_app (goodIn_of _ (by decide +kernel)) ggX6_isBeginning_X6_letterOf
theorem dX6_isBeginning_0 : decode cX6_isBeginning 0 = .ok (.iload_n 2, 1) := by decide +kernel
theorem dX6_isBeginning_1 : decode cX6_isBeginning 1 = .ok (.iload 4, 2) := by decide +kernel
theorem dX6_isBeginning_3 : decode cX6_isBeginning 3 = .ok (.if_icmp .ne 7, 3) := by decide +kernel
theorem dX6_isBeginning_6 : decode cX6_isBeginning 6 = .ok (.iconst 1, 1) := by decide +kernel
theorem dX6_isBeginning_7 : decode cX6_isBeginning 7 = .ok (.goto 4, 3) := by decide +kernel
theorem dX6_isBeginning_10 : decode cX6_isBeginning 10 = .ok (.iconst 0, 1) := by decide +kernel
theorem dX6_isBeginning_11 : decode cX6_isBeginning 11 = .ok (.istore 5, 2) := by decide +kernel
theorem dX6_isBeginning_13 : decode cX6_isBeginning 13 = .ok (.iconst 0, 1) := by decide +kernel
theorem dX6_isBeginning_14 : decode cX6_isBeginning 14 = .ok (.istore 6, 2) := by decide +kernel
theorem dX6_isBeginning_16 : decode cX6_isBeginning 16 = .ok (.iload 6, 2) := by decide +kernel
theorem dX6_isBeginning_18 : decode cX6_isBeginning 18 = .ok (.iload_n 2, 1) := by decide +kernel
theorem dX6_isBeginning_19 : decode cX6_isBeginning 19 = .ok (.if_icmp .ge 38, 3) := by decide +kernel
theorem dX6_isBeginning_22 : decode cX6_isBeginning 22 = .ok (.iload 5, 2) := by decide +kernel
theorem dX6_isBeginning_24 : decode cX6_isBeginning 24 = .ok (.ifCond .eq 33, 3) := by decide +kernel
theorem dX6_isBeginning_27 : decode cX6_isBeginning 27 = .ok (.aload_n 0, 1) := by decide +kernel
theorem dX6_isBeginning_28 : decode cX6_isBeginning 28 = .ok (.iload_n 1, 1) := by decide +kernel
theorem dX6_isBeginning_29 : decode cX6_isBeginning 29 = .ok (.iload 6, 2) := by decide +kernel
theorem dX6_isBeginning_31 : decode cX6_isBeginning 31 = .ok (.invokevirtual 87, 3) := by decide +kernel
theorem dX6_isBeginning_34 : decode cX6_isBeginning 34 = .ok (.aload_n 0, 1) := by decide +kernel
theorem dX6_isBeginning_35 : decode cX6_isBeginning 35 = .ok (.iload_n 3, 1) := by decide +kernel
theorem dX6_isBeginning_36 : decode cX6_isBeginning 36 = .ok (.iload 6, 2) := by decide +kernel
theorem dX6_isBeginning_38 : decode cX6_isBeginning 38 = .ok (.invokevirtual 87, 3) := by decide +kernel
theorem dX6_isBeginning_41 : decode cX6_isBeginning 41 = .ok (.if_icmp .ne 7, 3) := by decide +kernel
theorem dX6_isBeginning_44 : decode cX6_isBeginning 44 = .ok (.iconst 1, 1) := by decide +kernel
theorem dX6_isBeginning_45 : decode cX6_isBeginning 45 = .ok (.goto 4, 3) := by decide +kernel
theorem dX6_isBeginning_48 : decode cX6_isBeginning 48 = .ok (.iconst 0, 1) := by decide +kernel
theorem dX6_isBeginning_49 : decode cX6_isBeginning 49 = .ok (.istore 5, 2) := by decide +kernel
theorem dX6_isBeginning_51 : decode cX6_isBeginning 51 = .ok (.iinc 6 1, 3) := by decide +kernel
theorem dX6_isBeginning_54 : decode cX6_isBeginning 54 = .ok (.goto (-38), 3) := by decide +kernel
theorem dX6_isBeginning_57 : decode cX6_isBeginning 57 = .ok (.iload 5, 2) := by decide +kernel
theorem dX6_isBeginning_59 : decode cX6_isBeginning 59 = .ok (.ireturn, 1) := by decide +kernel
set_option maxRecDepth 20000 in
theorem ggX6_stateOf_X6_isBeginning : GoodIn wsX6_stateOf wsX6_isBeginning := goodIn_r _ [8, 9, 10, 11, 7, 12, 13, 14, 15, 16, 17, 18, 19, 20, 21, 22, 23, 24, 25, 26, 27, 28, 29, 30, 31, 32, 33, 34, 35, 36, 37, 38, 39] (by decide +kernel) (by decide +kernel)
set_option maxRecDepth 20000 in
theorem gX6_stateOf_X6_isBeginning : GoodIn wsX6_stateOf (wsV RX6 133 RX6 yX6_isBeginning wsX6_isBeginning) := goodIn_app (goodIn_of _ (by decide +kernel)) ggX6_stateOf_X6_isBeginning
theorem dX6_stateOf_0 : decode cX6_stateOf 0 = .ok (.iconst (-1), 1) := by decide +kernel
theorem dX6_stateOf_1 : decode cX6_stateOf 1 = .ok (.istore_n 3, 1) := by decide +kernel
theorem dX6_stateOf_2 : decode cX6_stateOf 2 = .ok (.iconst 0, 1) := by decide +kernel
theorem dX6_stateOf_3 : decode cX6_stateOf 3 = .ok (.istore 4, 2) := by decide +kernel
