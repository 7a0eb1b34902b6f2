theorem dX6_cover_107 : decode cX6_cover 107 = .ok (.iload 8, 2) := by decide +kernel
theorem dX6_cover_109 : decode cX6_cover 109 = .ok (.ishl, 1) := by decide +kernel
theorem dX6_cover_110 : decode cX6_cover 110 = .ok (.ior, 1) := by decide +kernel
theorem dX6_cover_111 : decode cX6_cover 111 = .ok (.laload, 1) := by decide +kernel
theorem dX6_cover_112 : decode cX6_cover 112 = .ok (.invokevirtual 147, 3) := by decide +kernel
theorem dX6_cover_115 : decode cX6_cover 115 = .ok (.aload_n 0, 1) := by decide +kernel
theorem dX6_cover_116 : decode cX6_cover 116 = .ok (.lload_n 3, 1) := by decide +kernel
theorem dX6_cover_117 : decode cX6_cover 117 = .ok (.lload 5, 2) := by decide +kernel
theorem dX6_cover_119 : decode cX6_cover 119 = .ok (.aload_n 0, 1) := by decide +kernel
theorem dX6_cover_120 : decode cX6_cover 120 = .ok (.getfield 106, 3) := by decide +kernel
theorem dX6_cover_123 : decode cX6_cover 123 = .ok (.aload_n 0, 1) := by decide +kernel
theorem dX6_cover_124 : decode cX6_cover 124 = .ok (.getfield 109, 3) := by decide +kernel
theorem dX6_cover_127 : decode cX6_cover 127 = .ok (.invokevirtual 123, 3) := by decide +kernel
theorem dX6_cover_130 : decode cX6_cover 130 = .ok (.aload_n 0, 1) := by decide +kernel
theorem dX6_cover_131 : decode cX6_cover 131 = .ok (.getfield 106, 3) := by decide +kernel
theorem dX6_cover_134 : decode cX6_cover 134 = .ok (.lstore_n 3, 1) := by decide +kernel
theorem dX6_cover_135 : decode cX6_cover 135 = .ok (.aload_n 0, 1) := by decide +kernel
theorem dX6_cover_136 : decode cX6_cover 136 = .ok (.getfield 109, 3) := by decide +kernel
theorem dX6_cover_139 : decode cX6_cover 139 = .ok (.lstore 5, 2) := by decide +kernel
theorem dX6_cover_141 : decode cX6_cover 141 = .ok (.iinc 8 1, 3) := by decide +kernel
theorem dX6_cover_144 : decode cX6_cover 144 = .ok (.goto (-98), 3) := by decide +kernel
theorem dX6_cover_147 : decode cX6_cover 147 = .ok (.aload_n 0, 1) := by decide +kernel
theorem dX6_cover_148 : decode cX6_cover 148 = .ok (.lload_n 3, 1) := by decide +kernel
theorem dX6_cover_149 : decode cX6_cover 149 = .ok (.lload 5, 2) := by decide +kernel
theorem dX6_cover_151 : decode cX6_cover 151 = .ok (.lconst 1, 1) := by decide +kernel
theorem dX6_cover_152 : decode cX6_cover 152 = .ok (.aload_n 0, 1) := by decide +kernel
theorem dX6_cover_153 : decode cX6_cover 153 = .ok (.getfield 13, 3) := by decide +kernel
theorem dX6_cover_156 : decode cX6_cover 156 = .ok (.iload 7, 2) := by decide +kernel
theorem dX6_cover_158 : decode cX6_cover 158 = .ok (.isub, 1) := by decide +kernel
theorem dX6_cover_159 : decode cX6_cover 159 = .ok (.i2l, 1) := by decide +kernel
theorem dX6_cover_160 : decode cX6_cover 160 = .ok (.invokevirtual 147, 3) := by decide +kernel
theorem dX6_cover_163 : decode cX6_cover 163 = .ok (.aload_n 0, 1) := by decide +kernel
theorem dX6_cover_164 : decode cX6_cover 164 = .ok (.getfield 64, 3) := by decide +kernel
theorem dX6_cover_167 : decode cX6_cover 167 = .ok (.iload_n 2, 1) := by decide +kernel
theorem dX6_cover_168 : decode cX6_cover 168 = .ok (.aload_n 0, 1) := by decide +kernel
theorem dX6_cover_169 : decode cX6_cover 169 = .ok (.getfield 106, 3) := by decide +kernel
theorem dX6_cover_172 : decode cX6_cover 172 = .ok (.lastore, 1) := by decide +kernel
theorem dX6_cover_173 : decode cX6_cover 173 = .ok (.aload_n 0, 1) := by decide +kernel
theorem dX6_cover_174 : decode cX6_cover 174 = .ok (.getfield 67, 3) := by decide +kernel
theorem dX6_cover_177 : decode cX6_cover 177 = .ok (.iload_n 2, 1) := by decide +kernel
theorem dX6_cover_178 : decode cX6_cover 178 = .ok (.aload_n 0, 1) := by decide +kernel
theorem dX6_cover_179 : decode cX6_cover 179 = .ok (.getfield 109, 3) := by decide +kernel
theorem dX6_cover_182 : decode cX6_cover 182 = .ok (.lastore, 1) := by decide +kernel
theorem dX6_cover_183 : decode cX6_cover 183 = .ok (.iinc 2 (-1), 3) := by decide +kernel
theorem dX6_cover_186 : decode cX6_cover 186 = .ok (.goto (-159), 3) := by decide +kernel
theorem dX6_cover_189 : decode cX6_cover 189 = .ok (.aload_n 0, 1) := by decide +kernel
theorem dX6_cover_190 : decode cX6_cover 190 = .ok (.aload_n 0, 1) := by decide +kernel
theorem dX6_cover_191 : decode cX6_cover 191 = .ok (.getfield 64, 3) := by decide +kernel
theorem dX6_cover_194 : decode cX6_cover 194 = .ok (.iconst 0, 1) := by decide +kernel
theorem dX6_cover_195 : decode cX6_cover 195 = .ok (.laload, 1) := by decide +kernel
theorem dX6_cover_196 : decode cX6_cover 196 = .ok (.aload_n 0, 1) := by decide +kernel
theorem dX6_cover_197 : decode cX6_cover 197 = .ok (.getfield 67, 3) := by decide +kernel
theorem dX6_cover_200 : decode cX6_cover 200 = .ok (.iconst 0, 1) := by decide +kernel
theorem dX6_cover_201 : decode cX6_cover 201 = .ok (.laload, 1) := by decide +kernel
theorem dX6_cover_202 : decode cX6_cover 202 = .ok (.invokevirtual 127, 3) := by decide +kernel
theorem dX6_cover_205 : decode cX6_cover 205 = .ok (.return_, 1) := by decide +kernel
set_option maxRecDepth 20000 in
theorem ggX6_comes_X6_letterOf : GoodIn wsX6_comes wsX6_letterOf := goodIn_r _ [6, 7, 8, 9, 10, 11, 12, 13, 14, 15, 16, 17, 18, 19, 20, 21, 22, 23, 24, 25, 26, 27, 28, 29, 30, 31, 32, 33] (by decide +kernel) (by decide +kernel)
set_option maxRecDepth 20000 in
theorem gX6_comes_X6_letterOf : GoodIn wsX6_comes (wsV RX6 87 RX6 yX6_letterOf wsX6_letterOf) := goodIn_app (goodIn_of _ (by decide +kernel)) ggX6_comes_X6_letterOf
theorem dX6_comes_0 : decode cX6_comes 0 = .ok (.iconst 4, 1) := by decide +kernel
theorem dX6_comes_1 : decode cX6_comes 1 = .ok (.iload_n 1, 1) := by decide +kernel
theorem dX6_comes_2 : decode cX6_comes 2 = .ok (.imul, 1) := by decide +kernel
theorem dX6_comes_3 : decode cX6_comes 3 = .ok (.iload_n 2, 1) := by decide +kernel
theorem dX6_comes_4 : decode cX6_comes 4 = .ok (.iadd, 1) := by decide +kernel
theorem dX6_comes_5 : decode cX6_comes 5 = .ok (.istore 4, 2) := by decide +kernel
theorem dX6_comes_7 : decode cX6_comes 7 = .ok (.iconst 1, 1) := by decide +kernel
theorem dX6_comes_8 : decode cX6_comes 8 = .ok (.istore 5, 2) := by decide +kernel
theorem dX6_comes_10 : decode cX6_comes 10 = .ok (.aload_n 0, 1) := by decide +kernel
theorem dX6_comes_11 : decode cX6_comes 11 = .ok (.getfield 20, 3) := by decide +kernel
theorem dX6_comes_14 : decode cX6_comes 14 = .ok (.iload_n 3, 1) := by decide +kernel
theorem dX6_comes_15 : decode cX6_comes 15 = .ok (.iaload, 1) := by decide +kernel
theorem dX6_comes_16 : decode cX6_comes 16 = .ok (.iconst 1, 1) := by decide +kernel
theorem dX6_comes_17 : decode cX6_comes 17 = .ok (.isub, 1) := by decide +kernel
theorem dX6_comes_18 : decode cX6_comes 18 = .ok (.istore 6, 2) := by decide +kernel
theorem dX6_comes_20 : decode cX6_comes 20 = .ok (.iload 6, 2) := by decide +kernel
theorem dX6_comes_22 : decode cX6_comes 22 = .ok (.ifCond .lt 54, 3) := by decide +kernel
theorem dX6_comes_25 : decode cX6_comes 25 = .ok (.iload 5, 2) := by decide +kernel
theorem dX6_comes_27 : decode cX6_comes 27 = .ok (.ifCond .eq 49, 3) := by decide +kernel
theorem dX6_comes_30 : decode cX6_comes 30 = .ok (.iload 4, 2) := by decide +kernel
theorem dX6_comes_32 : decode cX6_comes 32 = .ok (.iconst 1, 1) := by decide +kernel
theorem dX6_comes_33 : decode cX6_comes 33 = .ok (.if_icmp .le 28, 3) := by decide +kernel
theorem dX6_comes_36 : decode cX6_comes 36 = .ok (.iload 4, 2) := by decide +kernel
theorem dX6_comes_38 : decode cX6_comes 38 = .ok (.iconst 4, 1) := by decide +kernel
theorem dX6_comes_39 : decode cX6_comes 39 = .ok (.irem, 1) := by decide +kernel
theorem dX6_comes_40 : decode cX6_comes 40 = .ok (.aload_n 0, 1) := by decide +kernel
theorem dX6_comes_41 : decode cX6_comes 41 = .ok (.iload_n 3, 1) := by decide +kernel
theorem dX6_comes_42 : decode cX6_comes 42 = .ok (.iload 6, 2) := by decide +kernel
theorem dX6_comes_44 : decode cX6_comes 44 = .ok (.invokevirtual 87, 3) := by decide +kernel
theorem dX6_comes_47 : decode cX6_comes 47 = .ok (.if_icmp .ne 14, 3) := by decide +kernel
theorem dX6_comes_50 : decode cX6_comes 50 = .ok (.iload 4, 2) := by decide +kernel
theorem dX6_comes_52 : decode cX6_comes 52 = .ok (.iconst 4, 1) := by decide +kernel
theorem dX6_comes_53 : decode cX6_comes 53 = .ok (.idiv, 1) := by decide +kernel
theorem dX6_comes_54 : decode cX6_comes 54 = .ok (.ifCond .le 7, 3) := by decide +kernel
theorem dX6_comes_57 : decode cX6_comes 57 = .ok (.iconst 1, 1) := by decide +kernel
theorem dX6_comes_58 : decode cX6_comes 58 = .ok (.goto 4, 3) := by decide +kernel
theorem dX6_comes_61 : decode cX6_comes 61 = .ok (.iconst 0, 1) := by decide +kernel
theorem dX6_comes_62 : decode cX6_comes 62 = .ok (.istore 5, 2) := by decide +kernel
theorem dX6_comes_64 : decode cX6_comes 64 = .ok (.iload 4, 2) := by decide +kernel
theorem dX6_comes_66 : decode cX6_comes 66 = .ok (.iconst 4, 1) := by decide +kernel
theorem dX6_comes_67 : decode cX6_comes 67 = .ok (.idiv, 1) := by decide +kernel
theorem dX6_comes_68 : decode cX6_comes 68 = .ok (.istore 4, 2) := by decide +kernel
theorem dX6_comes_70 : decode cX6_comes 70 = .ok (.iinc 6 (-1), 3) := by decide +kernel
theorem dX6_comes_73 : decode cX6_comes 73 = .ok (.goto (-53), 3) := by decide +kernel
theorem dX6_comes_76 : decode cX6_comes 76 = .ok (.iload 5, 2) := by decide +kernel
theorem dX6_comes_78 : decode cX6_comes 78 = .ok (.ireturn, 1) := by decide +kernel
theorem dX6_shorter_0 : decode cX6_shorter 0 = .ok (.iload_n 0, 1) := by decide +kernel
theorem dX6_shorter_1 : decode cX6_shorter 1 = .ok (.sipush 1024, 3) := by decide +kernel
theorem dX6_shorter_4 : decode cX6_shorter 4 = .ok (.if_icmp .lt 15, 3) := by decide +kernel
theorem dX6_shorter_7 : decode cX6_shorter 7 = .ok (.sipush 256, 3) := by decide +kernel
theorem dX6_shorter_10 : decode cX6_shorter 10 = .ok (.iload_n 0, 1) := by decide +kernel
theorem dX6_shorter_11 : decode cX6_shorter 11 = .ok (.sipush 256, 3) := by decide +kernel
theorem dX6_shorter_14 : decode cX6_shorter 14 = .ok (.irem, 1) := by decide +kernel
theorem dX6_shorter_15 : decode cX6_shorter 15 = .ok (.iadd, 1) := by decide +kernel
theorem dX6_shorter_16 : decode cX6_shorter 16 = .ok (.goto 4, 3) := by decide +kernel
theorem dX6_shorter_19 : decode cX6_shorter 19 = .ok (.iload_n 0, 1) := by decide +kernel
theorem dX6_shorter_20 : decode cX6_shorter 20 = .ok (.ireturn, 1) := by decide +kernel
set_option maxRecDepth 20000 in
theorem ggX6_counts_X6_comes : GoodIn wsX6_counts wsX6_comes := goodIn_r _ [10, 4, 11, 12, 13, 9, 14, 15, 19, 20, 21, 22, 23, 24, 25, 26, 27, 28, 29, 30, 31, 32, 33, 34, 35, 36, 37, 38, 39, 40, 41, 42, 43, 44] (by decide +kernel) (by decide +kernel)
set_option maxRecDepth 20000 in
theorem gX6_counts_X6_comes : GoodIn wsX6_counts (wsV RX6 180 RX6 yX6_comes wsX6_comes) := goodIn_app (goodIn_of _ (by decide +kernel)) ggX6_counts_X6_comes
set_option maxRecDepth 20000 in
theorem ggX6_counts_X6_shorter : GoodIn wsX6_counts wsX6_shorter := goodIn_r _ [18] (by decide +kernel) (by decide +kernel)
set_option maxRecDepth 20000 in
theorem gX6_counts_X6_shorter : GoodIn wsX6_counts (va_wsS RX6 183 yX6_shorter wsX6_shorter) := goodIn_app (goodIn_of _ (by decide +kernel)) ggX6_counts_X6_shorter
theorem dX6_counts_0 : decode cX6_counts 0 = .ok (.iconst 0, 1) := by decide +kernel
theorem dX6_counts_1 : decode cX6_counts 1 = .ok (.istore 4, 2) := by decide +kernel
theorem dX6_counts_3 : decode cX6_counts 3 = .ok (.iload 4, 2) := by decide +kernel
theorem dX6_counts_5 : decode cX6_counts 5 = .ok (.sipush 16384, 3) := by decide +kernel
theorem dX6_counts_8 : decode cX6_counts 8 = .ok (.if_icmp .ge 17, 3) := by decide +kernel
theorem dX6_counts_11 : decode cX6_counts 11 = .ok (.aload_n 0, 1) := by decide +kernel
theorem dX6_counts_12 : decode cX6_counts 12 = .ok (.getfield 70, 3) := by decide +kernel
theorem dX6_counts_15 : decode cX6_counts 15 = .ok (.iload 4, 2) := by decide +kernel
theorem dX6_counts_17 : decode cX6_counts 17 = .ok (.lconst 0, 1) := by decide +kernel
theorem dX6_counts_18 : decode cX6_counts 18 = .ok (.lastore, 1) := by decide +kernel
theorem dX6_counts_19 : decode cX6_counts 19 = .ok (.iinc 4 1, 3) := by decide +kernel
theorem dX6_counts_22 : decode cX6_counts 22 = .ok (.goto (-19), 3) := by decide +kernel
theorem dX6_counts_25 : decode cX6_counts 25 = .ok (.aload_n 0, 1) := by decide +kernel
theorem dX6_counts_26 : decode cX6_counts 26 = .ok (.getfield 70, 3) := by decide +kernel
theorem dX6_counts_29 : decode cX6_counts 29 = .ok (.iconst 1, 1) := by decide +kernel
theorem dX6_counts_30 : decode cX6_counts 30 = .ok (.lconst 1, 1) := by decide +kernel
theorem dX6_counts_31 : decode cX6_counts 31 = .ok (.lastore, 1) := by decide +kernel
theorem dX6_counts_32 : decode cX6_counts 32 = .ok (.iconst 0, 1) := by decide +kernel
theorem dX6_counts_33 : decode cX6_counts 33 = .ok (.istore 4, 2) := by decide +kernel
theorem dX6_counts_35 : decode cX6_counts 35 = .ok (.iload 4, 2) := by decide +kernel
theorem dX6_counts_37 : decode cX6_counts 37 = .ok (.iload_n 2, 1) := by decide +kernel
theorem dX6_counts_38 : decode cX6_counts 38 = .ok (.if_icmp .ge 259, 3) := by decide +kernel
theorem dX6_counts_41 : decode cX6_counts 41 = .ok (.iconst 0, 1) := by decide +kernel
theorem dX6_counts_42 : decode cX6_counts 42 = .ok (.istore 5, 2) := by decide +kernel
theorem dX6_counts_44 : decode cX6_counts 44 = .ok (.iload 5, 2) := by decide +kernel
theorem dX6_counts_46 : decode cX6_counts 46 = .ok (.sipush 16384, 3) := by decide +kernel
theorem dX6_counts_49 : decode cX6_counts 49 = .ok (.if_icmp .ge 17, 3) := by decide +kernel
theorem dX6_counts_52 : decode cX6_counts 52 = .ok (.aload_n 0, 1) := by decide +kernel
theorem dX6_counts_53 : decode cX6_counts 53 = .ok (.getfield 73, 3) := by decide +kernel
theorem dX6_counts_56 : decode cX6_counts 56 = .ok (.iload 5, 2) := by decide +kernel
theorem dX6_counts_58 : decode cX6_counts 58 = .ok (.lconst 0, 1) := by decide +kernel
theorem dX6_counts_59 : decode cX6_counts 59 = .ok (.lastore, 1) := by decide +kernel
theorem dX6_counts_60 : decode cX6_counts 60 = .ok (.iinc 5 1, 3) := by decide +kernel
theorem dX6_counts_63 : decode cX6_counts 63 = .ok (.goto (-19), 3) := by decide +kernel
theorem dX6_counts_66 : decode cX6_counts 66 = .ok (.iconst 0, 1) := by decide +kernel
theorem dX6_counts_67 : decode cX6_counts 67 = .ok (.istore 5, 2) := by decide +kernel
theorem dX6_counts_69 : decode cX6_counts 69 = .ok (.iload 5, 2) := by decide +kernel
theorem dX6_counts_71 : decode cX6_counts 71 = .ok (.sipush 16384, 3) := by decide +kernel
theorem dX6_counts_74 : decode cX6_counts 74 = .ok (.if_icmp .ge 186, 3) := by decide +kernel
theorem dX6_counts_77 : decode cX6_counts 77 = .ok (.aload_n 0, 1) := by decide +kernel
theorem dX6_counts_78 : decode cX6_counts 78 = .ok (.getfield 70, 3) := by decide +kernel
theorem dX6_counts_81 : decode cX6_counts 81 = .ok (.iload 5, 2) := by decide +kernel
theorem dX6_counts_83 : decode cX6_counts 83 = .ok (.laload, 1) := by decide +kernel
theorem dX6_counts_84 : decode cX6_counts 84 = .ok (.lconst 0, 1) := by decide +kernel
theorem dX6_counts_85 : decode cX6_counts 85 = .ok (.lcmp, 1) := by decide +kernel
theorem dX6_counts_86 : decode cX6_counts 86 = .ok (.ifCond .ne 6, 3) := by decide +kernel
theorem dX6_counts_89 : decode cX6_counts 89 = .ok (.goto 165, 3) := by decide +kernel
theorem dX6_counts_92 : decode cX6_counts 92 = .ok (.iload 5, 2) := by decide +kernel
theorem dX6_counts_94 : decode cX6_counts 94 = .ok (.sipush 512, 3) := by decide +kernel
theorem dX6_counts_97 : decode cX6_counts 97 = .ok (.irem, 1) := by decide +kernel
theorem dX6_counts_98 : decode cX6_counts 98 = .ok (.istore 6, 2) := by decide +kernel
theorem dX6_counts_100 : decode cX6_counts 100 = .ok (.iconst 0, 1) := by decide +kernel
theorem dX6_counts_101 : decode cX6_counts 101 = .ok (.istore 7, 2) := by decide +kernel
theorem dX6_counts_103 : decode cX6_counts 103 = .ok (.iload 7, 2) := by decide +kernel
theorem dX6_counts_105 : decode cX6_counts 105 = .ok (.aload_n 0, 1) := by decide +kernel
theorem dX6_counts_106 : decode cX6_counts 106 = .ok (.getfield 7, 3) := by decide +kernel
theorem dX6_counts_109 : decode cX6_counts 109 = .ok (.if_icmp .ge 145, 3) := by decide +kernel
theorem dX6_counts_112 : decode cX6_counts 112 = .ok (.iconst 0, 1) := by decide +kernel
theorem dX6_counts_113 : decode cX6_counts 113 = .ok (.istore 8, 2) := by decide +kernel
theorem dX6_counts_115 : decode cX6_counts 115 = .ok (.iconst 0, 1) := by decide +kernel
theorem dX6_counts_116 : decode cX6_counts 116 = .ok (.istore 9, 2) := by decide +kernel
theorem dX6_counts_118 : decode cX6_counts 118 = .ok (.iload 9, 2) := by decide +kernel
theorem dX6_counts_120 : decode cX6_counts 120 = .ok (.bipush 8, 2) := by decide +kernel
theorem dX6_counts_122 : decode cX6_counts 122 = .ok (.if_icmp .ge 54, 3) := by decide +kernel
theorem dX6_counts_125 : decode cX6_counts 125 = .ok (.iload 8, 2) := by decide +kernel
theorem dX6_counts_127 : decode cX6_counts 127 = .ok (.ifCond .ne 36, 3) := by decide +kernel
theorem dX6_counts_130 : decode cX6_counts 130 = .ok (.iload_n 1, 1) := by decide +kernel
theorem dX6_counts_131 : decode cX6_counts 131 = .ok (.iload 9, 2) := by decide +kernel
theorem dX6_counts_133 : decode cX6_counts 133 = .ok (.ishr, 1) := by decide +kernel
theorem dX6_counts_134 : decode cX6_counts 134 = .ok (.iconst 1, 1) := by decide +kernel
theorem dX6_counts_135 : decode cX6_counts 135 = .ok (.iand, 1) := by decide +kernel
theorem dX6_counts_136 : decode cX6_counts 136 = .ok (.iconst 1, 1) := by decide +kernel
theorem dX6_counts_137 : decode cX6_counts 137 = .ok (.if_icmp .ne 30, 3) := by decide +kernel
theorem dX6_counts_140 : decode cX6_counts 140 = .ok (.aload_n 0, 1) := by decide +kernel
theorem dX6_counts_141 : decode cX6_counts 141 = .ok (.getfield 20, 3) := by decide +kernel
theorem dX6_counts_144 : decode cX6_counts 144 = .ok (.iload 9, 2) := by decide +kernel
theorem dX6_counts_146 : decode cX6_counts 146 = .ok (.iaload, 1) := by decide +kernel
theorem dX6_counts_147 : decode cX6_counts 147 = .ok (.ifCond .le 20, 3) := by decide +kernel
theorem dX6_counts_150 : decode cX6_counts 150 = .ok (.aload_n 0, 1) := by decide +kernel
theorem dX6_counts_151 : decode cX6_counts 151 = .ok (.iload 6, 2) := by decide +kernel
theorem dX6_counts_153 : decode cX6_counts 153 = .ok (.iload 7, 2) := by decide +kernel
theorem dX6_counts_155 : decode cX6_counts 155 = .ok (.iload 9, 2) := by decide +kernel
theorem dX6_counts_157 : decode cX6_counts 157 = .ok (.invokevirtual 180, 3) := by decide +kernel
theorem dX6_counts_160 : decode cX6_counts 160 = .ok (.ifCond .eq 7, 3) := by decide +kernel
theorem dX6_counts_163 : decode cX6_counts 163 = .ok (.iconst 1, 1) := by decide +kernel
theorem dX6_counts_164 : decode cX6_counts 164 = .ok (.goto 4, 3) := by decide +kernel
theorem dX6_counts_167 : decode cX6_counts 167 = .ok (.iconst 0, 1) := by decide +kernel
theorem dX6_counts_168 : decode cX6_counts 168 = .ok (.istore 8, 2) := by decide +kernel
theorem dX6_counts_170 : decode cX6_counts 170 = .ok (.iinc 9 1, 3) := by decide +kernel
theorem dX6_counts_173 : decode cX6_counts 173 = .ok (.goto (-55), 3) := by decide +kernel
theorem dX6_counts_176 : decode cX6_counts 176 = .ok (.iload 8, 2) := by decide +kernel
theorem dX6_counts_178 : decode cX6_counts 178 = .ok (.ifCond .eq 10, 3) := by decide +kernel
theorem dX6_counts_181 : decode cX6_counts 181 = .ok (.iload_n 3, 1) := by decide +kernel
theorem dX6_counts_182 : decode cX6_counts 182 = .ok (.ifCond .eq 6, 3) := by decide +kernel
theorem dX6_counts_185 : decode cX6_counts 185 = .ok (.goto 63, 3) := by decide +kernel
theorem dX6_counts_188 : decode cX6_counts 188 = .ok (.iload 5, 2) := by decide +kernel
theorem dX6_counts_190 : decode cX6_counts 190 = .ok (.sipush 512, 3) := by decide +kernel
theorem dX6_counts_193 : decode cX6_counts 193 = .ok (.idiv, 1) := by decide +kernel
theorem dX6_counts_194 : decode cX6_counts 194 = .ok (.iload 8, 2) := by decide +kernel
theorem dX6_counts_196 : decode cX6_counts 196 = .ok (.ifCond .eq 7, 3) := by decide +kernel
theorem dX6_counts_199 : decode cX6_counts 199 = .ok (.iconst 1, 1) := by decide +kernel
theorem dX6_counts_200 : decode cX6_counts 200 = .ok (.goto 4, 3) := by decide +kernel
theorem dX6_counts_203 : decode cX6_counts 203 = .ok (.iconst 0, 1) := by decide +kernel
theorem dX6_counts_204 : decode cX6_counts 204 = .ok (.iadd, 1) := by decide +kernel
theorem dX6_counts_205 : decode cX6_counts 205 = .ok (.istore 9, 2) := by decide +kernel
theorem dX6_counts_207 : decode cX6_counts 207 = .ok (.aload_n 0, 1) := by decide +kernel
theorem dX6_counts_208 : decode cX6_counts 208 = .ok (.getfield 73, 3) := by decide +kernel
theorem dX6_counts_211 : decode cX6_counts 211 = .ok (.sipush 512, 3) := by decide +kernel
theorem dX6_counts_214 : decode cX6_counts 214 = .ok (.iload 9, 2) := by decide +kernel
theorem dX6_counts_216 : decode cX6_counts 216 = .ok (.imul, 1) := by decide +kernel
theorem dX6_counts_217 : decode cX6_counts 217 = .ok (.iconst 4, 1) := by decide +kernel
theorem dX6_counts_218 : decode cX6_counts 218 = .ok (.iload 6, 2) := by decide +kernel
theorem dX6_counts_220 : decode cX6_counts 220 = .ok (.imul, 1) := by decide +kernel
theorem dX6_counts_221 : decode cX6_counts 221 = .ok (.iload 7, 2) := by decide +kernel
theorem dX6_counts_223 : decode cX6_counts 223 = .ok (.iadd, 1) := by decide +kernel
theorem dX6_counts_224 : decode cX6_counts 224 = .ok (.invokestatic 183, 3) := by decide +kernel
theorem dX6_counts_227 : decode cX6_counts 227 = .ok (.iadd, 1) := by decide +kernel
theorem dX6_counts_228 : decode cX6_counts 228 = .ok (.dup2, 1) := by decide +kernel
theorem dX6_counts_229 : decode cX6_counts 229 = .ok (.laload, 1) := by decide +kernel
theorem dX6_counts_230 : decode cX6_counts 230 = .ok (.aload_n 0, 1) := by decide +kernel
theorem dX6_counts_231 : decode cX6_counts 231 = .ok (.getfield 70, 3) := by decide +kernel
theorem dX6_counts_234 : decode cX6_counts 234 = .ok (.iload 5, 2) := by decide +kernel
theorem dX6_counts_236 : decode cX6_counts 236 = .ok (.laload, 1) := by decide +kernel
theorem dX6_counts_237 : decode cX6_counts 237 = .ok (.aload_n 0, 1) := by decide +kernel
theorem dX6_counts_238 : decode cX6_counts 238 = .ok (.getfield 16, 3) := by decide +kernel
theorem dX6_counts_241 : decode cX6_counts 241 = .ok (.iload 7, 2) := by decide +kernel
theorem dX6_counts_243 : decode cX6_counts 243 = .ok (.iaload, 1) := by decide +kernel
theorem dX6_counts_244 : decode cX6_counts 244 = .ok (.i2l, 1) := by decide +kernel
theorem dX6_counts_245 : decode cX6_counts 245 = .ok (.lmul, 1) := by decide +kernel
theorem dX6_counts_246 : decode cX6_counts 246 = .ok (.ladd, 1) := by decide +kernel
theorem dX6_counts_247 : decode cX6_counts 247 = .ok (.lastore, 1) := by decide +kernel
theorem dX6_counts_248 : decode cX6_counts 248 = .ok (.iinc 7 1, 3) := by decide +kernel
theorem dX6_counts_251 : decode cX6_counts 251 = .ok (.goto (-148), 3) := by decide +kernel
theorem dX6_counts_254 : decode cX6_counts 254 = .ok (.iinc 5 1, 3) := by decide +kernel
theorem dX6_counts_257 : decode cX6_counts 257 = .ok (.goto (-188), 3) := by decide +kernel
theorem dX6_counts_260 : decode cX6_counts 260 = .ok (.iconst 0, 1) := by decide +kernel
theorem dX6_counts_261 : decode cX6_counts 261 = .ok (.istore 5, 2) := by decide +kernel
theorem dX6_counts_263 : decode cX6_counts 263 = .ok (.iload 5, 2) := by decide +kernel
theorem dX6_counts_265 : decode cX6_counts 265 = .ok (.sipush 16384, 3) := by decide +kernel
theorem dX6_counts_268 : decode cX6_counts 268 = .ok (.if_icmp .ge 23, 3) := by decide +kernel
theorem dX6_counts_271 : decode cX6_counts 271 = .ok (.aload_n 0, 1) := by decide +kernel
theorem dX6_counts_272 : decode cX6_counts 272 = .ok (.getfield 70, 3) := by decide +kernel
theorem dX6_counts_275 : decode cX6_counts 275 = .ok (.iload 5, 2) := by decide +kernel
theorem dX6_counts_277 : decode cX6_counts 277 = .ok (.aload_n 0, 1) := by decide +kernel
theorem dX6_counts_278 : decode cX6_counts 278 = .ok (.getfield 73, 3) := by decide +kernel
theorem dX6_counts_281 : decode cX6_counts 281 = .ok (.iload 5, 2) := by decide +kernel
theorem dX6_counts_283 : decode cX6_counts 283 = .ok (.laload, 1) := by decide +kernel
theorem dX6_counts_284 : decode cX6_counts 284 = .ok (.lastore, 1) := by decide +kernel
theorem dX6_counts_285 : decode cX6_counts 285 = .ok (.iinc 5 1, 3) := by decide +kernel
theorem dX6_counts_288 : decode cX6_counts 288 = .ok (.goto (-25), 3) := by decide +kernel
theorem dX6_counts_291 : decode cX6_counts 291 = .ok (.iinc 4 1, 3) := by decide +kernel
theorem dX6_counts_294 : decode cX6_counts 294 = .ok (.goto (-259), 3) := by decide +kernel
theorem dX6_counts_297 : decode cX6_counts 297 = .ok (.return_, 1) := by decide +kernel
theorem dX6_power_0 : decode cX6_power 0 = .ok (.lconst 1, 1) := by decide +kernel
theorem dX6_power_1 : decode cX6_power 1 = .ok (.lstore_n 2, 1) := by decide +kernel
theorem dX6_power_2 : decode cX6_power 2 = .ok (.iconst 0, 1) := by decide +kernel
theorem dX6_power_3 : decode cX6_power 3 = .ok (.istore 4, 2) := by decide +kernel
theorem dX6_power_5 : decode cX6_power 5 = .ok (.iload 4, 2) := by decide +kernel
theorem dX6_power_7 : decode cX6_power 7 = .ok (.iload_n 1, 1) := by decide +kernel
theorem dX6_power_8 : decode cX6_power 8 = .ok (.if_icmp .ge 17, 3) := by decide +kernel
theorem dX6_power_11 : decode cX6_power 11 = .ok (.lload_n 2, 1) := by decide +kernel
theorem dX6_power_12 : decode cX6_power 12 = .ok (.aload_n 0, 1) := by decide +kernel
theorem dX6_power_13 : decode cX6_power 13 = .ok (.getfield 13, 3) := by decide +kernel
theorem dX6_power_16 : decode cX6_power 16 = .ok (.i2l, 1) := by decide +kernel
theorem dX6_power_17 : decode cX6_power 17 = .ok (.lmul, 1) := by decide +kernel
theorem dX6_power_18 : decode cX6_power 18 = .ok (.lstore_n 2, 1) := by decide +kernel
theorem dX6_power_19 : decode cX6_power 19 = .ok (.iinc 4 1, 3) := by decide +kernel
theorem dX6_power_22 : decode cX6_power 22 = .ok (.goto (-17), 3) := by decide +kernel
theorem dX6_power_25 : decode cX6_power 25 = .ok (.lload_n 2, 1) := by decide +kernel
theorem dX6_power_26 : decode cX6_power 26 = .ok (.lreturn, 1) := by decide +kernel
theorem dX6_withPlaces_0 : decode cX6_withPlaces 0 = .ok (.lconst 0, 1) := by decide +kernel
theorem dX6_withPlaces_1 : decode cX6_withPlaces 1 = .ok (.lstore_n 2, 1) := by decide +kernel
theorem dX6_withPlaces_2 : decode cX6_withPlaces 2 = .ok (.iconst 0, 1) := by decide +kernel
theorem dX6_withPlaces_3 : decode cX6_withPlaces 3 = .ok (.istore 4, 2) := by decide +kernel
theorem dX6_withPlaces_5 : decode cX6_withPlaces 5 = .ok (.iload 4, 2) := by decide +kernel
theorem dX6_withPlaces_7 : decode cX6_withPlaces 7 = .ok (.sipush 512, 3) := by decide +kernel
theorem dX6_withPlaces_10 : decode cX6_withPlaces 10 = .ok (.if_icmp .ge 25, 3) := by decide +kernel
theorem dX6_withPlaces_13 : decode cX6_withPlaces 13 = .ok (.lload_n 2, 1) := by decide +kernel
theorem dX6_withPlaces_14 : decode cX6_withPlaces 14 = .ok (.aload_n 0, 1) := by decide +kernel
theorem dX6_withPlaces_15 : decode cX6_withPlaces 15 = .ok (.getfield 70, 3) := by decide +kernel
theorem dX6_withPlaces_18 : decode cX6_withPlaces 18 = .ok (.sipush 512, 3) := by decide +kernel
theorem dX6_withPlaces_21 : decode cX6_withPlaces 21 = .ok (.iload_n 1, 1) := by decide +kernel
theorem dX6_withPlaces_22 : decode cX6_withPlaces 22 = .ok (.imul, 1) := by decide +kernel
theorem dX6_withPlaces_23 : decode cX6_withPlaces 23 = .ok (.iload 4, 2) := by decide +kernel
theorem dX6_withPlaces_25 : decode cX6_withPlaces 25 = .ok (.iadd, 1) := by decide +kernel
theorem dX6_withPlaces_26 : decode cX6_withPlaces 26 = .ok (.laload, 1) := by decide +kernel
theorem dX6_withPlaces_27 : decode cX6_withPlaces 27 = .ok (.ladd, 1) := by decide +kernel
theorem dX6_withPlaces_28 : decode cX6_withPlaces 28 = .ok (.lstore_n 2, 1) := by decide +kernel
theorem dX6_withPlaces_29 : decode cX6_withPlaces 29 = .ok (.iinc 4 1, 3) := by decide +kernel
theorem dX6_withPlaces_32 : decode cX6_withPlaces 32 = .ok (.goto (-27), 3) := by decide +kernel
theorem dX6_withPlaces_35 : decode cX6_withPlaces 35 = .ok (.lload_n 2, 1) := by decide +kernel
theorem dX6_withPlaces_36 : decode cX6_withPlaces 36 = .ok (.lreturn, 1) := by decide +kernel
set_option maxRecDepth 20000 in
theorem ggX6_times__X6_isWord : GoodIn wsX6_times_ wsX6_isWord := goodIn_r _ [6, 7, 8, 9, 5, 10, 40, 41, 42, 43, 44, 45, 46, 47, 48, 49, 50, 51, 52, 53, 54, 55, 56, 57, 58, 59, 60, 61, 62, 63, 64, 65] (by decide +kernel) (by decide +kernel)
set_option maxRecDepth 20000 in
theorem gX6_times__X6_isWord : GoodIn wsX6_times_ (wsV RX6 83 RX6 yX6_isWord wsX6_isWord) := goodIn_app (goodIn_of _ (by decide +kernel)) ggX6_times__X6_isWord
set_option maxRecDepth 20000 in
theorem ggX6_times__X6_isIn : GoodIn wsX6_times_ wsX6_isIn := goodIn_r _ [10] (by decide +kernel) (by decide +kernel)
set_option maxRecDepth 20000 in
theorem gX6_times__X6_isIn : GoodIn wsX6_times_ (va_wsS RX6 79 yX6_isIn wsX6_isIn) := goodIn_app (goodIn_of _ (by decide +kernel)) ggX6_times__X6_isIn
set_option maxRecDepth 20000 in
theorem ggX6_times__X6_power : GoodIn wsX6_times_ wsX6_power := goodIn_r _ [14, 15, 40, 41, 42, 43, 44, 45, 46, 47, 48, 49, 50, 51, 52, 53, 54, 55, 56, 57, 58, 59, 60, 61, 62, 63, 64, 65] (by decide +kernel) (by decide +kernel)
set_option maxRecDepth 20000 in
theorem gX6_times__X6_power : GoodIn wsX6_times_ (wsV RX6 188 RX6 yX6_power wsX6_power) := goodIn_app (goodIn_of _ (by decide +kernel)) ggX6_times__X6_power
set_option maxRecDepth 20000 in
theorem ggX6_times__X6_counts : GoodIn wsX6_times_ wsX6_counts := goodIn_r _ [19, 20, 21, 22, 7, 23, 24, 25, 26, 5, 27, 28, 29, 30, 31, 32, 33, 34, 35, 40, 41, 42, 43, 44, 45, 46, 47, 48, 49, 50, 51, 52, 53, 54, 55, 56, 57, 58, 59, 60, 61, 62, 63, 64, 65] (by decide +kernel) (by decide +kernel)
set_option maxRecDepth 20000 in
theorem gX6_times__X6_counts : GoodIn wsX6_times_ (wsV RX6 192 RX6 yX6_counts wsX6_counts) := goodIn_app (goodIn_of _ (by decide +kernel)) ggX6_times__X6_counts
set_option maxRecDepth 20000 in
theorem ggX6_times__X6_withPlaces : GoodIn wsX6_times_ wsX6_withPlaces := goodIn_r _ [39, 20, 40, 41, 42, 43, 44, 45, 46, 47, 48, 49, 50, 51, 52, 53, 54, 55, 56, 57, 58, 59, 60, 61, 62, 63, 64, 65] (by decide +kernel) (by decide +kernel)
set_option maxRecDepth 20000 in
theorem gX6_times__X6_withPlaces : GoodIn wsX6_times_ (wsV RX6 196 RX6 yX6_withPlaces wsX6_withPlaces) := goodIn_app (goodIn_of _ (by decide +kernel)) ggX6_times__X6_withPlaces
theorem dX6_times__0 : decode cX6_times_ 0 = .ok (.aload_n 0, 1) := by decide +kernel
theorem dX6_times__1 : decode cX6_times_ 1 = .ok (.iload_n 1, 1) := by decide +kernel
theorem dX6_times__2 : decode cX6_times_ 2 = .ok (.invokevirtual 83, 3) := by decide +kernel
theorem dX6_times__5 : decode cX6_times_ 5 = .ok (.ifCond .eq 12, 3) := by decide +kernel
theorem dX6_times__8 : decode cX6_times_ 8 = .ok (.iload_n 2, 1) := by decide +kernel
theorem dX6_times__9 : decode cX6_times_ 9 = .ok (.bipush 31, 2) := by decide +kernel
theorem dX6_times__11 : decode cX6_times_ 11 = .ok (.invokestatic 79, 3) := by decide +kernel
theorem dX6_times__14 : decode cX6_times_ 14 = .ok (.ifCond .ne 7, 3) := by decide +kernel
theorem dX6_times__17 : decode cX6_times_ 17 = .ok (.ldc2_w 186, 3) := by decide +kernel
theorem dX6_times__20 : decode cX6_times_ 20 = .ok (.lreturn, 1) := by decide +kernel
theorem dX6_times__21 : decode cX6_times_ 21 = .ok (.iload_n 3, 1) := by decide +kernel
theorem dX6_times__22 : decode cX6_times_ 22 = .ok (.ifCond .lt 9, 3) := by decide +kernel
theorem dX6_times__25 : decode cX6_times_ 25 = .ok (.iload_n 3, 1) := by decide +kernel
theorem dX6_times__26 : decode cX6_times_ 26 = .ok (.bipush 30, 2) := by decide +kernel
theorem dX6_times__28 : decode cX6_times_ 28 = .ok (.if_icmp .le 24, 3) := by decide +kernel
theorem dX6_times__31 : decode cX6_times_ 31 = .ok (.iload 4, 2) := by decide +kernel
theorem dX6_times__33 : decode cX6_times_ 33 = .ok (.ifCond .ne 9, 3) := by decide +kernel
theorem dX6_times__36 : decode cX6_times_ 36 = .ok (.iload_n 3, 1) := by decide +kernel
theorem dX6_times__37 : decode cX6_times_ 37 = .ok (.bipush 30, 2) := by decide +kernel
theorem dX6_times__39 : decode cX6_times_ 39 = .ok (.if_icmp .le 7, 3) := by decide +kernel
theorem dX6_times__42 : decode cX6_times_ 42 = .ok (.lconst 0, 1) := by decide +kernel
theorem dX6_times__43 : decode cX6_times_ 43 = .ok (.goto 8, 3) := by decide +kernel
theorem dX6_times__46 : decode cX6_times_ 46 = .ok (.aload_n 0, 1) := by decide +kernel
theorem dX6_times__47 : decode cX6_times_ 47 = .ok (.iload_n 2, 1) := by decide +kernel
theorem dX6_times__48 : decode cX6_times_ 48 = .ok (.invokevirtual 188, 3) := by decide +kernel
theorem dX6_times__51 : decode cX6_times_ 51 = .ok (.lreturn, 1) := by decide +kernel
theorem dX6_times__52 : decode cX6_times_ 52 = .ok (.aload_n 0, 1) := by decide +kernel
theorem dX6_times__53 : decode cX6_times_ 53 = .ok (.iconst 1, 1) := by decide +kernel
theorem dX6_times__54 : decode cX6_times_ 54 = .ok (.iload_n 1, 1) := by decide +kernel
theorem dX6_times__55 : decode cX6_times_ 55 = .ok (.ishl, 1) := by decide +kernel
theorem dX6_times__56 : decode cX6_times_ 56 = .ok (.iload_n 2, 1) := by decide +kernel
theorem dX6_times__57 : decode cX6_times_ 57 = .ok (.iconst 0, 1) := by decide +kernel
theorem dX6_times__58 : decode cX6_times_ 58 = .ok (.invokevirtual 192, 3) := by decide +kernel
theorem dX6_times__61 : decode cX6_times_ 61 = .ok (.lconst 0, 1) := by decide +kernel
theorem dX6_times__62 : decode cX6_times_ 62 = .ok (.lstore 5, 2) := by decide +kernel
theorem dX6_times__64 : decode cX6_times_ 64 = .ok (.iload_n 3, 1) := by decide +kernel
theorem dX6_times__65 : decode cX6_times_ 65 = .ok (.istore 7, 2) := by decide +kernel
theorem dX6_times__67 : decode cX6_times_ 67 = .ok (.iload 7, 2) := by decide +kernel
theorem dX6_times__69 : decode cX6_times_ 69 = .ok (.iload 4, 2) := by decide +kernel
theorem dX6_times__71 : decode cX6_times_ 71 = .ok (.ifCond .eq 9, 3) := by decide +kernel
theorem dX6_times__74 : decode cX6_times_ 74 = .ok (.iload_n 3, 1) := by decide +kernel
theorem dX6_times__75 : decode cX6_times_ 75 = .ok (.iconst 1, 1) := by decide +kernel
theorem dX6_times__76 : decode cX6_times_ 76 = .ok (.iadd, 1) := by decide +kernel
theorem dX6_times__77 : decode cX6_times_ 77 = .ok (.goto 5, 3) := by decide +kernel
theorem dX6_times__80 : decode cX6_times_ 80 = .ok (.bipush 31, 2) := by decide +kernel
theorem dX6_times__82 : decode cX6_times_ 82 = .ok (.if_icmp .ge 20, 3) := by decide +kernel
theorem dX6_times__85 : decode cX6_times_ 85 = .ok (.lload 5, 2) := by decide +kernel
theorem dX6_times__87 : decode cX6_times_ 87 = .ok (.aload_n 0, 1) := by decide +kernel
theorem dX6_times__88 : decode cX6_times_ 88 = .ok (.iload 7, 2) := by decide +kernel
theorem dX6_times__90 : decode cX6_times_ 90 = .ok (.invokevirtual 196, 3) := by decide +kernel
theorem dX6_times__93 : decode cX6_times_ 93 = .ok (.ladd, 1) := by decide +kernel
theorem dX6_times__94 : decode cX6_times_ 94 = .ok (.lstore 5, 2) := by decide +kernel
theorem dX6_times__96 : decode cX6_times_ 96 = .ok (.iinc 7 1, 3) := by decide +kernel
theorem dX6_times__99 : decode cX6_times_ 99 = .ok (.goto (-32), 3) := by decide +kernel
theorem dX6_times__102 : decode cX6_times_ 102 = .ok (.lload 5, 2) := by decide +kernel
theorem dX6_times__104 : decode cX6_times_ 104 = .ok (.lreturn, 1) := by decide +kernel
set_option maxRecDepth 20000 in
theorem ggX6_never_X6_isIn : GoodIn wsX6_never wsX6_isIn := goodIn_r _ [5] (by decide +kernel) (by decide +kernel)
set_option maxRecDepth 20000 in
theorem gX6_never_X6_isIn : GoodIn wsX6_never (va_wsS RX6 79 yX6_isIn wsX6_isIn) := goodIn_app (goodIn_of _ (by decide +kernel)) ggX6_never_X6_isIn
set_option maxRecDepth 20000 in
theorem ggX6_never_X6_counts : GoodIn wsX6_never wsX6_counts := goodIn_r _ [9, 10, 11, 12, 13, 14, 15, 16, 17, 4, 18, 19, 20, 21, 22, 23, 24, 25, 26, 31, 32, 33, 34, 35, 36, 37, 38, 39, 40, 41, 42, 43, 44, 45, 46, 47, 48, 49, 50, 51, 52, 53, 54, 55, 56] (by decide +kernel) (by decide +kernel)
set_option maxRecDepth 20000 in
theorem gX6_never_X6_counts : GoodIn wsX6_never (wsV RX6 192 RX6 yX6_counts wsX6_counts) := goodIn_app (goodIn_of _ (by decide +kernel)) ggX6_never_X6_counts
set_option maxRecDepth 20000 in
theorem ggX6_never_X6_withPlaces : GoodIn wsX6_never wsX6_withPlaces := goodIn_r _ [30, 10, 31, 32, 33, 34, 35, 36, 37, 38, 39, 40, 41, 42, 43, 44, 45, 46, 47, 48, 49, 50, 51, 52, 53, 54, 55, 56] (by decide +kernel) (by decide +kernel)
set_option maxRecDepth 20000 in
theorem gX6_never_X6_withPlaces : GoodIn wsX6_never (wsV RX6 196 RX6 yX6_withPlaces wsX6_withPlaces) := goodIn_app (goodIn_of _ (by decide +kernel)) ggX6_never_X6_withPlaces
theorem dX6_never_0 : decode cX6_never 0 = .ok (.iload_n 2, 1) := by decide +kernel
theorem dX6_never_1 : decode cX6_never 1 = .ok (.bipush 31, 2) := by decide +kernel
theorem dX6_never_3 : decode cX6_never 3 = .ok (.invokestatic 79, 3) := by decide +kernel
theorem dX6_never_6 : decode cX6_never 6 = .ok (.ifCond .ne 7, 3) := by decide +kernel
theorem dX6_never_9 : decode cX6_never 9 = .ok (.ldc2_w 186, 3) := by decide +kernel
theorem dX6_never_12 : decode cX6_never 12 = .ok (.lreturn, 1) := by decide +kernel
theorem dX6_never_13 : decode cX6_never 13 = .ok (.aload_n 0, 1) := by decide +kernel
theorem dX6_never_14 : decode cX6_never 14 = .ok (.iload_n 1, 1) := by decide +kernel
theorem dX6_never_15 : decode cX6_never 15 = .ok (.sipush 255, 3) := by decide +kernel
theorem dX6_never_18 : decode cX6_never 18 = .ok (.iand, 1) := by decide +kernel
theorem dX6_never_19 : decode cX6_never 19 = .ok (.iload_n 2, 1) := by decide +kernel
theorem dX6_never_20 : decode cX6_never 20 = .ok (.iconst 1, 1) := by decide +kernel
theorem dX6_never_21 : decode cX6_never 21 = .ok (.invokevirtual 192, 3) := by decide +kernel
theorem dX6_never_24 : decode cX6_never 24 = .ok (.aload_n 0, 1) := by decide +kernel
theorem dX6_never_25 : decode cX6_never 25 = .ok (.iconst 0, 1) := by decide +kernel
theorem dX6_never_26 : decode cX6_never 26 = .ok (.invokevirtual 196, 3) := by decide +kernel
theorem dX6_never_29 : decode cX6_never 29 = .ok (.lreturn, 1) := by decide +kernel
set_option maxRecDepth 20000 in
theorem ggX6_covered_X6_isIn : GoodIn wsX6_covered wsX6_isIn := goodIn_r _ [9] (by decide +kernel) (by decide +kernel)
set_option maxRecDepth 20000 in
theorem gX6_covered_X6_isIn : GoodIn wsX6_covered (va_wsS RX6 79 yX6_isIn wsX6_isIn) := goodIn_app (goodIn_of _ (by decide +kernel)) ggX6_covered_X6_isIn
theorem dX6_covered_0 : decode cX6_covered 0 = .ok (.iload_n 1, 1) := by decide +kernel
theorem dX6_covered_1 : decode cX6_covered 1 = .ok (.bipush 31, 2) := by decide +kernel
theorem dX6_covered_3 : decode cX6_covered 3 = .ok (.invokestatic 79, 3) := by decide +kernel
theorem dX6_covered_6 : decode cX6_covered 6 = .ok (.ifCond .ne 7, 3) := by decide +kernel
theorem dX6_covered_9 : decode cX6_covered 9 = .ok (.ldc2_w 186, 3) := by decide +kernel
theorem dX6_covered_12 : decode cX6_covered 12 = .ok (.lreturn, 1) := by decide +kernel
theorem dX6_covered_13 : decode cX6_covered 13 = .ok (.iconst 0, 1) := by decide +kernel
theorem dX6_covered_14 : decode cX6_covered 14 = .ok (.istore_n 2, 1) := by decide +kernel
theorem dX6_covered_15 : decode cX6_covered 15 = .ok (.iload_n 2, 1) := by decide +kernel
theorem dX6_covered_16 : decode cX6_covered 16 = .ok (.bipush 16, 2) := by decide +kernel
theorem dX6_covered_18 : decode cX6_covered 18 = .ok (.if_icmp .ge 24, 3) := by decide +kernel
theorem dX6_covered_21 : decode cX6_covered 21 = .ok (.aload_n 0, 1) := by decide +kernel
theorem dX6_covered_22 : decode cX6_covered 22 = .ok (.getfield 70, 3) := by decide +kernel
theorem dX6_covered_25 : decode cX6_covered 25 = .ok (.iload_n 2, 1) := by decide +kernel
theorem dX6_covered_26 : decode cX6_covered 26 = .ok (.iload_n 2, 1) := by decide +kernel
theorem dX6_covered_27 : decode cX6_covered 27 = .ok (.ifCond .ne 7, 3) := by decide +kernel
theorem dX6_covered_30 : decode cX6_covered 30 = .ok (.lconst 1, 1) := by decide +kernel
theorem dX6_covered_31 : decode cX6_covered 31 = .ok (.goto 4, 3) := by decide +kernel
theorem dX6_covered_34 : decode cX6_covered 34 = .ok (.lconst 0, 1) := by decide +kernel
theorem dX6_covered_35 : decode cX6_covered 35 = .ok (.lastore, 1) := by decide +kernel
theorem dX6_covered_36 : decode cX6_covered 36 = .ok (.iinc 2 1, 3) := by decide +kernel
theorem dX6_covered_39 : decode cX6_covered 39 = .ok (.goto (-24), 3) := by decide +kernel
theorem dX6_covered_42 : decode cX6_covered 42 = .ok (.iconst 0, 1) := by decide +kernel
theorem dX6_covered_43 : decode cX6_covered 43 = .ok (.istore_n 2, 1) := by decide +kernel
theorem dX6_covered_44 : decode cX6_covered 44 = .ok (.iload_n 2, 1) := by decide +kernel
theorem dX6_covered_45 : decode cX6_covered 45 = .ok (.iload_n 1, 1) := by decide +kernel
theorem dX6_covered_46 : decode cX6_covered 46 = .ok (.if_icmp .ge 117, 3) := by decide +kernel
theorem dX6_covered_49 : decode cX6_covered 49 = .ok (.iconst 0, 1) := by decide +kernel
theorem dX6_covered_50 : decode cX6_covered 50 = .ok (.istore_n 3, 1) := by decide +kernel
theorem dX6_covered_51 : decode cX6_covered 51 = .ok (.iload_n 3, 1) := by decide +kernel
theorem dX6_covered_52 : decode cX6_covered 52 = .ok (.bipush 16, 2) := by decide +kernel
theorem dX6_covered_54 : decode cX6_covered 54 = .ok (.if_icmp .ge 16, 3) := by decide +kernel
theorem dX6_covered_57 : decode cX6_covered 57 = .ok (.aload_n 0, 1) := by decide +kernel
theorem dX6_covered_58 : decode cX6_covered 58 = .ok (.getfield 73, 3) := by decide +kernel
theorem dX6_covered_61 : decode cX6_covered 61 = .ok (.iload_n 3, 1) := by decide +kernel
theorem dX6_covered_62 : decode cX6_covered 62 = .ok (.lconst 0, 1) := by decide +kernel
theorem dX6_covered_63 : decode cX6_covered 63 = .ok (.lastore, 1) := by decide +kernel
theorem dX6_covered_64 : decode cX6_covered 64 = .ok (.iinc 3 1, 3) := by decide +kernel
theorem dX6_covered_67 : decode cX6_covered 67 = .ok (.goto (-16), 3) := by decide +kernel
theorem dX6_covered_70 : decode cX6_covered 70 = .ok (.iconst 0, 1) := by decide +kernel
theorem dX6_covered_71 : decode cX6_covered 71 = .ok (.istore_n 3, 1) := by decide +kernel
theorem dX6_covered_72 : decode cX6_covered 72 = .ok (.iload_n 3, 1) := by decide +kernel
theorem dX6_covered_73 : decode cX6_covered 73 = .ok (.bipush 16, 2) := by decide +kernel
theorem dX6_covered_75 : decode cX6_covered 75 = .ok (.if_icmp .ge 56, 3) := by decide +kernel
theorem dX6_covered_78 : decode cX6_covered 78 = .ok (.iconst 0, 1) := by decide +kernel
theorem dX6_covered_79 : decode cX6_covered 79 = .ok (.istore 4, 2) := by decide +kernel
theorem dX6_covered_81 : decode cX6_covered 81 = .ok (.iload 4, 2) := by decide +kernel
theorem dX6_covered_83 : decode cX6_covered 83 = .ok (.aload_n 0, 1) := by decide +kernel
theorem dX6_covered_84 : decode cX6_covered 84 = .ok (.getfield 7, 3) := by decide +kernel
theorem dX6_covered_87 : decode cX6_covered 87 = .ok (.if_icmp .ge 38, 3) := by decide +kernel
theorem dX6_covered_90 : decode cX6_covered 90 = .ok (.aload_n 0, 1) := by decide +kernel
theorem dX6_covered_91 : decode cX6_covered 91 = .ok (.getfield 73, 3) := by decide +kernel
theorem dX6_covered_94 : decode cX6_covered 94 = .ok (.iload_n 3, 1) := by decide +kernel
theorem dX6_covered_95 : decode cX6_covered 95 = .ok (.iconst 1, 1) := by decide +kernel
theorem dX6_covered_96 : decode cX6_covered 96 = .ok (.iload 4, 2) := by decide +kernel
theorem dX6_covered_98 : decode cX6_covered 98 = .ok (.ishl, 1) := by decide +kernel
theorem dX6_covered_99 : decode cX6_covered 99 = .ok (.ior, 1) := by decide +kernel
theorem dX6_covered_100 : decode cX6_covered 100 = .ok (.dup2, 1) := by decide +kernel
theorem dX6_covered_101 : decode cX6_covered 101 = .ok (.laload, 1) := by decide +kernel
theorem dX6_covered_102 : decode cX6_covered 102 = .ok (.aload_n 0, 1) := by decide +kernel
theorem dX6_covered_103 : decode cX6_covered 103 = .ok (.getfield 70, 3) := by decide +kernel
theorem dX6_covered_106 : decode cX6_covered 106 = .ok (.iload_n 3, 1) := by decide +kernel
theorem dX6_covered_107 : decode cX6_covered 107 = .ok (.laload, 1) := by decide +kernel
theorem dX6_covered_108 : decode cX6_covered 108 = .ok (.aload_n 0, 1) := by decide +kernel
theorem dX6_covered_109 : decode cX6_covered 109 = .ok (.getfield 16, 3) := by decide +kernel
theorem dX6_covered_112 : decode cX6_covered 112 = .ok (.iload 4, 2) := by decide +kernel
theorem dX6_covered_114 : decode cX6_covered 114 = .ok (.iaload, 1) := by decide +kernel
theorem dX6_covered_115 : decode cX6_covered 115 = .ok (.i2l, 1) := by decide +kernel
theorem dX6_covered_116 : decode cX6_covered 116 = .ok (.lmul, 1) := by decide +kernel
theorem dX6_covered_117 : decode cX6_covered 117 = .ok (.ladd, 1) := by decide +kernel
theorem dX6_covered_118 : decode cX6_covered 118 = .ok (.lastore, 1) := by decide +kernel
theorem dX6_covered_119 : decode cX6_covered 119 = .ok (.iinc 4 1, 3) := by decide +kernel
theorem dX6_covered_122 : decode cX6_covered 122 = .ok (.goto (-41), 3) := by decide +kernel
theorem dX6_covered_125 : decode cX6_covered 125 = .ok (.iinc 3 1, 3) := by decide +kernel
theorem dX6_covered_128 : decode cX6_covered 128 = .ok (.goto (-56), 3) := by decide +kernel
theorem dX6_covered_131 : decode cX6_covered 131 = .ok (.iconst 0, 1) := by decide +kernel
theorem dX6_covered_132 : decode cX6_covered 132 = .ok (.istore_n 3, 1) := by decide +kernel
theorem dX6_covered_133 : decode cX6_covered 133 = .ok (.iload_n 3, 1) := by decide +kernel
theorem dX6_covered_134 : decode cX6_covered 134 = .ok (.bipush 16, 2) := by decide +kernel
theorem dX6_covered_136 : decode cX6_covered 136 = .ok (.if_icmp .ge 21, 3) := by decide +kernel
theorem dX6_covered_139 : decode cX6_covered 139 = .ok (.aload_n 0, 1) := by decide +kernel
theorem dX6_covered_140 : decode cX6_covered 140 = .ok (.getfield 70, 3) := by decide +kernel
theorem dX6_covered_143 : decode cX6_covered 143 = .ok (.iload_n 3, 1) := by decide +kernel
theorem dX6_covered_144 : decode cX6_covered 144 = .ok (.aload_n 0, 1) := by decide +kernel
theorem dX6_covered_145 : decode cX6_covered 145 = .ok (.getfield 73, 3) := by decide +kernel
theorem dX6_covered_148 : decode cX6_covered 148 = .ok (.iload_n 3, 1) := by decide +kernel
theorem dX6_covered_149 : decode cX6_covered 149 = .ok (.laload, 1) := by decide +kernel
theorem dX6_covered_150 : decode cX6_covered 150 = .ok (.lastore, 1) := by decide +kernel
theorem dX6_covered_151 : decode cX6_covered 151 = .ok (.iinc 3 1, 3) := by decide +kernel
theorem dX6_covered_154 : decode cX6_covered 154 = .ok (.goto (-21), 3) := by decide +kernel
theorem dX6_covered_157 : decode cX6_covered 157 = .ok (.iinc 2 1, 3) := by decide +kernel
theorem dX6_covered_160 : decode cX6_covered 160 = .ok (.goto (-116), 3) := by decide +kernel
theorem dX6_covered_163 : decode cX6_covered 163 = .ok (.aload_n 0, 1) := by decide +kernel
theorem dX6_covered_164 : decode cX6_covered 164 = .ok (.getfield 70, 3) := by decide +kernel
theorem dX6_covered_167 : decode cX6_covered 167 = .ok (.iconst 1, 1) := by decide +kernel
theorem dX6_covered_168 : decode cX6_covered 168 = .ok (.aload_n 0, 1) := by decide +kernel
theorem dX6_covered_169 : decode cX6_covered 169 = .ok (.getfield 7, 3) := by decide +kernel
theorem dX6_covered_172 : decode cX6_covered 172 = .ok (.ishl, 1) := by decide +kernel
theorem dX6_covered_173 : decode cX6_covered 173 = .ok (.iconst 1, 1) := by decide +kernel
theorem dX6_covered_174 : decode cX6_covered 174 = .ok (.isub, 1) := by decide +kernel
theorem dX6_covered_175 : decode cX6_covered 175 = .ok (.laload, 1) := by decide +kernel
theorem dX6_covered_176 : decode cX6_covered 176 = .ok (.lreturn, 1) := by decide +kernel
set_option maxRecDepth 20000 in
theorem ggX6_draw_X6_isIn : GoodIn wsX6_draw wsX6_isIn := goodIn_r _ [9] (by decide +kernel) (by decide +kernel)
set_option maxRecDepth 20000 in
theorem gX6_draw_X6_isIn : GoodIn wsX6_draw (va_wsS RX6 79 yX6_isIn wsX6_isIn) := goodIn_app (goodIn_of _ (by decide +kernel)) ggX6_draw_X6_isIn
theorem dX6_draw_0 : decode cX6_draw 0 = .ok (.iload_n 2, 1) := by decide +kernel
theorem dX6_draw_1 : decode cX6_draw 1 = .ok (.sipush 301, 3) := by decide +kernel
theorem dX6_draw_4 : decode cX6_draw 4 = .ok (.invokestatic 79, 3) := by decide +kernel
theorem dX6_draw_7 : decode cX6_draw 7 = .ok (.ifCond .ne 5, 3) := by decide +kernel
theorem dX6_draw_10 : decode cX6_draw 10 = .ok (.iconst 0, 1) := by decide +kernel
theorem dX6_draw_11 : decode cX6_draw 11 = .ok (.ireturn, 1) := by decide +kernel
theorem dX6_draw_12 : decode cX6_draw 12 = .ok (.iload_n 1, 1) := by decide +kernel
theorem dX6_draw_13 : decode cX6_draw 13 = .ok (.istore_n 3, 1) := by decide +kernel
theorem dX6_draw_14 : decode cX6_draw 14 = .ok (.iconst 0, 1) := by decide +kernel
theorem dX6_draw_15 : decode cX6_draw 15 = .ok (.istore 4, 2) := by decide +kernel
theorem dX6_draw_17 : decode cX6_draw 17 = .ok (.iload 4, 2) := by decide +kernel
theorem dX6_draw_19 : decode cX6_draw 19 = .ok (.iload_n 2, 1) := by decide +kernel
theorem dX6_draw_20 : decode cX6_draw 20 = .ok (.if_icmp .ge 74, 3) := by decide +kernel
theorem dX6_draw_23 : decode cX6_draw 23 = .ok (.iload_n 3, 1) := by decide +kernel
theorem dX6_draw_24 : decode cX6_draw 24 = .ok (.ldc 199, 2) := by decide +kernel
theorem dX6_draw_26 : decode cX6_draw 26 = .ok (.imul, 1) := by decide +kernel
theorem dX6_draw_27 : decode cX6_draw 27 = .ok (.sipush 12345, 3) := by decide +kernel
theorem dX6_draw_30 : decode cX6_draw 30 = .ok (.iadd, 1) := by decide +kernel
theorem dX6_draw_31 : decode cX6_draw 31 = .ok (.istore_n 3, 1) := by decide +kernel
theorem dX6_draw_32 : decode cX6_draw 32 = .ok (.iload_n 3, 1) := by decide +kernel
theorem dX6_draw_33 : decode cX6_draw 33 = .ok (.bipush 16, 2) := by decide +kernel
theorem dX6_draw_35 : decode cX6_draw 35 = .ok (.iushr, 1) := by decide +kernel
theorem dX6_draw_36 : decode cX6_draw 36 = .ok (.aload_n 0, 1) := by decide +kernel
theorem dX6_draw_37 : decode cX6_draw 37 = .ok (.getfield 13, 3) := by decide +kernel
theorem dX6_draw_40 : decode cX6_draw 40 = .ok (.irem, 1) := by decide +kernel
theorem dX6_draw_41 : decode cX6_draw 41 = .ok (.istore 5, 2) := by decide +kernel
theorem dX6_draw_43 : decode cX6_draw 43 = .ok (.iconst 0, 1) := by decide +kernel
theorem dX6_draw_44 : decode cX6_draw 44 = .ok (.istore 6, 2) := by decide +kernel
theorem dX6_draw_46 : decode cX6_draw 46 = .ok (.aload_n 0, 1) := by decide +kernel
theorem dX6_draw_47 : decode cX6_draw 47 = .ok (.getfield 16, 3) := by decide +kernel
theorem dX6_draw_50 : decode cX6_draw 50 = .ok (.iconst 0, 1) := by decide +kernel
theorem dX6_draw_51 : decode cX6_draw 51 = .ok (.iaload, 1) := by decide +kernel
theorem dX6_draw_52 : decode cX6_draw 52 = .ok (.istore 7, 2) := by decide +kernel
theorem dX6_draw_54 : decode cX6_draw 54 = .ok (.iload 7, 2) := by decide +kernel
theorem dX6_draw_56 : decode cX6_draw 56 = .ok (.iload 5, 2) := by decide +kernel
theorem dX6_draw_58 : decode cX6_draw 58 = .ok (.if_icmp .gt 21, 3) := by decide +kernel
theorem dX6_draw_61 : decode cX6_draw 61 = .ok (.iinc 6 1, 3) := by decide +kernel
theorem dX6_draw_64 : decode cX6_draw 64 = .ok (.iload 7, 2) := by decide +kernel
theorem dX6_draw_66 : decode cX6_draw 66 = .ok (.aload_n 0, 1) := by decide +kernel
theorem dX6_draw_67 : decode cX6_draw 67 = .ok (.getfield 16, 3) := by decide +kernel
theorem dX6_draw_70 : decode cX6_draw 70 = .ok (.iload 6, 2) := by decide +kernel
theorem dX6_draw_72 : decode cX6_draw 72 = .ok (.iaload, 1) := by decide +kernel
theorem dX6_draw_73 : decode cX6_draw 73 = .ok (.iadd, 1) := by decide +kernel
theorem dX6_draw_74 : decode cX6_draw 74 = .ok (.istore 7, 2) := by decide +kernel
theorem dX6_draw_76 : decode cX6_draw 76 = .ok (.goto (-22), 3) := by decide +kernel
theorem dX6_draw_79 : decode cX6_draw 79 = .ok (.aload_n 0, 1) := by decide +kernel
theorem dX6_draw_80 : decode cX6_draw 80 = .ok (.getfield 26, 3) := by decide +kernel
theorem dX6_draw_83 : decode cX6_draw 83 = .ok (.iload 4, 2) := by decide +kernel
theorem dX6_draw_85 : decode cX6_draw 85 = .ok (.iload 6, 2) := by decide +kernel
theorem dX6_draw_87 : decode cX6_draw 87 = .ok (.iastore, 1) := by decide +kernel
theorem dX6_draw_88 : decode cX6_draw 88 = .ok (.iinc 4 1, 3) := by decide +kernel
theorem dX6_draw_91 : decode cX6_draw 91 = .ok (.goto (-74), 3) := by decide +kernel
theorem dX6_draw_94 : decode cX6_draw 94 = .ok (.aload_n 0, 1) := by decide +kernel
theorem dX6_draw_95 : decode cX6_draw 95 = .ok (.iload_n 2, 1) := by decide +kernel
theorem dX6_draw_96 : decode cX6_draw 96 = .ok (.putfield 76, 3) := by decide +kernel
theorem dX6_draw_99 : decode cX6_draw 99 = .ok (.iload_n 3, 1) := by decide +kernel
theorem dX6_draw_100 : decode cX6_draw 100 = .ok (.ireturn, 1) := by decide +kernel
set_option maxRecDepth 20000 in
theorem ggX6_add__X6_isIn : GoodIn wsX6_add_ wsX6_isIn := goodIn_r _ [7] (by decide +kernel) (by decide +kernel)
set_option maxRecDepth 20000 in
theorem gX6_add__X6_isIn : GoodIn wsX6_add_ (va_wsS RX6 79 yX6_isIn wsX6_isIn) := goodIn_app (goodIn_of _ (by decide +kernel)) ggX6_add__X6_isIn
theorem dX6_add__0 : decode cX6_add_ 0 = .ok (.iload_n 1, 1) := by decide +kernel
theorem dX6_add__1 : decode cX6_add_ 1 = .ok (.aload_n 0, 1) := by decide +kernel
theorem dX6_add__2 : decode cX6_add_ 2 = .ok (.getfield 7, 3) := by decide +kernel
theorem dX6_add__5 : decode cX6_add_ 5 = .ok (.invokestatic 79, 3) := by decide +kernel
theorem dX6_add__8 : decode cX6_add_ 8 = .ok (.ifCond .eq 13, 3) := by decide +kernel
theorem dX6_add__11 : decode cX6_add_ 11 = .ok (.aload_n 0, 1) := by decide +kernel
theorem dX6_add__12 : decode cX6_add_ 12 = .ok (.getfield 76, 3) := by decide +kernel
theorem dX6_add__15 : decode cX6_add_ 15 = .ok (.sipush 300, 3) := by decide +kernel
theorem dX6_add__18 : decode cX6_add_ 18 = .ok (.if_icmp .ne 5, 3) := by decide +kernel
theorem dX6_add__21 : decode cX6_add_ 21 = .ok (.iconst (-1), 1) := by decide +kernel
theorem dX6_add__22 : decode cX6_add_ 22 = .ok (.ireturn, 1) := by decide +kernel
theorem dX6_add__23 : decode cX6_add_ 23 = .ok (.aload_n 0, 1) := by decide +kernel
theorem dX6_add__24 : decode cX6_add_ 24 = .ok (.getfield 26, 3) := by decide +kernel
theorem dX6_add__27 : decode cX6_add_ 27 = .ok (.aload_n 0, 1) := by decide +kernel
theorem dX6_add__28 : decode cX6_add_ 28 = .ok (.getfield 76, 3) := by decide +kernel
theorem dX6_add__31 : decode cX6_add_ 31 = .ok (.iload_n 1, 1) := by decide +kernel
theorem dX6_add__32 : decode cX6_add_ 32 = .ok (.iastore, 1) := by decide +kernel
theorem dX6_add__33 : decode cX6_add_ 33 = .ok (.aload_n 0, 1) := by decide +kernel
theorem dX6_add__34 : decode cX6_add_ 34 = .ok (.dup, 1) := by decide +kernel
theorem dX6_add__35 : decode cX6_add_ 35 = .ok (.getfield 76, 3) := by decide +kernel
theorem dX6_add__38 : decode cX6_add_ 38 = .ok (.iconst 1, 1) := by decide +kernel
theorem dX6_add__39 : decode cX6_add_ 39 = .ok (.iadd, 1) := by decide +kernel
theorem dX6_add__40 : decode cX6_add_ 40 = .ok (.putfield 76, 3) := by decide +kernel
theorem dX6_add__43 : decode cX6_add_ 43 = .ok (.aload_n 0, 1) := by decide +kernel
theorem dX6_add__44 : decode cX6_add_ 44 = .ok (.getfield 76, 3) := by decide +kernel
theorem dX6_add__47 : decode cX6_add_ 47 = .ok (.ireturn, 1) := by decide +kernel
set_option maxRecDepth 20000 in
theorem ggX6_letter_X6_isIn : GoodIn wsX6_letter wsX6_isIn := goodIn_r _ [6] (by decide +kernel) (by decide +kernel)
set_option maxRecDepth 20000 in
theorem gX6_letter_X6_isIn : GoodIn wsX6_letter (va_wsS RX6 79 yX6_isIn wsX6_isIn) := goodIn_app (goodIn_of _ (by decide +kernel)) ggX6_letter_X6_isIn
theorem dX6_letter_0 : decode cX6_letter 0 = .ok (.iload_n 1, 1) := by decide +kernel
theorem dX6_letter_1 : decode cX6_letter 1 = .ok (.aload_n 0, 1) := by decide +kernel
theorem dX6_letter_2 : decode cX6_letter 2 = .ok (.getfield 76, 3) := by decide +kernel
theorem dX6_letter_5 : decode cX6_letter 5 = .ok (.invokestatic 79, 3) := by decide +kernel
theorem dX6_letter_8 : decode cX6_letter 8 = .ok (.ifCond .eq 12, 3) := by decide +kernel
theorem dX6_letter_11 : decode cX6_letter 11 = .ok (.aload_n 0, 1) := by decide +kernel
theorem dX6_letter_12 : decode cX6_letter 12 = .ok (.getfield 26, 3) := by decide +kernel
theorem dX6_letter_15 : decode cX6_letter 15 = .ok (.iload_n 1, 1) := by decide +kernel
theorem dX6_letter_16 : decode cX6_letter 16 = .ok (.iaload, 1) := by decide +kernel
theorem dX6_letter_17 : decode cX6_letter 17 = .ok (.goto 4, 3) := by decide +kernel
theorem dX6_letter_20 : decode cX6_letter 20 = .ok (.iconst (-1), 1) := by decide +kernel
theorem dX6_letter_21 : decode cX6_letter 21 = .ok (.ireturn, 1) := by decide +kernel
set_option maxRecDepth 20000 in
theorem ggX6_stands_X6_letterOf : GoodIn wsX6_stands wsX6_letterOf := goodIn_r _ [7, 8, 9, 10, 11, 12, 13, 14, 15, 16, 17, 18, 19, 20, 21, 22, 23, 24, 25, 26, 27, 28, 29, 30, 31, 32, 33, 34] (by decide +kernel) (by decide +kernel)
set_option maxRecDepth 20000 in
theorem gX6_stands_X6_letterOf : GoodIn wsX6_stands (wsV RX6 87 RX6 yX6_letterOf wsX6_letterOf) := goodIn_app (goodIn_of _ (by decide +kernel)) ggX6_stands_X6_letterOf
theorem dX6_stands_0 : decode cX6_stands 0 = .ok (.iload_n 2, 1) := by decide +kernel
theorem dX6_stands_1 : decode cX6_stands 1 = .ok (.aload_n 0, 1) := by decide +kernel
theorem dX6_stands_2 : decode cX6_stands 2 = .ok (.getfield 20, 3) := by decide +kernel
theorem dX6_stands_5 : decode cX6_stands 5 = .ok (.iload_n 1, 1) := by decide +kernel
theorem dX6_stands_6 : decode cX6_stands 6 = .ok (.iaload, 1) := by decide +kernel
theorem dX6_stands_7 : decode cX6_stands 7 = .ok (.if_icmp .lt 7, 3) := by decide +kernel
theorem dX6_stands_10 : decode cX6_stands 10 = .ok (.iconst 1, 1) := by decide +kernel
theorem dX6_stands_11 : decode cX6_stands 11 = .ok (.goto 4, 3) := by decide +kernel
theorem dX6_stands_14 : decode cX6_stands 14 = .ok (.iconst 0, 1) := by decide +kernel
theorem dX6_stands_15 : decode cX6_stands 15 = .ok (.istore_n 3, 1) := by decide +kernel
theorem dX6_stands_16 : decode cX6_stands 16 = .ok (.iconst 0, 1) := by decide +kernel
theorem dX6_stands_17 : decode cX6_stands 17 = .ok (.istore 4, 2) := by decide +kernel
theorem dX6_stands_19 : decode cX6_stands 19 = .ok (.iload 4, 2) := by decide +kernel
theorem dX6_stands_21 : decode cX6_stands 21 = .ok (.aload_n 0, 1) := by decide +kernel
theorem dX6_stands_22 : decode cX6_stands 22 = .ok (.getfield 20, 3) := by decide +kernel
theorem dX6_stands_25 : decode cX6_stands 25 = .ok (.iload_n 1, 1) := by decide +kernel
theorem dX6_stands_26 : decode cX6_stands 26 = .ok (.iaload, 1) := by decide +kernel
theorem dX6_stands_27 : decode cX6_stands 27 = .ok (.if_icmp .ge 45, 3) := by decide +kernel
theorem dX6_stands_30 : decode cX6_stands 30 = .ok (.iload_n 3, 1) := by decide +kernel
theorem dX6_stands_31 : decode cX6_stands 31 = .ok (.ifCond .eq 41, 3) := by decide +kernel
theorem dX6_stands_34 : decode cX6_stands 34 = .ok (.aload_n 0, 1) := by decide +kernel
theorem dX6_stands_35 : decode cX6_stands 35 = .ok (.getfield 26, 3) := by decide +kernel
theorem dX6_stands_38 : decode cX6_stands 38 = .ok (.iload_n 2, 1) := by decide +kernel
theorem dX6_stands_39 : decode cX6_stands 39 = .ok (.aload_n 0, 1) := by decide +kernel
theorem dX6_stands_40 : decode cX6_stands 40 = .ok (.getfield 20, 3) := by decide +kernel
theorem dX6_stands_43 : decode cX6_stands 43 = .ok (.iload_n 1, 1) := by decide +kernel
theorem dX6_stands_44 : decode cX6_stands 44 = .ok (.iaload, 1) := by decide +kernel
theorem dX6_stands_45 : decode cX6_stands 45 = .ok (.isub, 1) := by decide +kernel
theorem dX6_stands_46 : decode cX6_stands 46 = .ok (.iload 4, 2) := by decide +kernel
theorem dX6_stands_48 : decode cX6_stands 48 = .ok (.iadd, 1) := by decide +kernel
theorem dX6_stands_49 : decode cX6_stands 49 = .ok (.iaload, 1) := by decide +kernel
theorem dX6_stands_50 : decode cX6_stands 50 = .ok (.aload_n 0, 1) := by decide +kernel
theorem dX6_stands_51 : decode cX6_stands 51 = .ok (.iload_n 1, 1) := by decide +kernel
theorem dX6_stands_52 : decode cX6_stands 52 = .ok (.iload 4, 2) := by decide +kernel
theorem dX6_stands_54 : decode cX6_stands 54 = .ok (.invokevirtual 87, 3) := by decide +kernel
theorem dX6_stands_57 : decode cX6_stands 57 = .ok (.if_icmp .ne 7, 3) := by decide +kernel
theorem dX6_stands_60 : decode cX6_stands 60 = .ok (.iconst 1, 1) := by decide +kernel
theorem dX6_stands_61 : decode cX6_stands 61 = .ok (.goto 4, 3) := by decide +kernel
theorem dX6_stands_64 : decode cX6_stands 64 = .ok (.iconst 0, 1) := by decide +kernel
theorem dX6_stands_65 : decode cX6_stands 65 = .ok (.istore_n 3, 1) := by decide +kernel
theorem dX6_stands_66 : decode cX6_stands 66 = .ok (.iinc 4 1, 3) := by decide +kernel
theorem dX6_stands_69 : decode cX6_stands 69 = .ok (.goto (-50), 3) := by decide +kernel
theorem dX6_stands_72 : decode cX6_stands 72 = .ok (.iload_n 3, 1) := by decide +kernel
theorem dX6_stands_73 : decode cX6_stands 73 = .ok (.ireturn, 1) := by decide +kernel
set_option maxRecDepth 20000 in
theorem ggX6_firstOf_X6_stands : GoodIn wsX6_firstOf wsX6_stands := goodIn_r _ [6, 7, 8, 9, 10, 11, 5, 12, 13, 14, 15, 16, 17, 18, 19, 20, 21, 22, 23, 24, 25, 26, 27, 28, 29, 30, 31, 32, 33, 34, 35, 36, 37, 38, 39] (by decide +kernel) (by decide +kernel)
set_option maxRecDepth 20000 in
theorem gX6_firstOf_X6_stands : GoodIn wsX6_firstOf (wsV RX6 200 RX6 yX6_stands wsX6_stands) := goodIn_app (goodIn_of _ (by decide +kernel)) ggX6_firstOf_X6_stands
theorem dX6_firstOf_0 : decode cX6_firstOf 0 = .ok (.iconst 1, 1) := by decide +kernel
theorem dX6_firstOf_1 : decode cX6_firstOf 1 = .ok (.istore_n 2, 1) := by decide +kernel
theorem dX6_firstOf_2 : decode cX6_firstOf 2 = .ok (.iload_n 2, 1) := by decide +kernel
theorem dX6_firstOf_3 : decode cX6_firstOf 3 = .ok (.aload_n 0, 1) := by decide +kernel
theorem dX6_firstOf_4 : decode cX6_firstOf 4 = .ok (.getfield 76, 3) := by decide +kernel
theorem dX6_firstOf_7 : decode cX6_firstOf 7 = .ok (.if_icmp .gt 20, 3) := by decide +kernel
theorem dX6_firstOf_10 : decode cX6_firstOf 10 = .ok (.aload_n 0, 1) := by decide +kernel
theorem dX6_firstOf_11 : decode cX6_firstOf 11 = .ok (.iload_n 1, 1) := by decide +kernel
theorem dX6_firstOf_12 : decode cX6_firstOf 12 = .ok (.iload_n 2, 1) := by decide +kernel
theorem dX6_firstOf_13 : decode cX6_firstOf 13 = .ok (.invokevirtual 200, 3) := by decide +kernel
theorem dX6_firstOf_16 : decode cX6_firstOf 16 = .ok (.ifCond .eq 5, 3) := by decide +kernel
theorem dX6_firstOf_19 : decode cX6_firstOf 19 = .ok (.iload_n 2, 1) := by decide +kernel
theorem dX6_firstOf_20 : decode cX6_firstOf 20 = .ok (.ireturn, 1) := by decide +kernel
