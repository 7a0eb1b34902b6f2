theorem dX6_wait_21 : decode cX6_wait 21 = .ok (.ishl, 1) := by decide +kernel
theorem dX6_wait_22 : decode cX6_wait 22 = .ok (.invokevirtual 167, 3) := by decide +kernel
theorem dX6_wait_25 : decode cX6_wait 25 = .ok (.iload_n 2, 1) := by decide +kernel
theorem dX6_wait_26 : decode cX6_wait 26 = .ok (.ifCond .ne 21, 3) := by decide +kernel
theorem dX6_wait_29 : decode cX6_wait 29 = .ok (.aload_n 0, 1) := by decide +kernel
theorem dX6_wait_30 : decode cX6_wait 30 = .ok (.aload_n 0, 1) := by decide +kernel
theorem dX6_wait_31 : decode cX6_wait 31 = .ok (.getfield 52, 3) := by decide +kernel
theorem dX6_wait_34 : decode cX6_wait 34 = .ok (.iconst 0, 1) := by decide +kernel
theorem dX6_wait_35 : decode cX6_wait 35 = .ok (.laload, 1) := by decide +kernel
theorem dX6_wait_36 : decode cX6_wait 36 = .ok (.aload_n 0, 1) := by decide +kernel
theorem dX6_wait_37 : decode cX6_wait 37 = .ok (.getfield 55, 3) := by decide +kernel
theorem dX6_wait_40 : decode cX6_wait 40 = .ok (.iconst 0, 1) := by decide +kernel
theorem dX6_wait_41 : decode cX6_wait 41 = .ok (.laload, 1) := by decide +kernel
theorem dX6_wait_42 : decode cX6_wait 42 = .ok (.invokevirtual 127, 3) := by decide +kernel
theorem dX6_wait_45 : decode cX6_wait 45 = .ok (.iconst 1, 1) := by decide +kernel
theorem dX6_wait_46 : decode cX6_wait 46 = .ok (.ireturn, 1) := by decide +kernel
theorem dX6_wait_47 : decode cX6_wait 47 = .ok (.iconst 0, 1) := by decide +kernel
theorem dX6_wait_48 : decode cX6_wait 48 = .ok (.istore_n 3, 1) := by decide +kernel
theorem dX6_wait_49 : decode cX6_wait 49 = .ok (.iload_n 3, 1) := by decide +kernel
theorem dX6_wait_50 : decode cX6_wait 50 = .ok (.aload_n 0, 1) := by decide +kernel
theorem dX6_wait_51 : decode cX6_wait 51 = .ok (.getfield 130, 3) := by decide +kernel
theorem dX6_wait_54 : decode cX6_wait 54 = .ok (.if_icmp .ge 33, 3) := by decide +kernel
theorem dX6_wait_57 : decode cX6_wait 57 = .ok (.aload_n 0, 1) := by decide +kernel
theorem dX6_wait_58 : decode cX6_wait 58 = .ok (.getfield 58, 3) := by decide +kernel
theorem dX6_wait_61 : decode cX6_wait 61 = .ok (.iload_n 3, 1) := by decide +kernel
theorem dX6_wait_62 : decode cX6_wait 62 = .ok (.aload_n 0, 1) := by decide +kernel
theorem dX6_wait_63 : decode cX6_wait 63 = .ok (.getfield 52, 3) := by decide +kernel
theorem dX6_wait_66 : decode cX6_wait 66 = .ok (.iload_n 3, 1) := by decide +kernel
theorem dX6_wait_67 : decode cX6_wait 67 = .ok (.laload, 1) := by decide +kernel
theorem dX6_wait_68 : decode cX6_wait 68 = .ok (.lastore, 1) := by decide +kernel
theorem dX6_wait_69 : decode cX6_wait 69 = .ok (.aload_n 0, 1) := by decide +kernel
theorem dX6_wait_70 : decode cX6_wait 70 = .ok (.getfield 61, 3) := by decide +kernel
theorem dX6_wait_73 : decode cX6_wait 73 = .ok (.iload_n 3, 1) := by decide +kernel
theorem dX6_wait_74 : decode cX6_wait 74 = .ok (.aload_n 0, 1) := by decide +kernel
theorem dX6_wait_75 : decode cX6_wait 75 = .ok (.getfield 55, 3) := by decide +kernel
theorem dX6_wait_78 : decode cX6_wait 78 = .ok (.iload_n 3, 1) := by decide +kernel
theorem dX6_wait_79 : decode cX6_wait 79 = .ok (.laload, 1) := by decide +kernel
theorem dX6_wait_80 : decode cX6_wait 80 = .ok (.lastore, 1) := by decide +kernel
theorem dX6_wait_81 : decode cX6_wait 81 = .ok (.iinc 3 1, 3) := by decide +kernel
theorem dX6_wait_84 : decode cX6_wait 84 = .ok (.goto (-35), 3) := by decide +kernel
theorem dX6_wait_87 : decode cX6_wait 87 = .ok (.aload_n 0, 1) := by decide +kernel
theorem dX6_wait_88 : decode cX6_wait 88 = .ok (.invokevirtual 157, 3) := by decide +kernel
theorem dX6_wait_91 : decode cX6_wait 91 = .ok (.iconst 0, 1) := by decide +kernel
theorem dX6_wait_92 : decode cX6_wait 92 = .ok (.istore_n 3, 1) := by decide +kernel
theorem dX6_wait_93 : decode cX6_wait 93 = .ok (.iload_n 3, 1) := by decide +kernel
theorem dX6_wait_94 : decode cX6_wait 94 = .ok (.aload_n 0, 1) := by decide +kernel
theorem dX6_wait_95 : decode cX6_wait 95 = .ok (.getfield 130, 3) := by decide +kernel
theorem dX6_wait_98 : decode cX6_wait 98 = .ok (.if_icmp .ge 128, 3) := by decide +kernel
theorem dX6_wait_101 : decode cX6_wait 101 = .ok (.aload_n 0, 1) := by decide +kernel
theorem dX6_wait_102 : decode cX6_wait 102 = .ok (.getfield 13, 3) := by decide +kernel
theorem dX6_wait_105 : decode cX6_wait 105 = .ok (.i2l, 1) := by decide +kernel
theorem dX6_wait_106 : decode cX6_wait 106 = .ok (.lstore 4, 2) := by decide +kernel
theorem dX6_wait_108 : decode cX6_wait 108 = .ok (.lconst 1, 1) := by decide +kernel
theorem dX6_wait_109 : decode cX6_wait 109 = .ok (.lstore 6, 2) := by decide +kernel
theorem dX6_wait_111 : decode cX6_wait 111 = .ok (.iconst 0, 1) := by decide +kernel
theorem dX6_wait_112 : decode cX6_wait 112 = .ok (.istore 8, 2) := by decide +kernel
theorem dX6_wait_114 : decode cX6_wait 114 = .ok (.iload 8, 2) := by decide +kernel
theorem dX6_wait_116 : decode cX6_wait 116 = .ok (.aload_n 0, 1) := by decide +kernel
theorem dX6_wait_117 : decode cX6_wait 117 = .ok (.getfield 7, 3) := by decide +kernel
theorem dX6_wait_120 : decode cX6_wait 120 = .ok (.if_icmp .ge 91, 3) := by decide +kernel
theorem dX6_wait_123 : decode cX6_wait 123 = .ok (.aload_n 0, 1) := by decide +kernel
theorem dX6_wait_124 : decode cX6_wait 124 = .ok (.getfield 39, 3) := by decide +kernel
theorem dX6_wait_127 : decode cX6_wait 127 = .ok (.iconst 4, 1) := by decide +kernel
theorem dX6_wait_128 : decode cX6_wait 128 = .ok (.iload_n 3, 1) := by decide +kernel
theorem dX6_wait_129 : decode cX6_wait 129 = .ok (.imul, 1) := by decide +kernel
theorem dX6_wait_130 : decode cX6_wait 130 = .ok (.iload 8, 2) := by decide +kernel
theorem dX6_wait_132 : decode cX6_wait 132 = .ok (.iadd, 1) := by decide +kernel
theorem dX6_wait_133 : decode cX6_wait 133 = .ok (.iaload, 1) := by decide +kernel
theorem dX6_wait_134 : decode cX6_wait 134 = .ok (.istore 9, 2) := by decide +kernel
theorem dX6_wait_136 : decode cX6_wait 136 = .ok (.iload 9, 2) := by decide +kernel
theorem dX6_wait_138 : decode cX6_wait 138 = .ok (.bipush 100, 2) := by decide +kernel
theorem dX6_wait_140 : decode cX6_wait 140 = .ok (.if_icmp .lt 6, 3) := by decide +kernel
theorem dX6_wait_143 : decode cX6_wait 143 = .ok (.goto 62, 3) := by decide +kernel
theorem dX6_wait_146 : decode cX6_wait 146 = .ok (.aload_n 0, 1) := by decide +kernel
theorem dX6_wait_147 : decode cX6_wait 147 = .ok (.ldc2_w 170, 3) := by decide +kernel
theorem dX6_wait_150 : decode cX6_wait 150 = .ok (.aload_n 0, 1) := by decide +kernel
theorem dX6_wait_151 : decode cX6_wait 151 = .ok (.getfield 16, 3) := by decide +kernel
theorem dX6_wait_154 : decode cX6_wait 154 = .ok (.iload 8, 2) := by decide +kernel
theorem dX6_wait_156 : decode cX6_wait 156 = .ok (.iaload, 1) := by decide +kernel
theorem dX6_wait_157 : decode cX6_wait 157 = .ok (.i2l, 1) := by decide +kernel
theorem dX6_wait_158 : decode cX6_wait 158 = .ok (.lmul, 1) := by decide +kernel
theorem dX6_wait_159 : decode cX6_wait 159 = .ok (.lconst 1, 1) := by decide +kernel
theorem dX6_wait_160 : decode cX6_wait 160 = .ok (.aload_n 0, 1) := by decide +kernel
theorem dX6_wait_161 : decode cX6_wait 161 = .ok (.getfield 58, 3) := by decide +kernel
theorem dX6_wait_164 : decode cX6_wait 164 = .ok (.iload 9, 2) := by decide +kernel
theorem dX6_wait_166 : decode cX6_wait 166 = .ok (.laload, 1) := by decide +kernel
theorem dX6_wait_167 : decode cX6_wait 167 = .ok (.aload_n 0, 1) := by decide +kernel
theorem dX6_wait_168 : decode cX6_wait 168 = .ok (.getfield 61, 3) := by decide +kernel
theorem dX6_wait_171 : decode cX6_wait 171 = .ok (.iload 9, 2) := by decide +kernel
theorem dX6_wait_173 : decode cX6_wait 173 = .ok (.laload, 1) := by decide +kernel
theorem dX6_wait_174 : decode cX6_wait 174 = .ok (.invokevirtual 147, 3) := by decide +kernel
theorem dX6_wait_177 : decode cX6_wait 177 = .ok (.aload_n 0, 1) := by decide +kernel
theorem dX6_wait_178 : decode cX6_wait 178 = .ok (.lload 4, 2) := by decide +kernel
theorem dX6_wait_180 : decode cX6_wait 180 = .ok (.lload 6, 2) := by decide +kernel
theorem dX6_wait_182 : decode cX6_wait 182 = .ok (.aload_n 0, 1) := by decide +kernel
theorem dX6_wait_183 : decode cX6_wait 183 = .ok (.getfield 106, 3) := by decide +kernel
theorem dX6_wait_186 : decode cX6_wait 186 = .ok (.aload_n 0, 1) := by decide +kernel
theorem dX6_wait_187 : decode cX6_wait 187 = .ok (.getfield 109, 3) := by decide +kernel
theorem dX6_wait_190 : decode cX6_wait 190 = .ok (.invokevirtual 123, 3) := by decide +kernel
theorem dX6_wait_193 : decode cX6_wait 193 = .ok (.aload_n 0, 1) := by decide +kernel
theorem dX6_wait_194 : decode cX6_wait 194 = .ok (.getfield 106, 3) := by decide +kernel
theorem dX6_wait_197 : decode cX6_wait 197 = .ok (.lstore 4, 2) := by decide +kernel
theorem dX6_wait_199 : decode cX6_wait 199 = .ok (.aload_n 0, 1) := by decide +kernel
theorem dX6_wait_200 : decode cX6_wait 200 = .ok (.getfield 109, 3) := by decide +kernel
theorem dX6_wait_203 : decode cX6_wait 203 = .ok (.lstore 6, 2) := by decide +kernel
theorem dX6_wait_205 : decode cX6_wait 205 = .ok (.iinc 8 1, 3) := by decide +kernel
theorem dX6_wait_208 : decode cX6_wait 208 = .ok (.goto (-94), 3) := by decide +kernel
theorem dX6_wait_211 : decode cX6_wait 211 = .ok (.aload_n 0, 1) := by decide +kernel
theorem dX6_wait_212 : decode cX6_wait 212 = .ok (.iload_n 3, 1) := by decide +kernel
theorem dX6_wait_213 : decode cX6_wait 213 = .ok (.lload 4, 2) := by decide +kernel
theorem dX6_wait_215 : decode cX6_wait 215 = .ok (.lload 6, 2) := by decide +kernel
theorem dX6_wait_217 : decode cX6_wait 217 = .ok (.invokevirtual 160, 3) := by decide +kernel
theorem dX6_wait_220 : decode cX6_wait 220 = .ok (.iinc 3 1, 3) := by decide +kernel
theorem dX6_wait_223 : decode cX6_wait 223 = .ok (.goto (-130), 3) := by decide +kernel
theorem dX6_wait_226 : decode cX6_wait 226 = .ok (.aload_n 0, 1) := by decide +kernel
theorem dX6_wait_227 : decode cX6_wait 227 = .ok (.invokevirtual 164, 3) := by decide +kernel
theorem dX6_wait_230 : decode cX6_wait 230 = .ok (.aload_n 0, 1) := by decide +kernel
theorem dX6_wait_231 : decode cX6_wait 231 = .ok (.aload_n 0, 1) := by decide +kernel
theorem dX6_wait_232 : decode cX6_wait 232 = .ok (.getfield 58, 3) := by decide +kernel
theorem dX6_wait_235 : decode cX6_wait 235 = .ok (.iconst 0, 1) := by decide +kernel
theorem dX6_wait_236 : decode cX6_wait 236 = .ok (.laload, 1) := by decide +kernel
theorem dX6_wait_237 : decode cX6_wait 237 = .ok (.lneg, 1) := by decide +kernel
theorem dX6_wait_238 : decode cX6_wait 238 = .ok (.aload_n 0, 1) := by decide +kernel
theorem dX6_wait_239 : decode cX6_wait 239 = .ok (.getfield 61, 3) := by decide +kernel
theorem dX6_wait_242 : decode cX6_wait 242 = .ok (.iconst 0, 1) := by decide +kernel
theorem dX6_wait_243 : decode cX6_wait 243 = .ok (.laload, 1) := by decide +kernel
theorem dX6_wait_244 : decode cX6_wait 244 = .ok (.aload_n 0, 1) := by decide +kernel
theorem dX6_wait_245 : decode cX6_wait 245 = .ok (.getfield 58, 3) := by decide +kernel
theorem dX6_wait_248 : decode cX6_wait 248 = .ok (.iconst 0, 1) := by decide +kernel
theorem dX6_wait_249 : decode cX6_wait 249 = .ok (.laload, 1) := by decide +kernel
theorem dX6_wait_250 : decode cX6_wait 250 = .ok (.aload_n 0, 1) := by decide +kernel
theorem dX6_wait_251 : decode cX6_wait 251 = .ok (.getfield 61, 3) := by decide +kernel
theorem dX6_wait_254 : decode cX6_wait 254 = .ok (.iconst 0, 1) := by decide +kernel
theorem dX6_wait_255 : decode cX6_wait 255 = .ok (.laload, 1) := by decide +kernel
theorem dX6_wait_256 : decode cX6_wait 256 = .ok (.invokevirtual 147, 3) := by decide +kernel
theorem dX6_wait_259 : decode cX6_wait 259 = .ok (.aload_n 0, 1) := by decide +kernel
theorem dX6_wait_260 : decode cX6_wait 260 = .ok (.aload_n 0, 1) := by decide +kernel
theorem dX6_wait_261 : decode cX6_wait 261 = .ok (.getfield 52, 3) := by decide +kernel
theorem dX6_wait_264 : decode cX6_wait 264 = .ok (.iconst 0, 1) := by decide +kernel
theorem dX6_wait_265 : decode cX6_wait 265 = .ok (.laload, 1) := by decide +kernel
theorem dX6_wait_266 : decode cX6_wait 266 = .ok (.aload_n 0, 1) := by decide +kernel
theorem dX6_wait_267 : decode cX6_wait 267 = .ok (.getfield 55, 3) := by decide +kernel
theorem dX6_wait_270 : decode cX6_wait 270 = .ok (.iconst 0, 1) := by decide +kernel
theorem dX6_wait_271 : decode cX6_wait 271 = .ok (.laload, 1) := by decide +kernel
theorem dX6_wait_272 : decode cX6_wait 272 = .ok (.aload_n 0, 1) := by decide +kernel
theorem dX6_wait_273 : decode cX6_wait 273 = .ok (.getfield 106, 3) := by decide +kernel
theorem dX6_wait_276 : decode cX6_wait 276 = .ok (.aload_n 0, 1) := by decide +kernel
theorem dX6_wait_277 : decode cX6_wait 277 = .ok (.getfield 109, 3) := by decide +kernel
theorem dX6_wait_280 : decode cX6_wait 280 = .ok (.invokevirtual 123, 3) := by decide +kernel
theorem dX6_wait_283 : decode cX6_wait 283 = .ok (.aload_n 0, 1) := by decide +kernel
theorem dX6_wait_284 : decode cX6_wait 284 = .ok (.aload_n 0, 1) := by decide +kernel
theorem dX6_wait_285 : decode cX6_wait 285 = .ok (.getfield 106, 3) := by decide +kernel
theorem dX6_wait_288 : decode cX6_wait 288 = .ok (.aload_n 0, 1) := by decide +kernel
theorem dX6_wait_289 : decode cX6_wait 289 = .ok (.getfield 109, 3) := by decide +kernel
theorem dX6_wait_292 : decode cX6_wait 292 = .ok (.invokevirtual 127, 3) := by decide +kernel
theorem dX6_wait_295 : decode cX6_wait 295 = .ok (.iconst 1, 1) := by decide +kernel
theorem dX6_wait_296 : decode cX6_wait 296 = .ok (.ireturn, 1) := by decide +kernel
set_option maxRecDepth 20000 in
theorem ggX6_isList_X6_lies : GoodIn wsX6_isList wsX6_lies := goodIn_r _ [6, 1, 7, 8, 9, 5, 10, 11, 12, 13, 14, 15, 16, 17, 18, 19, 20, 21, 22, 23, 24, 25, 26, 27, 28, 29, 30, 31, 32, 33, 34, 35, 36, 37] (by decide +kernel) (by decide +kernel)
set_option maxRecDepth 20000 in
theorem gX6_isList_X6_lies : GoodIn wsX6_isList (wsV RX6 99 RX6 yX6_lies wsX6_lies) := goodIn_app (goodIn_of _ (by decide +kernel)) ggX6_isList_X6_lies
theorem dX6_isList_0 : decode cX6_isList 0 = .ok (.iload_n 1, 1) := by decide +kernel
theorem dX6_isList_1 : decode cX6_isList 1 = .ok (.ifCond .le 10, 3) := by decide +kernel
theorem dX6_isList_4 : decode cX6_isList 4 = .ok (.iload_n 1, 1) := by decide +kernel
theorem dX6_isList_5 : decode cX6_isList 5 = .ok (.sipush 255, 3) := by decide +kernel
theorem dX6_isList_8 : decode cX6_isList 8 = .ok (.if_icmp .le 5, 3) := by decide +kernel
theorem dX6_isList_11 : decode cX6_isList 11 = .ok (.iconst 0, 1) := by decide +kernel
theorem dX6_isList_12 : decode cX6_isList 12 = .ok (.ireturn, 1) := by decide +kernel
theorem dX6_isList_13 : decode cX6_isList 13 = .ok (.iconst 0, 1) := by decide +kernel
theorem dX6_isList_14 : decode cX6_isList 14 = .ok (.istore_n 2, 1) := by decide +kernel
theorem dX6_isList_15 : decode cX6_isList 15 = .ok (.iconst 1, 1) := by decide +kernel
theorem dX6_isList_16 : decode cX6_isList 16 = .ok (.istore_n 3, 1) := by decide +kernel
theorem dX6_isList_17 : decode cX6_isList 17 = .ok (.iconst 0, 1) := by decide +kernel
theorem dX6_isList_18 : decode cX6_isList 18 = .ok (.istore 4, 2) := by decide +kernel
theorem dX6_isList_20 : decode cX6_isList 20 = .ok (.iload 4, 2) := by decide +kernel
theorem dX6_isList_22 : decode cX6_isList 22 = .ok (.bipush 8, 2) := by decide +kernel
theorem dX6_isList_24 : decode cX6_isList 24 = .ok (.if_icmp .ge 108, 3) := by decide +kernel
theorem dX6_isList_27 : decode cX6_isList 27 = .ok (.iload_n 1, 1) := by decide +kernel
theorem dX6_isList_28 : decode cX6_isList 28 = .ok (.iload 4, 2) := by decide +kernel
theorem dX6_isList_30 : decode cX6_isList 30 = .ok (.ishr, 1) := by decide +kernel
theorem dX6_isList_31 : decode cX6_isList 31 = .ok (.iconst 1, 1) := by decide +kernel
theorem dX6_isList_32 : decode cX6_isList 32 = .ok (.iand, 1) := by decide +kernel
theorem dX6_isList_33 : decode cX6_isList 33 = .ok (.ifCond .ne 6, 3) := by decide +kernel
theorem dX6_isList_36 : decode cX6_isList 36 = .ok (.goto 90, 3) := by decide +kernel
theorem dX6_isList_39 : decode cX6_isList 39 = .ok (.iinc 2 1, 3) := by decide +kernel
theorem dX6_isList_42 : decode cX6_isList 42 = .ok (.iload_n 3, 1) := by decide +kernel
theorem dX6_isList_43 : decode cX6_isList 43 = .ok (.ifCond .eq 17, 3) := by decide +kernel
theorem dX6_isList_46 : decode cX6_isList 46 = .ok (.aload_n 0, 1) := by decide +kernel
theorem dX6_isList_47 : decode cX6_isList 47 = .ok (.getfield 20, 3) := by decide +kernel
theorem dX6_isList_50 : decode cX6_isList 50 = .ok (.iload 4, 2) := by decide +kernel
theorem dX6_isList_52 : decode cX6_isList 52 = .ok (.iaload, 1) := by decide +kernel
theorem dX6_isList_53 : decode cX6_isList 53 = .ok (.ifCond .le 7, 3) := by decide +kernel
theorem dX6_isList_56 : decode cX6_isList 56 = .ok (.iconst 1, 1) := by decide +kernel
theorem dX6_isList_57 : decode cX6_isList 57 = .ok (.goto 4, 3) := by decide +kernel
theorem dX6_isList_60 : decode cX6_isList 60 = .ok (.iconst 0, 1) := by decide +kernel
theorem dX6_isList_61 : decode cX6_isList 61 = .ok (.istore_n 3, 1) := by decide +kernel
theorem dX6_isList_62 : decode cX6_isList 62 = .ok (.iconst 0, 1) := by decide +kernel
theorem dX6_isList_63 : decode cX6_isList 63 = .ok (.istore 5, 2) := by decide +kernel
theorem dX6_isList_65 : decode cX6_isList 65 = .ok (.iload 5, 2) := by decide +kernel
theorem dX6_isList_67 : decode cX6_isList 67 = .ok (.bipush 8, 2) := by decide +kernel
theorem dX6_isList_69 : decode cX6_isList 69 = .ok (.if_icmp .ge 57, 3) := by decide +kernel
theorem dX6_isList_72 : decode cX6_isList 72 = .ok (.iload_n 3, 1) := by decide +kernel
theorem dX6_isList_73 : decode cX6_isList 73 = .ok (.ifCond .eq 53, 3) := by decide +kernel
theorem dX6_isList_76 : decode cX6_isList 76 = .ok (.iload 4, 2) := by decide +kernel
theorem dX6_isList_78 : decode cX6_isList 78 = .ok (.iload 5, 2) := by decide +kernel
theorem dX6_isList_80 : decode cX6_isList 80 = .ok (.if_icmp .eq 40, 3) := by decide +kernel
theorem dX6_isList_83 : decode cX6_isList 83 = .ok (.iload_n 1, 1) := by decide +kernel
theorem dX6_isList_84 : decode cX6_isList 84 = .ok (.iload 5, 2) := by decide +kernel
theorem dX6_isList_86 : decode cX6_isList 86 = .ok (.ishr, 1) := by decide +kernel
theorem dX6_isList_87 : decode cX6_isList 87 = .ok (.iconst 1, 1) := by decide +kernel
theorem dX6_isList_88 : decode cX6_isList 88 = .ok (.iand, 1) := by decide +kernel
theorem dX6_isList_89 : decode cX6_isList 89 = .ok (.iconst 1, 1) := by decide +kernel
theorem dX6_isList_90 : decode cX6_isList 90 = .ok (.if_icmp .ne 30, 3) := by decide +kernel
theorem dX6_isList_93 : decode cX6_isList 93 = .ok (.aload_n 0, 1) := by decide +kernel
theorem dX6_isList_94 : decode cX6_isList 94 = .ok (.getfield 20, 3) := by decide +kernel
theorem dX6_isList_97 : decode cX6_isList 97 = .ok (.iload 5, 2) := by decide +kernel
theorem dX6_isList_99 : decode cX6_isList 99 = .ok (.iaload, 1) := by decide +kernel
theorem dX6_isList_100 : decode cX6_isList 100 = .ok (.ifCond .le 18, 3) := by decide +kernel
theorem dX6_isList_103 : decode cX6_isList 103 = .ok (.aload_n 0, 1) := by decide +kernel
theorem dX6_isList_104 : decode cX6_isList 104 = .ok (.iload 4, 2) := by decide +kernel
theorem dX6_isList_106 : decode cX6_isList 106 = .ok (.iload 5, 2) := by decide +kernel
theorem dX6_isList_108 : decode cX6_isList 108 = .ok (.invokevirtual 99, 3) := by decide +kernel
theorem dX6_isList_111 : decode cX6_isList 111 = .ok (.ifCond .ne 7, 3) := by decide +kernel
theorem dX6_isList_114 : decode cX6_isList 114 = .ok (.iconst 1, 1) := by decide +kernel
theorem dX6_isList_115 : decode cX6_isList 115 = .ok (.goto 4, 3) := by decide +kernel
theorem dX6_isList_118 : decode cX6_isList 118 = .ok (.iconst 0, 1) := by decide +kernel
theorem dX6_isList_119 : decode cX6_isList 119 = .ok (.istore_n 3, 1) := by decide +kernel
theorem dX6_isList_120 : decode cX6_isList 120 = .ok (.iinc 5 1, 3) := by decide +kernel
theorem dX6_isList_123 : decode cX6_isList 123 = .ok (.goto (-58), 3) := by decide +kernel
theorem dX6_isList_126 : decode cX6_isList 126 = .ok (.iinc 4 1, 3) := by decide +kernel
theorem dX6_isList_129 : decode cX6_isList 129 = .ok (.goto (-109), 3) := by decide +kernel
theorem dX6_isList_132 : decode cX6_isList 132 = .ok (.iload_n 3, 1) := by decide +kernel
theorem dX6_isList_133 : decode cX6_isList 133 = .ok (.ifCond .eq 12, 3) := by decide +kernel
theorem dX6_isList_136 : decode cX6_isList 136 = .ok (.iload_n 2, 1) := by decide +kernel
theorem dX6_isList_137 : decode cX6_isList 137 = .ok (.iconst 4, 1) := by decide +kernel
theorem dX6_isList_138 : decode cX6_isList 138 = .ok (.if_icmp .ge 7, 3) := by decide +kernel
theorem dX6_isList_141 : decode cX6_isList 141 = .ok (.iconst 1, 1) := by decide +kernel
theorem dX6_isList_142 : decode cX6_isList 142 = .ok (.goto 4, 3) := by decide +kernel
theorem dX6_isList_145 : decode cX6_isList 145 = .ok (.iconst 0, 1) := by decide +kernel
theorem dX6_isList_146 : decode cX6_isList 146 = .ok (.ireturn, 1) := by decide +kernel
set_option maxRecDepth 20000 in
theorem ggX6_chance_X6_makes : GoodIn wsX6_chance wsX6_makes := goodIn_r _ [11, 1, 12, 13, 14, 2, 3, 15, 16, 17, 10, 18, 19, 20, 21, 22, 23, 24, 25, 26, 27, 28, 29, 30, 31, 32, 33, 34, 35, 36, 73, 74, 75, 76, 77, 78, 79, 80, 81, 82, 83, 84, 85, 86, 87, 88, 89, 90, 91, 92, 93, 94, 95, 96, 97, 98] (by decide +kernel) (by decide +kernel)
set_option maxRecDepth 20000 in
theorem gX6_chance_X6_makes : GoodIn wsX6_chance (wsV RX6 153 RX6 yX6_makes wsX6_makes) := goodIn_app (goodIn_of _ (by decide +kernel)) ggX6_chance_X6_makes
set_option maxRecDepth 20000 in
theorem ggX6_chance_X6_begins : GoodIn wsX6_chance wsX6_begins := goodIn_r _ [40, 1, 41, 42, 43, 2, 3, 4, 73, 74, 75, 76, 77, 78, 79, 80, 81, 82, 83, 84, 85, 86, 87, 88, 89, 90, 91, 92, 93, 94, 95, 96, 97, 98] (by decide +kernel) (by decide +kernel)
set_option maxRecDepth 20000 in
theorem gX6_chance_X6_begins : GoodIn wsX6_chance (wsV RX6 157 RX6 yX6_begins wsX6_begins) := goodIn_app (goodIn_of _ (by decide +kernel)) ggX6_chance_X6_begins
set_option maxRecDepth 20000 in
theorem ggX6_chance_X6_own : GoodIn wsX6_chance wsX6_own := goodIn_r _ [47, 5, 48, 6, 49, 50, 51, 52, 10, 53, 54, 55, 56, 73, 74, 75, 76, 77, 78, 79, 80, 81, 82, 83, 84, 85, 86, 87, 88, 89, 90, 91, 92, 93, 94, 95, 96, 97, 98] (by decide +kernel) (by decide +kernel)
set_option maxRecDepth 20000 in
theorem gX6_chance_X6_own : GoodIn wsX6_chance (wsV RX6 160 RX6 yX6_own wsX6_own) := goodIn_app (goodIn_of _ (by decide +kernel)) ggX6_chance_X6_own
set_option maxRecDepth 20000 in
theorem ggX6_chance_X6_solves : GoodIn wsX6_chance wsX6_solves := goodIn_r _ [60, 1, 41, 43, 48, 49, 5, 6, 61, 62, 63, 10, 64, 54, 55, 56, 50, 51, 52, 53, 65, 66, 67, 68, 69, 70, 71, 72, 73, 74, 75, 76, 77, 78, 79, 80, 81, 82, 83, 84, 85, 86, 87, 88, 89, 90, 91, 92, 93, 94, 95, 96, 97, 98] (by decide +kernel) (by decide +kernel)
set_option maxRecDepth 20000 in
theorem gX6_chance_X6_solves : GoodIn wsX6_chance (wsV RX6 164 RX6 yX6_solves wsX6_solves) := goodIn_app (goodIn_of _ (by decide +kernel)) ggX6_chance_X6_solves
set_option maxRecDepth 20000 in
theorem ggX6_chance_X6_set : GoodIn wsX6_chance wsX6_set := goodIn_r _ [53, 48, 49, 54, 55, 10, 56, 73, 74, 75, 76, 77, 78, 79, 80, 81, 82, 83, 84, 85, 86, 87, 88, 89, 90, 91, 92, 93, 94, 95, 96, 97, 98] (by decide +kernel) (by decide +kernel)
set_option maxRecDepth 20000 in
theorem gX6_chance_X6_set : GoodIn wsX6_chance (wsV RX6 112 RX6 yX6_set wsX6_set) := goodIn_app (goodIn_of _ (by decide +kernel)) ggX6_chance_X6_set
theorem dX6_chance_0 : decode cX6_chance 0 = .ok (.aload_n 0, 1) := by decide +kernel
theorem dX6_chance_1 : decode cX6_chance 1 = .ok (.iload_n 1, 1) := by decide +kernel
theorem dX6_chance_2 : decode cX6_chance 2 = .ok (.invokevirtual 153, 3) := by decide +kernel
theorem dX6_chance_5 : decode cX6_chance 5 = .ok (.aload_n 0, 1) := by decide +kernel
theorem dX6_chance_6 : decode cX6_chance 6 = .ok (.invokevirtual 157, 3) := by decide +kernel
theorem dX6_chance_9 : decode cX6_chance 9 = .ok (.iconst 0, 1) := by decide +kernel
theorem dX6_chance_10 : decode cX6_chance 10 = .ok (.istore_n 3, 1) := by decide +kernel
theorem dX6_chance_11 : decode cX6_chance 11 = .ok (.iload_n 3, 1) := by decide +kernel
theorem dX6_chance_12 : decode cX6_chance 12 = .ok (.aload_n 0, 1) := by decide +kernel
theorem dX6_chance_13 : decode cX6_chance 13 = .ok (.getfield 130, 3) := by decide +kernel
theorem dX6_chance_16 : decode cX6_chance 16 = .ok (.if_icmp .ge 73, 3) := by decide +kernel
theorem dX6_chance_19 : decode cX6_chance 19 = .ok (.lconst 0, 1) := by decide +kernel
theorem dX6_chance_20 : decode cX6_chance 20 = .ok (.lstore 4, 2) := by decide +kernel
theorem dX6_chance_22 : decode cX6_chance 22 = .ok (.iconst 0, 1) := by decide +kernel
theorem dX6_chance_23 : decode cX6_chance 23 = .ok (.istore 6, 2) := by decide +kernel
theorem dX6_chance_25 : decode cX6_chance 25 = .ok (.iload 6, 2) := by decide +kernel
theorem dX6_chance_27 : decode cX6_chance 27 = .ok (.aload_n 0, 1) := by decide +kernel
theorem dX6_chance_28 : decode cX6_chance 28 = .ok (.getfield 7, 3) := by decide +kernel
theorem dX6_chance_31 : decode cX6_chance 31 = .ok (.if_icmp .ge 44, 3) := by decide +kernel
theorem dX6_chance_34 : decode cX6_chance 34 = .ok (.lload 4, 2) := by decide +kernel
theorem dX6_chance_36 : decode cX6_chance 36 = .ok (.aload_n 0, 1) := by decide +kernel
theorem dX6_chance_37 : decode cX6_chance 37 = .ok (.getfield 39, 3) := by decide +kernel
theorem dX6_chance_40 : decode cX6_chance 40 = .ok (.iconst 4, 1) := by decide +kernel
theorem dX6_chance_41 : decode cX6_chance 41 = .ok (.iload_n 3, 1) := by decide +kernel
theorem dX6_chance_42 : decode cX6_chance 42 = .ok (.imul, 1) := by decide +kernel
theorem dX6_chance_43 : decode cX6_chance 43 = .ok (.iload 6, 2) := by decide +kernel
theorem dX6_chance_45 : decode cX6_chance 45 = .ok (.iadd, 1) := by decide +kernel
theorem dX6_chance_46 : decode cX6_chance 46 = .ok (.iaload, 1) := by decide +kernel
theorem dX6_chance_47 : decode cX6_chance 47 = .ok (.bipush 100, 2) := by decide +kernel
theorem dX6_chance_49 : decode cX6_chance 49 = .ok (.iload_n 2, 1) := by decide +kernel
theorem dX6_chance_50 : decode cX6_chance 50 = .ok (.iadd, 1) := by decide +kernel
theorem dX6_chance_51 : decode cX6_chance 51 = .ok (.if_icmp .ne 14, 3) := by decide +kernel
theorem dX6_chance_54 : decode cX6_chance 54 = .ok (.aload_n 0, 1) := by decide +kernel
theorem dX6_chance_55 : decode cX6_chance 55 = .ok (.getfield 16, 3) := by decide +kernel
theorem dX6_chance_58 : decode cX6_chance 58 = .ok (.iload 6, 2) := by decide +kernel
theorem dX6_chance_60 : decode cX6_chance 60 = .ok (.iaload, 1) := by decide +kernel
theorem dX6_chance_61 : decode cX6_chance 61 = .ok (.i2l, 1) := by decide +kernel
theorem dX6_chance_62 : decode cX6_chance 62 = .ok (.goto 4, 3) := by decide +kernel
theorem dX6_chance_65 : decode cX6_chance 65 = .ok (.lconst 0, 1) := by decide +kernel
theorem dX6_chance_66 : decode cX6_chance 66 = .ok (.ladd, 1) := by decide +kernel
theorem dX6_chance_67 : decode cX6_chance 67 = .ok (.lstore 4, 2) := by decide +kernel
theorem dX6_chance_69 : decode cX6_chance 69 = .ok (.iinc 6 1, 3) := by decide +kernel
theorem dX6_chance_72 : decode cX6_chance 72 = .ok (.goto (-47), 3) := by decide +kernel
theorem dX6_chance_75 : decode cX6_chance 75 = .ok (.aload_n 0, 1) := by decide +kernel
theorem dX6_chance_76 : decode cX6_chance 76 = .ok (.iload_n 3, 1) := by decide +kernel
theorem dX6_chance_77 : decode cX6_chance 77 = .ok (.lload 4, 2) := by decide +kernel
theorem dX6_chance_79 : decode cX6_chance 79 = .ok (.lconst 1, 1) := by decide +kernel
theorem dX6_chance_80 : decode cX6_chance 80 = .ok (.invokevirtual 160, 3) := by decide +kernel
theorem dX6_chance_83 : decode cX6_chance 83 = .ok (.iinc 3 1, 3) := by decide +kernel
theorem dX6_chance_86 : decode cX6_chance 86 = .ok (.goto (-75), 3) := by decide +kernel
theorem dX6_chance_89 : decode cX6_chance 89 = .ok (.aload_n 0, 1) := by decide +kernel
theorem dX6_chance_90 : decode cX6_chance 90 = .ok (.invokevirtual 164, 3) := by decide +kernel
theorem dX6_chance_93 : decode cX6_chance 93 = .ok (.aload_n 0, 1) := by decide +kernel
theorem dX6_chance_94 : decode cX6_chance 94 = .ok (.aload_n 0, 1) := by decide +kernel
theorem dX6_chance_95 : decode cX6_chance 95 = .ok (.getfield 52, 3) := by decide +kernel
theorem dX6_chance_98 : decode cX6_chance 98 = .ok (.iconst 0, 1) := by decide +kernel
theorem dX6_chance_99 : decode cX6_chance 99 = .ok (.laload, 1) := by decide +kernel
theorem dX6_chance_100 : decode cX6_chance 100 = .ok (.aload_n 0, 1) := by decide +kernel
theorem dX6_chance_101 : decode cX6_chance 101 = .ok (.getfield 55, 3) := by decide +kernel
theorem dX6_chance_104 : decode cX6_chance 104 = .ok (.iconst 0, 1) := by decide +kernel
theorem dX6_chance_105 : decode cX6_chance 105 = .ok (.laload, 1) := by decide +kernel
theorem dX6_chance_106 : decode cX6_chance 106 = .ok (.invokevirtual 112, 3) := by decide +kernel
theorem dX6_chance_109 : decode cX6_chance 109 = .ok (.return_, 1) := by decide +kernel
set_option maxRecDepth 20000 in
theorem ggX6_first_X6_isList : GoodIn wsX6_first wsX6_isList := goodIn_r _ [9, 10, 11, 12, 13, 8, 14, 15, 16, 17, 18, 19, 98, 99, 100, 101, 102, 103, 104, 105, 106, 107, 108, 109, 110, 111, 112, 113, 114, 115, 116, 117, 118, 119, 120, 121, 122, 123] (by decide +kernel) (by decide +kernel)
set_option maxRecDepth 20000 in
theorem gX6_first_X6_isList : GoodIn wsX6_first (wsV RX6 172 RX6 yX6_isList wsX6_isList) := goodIn_app (goodIn_of _ (by decide +kernel)) ggX6_first_X6_isList
set_option maxRecDepth 20000 in
theorem ggX6_first_X6_isIn : GoodIn wsX6_first wsX6_isIn := goodIn_r _ [22] (by decide +kernel) (by decide +kernel)
set_option maxRecDepth 20000 in
theorem gX6_first_X6_isIn : GoodIn wsX6_first (va_wsS RX6 79 yX6_isIn wsX6_isIn) := goodIn_app (goodIn_of _ (by decide +kernel)) ggX6_first_X6_isIn
set_option maxRecDepth 20000 in
theorem ggX6_first_X6_means : GoodIn wsX6_first wsX6_means := goodIn_r _ [26, 27, 28, 29, 30, 31, 8, 32, 10, 33, 34, 35, 36, 37, 38, 39, 40, 41, 42, 43, 44, 15, 16, 17, 18, 19, 45, 46, 47, 48, 49, 50, 51, 52, 53, 54, 55, 56, 57, 58, 59, 60, 61, 62, 63, 64, 1, 3, 2, 4, 65, 66, 67, 68, 69, 70, 71, 72, 73, 74, 75, 76, 77, 78, 79, 80, 81, 82, 83, 84, 85, 86, 87, 98, 99, 100, 101, 102, 103, 104, 105, 106, 107, 108, 109, 110, 111, 112, 113, 114, 115, 116, 117, 118, 119, 120, 121, 122, 123] (by decide +kernel) (by decide +kernel)
set_option maxRecDepth 20000 in
theorem gX6_first_X6_means : GoodIn wsX6_first (wsV RX6 167 RX6 yX6_means wsX6_means) := goodIn_app (goodIn_of _ (by decide +kernel)) ggX6_first_X6_means
set_option maxRecDepth 20000 in
theorem ggX6_first_X6_atHand : GoodIn wsX6_first wsX6_atHand := goodIn_r _ [91, 3, 92, 4, 93, 65, 66, 67, 8, 68, 69, 70, 71, 98, 99, 100, 101, 102, 103, 104, 105, 106, 107, 108, 109, 110, 111, 112, 113, 114, 115, 116, 117, 118, 119, 120, 121, 122, 123] (by decide +kernel) (by decide +kernel)
set_option maxRecDepth 20000 in
theorem gX6_first_X6_atHand : GoodIn wsX6_first (wsV RX6 127 RX6 yX6_atHand wsX6_atHand) := goodIn_app (goodIn_of _ (by decide +kernel)) ggX6_first_X6_atHand
set_option maxRecDepth 20000 in
theorem ggX6_first_X6_chance : GoodIn wsX6_first wsX6_chance := goodIn_r _ [97, 27, 35, 36, 60, 1, 2, 29, 30, 31, 8, 32, 10, 33, 34, 37, 38, 39, 40, 41, 42, 43, 44, 15, 16, 17, 18, 19, 45, 46, 47, 48, 49, 50, 51, 52, 53, 54, 55, 56, 57, 58, 28, 59, 61, 62, 63, 64, 3, 4, 65, 66, 67, 68, 69, 70, 71, 72, 73, 74, 75, 76, 77, 78, 79, 80, 81, 82, 83, 84, 85, 86, 87, 98, 99, 100, 101, 102, 103, 104, 105, 106, 107, 108, 109, 110, 111, 112, 113, 114, 115, 116, 117, 118, 119, 120, 121, 122, 123] (by decide +kernel) (by decide +kernel)
set_option maxRecDepth 20000 in
theorem gX6_first_X6_chance : GoodIn wsX6_first (wsV RX6 175 RX6 yX6_chance wsX6_chance) := goodIn_app (goodIn_of _ (by decide +kernel)) ggX6_first_X6_chance
theorem dX6_first_0 : decode cX6_first 0 = .ok (.aload_n 0, 1) := by decide +kernel
theorem dX6_first_1 : decode cX6_first 1 = .ok (.iload_n 1, 1) := by decide +kernel
theorem dX6_first_2 : decode cX6_first 2 = .ok (.invokevirtual 172, 3) := by decide +kernel
theorem dX6_first_5 : decode cX6_first 5 = .ok (.ifCond .eq 25, 3) := by decide +kernel
theorem dX6_first_8 : decode cX6_first 8 = .ok (.iload_n 2, 1) := by decide +kernel
theorem dX6_first_9 : decode cX6_first 9 = .ok (.iconst (-1), 1) := by decide +kernel
theorem dX6_first_10 : decode cX6_first 10 = .ok (.if_icmp .eq 22, 3) := by decide +kernel
theorem dX6_first_13 : decode cX6_first 13 = .ok (.iload_n 2, 1) := by decide +kernel
theorem dX6_first_14 : decode cX6_first 14 = .ok (.bipush 8, 2) := by decide +kernel
theorem dX6_first_16 : decode cX6_first 16 = .ok (.invokestatic 79, 3) := by decide +kernel
theorem dX6_first_19 : decode cX6_first 19 = .ok (.ifCond .eq 11, 3) := by decide +kernel
theorem dX6_first_22 : decode cX6_first 22 = .ok (.iload_n 1, 1) := by decide +kernel
theorem dX6_first_23 : decode cX6_first 23 = .ok (.iload_n 2, 1) := by decide +kernel
theorem dX6_first_24 : decode cX6_first 24 = .ok (.ishr, 1) := by decide +kernel
theorem dX6_first_25 : decode cX6_first 25 = .ok (.iconst 1, 1) := by decide +kernel
theorem dX6_first_26 : decode cX6_first 26 = .ok (.iand, 1) := by decide +kernel
theorem dX6_first_27 : decode cX6_first 27 = .ok (.ifCond .ne 5, 3) := by decide +kernel
theorem dX6_first_30 : decode cX6_first 30 = .ok (.iconst 0, 1) := by decide +kernel
theorem dX6_first_31 : decode cX6_first 31 = .ok (.ireturn, 1) := by decide +kernel
theorem dX6_first_32 : decode cX6_first 32 = .ok (.iload_n 2, 1) := by decide +kernel
theorem dX6_first_33 : decode cX6_first 33 = .ok (.iconst (-1), 1) := by decide +kernel
theorem dX6_first_34 : decode cX6_first 34 = .ok (.if_icmp .ne 27, 3) := by decide +kernel
theorem dX6_first_37 : decode cX6_first 37 = .ok (.aload_n 0, 1) := by decide +kernel
theorem dX6_first_38 : decode cX6_first 38 = .ok (.iload_n 1, 1) := by decide +kernel
theorem dX6_first_39 : decode cX6_first 39 = .ok (.invokevirtual 167, 3) := by decide +kernel
theorem dX6_first_42 : decode cX6_first 42 = .ok (.aload_n 0, 1) := by decide +kernel
theorem dX6_first_43 : decode cX6_first 43 = .ok (.aload_n 0, 1) := by decide +kernel
theorem dX6_first_44 : decode cX6_first 44 = .ok (.getfield 52, 3) := by decide +kernel
theorem dX6_first_47 : decode cX6_first 47 = .ok (.iconst 0, 1) := by decide +kernel
theorem dX6_first_48 : decode cX6_first 48 = .ok (.laload, 1) := by decide +kernel
theorem dX6_first_49 : decode cX6_first 49 = .ok (.aload_n 0, 1) := by decide +kernel
theorem dX6_first_50 : decode cX6_first 50 = .ok (.getfield 55, 3) := by decide +kernel
theorem dX6_first_53 : decode cX6_first 53 = .ok (.iconst 0, 1) := by decide +kernel
theorem dX6_first_54 : decode cX6_first 54 = .ok (.laload, 1) := by decide +kernel
theorem dX6_first_55 : decode cX6_first 55 = .ok (.invokevirtual 127, 3) := by decide +kernel
theorem dX6_first_58 : decode cX6_first 58 = .ok (.goto 21, 3) := by decide +kernel
theorem dX6_first_61 : decode cX6_first 61 = .ok (.aload_n 0, 1) := by decide +kernel
theorem dX6_first_62 : decode cX6_first 62 = .ok (.iload_n 1, 1) := by decide +kernel
theorem dX6_first_63 : decode cX6_first 63 = .ok (.iload_n 2, 1) := by decide +kernel
theorem dX6_first_64 : decode cX6_first 64 = .ok (.invokevirtual 175, 3) := by decide +kernel
theorem dX6_first_67 : decode cX6_first 67 = .ok (.aload_n 0, 1) := by decide +kernel
theorem dX6_first_68 : decode cX6_first 68 = .ok (.aload_n 0, 1) := by decide +kernel
theorem dX6_first_69 : decode cX6_first 69 = .ok (.getfield 106, 3) := by decide +kernel
theorem dX6_first_72 : decode cX6_first 72 = .ok (.aload_n 0, 1) := by decide +kernel
theorem dX6_first_73 : decode cX6_first 73 = .ok (.getfield 109, 3) := by decide +kernel
theorem dX6_first_76 : decode cX6_first 76 = .ok (.invokevirtual 127, 3) := by decide +kernel
theorem dX6_first_79 : decode cX6_first 79 = .ok (.iconst 1, 1) := by decide +kernel
theorem dX6_first_80 : decode cX6_first 80 = .ok (.ireturn, 1) := by decide +kernel
set_option maxRecDepth 20000 in
theorem ggX6_odds_X6_isWord : GoodIn wsX6_odds wsX6_isWord := goodIn_r _ [7, 8, 9, 10, 6, 11, 98, 99, 100, 101, 102, 103, 104, 105, 106, 107, 108, 109, 110, 111, 112, 113, 114, 115, 116, 117, 118, 119, 120, 121, 122, 123] (by decide +kernel) (by decide +kernel)
set_option maxRecDepth 20000 in
theorem gX6_odds_X6_isWord : GoodIn wsX6_odds (wsV RX6 83 RX6 yX6_isWord wsX6_isWord) := goodIn_app (goodIn_of _ (by decide +kernel)) ggX6_odds_X6_isWord
set_option maxRecDepth 20000 in
theorem ggX6_odds_X6_isList : GoodIn wsX6_odds wsX6_isList := goodIn_r _ [15, 8, 16, 17, 18, 6, 19, 20, 21, 22, 23, 24, 98, 99, 100, 101, 102, 103, 104, 105, 106, 107, 108, 109, 110, 111, 112, 113, 114, 115, 116, 117, 118, 119, 120, 121, 122, 123] (by decide +kernel) (by decide +kernel)
set_option maxRecDepth 20000 in
theorem gX6_odds_X6_isList : GoodIn wsX6_odds (wsV RX6 172 RX6 yX6_isList wsX6_isList) := goodIn_app (goodIn_of _ (by decide +kernel)) ggX6_odds_X6_isList
set_option maxRecDepth 20000 in
theorem ggX6_odds_X6_chance : GoodIn wsX6_odds wsX6_chance := goodIn_r _ [28, 29, 30, 31, 32, 33, 34, 35, 36, 37, 6, 38, 8, 39, 40, 41, 42, 43, 44, 45, 46, 47, 48, 20, 21, 22, 23, 24, 49, 50, 51, 52, 53, 54, 55, 56, 57, 58, 59, 60, 61, 62, 63, 64, 65, 66, 67, 68, 1, 2, 69, 70, 71, 72, 73, 74, 75, 76, 77, 78, 79, 80, 81, 82, 83, 84, 85, 86, 87, 88, 89, 90, 91, 98, 99, 100, 101, 102, 103, 104, 105, 106, 107, 108, 109, 110, 111, 112, 113, 114, 115, 116, 117, 118, 119, 120, 121, 122, 123] (by decide +kernel) (by decide +kernel)
set_option maxRecDepth 20000 in
theorem gX6_odds_X6_chance : GoodIn wsX6_odds (wsV RX6 175 RX6 yX6_chance wsX6_chance) := goodIn_app (goodIn_of _ (by decide +kernel)) ggX6_odds_X6_chance
set_option maxRecDepth 20000 in
theorem ggX6_odds_X6_atHand : GoodIn wsX6_odds wsX6_atHand := goodIn_r _ [95, 1, 96, 2, 97, 69, 70, 71, 6, 72, 73, 74, 75, 98, 99, 100, 101, 102, 103, 104, 105, 106, 107, 108, 109, 110, 111, 112, 113, 114, 115, 116, 117, 118, 119, 120, 121, 122, 123] (by decide +kernel) (by decide +kernel)
set_option maxRecDepth 20000 in
theorem gX6_odds_X6_atHand : GoodIn wsX6_odds (wsV RX6 127 RX6 yX6_atHand wsX6_atHand) := goodIn_app (goodIn_of _ (by decide +kernel)) ggX6_odds_X6_atHand
theorem dX6_odds_0 : decode cX6_odds 0 = .ok (.aload_n 0, 1) := by decide +kernel
theorem dX6_odds_1 : decode cX6_odds 1 = .ok (.iload_n 1, 1) := by decide +kernel
theorem dX6_odds_2 : decode cX6_odds 2 = .ok (.invokevirtual 83, 3) := by decide +kernel
theorem dX6_odds_5 : decode cX6_odds 5 = .ok (.ifCond .eq 30, 3) := by decide +kernel
theorem dX6_odds_8 : decode cX6_odds 8 = .ok (.aload_n 0, 1) := by decide +kernel
theorem dX6_odds_9 : decode cX6_odds 9 = .ok (.iload_n 2, 1) := by decide +kernel
theorem dX6_odds_10 : decode cX6_odds 10 = .ok (.invokevirtual 83, 3) := by decide +kernel
theorem dX6_odds_13 : decode cX6_odds 13 = .ok (.ifCond .eq 22, 3) := by decide +kernel
theorem dX6_odds_16 : decode cX6_odds 16 = .ok (.iload_n 1, 1) := by decide +kernel
theorem dX6_odds_17 : decode cX6_odds 17 = .ok (.iload_n 2, 1) := by decide +kernel
theorem dX6_odds_18 : decode cX6_odds 18 = .ok (.if_icmp .eq 17, 3) := by decide +kernel
theorem dX6_odds_21 : decode cX6_odds 21 = .ok (.aload_n 0, 1) := by decide +kernel
theorem dX6_odds_22 : decode cX6_odds 22 = .ok (.iconst 1, 1) := by decide +kernel
theorem dX6_odds_23 : decode cX6_odds 23 = .ok (.iload_n 1, 1) := by decide +kernel
theorem dX6_odds_24 : decode cX6_odds 24 = .ok (.ishl, 1) := by decide +kernel
theorem dX6_odds_25 : decode cX6_odds 25 = .ok (.iconst 1, 1) := by decide +kernel
theorem dX6_odds_26 : decode cX6_odds 26 = .ok (.iload_n 2, 1) := by decide +kernel
theorem dX6_odds_27 : decode cX6_odds 27 = .ok (.ishl, 1) := by decide +kernel
theorem dX6_odds_28 : decode cX6_odds 28 = .ok (.ior, 1) := by decide +kernel
theorem dX6_odds_29 : decode cX6_odds 29 = .ok (.invokevirtual 172, 3) := by decide +kernel
theorem dX6_odds_32 : decode cX6_odds 32 = .ok (.ifCond .ne 5, 3) := by decide +kernel
theorem dX6_odds_35 : decode cX6_odds 35 = .ok (.iconst 0, 1) := by decide +kernel
theorem dX6_odds_36 : decode cX6_odds 36 = .ok (.ireturn, 1) := by decide +kernel
theorem dX6_odds_37 : decode cX6_odds 37 = .ok (.aload_n 0, 1) := by decide +kernel
theorem dX6_odds_38 : decode cX6_odds 38 = .ok (.iconst 1, 1) := by decide +kernel
theorem dX6_odds_39 : decode cX6_odds 39 = .ok (.iload_n 1, 1) := by decide +kernel
theorem dX6_odds_40 : decode cX6_odds 40 = .ok (.ishl, 1) := by decide +kernel
theorem dX6_odds_41 : decode cX6_odds 41 = .ok (.iconst 1, 1) := by decide +kernel
theorem dX6_odds_42 : decode cX6_odds 42 = .ok (.iload_n 2, 1) := by decide +kernel
theorem dX6_odds_43 : decode cX6_odds 43 = .ok (.ishl, 1) := by decide +kernel
theorem dX6_odds_44 : decode cX6_odds 44 = .ok (.ior, 1) := by decide +kernel
theorem dX6_odds_45 : decode cX6_odds 45 = .ok (.iload_n 1, 1) := by decide +kernel
theorem dX6_odds_46 : decode cX6_odds 46 = .ok (.invokevirtual 175, 3) := by decide +kernel
theorem dX6_odds_49 : decode cX6_odds 49 = .ok (.aload_n 0, 1) := by decide +kernel
theorem dX6_odds_50 : decode cX6_odds 50 = .ok (.aload_n 0, 1) := by decide +kernel
theorem dX6_odds_51 : decode cX6_odds 51 = .ok (.getfield 106, 3) := by decide +kernel
theorem dX6_odds_54 : decode cX6_odds 54 = .ok (.aload_n 0, 1) := by decide +kernel
theorem dX6_odds_55 : decode cX6_odds 55 = .ok (.getfield 109, 3) := by decide +kernel
theorem dX6_odds_58 : decode cX6_odds 58 = .ok (.aload_n 0, 1) := by decide +kernel
theorem dX6_odds_59 : decode cX6_odds 59 = .ok (.getfield 106, 3) := by decide +kernel
theorem dX6_odds_62 : decode cX6_odds 62 = .ok (.lsub, 1) := by decide +kernel
theorem dX6_odds_63 : decode cX6_odds 63 = .ok (.invokevirtual 127, 3) := by decide +kernel
theorem dX6_odds_66 : decode cX6_odds 66 = .ok (.iconst 1, 1) := by decide +kernel
theorem dX6_odds_67 : decode cX6_odds 67 = .ok (.ireturn, 1) := by decide +kernel
set_option maxRecDepth 20000 in
theorem ggX6_best_X6_isWord : GoodIn wsX6_best wsX6_isWord := goodIn_r _ [10, 1, 11, 12, 9, 13, 98, 99, 100, 101, 102, 103, 104, 105, 106, 107, 108, 109, 110, 111, 112, 113, 114, 115, 116, 117, 118, 119, 120, 121, 122, 123] (by decide +kernel) (by decide +kernel)
set_option maxRecDepth 20000 in
theorem gX6_best_X6_isWord : GoodIn wsX6_best (wsV RX6 83 RX6 yX6_isWord wsX6_isWord) := goodIn_app (goodIn_of _ (by decide +kernel)) ggX6_best_X6_isWord
set_option maxRecDepth 20000 in
theorem ggX6_best_X6_codeOf : GoodIn wsX6_best wsX6_codeOf := goodIn_r _ [17, 1, 2, 18, 19, 20, 9, 21, 22, 98, 99, 100, 101, 102, 103, 104, 105, 106, 107, 108, 109, 110, 111, 112, 113, 114, 115, 116, 117, 118, 119, 120, 121, 122, 123] (by decide +kernel) (by decide +kernel)
set_option maxRecDepth 20000 in
theorem gX6_best_X6_codeOf : GoodIn wsX6_best (wsV RX6 91 RX6 yX6_codeOf wsX6_codeOf) := goodIn_app (goodIn_of _ (by decide +kernel)) ggX6_best_X6_codeOf
set_option maxRecDepth 20000 in
theorem ggX6_best_X6_word : GoodIn wsX6_best wsX6_word := goodIn_r _ [26, 2, 1, 22, 11, 12, 9, 13, 98, 99, 100, 101, 102, 103, 104, 105, 106, 107, 108, 109, 110, 111, 112, 113, 114, 115, 116, 117, 118, 119, 120, 121, 122, 123] (by decide +kernel) (by decide +kernel)
set_option maxRecDepth 20000 in
theorem gX6_best_X6_word : GoodIn wsX6_best (wsV RX6 178 RX6 yX6_word wsX6_word) := goodIn_app (goodIn_of _ (by decide +kernel)) ggX6_best_X6_word
set_option maxRecDepth 20000 in
theorem ggX6_best_X6_chance : GoodIn wsX6_best wsX6_chance := goodIn_r _ [30, 31, 2, 32, 3, 33, 34, 35, 36, 37, 9, 38, 1, 39, 40, 41, 42, 43, 44, 45, 46, 47, 48, 18, 19, 20, 21, 22, 49, 50, 51, 52, 53, 54, 55, 56, 57, 58, 59, 60, 61, 62, 63, 64, 65, 66, 67, 68, 4, 5, 69, 70, 71, 72, 73, 74, 75, 76, 77, 78, 79, 80, 81, 82, 83, 84, 85, 86, 87, 88, 89, 90, 91, 98, 99, 100, 101, 102, 103, 104, 105, 106, 107, 108, 109, 110, 111, 112, 113, 114, 115, 116, 117, 118, 119, 120, 121, 122, 123] (by decide +kernel) (by decide +kernel)
set_option maxRecDepth 20000 in
theorem gX6_best_X6_chance : GoodIn wsX6_best (wsV RX6 175 RX6 yX6_chance wsX6_chance) := goodIn_app (goodIn_of _ (by decide +kernel)) ggX6_best_X6_chance
set_option maxRecDepth 20000 in
theorem ggX6_best_X6_atHand : GoodIn wsX6_best wsX6_atHand := goodIn_r _ [95, 4, 96, 5, 97, 69, 70, 71, 9, 72, 73, 74, 75, 98, 99, 100, 101, 102, 103, 104, 105, 106, 107, 108, 109, 110, 111, 112, 113, 114, 115, 116, 117, 118, 119, 120, 121, 122, 123] (by decide +kernel) (by decide +kernel)
set_option maxRecDepth 20000 in
theorem gX6_best_X6_atHand : GoodIn wsX6_best (wsV RX6 127 RX6 yX6_atHand wsX6_atHand) := goodIn_app (goodIn_of _ (by decide +kernel)) ggX6_best_X6_atHand
theorem dX6_best_0 : decode cX6_best 0 = .ok (.aload_n 0, 1) := by decide +kernel
theorem dX6_best_1 : decode cX6_best 1 = .ok (.iload_n 1, 1) := by decide +kernel
theorem dX6_best_2 : decode cX6_best 2 = .ok (.invokevirtual 83, 3) := by decide +kernel
theorem dX6_best_5 : decode cX6_best 5 = .ok (.ifCond .eq 13, 3) := by decide +kernel
theorem dX6_best_8 : decode cX6_best 8 = .ok (.aload_n 0, 1) := by decide +kernel
theorem dX6_best_9 : decode cX6_best 9 = .ok (.getfield 20, 3) := by decide +kernel
theorem dX6_best_12 : decode cX6_best 12 = .ok (.iload_n 1, 1) := by decide +kernel
theorem dX6_best_13 : decode cX6_best 13 = .ok (.iaload, 1) := by decide +kernel
theorem dX6_best_14 : decode cX6_best 14 = .ok (.iconst 3, 1) := by decide +kernel
theorem dX6_best_15 : decode cX6_best 15 = .ok (.if_icmp .ge 5, 3) := by decide +kernel
theorem dX6_best_18 : decode cX6_best 18 = .ok (.iconst (-1), 1) := by decide +kernel
theorem dX6_best_19 : decode cX6_best 19 = .ok (.ireturn, 1) := by decide +kernel
theorem dX6_best_20 : decode cX6_best 20 = .ok (.iconst 1, 1) := by decide +kernel
theorem dX6_best_21 : decode cX6_best 21 = .ok (.istore_n 2, 1) := by decide +kernel
theorem dX6_best_22 : decode cX6_best 22 = .ok (.iload_n 2, 1) := by decide +kernel
theorem dX6_best_23 : decode cX6_best 23 = .ok (.aload_n 0, 1) := by decide +kernel
theorem dX6_best_24 : decode cX6_best 24 = .ok (.getfield 7, 3) := by decide +kernel
theorem dX6_best_27 : decode cX6_best 27 = .ok (.if_icmp .ge 26, 3) := by decide +kernel
theorem dX6_best_30 : decode cX6_best 30 = .ok (.aload_n 0, 1) := by decide +kernel
theorem dX6_best_31 : decode cX6_best 31 = .ok (.getfield 16, 3) := by decide +kernel
theorem dX6_best_34 : decode cX6_best 34 = .ok (.iload_n 2, 1) := by decide +kernel
theorem dX6_best_35 : decode cX6_best 35 = .ok (.iaload, 1) := by decide +kernel
theorem dX6_best_36 : decode cX6_best 36 = .ok (.aload_n 0, 1) := by decide +kernel
theorem dX6_best_37 : decode cX6_best 37 = .ok (.getfield 16, 3) := by decide +kernel
theorem dX6_best_40 : decode cX6_best 40 = .ok (.iconst 0, 1) := by decide +kernel
theorem dX6_best_41 : decode cX6_best 41 = .ok (.iaload, 1) := by decide +kernel
theorem dX6_best_42 : decode cX6_best 42 = .ok (.if_icmp .eq 5, 3) := by decide +kernel
theorem dX6_best_45 : decode cX6_best 45 = .ok (.iconst (-1), 1) := by decide +kernel
theorem dX6_best_46 : decode cX6_best 46 = .ok (.ireturn, 1) := by decide +kernel
theorem dX6_best_47 : decode cX6_best 47 = .ok (.iinc 2 1, 3) := by decide +kernel
theorem dX6_best_50 : decode cX6_best 50 = .ok (.goto (-28), 3) := by decide +kernel
theorem dX6_best_53 : decode cX6_best 53 = .ok (.iload_n 1, 1) := by decide +kernel
theorem dX6_best_54 : decode cX6_best 54 = .ok (.ifCond .ne 7, 3) := by decide +kernel
theorem dX6_best_57 : decode cX6_best 57 = .ok (.iconst 1, 1) := by decide +kernel
theorem dX6_best_58 : decode cX6_best 58 = .ok (.goto 4, 3) := by decide +kernel
theorem dX6_best_61 : decode cX6_best 61 = .ok (.iconst 0, 1) := by decide +kernel
theorem dX6_best_62 : decode cX6_best 62 = .ok (.istore_n 2, 1) := by decide +kernel
theorem dX6_best_63 : decode cX6_best 63 = .ok (.aload_n 0, 1) := by decide +kernel
theorem dX6_best_64 : decode cX6_best 64 = .ok (.getfield 20, 3) := by decide +kernel
theorem dX6_best_67 : decode cX6_best 67 = .ok (.iload_n 1, 1) := by decide +kernel
theorem dX6_best_68 : decode cX6_best 68 = .ok (.iaload, 1) := by decide +kernel
theorem dX6_best_69 : decode cX6_best 69 = .ok (.istore_n 3, 1) := by decide +kernel
theorem dX6_best_70 : decode cX6_best 70 = .ok (.aload_n 0, 1) := by decide +kernel
theorem dX6_best_71 : decode cX6_best 71 = .ok (.getfield 20, 3) := by decide +kernel
theorem dX6_best_74 : decode cX6_best 74 = .ok (.iload_n 2, 1) := by decide +kernel
theorem dX6_best_75 : decode cX6_best 75 = .ok (.iaload, 1) := by decide +kernel
theorem dX6_best_76 : decode cX6_best 76 = .ok (.istore 4, 2) := by decide +kernel
theorem dX6_best_78 : decode cX6_best 78 = .ok (.iload 4, 2) := by decide +kernel
theorem dX6_best_80 : decode cX6_best 80 = .ok (.ifCond .le 11, 3) := by decide +kernel
theorem dX6_best_83 : decode cX6_best 83 = .ok (.aload_n 0, 1) := by decide +kernel
theorem dX6_best_84 : decode cX6_best 84 = .ok (.iload_n 2, 1) := by decide +kernel
theorem dX6_best_85 : decode cX6_best 85 = .ok (.invokevirtual 91, 3) := by decide +kernel
theorem dX6_best_88 : decode cX6_best 88 = .ok (.goto 4, 3) := by decide +kernel
theorem dX6_best_91 : decode cX6_best 91 = .ok (.iconst 0, 1) := by decide +kernel
theorem dX6_best_92 : decode cX6_best 92 = .ok (.istore 5, 2) := by decide +kernel
theorem dX6_best_94 : decode cX6_best 94 = .ok (.aload_n 0, 1) := by decide +kernel
theorem dX6_best_95 : decode cX6_best 95 = .ok (.iload_n 1, 1) := by decide +kernel
theorem dX6_best_96 : decode cX6_best 96 = .ok (.invokevirtual 91, 3) := by decide +kernel
theorem dX6_best_99 : decode cX6_best 99 = .ok (.istore 6, 2) := by decide +kernel
theorem dX6_best_101 : decode cX6_best 101 = .ok (.iconst 1, 1) := by decide +kernel
theorem dX6_best_102 : decode cX6_best 102 = .ok (.istore 7, 2) := by decide +kernel
theorem dX6_best_104 : decode cX6_best 104 = .ok (.iconst 0, 1) := by decide +kernel
theorem dX6_best_105 : decode cX6_best 105 = .ok (.istore 8, 2) := by decide +kernel
theorem dX6_best_107 : decode cX6_best 107 = .ok (.iload 8, 2) := by decide +kernel
theorem dX6_best_109 : decode cX6_best 109 = .ok (.iload_n 3, 1) := by decide +kernel
theorem dX6_best_110 : decode cX6_best 110 = .ok (.if_icmp .ge 18, 3) := by decide +kernel
theorem dX6_best_113 : decode cX6_best 113 = .ok (.iload 7, 2) := by decide +kernel
theorem dX6_best_115 : decode cX6_best 115 = .ok (.aload_n 0, 1) := by decide +kernel
theorem dX6_best_116 : decode cX6_best 116 = .ok (.getfield 7, 3) := by decide +kernel
theorem dX6_best_119 : decode cX6_best 119 = .ok (.imul, 1) := by decide +kernel
theorem dX6_best_120 : decode cX6_best 120 = .ok (.istore 7, 2) := by decide +kernel
theorem dX6_best_122 : decode cX6_best 122 = .ok (.iinc 8 1, 3) := by decide +kernel
theorem dX6_best_125 : decode cX6_best 125 = .ok (.goto (-18), 3) := by decide +kernel
theorem dX6_best_128 : decode cX6_best 128 = .ok (.iconst (-1), 1) := by decide +kernel
theorem dX6_best_129 : decode cX6_best 129 = .ok (.istore 8, 2) := by decide +kernel
theorem dX6_best_131 : decode cX6_best 131 = .ok (.lconst 0, 1) := by decide +kernel
theorem dX6_best_132 : decode cX6_best 132 = .ok (.lstore 9, 2) := by decide +kernel
theorem dX6_best_134 : decode cX6_best 134 = .ok (.lconst 1, 1) := by decide +kernel
theorem dX6_best_135 : decode cX6_best 135 = .ok (.lstore 11, 2) := by decide +kernel
theorem dX6_best_137 : decode cX6_best 137 = .ok (.iconst 0, 1) := by decide +kernel
theorem dX6_best_138 : decode cX6_best 138 = .ok (.istore 13, 2) := by decide +kernel
theorem dX6_best_140 : decode cX6_best 140 = .ok (.iload 13, 2) := by decide +kernel
theorem dX6_best_142 : decode cX6_best 142 = .ok (.iload 7, 2) := by decide +kernel
theorem dX6_best_144 : decode cX6_best 144 = .ok (.if_icmp .ge 83, 3) := by decide +kernel
theorem dX6_best_147 : decode cX6_best 147 = .ok (.iload 13, 2) := by decide +kernel
theorem dX6_best_149 : decode cX6_best 149 = .ok (.iload 6, 2) := by decide +kernel
theorem dX6_best_151 : decode cX6_best 151 = .ok (.if_icmp .ne 6, 3) := by decide +kernel
theorem dX6_best_154 : decode cX6_best 154 = .ok (.goto 67, 3) := by decide +kernel
theorem dX6_best_157 : decode cX6_best 157 = .ok (.aload_n 0, 1) := by decide +kernel
theorem dX6_best_158 : decode cX6_best 158 = .ok (.iload_n 2, 1) := by decide +kernel
theorem dX6_best_159 : decode cX6_best 159 = .ok (.iload_n 3, 1) := by decide +kernel
theorem dX6_best_160 : decode cX6_best 160 = .ok (.iload 13, 2) := by decide +kernel
theorem dX6_best_162 : decode cX6_best 162 = .ok (.invokevirtual 178, 3) := by decide +kernel
theorem dX6_best_165 : decode cX6_best 165 = .ok (.istore 14, 2) := by decide +kernel
theorem dX6_best_167 : decode cX6_best 167 = .ok (.aload_n 0, 1) := by decide +kernel
theorem dX6_best_168 : decode cX6_best 168 = .ok (.iconst 1, 1) := by decide +kernel
theorem dX6_best_169 : decode cX6_best 169 = .ok (.iload_n 1, 1) := by decide +kernel
theorem dX6_best_170 : decode cX6_best 170 = .ok (.ishl, 1) := by decide +kernel
theorem dX6_best_171 : decode cX6_best 171 = .ok (.iconst 1, 1) := by decide +kernel
theorem dX6_best_172 : decode cX6_best 172 = .ok (.iload_n 2, 1) := by decide +kernel
theorem dX6_best_173 : decode cX6_best 173 = .ok (.ishl, 1) := by decide +kernel
theorem dX6_best_174 : decode cX6_best 174 = .ok (.ior, 1) := by decide +kernel
theorem dX6_best_175 : decode cX6_best 175 = .ok (.iload_n 2, 1) := by decide +kernel
theorem dX6_best_176 : decode cX6_best 176 = .ok (.invokevirtual 175, 3) := by decide +kernel
theorem dX6_best_179 : decode cX6_best 179 = .ok (.iload 8, 2) := by decide +kernel
theorem dX6_best_181 : decode cX6_best 181 = .ok (.ifCond .lt 24, 3) := by decide +kernel
theorem dX6_best_184 : decode cX6_best 184 = .ok (.aload_n 0, 1) := by decide +kernel
theorem dX6_best_185 : decode cX6_best 185 = .ok (.getfield 106, 3) := by decide +kernel
theorem dX6_best_188 : decode cX6_best 188 = .ok (.lload 11, 2) := by decide +kernel
theorem dX6_best_190 : decode cX6_best 190 = .ok (.lmul, 1) := by decide +kernel
theorem dX6_best_191 : decode cX6_best 191 = .ok (.lload 9, 2) := by decide +kernel
theorem dX6_best_193 : decode cX6_best 193 = .ok (.aload_n 0, 1) := by decide +kernel
theorem dX6_best_194 : decode cX6_best 194 = .ok (.getfield 109, 3) := by decide +kernel
theorem dX6_best_197 : decode cX6_best 197 = .ok (.lmul, 1) := by decide +kernel
theorem dX6_best_198 : decode cX6_best 198 = .ok (.lcmp, 1) := by decide +kernel
theorem dX6_best_199 : decode cX6_best 199 = .ok (.ifCond .gt 6, 3) := by decide +kernel
theorem dX6_best_202 : decode cX6_best 202 = .ok (.goto 19, 3) := by decide +kernel
theorem dX6_best_205 : decode cX6_best 205 = .ok (.iload 13, 2) := by decide +kernel
theorem dX6_best_207 : decode cX6_best 207 = .ok (.istore 8, 2) := by decide +kernel
theorem dX6_best_209 : decode cX6_best 209 = .ok (.aload_n 0, 1) := by decide +kernel
theorem dX6_best_210 : decode cX6_best 210 = .ok (.getfield 106, 3) := by decide +kernel
theorem dX6_best_213 : decode cX6_best 213 = .ok (.lstore 9, 2) := by decide +kernel
theorem dX6_best_215 : decode cX6_best 215 = .ok (.aload_n 0, 1) := by decide +kernel
theorem dX6_best_216 : decode cX6_best 216 = .ok (.getfield 109, 3) := by decide +kernel
theorem dX6_best_219 : decode cX6_best 219 = .ok (.lstore 11, 2) := by decide +kernel
theorem dX6_best_221 : decode cX6_best 221 = .ok (.iinc 13 1, 3) := by decide +kernel
theorem dX6_best_224 : decode cX6_best 224 = .ok (.goto (-84), 3) := by decide +kernel
theorem dX6_best_227 : decode cX6_best 227 = .ok (.aload_n 0, 1) := by decide +kernel
theorem dX6_best_228 : decode cX6_best 228 = .ok (.getfield 20, 3) := by decide +kernel
theorem dX6_best_231 : decode cX6_best 231 = .ok (.iload_n 2, 1) := by decide +kernel
theorem dX6_best_232 : decode cX6_best 232 = .ok (.iload 4, 2) := by decide +kernel
theorem dX6_best_234 : decode cX6_best 234 = .ok (.iastore, 1) := by decide +kernel
theorem dX6_best_235 : decode cX6_best 235 = .ok (.iload 4, 2) := by decide +kernel
theorem dX6_best_237 : decode cX6_best 237 = .ok (.ifCond .le 14, 3) := by decide +kernel
theorem dX6_best_240 : decode cX6_best 240 = .ok (.aload_n 0, 1) := by decide +kernel
theorem dX6_best_241 : decode cX6_best 241 = .ok (.iload_n 2, 1) := by decide +kernel
theorem dX6_best_242 : decode cX6_best 242 = .ok (.iload 4, 2) := by decide +kernel
theorem dX6_best_244 : decode cX6_best 244 = .ok (.iload 5, 2) := by decide +kernel
theorem dX6_best_246 : decode cX6_best 246 = .ok (.invokevirtual 178, 3) := by decide +kernel
theorem dX6_best_249 : decode cX6_best 249 = .ok (.istore 13, 2) := by decide +kernel
theorem dX6_best_251 : decode cX6_best 251 = .ok (.aload_n 0, 1) := by decide +kernel
theorem dX6_best_252 : decode cX6_best 252 = .ok (.lload 9, 2) := by decide +kernel
theorem dX6_best_254 : decode cX6_best 254 = .ok (.lload 11, 2) := by decide +kernel
theorem dX6_best_256 : decode cX6_best 256 = .ok (.invokevirtual 127, 3) := by decide +kernel
theorem dX6_best_259 : decode cX6_best 259 = .ok (.iload 8, 2) := by decide +kernel
theorem dX6_best_261 : decode cX6_best 261 = .ok (.ireturn, 1) := by decide +kernel
set_option maxRecDepth 20000 in
theorem ggX6_cover_X6_times : GoodIn wsX6_cover wsX6_times := goodIn_r _ [12, 13, 14, 11, 15, 16, 17, 18, 19, 6, 7, 30, 31, 32, 33, 34, 35, 36, 37, 38, 39, 40, 41, 42, 43, 44, 45, 46, 47, 48, 49, 50, 51, 52, 53, 54, 55] (by decide +kernel) (by decide +kernel)
set_option maxRecDepth 20000 in
theorem gX6_cover_X6_times : GoodIn wsX6_cover (wsV RX6 147 RX6 yX6_times wsX6_times) := goodIn_app (goodIn_of _ (by decide +kernel)) ggX6_cover_X6_times
set_option maxRecDepth 20000 in
theorem ggX6_cover_X6_add : GoodIn wsX6_cover wsX6_add := goodIn_r _ [23, 13, 14, 11, 15, 16, 17, 18, 19, 6, 7, 30, 31, 32, 33, 34, 35, 36, 37, 38, 39, 40, 41, 42, 43, 44, 45, 46, 47, 48, 49, 50, 51, 52, 53, 54, 55] (by decide +kernel) (by decide +kernel)
set_option maxRecDepth 20000 in
theorem gX6_cover_X6_add : GoodIn wsX6_cover (wsV RX6 123 RX6 yX6_add wsX6_add) := goodIn_app (goodIn_of _ (by decide +kernel)) ggX6_cover_X6_add
set_option maxRecDepth 20000 in
theorem ggX6_cover_X6_atHand : GoodIn wsX6_cover wsX6_atHand := goodIn_r _ [27, 6, 28, 7, 29, 16, 17, 18, 11, 19, 13, 14, 15, 30, 31, 32, 33, 34, 35, 36, 37, 38, 39, 40, 41, 42, 43, 44, 45, 46, 47, 48, 49, 50, 51, 52, 53, 54, 55] (by decide +kernel) (by decide +kernel)
set_option maxRecDepth 20000 in
theorem gX6_cover_X6_atHand : GoodIn wsX6_cover (wsV RX6 127 RX6 yX6_atHand wsX6_atHand) := goodIn_app (goodIn_of _ (by decide +kernel)) ggX6_cover_X6_atHand
theorem dX6_cover_0 : decode cX6_cover 0 = .ok (.iconst 1, 1) := by decide +kernel
theorem dX6_cover_1 : decode cX6_cover 1 = .ok (.aload_n 0, 1) := by decide +kernel
theorem dX6_cover_2 : decode cX6_cover 2 = .ok (.getfield 7, 3) := by decide +kernel
theorem dX6_cover_5 : decode cX6_cover 5 = .ok (.ishl, 1) := by decide +kernel
theorem dX6_cover_6 : decode cX6_cover 6 = .ok (.iconst 1, 1) := by decide +kernel
theorem dX6_cover_7 : decode cX6_cover 7 = .ok (.isub, 1) := by decide +kernel
theorem dX6_cover_8 : decode cX6_cover 8 = .ok (.istore_n 1, 1) := by decide +kernel
theorem dX6_cover_9 : decode cX6_cover 9 = .ok (.aload_n 0, 1) := by decide +kernel
theorem dX6_cover_10 : decode cX6_cover 10 = .ok (.getfield 64, 3) := by decide +kernel
theorem dX6_cover_13 : decode cX6_cover 13 = .ok (.iload_n 1, 1) := by decide +kernel
theorem dX6_cover_14 : decode cX6_cover 14 = .ok (.lconst 0, 1) := by decide +kernel
theorem dX6_cover_15 : decode cX6_cover 15 = .ok (.lastore, 1) := by decide +kernel
theorem dX6_cover_16 : decode cX6_cover 16 = .ok (.aload_n 0, 1) := by decide +kernel
theorem dX6_cover_17 : decode cX6_cover 17 = .ok (.getfield 67, 3) := by decide +kernel
theorem dX6_cover_20 : decode cX6_cover 20 = .ok (.iload_n 1, 1) := by decide +kernel
theorem dX6_cover_21 : decode cX6_cover 21 = .ok (.lconst 1, 1) := by decide +kernel
theorem dX6_cover_22 : decode cX6_cover 22 = .ok (.lastore, 1) := by decide +kernel
theorem dX6_cover_23 : decode cX6_cover 23 = .ok (.iload_n 1, 1) := by decide +kernel
theorem dX6_cover_24 : decode cX6_cover 24 = .ok (.iconst 1, 1) := by decide +kernel
theorem dX6_cover_25 : decode cX6_cover 25 = .ok (.isub, 1) := by decide +kernel
theorem dX6_cover_26 : decode cX6_cover 26 = .ok (.istore_n 2, 1) := by decide +kernel
theorem dX6_cover_27 : decode cX6_cover 27 = .ok (.iload_n 2, 1) := by decide +kernel
theorem dX6_cover_28 : decode cX6_cover 28 = .ok (.ifCond .lt 161, 3) := by decide +kernel
theorem dX6_cover_31 : decode cX6_cover 31 = .ok (.aload_n 0, 1) := by decide +kernel
theorem dX6_cover_32 : decode cX6_cover 32 = .ok (.getfield 13, 3) := by decide +kernel
theorem dX6_cover_35 : decode cX6_cover 35 = .ok (.i2l, 1) := by decide +kernel
theorem dX6_cover_36 : decode cX6_cover 36 = .ok (.lstore_n 3, 1) := by decide +kernel
theorem dX6_cover_37 : decode cX6_cover 37 = .ok (.lconst 1, 1) := by decide +kernel
theorem dX6_cover_38 : decode cX6_cover 38 = .ok (.lstore 5, 2) := by decide +kernel
theorem dX6_cover_40 : decode cX6_cover 40 = .ok (.iconst 0, 1) := by decide +kernel
theorem dX6_cover_41 : decode cX6_cover 41 = .ok (.istore 7, 2) := by decide +kernel
theorem dX6_cover_43 : decode cX6_cover 43 = .ok (.iconst 0, 1) := by decide +kernel
theorem dX6_cover_44 : decode cX6_cover 44 = .ok (.istore 8, 2) := by decide +kernel
theorem dX6_cover_46 : decode cX6_cover 46 = .ok (.iload 8, 2) := by decide +kernel
theorem dX6_cover_48 : decode cX6_cover 48 = .ok (.aload_n 0, 1) := by decide +kernel
theorem dX6_cover_49 : decode cX6_cover 49 = .ok (.getfield 7, 3) := by decide +kernel
theorem dX6_cover_52 : decode cX6_cover 52 = .ok (.if_icmp .ge 95, 3) := by decide +kernel
theorem dX6_cover_55 : decode cX6_cover 55 = .ok (.iload_n 2, 1) := by decide +kernel
theorem dX6_cover_56 : decode cX6_cover 56 = .ok (.iload 8, 2) := by decide +kernel
theorem dX6_cover_58 : decode cX6_cover 58 = .ok (.ishr, 1) := by decide +kernel
theorem dX6_cover_59 : decode cX6_cover 59 = .ok (.iconst 1, 1) := by decide +kernel
theorem dX6_cover_60 : decode cX6_cover 60 = .ok (.iand, 1) := by decide +kernel
theorem dX6_cover_61 : decode cX6_cover 61 = .ok (.iconst 1, 1) := by decide +kernel
theorem dX6_cover_62 : decode cX6_cover 62 = .ok (.if_icmp .ne 18, 3) := by decide +kernel
theorem dX6_cover_65 : decode cX6_cover 65 = .ok (.iload 7, 2) := by decide +kernel
theorem dX6_cover_67 : decode cX6_cover 67 = .ok (.aload_n 0, 1) := by decide +kernel
theorem dX6_cover_68 : decode cX6_cover 68 = .ok (.getfield 16, 3) := by decide +kernel
theorem dX6_cover_71 : decode cX6_cover 71 = .ok (.iload 8, 2) := by decide +kernel
theorem dX6_cover_73 : decode cX6_cover 73 = .ok (.iaload, 1) := by decide +kernel
theorem dX6_cover_74 : decode cX6_cover 74 = .ok (.iadd, 1) := by decide +kernel
theorem dX6_cover_75 : decode cX6_cover 75 = .ok (.istore 7, 2) := by decide +kernel
theorem dX6_cover_77 : decode cX6_cover 77 = .ok (.goto 64, 3) := by decide +kernel
theorem dX6_cover_80 : decode cX6_cover 80 = .ok (.aload_n 0, 1) := by decide +kernel
theorem dX6_cover_81 : decode cX6_cover 81 = .ok (.aload_n 0, 1) := by decide +kernel
theorem dX6_cover_82 : decode cX6_cover 82 = .ok (.getfield 16, 3) := by decide +kernel
theorem dX6_cover_85 : decode cX6_cover 85 = .ok (.iload 8, 2) := by decide +kernel
theorem dX6_cover_87 : decode cX6_cover 87 = .ok (.iaload, 1) := by decide +kernel
theorem dX6_cover_88 : decode cX6_cover 88 = .ok (.i2l, 1) := by decide +kernel
theorem dX6_cover_89 : decode cX6_cover 89 = .ok (.lconst 1, 1) := by decide +kernel
theorem dX6_cover_90 : decode cX6_cover 90 = .ok (.aload_n 0, 1) := by decide +kernel
theorem dX6_cover_91 : decode cX6_cover 91 = .ok (.getfield 64, 3) := by decide +kernel
theorem dX6_cover_94 : decode cX6_cover 94 = .ok (.iload_n 2, 1) := by decide +kernel
theorem dX6_cover_95 : decode cX6_cover 95 = .ok (.iconst 1, 1) := by decide +kernel
theorem dX6_cover_96 : decode cX6_cover 96 = .ok (.iload 8, 2) := by decide +kernel
theorem dX6_cover_98 : decode cX6_cover 98 = .ok (.ishl, 1) := by decide +kernel
theorem dX6_cover_99 : decode cX6_cover 99 = .ok (.ior, 1) := by decide +kernel
theorem dX6_cover_100 : decode cX6_cover 100 = .ok (.laload, 1) := by decide +kernel
theorem dX6_cover_101 : decode cX6_cover 101 = .ok (.aload_n 0, 1) := by decide +kernel
theorem dX6_cover_102 : decode cX6_cover 102 = .ok (.getfield 67, 3) := by decide +kernel
theorem dX6_cover_105 : decode cX6_cover 105 = .ok (.iload_n 2, 1) := by decide +kernel
theorem dX6_cover_106 : decode cX6_cover 106 = .ok (.iconst 1, 1) := by decide +kernel
