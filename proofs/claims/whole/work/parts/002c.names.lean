theorem dX2_enter_40 : decode cX2_enter 40 = .ok (.aload_n 1, 1) := by decide +kernel
theorem dX2_enter_41 : decode cX2_enter 41 = .ok (.invokevirtual 31, 3) := by decide +kernel
theorem dX2_enter_44 : decode cX2_enter 44 = .ok (.ifCond .eq 5, 3) := by decide +kernel
theorem dX2_enter_47 : decode cX2_enter 47 = .ok (.iconst 0, 1) := by decide +kernel
theorem dX2_enter_48 : decode cX2_enter 48 = .ok (.ireturn, 1) := by decide +kernel
theorem dX2_enter_49 : decode cX2_enter 49 = .ok (.iinc 2 1, 3) := by decide +kernel
theorem dX2_enter_52 : decode cX2_enter 52 = .ok (.goto (-40), 3) := by decide +kernel
theorem dX2_enter_55 : decode cX2_enter 55 = .ok (.aload_n 0, 1) := by decide +kernel
theorem dX2_enter_56 : decode cX2_enter 56 = .ok (.getfield 11, 3) := by decide +kernel
theorem dX2_enter_59 : decode cX2_enter 59 = .ok (.aload_n 0, 1) := by decide +kernel
theorem dX2_enter_60 : decode cX2_enter 60 = .ok (.getfield 27, 3) := by decide +kernel
theorem dX2_enter_63 : decode cX2_enter 63 = .ok (.aload_n 1, 1) := by decide +kernel
theorem dX2_enter_64 : decode cX2_enter 64 = .ok (.aastore, 1) := by decide +kernel
theorem dX2_enter_65 : decode cX2_enter 65 = .ok (.aload_n 0, 1) := by decide +kernel
theorem dX2_enter_66 : decode cX2_enter 66 = .ok (.getfield 21, 3) := by decide +kernel
theorem dX2_enter_69 : decode cX2_enter 69 = .ok (.aload_n 0, 1) := by decide +kernel
theorem dX2_enter_70 : decode cX2_enter 70 = .ok (.getfield 27, 3) := by decide +kernel
theorem dX2_enter_73 : decode cX2_enter 73 = .ok (.aload_n 1, 1) := by decide +kernel
theorem dX2_enter_74 : decode cX2_enter 74 = .ok (.invokevirtual 35, 3) := by decide +kernel
theorem dX2_enter_77 : decode cX2_enter 77 = .ok (.lastore, 1) := by decide +kernel
theorem dX2_enter_78 : decode cX2_enter 78 = .ok (.aload_n 0, 1) := by decide +kernel
theorem dX2_enter_79 : decode cX2_enter 79 = .ok (.dup, 1) := by decide +kernel
theorem dX2_enter_80 : decode cX2_enter 80 = .ok (.getfield 27, 3) := by decide +kernel
theorem dX2_enter_83 : decode cX2_enter 83 = .ok (.iconst 1, 1) := by decide +kernel
theorem dX2_enter_84 : decode cX2_enter 84 = .ok (.iadd, 1) := by decide +kernel
theorem dX2_enter_85 : decode cX2_enter 85 = .ok (.putfield 27, 3) := by decide +kernel
theorem dX2_enter_88 : decode cX2_enter 88 = .ok (.aload_n 0, 1) := by decide +kernel
theorem dX2_enter_89 : decode cX2_enter 89 = .ok (.getfield 27, 3) := by decide +kernel
theorem dX2_enter_92 : decode cX2_enter 92 = .ok (.iconst 1, 1) := by decide +kernel
theorem dX2_enter_93 : decode cX2_enter 93 = .ok (.isub, 1) := by decide +kernel
theorem dX2_enter_94 : decode cX2_enter 94 = .ok (.istore_n 2, 1) := by decide +kernel
theorem dX2_enter_95 : decode cX2_enter 95 = .ok (.iconst 0, 1) := by decide +kernel
theorem dX2_enter_96 : decode cX2_enter 96 = .ok (.istore_n 3, 1) := by decide +kernel
theorem dX2_enter_97 : decode cX2_enter 97 = .ok (.iload_n 3, 1) := by decide +kernel
theorem dX2_enter_98 : decode cX2_enter 98 = .ok (.aload_n 0, 1) := by decide +kernel
theorem dX2_enter_99 : decode cX2_enter 99 = .ok (.getfield 27, 3) := by decide +kernel
theorem dX2_enter_102 : decode cX2_enter 102 = .ok (.if_icmp .ge 54, 3) := by decide +kernel
theorem dX2_enter_105 : decode cX2_enter 105 = .ok (.aload_n 0, 1) := by decide +kernel
theorem dX2_enter_106 : decode cX2_enter 106 = .ok (.getfield 11, 3) := by decide +kernel
theorem dX2_enter_109 : decode cX2_enter 109 = .ok (.iload_n 3, 1) := by decide +kernel
theorem dX2_enter_110 : decode cX2_enter 110 = .ok (.aaload, 1) := by decide +kernel
theorem dX2_enter_111 : decode cX2_enter 111 = .ok (.astore 4, 2) := by decide +kernel
theorem dX2_enter_113 : decode cX2_enter 113 = .ok (.aload 4, 2) := by decide +kernel
theorem dX2_enter_115 : decode cX2_enter 115 = .ok (.ifnull 35, 3) := by decide +kernel
theorem dX2_enter_118 : decode cX2_enter 118 = .ok (.aload_n 0, 1) := by decide +kernel
theorem dX2_enter_119 : decode cX2_enter 119 = .ok (.getfield 17, 3) := by decide +kernel
theorem dX2_enter_122 : decode cX2_enter 122 = .ok (.iload_n 2, 1) := by decide +kernel
theorem dX2_enter_123 : decode cX2_enter 123 = .ok (.iconst 3, 1) := by decide +kernel
theorem dX2_enter_124 : decode cX2_enter 124 = .ok (.imul, 1) := by decide +kernel
theorem dX2_enter_125 : decode cX2_enter 125 = .ok (.iload_n 3, 1) := by decide +kernel
theorem dX2_enter_126 : decode cX2_enter 126 = .ok (.iadd, 1) := by decide +kernel
theorem dX2_enter_127 : decode cX2_enter 127 = .ok (.aload 4, 2) := by decide +kernel
theorem dX2_enter_129 : decode cX2_enter 129 = .ok (.aload_n 1, 1) := by decide +kernel
theorem dX2_enter_130 : decode cX2_enter 130 = .ok (.invokevirtual 39, 3) := by decide +kernel
theorem dX2_enter_133 : decode cX2_enter 133 = .ok (.lastore, 1) := by decide +kernel
theorem dX2_enter_134 : decode cX2_enter 134 = .ok (.aload_n 0, 1) := by decide +kernel
theorem dX2_enter_135 : decode cX2_enter 135 = .ok (.getfield 17, 3) := by decide +kernel
theorem dX2_enter_138 : decode cX2_enter 138 = .ok (.iload_n 3, 1) := by decide +kernel
theorem dX2_enter_139 : decode cX2_enter 139 = .ok (.iconst 3, 1) := by decide +kernel
theorem dX2_enter_140 : decode cX2_enter 140 = .ok (.imul, 1) := by decide +kernel
theorem dX2_enter_141 : decode cX2_enter 141 = .ok (.iload_n 2, 1) := by decide +kernel
theorem dX2_enter_142 : decode cX2_enter 142 = .ok (.iadd, 1) := by decide +kernel
theorem dX2_enter_143 : decode cX2_enter 143 = .ok (.aload_n 1, 1) := by decide +kernel
theorem dX2_enter_144 : decode cX2_enter 144 = .ok (.aload 4, 2) := by decide +kernel
theorem dX2_enter_146 : decode cX2_enter 146 = .ok (.invokevirtual 39, 3) := by decide +kernel
theorem dX2_enter_149 : decode cX2_enter 149 = .ok (.lastore, 1) := by decide +kernel
theorem dX2_enter_150 : decode cX2_enter 150 = .ok (.iinc 3 1, 3) := by decide +kernel
theorem dX2_enter_153 : decode cX2_enter 153 = .ok (.goto (-56), 3) := by decide +kernel
theorem dX2_enter_156 : decode cX2_enter 156 = .ok (.iconst 1, 1) := by decide +kernel
theorem dX2_enter_157 : decode cX2_enter 157 = .ok (.ireturn, 1) := by decide +kernel
set_option maxRecDepth 20000 in
theorem ggX2_determinant_X2_entry : GoodIn wsX2_determinant wsX2_entry := goodIn_r _ [5, 6, 7, 12, 13, 14, 15] (by decide +kernel) (by decide +kernel)
set_option maxRecDepth 20000 in
theorem gX2_determinant_X2_entry : GoodIn wsX2_determinant (wsV RX2 43 RX2 yX2_entry wsX2_entry) := goodIn_app (goodIn_of _ (by decide +kernel)) ggX2_determinant_X2_entry
set_option maxRecDepth 20000 in
theorem ggX2_determinant_X2_minor : GoodIn wsX2_determinant wsX2_minor := goodIn_r _ [11, 1, 2, 3, 4, 5, 6, 7, 12, 13, 14, 15] (by decide +kernel) (by decide +kernel)
set_option maxRecDepth 20000 in
theorem gX2_determinant_X2_minor : GoodIn wsX2_determinant (wsV RX2 47 RX2 yX2_minor wsX2_minor) := goodIn_app (goodIn_of _ (by decide +kernel)) ggX2_determinant_X2_minor
theorem dX2_determinant_0 : decode cX2_determinant 0 = .ok (.aload_n 0, 1) := by decide +kernel
theorem dX2_determinant_1 : decode cX2_determinant 1 = .ok (.iconst 0, 1) := by decide +kernel
theorem dX2_determinant_2 : decode cX2_determinant 2 = .ok (.iconst 0, 1) := by decide +kernel
theorem dX2_determinant_3 : decode cX2_determinant 3 = .ok (.iload_n 1, 1) := by decide +kernel
theorem dX2_determinant_4 : decode cX2_determinant 4 = .ok (.invokevirtual 43, 3) := by decide +kernel
theorem dX2_determinant_7 : decode cX2_determinant 7 = .ok (.aload_n 0, 1) := by decide +kernel
theorem dX2_determinant_8 : decode cX2_determinant 8 = .ok (.iconst 1, 1) := by decide +kernel
theorem dX2_determinant_9 : decode cX2_determinant 9 = .ok (.iconst 2, 1) := by decide +kernel
theorem dX2_determinant_10 : decode cX2_determinant 10 = .ok (.iload_n 1, 1) := by decide +kernel
theorem dX2_determinant_11 : decode cX2_determinant 11 = .ok (.invokevirtual 47, 3) := by decide +kernel
theorem dX2_determinant_14 : decode cX2_determinant 14 = .ok (.lmul, 1) := by decide +kernel
theorem dX2_determinant_15 : decode cX2_determinant 15 = .ok (.aload_n 0, 1) := by decide +kernel
theorem dX2_determinant_16 : decode cX2_determinant 16 = .ok (.iconst 0, 1) := by decide +kernel
theorem dX2_determinant_17 : decode cX2_determinant 17 = .ok (.iconst 1, 1) := by decide +kernel
theorem dX2_determinant_18 : decode cX2_determinant 18 = .ok (.iload_n 1, 1) := by decide +kernel
theorem dX2_determinant_19 : decode cX2_determinant 19 = .ok (.invokevirtual 43, 3) := by decide +kernel
theorem dX2_determinant_22 : decode cX2_determinant 22 = .ok (.aload_n 0, 1) := by decide +kernel
theorem dX2_determinant_23 : decode cX2_determinant 23 = .ok (.iconst 0, 1) := by decide +kernel
theorem dX2_determinant_24 : decode cX2_determinant 24 = .ok (.iconst 2, 1) := by decide +kernel
theorem dX2_determinant_25 : decode cX2_determinant 25 = .ok (.iload_n 1, 1) := by decide +kernel
theorem dX2_determinant_26 : decode cX2_determinant 26 = .ok (.invokevirtual 47, 3) := by decide +kernel
theorem dX2_determinant_29 : decode cX2_determinant 29 = .ok (.lmul, 1) := by decide +kernel
theorem dX2_determinant_30 : decode cX2_determinant 30 = .ok (.lsub, 1) := by decide +kernel
theorem dX2_determinant_31 : decode cX2_determinant 31 = .ok (.aload_n 0, 1) := by decide +kernel
theorem dX2_determinant_32 : decode cX2_determinant 32 = .ok (.iconst 0, 1) := by decide +kernel
theorem dX2_determinant_33 : decode cX2_determinant 33 = .ok (.iconst 2, 1) := by decide +kernel
theorem dX2_determinant_34 : decode cX2_determinant 34 = .ok (.iload_n 1, 1) := by decide +kernel
theorem dX2_determinant_35 : decode cX2_determinant 35 = .ok (.invokevirtual 43, 3) := by decide +kernel
theorem dX2_determinant_38 : decode cX2_determinant 38 = .ok (.aload_n 0, 1) := by decide +kernel
theorem dX2_determinant_39 : decode cX2_determinant 39 = .ok (.iconst 0, 1) := by decide +kernel
theorem dX2_determinant_40 : decode cX2_determinant 40 = .ok (.iconst 1, 1) := by decide +kernel
theorem dX2_determinant_41 : decode cX2_determinant 41 = .ok (.iload_n 1, 1) := by decide +kernel
theorem dX2_determinant_42 : decode cX2_determinant 42 = .ok (.invokevirtual 47, 3) := by decide +kernel
theorem dX2_determinant_45 : decode cX2_determinant 45 = .ok (.lmul, 1) := by decide +kernel
theorem dX2_determinant_46 : decode cX2_determinant 46 = .ok (.ladd, 1) := by decide +kernel
theorem dX2_determinant_47 : decode cX2_determinant 47 = .ok (.lreturn, 1) := by decide +kernel
set_option maxRecDepth 20000 in
theorem ggX2_sumOfShares_X2_determinant : GoodIn wsX2_sumOfShares wsX2_determinant := goodIn_r _ [6, 7, 8, 9, 5, 10, 11, 12, 13, 14, 15, 16, 17, 18, 19, 20] (by decide +kernel) (by decide +kernel)
set_option maxRecDepth 20000 in
theorem gX2_sumOfShares_X2_determinant : GoodIn wsX2_sumOfShares (wsV RX2 50 RX2 yX2_determinant wsX2_determinant) := goodIn_app (goodIn_of _ (by decide +kernel)) ggX2_sumOfShares_X2_determinant
theorem dX2_sumOfShares_0 : decode cX2_sumOfShares 0 = .ok (.lconst 0, 1) := by decide +kernel
theorem dX2_sumOfShares_1 : decode cX2_sumOfShares 1 = .ok (.lstore_n 1, 1) := by decide +kernel
theorem dX2_sumOfShares_2 : decode cX2_sumOfShares 2 = .ok (.iconst 0, 1) := by decide +kernel
theorem dX2_sumOfShares_3 : decode cX2_sumOfShares 3 = .ok (.istore_n 3, 1) := by decide +kernel
theorem dX2_sumOfShares_4 : decode cX2_sumOfShares 4 = .ok (.iload_n 3, 1) := by decide +kernel
theorem dX2_sumOfShares_5 : decode cX2_sumOfShares 5 = .ok (.aload_n 0, 1) := by decide +kernel
theorem dX2_sumOfShares_6 : decode cX2_sumOfShares 6 = .ok (.getfield 27, 3) := by decide +kernel
theorem dX2_sumOfShares_9 : decode cX2_sumOfShares 9 = .ok (.if_icmp .ge 17, 3) := by decide +kernel
theorem dX2_sumOfShares_12 : decode cX2_sumOfShares 12 = .ok (.lload_n 1, 1) := by decide +kernel
theorem dX2_sumOfShares_13 : decode cX2_sumOfShares 13 = .ok (.aload_n 0, 1) := by decide +kernel
theorem dX2_sumOfShares_14 : decode cX2_sumOfShares 14 = .ok (.iload_n 3, 1) := by decide +kernel
theorem dX2_sumOfShares_15 : decode cX2_sumOfShares 15 = .ok (.invokevirtual 50, 3) := by decide +kernel
theorem dX2_sumOfShares_18 : decode cX2_sumOfShares 18 = .ok (.ladd, 1) := by decide +kernel
theorem dX2_sumOfShares_19 : decode cX2_sumOfShares 19 = .ok (.lstore_n 1, 1) := by decide +kernel
theorem dX2_sumOfShares_20 : decode cX2_sumOfShares 20 = .ok (.iinc 3 1, 3) := by decide +kernel
theorem dX2_sumOfShares_23 : decode cX2_sumOfShares 23 = .ok (.goto (-19), 3) := by decide +kernel
theorem dX2_sumOfShares_26 : decode cX2_sumOfShares 26 = .ok (.lload_n 1, 1) := by decide +kernel
theorem dX2_sumOfShares_27 : decode cX2_sumOfShares 27 = .ok (.lreturn, 1) := by decide +kernel
set_option maxRecDepth 20000 in
theorem ggX2_minor_X2_entry : GoodIn wsX2_minor wsX2_entry := goodIn_r _ [5, 6, 7, 8, 9, 10, 11] (by decide +kernel) (by decide +kernel)
set_option maxRecDepth 20000 in
theorem gX2_minor_X2_entry : GoodIn wsX2_minor (wsV RX2 43 RX2 yX2_entry wsX2_entry) := goodIn_app (goodIn_of _ (by decide +kernel)) ggX2_minor_X2_entry
theorem dX2_minor_0 : decode cX2_minor 0 = .ok (.aload_n 0, 1) := by decide +kernel
theorem dX2_minor_1 : decode cX2_minor 1 = .ok (.iconst 1, 1) := by decide +kernel
theorem dX2_minor_2 : decode cX2_minor 2 = .ok (.iload_n 1, 1) := by decide +kernel
theorem dX2_minor_3 : decode cX2_minor 3 = .ok (.iload_n 3, 1) := by decide +kernel
theorem dX2_minor_4 : decode cX2_minor 4 = .ok (.invokevirtual 43, 3) := by decide +kernel
theorem dX2_minor_7 : decode cX2_minor 7 = .ok (.aload_n 0, 1) := by decide +kernel
theorem dX2_minor_8 : decode cX2_minor 8 = .ok (.iconst 2, 1) := by decide +kernel
theorem dX2_minor_9 : decode cX2_minor 9 = .ok (.iload_n 2, 1) := by decide +kernel
theorem dX2_minor_10 : decode cX2_minor 10 = .ok (.iload_n 3, 1) := by decide +kernel
theorem dX2_minor_11 : decode cX2_minor 11 = .ok (.invokevirtual 43, 3) := by decide +kernel
theorem dX2_minor_14 : decode cX2_minor 14 = .ok (.lmul, 1) := by decide +kernel
theorem dX2_minor_15 : decode cX2_minor 15 = .ok (.aload_n 0, 1) := by decide +kernel
theorem dX2_minor_16 : decode cX2_minor 16 = .ok (.iconst 1, 1) := by decide +kernel
theorem dX2_minor_17 : decode cX2_minor 17 = .ok (.iload_n 2, 1) := by decide +kernel
theorem dX2_minor_18 : decode cX2_minor 18 = .ok (.iload_n 3, 1) := by decide +kernel
theorem dX2_minor_19 : decode cX2_minor 19 = .ok (.invokevirtual 43, 3) := by decide +kernel
theorem dX2_minor_22 : decode cX2_minor 22 = .ok (.aload_n 0, 1) := by decide +kernel
theorem dX2_minor_23 : decode cX2_minor 23 = .ok (.iconst 2, 1) := by decide +kernel
theorem dX2_minor_24 : decode cX2_minor 24 = .ok (.iload_n 1, 1) := by decide +kernel
theorem dX2_minor_25 : decode cX2_minor 25 = .ok (.iload_n 3, 1) := by decide +kernel
theorem dX2_minor_26 : decode cX2_minor 26 = .ok (.invokevirtual 43, 3) := by decide +kernel
theorem dX2_minor_29 : decode cX2_minor 29 = .ok (.lmul, 1) := by decide +kernel
theorem dX2_minor_30 : decode cX2_minor 30 = .ok (.lsub, 1) := by decide +kernel
theorem dX2_minor_31 : decode cX2_minor 31 = .ok (.lreturn, 1) := by decide +kernel
theorem dX2_entry_0 : decode cX2_entry 0 = .ok (.iload_n 2, 1) := by decide +kernel
theorem dX2_entry_1 : decode cX2_entry 1 = .ok (.iload_n 3, 1) := by decide +kernel
theorem dX2_entry_2 : decode cX2_entry 2 = .ok (.if_icmp .ne 12, 3) := by decide +kernel
theorem dX2_entry_5 : decode cX2_entry 5 = .ok (.aload_n 0, 1) := by decide +kernel
theorem dX2_entry_6 : decode cX2_entry 6 = .ok (.getfield 21, 3) := by decide +kernel
theorem dX2_entry_9 : decode cX2_entry 9 = .ok (.iload_n 1, 1) := by decide +kernel
theorem dX2_entry_10 : decode cX2_entry 10 = .ok (.laload, 1) := by decide +kernel
theorem dX2_entry_11 : decode cX2_entry 11 = .ok (.goto 13, 3) := by decide +kernel
theorem dX2_entry_14 : decode cX2_entry 14 = .ok (.aload_n 0, 1) := by decide +kernel
theorem dX2_entry_15 : decode cX2_entry 15 = .ok (.getfield 17, 3) := by decide +kernel
theorem dX2_entry_18 : decode cX2_entry 18 = .ok (.iload_n 1, 1) := by decide +kernel
theorem dX2_entry_19 : decode cX2_entry 19 = .ok (.iconst 3, 1) := by decide +kernel
theorem dX2_entry_20 : decode cX2_entry 20 = .ok (.imul, 1) := by decide +kernel
theorem dX2_entry_21 : decode cX2_entry 21 = .ok (.iload_n 2, 1) := by decide +kernel
theorem dX2_entry_22 : decode cX2_entry 22 = .ok (.iadd, 1) := by decide +kernel
theorem dX2_entry_23 : decode cX2_entry 23 = .ok (.laload, 1) := by decide +kernel
theorem dX2_entry_24 : decode cX2_entry 24 = .ok (.lreturn, 1) := by decide +kernel
theorem dX3_init_0 : decode cX3_init 0 = .ok (.aload_n 0, 1) := by decide +kernel
theorem dX3_init_1 : decode cX3_init 1 = .ok (.invokespecial 3, 3) := by decide +kernel
theorem dX3_init_4 : decode cX3_init 4 = .ok (.aload_n 0, 1) := by decide +kernel
theorem dX3_init_5 : decode cX3_init 5 = .ok (.sipush 300, 3) := by decide +kernel
theorem dX3_init_8 : decode cX3_init 8 = .ok (.newarray .int, 2) := by decide +kernel
theorem dX3_init_10 : decode cX3_init 10 = .ok (.putfield 9, 3) := by decide +kernel
theorem dX3_init_13 : decode cX3_init 13 = .ok (.aload_n 0, 1) := by decide +kernel
theorem dX3_init_14 : decode cX3_init 14 = .ok (.iconst 0, 1) := by decide +kernel
theorem dX3_init_15 : decode cX3_init 15 = .ok (.putfield 15, 3) := by decide +kernel
theorem dX3_init_18 : decode cX3_init 18 = .ok (.return_, 1) := by decide +kernel
theorem dX3_clear_0 : decode cX3_clear 0 = .ok (.aload_n 0, 1) := by decide +kernel
theorem dX3_clear_1 : decode cX3_clear 1 = .ok (.iconst 0, 1) := by decide +kernel
theorem dX3_clear_2 : decode cX3_clear 2 = .ok (.putfield 15, 3) := by decide +kernel
theorem dX3_clear_5 : decode cX3_clear 5 = .ok (.return_, 1) := by decide +kernel
theorem dX3_append_0 : decode cX3_append 0 = .ok (.aload_n 0, 1) := by decide +kernel
theorem dX3_append_1 : decode cX3_append 1 = .ok (.getfield 15, 3) := by decide +kernel
theorem dX3_append_4 : decode cX3_append 4 = .ok (.sipush 300, 3) := by decide +kernel
theorem dX3_append_7 : decode cX3_append 7 = .ok (.if_icmp .lt 5, 3) := by decide +kernel
theorem dX3_append_10 : decode cX3_append 10 = .ok (.iconst 0, 1) := by decide +kernel
theorem dX3_append_11 : decode cX3_append 11 = .ok (.ireturn, 1) := by decide +kernel
theorem dX3_append_12 : decode cX3_append 12 = .ok (.aload_n 0, 1) := by decide +kernel
theorem dX3_append_13 : decode cX3_append 13 = .ok (.getfield 9, 3) := by decide +kernel
theorem dX3_append_16 : decode cX3_append 16 = .ok (.aload_n 0, 1) := by decide +kernel
theorem dX3_append_17 : decode cX3_append 17 = .ok (.getfield 15, 3) := by decide +kernel
theorem dX3_append_20 : decode cX3_append 20 = .ok (.iload_n 1, 1) := by decide +kernel
theorem dX3_append_21 : decode cX3_append 21 = .ok (.iastore, 1) := by decide +kernel
theorem dX3_append_22 : decode cX3_append 22 = .ok (.aload_n 0, 1) := by decide +kernel
theorem dX3_append_23 : decode cX3_append 23 = .ok (.dup, 1) := by decide +kernel
theorem dX3_append_24 : decode cX3_append 24 = .ok (.getfield 15, 3) := by decide +kernel
theorem dX3_append_27 : decode cX3_append 27 = .ok (.iconst 1, 1) := by decide +kernel
theorem dX3_append_28 : decode cX3_append 28 = .ok (.iadd, 1) := by decide +kernel
theorem dX3_append_29 : decode cX3_append 29 = .ok (.putfield 15, 3) := by decide +kernel
theorem dX3_append_32 : decode cX3_append 32 = .ok (.iconst 1, 1) := by decide +kernel
theorem dX3_append_33 : decode cX3_append 33 = .ok (.ireturn, 1) := by decide +kernel
theorem dX3_letterAt_0 : decode cX3_letterAt 0 = .ok (.iload_n 1, 1) := by decide +kernel
theorem dX3_letterAt_1 : decode cX3_letterAt 1 = .ok (.ifCond .lt 20, 3) := by decide +kernel
theorem dX3_letterAt_4 : decode cX3_letterAt 4 = .ok (.iload_n 1, 1) := by decide +kernel
theorem dX3_letterAt_5 : decode cX3_letterAt 5 = .ok (.aload_n 0, 1) := by decide +kernel
theorem dX3_letterAt_6 : decode cX3_letterAt 6 = .ok (.getfield 15, 3) := by decide +kernel
theorem dX3_letterAt_9 : decode cX3_letterAt 9 = .ok (.if_icmp .ge 12, 3) := by decide +kernel
theorem dX3_letterAt_12 : decode cX3_letterAt 12 = .ok (.aload_n 0, 1) := by decide +kernel
theorem dX3_letterAt_13 : decode cX3_letterAt 13 = .ok (.getfield 9, 3) := by decide +kernel
theorem dX3_letterAt_16 : decode cX3_letterAt 16 = .ok (.iload_n 1, 1) := by decide +kernel
theorem dX3_letterAt_17 : decode cX3_letterAt 17 = .ok (.iaload, 1) := by decide +kernel
theorem dX3_letterAt_18 : decode cX3_letterAt 18 = .ok (.goto 4, 3) := by decide +kernel
theorem dX3_letterAt_21 : decode cX3_letterAt 21 = .ok (.iconst (-1), 1) := by decide +kernel
theorem dX3_letterAt_22 : decode cX3_letterAt 22 = .ok (.ireturn, 1) := by decide +kernel
set_option maxRecDepth 20000 in
theorem ggX3_firstEndOf_X4_standsIn : GoodIn wsX3_firstEndOf wsX4_standsIn := goodIn_r _ [8, 9, 10, 11, 12, 13, 14, 15, 16, 17] (by decide +kernel) (by decide +kernel)
set_option maxRecDepth 20000 in
theorem gX3_firstEndOf_X4_standsIn : GoodIn wsX3_firstEndOf (wsV RX3 22 RX4 yX4_standsIn wsX4_standsIn) := goodIn_app (goodIn_of _ (by decide +kernel)) ggX3_firstEndOf_X4_standsIn
theorem dX3_firstEndOf_0 : decode cX3_firstEndOf 0 = .ok (.iconst 0, 1) := by decide +kernel
theorem dX3_firstEndOf_1 : decode cX3_firstEndOf 1 = .ok (.istore_n 2, 1) := by decide +kernel
theorem dX3_firstEndOf_2 : decode cX3_firstEndOf 2 = .ok (.iload_n 2, 1) := by decide +kernel
theorem dX3_firstEndOf_3 : decode cX3_firstEndOf 3 = .ok (.aload_n 1, 1) := by decide +kernel
theorem dX3_firstEndOf_4 : decode cX3_firstEndOf 4 = .ok (.getfield 19, 3) := by decide +kernel
theorem dX3_firstEndOf_7 : decode cX3_firstEndOf 7 = .ok (.iadd, 1) := by decide +kernel
theorem dX3_firstEndOf_8 : decode cX3_firstEndOf 8 = .ok (.aload_n 0, 1) := by decide +kernel
theorem dX3_firstEndOf_9 : decode cX3_firstEndOf 9 = .ok (.getfield 15, 3) := by decide +kernel
theorem dX3_firstEndOf_12 : decode cX3_firstEndOf 12 = .ok (.if_icmp .gt 28, 3) := by decide +kernel
theorem dX3_firstEndOf_15 : decode cX3_firstEndOf 15 = .ok (.aload_n 1, 1) := by decide +kernel
theorem dX3_firstEndOf_16 : decode cX3_firstEndOf 16 = .ok (.aload_n 0, 1) := by decide +kernel
theorem dX3_firstEndOf_17 : decode cX3_firstEndOf 17 = .ok (.getfield 9, 3) := by decide +kernel
theorem dX3_firstEndOf_20 : decode cX3_firstEndOf 20 = .ok (.iload_n 2, 1) := by decide +kernel
theorem dX3_firstEndOf_21 : decode cX3_firstEndOf 21 = .ok (.invokevirtual 22, 3) := by decide +kernel
theorem dX3_firstEndOf_24 : decode cX3_firstEndOf 24 = .ok (.ifCond .eq 10, 3) := by decide +kernel
theorem dX3_firstEndOf_27 : decode cX3_firstEndOf 27 = .ok (.iload_n 2, 1) := by decide +kernel
theorem dX3_firstEndOf_28 : decode cX3_firstEndOf 28 = .ok (.aload_n 1, 1) := by decide +kernel
theorem dX3_firstEndOf_29 : decode cX3_firstEndOf 29 = .ok (.getfield 19, 3) := by decide +kernel
theorem dX3_firstEndOf_32 : decode cX3_firstEndOf 32 = .ok (.iadd, 1) := by decide +kernel
theorem dX3_firstEndOf_33 : decode cX3_firstEndOf 33 = .ok (.ireturn, 1) := by decide +kernel
theorem dX3_firstEndOf_34 : decode cX3_firstEndOf 34 = .ok (.iinc 2 1, 3) := by decide +kernel
theorem dX3_firstEndOf_37 : decode cX3_firstEndOf 37 = .ok (.goto (-35), 3) := by decide +kernel
theorem dX3_firstEndOf_40 : decode cX3_firstEndOf 40 = .ok (.iconst (-1), 1) := by decide +kernel
theorem dX3_firstEndOf_41 : decode cX3_firstEndOf 41 = .ok (.ireturn, 1) := by decide +kernel
set_option maxRecDepth 20000 in
theorem ggX3_placesOf_X4_standsIn : GoodIn wsX3_placesOf wsX4_standsIn := goodIn_r _ [8, 9, 10, 11, 12, 13, 14, 15, 16, 17] (by decide +kernel) (by decide +kernel)
set_option maxRecDepth 20000 in
theorem gX3_placesOf_X4_standsIn : GoodIn wsX3_placesOf (wsV RX3 22 RX4 yX4_standsIn wsX4_standsIn) := goodIn_app (goodIn_of _ (by decide +kernel)) ggX3_placesOf_X4_standsIn
theorem dX3_placesOf_0 : decode cX3_placesOf 0 = .ok (.iconst 0, 1) := by decide +kernel
theorem dX3_placesOf_1 : decode cX3_placesOf 1 = .ok (.istore_n 2, 1) := by decide +kernel
theorem dX3_placesOf_2 : decode cX3_placesOf 2 = .ok (.iconst 0, 1) := by decide +kernel
theorem dX3_placesOf_3 : decode cX3_placesOf 3 = .ok (.istore_n 3, 1) := by decide +kernel
theorem dX3_placesOf_4 : decode cX3_placesOf 4 = .ok (.iload_n 3, 1) := by decide +kernel
theorem dX3_placesOf_5 : decode cX3_placesOf 5 = .ok (.aload_n 1, 1) := by decide +kernel
theorem dX3_placesOf_6 : decode cX3_placesOf 6 = .ok (.getfield 19, 3) := by decide +kernel
theorem dX3_placesOf_9 : decode cX3_placesOf 9 = .ok (.iadd, 1) := by decide +kernel
theorem dX3_placesOf_10 : decode cX3_placesOf 10 = .ok (.aload_n 0, 1) := by decide +kernel
theorem dX3_placesOf_11 : decode cX3_placesOf 11 = .ok (.getfield 15, 3) := by decide +kernel
theorem dX3_placesOf_14 : decode cX3_placesOf 14 = .ok (.if_icmp .gt 29, 3) := by decide +kernel
theorem dX3_placesOf_17 : decode cX3_placesOf 17 = .ok (.iload_n 2, 1) := by decide +kernel
theorem dX3_placesOf_18 : decode cX3_placesOf 18 = .ok (.aload_n 1, 1) := by decide +kernel
theorem dX3_placesOf_19 : decode cX3_placesOf 19 = .ok (.aload_n 0, 1) := by decide +kernel
theorem dX3_placesOf_20 : decode cX3_placesOf 20 = .ok (.getfield 9, 3) := by decide +kernel
theorem dX3_placesOf_23 : decode cX3_placesOf 23 = .ok (.iload_n 3, 1) := by decide +kernel
theorem dX3_placesOf_24 : decode cX3_placesOf 24 = .ok (.invokevirtual 22, 3) := by decide +kernel
theorem dX3_placesOf_27 : decode cX3_placesOf 27 = .ok (.ifCond .eq 7, 3) := by decide +kernel
theorem dX3_placesOf_30 : decode cX3_placesOf 30 = .ok (.iconst 1, 1) := by decide +kernel
theorem dX3_placesOf_31 : decode cX3_placesOf 31 = .ok (.goto 4, 3) := by decide +kernel
theorem dX3_placesOf_34 : decode cX3_placesOf 34 = .ok (.iconst 0, 1) := by decide +kernel
theorem dX3_placesOf_35 : decode cX3_placesOf 35 = .ok (.iadd, 1) := by decide +kernel
theorem dX3_placesOf_36 : decode cX3_placesOf 36 = .ok (.istore_n 2, 1) := by decide +kernel
theorem dX3_placesOf_37 : decode cX3_placesOf 37 = .ok (.iinc 3 1, 3) := by decide +kernel
theorem dX3_placesOf_40 : decode cX3_placesOf 40 = .ok (.goto (-36), 3) := by decide +kernel
theorem dX3_placesOf_43 : decode cX3_placesOf 43 = .ok (.iload_n 2, 1) := by decide +kernel
theorem dX3_placesOf_44 : decode cX3_placesOf 44 = .ok (.ireturn, 1) := by decide +kernel
theorem dX4_init_0 : decode cX4_init 0 = .ok (.aload_n 0, 1) := by decide +kernel
theorem dX4_init_1 : decode cX4_init 1 = .ok (.invokespecial 3, 3) := by decide +kernel
theorem dX4_init_4 : decode cX4_init 4 = .ok (.aload_n 0, 1) := by decide +kernel
theorem dX4_init_5 : decode cX4_init 5 = .ok (.iconst 5, 1) := by decide +kernel
theorem dX4_init_6 : decode cX4_init 6 = .ok (.newarray .int, 2) := by decide +kernel
theorem dX4_init_8 : decode cX4_init 8 = .ok (.putfield 9, 3) := by decide +kernel
theorem dX4_init_11 : decode cX4_init 11 = .ok (.aload_n 0, 1) := by decide +kernel
theorem dX4_init_12 : decode cX4_init 12 = .ok (.bipush 6, 2) := by decide +kernel
theorem dX4_init_14 : decode cX4_init 14 = .ok (.newarray .int, 2) := by decide +kernel
theorem dX4_init_16 : decode cX4_init 16 = .ok (.putfield 15, 3) := by decide +kernel
theorem dX4_init_19 : decode cX4_init 19 = .ok (.aload_n 0, 1) := by decide +kernel
theorem dX4_init_20 : decode cX4_init 20 = .ok (.bipush 6, 2) := by decide +kernel
theorem dX4_init_22 : decode cX4_init 22 = .ok (.newarray .int, 2) := by decide +kernel
theorem dX4_init_24 : decode cX4_init 24 = .ok (.putfield 18, 3) := by decide +kernel
theorem dX4_init_27 : decode cX4_init 27 = .ok (.aload_n 0, 1) := by decide +kernel
theorem dX4_init_28 : decode cX4_init 28 = .ok (.bipush 6, 2) := by decide +kernel
theorem dX4_init_30 : decode cX4_init 30 = .ok (.newarray .long, 2) := by decide +kernel
theorem dX4_init_32 : decode cX4_init 32 = .ok (.putfield 21, 3) := by decide +kernel
theorem dX4_init_35 : decode cX4_init 35 = .ok (.return_, 1) := by decide +kernel
theorem dX4_clear_0 : decode cX4_clear 0 = .ok (.aload_n 0, 1) := by decide +kernel
theorem dX4_clear_1 : decode cX4_clear 1 = .ok (.iconst 0, 1) := by decide +kernel
theorem dX4_clear_2 : decode cX4_clear 2 = .ok (.putfield 25, 3) := by decide +kernel
theorem dX4_clear_5 : decode cX4_clear 5 = .ok (.return_, 1) := by decide +kernel
set_option maxRecDepth 20000 in
theorem ggX4_spell_X5_power : GoodIn wsX4_spell wsX5_power := goodIn_r _ [10] (by decide +kernel) (by decide +kernel)
set_option maxRecDepth 20000 in
theorem gX4_spell_X5_power_n33 : GoodIn wsX4_spell (wsX5_power) := ggX4_spell_X5_power
set_option maxRecDepth 20000 in
theorem ggX4_spell_X4_share : GoodIn wsX4_spell wsX4_share := goodIn_r _ [15, 16, 2, 17, 18, 4, 34, 35, 36, 37, 38, 39, 40, 31, 32, 33] (by decide +kernel) (by decide +kernel)
set_option maxRecDepth 20000 in
theorem gX4_spell_X4_share : GoodIn wsX4_spell (wsV RX4 40 RX4 yX4_share wsX4_share) := goodIn_app (goodIn_of _ (by decide +kernel)) ggX4_spell_X4_share
set_option maxRecDepth 20000 in
theorem ggX4_spell_X4_leadOn : GoodIn wsX4_spell wsX4_leadOn := goodIn_r _ [22, 2, 23, 24, 25, 26, 16, 27, 28, 29, 14, 30, 5, 6, 34, 35, 36, 37, 38, 39, 40] (by decide +kernel) (by decide +kernel)
set_option maxRecDepth 20000 in
theorem gX4_spell_X4_leadOn : GoodIn wsX4_spell (wsV RX4 44 RX4 yX4_leadOn wsX4_leadOn) := goodIn_app (goodIn_of _ (by decide +kernel)) ggX4_spell_X4_leadOn
theorem dX4_spell_0 : decode cX4_spell 0 = .ok (.aload_n 3, 1) := by decide +kernel
theorem dX4_spell_1 : decode cX4_spell 1 = .ok (.getfield 29, 3) := by decide +kernel
theorem dX4_spell_4 : decode cX4_spell 4 = .ok (.istore 4, 2) := by decide +kernel
theorem dX4_spell_6 : decode cX4_spell 6 = .ok (.iload 4, 2) := by decide +kernel
theorem dX4_spell_8 : decode cX4_spell 8 = .ok (.iconst 2, 1) := by decide +kernel
theorem dX4_spell_9 : decode cX4_spell 9 = .ok (.if_icmp .lt 30, 3) := by decide +kernel
theorem dX4_spell_12 : decode cX4_spell 12 = .ok (.iload_n 1, 1) := by decide +kernel
theorem dX4_spell_13 : decode cX4_spell 13 = .ok (.iconst 1, 1) := by decide +kernel
theorem dX4_spell_14 : decode cX4_spell 14 = .ok (.if_icmp .lt 25, 3) := by decide +kernel
theorem dX4_spell_17 : decode cX4_spell 17 = .ok (.iload_n 1, 1) := by decide +kernel
theorem dX4_spell_18 : decode cX4_spell 18 = .ok (.iconst 5, 1) := by decide +kernel
theorem dX4_spell_19 : decode cX4_spell 19 = .ok (.if_icmp .gt 20, 3) := by decide +kernel
theorem dX4_spell_22 : decode cX4_spell 22 = .ok (.iload_n 2, 1) := by decide +kernel
theorem dX4_spell_23 : decode cX4_spell 23 = .ok (.ifCond .lt 16, 3) := by decide +kernel
theorem dX4_spell_26 : decode cX4_spell 26 = .ok (.iload_n 2, 1) := by decide +kernel
theorem dX4_spell_27 : decode cX4_spell 27 = .ok (.i2l, 1) := by decide +kernel
theorem dX4_spell_28 : decode cX4_spell 28 = .ok (.iload 4, 2) := by decide +kernel
theorem dX4_spell_30 : decode cX4_spell 30 = .ok (.i2l, 1) := by decide +kernel
theorem dX4_spell_31 : decode cX4_spell 31 = .ok (.iload_n 1, 1) := by decide +kernel
theorem dX4_spell_32 : decode cX4_spell 32 = .ok (.invokestatic 33, 3) := by decide +kernel
theorem dX4_spell_35 : decode cX4_spell 35 = .ok (.lcmp, 1) := by decide +kernel
theorem dX4_spell_36 : decode cX4_spell 36 = .ok (.ifCond .lt 5, 3) := by decide +kernel
theorem dX4_spell_39 : decode cX4_spell 39 = .ok (.iconst 0, 1) := by decide +kernel
theorem dX4_spell_40 : decode cX4_spell 40 = .ok (.ireturn, 1) := by decide +kernel
theorem dX4_spell_41 : decode cX4_spell 41 = .ok (.aload_n 0, 1) := by decide +kernel
theorem dX4_spell_42 : decode cX4_spell 42 = .ok (.iload_n 1, 1) := by decide +kernel
theorem dX4_spell_43 : decode cX4_spell 43 = .ok (.putfield 25, 3) := by decide +kernel
theorem dX4_spell_46 : decode cX4_spell 46 = .ok (.aload_n 0, 1) := by decide +kernel
theorem dX4_spell_47 : decode cX4_spell 47 = .ok (.iload_n 2, 1) := by decide +kernel
theorem dX4_spell_48 : decode cX4_spell 48 = .ok (.putfield 37, 3) := by decide +kernel
theorem dX4_spell_51 : decode cX4_spell 51 = .ok (.iload_n 2, 1) := by decide +kernel
theorem dX4_spell_52 : decode cX4_spell 52 = .ok (.istore 5, 2) := by decide +kernel
theorem dX4_spell_54 : decode cX4_spell 54 = .ok (.iconst 1, 1) := by decide +kernel
theorem dX4_spell_55 : decode cX4_spell 55 = .ok (.istore 6, 2) := by decide +kernel
theorem dX4_spell_57 : decode cX4_spell 57 = .ok (.iconst 1, 1) := by decide +kernel
theorem dX4_spell_58 : decode cX4_spell 58 = .ok (.istore 7, 2) := by decide +kernel
theorem dX4_spell_60 : decode cX4_spell 60 = .ok (.iload 7, 2) := by decide +kernel
theorem dX4_spell_62 : decode cX4_spell 62 = .ok (.iload_n 1, 1) := by decide +kernel
theorem dX4_spell_63 : decode cX4_spell 63 = .ok (.if_icmp .gt 63, 3) := by decide +kernel
theorem dX4_spell_66 : decode cX4_spell 66 = .ok (.iload 5, 2) := by decide +kernel
theorem dX4_spell_68 : decode cX4_spell 68 = .ok (.iload 4, 2) := by decide +kernel
theorem dX4_spell_70 : decode cX4_spell 70 = .ok (.irem, 1) := by decide +kernel
theorem dX4_spell_71 : decode cX4_spell 71 = .ok (.istore 8, 2) := by decide +kernel
theorem dX4_spell_73 : decode cX4_spell 73 = .ok (.aload_n 0, 1) := by decide +kernel
theorem dX4_spell_74 : decode cX4_spell 74 = .ok (.getfield 9, 3) := by decide +kernel
theorem dX4_spell_77 : decode cX4_spell 77 = .ok (.iload_n 1, 1) := by decide +kernel
theorem dX4_spell_78 : decode cX4_spell 78 = .ok (.iload 7, 2) := by decide +kernel
theorem dX4_spell_80 : decode cX4_spell 80 = .ok (.isub, 1) := by decide +kernel
theorem dX4_spell_81 : decode cX4_spell 81 = .ok (.iload 8, 2) := by decide +kernel
theorem dX4_spell_83 : decode cX4_spell 83 = .ok (.iastore, 1) := by decide +kernel
theorem dX4_spell_84 : decode cX4_spell 84 = .ok (.aload_n 0, 1) := by decide +kernel
theorem dX4_spell_85 : decode cX4_spell 85 = .ok (.getfield 18, 3) := by decide +kernel
theorem dX4_spell_88 : decode cX4_spell 88 = .ok (.iload 7, 2) := by decide +kernel
theorem dX4_spell_90 : decode cX4_spell 90 = .ok (.aload_n 0, 1) := by decide +kernel
theorem dX4_spell_91 : decode cX4_spell 91 = .ok (.getfield 18, 3) := by decide +kernel
theorem dX4_spell_94 : decode cX4_spell 94 = .ok (.iload 7, 2) := by decide +kernel
theorem dX4_spell_96 : decode cX4_spell 96 = .ok (.iconst 1, 1) := by decide +kernel
theorem dX4_spell_97 : decode cX4_spell 97 = .ok (.isub, 1) := by decide +kernel
theorem dX4_spell_98 : decode cX4_spell 98 = .ok (.iaload, 1) := by decide +kernel
theorem dX4_spell_99 : decode cX4_spell 99 = .ok (.iload 8, 2) := by decide +kernel
theorem dX4_spell_101 : decode cX4_spell 101 = .ok (.iload 6, 2) := by decide +kernel
theorem dX4_spell_103 : decode cX4_spell 103 = .ok (.imul, 1) := by decide +kernel
theorem dX4_spell_104 : decode cX4_spell 104 = .ok (.iadd, 1) := by decide +kernel
theorem dX4_spell_105 : decode cX4_spell 105 = .ok (.iastore, 1) := by decide +kernel
theorem dX4_spell_106 : decode cX4_spell 106 = .ok (.iload 5, 2) := by decide +kernel
theorem dX4_spell_108 : decode cX4_spell 108 = .ok (.iload 4, 2) := by decide +kernel
theorem dX4_spell_110 : decode cX4_spell 110 = .ok (.idiv, 1) := by decide +kernel
theorem dX4_spell_111 : decode cX4_spell 111 = .ok (.istore 5, 2) := by decide +kernel
theorem dX4_spell_113 : decode cX4_spell 113 = .ok (.iload 6, 2) := by decide +kernel
theorem dX4_spell_115 : decode cX4_spell 115 = .ok (.iload 4, 2) := by decide +kernel
theorem dX4_spell_117 : decode cX4_spell 117 = .ok (.imul, 1) := by decide +kernel
theorem dX4_spell_118 : decode cX4_spell 118 = .ok (.istore 6, 2) := by decide +kernel
theorem dX4_spell_120 : decode cX4_spell 120 = .ok (.iinc 7 1, 3) := by decide +kernel
theorem dX4_spell_123 : decode cX4_spell 123 = .ok (.goto (-63), 3) := by decide +kernel
theorem dX4_spell_126 : decode cX4_spell 126 = .ok (.iconst 1, 1) := by decide +kernel
theorem dX4_spell_127 : decode cX4_spell 127 = .ok (.istore 7, 2) := by decide +kernel
theorem dX4_spell_129 : decode cX4_spell 129 = .ok (.iload 7, 2) := by decide +kernel
theorem dX4_spell_131 : decode cX4_spell 131 = .ok (.iload_n 1, 1) := by decide +kernel
theorem dX4_spell_132 : decode cX4_spell 132 = .ok (.if_icmp .gt 38, 3) := by decide +kernel
theorem dX4_spell_135 : decode cX4_spell 135 = .ok (.aload_n 0, 1) := by decide +kernel
theorem dX4_spell_136 : decode cX4_spell 136 = .ok (.getfield 15, 3) := by decide +kernel
theorem dX4_spell_139 : decode cX4_spell 139 = .ok (.iload 7, 2) := by decide +kernel
theorem dX4_spell_141 : decode cX4_spell 141 = .ok (.aload_n 0, 1) := by decide +kernel
theorem dX4_spell_142 : decode cX4_spell 142 = .ok (.getfield 15, 3) := by decide +kernel
theorem dX4_spell_145 : decode cX4_spell 145 = .ok (.iload 7, 2) := by decide +kernel
theorem dX4_spell_147 : decode cX4_spell 147 = .ok (.iconst 1, 1) := by decide +kernel
theorem dX4_spell_148 : decode cX4_spell 148 = .ok (.isub, 1) := by decide +kernel
theorem dX4_spell_149 : decode cX4_spell 149 = .ok (.iaload, 1) := by decide +kernel
theorem dX4_spell_150 : decode cX4_spell 150 = .ok (.iload 4, 2) := by decide +kernel
theorem dX4_spell_152 : decode cX4_spell 152 = .ok (.imul, 1) := by decide +kernel
theorem dX4_spell_153 : decode cX4_spell 153 = .ok (.aload_n 0, 1) := by decide +kernel
theorem dX4_spell_154 : decode cX4_spell 154 = .ok (.getfield 9, 3) := by decide +kernel
theorem dX4_spell_157 : decode cX4_spell 157 = .ok (.iload 7, 2) := by decide +kernel
theorem dX4_spell_159 : decode cX4_spell 159 = .ok (.iconst 1, 1) := by decide +kernel
theorem dX4_spell_160 : decode cX4_spell 160 = .ok (.isub, 1) := by decide +kernel
theorem dX4_spell_161 : decode cX4_spell 161 = .ok (.iaload, 1) := by decide +kernel
theorem dX4_spell_162 : decode cX4_spell 162 = .ok (.iadd, 1) := by decide +kernel
theorem dX4_spell_163 : decode cX4_spell 163 = .ok (.iastore, 1) := by decide +kernel
theorem dX4_spell_164 : decode cX4_spell 164 = .ok (.iinc 7 1, 3) := by decide +kernel
theorem dX4_spell_167 : decode cX4_spell 167 = .ok (.goto (-38), 3) := by decide +kernel
theorem dX4_spell_170 : decode cX4_spell 170 = .ok (.aload_n 0, 1) := by decide +kernel
theorem dX4_spell_171 : decode cX4_spell 171 = .ok (.aload_n 3, 1) := by decide +kernel
theorem dX4_spell_172 : decode cX4_spell 172 = .ok (.invokevirtual 40, 3) := by decide +kernel
theorem dX4_spell_175 : decode cX4_spell 175 = .ok (.aload_n 0, 1) := by decide +kernel
theorem dX4_spell_176 : decode cX4_spell 176 = .ok (.aload_n 0, 1) := by decide +kernel
theorem dX4_spell_177 : decode cX4_spell 177 = .ok (.aload_n 0, 1) := by decide +kernel
theorem dX4_spell_178 : decode cX4_spell 178 = .ok (.invokevirtual 44, 3) := by decide +kernel
theorem dX4_spell_181 : decode cX4_spell 181 = .ok (.putfield 48, 3) := by decide +kernel
theorem dX4_spell_184 : decode cX4_spell 184 = .ok (.iconst 1, 1) := by decide +kernel
theorem dX4_spell_185 : decode cX4_spell 185 = .ok (.ireturn, 1) := by decide +kernel
theorem dX4_share_0 : decode cX4_share 0 = .ok (.aload_n 0, 1) := by decide +kernel
theorem dX4_share_1 : decode cX4_share 1 = .ok (.getfield 21, 3) := by decide +kernel
theorem dX4_share_4 : decode cX4_share 4 = .ok (.iconst 0, 1) := by decide +kernel
theorem dX4_share_5 : decode cX4_share 5 = .ok (.lconst 1, 1) := by decide +kernel
theorem dX4_share_6 : decode cX4_share 6 = .ok (.lastore, 1) := by decide +kernel
theorem dX4_share_7 : decode cX4_share 7 = .ok (.iconst 1, 1) := by decide +kernel
theorem dX4_share_8 : decode cX4_share 8 = .ok (.istore_n 2, 1) := by decide +kernel
theorem dX4_share_9 : decode cX4_share 9 = .ok (.iload_n 2, 1) := by decide +kernel
theorem dX4_share_10 : decode cX4_share 10 = .ok (.aload_n 0, 1) := by decide +kernel
theorem dX4_share_11 : decode cX4_share 11 = .ok (.getfield 25, 3) := by decide +kernel
theorem dX4_share_14 : decode cX4_share 14 = .ok (.if_icmp .gt 29, 3) := by decide +kernel
theorem dX4_share_17 : decode cX4_share 17 = .ok (.aload_n 0, 1) := by decide +kernel
theorem dX4_share_18 : decode cX4_share 18 = .ok (.getfield 21, 3) := by decide +kernel
theorem dX4_share_21 : decode cX4_share 21 = .ok (.iload_n 2, 1) := by decide +kernel
theorem dX4_share_22 : decode cX4_share 22 = .ok (.aload_n 0, 1) := by decide +kernel
theorem dX4_share_23 : decode cX4_share 23 = .ok (.getfield 21, 3) := by decide +kernel
theorem dX4_share_26 : decode cX4_share 26 = .ok (.iload_n 2, 1) := by decide +kernel
theorem dX4_share_27 : decode cX4_share 27 = .ok (.iconst 1, 1) := by decide +kernel
theorem dX4_share_28 : decode cX4_share 28 = .ok (.isub, 1) := by decide +kernel
theorem dX4_share_29 : decode cX4_share 29 = .ok (.laload, 1) := by decide +kernel
theorem dX4_share_30 : decode cX4_share 30 = .ok (.aload_n 1, 1) := by decide +kernel
theorem dX4_share_31 : decode cX4_share 31 = .ok (.getfield 52, 3) := by decide +kernel
theorem dX4_share_34 : decode cX4_share 34 = .ok (.i2l, 1) := by decide +kernel
theorem dX4_share_35 : decode cX4_share 35 = .ok (.lmul, 1) := by decide +kernel
theorem dX4_share_36 : decode cX4_share 36 = .ok (.lastore, 1) := by decide +kernel
theorem dX4_share_37 : decode cX4_share 37 = .ok (.iinc 2 1, 3) := by decide +kernel
theorem dX4_share_40 : decode cX4_share 40 = .ok (.goto (-31), 3) := by decide +kernel
theorem dX4_share_43 : decode cX4_share 43 = .ok (.lconst 1, 1) := by decide +kernel
theorem dX4_share_44 : decode cX4_share 44 = .ok (.lstore_n 2, 1) := by decide +kernel
theorem dX4_share_45 : decode cX4_share 45 = .ok (.aload_n 0, 1) := by decide +kernel
theorem dX4_share_46 : decode cX4_share 46 = .ok (.getfield 25, 3) := by decide +kernel
theorem dX4_share_49 : decode cX4_share 49 = .ok (.iconst 1, 1) := by decide +kernel
theorem dX4_share_50 : decode cX4_share 50 = .ok (.isub, 1) := by decide +kernel
theorem dX4_share_51 : decode cX4_share 51 = .ok (.istore 4, 2) := by decide +kernel
theorem dX4_share_53 : decode cX4_share 53 = .ok (.iload 4, 2) := by decide +kernel
theorem dX4_share_55 : decode cX4_share 55 = .ok (.ifCond .lt 36, 3) := by decide +kernel
theorem dX4_share_58 : decode cX4_share 58 = .ok (.lload_n 2, 1) := by decide +kernel
theorem dX4_share_59 : decode cX4_share 59 = .ok (.aload_n 1, 1) := by decide +kernel
theorem dX4_share_60 : decode cX4_share 60 = .ok (.getfield 55, 3) := by decide +kernel
theorem dX4_share_63 : decode cX4_share 63 = .ok (.aload_n 0, 1) := by decide +kernel
theorem dX4_share_64 : decode cX4_share 64 = .ok (.getfield 9, 3) := by decide +kernel
theorem dX4_share_67 : decode cX4_share 67 = .ok (.iload 4, 2) := by decide +kernel
theorem dX4_share_69 : decode cX4_share 69 = .ok (.iaload, 1) := by decide +kernel
theorem dX4_share_70 : decode cX4_share 70 = .ok (.iaload, 1) := by decide +kernel
theorem dX4_share_71 : decode cX4_share 71 = .ok (.i2l, 1) := by decide +kernel
theorem dX4_share_72 : decode cX4_share 72 = .ok (.lmul, 1) := by decide +kernel
theorem dX4_share_73 : decode cX4_share 73 = .ok (.lstore_n 2, 1) := by decide +kernel
theorem dX4_share_74 : decode cX4_share 74 = .ok (.aload_n 0, 1) := by decide +kernel
theorem dX4_share_75 : decode cX4_share 75 = .ok (.getfield 21, 3) := by decide +kernel
theorem dX4_share_78 : decode cX4_share 78 = .ok (.iload 4, 2) := by decide +kernel
theorem dX4_share_80 : decode cX4_share 80 = .ok (.dup2, 1) := by decide +kernel
theorem dX4_share_81 : decode cX4_share 81 = .ok (.laload, 1) := by decide +kernel
theorem dX4_share_82 : decode cX4_share 82 = .ok (.lload_n 2, 1) := by decide +kernel
theorem dX4_share_83 : decode cX4_share 83 = .ok (.lmul, 1) := by decide +kernel
theorem dX4_share_84 : decode cX4_share 84 = .ok (.lastore, 1) := by decide +kernel
theorem dX4_share_85 : decode cX4_share 85 = .ok (.iinc 4 (-1), 3) := by decide +kernel
theorem dX4_share_88 : decode cX4_share 88 = .ok (.goto (-35), 3) := by decide +kernel
theorem dX4_share_91 : decode cX4_share 91 = .ok (.return_, 1) := by decide +kernel
theorem dX4_letterAt_0 : decode cX4_letterAt 0 = .ok (.iload_n 1, 1) := by decide +kernel
theorem dX4_letterAt_1 : decode cX4_letterAt 1 = .ok (.ifCond .lt 20, 3) := by decide +kernel
theorem dX4_letterAt_4 : decode cX4_letterAt 4 = .ok (.iload_n 1, 1) := by decide +kernel
theorem dX4_letterAt_5 : decode cX4_letterAt 5 = .ok (.aload_n 0, 1) := by decide +kernel
theorem dX4_letterAt_6 : decode cX4_letterAt 6 = .ok (.getfield 25, 3) := by decide +kernel
theorem dX4_letterAt_9 : decode cX4_letterAt 9 = .ok (.if_icmp .ge 12, 3) := by decide +kernel
theorem dX4_letterAt_12 : decode cX4_letterAt 12 = .ok (.aload_n 0, 1) := by decide +kernel
theorem dX4_letterAt_13 : decode cX4_letterAt 13 = .ok (.getfield 9, 3) := by decide +kernel
theorem dX4_letterAt_16 : decode cX4_letterAt 16 = .ok (.iload_n 1, 1) := by decide +kernel
theorem dX4_letterAt_17 : decode cX4_letterAt 17 = .ok (.iaload, 1) := by decide +kernel
theorem dX4_letterAt_18 : decode cX4_letterAt 18 = .ok (.goto 4, 3) := by decide +kernel
theorem dX4_letterAt_21 : decode cX4_letterAt 21 = .ok (.iconst (-1), 1) := by decide +kernel
theorem dX4_letterAt_22 : decode cX4_letterAt 22 = .ok (.ireturn, 1) := by decide +kernel
theorem dX4_lapsBy_0 : decode cX4_lapsBy 0 = .ok (.aload_n 0, 1) := by decide +kernel
theorem dX4_lapsBy_1 : decode cX4_lapsBy 1 = .ok (.getfield 18, 3) := by decide +kernel
theorem dX4_lapsBy_4 : decode cX4_lapsBy 4 = .ok (.iload_n 1, 1) := by decide +kernel
theorem dX4_lapsBy_5 : decode cX4_lapsBy 5 = .ok (.iaload, 1) := by decide +kernel
theorem dX4_lapsBy_6 : decode cX4_lapsBy 6 = .ok (.aload_n 2, 1) := by decide +kernel
theorem dX4_lapsBy_7 : decode cX4_lapsBy 7 = .ok (.getfield 15, 3) := by decide +kernel
theorem dX4_lapsBy_10 : decode cX4_lapsBy 10 = .ok (.iload_n 1, 1) := by decide +kernel
theorem dX4_lapsBy_11 : decode cX4_lapsBy 11 = .ok (.iaload, 1) := by decide +kernel
theorem dX4_lapsBy_12 : decode cX4_lapsBy 12 = .ok (.if_icmp .ne 7, 3) := by decide +kernel
theorem dX4_lapsBy_15 : decode cX4_lapsBy 15 = .ok (.iconst 1, 1) := by decide +kernel
theorem dX4_lapsBy_16 : decode cX4_lapsBy 16 = .ok (.goto 4, 3) := by decide +kernel
theorem dX4_lapsBy_19 : decode cX4_lapsBy 19 = .ok (.iconst 0, 1) := by decide +kernel
theorem dX4_lapsBy_20 : decode cX4_lapsBy 20 = .ok (.ireturn, 1) := by decide +kernel
set_option maxRecDepth 20000 in
theorem ggX4_lapsOn_X4_lapsBy : GoodIn wsX4_lapsOn wsX4_lapsBy := goodIn_r _ [10, 11, 12, 13, 14, 15, 16, 17, 18, 19] (by decide +kernel) (by decide +kernel)
set_option maxRecDepth 20000 in
theorem gX4_lapsOn_X4_lapsBy : GoodIn wsX4_lapsOn (wsV RX4 64 RX4 yX4_lapsBy wsX4_lapsBy) := goodIn_app (goodIn_of _ (by decide +kernel)) ggX4_lapsOn_X4_lapsBy
theorem dX4_lapsOn_0 : decode cX4_lapsOn 0 = .ok (.iconst 0, 1) := by decide +kernel
theorem dX4_lapsOn_1 : decode cX4_lapsOn 1 = .ok (.istore_n 2, 1) := by decide +kernel
theorem dX4_lapsOn_2 : decode cX4_lapsOn 2 = .ok (.aload_n 0, 1) := by decide +kernel
theorem dX4_lapsOn_3 : decode cX4_lapsOn 3 = .ok (.getfield 25, 3) := by decide +kernel
theorem dX4_lapsOn_6 : decode cX4_lapsOn 6 = .ok (.aload_n 1, 1) := by decide +kernel
theorem dX4_lapsOn_7 : decode cX4_lapsOn 7 = .ok (.getfield 25, 3) := by decide +kernel
theorem dX4_lapsOn_10 : decode cX4_lapsOn 10 = .ok (.invokestatic 58, 3) := by decide +kernel
theorem dX4_lapsOn_13 : decode cX4_lapsOn 13 = .ok (.istore_n 3, 1) := by decide +kernel
theorem dX4_lapsOn_14 : decode cX4_lapsOn 14 = .ok (.iconst 1, 1) := by decide +kernel
theorem dX4_lapsOn_15 : decode cX4_lapsOn 15 = .ok (.istore 4, 2) := by decide +kernel
theorem dX4_lapsOn_17 : decode cX4_lapsOn 17 = .ok (.iload 4, 2) := by decide +kernel
theorem dX4_lapsOn_19 : decode cX4_lapsOn 19 = .ok (.iload_n 3, 1) := by decide +kernel
theorem dX4_lapsOn_20 : decode cX4_lapsOn 20 = .ok (.if_icmp .gt 32, 3) := by decide +kernel
theorem dX4_lapsOn_23 : decode cX4_lapsOn 23 = .ok (.iload_n 2, 1) := by decide +kernel
theorem dX4_lapsOn_24 : decode cX4_lapsOn 24 = .ok (.aload_n 0, 1) := by decide +kernel
theorem dX4_lapsOn_25 : decode cX4_lapsOn 25 = .ok (.iload 4, 2) := by decide +kernel
theorem dX4_lapsOn_27 : decode cX4_lapsOn 27 = .ok (.aload_n 1, 1) := by decide +kernel
theorem dX4_lapsOn_28 : decode cX4_lapsOn 28 = .ok (.invokevirtual 64, 3) := by decide +kernel
theorem dX4_lapsOn_31 : decode cX4_lapsOn 31 = .ok (.ifCond .eq 12, 3) := by decide +kernel
theorem dX4_lapsOn_34 : decode cX4_lapsOn 34 = .ok (.iconst 1, 1) := by decide +kernel
theorem dX4_lapsOn_35 : decode cX4_lapsOn 35 = .ok (.iload 4, 2) := by decide +kernel
theorem dX4_lapsOn_37 : decode cX4_lapsOn 37 = .ok (.iconst 1, 1) := by decide +kernel
theorem dX4_lapsOn_38 : decode cX4_lapsOn 38 = .ok (.isub, 1) := by decide +kernel
theorem dX4_lapsOn_39 : decode cX4_lapsOn 39 = .ok (.ishl, 1) := by decide +kernel
theorem dX4_lapsOn_40 : decode cX4_lapsOn 40 = .ok (.goto 4, 3) := by decide +kernel
theorem dX4_lapsOn_43 : decode cX4_lapsOn 43 = .ok (.iconst 0, 1) := by decide +kernel
theorem dX4_lapsOn_44 : decode cX4_lapsOn 44 = .ok (.ior, 1) := by decide +kernel
theorem dX4_lapsOn_45 : decode cX4_lapsOn 45 = .ok (.istore_n 2, 1) := by decide +kernel
theorem dX4_lapsOn_46 : decode cX4_lapsOn 46 = .ok (.iinc 4 1, 3) := by decide +kernel
theorem dX4_lapsOn_49 : decode cX4_lapsOn 49 = .ok (.goto (-32), 3) := by decide +kernel
theorem dX4_lapsOn_52 : decode cX4_lapsOn 52 = .ok (.iload_n 2, 1) := by decide +kernel
theorem dX4_lapsOn_53 : decode cX4_lapsOn 53 = .ok (.ireturn, 1) := by decide +kernel
set_option maxRecDepth 20000 in
theorem ggX4_leadOn_X4_lapsBy : GoodIn wsX4_leadOn wsX4_lapsBy := goodIn_r _ [11, 12, 13, 14, 15, 16, 17, 18, 19, 20] (by decide +kernel) (by decide +kernel)
set_option maxRecDepth 20000 in
theorem gX4_leadOn_X4_lapsBy : GoodIn wsX4_leadOn (wsV RX4 64 RX4 yX4_lapsBy wsX4_lapsBy) := goodIn_app (goodIn_of _ (by decide +kernel)) ggX4_leadOn_X4_lapsBy
theorem dX4_leadOn_0 : decode cX4_leadOn 0 = .ok (.lconst 0, 1) := by decide +kernel
theorem dX4_leadOn_1 : decode cX4_leadOn 1 = .ok (.lstore_n 2, 1) := by decide +kernel
theorem dX4_leadOn_2 : decode cX4_leadOn 2 = .ok (.aload_n 0, 1) := by decide +kernel
theorem dX4_leadOn_3 : decode cX4_leadOn 3 = .ok (.getfield 25, 3) := by decide +kernel
theorem dX4_leadOn_6 : decode cX4_leadOn 6 = .ok (.aload_n 1, 1) := by decide +kernel
theorem dX4_leadOn_7 : decode cX4_leadOn 7 = .ok (.getfield 25, 3) := by decide +kernel
theorem dX4_leadOn_10 : decode cX4_leadOn 10 = .ok (.invokestatic 58, 3) := by decide +kernel
theorem dX4_leadOn_13 : decode cX4_leadOn 13 = .ok (.istore 4, 2) := by decide +kernel
theorem dX4_leadOn_15 : decode cX4_leadOn 15 = .ok (.iconst 1, 1) := by decide +kernel
theorem dX4_leadOn_16 : decode cX4_leadOn 16 = .ok (.istore 5, 2) := by decide +kernel
theorem dX4_leadOn_18 : decode cX4_leadOn 18 = .ok (.iload 5, 2) := by decide +kernel
theorem dX4_leadOn_20 : decode cX4_leadOn 20 = .ok (.iload 4, 2) := by decide +kernel
theorem dX4_leadOn_22 : decode cX4_leadOn 22 = .ok (.if_icmp .gt 33, 3) := by decide +kernel
theorem dX4_leadOn_25 : decode cX4_leadOn 25 = .ok (.lload_n 2, 1) := by decide +kernel
theorem dX4_leadOn_26 : decode cX4_leadOn 26 = .ok (.aload_n 0, 1) := by decide +kernel
theorem dX4_leadOn_27 : decode cX4_leadOn 27 = .ok (.iload 5, 2) := by decide +kernel
theorem dX4_leadOn_29 : decode cX4_leadOn 29 = .ok (.aload_n 1, 1) := by decide +kernel
theorem dX4_leadOn_30 : decode cX4_leadOn 30 = .ok (.invokevirtual 64, 3) := by decide +kernel
theorem dX4_leadOn_33 : decode cX4_leadOn 33 = .ok (.ifCond .eq 13, 3) := by decide +kernel
theorem dX4_leadOn_36 : decode cX4_leadOn 36 = .ok (.aload_n 1, 1) := by decide +kernel
theorem dX4_leadOn_37 : decode cX4_leadOn 37 = .ok (.getfield 21, 3) := by decide +kernel
theorem dX4_leadOn_40 : decode cX4_leadOn 40 = .ok (.iload 5, 2) := by decide +kernel
theorem dX4_leadOn_42 : decode cX4_leadOn 42 = .ok (.laload, 1) := by decide +kernel
theorem dX4_leadOn_43 : decode cX4_leadOn 43 = .ok (.goto 4, 3) := by decide +kernel
theorem dX4_leadOn_46 : decode cX4_leadOn 46 = .ok (.lconst 0, 1) := by decide +kernel
theorem dX4_leadOn_47 : decode cX4_leadOn 47 = .ok (.ladd, 1) := by decide +kernel
theorem dX4_leadOn_48 : decode cX4_leadOn 48 = .ok (.lstore_n 2, 1) := by decide +kernel
theorem dX4_leadOn_49 : decode cX4_leadOn 49 = .ok (.iinc 5 1, 3) := by decide +kernel
theorem dX4_leadOn_52 : decode cX4_leadOn 52 = .ok (.goto (-34), 3) := by decide +kernel
theorem dX4_leadOn_55 : decode cX4_leadOn 55 = .ok (.lload_n 2, 1) := by decide +kernel
theorem dX4_leadOn_56 : decode cX4_leadOn 56 = .ok (.lreturn, 1) := by decide +kernel
theorem dX4_leadBottom_0 : decode cX4_leadBottom 0 = .ok (.aload_n 0, 1) := by decide +kernel
theorem dX4_leadBottom_1 : decode cX4_leadBottom 1 = .ok (.getfield 21, 3) := by decide +kernel
theorem dX4_leadBottom_4 : decode cX4_leadBottom 4 = .ok (.iconst 0, 1) := by decide +kernel
theorem dX4_leadBottom_5 : decode cX4_leadBottom 5 = .ok (.laload, 1) := by decide +kernel
theorem dX4_leadBottom_6 : decode cX4_leadBottom 6 = .ok (.lreturn, 1) := by decide +kernel
set_option maxRecDepth 20000 in
theorem ggX4_spreadTop_X4_lapsBy : GoodIn wsX4_spreadTop wsX4_lapsBy := goodIn_r _ [8, 9, 10, 15, 16, 17, 18, 19, 20, 21] (by decide +kernel) (by decide +kernel)
set_option maxRecDepth 20000 in
theorem gX4_spreadTop_X4_lapsBy : GoodIn wsX4_spreadTop (wsV RX4 64 RX4 yX4_lapsBy wsX4_lapsBy) := goodIn_app (goodIn_of _ (by decide +kernel)) ggX4_spreadTop_X4_lapsBy
set_option maxRecDepth 20000 in
theorem ggX4_spreadTop_X4_leadBottom : GoodIn wsX4_spreadTop wsX4_leadBottom := goodIn_r _ [14, 2, 15, 16, 17, 18, 19, 20, 21] (by decide +kernel) (by decide +kernel)
set_option maxRecDepth 20000 in
theorem gX4_spreadTop_X4_leadBottom : GoodIn wsX4_spreadTop (wsV RX4 68 RX4 yX4_leadBottom wsX4_leadBottom) := goodIn_app (goodIn_of _ (by decide +kernel)) ggX4_spreadTop_X4_leadBottom
theorem dX4_spreadTop_0 : decode cX4_spreadTop 0 = .ok (.lconst 0, 1) := by decide +kernel
theorem dX4_spreadTop_1 : decode cX4_spreadTop 1 = .ok (.lstore_n 1, 1) := by decide +kernel
theorem dX4_spreadTop_2 : decode cX4_spreadTop 2 = .ok (.iconst 1, 1) := by decide +kernel
theorem dX4_spreadTop_3 : decode cX4_spreadTop 3 = .ok (.istore_n 3, 1) := by decide +kernel
theorem dX4_spreadTop_4 : decode cX4_spreadTop 4 = .ok (.iload_n 3, 1) := by decide +kernel
theorem dX4_spreadTop_5 : decode cX4_spreadTop 5 = .ok (.aload_n 0, 1) := by decide +kernel
theorem dX4_spreadTop_6 : decode cX4_spreadTop 6 = .ok (.getfield 25, 3) := by decide +kernel
theorem dX4_spreadTop_9 : decode cX4_spreadTop 9 = .ok (.if_icmp .gt 38, 3) := by decide +kernel
theorem dX4_spreadTop_12 : decode cX4_spreadTop 12 = .ok (.lload_n 1, 1) := by decide +kernel
theorem dX4_spreadTop_13 : decode cX4_spreadTop 13 = .ok (.aload_n 0, 1) := by decide +kernel
theorem dX4_spreadTop_14 : decode cX4_spreadTop 14 = .ok (.iload_n 3, 1) := by decide +kernel
theorem dX4_spreadTop_15 : decode cX4_spreadTop 15 = .ok (.aload_n 0, 1) := by decide +kernel
theorem dX4_spreadTop_16 : decode cX4_spreadTop 16 = .ok (.invokevirtual 64, 3) := by decide +kernel
theorem dX4_spreadTop_19 : decode cX4_spreadTop 19 = .ok (.ifCond .eq 19, 3) := by decide +kernel
theorem dX4_spreadTop_22 : decode cX4_spreadTop 22 = .ok (.iconst 2, 1) := by decide +kernel
theorem dX4_spreadTop_23 : decode cX4_spreadTop 23 = .ok (.iload_n 3, 1) := by decide +kernel
theorem dX4_spreadTop_24 : decode cX4_spreadTop 24 = .ok (.imul, 1) := by decide +kernel
theorem dX4_spreadTop_25 : decode cX4_spreadTop 25 = .ok (.iconst 1, 1) := by decide +kernel
theorem dX4_spreadTop_26 : decode cX4_spreadTop 26 = .ok (.isub, 1) := by decide +kernel
theorem dX4_spreadTop_27 : decode cX4_spreadTop 27 = .ok (.i2l, 1) := by decide +kernel
theorem dX4_spreadTop_28 : decode cX4_spreadTop 28 = .ok (.aload_n 0, 1) := by decide +kernel
theorem dX4_spreadTop_29 : decode cX4_spreadTop 29 = .ok (.getfield 21, 3) := by decide +kernel
theorem dX4_spreadTop_32 : decode cX4_spreadTop 32 = .ok (.iload_n 3, 1) := by decide +kernel
theorem dX4_spreadTop_33 : decode cX4_spreadTop 33 = .ok (.laload, 1) := by decide +kernel
theorem dX4_spreadTop_34 : decode cX4_spreadTop 34 = .ok (.lmul, 1) := by decide +kernel
theorem dX4_spreadTop_35 : decode cX4_spreadTop 35 = .ok (.goto 4, 3) := by decide +kernel
theorem dX4_spreadTop_38 : decode cX4_spreadTop 38 = .ok (.lconst 0, 1) := by decide +kernel
theorem dX4_spreadTop_39 : decode cX4_spreadTop 39 = .ok (.ladd, 1) := by decide +kernel
theorem dX4_spreadTop_40 : decode cX4_spreadTop 40 = .ok (.lstore_n 1, 1) := by decide +kernel
theorem dX4_spreadTop_41 : decode cX4_spreadTop 41 = .ok (.iinc 3 1, 3) := by decide +kernel
theorem dX4_spreadTop_44 : decode cX4_spreadTop 44 = .ok (.goto (-40), 3) := by decide +kernel
theorem dX4_spreadTop_47 : decode cX4_spreadTop 47 = .ok (.aload_n 0, 1) := by decide +kernel
theorem dX4_spreadTop_48 : decode cX4_spreadTop 48 = .ok (.getfield 48, 3) := by decide +kernel
theorem dX4_spreadTop_51 : decode cX4_spreadTop 51 = .ok (.aload_n 0, 1) := by decide +kernel
theorem dX4_spreadTop_52 : decode cX4_spreadTop 52 = .ok (.getfield 48, 3) := by decide +kernel
theorem dX4_spreadTop_55 : decode cX4_spreadTop 55 = .ok (.lmul, 1) := by decide +kernel
theorem dX4_spreadTop_56 : decode cX4_spreadTop 56 = .ok (.lload_n 1, 1) := by decide +kernel
theorem dX4_spreadTop_57 : decode cX4_spreadTop 57 = .ok (.aload_n 0, 1) := by decide +kernel
theorem dX4_spreadTop_58 : decode cX4_spreadTop 58 = .ok (.invokevirtual 68, 3) := by decide +kernel
theorem dX4_spreadTop_61 : decode cX4_spreadTop 61 = .ok (.lmul, 1) := by decide +kernel
theorem dX4_spreadTop_62 : decode cX4_spreadTop 62 = .ok (.lsub, 1) := by decide +kernel
theorem dX4_spreadTop_63 : decode cX4_spreadTop 63 = .ok (.lreturn, 1) := by decide +kernel
set_option maxRecDepth 20000 in
theorem ggX4_edgeOver_X4_leadBottom : GoodIn wsX4_edgeOver wsX4_leadBottom := goodIn_r _ [6, 7, 23, 24, 25, 26, 27, 28, 29] (by decide +kernel) (by decide +kernel)
set_option maxRecDepth 20000 in
theorem gX4_edgeOver_X4_leadBottom : GoodIn wsX4_edgeOver (wsV RX4 68 RX4 yX4_leadBottom wsX4_leadBottom) := goodIn_app (goodIn_of _ (by decide +kernel)) ggX4_edgeOver_X4_leadBottom
set_option maxRecDepth 20000 in
theorem ggX4_edgeOver_X4_leadOn : GoodIn wsX4_edgeOver wsX4_leadOn := goodIn_r _ [11, 12, 13, 14, 15, 16, 7, 17, 18, 19, 5, 20, 21, 22, 23, 24, 25, 26, 27, 28, 29] (by decide +kernel) (by decide +kernel)
set_option maxRecDepth 20000 in
theorem gX4_edgeOver_X4_leadOn : GoodIn wsX4_edgeOver (wsV RX4 44 RX4 yX4_leadOn wsX4_leadOn) := goodIn_app (goodIn_of _ (by decide +kernel)) ggX4_edgeOver_X4_leadOn
theorem dX4_edgeOver_0 : decode cX4_edgeOver 0 = .ok (.aload_n 0, 1) := by decide +kernel
theorem dX4_edgeOver_1 : decode cX4_edgeOver 1 = .ok (.getfield 48, 3) := by decide +kernel
theorem dX4_edgeOver_4 : decode cX4_edgeOver 4 = .ok (.aload_n 1, 1) := by decide +kernel
theorem dX4_edgeOver_5 : decode cX4_edgeOver 5 = .ok (.invokevirtual 68, 3) := by decide +kernel
theorem dX4_edgeOver_8 : decode cX4_edgeOver 8 = .ok (.lmul, 1) := by decide +kernel
theorem dX4_edgeOver_9 : decode cX4_edgeOver 9 = .ok (.aload_n 0, 1) := by decide +kernel
theorem dX4_edgeOver_10 : decode cX4_edgeOver 10 = .ok (.aload_n 1, 1) := by decide +kernel
theorem dX4_edgeOver_11 : decode cX4_edgeOver 11 = .ok (.invokevirtual 44, 3) := by decide +kernel
theorem dX4_edgeOver_14 : decode cX4_edgeOver 14 = .ok (.aload_n 0, 1) := by decide +kernel
theorem dX4_edgeOver_15 : decode cX4_edgeOver 15 = .ok (.invokevirtual 68, 3) := by decide +kernel
theorem dX4_edgeOver_18 : decode cX4_edgeOver 18 = .ok (.lmul, 1) := by decide +kernel
theorem dX4_edgeOver_19 : decode cX4_edgeOver 19 = .ok (.lsub, 1) := by decide +kernel
theorem dX4_edgeOver_20 : decode cX4_edgeOver 20 = .ok (.lreturn, 1) := by decide +kernel
set_option maxRecDepth 20000 in
theorem ggX4_liesWithin_X4_standsIn : GoodIn wsX4_liesWithin wsX4_standsIn := goodIn_r _ [7, 1, 2, 8, 9, 10, 11, 12, 13, 14] (by decide +kernel) (by decide +kernel)
set_option maxRecDepth 20000 in
theorem gX4_liesWithin_X4_standsIn : GoodIn wsX4_liesWithin (wsV RX4 72 RX4 yX4_standsIn wsX4_standsIn) := goodIn_app (goodIn_of _ (by decide +kernel)) ggX4_liesWithin_X4_standsIn
theorem dX4_liesWithin_0 : decode cX4_liesWithin 0 = .ok (.iconst 0, 1) := by decide +kernel
theorem dX4_liesWithin_1 : decode cX4_liesWithin 1 = .ok (.istore_n 2, 1) := by decide +kernel
theorem dX4_liesWithin_2 : decode cX4_liesWithin 2 = .ok (.iload_n 2, 1) := by decide +kernel
theorem dX4_liesWithin_3 : decode cX4_liesWithin 3 = .ok (.aload_n 0, 1) := by decide +kernel
theorem dX4_liesWithin_4 : decode cX4_liesWithin 4 = .ok (.getfield 25, 3) := by decide +kernel
theorem dX4_liesWithin_7 : decode cX4_liesWithin 7 = .ok (.iadd, 1) := by decide +kernel
theorem dX4_liesWithin_8 : decode cX4_liesWithin 8 = .ok (.aload_n 1, 1) := by decide +kernel
theorem dX4_liesWithin_9 : decode cX4_liesWithin 9 = .ok (.getfield 25, 3) := by decide +kernel
theorem dX4_liesWithin_12 : decode cX4_liesWithin 12 = .ok (.if_icmp .gt 23, 3) := by decide +kernel
theorem dX4_liesWithin_15 : decode cX4_liesWithin 15 = .ok (.aload_n 0, 1) := by decide +kernel
theorem dX4_liesWithin_16 : decode cX4_liesWithin 16 = .ok (.aload_n 1, 1) := by decide +kernel
theorem dX4_liesWithin_17 : decode cX4_liesWithin 17 = .ok (.getfield 9, 3) := by decide +kernel
theorem dX4_liesWithin_20 : decode cX4_liesWithin 20 = .ok (.iload_n 2, 1) := by decide +kernel
theorem dX4_liesWithin_21 : decode cX4_liesWithin 21 = .ok (.invokevirtual 72, 3) := by decide +kernel
theorem dX4_liesWithin_24 : decode cX4_liesWithin 24 = .ok (.ifCond .eq 5, 3) := by decide +kernel
theorem dX4_liesWithin_27 : decode cX4_liesWithin 27 = .ok (.iconst 1, 1) := by decide +kernel
theorem dX4_liesWithin_28 : decode cX4_liesWithin 28 = .ok (.ireturn, 1) := by decide +kernel
theorem dX4_liesWithin_29 : decode cX4_liesWithin 29 = .ok (.iinc 2 1, 3) := by decide +kernel
theorem dX4_liesWithin_32 : decode cX4_liesWithin 32 = .ok (.goto (-30), 3) := by decide +kernel
theorem dX4_liesWithin_35 : decode cX4_liesWithin 35 = .ok (.iconst 0, 1) := by decide +kernel
theorem dX4_liesWithin_36 : decode cX4_liesWithin 36 = .ok (.ireturn, 1) := by decide +kernel
theorem dX4_standsIn_0 : decode cX4_standsIn 0 = .ok (.iload_n 2, 1) := by decide +kernel
theorem dX4_standsIn_1 : decode cX4_standsIn 1 = .ok (.ifCond .lt 14, 3) := by decide +kernel
theorem dX4_standsIn_4 : decode cX4_standsIn 4 = .ok (.iload_n 2, 1) := by decide +kernel
theorem dX4_standsIn_5 : decode cX4_standsIn 5 = .ok (.aload_n 0, 1) := by decide +kernel
theorem dX4_standsIn_6 : decode cX4_standsIn 6 = .ok (.getfield 25, 3) := by decide +kernel
theorem dX4_standsIn_9 : decode cX4_standsIn 9 = .ok (.iadd, 1) := by decide +kernel
theorem dX4_standsIn_10 : decode cX4_standsIn 10 = .ok (.aload_n 1, 1) := by decide +kernel
theorem dX4_standsIn_11 : decode cX4_standsIn 11 = .ok (.arraylength, 1) := by decide +kernel
theorem dX4_standsIn_12 : decode cX4_standsIn 12 = .ok (.if_icmp .le 5, 3) := by decide +kernel
theorem dX4_standsIn_15 : decode cX4_standsIn 15 = .ok (.iconst 0, 1) := by decide +kernel
theorem dX4_standsIn_16 : decode cX4_standsIn 16 = .ok (.ireturn, 1) := by decide +kernel
theorem dX4_standsIn_17 : decode cX4_standsIn 17 = .ok (.iconst 0, 1) := by decide +kernel
