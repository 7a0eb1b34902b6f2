theorem dX6_stateOf_5 : decode cX6_stateOf 5 = .ok (.iload 4, 2) := by decide +kernel
theorem dX6_stateOf_7 : decode cX6_stateOf 7 = .ok (.aload_n 0, 1) := by decide +kernel
theorem dX6_stateOf_8 : decode cX6_stateOf 8 = .ok (.getfield 130, 3) := by decide +kernel
theorem dX6_stateOf_11 : decode cX6_stateOf 11 = .ok (.if_icmp .ge 35, 3) := by decide +kernel
theorem dX6_stateOf_14 : decode cX6_stateOf 14 = .ok (.aload_n 0, 1) := by decide +kernel
theorem dX6_stateOf_15 : decode cX6_stateOf 15 = .ok (.iload_n 1, 1) := by decide +kernel
theorem dX6_stateOf_16 : decode cX6_stateOf 16 = .ok (.iload_n 2, 1) := by decide +kernel
theorem dX6_stateOf_17 : decode cX6_stateOf 17 = .ok (.aload_n 0, 1) := by decide +kernel
theorem dX6_stateOf_18 : decode cX6_stateOf 18 = .ok (.getfield 33, 3) := by decide +kernel
theorem dX6_stateOf_21 : decode cX6_stateOf 21 = .ok (.iload 4, 2) := by decide +kernel
theorem dX6_stateOf_23 : decode cX6_stateOf 23 = .ok (.iaload, 1) := by decide +kernel
theorem dX6_stateOf_24 : decode cX6_stateOf 24 = .ok (.aload_n 0, 1) := by decide +kernel
theorem dX6_stateOf_25 : decode cX6_stateOf 25 = .ok (.getfield 36, 3) := by decide +kernel
theorem dX6_stateOf_28 : decode cX6_stateOf 28 = .ok (.iload 4, 2) := by decide +kernel
theorem dX6_stateOf_30 : decode cX6_stateOf 30 = .ok (.iaload, 1) := by decide +kernel
theorem dX6_stateOf_31 : decode cX6_stateOf 31 = .ok (.invokevirtual 133, 3) := by decide +kernel
theorem dX6_stateOf_34 : decode cX6_stateOf 34 = .ok (.ifCond .eq 6, 3) := by decide +kernel
theorem dX6_stateOf_37 : decode cX6_stateOf 37 = .ok (.iload 4, 2) := by decide +kernel
theorem dX6_stateOf_39 : decode cX6_stateOf 39 = .ok (.istore_n 3, 1) := by decide +kernel
theorem dX6_stateOf_40 : decode cX6_stateOf 40 = .ok (.iinc 4 1, 3) := by decide +kernel
theorem dX6_stateOf_43 : decode cX6_stateOf 43 = .ok (.goto (-38), 3) := by decide +kernel
theorem dX6_stateOf_46 : decode cX6_stateOf 46 = .ok (.iload_n 3, 1) := by decide +kernel
theorem dX6_stateOf_47 : decode cX6_stateOf 47 = .ok (.ireturn, 1) := by decide +kernel
set_option maxRecDepth 20000 in
theorem ggX6_endsIn_X6_letterOf : GoodIn wsX6_endsIn wsX6_letterOf := goodIn_r _ [6, 7, 8, 9, 10, 11, 12, 13, 14, 15, 16, 17, 18, 19, 20, 21, 22, 23, 24, 25, 26, 27, 28, 29, 30, 31, 32, 33] (by decide +kernel) (by decide +kernel)
set_option maxRecDepth 20000 in
theorem gX6_endsIn_X6_letterOf : GoodIn wsX6_endsIn (wsV RX6 87 RX6 yX6_letterOf wsX6_letterOf) := goodIn_app (goodIn_of _ (by decide +kernel)) ggX6_endsIn_X6_letterOf
theorem dX6_endsIn_0 : decode cX6_endsIn 0 = .ok (.iload_n 3, 1) := by decide +kernel
theorem dX6_endsIn_1 : decode cX6_endsIn 1 = .ok (.iload_n 1, 1) := by decide +kernel
theorem dX6_endsIn_2 : decode cX6_endsIn 2 = .ok (.if_icmp .gt 7, 3) := by decide +kernel
theorem dX6_endsIn_5 : decode cX6_endsIn 5 = .ok (.iconst 1, 1) := by decide +kernel
theorem dX6_endsIn_6 : decode cX6_endsIn 6 = .ok (.goto 4, 3) := by decide +kernel
theorem dX6_endsIn_9 : decode cX6_endsIn 9 = .ok (.iconst 0, 1) := by decide +kernel
theorem dX6_endsIn_10 : decode cX6_endsIn 10 = .ok (.istore 4, 2) := by decide +kernel
theorem dX6_endsIn_12 : decode cX6_endsIn 12 = .ok (.iconst 0, 1) := by decide +kernel
theorem dX6_endsIn_13 : decode cX6_endsIn 13 = .ok (.istore 5, 2) := by decide +kernel
theorem dX6_endsIn_15 : decode cX6_endsIn 15 = .ok (.iload 5, 2) := by decide +kernel
theorem dX6_endsIn_17 : decode cX6_endsIn 17 = .ok (.iload_n 3, 1) := by decide +kernel
theorem dX6_endsIn_18 : decode cX6_endsIn 18 = .ok (.if_icmp .ge 42, 3) := by decide +kernel
theorem dX6_endsIn_21 : decode cX6_endsIn 21 = .ok (.iload 4, 2) := by decide +kernel
theorem dX6_endsIn_23 : decode cX6_endsIn 23 = .ok (.ifCond .eq 37, 3) := by decide +kernel
theorem dX6_endsIn_26 : decode cX6_endsIn 26 = .ok (.aload_n 0, 1) := by decide +kernel
theorem dX6_endsIn_27 : decode cX6_endsIn 27 = .ok (.getfield 42, 3) := by decide +kernel
theorem dX6_endsIn_30 : decode cX6_endsIn 30 = .ok (.iload_n 1, 1) := by decide +kernel
theorem dX6_endsIn_31 : decode cX6_endsIn 31 = .ok (.iload_n 3, 1) := by decide +kernel
theorem dX6_endsIn_32 : decode cX6_endsIn 32 = .ok (.isub, 1) := by decide +kernel
theorem dX6_endsIn_33 : decode cX6_endsIn 33 = .ok (.iload 5, 2) := by decide +kernel
theorem dX6_endsIn_35 : decode cX6_endsIn 35 = .ok (.iadd, 1) := by decide +kernel
theorem dX6_endsIn_36 : decode cX6_endsIn 36 = .ok (.iaload, 1) := by decide +kernel
theorem dX6_endsIn_37 : decode cX6_endsIn 37 = .ok (.aload_n 0, 1) := by decide +kernel
theorem dX6_endsIn_38 : decode cX6_endsIn 38 = .ok (.iload_n 2, 1) := by decide +kernel
theorem dX6_endsIn_39 : decode cX6_endsIn 39 = .ok (.iload 5, 2) := by decide +kernel
theorem dX6_endsIn_41 : decode cX6_endsIn 41 = .ok (.invokevirtual 87, 3) := by decide +kernel
theorem dX6_endsIn_44 : decode cX6_endsIn 44 = .ok (.if_icmp .ne 7, 3) := by decide +kernel
theorem dX6_endsIn_47 : decode cX6_endsIn 47 = .ok (.iconst 1, 1) := by decide +kernel
theorem dX6_endsIn_48 : decode cX6_endsIn 48 = .ok (.goto 4, 3) := by decide +kernel
theorem dX6_endsIn_51 : decode cX6_endsIn 51 = .ok (.iconst 0, 1) := by decide +kernel
theorem dX6_endsIn_52 : decode cX6_endsIn 52 = .ok (.istore 4, 2) := by decide +kernel
theorem dX6_endsIn_54 : decode cX6_endsIn 54 = .ok (.iinc 5 1, 3) := by decide +kernel
theorem dX6_endsIn_57 : decode cX6_endsIn 57 = .ok (.goto (-42), 3) := by decide +kernel
theorem dX6_endsIn_60 : decode cX6_endsIn 60 = .ok (.iload 4, 2) := by decide +kernel
theorem dX6_endsIn_62 : decode cX6_endsIn 62 = .ok (.ireturn, 1) := by decide +kernel
set_option maxRecDepth 20000 in
theorem ggX6_next_X6_letterOf : GoodIn wsX6_next wsX6_letterOf := goodIn_r _ [9, 10, 24, 25, 26, 27, 28, 29, 30, 31, 32, 33, 34, 35, 36, 37, 38, 39, 40, 41, 42, 43, 44, 45, 46, 47, 48, 49] (by decide +kernel) (by decide +kernel)
set_option maxRecDepth 20000 in
theorem gX6_next_X6_letterOf : GoodIn wsX6_next (wsV RX6 87 RX6 yX6_letterOf wsX6_letterOf) := goodIn_app (goodIn_of _ (by decide +kernel)) ggX6_next_X6_letterOf
set_option maxRecDepth 20000 in
theorem ggX6_next_X6_endsIn : GoodIn wsX6_next wsX6_endsIn := goodIn_r _ [14, 2, 5, 6, 7, 8, 9, 10, 24, 25, 26, 27, 28, 29, 30, 31, 32, 33, 34, 35, 36, 37, 38, 39, 40, 41, 42, 43, 44, 45, 46, 47, 48, 49] (by decide +kernel) (by decide +kernel)
set_option maxRecDepth 20000 in
theorem gX6_next_X6_endsIn : GoodIn wsX6_next (wsV RX6 137 RX6 yX6_endsIn wsX6_endsIn) := goodIn_app (goodIn_of _ (by decide +kernel)) ggX6_next_X6_endsIn
set_option maxRecDepth 20000 in
theorem ggX6_next_X6_stateOf : GoodIn wsX6_next wsX6_stateOf := goodIn_r _ [18, 19, 3, 1, 20, 21, 22, 8, 23, 5, 6, 7, 9, 10, 24, 25, 26, 27, 28, 29, 30, 31, 32, 33, 34, 35, 36, 37, 38, 39, 40, 41, 42, 43, 44, 45, 46, 47, 48, 49] (by decide +kernel) (by decide +kernel)
set_option maxRecDepth 20000 in
theorem gX6_next_X6_stateOf : GoodIn wsX6_next (wsV RX6 140 RX6 yX6_stateOf wsX6_stateOf) := goodIn_app (goodIn_of _ (by decide +kernel)) ggX6_next_X6_stateOf
theorem dX6_next_0 : decode cX6_next 0 = .ok (.aload_n 0, 1) := by decide +kernel
theorem dX6_next_1 : decode cX6_next 1 = .ok (.getfield 36, 3) := by decide +kernel
theorem dX6_next_4 : decode cX6_next 4 = .ok (.iload_n 1, 1) := by decide +kernel
theorem dX6_next_5 : decode cX6_next 5 = .ok (.iaload, 1) := by decide +kernel
theorem dX6_next_6 : decode cX6_next 6 = .ok (.istore 4, 2) := by decide +kernel
theorem dX6_next_8 : decode cX6_next 8 = .ok (.iconst 0, 1) := by decide +kernel
theorem dX6_next_9 : decode cX6_next 9 = .ok (.istore 5, 2) := by decide +kernel
theorem dX6_next_11 : decode cX6_next 11 = .ok (.iload 5, 2) := by decide +kernel
theorem dX6_next_13 : decode cX6_next 13 = .ok (.iload 4, 2) := by decide +kernel
theorem dX6_next_15 : decode cX6_next 15 = .ok (.if_icmp .ge 28, 3) := by decide +kernel
theorem dX6_next_18 : decode cX6_next 18 = .ok (.aload_n 0, 1) := by decide +kernel
theorem dX6_next_19 : decode cX6_next 19 = .ok (.getfield 42, 3) := by decide +kernel
theorem dX6_next_22 : decode cX6_next 22 = .ok (.iload 5, 2) := by decide +kernel
theorem dX6_next_24 : decode cX6_next 24 = .ok (.aload_n 0, 1) := by decide +kernel
theorem dX6_next_25 : decode cX6_next 25 = .ok (.aload_n 0, 1) := by decide +kernel
theorem dX6_next_26 : decode cX6_next 26 = .ok (.getfield 33, 3) := by decide +kernel
theorem dX6_next_29 : decode cX6_next 29 = .ok (.iload_n 1, 1) := by decide +kernel
theorem dX6_next_30 : decode cX6_next 30 = .ok (.iaload, 1) := by decide +kernel
theorem dX6_next_31 : decode cX6_next 31 = .ok (.iload 5, 2) := by decide +kernel
theorem dX6_next_33 : decode cX6_next 33 = .ok (.invokevirtual 87, 3) := by decide +kernel
theorem dX6_next_36 : decode cX6_next 36 = .ok (.iastore, 1) := by decide +kernel
theorem dX6_next_37 : decode cX6_next 37 = .ok (.iinc 5 1, 3) := by decide +kernel
theorem dX6_next_40 : decode cX6_next 40 = .ok (.goto (-29), 3) := by decide +kernel
theorem dX6_next_43 : decode cX6_next 43 = .ok (.aload_n 0, 1) := by decide +kernel
theorem dX6_next_44 : decode cX6_next 44 = .ok (.getfield 42, 3) := by decide +kernel
theorem dX6_next_47 : decode cX6_next 47 = .ok (.iload 4, 2) := by decide +kernel
theorem dX6_next_49 : decode cX6_next 49 = .ok (.iload_n 2, 1) := by decide +kernel
theorem dX6_next_50 : decode cX6_next 50 = .ok (.iastore, 1) := by decide +kernel
theorem dX6_next_51 : decode cX6_next 51 = .ok (.iload 4, 2) := by decide +kernel
theorem dX6_next_53 : decode cX6_next 53 = .ok (.iconst 1, 1) := by decide +kernel
theorem dX6_next_54 : decode cX6_next 54 = .ok (.iadd, 1) := by decide +kernel
theorem dX6_next_55 : decode cX6_next 55 = .ok (.istore 5, 2) := by decide +kernel
theorem dX6_next_57 : decode cX6_next 57 = .ok (.iload 5, 2) := by decide +kernel
theorem dX6_next_59 : decode cX6_next 59 = .ok (.ifCond .le 93, 3) := by decide +kernel
theorem dX6_next_62 : decode cX6_next 62 = .ok (.iconst 0, 1) := by decide +kernel
theorem dX6_next_63 : decode cX6_next 63 = .ok (.istore 6, 2) := by decide +kernel
theorem dX6_next_65 : decode cX6_next 65 = .ok (.iload 6, 2) := by decide +kernel
theorem dX6_next_67 : decode cX6_next 67 = .ok (.bipush 8, 2) := by decide +kernel
theorem dX6_next_69 : decode cX6_next 69 = .ok (.if_icmp .ge 77, 3) := by decide +kernel
theorem dX6_next_72 : decode cX6_next 72 = .ok (.iload_n 3, 1) := by decide +kernel
theorem dX6_next_73 : decode cX6_next 73 = .ok (.iload 6, 2) := by decide +kernel
theorem dX6_next_75 : decode cX6_next 75 = .ok (.ishr, 1) := by decide +kernel
theorem dX6_next_76 : decode cX6_next 76 = .ok (.iconst 1, 1) := by decide +kernel
theorem dX6_next_77 : decode cX6_next 77 = .ok (.iand, 1) := by decide +kernel
theorem dX6_next_78 : decode cX6_next 78 = .ok (.ifCond .eq 62, 3) := by decide +kernel
theorem dX6_next_81 : decode cX6_next 81 = .ok (.iload 5, 2) := by decide +kernel
theorem dX6_next_83 : decode cX6_next 83 = .ok (.aload_n 0, 1) := by decide +kernel
theorem dX6_next_84 : decode cX6_next 84 = .ok (.getfield 20, 3) := by decide +kernel
theorem dX6_next_87 : decode cX6_next 87 = .ok (.iload 6, 2) := by decide +kernel
theorem dX6_next_89 : decode cX6_next 89 = .ok (.iaload, 1) := by decide +kernel
theorem dX6_next_90 : decode cX6_next 90 = .ok (.if_icmp .gt 50, 3) := by decide +kernel
theorem dX6_next_93 : decode cX6_next 93 = .ok (.aload_n 0, 1) := by decide +kernel
theorem dX6_next_94 : decode cX6_next 94 = .ok (.iload 4, 2) := by decide +kernel
theorem dX6_next_96 : decode cX6_next 96 = .ok (.iconst 1, 1) := by decide +kernel
theorem dX6_next_97 : decode cX6_next 97 = .ok (.iadd, 1) := by decide +kernel
theorem dX6_next_98 : decode cX6_next 98 = .ok (.iload 6, 2) := by decide +kernel
theorem dX6_next_100 : decode cX6_next 100 = .ok (.iload 5, 2) := by decide +kernel
theorem dX6_next_102 : decode cX6_next 102 = .ok (.invokevirtual 137, 3) := by decide +kernel
theorem dX6_next_105 : decode cX6_next 105 = .ok (.ifCond .ne 6, 3) := by decide +kernel
theorem dX6_next_108 : decode cX6_next 108 = .ok (.goto 32, 3) := by decide +kernel
theorem dX6_next_111 : decode cX6_next 111 = .ok (.iload 5, 2) := by decide +kernel
theorem dX6_next_113 : decode cX6_next 113 = .ok (.aload_n 0, 1) := by decide +kernel
theorem dX6_next_114 : decode cX6_next 114 = .ok (.getfield 20, 3) := by decide +kernel
theorem dX6_next_117 : decode cX6_next 117 = .ok (.iload 6, 2) := by decide +kernel
theorem dX6_next_119 : decode cX6_next 119 = .ok (.iaload, 1) := by decide +kernel
theorem dX6_next_120 : decode cX6_next 120 = .ok (.if_icmp .ne 11, 3) := by decide +kernel
theorem dX6_next_123 : decode cX6_next 123 = .ok (.bipush 100, 2) := by decide +kernel
theorem dX6_next_125 : decode cX6_next 125 = .ok (.iload 6, 2) := by decide +kernel
theorem dX6_next_127 : decode cX6_next 127 = .ok (.iadd, 1) := by decide +kernel
theorem dX6_next_128 : decode cX6_next 128 = .ok (.goto 11, 3) := by decide +kernel
theorem dX6_next_131 : decode cX6_next 131 = .ok (.aload_n 0, 1) := by decide +kernel
theorem dX6_next_132 : decode cX6_next 132 = .ok (.iload 6, 2) := by decide +kernel
theorem dX6_next_134 : decode cX6_next 134 = .ok (.iload 5, 2) := by decide +kernel
theorem dX6_next_136 : decode cX6_next 136 = .ok (.invokevirtual 140, 3) := by decide +kernel
theorem dX6_next_139 : decode cX6_next 139 = .ok (.ireturn, 1) := by decide +kernel
theorem dX6_next_140 : decode cX6_next 140 = .ok (.iinc 6 1, 3) := by decide +kernel
theorem dX6_next_143 : decode cX6_next 143 = .ok (.goto (-78), 3) := by decide +kernel
theorem dX6_next_146 : decode cX6_next 146 = .ok (.iinc 5 (-1), 3) := by decide +kernel
theorem dX6_next_149 : decode cX6_next 149 = .ok (.goto (-92), 3) := by decide +kernel
theorem dX6_next_152 : decode cX6_next 152 = .ok (.iconst 0, 1) := by decide +kernel
theorem dX6_next_153 : decode cX6_next 153 = .ok (.ireturn, 1) := by decide +kernel
set_option maxRecDepth 20000 in
theorem ggX6_makes_X6_stateOf : GoodIn wsX6_makes wsX6_stateOf := goodIn_r _ [11, 1, 3, 4, 12, 13, 14, 10, 15, 16, 17, 18, 19, 20, 30, 31, 32, 33, 34, 35, 36, 37, 38, 39, 40, 41, 42, 43, 44, 45, 46, 47, 48, 49, 50, 51, 52, 53, 54, 55] (by decide +kernel) (by decide +kernel)
set_option maxRecDepth 20000 in
theorem gX6_makes_X6_stateOf : GoodIn wsX6_makes (wsV RX6 140 RX6 yX6_stateOf wsX6_stateOf) := goodIn_app (goodIn_of _ (by decide +kernel)) ggX6_makes_X6_stateOf
set_option maxRecDepth 20000 in
theorem ggX6_makes_X6_next : GoodIn wsX6_makes wsX6_next := goodIn_r _ [24, 4, 25, 3, 2, 16, 17, 18, 10, 19, 20, 26, 27, 28, 29, 7, 8, 9, 11, 1, 12, 13, 14, 15, 30, 31, 32, 33, 34, 35, 36, 37, 38, 39, 40, 41, 42, 43, 44, 45, 46, 47, 48, 49, 50, 51, 52, 53, 54, 55] (by decide +kernel) (by decide +kernel)
set_option maxRecDepth 20000 in
theorem gX6_makes_X6_next : GoodIn wsX6_makes (wsV RX6 143 RX6 yX6_next wsX6_next) := goodIn_app (goodIn_of _ (by decide +kernel)) ggX6_makes_X6_next
theorem dX6_makes_0 : decode cX6_makes 0 = .ok (.aload_n 0, 1) := by decide +kernel
theorem dX6_makes_1 : decode cX6_makes 1 = .ok (.iconst 0, 1) := by decide +kernel
theorem dX6_makes_2 : decode cX6_makes 2 = .ok (.putfield 130, 3) := by decide +kernel
theorem dX6_makes_5 : decode cX6_makes 5 = .ok (.iconst 0, 1) := by decide +kernel
theorem dX6_makes_6 : decode cX6_makes 6 = .ok (.istore_n 2, 1) := by decide +kernel
theorem dX6_makes_7 : decode cX6_makes 7 = .ok (.iload_n 2, 1) := by decide +kernel
theorem dX6_makes_8 : decode cX6_makes 8 = .ok (.bipush 8, 2) := by decide +kernel
theorem dX6_makes_10 : decode cX6_makes 10 = .ok (.if_icmp .ge 80, 3) := by decide +kernel
theorem dX6_makes_13 : decode cX6_makes 13 = .ok (.iload_n 1, 1) := by decide +kernel
theorem dX6_makes_14 : decode cX6_makes 14 = .ok (.iload_n 2, 1) := by decide +kernel
theorem dX6_makes_15 : decode cX6_makes 15 = .ok (.ishr, 1) := by decide +kernel
theorem dX6_makes_16 : decode cX6_makes 16 = .ok (.iconst 1, 1) := by decide +kernel
theorem dX6_makes_17 : decode cX6_makes 17 = .ok (.iand, 1) := by decide +kernel
theorem dX6_makes_18 : decode cX6_makes 18 = .ok (.ifCond .ne 6, 3) := by decide +kernel
theorem dX6_makes_21 : decode cX6_makes 21 = .ok (.goto 63, 3) := by decide +kernel
theorem dX6_makes_24 : decode cX6_makes 24 = .ok (.iconst 0, 1) := by decide +kernel
theorem dX6_makes_25 : decode cX6_makes 25 = .ok (.istore_n 3, 1) := by decide +kernel
theorem dX6_makes_26 : decode cX6_makes 26 = .ok (.iload_n 3, 1) := by decide +kernel
theorem dX6_makes_27 : decode cX6_makes 27 = .ok (.aload_n 0, 1) := by decide +kernel
theorem dX6_makes_28 : decode cX6_makes 28 = .ok (.getfield 20, 3) := by decide +kernel
theorem dX6_makes_31 : decode cX6_makes 31 = .ok (.iload_n 2, 1) := by decide +kernel
theorem dX6_makes_32 : decode cX6_makes 32 = .ok (.iaload, 1) := by decide +kernel
theorem dX6_makes_33 : decode cX6_makes 33 = .ok (.if_icmp .ge 51, 3) := by decide +kernel
theorem dX6_makes_36 : decode cX6_makes 36 = .ok (.aload_n 0, 1) := by decide +kernel
theorem dX6_makes_37 : decode cX6_makes 37 = .ok (.iload_n 2, 1) := by decide +kernel
theorem dX6_makes_38 : decode cX6_makes 38 = .ok (.iload_n 3, 1) := by decide +kernel
theorem dX6_makes_39 : decode cX6_makes 39 = .ok (.invokevirtual 140, 3) := by decide +kernel
theorem dX6_makes_42 : decode cX6_makes 42 = .ok (.ifCond .lt 6, 3) := by decide +kernel
theorem dX6_makes_45 : decode cX6_makes 45 = .ok (.goto 33, 3) := by decide +kernel
theorem dX6_makes_48 : decode cX6_makes 48 = .ok (.aload_n 0, 1) := by decide +kernel
theorem dX6_makes_49 : decode cX6_makes 49 = .ok (.getfield 33, 3) := by decide +kernel
theorem dX6_makes_52 : decode cX6_makes 52 = .ok (.aload_n 0, 1) := by decide +kernel
theorem dX6_makes_53 : decode cX6_makes 53 = .ok (.getfield 130, 3) := by decide +kernel
theorem dX6_makes_56 : decode cX6_makes 56 = .ok (.iload_n 2, 1) := by decide +kernel
theorem dX6_makes_57 : decode cX6_makes 57 = .ok (.iastore, 1) := by decide +kernel
theorem dX6_makes_58 : decode cX6_makes 58 = .ok (.aload_n 0, 1) := by decide +kernel
theorem dX6_makes_59 : decode cX6_makes 59 = .ok (.getfield 36, 3) := by decide +kernel
theorem dX6_makes_62 : decode cX6_makes 62 = .ok (.aload_n 0, 1) := by decide +kernel
theorem dX6_makes_63 : decode cX6_makes 63 = .ok (.getfield 130, 3) := by decide +kernel
theorem dX6_makes_66 : decode cX6_makes 66 = .ok (.iload_n 3, 1) := by decide +kernel
theorem dX6_makes_67 : decode cX6_makes 67 = .ok (.iastore, 1) := by decide +kernel
theorem dX6_makes_68 : decode cX6_makes 68 = .ok (.aload_n 0, 1) := by decide +kernel
theorem dX6_makes_69 : decode cX6_makes 69 = .ok (.dup, 1) := by decide +kernel
theorem dX6_makes_70 : decode cX6_makes 70 = .ok (.getfield 130, 3) := by decide +kernel
theorem dX6_makes_73 : decode cX6_makes 73 = .ok (.iconst 1, 1) := by decide +kernel
theorem dX6_makes_74 : decode cX6_makes 74 = .ok (.iadd, 1) := by decide +kernel
theorem dX6_makes_75 : decode cX6_makes 75 = .ok (.putfield 130, 3) := by decide +kernel
theorem dX6_makes_78 : decode cX6_makes 78 = .ok (.iinc 3 1, 3) := by decide +kernel
theorem dX6_makes_81 : decode cX6_makes 81 = .ok (.goto (-55), 3) := by decide +kernel
theorem dX6_makes_84 : decode cX6_makes 84 = .ok (.iinc 2 1, 3) := by decide +kernel
theorem dX6_makes_87 : decode cX6_makes 87 = .ok (.goto (-80), 3) := by decide +kernel
theorem dX6_makes_90 : decode cX6_makes 90 = .ok (.iconst 0, 1) := by decide +kernel
theorem dX6_makes_91 : decode cX6_makes 91 = .ok (.istore_n 2, 1) := by decide +kernel
theorem dX6_makes_92 : decode cX6_makes 92 = .ok (.iload_n 2, 1) := by decide +kernel
theorem dX6_makes_93 : decode cX6_makes 93 = .ok (.aload_n 0, 1) := by decide +kernel
theorem dX6_makes_94 : decode cX6_makes 94 = .ok (.getfield 130, 3) := by decide +kernel
theorem dX6_makes_97 : decode cX6_makes 97 = .ok (.if_icmp .ge 42, 3) := by decide +kernel
theorem dX6_makes_100 : decode cX6_makes 100 = .ok (.iconst 0, 1) := by decide +kernel
theorem dX6_makes_101 : decode cX6_makes 101 = .ok (.istore_n 3, 1) := by decide +kernel
theorem dX6_makes_102 : decode cX6_makes 102 = .ok (.iload_n 3, 1) := by decide +kernel
theorem dX6_makes_103 : decode cX6_makes 103 = .ok (.aload_n 0, 1) := by decide +kernel
theorem dX6_makes_104 : decode cX6_makes 104 = .ok (.getfield 7, 3) := by decide +kernel
theorem dX6_makes_107 : decode cX6_makes 107 = .ok (.if_icmp .ge 26, 3) := by decide +kernel
theorem dX6_makes_110 : decode cX6_makes 110 = .ok (.aload_n 0, 1) := by decide +kernel
theorem dX6_makes_111 : decode cX6_makes 111 = .ok (.getfield 39, 3) := by decide +kernel
theorem dX6_makes_114 : decode cX6_makes 114 = .ok (.iconst 4, 1) := by decide +kernel
theorem dX6_makes_115 : decode cX6_makes 115 = .ok (.iload_n 2, 1) := by decide +kernel
theorem dX6_makes_116 : decode cX6_makes 116 = .ok (.imul, 1) := by decide +kernel
theorem dX6_makes_117 : decode cX6_makes 117 = .ok (.iload_n 3, 1) := by decide +kernel
theorem dX6_makes_118 : decode cX6_makes 118 = .ok (.iadd, 1) := by decide +kernel
theorem dX6_makes_119 : decode cX6_makes 119 = .ok (.aload_n 0, 1) := by decide +kernel
theorem dX6_makes_120 : decode cX6_makes 120 = .ok (.iload_n 2, 1) := by decide +kernel
theorem dX6_makes_121 : decode cX6_makes 121 = .ok (.iload_n 3, 1) := by decide +kernel
theorem dX6_makes_122 : decode cX6_makes 122 = .ok (.iload_n 1, 1) := by decide +kernel
theorem dX6_makes_123 : decode cX6_makes 123 = .ok (.invokevirtual 143, 3) := by decide +kernel
theorem dX6_makes_126 : decode cX6_makes 126 = .ok (.iastore, 1) := by decide +kernel
theorem dX6_makes_127 : decode cX6_makes 127 = .ok (.iinc 3 1, 3) := by decide +kernel
theorem dX6_makes_130 : decode cX6_makes 130 = .ok (.goto (-28), 3) := by decide +kernel
theorem dX6_makes_133 : decode cX6_makes 133 = .ok (.iinc 2 1, 3) := by decide +kernel
theorem dX6_makes_136 : decode cX6_makes 136 = .ok (.goto (-44), 3) := by decide +kernel
theorem dX6_makes_139 : decode cX6_makes 139 = .ok (.return_, 1) := by decide +kernel
theorem dX6_begins_0 : decode cX6_begins 0 = .ok (.iconst 0, 1) := by decide +kernel
theorem dX6_begins_1 : decode cX6_begins 1 = .ok (.istore_n 1, 1) := by decide +kernel
theorem dX6_begins_2 : decode cX6_begins 2 = .ok (.iload_n 1, 1) := by decide +kernel
theorem dX6_begins_3 : decode cX6_begins 3 = .ok (.aload_n 0, 1) := by decide +kernel
theorem dX6_begins_4 : decode cX6_begins 4 = .ok (.getfield 130, 3) := by decide +kernel
theorem dX6_begins_7 : decode cX6_begins 7 = .ok (.if_icmp .ge 123, 3) := by decide +kernel
theorem dX6_begins_10 : decode cX6_begins 10 = .ok (.iconst 0, 1) := by decide +kernel
theorem dX6_begins_11 : decode cX6_begins 11 = .ok (.istore_n 2, 1) := by decide +kernel
theorem dX6_begins_12 : decode cX6_begins 12 = .ok (.iload_n 2, 1) := by decide +kernel
theorem dX6_begins_13 : decode cX6_begins 13 = .ok (.aload_n 0, 1) := by decide +kernel
theorem dX6_begins_14 : decode cX6_begins 14 = .ok (.getfield 130, 3) := by decide +kernel
theorem dX6_begins_17 : decode cX6_begins 17 = .ok (.if_icmp .ge 46, 3) := by decide +kernel
theorem dX6_begins_20 : decode cX6_begins 20 = .ok (.aload_n 0, 1) := by decide +kernel
theorem dX6_begins_21 : decode cX6_begins 21 = .ok (.getfield 45, 3) := by decide +kernel
theorem dX6_begins_24 : decode cX6_begins 24 = .ok (.bipush 13, 2) := by decide +kernel
theorem dX6_begins_26 : decode cX6_begins 26 = .ok (.iload_n 1, 1) := by decide +kernel
theorem dX6_begins_27 : decode cX6_begins 27 = .ok (.imul, 1) := by decide +kernel
theorem dX6_begins_28 : decode cX6_begins 28 = .ok (.iload_n 2, 1) := by decide +kernel
theorem dX6_begins_29 : decode cX6_begins 29 = .ok (.iadd, 1) := by decide +kernel
theorem dX6_begins_30 : decode cX6_begins 30 = .ok (.iload_n 1, 1) := by decide +kernel
theorem dX6_begins_31 : decode cX6_begins 31 = .ok (.iload_n 2, 1) := by decide +kernel
theorem dX6_begins_32 : decode cX6_begins 32 = .ok (.if_icmp .ne 11, 3) := by decide +kernel
theorem dX6_begins_35 : decode cX6_begins 35 = .ok (.aload_n 0, 1) := by decide +kernel
theorem dX6_begins_36 : decode cX6_begins 36 = .ok (.getfield 13, 3) := by decide +kernel
theorem dX6_begins_39 : decode cX6_begins 39 = .ok (.i2l, 1) := by decide +kernel
theorem dX6_begins_40 : decode cX6_begins 40 = .ok (.goto 4, 3) := by decide +kernel
theorem dX6_begins_43 : decode cX6_begins 43 = .ok (.lconst 0, 1) := by decide +kernel
theorem dX6_begins_44 : decode cX6_begins 44 = .ok (.lastore, 1) := by decide +kernel
theorem dX6_begins_45 : decode cX6_begins 45 = .ok (.aload_n 0, 1) := by decide +kernel
theorem dX6_begins_46 : decode cX6_begins 46 = .ok (.getfield 49, 3) := by decide +kernel
theorem dX6_begins_49 : decode cX6_begins 49 = .ok (.bipush 13, 2) := by decide +kernel
theorem dX6_begins_51 : decode cX6_begins 51 = .ok (.iload_n 1, 1) := by decide +kernel
theorem dX6_begins_52 : decode cX6_begins 52 = .ok (.imul, 1) := by decide +kernel
theorem dX6_begins_53 : decode cX6_begins 53 = .ok (.iload_n 2, 1) := by decide +kernel
theorem dX6_begins_54 : decode cX6_begins 54 = .ok (.iadd, 1) := by decide +kernel
theorem dX6_begins_55 : decode cX6_begins 55 = .ok (.lconst 1, 1) := by decide +kernel
theorem dX6_begins_56 : decode cX6_begins 56 = .ok (.lastore, 1) := by decide +kernel
theorem dX6_begins_57 : decode cX6_begins 57 = .ok (.iinc 2 1, 3) := by decide +kernel
theorem dX6_begins_60 : decode cX6_begins 60 = .ok (.goto (-48), 3) := by decide +kernel
theorem dX6_begins_63 : decode cX6_begins 63 = .ok (.iconst 0, 1) := by decide +kernel
theorem dX6_begins_64 : decode cX6_begins 64 = .ok (.istore_n 2, 1) := by decide +kernel
theorem dX6_begins_65 : decode cX6_begins 65 = .ok (.iload_n 2, 1) := by decide +kernel
theorem dX6_begins_66 : decode cX6_begins 66 = .ok (.aload_n 0, 1) := by decide +kernel
theorem dX6_begins_67 : decode cX6_begins 67 = .ok (.getfield 7, 3) := by decide +kernel
theorem dX6_begins_70 : decode cX6_begins 70 = .ok (.if_icmp .ge 54, 3) := by decide +kernel
theorem dX6_begins_73 : decode cX6_begins 73 = .ok (.aload_n 0, 1) := by decide +kernel
theorem dX6_begins_74 : decode cX6_begins 74 = .ok (.getfield 39, 3) := by decide +kernel
theorem dX6_begins_77 : decode cX6_begins 77 = .ok (.iconst 4, 1) := by decide +kernel
theorem dX6_begins_78 : decode cX6_begins 78 = .ok (.iload_n 1, 1) := by decide +kernel
theorem dX6_begins_79 : decode cX6_begins 79 = .ok (.imul, 1) := by decide +kernel
theorem dX6_begins_80 : decode cX6_begins 80 = .ok (.iload_n 2, 1) := by decide +kernel
theorem dX6_begins_81 : decode cX6_begins 81 = .ok (.iadd, 1) := by decide +kernel
theorem dX6_begins_82 : decode cX6_begins 82 = .ok (.iaload, 1) := by decide +kernel
theorem dX6_begins_83 : decode cX6_begins 83 = .ok (.bipush 100, 2) := by decide +kernel
theorem dX6_begins_85 : decode cX6_begins 85 = .ok (.if_icmp .ge 33, 3) := by decide +kernel
theorem dX6_begins_88 : decode cX6_begins 88 = .ok (.aload_n 0, 1) := by decide +kernel
theorem dX6_begins_89 : decode cX6_begins 89 = .ok (.getfield 45, 3) := by decide +kernel
theorem dX6_begins_92 : decode cX6_begins 92 = .ok (.bipush 13, 2) := by decide +kernel
theorem dX6_begins_94 : decode cX6_begins 94 = .ok (.iload_n 1, 1) := by decide +kernel
theorem dX6_begins_95 : decode cX6_begins 95 = .ok (.imul, 1) := by decide +kernel
theorem dX6_begins_96 : decode cX6_begins 96 = .ok (.aload_n 0, 1) := by decide +kernel
theorem dX6_begins_97 : decode cX6_begins 97 = .ok (.getfield 39, 3) := by decide +kernel
theorem dX6_begins_100 : decode cX6_begins 100 = .ok (.iconst 4, 1) := by decide +kernel
theorem dX6_begins_101 : decode cX6_begins 101 = .ok (.iload_n 1, 1) := by decide +kernel
theorem dX6_begins_102 : decode cX6_begins 102 = .ok (.imul, 1) := by decide +kernel
theorem dX6_begins_103 : decode cX6_begins 103 = .ok (.iload_n 2, 1) := by decide +kernel
theorem dX6_begins_104 : decode cX6_begins 104 = .ok (.iadd, 1) := by decide +kernel
theorem dX6_begins_105 : decode cX6_begins 105 = .ok (.iaload, 1) := by decide +kernel
theorem dX6_begins_106 : decode cX6_begins 106 = .ok (.iadd, 1) := by decide +kernel
theorem dX6_begins_107 : decode cX6_begins 107 = .ok (.dup2, 1) := by decide +kernel
theorem dX6_begins_108 : decode cX6_begins 108 = .ok (.laload, 1) := by decide +kernel
theorem dX6_begins_109 : decode cX6_begins 109 = .ok (.aload_n 0, 1) := by decide +kernel
theorem dX6_begins_110 : decode cX6_begins 110 = .ok (.getfield 16, 3) := by decide +kernel
theorem dX6_begins_113 : decode cX6_begins 113 = .ok (.iload_n 2, 1) := by decide +kernel
theorem dX6_begins_114 : decode cX6_begins 114 = .ok (.iaload, 1) := by decide +kernel
theorem dX6_begins_115 : decode cX6_begins 115 = .ok (.i2l, 1) := by decide +kernel
theorem dX6_begins_116 : decode cX6_begins 116 = .ok (.lsub, 1) := by decide +kernel
theorem dX6_begins_117 : decode cX6_begins 117 = .ok (.lastore, 1) := by decide +kernel
theorem dX6_begins_118 : decode cX6_begins 118 = .ok (.iinc 2 1, 3) := by decide +kernel
theorem dX6_begins_121 : decode cX6_begins 121 = .ok (.goto (-56), 3) := by decide +kernel
theorem dX6_begins_124 : decode cX6_begins 124 = .ok (.iinc 1 1, 3) := by decide +kernel
theorem dX6_begins_127 : decode cX6_begins 127 = .ok (.goto (-125), 3) := by decide +kernel
theorem dX6_begins_130 : decode cX6_begins 130 = .ok (.return_, 1) := by decide +kernel
set_option maxRecDepth 20000 in
theorem ggX6_own_X6_set : GoodIn wsX6_own wsX6_set := goodIn_r _ [9, 2, 4, 10, 11, 8, 12, 13, 14, 15, 16, 17, 18, 19, 20, 21, 22, 23, 24, 25, 26, 27, 28, 29, 30, 31, 32, 33, 34, 35, 36, 37, 38] (by decide +kernel) (by decide +kernel)
set_option maxRecDepth 20000 in
theorem gX6_own_X6_set : GoodIn wsX6_own (wsV RX6 112 RX6 yX6_set wsX6_set) := goodIn_app (goodIn_of _ (by decide +kernel)) ggX6_own_X6_set
theorem dX6_own_0 : decode cX6_own 0 = .ok (.aload_n 0, 1) := by decide +kernel
theorem dX6_own_1 : decode cX6_own 1 = .ok (.lload_n 2, 1) := by decide +kernel
theorem dX6_own_2 : decode cX6_own 2 = .ok (.lload 4, 2) := by decide +kernel
theorem dX6_own_4 : decode cX6_own 4 = .ok (.invokevirtual 112, 3) := by decide +kernel
theorem dX6_own_7 : decode cX6_own 7 = .ok (.aload_n 0, 1) := by decide +kernel
theorem dX6_own_8 : decode cX6_own 8 = .ok (.getfield 52, 3) := by decide +kernel
theorem dX6_own_11 : decode cX6_own 11 = .ok (.iload_n 1, 1) := by decide +kernel
theorem dX6_own_12 : decode cX6_own 12 = .ok (.aload_n 0, 1) := by decide +kernel
theorem dX6_own_13 : decode cX6_own 13 = .ok (.getfield 106, 3) := by decide +kernel
theorem dX6_own_16 : decode cX6_own 16 = .ok (.lastore, 1) := by decide +kernel
theorem dX6_own_17 : decode cX6_own 17 = .ok (.aload_n 0, 1) := by decide +kernel
theorem dX6_own_18 : decode cX6_own 18 = .ok (.getfield 55, 3) := by decide +kernel
theorem dX6_own_21 : decode cX6_own 21 = .ok (.iload_n 1, 1) := by decide +kernel
theorem dX6_own_22 : decode cX6_own 22 = .ok (.aload_n 0, 1) := by decide +kernel
theorem dX6_own_23 : decode cX6_own 23 = .ok (.getfield 109, 3) := by decide +kernel
theorem dX6_own_26 : decode cX6_own 26 = .ok (.lastore, 1) := by decide +kernel
theorem dX6_own_27 : decode cX6_own 27 = .ok (.return_, 1) := by decide +kernel
set_option maxRecDepth 20000 in
theorem ggX6_takesOff_X6_times : GoodIn wsX6_takesOff wsX6_times := goodIn_r _ [12, 13, 14, 11, 15, 16, 17, 18, 19, 4, 5, 24, 25, 26, 27, 28, 29, 30, 31, 32, 33, 34, 35, 36, 37, 38, 39, 40, 41, 42, 43, 44, 45, 46, 47, 48, 49] (by decide +kernel) (by decide +kernel)
set_option maxRecDepth 20000 in
theorem gX6_takesOff_X6_times : GoodIn wsX6_takesOff (wsV RX6 147 RX6 yX6_times wsX6_times) := goodIn_app (goodIn_of _ (by decide +kernel)) ggX6_takesOff_X6_times
set_option maxRecDepth 20000 in
theorem ggX6_takesOff_X6_add : GoodIn wsX6_takesOff wsX6_add := goodIn_r _ [23, 13, 14, 11, 15, 16, 17, 18, 19, 4, 5, 24, 25, 26, 27, 28, 29, 30, 31, 32, 33, 34, 35, 36, 37, 38, 39, 40, 41, 42, 43, 44, 45, 46, 47, 48, 49] (by decide +kernel) (by decide +kernel)
set_option maxRecDepth 20000 in
theorem gX6_takesOff_X6_add : GoodIn wsX6_takesOff (wsV RX6 123 RX6 yX6_add wsX6_add) := goodIn_app (goodIn_of _ (by decide +kernel)) ggX6_takesOff_X6_add
theorem dX6_takesOff_0 : decode cX6_takesOff 0 = .ok (.aload_n 0, 1) := by decide +kernel
theorem dX6_takesOff_1 : decode cX6_takesOff 1 = .ok (.getfield 45, 3) := by decide +kernel
theorem dX6_takesOff_4 : decode cX6_takesOff 4 = .ok (.bipush 13, 2) := by decide +kernel
theorem dX6_takesOff_6 : decode cX6_takesOff 6 = .ok (.iload_n 1, 1) := by decide +kernel
theorem dX6_takesOff_7 : decode cX6_takesOff 7 = .ok (.imul, 1) := by decide +kernel
theorem dX6_takesOff_8 : decode cX6_takesOff 8 = .ok (.iload_n 2, 1) := by decide +kernel
theorem dX6_takesOff_9 : decode cX6_takesOff 9 = .ok (.iadd, 1) := by decide +kernel
theorem dX6_takesOff_10 : decode cX6_takesOff 10 = .ok (.laload, 1) := by decide +kernel
theorem dX6_takesOff_11 : decode cX6_takesOff 11 = .ok (.lstore_n 3, 1) := by decide +kernel
theorem dX6_takesOff_12 : decode cX6_takesOff 12 = .ok (.aload_n 0, 1) := by decide +kernel
theorem dX6_takesOff_13 : decode cX6_takesOff 13 = .ok (.getfield 49, 3) := by decide +kernel
theorem dX6_takesOff_16 : decode cX6_takesOff 16 = .ok (.bipush 13, 2) := by decide +kernel
theorem dX6_takesOff_18 : decode cX6_takesOff 18 = .ok (.iload_n 1, 1) := by decide +kernel
theorem dX6_takesOff_19 : decode cX6_takesOff 19 = .ok (.imul, 1) := by decide +kernel
theorem dX6_takesOff_20 : decode cX6_takesOff 20 = .ok (.iload_n 2, 1) := by decide +kernel
theorem dX6_takesOff_21 : decode cX6_takesOff 21 = .ok (.iadd, 1) := by decide +kernel
theorem dX6_takesOff_22 : decode cX6_takesOff 22 = .ok (.laload, 1) := by decide +kernel
theorem dX6_takesOff_23 : decode cX6_takesOff 23 = .ok (.lstore 5, 2) := by decide +kernel
theorem dX6_takesOff_25 : decode cX6_takesOff 25 = .ok (.lload_n 3, 1) := by decide +kernel
theorem dX6_takesOff_26 : decode cX6_takesOff 26 = .ok (.lconst 0, 1) := by decide +kernel
theorem dX6_takesOff_27 : decode cX6_takesOff 27 = .ok (.lcmp, 1) := by decide +kernel
theorem dX6_takesOff_28 : decode cX6_takesOff 28 = .ok (.ifCond .ne 4, 3) := by decide +kernel
theorem dX6_takesOff_31 : decode cX6_takesOff 31 = .ok (.return_, 1) := by decide +kernel
theorem dX6_takesOff_32 : decode cX6_takesOff 32 = .ok (.iload_n 2, 1) := by decide +kernel
theorem dX6_takesOff_33 : decode cX6_takesOff 33 = .ok (.istore 7, 2) := by decide +kernel
theorem dX6_takesOff_35 : decode cX6_takesOff 35 = .ok (.iload 7, 2) := by decide +kernel
theorem dX6_takesOff_37 : decode cX6_takesOff 37 = .ok (.aload_n 0, 1) := by decide +kernel
theorem dX6_takesOff_38 : decode cX6_takesOff 38 = .ok (.getfield 130, 3) := by decide +kernel
theorem dX6_takesOff_41 : decode cX6_takesOff 41 = .ok (.if_icmp .ge 109, 3) := by decide +kernel
theorem dX6_takesOff_44 : decode cX6_takesOff 44 = .ok (.aload_n 0, 1) := by decide +kernel
theorem dX6_takesOff_45 : decode cX6_takesOff 45 = .ok (.lload_n 3, 1) := by decide +kernel
theorem dX6_takesOff_46 : decode cX6_takesOff 46 = .ok (.lneg, 1) := by decide +kernel
theorem dX6_takesOff_47 : decode cX6_takesOff 47 = .ok (.lload 5, 2) := by decide +kernel
theorem dX6_takesOff_49 : decode cX6_takesOff 49 = .ok (.aload_n 0, 1) := by decide +kernel
theorem dX6_takesOff_50 : decode cX6_takesOff 50 = .ok (.getfield 45, 3) := by decide +kernel
theorem dX6_takesOff_53 : decode cX6_takesOff 53 = .ok (.bipush 13, 2) := by decide +kernel
theorem dX6_takesOff_55 : decode cX6_takesOff 55 = .ok (.iload_n 2, 1) := by decide +kernel
theorem dX6_takesOff_56 : decode cX6_takesOff 56 = .ok (.imul, 1) := by decide +kernel
theorem dX6_takesOff_57 : decode cX6_takesOff 57 = .ok (.iload 7, 2) := by decide +kernel
theorem dX6_takesOff_59 : decode cX6_takesOff 59 = .ok (.iadd, 1) := by decide +kernel
theorem dX6_takesOff_60 : decode cX6_takesOff 60 = .ok (.laload, 1) := by decide +kernel
theorem dX6_takesOff_61 : decode cX6_takesOff 61 = .ok (.aload_n 0, 1) := by decide +kernel
theorem dX6_takesOff_62 : decode cX6_takesOff 62 = .ok (.getfield 49, 3) := by decide +kernel
theorem dX6_takesOff_65 : decode cX6_takesOff 65 = .ok (.bipush 13, 2) := by decide +kernel
theorem dX6_takesOff_67 : decode cX6_takesOff 67 = .ok (.iload_n 2, 1) := by decide +kernel
theorem dX6_takesOff_68 : decode cX6_takesOff 68 = .ok (.imul, 1) := by decide +kernel
theorem dX6_takesOff_69 : decode cX6_takesOff 69 = .ok (.iload 7, 2) := by decide +kernel
theorem dX6_takesOff_71 : decode cX6_takesOff 71 = .ok (.iadd, 1) := by decide +kernel
theorem dX6_takesOff_72 : decode cX6_takesOff 72 = .ok (.laload, 1) := by decide +kernel
theorem dX6_takesOff_73 : decode cX6_takesOff 73 = .ok (.invokevirtual 147, 3) := by decide +kernel
theorem dX6_takesOff_76 : decode cX6_takesOff 76 = .ok (.aload_n 0, 1) := by decide +kernel
theorem dX6_takesOff_77 : decode cX6_takesOff 77 = .ok (.aload_n 0, 1) := by decide +kernel
theorem dX6_takesOff_78 : decode cX6_takesOff 78 = .ok (.getfield 45, 3) := by decide +kernel
theorem dX6_takesOff_81 : decode cX6_takesOff 81 = .ok (.bipush 13, 2) := by decide +kernel
theorem dX6_takesOff_83 : decode cX6_takesOff 83 = .ok (.iload_n 1, 1) := by decide +kernel
theorem dX6_takesOff_84 : decode cX6_takesOff 84 = .ok (.imul, 1) := by decide +kernel
theorem dX6_takesOff_85 : decode cX6_takesOff 85 = .ok (.iload 7, 2) := by decide +kernel
theorem dX6_takesOff_87 : decode cX6_takesOff 87 = .ok (.iadd, 1) := by decide +kernel
theorem dX6_takesOff_88 : decode cX6_takesOff 88 = .ok (.laload, 1) := by decide +kernel
theorem dX6_takesOff_89 : decode cX6_takesOff 89 = .ok (.aload_n 0, 1) := by decide +kernel
theorem dX6_takesOff_90 : decode cX6_takesOff 90 = .ok (.getfield 49, 3) := by decide +kernel
theorem dX6_takesOff_93 : decode cX6_takesOff 93 = .ok (.bipush 13, 2) := by decide +kernel
theorem dX6_takesOff_95 : decode cX6_takesOff 95 = .ok (.iload_n 1, 1) := by decide +kernel
theorem dX6_takesOff_96 : decode cX6_takesOff 96 = .ok (.imul, 1) := by decide +kernel
theorem dX6_takesOff_97 : decode cX6_takesOff 97 = .ok (.iload 7, 2) := by decide +kernel
theorem dX6_takesOff_99 : decode cX6_takesOff 99 = .ok (.iadd, 1) := by decide +kernel
theorem dX6_takesOff_100 : decode cX6_takesOff 100 = .ok (.laload, 1) := by decide +kernel
theorem dX6_takesOff_101 : decode cX6_takesOff 101 = .ok (.aload_n 0, 1) := by decide +kernel
theorem dX6_takesOff_102 : decode cX6_takesOff 102 = .ok (.getfield 106, 3) := by decide +kernel
theorem dX6_takesOff_105 : decode cX6_takesOff 105 = .ok (.aload_n 0, 1) := by decide +kernel
theorem dX6_takesOff_106 : decode cX6_takesOff 106 = .ok (.getfield 109, 3) := by decide +kernel
theorem dX6_takesOff_109 : decode cX6_takesOff 109 = .ok (.invokevirtual 123, 3) := by decide +kernel
theorem dX6_takesOff_112 : decode cX6_takesOff 112 = .ok (.aload_n 0, 1) := by decide +kernel
theorem dX6_takesOff_113 : decode cX6_takesOff 113 = .ok (.getfield 45, 3) := by decide +kernel
theorem dX6_takesOff_116 : decode cX6_takesOff 116 = .ok (.bipush 13, 2) := by decide +kernel
theorem dX6_takesOff_118 : decode cX6_takesOff 118 = .ok (.iload_n 1, 1) := by decide +kernel
theorem dX6_takesOff_119 : decode cX6_takesOff 119 = .ok (.imul, 1) := by decide +kernel
theorem dX6_takesOff_120 : decode cX6_takesOff 120 = .ok (.iload 7, 2) := by decide +kernel
theorem dX6_takesOff_122 : decode cX6_takesOff 122 = .ok (.iadd, 1) := by decide +kernel
theorem dX6_takesOff_123 : decode cX6_takesOff 123 = .ok (.aload_n 0, 1) := by decide +kernel
theorem dX6_takesOff_124 : decode cX6_takesOff 124 = .ok (.getfield 106, 3) := by decide +kernel
theorem dX6_takesOff_127 : decode cX6_takesOff 127 = .ok (.lastore, 1) := by decide +kernel
theorem dX6_takesOff_128 : decode cX6_takesOff 128 = .ok (.aload_n 0, 1) := by decide +kernel
theorem dX6_takesOff_129 : decode cX6_takesOff 129 = .ok (.getfield 49, 3) := by decide +kernel
theorem dX6_takesOff_132 : decode cX6_takesOff 132 = .ok (.bipush 13, 2) := by decide +kernel
theorem dX6_takesOff_134 : decode cX6_takesOff 134 = .ok (.iload_n 1, 1) := by decide +kernel
theorem dX6_takesOff_135 : decode cX6_takesOff 135 = .ok (.imul, 1) := by decide +kernel
theorem dX6_takesOff_136 : decode cX6_takesOff 136 = .ok (.iload 7, 2) := by decide +kernel
theorem dX6_takesOff_138 : decode cX6_takesOff 138 = .ok (.iadd, 1) := by decide +kernel
theorem dX6_takesOff_139 : decode cX6_takesOff 139 = .ok (.aload_n 0, 1) := by decide +kernel
theorem dX6_takesOff_140 : decode cX6_takesOff 140 = .ok (.getfield 109, 3) := by decide +kernel
theorem dX6_takesOff_143 : decode cX6_takesOff 143 = .ok (.lastore, 1) := by decide +kernel
theorem dX6_takesOff_144 : decode cX6_takesOff 144 = .ok (.iinc 7 1, 3) := by decide +kernel
theorem dX6_takesOff_147 : decode cX6_takesOff 147 = .ok (.goto (-112), 3) := by decide +kernel
theorem dX6_takesOff_150 : decode cX6_takesOff 150 = .ok (.aload_n 0, 1) := by decide +kernel
theorem dX6_takesOff_151 : decode cX6_takesOff 151 = .ok (.lload_n 3, 1) := by decide +kernel
theorem dX6_takesOff_152 : decode cX6_takesOff 152 = .ok (.lneg, 1) := by decide +kernel
theorem dX6_takesOff_153 : decode cX6_takesOff 153 = .ok (.lload 5, 2) := by decide +kernel
theorem dX6_takesOff_155 : decode cX6_takesOff 155 = .ok (.aload_n 0, 1) := by decide +kernel
theorem dX6_takesOff_156 : decode cX6_takesOff 156 = .ok (.getfield 52, 3) := by decide +kernel
theorem dX6_takesOff_159 : decode cX6_takesOff 159 = .ok (.iload_n 2, 1) := by decide +kernel
theorem dX6_takesOff_160 : decode cX6_takesOff 160 = .ok (.laload, 1) := by decide +kernel
theorem dX6_takesOff_161 : decode cX6_takesOff 161 = .ok (.aload_n 0, 1) := by decide +kernel
theorem dX6_takesOff_162 : decode cX6_takesOff 162 = .ok (.getfield 55, 3) := by decide +kernel
theorem dX6_takesOff_165 : decode cX6_takesOff 165 = .ok (.iload_n 2, 1) := by decide +kernel
theorem dX6_takesOff_166 : decode cX6_takesOff 166 = .ok (.laload, 1) := by decide +kernel
theorem dX6_takesOff_167 : decode cX6_takesOff 167 = .ok (.invokevirtual 147, 3) := by decide +kernel
theorem dX6_takesOff_170 : decode cX6_takesOff 170 = .ok (.aload_n 0, 1) := by decide +kernel
theorem dX6_takesOff_171 : decode cX6_takesOff 171 = .ok (.aload_n 0, 1) := by decide +kernel
theorem dX6_takesOff_172 : decode cX6_takesOff 172 = .ok (.getfield 52, 3) := by decide +kernel
theorem dX6_takesOff_175 : decode cX6_takesOff 175 = .ok (.iload_n 1, 1) := by decide +kernel
theorem dX6_takesOff_176 : decode cX6_takesOff 176 = .ok (.laload, 1) := by decide +kernel
theorem dX6_takesOff_177 : decode cX6_takesOff 177 = .ok (.aload_n 0, 1) := by decide +kernel
theorem dX6_takesOff_178 : decode cX6_takesOff 178 = .ok (.getfield 55, 3) := by decide +kernel
theorem dX6_takesOff_181 : decode cX6_takesOff 181 = .ok (.iload_n 1, 1) := by decide +kernel
theorem dX6_takesOff_182 : decode cX6_takesOff 182 = .ok (.laload, 1) := by decide +kernel
theorem dX6_takesOff_183 : decode cX6_takesOff 183 = .ok (.aload_n 0, 1) := by decide +kernel
theorem dX6_takesOff_184 : decode cX6_takesOff 184 = .ok (.getfield 106, 3) := by decide +kernel
theorem dX6_takesOff_187 : decode cX6_takesOff 187 = .ok (.aload_n 0, 1) := by decide +kernel
theorem dX6_takesOff_188 : decode cX6_takesOff 188 = .ok (.getfield 109, 3) := by decide +kernel
theorem dX6_takesOff_191 : decode cX6_takesOff 191 = .ok (.invokevirtual 123, 3) := by decide +kernel
theorem dX6_takesOff_194 : decode cX6_takesOff 194 = .ok (.aload_n 0, 1) := by decide +kernel
theorem dX6_takesOff_195 : decode cX6_takesOff 195 = .ok (.getfield 52, 3) := by decide +kernel
theorem dX6_takesOff_198 : decode cX6_takesOff 198 = .ok (.iload_n 1, 1) := by decide +kernel
theorem dX6_takesOff_199 : decode cX6_takesOff 199 = .ok (.aload_n 0, 1) := by decide +kernel
theorem dX6_takesOff_200 : decode cX6_takesOff 200 = .ok (.getfield 106, 3) := by decide +kernel
theorem dX6_takesOff_203 : decode cX6_takesOff 203 = .ok (.lastore, 1) := by decide +kernel
theorem dX6_takesOff_204 : decode cX6_takesOff 204 = .ok (.aload_n 0, 1) := by decide +kernel
theorem dX6_takesOff_205 : decode cX6_takesOff 205 = .ok (.getfield 55, 3) := by decide +kernel
theorem dX6_takesOff_208 : decode cX6_takesOff 208 = .ok (.iload_n 1, 1) := by decide +kernel
theorem dX6_takesOff_209 : decode cX6_takesOff 209 = .ok (.aload_n 0, 1) := by decide +kernel
theorem dX6_takesOff_210 : decode cX6_takesOff 210 = .ok (.getfield 109, 3) := by decide +kernel
theorem dX6_takesOff_213 : decode cX6_takesOff 213 = .ok (.lastore, 1) := by decide +kernel
theorem dX6_takesOff_214 : decode cX6_takesOff 214 = .ok (.return_, 1) := by decide +kernel
set_option maxRecDepth 20000 in
theorem ggX6_solves_X6_times : GoodIn wsX6_solves wsX6_times := goodIn_r _ [12, 13, 14, 11, 15, 16, 17, 18, 19, 4, 5, 28, 29, 30, 31, 32, 33, 34, 35, 36, 37, 38, 39, 40, 41, 42, 43, 44, 45, 46, 47, 48, 49, 50, 51, 52, 53] (by decide +kernel) (by decide +kernel)
set_option maxRecDepth 20000 in
theorem gX6_solves_X6_times : GoodIn wsX6_solves (wsV RX6 147 RX6 yX6_times wsX6_times) := goodIn_app (goodIn_of _ (by decide +kernel)) ggX6_solves_X6_times
set_option maxRecDepth 20000 in
theorem ggX6_solves_X6_takesOff : GoodIn wsX6_solves wsX6_takesOff := goodIn_r _ [23, 2, 3, 1, 4, 5, 6, 7, 8, 9, 10, 11, 12, 13, 14, 15, 16, 17, 18, 19, 24, 25, 26, 27, 28, 29, 30, 31, 32, 33, 34, 35, 36, 37, 38, 39, 40, 41, 42, 43, 44, 45, 46, 47, 48, 49, 50, 51, 52, 53] (by decide +kernel) (by decide +kernel)
set_option maxRecDepth 20000 in
theorem gX6_solves_X6_takesOff : GoodIn wsX6_solves (wsV RX6 150 RX6 yX6_takesOff wsX6_takesOff) := goodIn_app (goodIn_of _ (by decide +kernel)) ggX6_solves_X6_takesOff
theorem dX6_solves_0 : decode cX6_solves 0 = .ok (.iconst 0, 1) := by decide +kernel
theorem dX6_solves_1 : decode cX6_solves 1 = .ok (.istore_n 1, 1) := by decide +kernel
theorem dX6_solves_2 : decode cX6_solves 2 = .ok (.iload_n 1, 1) := by decide +kernel
theorem dX6_solves_3 : decode cX6_solves 3 = .ok (.aload_n 0, 1) := by decide +kernel
theorem dX6_solves_4 : decode cX6_solves 4 = .ok (.getfield 130, 3) := by decide +kernel
theorem dX6_solves_7 : decode cX6_solves 7 = .ok (.if_icmp .ge 185, 3) := by decide +kernel
theorem dX6_solves_10 : decode cX6_solves 10 = .ok (.aload_n 0, 1) := by decide +kernel
theorem dX6_solves_11 : decode cX6_solves 11 = .ok (.getfield 45, 3) := by decide +kernel
theorem dX6_solves_14 : decode cX6_solves 14 = .ok (.bipush 13, 2) := by decide +kernel
theorem dX6_solves_16 : decode cX6_solves 16 = .ok (.iload_n 1, 1) := by decide +kernel
theorem dX6_solves_17 : decode cX6_solves 17 = .ok (.imul, 1) := by decide +kernel
theorem dX6_solves_18 : decode cX6_solves 18 = .ok (.iload_n 1, 1) := by decide +kernel
theorem dX6_solves_19 : decode cX6_solves 19 = .ok (.iadd, 1) := by decide +kernel
theorem dX6_solves_20 : decode cX6_solves 20 = .ok (.laload, 1) := by decide +kernel
theorem dX6_solves_21 : decode cX6_solves 21 = .ok (.lstore_n 2, 1) := by decide +kernel
theorem dX6_solves_22 : decode cX6_solves 22 = .ok (.aload_n 0, 1) := by decide +kernel
theorem dX6_solves_23 : decode cX6_solves 23 = .ok (.getfield 49, 3) := by decide +kernel
theorem dX6_solves_26 : decode cX6_solves 26 = .ok (.bipush 13, 2) := by decide +kernel
theorem dX6_solves_28 : decode cX6_solves 28 = .ok (.iload_n 1, 1) := by decide +kernel
theorem dX6_solves_29 : decode cX6_solves 29 = .ok (.imul, 1) := by decide +kernel
theorem dX6_solves_30 : decode cX6_solves 30 = .ok (.iload_n 1, 1) := by decide +kernel
theorem dX6_solves_31 : decode cX6_solves 31 = .ok (.iadd, 1) := by decide +kernel
theorem dX6_solves_32 : decode cX6_solves 32 = .ok (.laload, 1) := by decide +kernel
theorem dX6_solves_33 : decode cX6_solves 33 = .ok (.lstore 4, 2) := by decide +kernel
theorem dX6_solves_35 : decode cX6_solves 35 = .ok (.iload_n 1, 1) := by decide +kernel
theorem dX6_solves_36 : decode cX6_solves 36 = .ok (.istore 6, 2) := by decide +kernel
theorem dX6_solves_38 : decode cX6_solves 38 = .ok (.iload 6, 2) := by decide +kernel
theorem dX6_solves_40 : decode cX6_solves 40 = .ok (.aload_n 0, 1) := by decide +kernel
theorem dX6_solves_41 : decode cX6_solves 41 = .ok (.getfield 130, 3) := by decide +kernel
theorem dX6_solves_44 : decode cX6_solves 44 = .ok (.if_icmp .ge 72, 3) := by decide +kernel
theorem dX6_solves_47 : decode cX6_solves 47 = .ok (.aload_n 0, 1) := by decide +kernel
theorem dX6_solves_48 : decode cX6_solves 48 = .ok (.aload_n 0, 1) := by decide +kernel
theorem dX6_solves_49 : decode cX6_solves 49 = .ok (.getfield 45, 3) := by decide +kernel
theorem dX6_solves_52 : decode cX6_solves 52 = .ok (.bipush 13, 2) := by decide +kernel
theorem dX6_solves_54 : decode cX6_solves 54 = .ok (.iload_n 1, 1) := by decide +kernel
theorem dX6_solves_55 : decode cX6_solves 55 = .ok (.imul, 1) := by decide +kernel
theorem dX6_solves_56 : decode cX6_solves 56 = .ok (.iload 6, 2) := by decide +kernel
theorem dX6_solves_58 : decode cX6_solves 58 = .ok (.iadd, 1) := by decide +kernel
theorem dX6_solves_59 : decode cX6_solves 59 = .ok (.laload, 1) := by decide +kernel
theorem dX6_solves_60 : decode cX6_solves 60 = .ok (.aload_n 0, 1) := by decide +kernel
theorem dX6_solves_61 : decode cX6_solves 61 = .ok (.getfield 49, 3) := by decide +kernel
theorem dX6_solves_64 : decode cX6_solves 64 = .ok (.bipush 13, 2) := by decide +kernel
theorem dX6_solves_66 : decode cX6_solves 66 = .ok (.iload_n 1, 1) := by decide +kernel
theorem dX6_solves_67 : decode cX6_solves 67 = .ok (.imul, 1) := by decide +kernel
theorem dX6_solves_68 : decode cX6_solves 68 = .ok (.iload 6, 2) := by decide +kernel
theorem dX6_solves_70 : decode cX6_solves 70 = .ok (.iadd, 1) := by decide +kernel
theorem dX6_solves_71 : decode cX6_solves 71 = .ok (.laload, 1) := by decide +kernel
theorem dX6_solves_72 : decode cX6_solves 72 = .ok (.lload 4, 2) := by decide +kernel
theorem dX6_solves_74 : decode cX6_solves 74 = .ok (.lload_n 2, 1) := by decide +kernel
theorem dX6_solves_75 : decode cX6_solves 75 = .ok (.invokevirtual 147, 3) := by decide +kernel
theorem dX6_solves_78 : decode cX6_solves 78 = .ok (.aload_n 0, 1) := by decide +kernel
theorem dX6_solves_79 : decode cX6_solves 79 = .ok (.getfield 45, 3) := by decide +kernel
theorem dX6_solves_82 : decode cX6_solves 82 = .ok (.bipush 13, 2) := by decide +kernel
theorem dX6_solves_84 : decode cX6_solves 84 = .ok (.iload_n 1, 1) := by decide +kernel
theorem dX6_solves_85 : decode cX6_solves 85 = .ok (.imul, 1) := by decide +kernel
theorem dX6_solves_86 : decode cX6_solves 86 = .ok (.iload 6, 2) := by decide +kernel
theorem dX6_solves_88 : decode cX6_solves 88 = .ok (.iadd, 1) := by decide +kernel
theorem dX6_solves_89 : decode cX6_solves 89 = .ok (.aload_n 0, 1) := by decide +kernel
theorem dX6_solves_90 : decode cX6_solves 90 = .ok (.getfield 106, 3) := by decide +kernel
theorem dX6_solves_93 : decode cX6_solves 93 = .ok (.lastore, 1) := by decide +kernel
theorem dX6_solves_94 : decode cX6_solves 94 = .ok (.aload_n 0, 1) := by decide +kernel
theorem dX6_solves_95 : decode cX6_solves 95 = .ok (.getfield 49, 3) := by decide +kernel
theorem dX6_solves_98 : decode cX6_solves 98 = .ok (.bipush 13, 2) := by decide +kernel
theorem dX6_solves_100 : decode cX6_solves 100 = .ok (.iload_n 1, 1) := by decide +kernel
theorem dX6_solves_101 : decode cX6_solves 101 = .ok (.imul, 1) := by decide +kernel
theorem dX6_solves_102 : decode cX6_solves 102 = .ok (.iload 6, 2) := by decide +kernel
theorem dX6_solves_104 : decode cX6_solves 104 = .ok (.iadd, 1) := by decide +kernel
theorem dX6_solves_105 : decode cX6_solves 105 = .ok (.aload_n 0, 1) := by decide +kernel
theorem dX6_solves_106 : decode cX6_solves 106 = .ok (.getfield 109, 3) := by decide +kernel
theorem dX6_solves_109 : decode cX6_solves 109 = .ok (.lastore, 1) := by decide +kernel
theorem dX6_solves_110 : decode cX6_solves 110 = .ok (.iinc 6 1, 3) := by decide +kernel
theorem dX6_solves_113 : decode cX6_solves 113 = .ok (.goto (-75), 3) := by decide +kernel
theorem dX6_solves_116 : decode cX6_solves 116 = .ok (.aload_n 0, 1) := by decide +kernel
theorem dX6_solves_117 : decode cX6_solves 117 = .ok (.aload_n 0, 1) := by decide +kernel
theorem dX6_solves_118 : decode cX6_solves 118 = .ok (.getfield 52, 3) := by decide +kernel
theorem dX6_solves_121 : decode cX6_solves 121 = .ok (.iload_n 1, 1) := by decide +kernel
theorem dX6_solves_122 : decode cX6_solves 122 = .ok (.laload, 1) := by decide +kernel
theorem dX6_solves_123 : decode cX6_solves 123 = .ok (.aload_n 0, 1) := by decide +kernel
theorem dX6_solves_124 : decode cX6_solves 124 = .ok (.getfield 55, 3) := by decide +kernel
theorem dX6_solves_127 : decode cX6_solves 127 = .ok (.iload_n 1, 1) := by decide +kernel
theorem dX6_solves_128 : decode cX6_solves 128 = .ok (.laload, 1) := by decide +kernel
theorem dX6_solves_129 : decode cX6_solves 129 = .ok (.lload 4, 2) := by decide +kernel
theorem dX6_solves_131 : decode cX6_solves 131 = .ok (.lload_n 2, 1) := by decide +kernel
theorem dX6_solves_132 : decode cX6_solves 132 = .ok (.invokevirtual 147, 3) := by decide +kernel
theorem dX6_solves_135 : decode cX6_solves 135 = .ok (.aload_n 0, 1) := by decide +kernel
theorem dX6_solves_136 : decode cX6_solves 136 = .ok (.getfield 52, 3) := by decide +kernel
theorem dX6_solves_139 : decode cX6_solves 139 = .ok (.iload_n 1, 1) := by decide +kernel
theorem dX6_solves_140 : decode cX6_solves 140 = .ok (.aload_n 0, 1) := by decide +kernel
theorem dX6_solves_141 : decode cX6_solves 141 = .ok (.getfield 106, 3) := by decide +kernel
theorem dX6_solves_144 : decode cX6_solves 144 = .ok (.lastore, 1) := by decide +kernel
theorem dX6_solves_145 : decode cX6_solves 145 = .ok (.aload_n 0, 1) := by decide +kernel
theorem dX6_solves_146 : decode cX6_solves 146 = .ok (.getfield 55, 3) := by decide +kernel
theorem dX6_solves_149 : decode cX6_solves 149 = .ok (.iload_n 1, 1) := by decide +kernel
theorem dX6_solves_150 : decode cX6_solves 150 = .ok (.aload_n 0, 1) := by decide +kernel
theorem dX6_solves_151 : decode cX6_solves 151 = .ok (.getfield 109, 3) := by decide +kernel
theorem dX6_solves_154 : decode cX6_solves 154 = .ok (.lastore, 1) := by decide +kernel
theorem dX6_solves_155 : decode cX6_solves 155 = .ok (.iconst 0, 1) := by decide +kernel
theorem dX6_solves_156 : decode cX6_solves 156 = .ok (.istore 6, 2) := by decide +kernel
theorem dX6_solves_158 : decode cX6_solves 158 = .ok (.iload 6, 2) := by decide +kernel
theorem dX6_solves_160 : decode cX6_solves 160 = .ok (.aload_n 0, 1) := by decide +kernel
theorem dX6_solves_161 : decode cX6_solves 161 = .ok (.getfield 130, 3) := by decide +kernel
theorem dX6_solves_164 : decode cX6_solves 164 = .ok (.if_icmp .ge 22, 3) := by decide +kernel
theorem dX6_solves_167 : decode cX6_solves 167 = .ok (.iload 6, 2) := by decide +kernel
theorem dX6_solves_169 : decode cX6_solves 169 = .ok (.iload_n 1, 1) := by decide +kernel
theorem dX6_solves_170 : decode cX6_solves 170 = .ok (.if_icmp .eq 10, 3) := by decide +kernel
theorem dX6_solves_173 : decode cX6_solves 173 = .ok (.aload_n 0, 1) := by decide +kernel
theorem dX6_solves_174 : decode cX6_solves 174 = .ok (.iload 6, 2) := by decide +kernel
theorem dX6_solves_176 : decode cX6_solves 176 = .ok (.iload_n 1, 1) := by decide +kernel
theorem dX6_solves_177 : decode cX6_solves 177 = .ok (.invokevirtual 150, 3) := by decide +kernel
theorem dX6_solves_180 : decode cX6_solves 180 = .ok (.iinc 6 1, 3) := by decide +kernel
theorem dX6_solves_183 : decode cX6_solves 183 = .ok (.goto (-25), 3) := by decide +kernel
theorem dX6_solves_186 : decode cX6_solves 186 = .ok (.iinc 1 1, 3) := by decide +kernel
theorem dX6_solves_189 : decode cX6_solves 189 = .ok (.goto (-187), 3) := by decide +kernel
theorem dX6_solves_192 : decode cX6_solves 192 = .ok (.return_, 1) := by decide +kernel
set_option maxRecDepth 20000 in
theorem ggX6_means_X6_makes : GoodIn wsX6_means wsX6_makes := goodIn_r _ [7, 1, 8, 9, 10, 11, 12, 13, 14, 15, 6, 16, 17, 18, 19, 20, 21, 22, 23, 24, 25, 26, 27, 28, 29, 30, 31, 32, 33, 34, 73, 74, 75, 76, 77, 78, 79, 80, 81, 82, 83, 84, 85, 86, 87, 88, 89, 90, 91, 92, 93, 94, 95, 96, 97, 98] (by decide +kernel) (by decide +kernel)
set_option maxRecDepth 20000 in
theorem gX6_means_X6_makes : GoodIn wsX6_means (wsV RX6 153 RX6 yX6_makes wsX6_makes) := goodIn_app (goodIn_of _ (by decide +kernel)) ggX6_means_X6_makes
set_option maxRecDepth 20000 in
theorem ggX6_means_X6_begins : GoodIn wsX6_means wsX6_begins := goodIn_r _ [38, 1, 39, 2, 40, 11, 12, 41, 73, 74, 75, 76, 77, 78, 79, 80, 81, 82, 83, 84, 85, 86, 87, 88, 89, 90, 91, 92, 93, 94, 95, 96, 97, 98] (by decide +kernel) (by decide +kernel)
set_option maxRecDepth 20000 in
theorem gX6_means_X6_begins : GoodIn wsX6_means (wsV RX6 157 RX6 yX6_begins wsX6_begins) := goodIn_app (goodIn_of _ (by decide +kernel)) ggX6_means_X6_begins
set_option maxRecDepth 20000 in
theorem ggX6_means_X6_own : GoodIn wsX6_means wsX6_own := goodIn_r _ [45, 46, 47, 48, 49, 50, 51, 52, 6, 53, 54, 55, 56, 73, 74, 75, 76, 77, 78, 79, 80, 81, 82, 83, 84, 85, 86, 87, 88, 89, 90, 91, 92, 93, 94, 95, 96, 97, 98] (by decide +kernel) (by decide +kernel)
set_option maxRecDepth 20000 in
theorem gX6_means_X6_own : GoodIn wsX6_means (wsV RX6 160 RX6 yX6_own wsX6_own) := goodIn_app (goodIn_of _ (by decide +kernel)) ggX6_means_X6_own
set_option maxRecDepth 20000 in
theorem ggX6_means_X6_solves : GoodIn wsX6_means wsX6_solves := goodIn_r _ [60, 1, 39, 40, 47, 49, 46, 48, 61, 62, 63, 6, 64, 54, 55, 56, 50, 51, 52, 53, 65, 66, 67, 68, 69, 70, 71, 72, 73, 74, 75, 76, 77, 78, 79, 80, 81, 82, 83, 84, 85, 86, 87, 88, 89, 90, 91, 92, 93, 94, 95, 96, 97, 98] (by decide +kernel) (by decide +kernel)
set_option maxRecDepth 20000 in
theorem gX6_means_X6_solves : GoodIn wsX6_means (wsV RX6 164 RX6 yX6_solves wsX6_solves) := goodIn_app (goodIn_of _ (by decide +kernel)) ggX6_means_X6_solves
theorem dX6_means_0 : decode cX6_means 0 = .ok (.aload_n 0, 1) := by decide +kernel
theorem dX6_means_1 : decode cX6_means 1 = .ok (.iload_n 1, 1) := by decide +kernel
theorem dX6_means_2 : decode cX6_means 2 = .ok (.invokevirtual 153, 3) := by decide +kernel
theorem dX6_means_5 : decode cX6_means 5 = .ok (.aload_n 0, 1) := by decide +kernel
theorem dX6_means_6 : decode cX6_means 6 = .ok (.invokevirtual 157, 3) := by decide +kernel
theorem dX6_means_9 : decode cX6_means 9 = .ok (.iconst 0, 1) := by decide +kernel
theorem dX6_means_10 : decode cX6_means 10 = .ok (.istore_n 2, 1) := by decide +kernel
theorem dX6_means_11 : decode cX6_means 11 = .ok (.iload_n 2, 1) := by decide +kernel
theorem dX6_means_12 : decode cX6_means 12 = .ok (.aload_n 0, 1) := by decide +kernel
theorem dX6_means_13 : decode cX6_means 13 = .ok (.getfield 130, 3) := by decide +kernel
theorem dX6_means_16 : decode cX6_means 16 = .ok (.if_icmp .ge 20, 3) := by decide +kernel
theorem dX6_means_19 : decode cX6_means 19 = .ok (.aload_n 0, 1) := by decide +kernel
theorem dX6_means_20 : decode cX6_means 20 = .ok (.iload_n 2, 1) := by decide +kernel
theorem dX6_means_21 : decode cX6_means 21 = .ok (.aload_n 0, 1) := by decide +kernel
theorem dX6_means_22 : decode cX6_means 22 = .ok (.getfield 13, 3) := by decide +kernel
theorem dX6_means_25 : decode cX6_means 25 = .ok (.i2l, 1) := by decide +kernel
theorem dX6_means_26 : decode cX6_means 26 = .ok (.lconst 1, 1) := by decide +kernel
theorem dX6_means_27 : decode cX6_means 27 = .ok (.invokevirtual 160, 3) := by decide +kernel
theorem dX6_means_30 : decode cX6_means 30 = .ok (.iinc 2 1, 3) := by decide +kernel
theorem dX6_means_33 : decode cX6_means 33 = .ok (.goto (-22), 3) := by decide +kernel
theorem dX6_means_36 : decode cX6_means 36 = .ok (.aload_n 0, 1) := by decide +kernel
theorem dX6_means_37 : decode cX6_means 37 = .ok (.invokevirtual 164, 3) := by decide +kernel
theorem dX6_means_40 : decode cX6_means 40 = .ok (.return_, 1) := by decide +kernel
set_option maxRecDepth 20000 in
theorem ggX6_wait_X6_isWord : GoodIn wsX6_wait wsX6_isWord := goodIn_r _ [17, 18, 19, 20, 16, 21, 93, 94, 95, 96, 97, 98, 99, 100, 101, 102, 103, 104, 105, 106, 107, 108, 109, 110, 111, 112, 113, 114, 115, 116, 117, 118] (by decide +kernel) (by decide +kernel)
set_option maxRecDepth 20000 in
theorem gX6_wait_X6_isWord : GoodIn wsX6_wait (wsV RX6 83 RX6 yX6_isWord wsX6_isWord) := goodIn_app (goodIn_of _ (by decide +kernel)) ggX6_wait_X6_isWord
set_option maxRecDepth 20000 in
theorem ggX6_wait_X6_isIn : GoodIn wsX6_wait wsX6_isIn := goodIn_r _ [21] (by decide +kernel) (by decide +kernel)
set_option maxRecDepth 20000 in
theorem gX6_wait_X6_isIn : GoodIn wsX6_wait (va_wsS RX6 79 yX6_isIn wsX6_isIn) := goodIn_app (goodIn_of _ (by decide +kernel)) ggX6_wait_X6_isIn
set_option maxRecDepth 20000 in
theorem ggX6_wait_X6_means : GoodIn wsX6_wait wsX6_means := goodIn_r _ [25, 3, 6, 26, 27, 28, 16, 29, 18, 30, 31, 7, 8, 32, 33, 34, 35, 36, 37, 38, 39, 40, 41, 42, 43, 44, 45, 46, 47, 48, 49, 50, 51, 52, 53, 54, 55, 56, 57, 58, 59, 10, 60, 61, 62, 63, 1, 11, 2, 12, 64, 65, 66, 67, 68, 69, 70, 71, 72, 73, 74, 75, 76, 77, 78, 79, 80, 81, 82, 83, 84, 85, 86, 93, 94, 95, 96, 97, 98, 99, 100, 101, 102, 103, 104, 105, 106, 107, 108, 109, 110, 111, 112, 113, 114, 115, 116, 117, 118] (by decide +kernel) (by decide +kernel)
set_option maxRecDepth 20000 in
theorem gX6_wait_X6_means : GoodIn wsX6_wait (wsV RX6 167 RX6 yX6_means wsX6_means) := goodIn_app (goodIn_of _ (by decide +kernel)) ggX6_wait_X6_means
set_option maxRecDepth 20000 in
theorem ggX6_wait_X6_atHand : GoodIn wsX6_wait wsX6_atHand := goodIn_r _ [90, 11, 91, 12, 92, 64, 65, 66, 16, 67, 68, 69, 70, 93, 94, 95, 96, 97, 98, 99, 100, 101, 102, 103, 104, 105, 106, 107, 108, 109, 110, 111, 112, 113, 114, 115, 116, 117, 118] (by decide +kernel) (by decide +kernel)
set_option maxRecDepth 20000 in
theorem gX6_wait_X6_atHand : GoodIn wsX6_wait (wsV RX6 127 RX6 yX6_atHand wsX6_atHand) := goodIn_app (goodIn_of _ (by decide +kernel)) ggX6_wait_X6_atHand
set_option maxRecDepth 20000 in
theorem ggX6_wait_X6_begins : GoodIn wsX6_wait wsX6_begins := goodIn_r _ [57, 3, 58, 6, 59, 7, 8, 10, 93, 94, 95, 96, 97, 98, 99, 100, 101, 102, 103, 104, 105, 106, 107, 108, 109, 110, 111, 112, 113, 114, 115, 116, 117, 118] (by decide +kernel) (by decide +kernel)
set_option maxRecDepth 20000 in
theorem gX6_wait_X6_begins : GoodIn wsX6_wait (wsV RX6 157 RX6 yX6_begins wsX6_begins) := goodIn_app (goodIn_of _ (by decide +kernel)) ggX6_wait_X6_begins
set_option maxRecDepth 20000 in
theorem ggX6_wait_X6_times : GoodIn wsX6_wait wsX6_times := goodIn_r _ [78, 68, 69, 16, 70, 64, 65, 66, 67, 11, 12, 93, 94, 95, 96, 97, 98, 99, 100, 101, 102, 103, 104, 105, 106, 107, 108, 109, 110, 111, 112, 113, 114, 115, 116, 117, 118] (by decide +kernel) (by decide +kernel)
set_option maxRecDepth 20000 in
theorem gX6_wait_X6_times : GoodIn wsX6_wait (wsV RX6 147 RX6 yX6_times wsX6_times) := goodIn_app (goodIn_of _ (by decide +kernel)) ggX6_wait_X6_times
set_option maxRecDepth 20000 in
theorem ggX6_wait_X6_add : GoodIn wsX6_wait wsX6_add := goodIn_r _ [86, 68, 69, 16, 70, 64, 65, 66, 67, 11, 12, 93, 94, 95, 96, 97, 98, 99, 100, 101, 102, 103, 104, 105, 106, 107, 108, 109, 110, 111, 112, 113, 114, 115, 116, 117, 118] (by decide +kernel) (by decide +kernel)
set_option maxRecDepth 20000 in
theorem gX6_wait_X6_add : GoodIn wsX6_wait (wsV RX6 123 RX6 yX6_add wsX6_add) := goodIn_app (goodIn_of _ (by decide +kernel)) ggX6_wait_X6_add
set_option maxRecDepth 20000 in
theorem ggX6_wait_X6_own : GoodIn wsX6_wait wsX6_own := goodIn_r _ [63, 1, 11, 2, 12, 64, 65, 66, 16, 67, 68, 69, 70, 93, 94, 95, 96, 97, 98, 99, 100, 101, 102, 103, 104, 105, 106, 107, 108, 109, 110, 111, 112, 113, 114, 115, 116, 117, 118] (by decide +kernel) (by decide +kernel)
set_option maxRecDepth 20000 in
theorem gX6_wait_X6_own : GoodIn wsX6_wait (wsV RX6 160 RX6 yX6_own wsX6_own) := goodIn_app (goodIn_of _ (by decide +kernel)) ggX6_wait_X6_own
set_option maxRecDepth 20000 in
theorem ggX6_wait_X6_solves : GoodIn wsX6_wait wsX6_solves := goodIn_r _ [74, 3, 58, 59, 11, 12, 1, 2, 75, 76, 77, 16, 78, 68, 69, 70, 64, 65, 66, 67, 79, 80, 81, 82, 83, 84, 85, 86, 93, 94, 95, 96, 97, 98, 99, 100, 101, 102, 103, 104, 105, 106, 107, 108, 109, 110, 111, 112, 113, 114, 115, 116, 117, 118] (by decide +kernel) (by decide +kernel)
set_option maxRecDepth 20000 in
theorem gX6_wait_X6_solves : GoodIn wsX6_wait (wsV RX6 164 RX6 yX6_solves wsX6_solves) := goodIn_app (goodIn_of _ (by decide +kernel)) ggX6_wait_X6_solves
theorem dX6_wait_0 : decode cX6_wait 0 = .ok (.aload_n 0, 1) := by decide +kernel
theorem dX6_wait_1 : decode cX6_wait 1 = .ok (.iload_n 1, 1) := by decide +kernel
theorem dX6_wait_2 : decode cX6_wait 2 = .ok (.invokevirtual 83, 3) := by decide +kernel
theorem dX6_wait_5 : decode cX6_wait 5 = .ok (.ifCond .eq 11, 3) := by decide +kernel
theorem dX6_wait_8 : decode cX6_wait 8 = .ok (.iload_n 2, 1) := by decide +kernel
theorem dX6_wait_9 : decode cX6_wait 9 = .ok (.iconst 2, 1) := by decide +kernel
theorem dX6_wait_10 : decode cX6_wait 10 = .ok (.invokestatic 79, 3) := by decide +kernel
theorem dX6_wait_13 : decode cX6_wait 13 = .ok (.ifCond .ne 5, 3) := by decide +kernel
theorem dX6_wait_16 : decode cX6_wait 16 = .ok (.iconst 0, 1) := by decide +kernel
theorem dX6_wait_17 : decode cX6_wait 17 = .ok (.ireturn, 1) := by decide +kernel
theorem dX6_wait_18 : decode cX6_wait 18 = .ok (.aload_n 0, 1) := by decide +kernel
theorem dX6_wait_19 : decode cX6_wait 19 = .ok (.iconst 1, 1) := by decide +kernel
theorem dX6_wait_20 : decode cX6_wait 20 = .ok (.iload_n 1, 1) := by decide +kernel
