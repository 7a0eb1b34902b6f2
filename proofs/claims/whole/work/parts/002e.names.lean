theorem dX5_won_36 : decode cX5_won 36 = .ok (.iconst 1, 1) := by decide +kernel
theorem dX5_won_37 : decode cX5_won 37 = .ok (.ireturn, 1) := by decide +kernel
theorem dX5_top_0 : decode cX5_top 0 = .ok (.aload_n 0, 1) := by decide +kernel
theorem dX5_top_1 : decode cX5_top 1 = .ok (.getfield 48, 3) := by decide +kernel
theorem dX5_top_4 : decode cX5_top 4 = .ok (.lreturn, 1) := by decide +kernel
theorem dX5_bottom_0 : decode cX5_bottom 0 = .ok (.aload_n 0, 1) := by decide +kernel
theorem dX5_bottom_1 : decode cX5_bottom 1 = .ok (.getfield 52, 3) := by decide +kernel
theorem dX5_bottom_4 : decode cX5_bottom 4 = .ok (.lreturn, 1) := by decide +kernel
set_option maxRecDepth 20000 in
theorem ggX5_times_X5_wordIn : GoodIn wsX5_times wsX5_wordIn := goodIn_r _ [9, 10, 11, 12, 13, 8, 14, 68, 69, 70, 71, 72, 73, 74, 75, 79, 80, 81, 82, 83, 84, 85] (by decide +kernel) (by decide +kernel)
set_option maxRecDepth 20000 in
theorem gX5_times_X5_wordIn : GoodIn wsX5_times (wsV RX5 75 RX5 yX5_wordIn wsX5_wordIn) := goodIn_app (goodIn_of _ (by decide +kernel)) ggX5_times_X5_wordIn
set_option maxRecDepth 20000 in
theorem ggX5_times_X5_isCounted : GoodIn wsX5_times wsX5_isCounted := goodIn_r _ [17] (by decide +kernel) (by decide +kernel)
set_option maxRecDepth 20000 in
theorem gX5_times_X5_isCounted : GoodIn wsX5_times (va_wsS RX5 156 yX5_isCounted wsX5_isCounted) := goodIn_app (goodIn_of _ (by decide +kernel)) ggX5_times_X5_isCounted
set_option maxRecDepth 20000 in
theorem ggX5_times_X5_power : GoodIn wsX5_times wsX5_power := goodIn_r _ [20] (by decide +kernel) (by decide +kernel)
set_option maxRecDepth 20000 in
theorem gX5_times_X5_power : GoodIn wsX5_times (va_wsS RX5 144 yX5_power wsX5_power) := goodIn_app (goodIn_of _ (by decide +kernel)) ggX5_times_X5_power
set_option maxRecDepth 20000 in
theorem ggX5_times_X1_clear : GoodIn wsX5_times wsX1_clear := goodIn_r _ [25, 26, 27, 28, 29, 30, 31, 32, 33, 86, 87, 88, 89, 90, 91, 92] (by decide +kernel) (by decide +kernel)
set_option maxRecDepth 20000 in
theorem gX5_times_X1_clear : GoodIn wsX5_times (wsV RX5 161 RX1 yX1_clear wsX1_clear) := goodIn_app (goodIn_of _ (by decide +kernel)) ggX5_times_X1_clear
set_option maxRecDepth 20000 in
theorem ggX5_times_X1_learn : GoodIn wsX5_times wsX1_learn := goodIn_r _ [37, 38, 39, 26, 29, 28, 79, 80, 81, 82, 83, 84, 85, 86, 87, 88, 89, 90, 91, 92] (by decide +kernel) (by decide +kernel)
set_option maxRecDepth 20000 in
theorem gX5_times_X1_learn : GoodIn wsX5_times (wsV RX5 162 RX1 yX1_learn wsX1_learn) := goodIn_app (goodIn_of _ (by decide +kernel)) ggX5_times_X1_learn
set_option maxRecDepth 20000 in
theorem ggX5_times_X1_link : GoodIn wsX5_times wsX1_link := goodIn_r _ [43, 44, 28, 27, 45, 26, 86, 87, 88, 89, 90, 91, 92, 76, 77, 78] (by decide +kernel) (by decide +kernel)
set_option maxRecDepth 20000 in
theorem gX5_times_X1_link : GoodIn wsX5_times (wsV RX5 166 RX1 yX1_link wsX1_link) := goodIn_app (goodIn_of _ (by decide +kernel)) ggX5_times_X1_link
set_option maxRecDepth 20000 in
theorem ggX5_times_X1_weigh : GoodIn wsX5_times wsX1_weigh := goodIn_r _ [49, 29, 50, 51, 52, 53, 54, 55, 56, 32, 57, 58, 59, 60, 24, 61, 62, 63, 64, 65, 66, 45, 26, 28, 67, 86, 87, 88, 89, 90, 91, 92, 76, 77, 78] (by decide +kernel) (by decide +kernel)
set_option maxRecDepth 20000 in
theorem gX5_times_X1_weigh : GoodIn wsX5_times (wsV RX5 170 RX1 yX1_weigh wsX1_weigh) := goodIn_app (goodIn_of _ (by decide +kernel)) ggX5_times_X1_weigh
theorem dX5_times_0 : decode cX5_times 0 = .ok (.aload_n 0, 1) := by decide +kernel
theorem dX5_times_1 : decode cX5_times 1 = .ok (.iload_n 1, 1) := by decide +kernel
theorem dX5_times_2 : decode cX5_times 2 = .ok (.invokevirtual 75, 3) := by decide +kernel
theorem dX5_times_5 : decode cX5_times 5 = .ok (.astore 5, 2) := by decide +kernel
theorem dX5_times_7 : decode cX5_times 7 = .ok (.aload 5, 2) := by decide +kernel
theorem dX5_times_9 : decode cX5_times 9 = .ok (.ifnull 10, 3) := by decide +kernel
theorem dX5_times_12 : decode cX5_times 12 = .ok (.iload_n 2, 1) := by decide +kernel
theorem dX5_times_13 : decode cX5_times 13 = .ok (.invokestatic 156, 3) := by decide +kernel
theorem dX5_times_16 : decode cX5_times 16 = .ok (.ifCond .ne 7, 3) := by decide +kernel
theorem dX5_times_19 : decode cX5_times 19 = .ok (.ldc2_w 159, 3) := by decide +kernel
theorem dX5_times_22 : decode cX5_times 22 = .ok (.lreturn, 1) := by decide +kernel
theorem dX5_times_23 : decode cX5_times 23 = .ok (.iload_n 3, 1) := by decide +kernel
theorem dX5_times_24 : decode cX5_times 24 = .ok (.iload_n 2, 1) := by decide +kernel
theorem dX5_times_25 : decode cX5_times 25 = .ok (.if_icmp .gt 12, 3) := by decide +kernel
theorem dX5_times_28 : decode cX5_times 28 = .ok (.iload 4, 2) := by decide +kernel
theorem dX5_times_30 : decode cX5_times 30 = .ok (.ifCond .eq 9, 3) := by decide +kernel
theorem dX5_times_33 : decode cX5_times 33 = .ok (.iload_n 3, 1) := by decide +kernel
theorem dX5_times_34 : decode cX5_times 34 = .ok (.ifCond .ge 5, 3) := by decide +kernel
theorem dX5_times_37 : decode cX5_times 37 = .ok (.lconst 0, 1) := by decide +kernel
theorem dX5_times_38 : decode cX5_times 38 = .ok (.lreturn, 1) := by decide +kernel
theorem dX5_times_39 : decode cX5_times 39 = .ok (.iload 4, 2) := by decide +kernel
theorem dX5_times_41 : decode cX5_times 41 = .ok (.ifCond .ne 20, 3) := by decide +kernel
theorem dX5_times_44 : decode cX5_times 44 = .ok (.iload_n 3, 1) := by decide +kernel
theorem dX5_times_45 : decode cX5_times 45 = .ok (.ifCond .gt 16, 3) := by decide +kernel
theorem dX5_times_48 : decode cX5_times 48 = .ok (.aload_n 0, 1) := by decide +kernel
theorem dX5_times_49 : decode cX5_times 49 = .ok (.getfield 12, 3) := by decide +kernel
theorem dX5_times_52 : decode cX5_times 52 = .ok (.getfield 63, 3) := by decide +kernel
theorem dX5_times_55 : decode cX5_times 55 = .ok (.i2l, 1) := by decide +kernel
theorem dX5_times_56 : decode cX5_times 56 = .ok (.iload_n 2, 1) := by decide +kernel
theorem dX5_times_57 : decode cX5_times 57 = .ok (.invokestatic 144, 3) := by decide +kernel
theorem dX5_times_60 : decode cX5_times 60 = .ok (.lreturn, 1) := by decide +kernel
theorem dX5_times_61 : decode cX5_times 61 = .ok (.aload_n 0, 1) := by decide +kernel
theorem dX5_times_62 : decode cX5_times 62 = .ok (.getfield 37, 3) := by decide +kernel
theorem dX5_times_65 : decode cX5_times 65 = .ok (.invokevirtual 161, 3) := by decide +kernel
theorem dX5_times_68 : decode cX5_times 68 = .ok (.aload_n 0, 1) := by decide +kernel
theorem dX5_times_69 : decode cX5_times 69 = .ok (.getfield 37, 3) := by decide +kernel
theorem dX5_times_72 : decode cX5_times 72 = .ok (.aload 5, 2) := by decide +kernel
theorem dX5_times_74 : decode cX5_times 74 = .ok (.invokevirtual 162, 3) := by decide +kernel
theorem dX5_times_77 : decode cX5_times 77 = .ok (.aload_n 0, 1) := by decide +kernel
theorem dX5_times_78 : decode cX5_times 78 = .ok (.getfield 37, 3) := by decide +kernel
theorem dX5_times_81 : decode cX5_times 81 = .ok (.aload_n 0, 1) := by decide +kernel
theorem dX5_times_82 : decode cX5_times 82 = .ok (.getfield 12, 3) := by decide +kernel
theorem dX5_times_85 : decode cX5_times 85 = .ok (.invokevirtual 166, 3) := by decide +kernel
theorem dX5_times_88 : decode cX5_times 88 = .ok (.iload 4, 2) := by decide +kernel
theorem dX5_times_90 : decode cX5_times 90 = .ok (.ifCond .eq 18, 3) := by decide +kernel
theorem dX5_times_93 : decode cX5_times 93 = .ok (.aload_n 0, 1) := by decide +kernel
theorem dX5_times_94 : decode cX5_times 94 = .ok (.getfield 37, 3) := by decide +kernel
theorem dX5_times_97 : decode cX5_times 97 = .ok (.aload_n 0, 1) := by decide +kernel
theorem dX5_times_98 : decode cX5_times 98 = .ok (.getfield 12, 3) := by decide +kernel
theorem dX5_times_101 : decode cX5_times 101 = .ok (.iload_n 2, 1) := by decide +kernel
theorem dX5_times_102 : decode cX5_times 102 = .ok (.iload_n 3, 1) := by decide +kernel
theorem dX5_times_103 : decode cX5_times 103 = .ok (.iload_n 3, 1) := by decide +kernel
theorem dX5_times_104 : decode cX5_times 104 = .ok (.invokevirtual 170, 3) := by decide +kernel
theorem dX5_times_107 : decode cX5_times 107 = .ok (.lreturn, 1) := by decide +kernel
theorem dX5_times_108 : decode cX5_times 108 = .ok (.aload_n 0, 1) := by decide +kernel
theorem dX5_times_109 : decode cX5_times 109 = .ok (.getfield 12, 3) := by decide +kernel
theorem dX5_times_112 : decode cX5_times 112 = .ok (.getfield 63, 3) := by decide +kernel
theorem dX5_times_115 : decode cX5_times 115 = .ok (.i2l, 1) := by decide +kernel
theorem dX5_times_116 : decode cX5_times 116 = .ok (.iload_n 2, 1) := by decide +kernel
theorem dX5_times_117 : decode cX5_times 117 = .ok (.invokestatic 144, 3) := by decide +kernel
theorem dX5_times_120 : decode cX5_times 120 = .ok (.aload_n 0, 1) := by decide +kernel
theorem dX5_times_121 : decode cX5_times 121 = .ok (.getfield 37, 3) := by decide +kernel
theorem dX5_times_124 : decode cX5_times 124 = .ok (.aload_n 0, 1) := by decide +kernel
theorem dX5_times_125 : decode cX5_times 125 = .ok (.getfield 12, 3) := by decide +kernel
theorem dX5_times_128 : decode cX5_times 128 = .ok (.iload_n 2, 1) := by decide +kernel
theorem dX5_times_129 : decode cX5_times 129 = .ok (.iconst 0, 1) := by decide +kernel
theorem dX5_times_130 : decode cX5_times 130 = .ok (.iload_n 3, 1) := by decide +kernel
theorem dX5_times_131 : decode cX5_times 131 = .ok (.iconst 1, 1) := by decide +kernel
theorem dX5_times_132 : decode cX5_times 132 = .ok (.isub, 1) := by decide +kernel
theorem dX5_times_133 : decode cX5_times 133 = .ok (.invokevirtual 170, 3) := by decide +kernel
theorem dX5_times_136 : decode cX5_times 136 = .ok (.lsub, 1) := by decide +kernel
theorem dX5_times_137 : decode cX5_times 137 = .ok (.lreturn, 1) := by decide +kernel
set_option maxRecDepth 20000 in
theorem ggX5_never_X5_isCounted : GoodIn wsX5_never wsX5_isCounted := goodIn_r _ [7] (by decide +kernel) (by decide +kernel)
set_option maxRecDepth 20000 in
theorem gX5_never_X5_isCounted : GoodIn wsX5_never (va_wsS RX5 156 yX5_isCounted wsX5_isCounted) := goodIn_app (goodIn_of _ (by decide +kernel)) ggX5_never_X5_isCounted
set_option maxRecDepth 20000 in
theorem ggX5_never_X1_clear : GoodIn wsX5_never wsX1_clear := goodIn_r _ [12, 13, 14, 15, 16, 17, 18, 19, 20, 72, 73, 74, 75, 76, 77, 78] (by decide +kernel) (by decide +kernel)
set_option maxRecDepth 20000 in
theorem gX5_never_X1_clear : GoodIn wsX5_never (wsV RX5 161 RX1 yX1_clear wsX1_clear) := goodIn_app (goodIn_of _ (by decide +kernel)) ggX5_never_X1_clear
set_option maxRecDepth 20000 in
theorem ggX5_never_X5_wordIn : GoodIn wsX5_never wsX5_wordIn := goodIn_r _ [24, 25, 26, 27, 28, 6, 29, 64, 65, 66, 67, 68, 69, 70, 71, 79, 80, 81, 82, 83, 84, 85] (by decide +kernel) (by decide +kernel)
set_option maxRecDepth 20000 in
theorem gX5_never_X5_wordIn : GoodIn wsX5_never (wsV RX5 75 RX5 yX5_wordIn wsX5_wordIn) := goodIn_app (goodIn_of _ (by decide +kernel)) ggX5_never_X5_wordIn
set_option maxRecDepth 20000 in
theorem ggX5_never_X1_learn : GoodIn wsX5_never wsX1_learn := goodIn_r _ [33, 34, 35, 13, 16, 15, 79, 80, 81, 82, 83, 84, 85, 72, 73, 74, 75, 76, 77, 78] (by decide +kernel) (by decide +kernel)
set_option maxRecDepth 20000 in
theorem gX5_never_X1_learn : GoodIn wsX5_never (wsV RX5 162 RX1 yX1_learn wsX1_learn) := goodIn_app (goodIn_of _ (by decide +kernel)) ggX5_never_X1_learn
set_option maxRecDepth 20000 in
theorem ggX5_never_X1_link : GoodIn wsX5_never wsX1_link := goodIn_r _ [39, 40, 15, 14, 41, 13, 72, 73, 74, 75, 76, 77, 78, 86, 87, 88] (by decide +kernel) (by decide +kernel)
set_option maxRecDepth 20000 in
theorem gX5_never_X1_link : GoodIn wsX5_never (wsV RX5 166 RX1 yX1_link wsX1_link) := goodIn_app (goodIn_of _ (by decide +kernel)) ggX5_never_X1_link
set_option maxRecDepth 20000 in
theorem ggX5_never_X1_weigh : GoodIn wsX5_never wsX1_weigh := goodIn_r _ [45, 16, 46, 47, 48, 49, 50, 51, 52, 19, 53, 54, 55, 56, 11, 57, 58, 59, 60, 61, 62, 41, 13, 15, 63, 72, 73, 74, 75, 76, 77, 78, 86, 87, 88] (by decide +kernel) (by decide +kernel)
set_option maxRecDepth 20000 in
theorem gX5_never_X1_weigh : GoodIn wsX5_never (wsV RX5 170 RX1 yX1_weigh wsX1_weigh) := goodIn_app (goodIn_of _ (by decide +kernel)) ggX5_never_X1_weigh
theorem dX5_never_0 : decode cX5_never 0 = .ok (.iload_n 2, 1) := by decide +kernel
theorem dX5_never_1 : decode cX5_never 1 = .ok (.invokestatic 156, 3) := by decide +kernel
theorem dX5_never_4 : decode cX5_never 4 = .ok (.ifCond .ne 7, 3) := by decide +kernel
theorem dX5_never_7 : decode cX5_never 7 = .ok (.ldc2_w 159, 3) := by decide +kernel
theorem dX5_never_10 : decode cX5_never 10 = .ok (.lreturn, 1) := by decide +kernel
theorem dX5_never_11 : decode cX5_never 11 = .ok (.aload_n 0, 1) := by decide +kernel
theorem dX5_never_12 : decode cX5_never 12 = .ok (.getfield 37, 3) := by decide +kernel
theorem dX5_never_15 : decode cX5_never 15 = .ok (.invokevirtual 161, 3) := by decide +kernel
theorem dX5_never_18 : decode cX5_never 18 = .ok (.iconst 0, 1) := by decide +kernel
theorem dX5_never_19 : decode cX5_never 19 = .ok (.istore_n 3, 1) := by decide +kernel
theorem dX5_never_20 : decode cX5_never 20 = .ok (.iload_n 3, 1) := by decide +kernel
theorem dX5_never_21 : decode cX5_never 21 = .ok (.bipush 8, 2) := by decide +kernel
theorem dX5_never_23 : decode cX5_never 23 = .ok (.if_icmp .ge 39, 3) := by decide +kernel
theorem dX5_never_26 : decode cX5_never 26 = .ok (.aload_n 0, 1) := by decide +kernel
theorem dX5_never_27 : decode cX5_never 27 = .ok (.iload_n 3, 1) := by decide +kernel
theorem dX5_never_28 : decode cX5_never 28 = .ok (.invokevirtual 75, 3) := by decide +kernel
theorem dX5_never_31 : decode cX5_never 31 = .ok (.astore 4, 2) := by decide +kernel
theorem dX5_never_33 : decode cX5_never 33 = .ok (.aload 4, 2) := by decide +kernel
theorem dX5_never_35 : decode cX5_never 35 = .ok (.ifnull 21, 3) := by decide +kernel
theorem dX5_never_38 : decode cX5_never 38 = .ok (.iload_n 1, 1) := by decide +kernel
theorem dX5_never_39 : decode cX5_never 39 = .ok (.iload_n 3, 1) := by decide +kernel
theorem dX5_never_40 : decode cX5_never 40 = .ok (.ishr, 1) := by decide +kernel
theorem dX5_never_41 : decode cX5_never 41 = .ok (.iconst 1, 1) := by decide +kernel
theorem dX5_never_42 : decode cX5_never 42 = .ok (.iand, 1) := by decide +kernel
theorem dX5_never_43 : decode cX5_never 43 = .ok (.iconst 1, 1) := by decide +kernel
theorem dX5_never_44 : decode cX5_never 44 = .ok (.if_icmp .ne 12, 3) := by decide +kernel
theorem dX5_never_47 : decode cX5_never 47 = .ok (.aload_n 0, 1) := by decide +kernel
theorem dX5_never_48 : decode cX5_never 48 = .ok (.getfield 37, 3) := by decide +kernel
theorem dX5_never_51 : decode cX5_never 51 = .ok (.aload 4, 2) := by decide +kernel
theorem dX5_never_53 : decode cX5_never 53 = .ok (.invokevirtual 162, 3) := by decide +kernel
theorem dX5_never_56 : decode cX5_never 56 = .ok (.iinc 3 1, 3) := by decide +kernel
theorem dX5_never_59 : decode cX5_never 59 = .ok (.goto (-39), 3) := by decide +kernel
theorem dX5_never_62 : decode cX5_never 62 = .ok (.aload_n 0, 1) := by decide +kernel
theorem dX5_never_63 : decode cX5_never 63 = .ok (.getfield 37, 3) := by decide +kernel
theorem dX5_never_66 : decode cX5_never 66 = .ok (.aload_n 0, 1) := by decide +kernel
theorem dX5_never_67 : decode cX5_never 67 = .ok (.getfield 12, 3) := by decide +kernel
theorem dX5_never_70 : decode cX5_never 70 = .ok (.invokevirtual 166, 3) := by decide +kernel
theorem dX5_never_73 : decode cX5_never 73 = .ok (.aload_n 0, 1) := by decide +kernel
theorem dX5_never_74 : decode cX5_never 74 = .ok (.getfield 37, 3) := by decide +kernel
theorem dX5_never_77 : decode cX5_never 77 = .ok (.aload_n 0, 1) := by decide +kernel
theorem dX5_never_78 : decode cX5_never 78 = .ok (.getfield 12, 3) := by decide +kernel
theorem dX5_never_81 : decode cX5_never 81 = .ok (.iload_n 2, 1) := by decide +kernel
theorem dX5_never_82 : decode cX5_never 82 = .ok (.iconst 0, 1) := by decide +kernel
theorem dX5_never_83 : decode cX5_never 83 = .ok (.iconst 0, 1) := by decide +kernel
theorem dX5_never_84 : decode cX5_never 84 = .ok (.invokevirtual 170, 3) := by decide +kernel
theorem dX5_never_87 : decode cX5_never 87 = .ok (.lreturn, 1) := by decide +kernel
set_option maxRecDepth 20000 in
theorem ggX5_covered_X5_isCounted : GoodIn wsX5_covered wsX5_isCounted := goodIn_r _ [7] (by decide +kernel) (by decide +kernel)
set_option maxRecDepth 20000 in
theorem gX5_covered_X5_isCounted : GoodIn wsX5_covered (va_wsS RX5 156 yX5_isCounted wsX5_isCounted) := goodIn_app (goodIn_of _ (by decide +kernel)) ggX5_covered_X5_isCounted
set_option maxRecDepth 20000 in
theorem ggX5_covered_X0_weightOf : GoodIn wsX5_covered wsX0_weightOf := goodIn_r _ [12, 13, 14, 33, 34, 35] (by decide +kernel) (by decide +kernel)
set_option maxRecDepth 20000 in
theorem gX5_covered_X0_weightOf : GoodIn wsX5_covered (wsV RX5 148 RX0 yX0_weightOf wsX0_weightOf) := goodIn_app (goodIn_of _ (by decide +kernel)) ggX5_covered_X0_weightOf
set_option maxRecDepth 20000 in
theorem ggX5_covered_X5_power : GoodIn wsX5_covered wsX5_power := goodIn_r _ [17] (by decide +kernel) (by decide +kernel)
set_option maxRecDepth 20000 in
theorem gX5_covered_X5_power : GoodIn wsX5_covered (va_wsS RX5 144 yX5_power wsX5_power) := goodIn_app (goodIn_of _ (by decide +kernel)) ggX5_covered_X5_power
set_option maxRecDepth 20000 in
theorem ggX5_covered_J6_bitCount_0f7a4 : GoodIn wsX5_covered wsJ6_bitCount_0f7a4 := goodIn_r _ [21, 22, 23, 24] (by decide +kernel) (by decide +kernel)
set_option maxRecDepth 20000 in
theorem gX5_covered_J6_bitCount_0f7a4 : GoodIn wsX5_covered (va_wsS RX5 125 yJ6_bitCount_0f7a4 wsJ6_bitCount_0f7a4) := goodIn_app (goodIn_of _ (by decide +kernel)) ggX5_covered_J6_bitCount_0f7a4
theorem dX5_covered_0 : decode cX5_covered 0 = .ok (.iload_n 1, 1) := by decide +kernel
theorem dX5_covered_1 : decode cX5_covered 1 = .ok (.invokestatic 156, 3) := by decide +kernel
theorem dX5_covered_4 : decode cX5_covered 4 = .ok (.ifCond .ne 7, 3) := by decide +kernel
theorem dX5_covered_7 : decode cX5_covered 7 = .ok (.ldc2_w 159, 3) := by decide +kernel
theorem dX5_covered_10 : decode cX5_covered 10 = .ok (.lreturn, 1) := by decide +kernel
theorem dX5_covered_11 : decode cX5_covered 11 = .ok (.lconst 0, 1) := by decide +kernel
theorem dX5_covered_12 : decode cX5_covered 12 = .ok (.lstore_n 2, 1) := by decide +kernel
theorem dX5_covered_13 : decode cX5_covered 13 = .ok (.iconst 0, 1) := by decide +kernel
theorem dX5_covered_14 : decode cX5_covered 14 = .ok (.istore 4, 2) := by decide +kernel
theorem dX5_covered_16 : decode cX5_covered 16 = .ok (.iload 4, 2) := by decide +kernel
theorem dX5_covered_18 : decode cX5_covered 18 = .ok (.iconst 1, 1) := by decide +kernel
theorem dX5_covered_19 : decode cX5_covered 19 = .ok (.aload_n 0, 1) := by decide +kernel
theorem dX5_covered_20 : decode cX5_covered 20 = .ok (.getfield 12, 3) := by decide +kernel
theorem dX5_covered_23 : decode cX5_covered 23 = .ok (.getfield 141, 3) := by decide +kernel
theorem dX5_covered_26 : decode cX5_covered 26 = .ok (.ishl, 1) := by decide +kernel
theorem dX5_covered_27 : decode cX5_covered 27 = .ok (.if_icmp .ge 54, 3) := by decide +kernel
theorem dX5_covered_30 : decode cX5_covered 30 = .ok (.aload_n 0, 1) := by decide +kernel
theorem dX5_covered_31 : decode cX5_covered 31 = .ok (.getfield 12, 3) := by decide +kernel
theorem dX5_covered_34 : decode cX5_covered 34 = .ok (.iload 4, 2) := by decide +kernel
theorem dX5_covered_36 : decode cX5_covered 36 = .ok (.invokevirtual 148, 3) := by decide +kernel
theorem dX5_covered_39 : decode cX5_covered 39 = .ok (.i2l, 1) := by decide +kernel
theorem dX5_covered_40 : decode cX5_covered 40 = .ok (.iload_n 1, 1) := by decide +kernel
theorem dX5_covered_41 : decode cX5_covered 41 = .ok (.invokestatic 144, 3) := by decide +kernel
theorem dX5_covered_44 : decode cX5_covered 44 = .ok (.lstore 5, 2) := by decide +kernel
theorem dX5_covered_46 : decode cX5_covered 46 = .ok (.lload_n 2, 1) := by decide +kernel
theorem dX5_covered_47 : decode cX5_covered 47 = .ok (.aload_n 0, 1) := by decide +kernel
theorem dX5_covered_48 : decode cX5_covered 48 = .ok (.getfield 12, 3) := by decide +kernel
theorem dX5_covered_51 : decode cX5_covered 51 = .ok (.getfield 141, 3) := by decide +kernel
theorem dX5_covered_54 : decode cX5_covered 54 = .ok (.iload 4, 2) := by decide +kernel
theorem dX5_covered_56 : decode cX5_covered 56 = .ok (.invokestatic 125, 3) := by decide +kernel
theorem dX5_covered_59 : decode cX5_covered 59 = .ok (.isub, 1) := by decide +kernel
theorem dX5_covered_60 : decode cX5_covered 60 = .ok (.iconst 2, 1) := by decide +kernel
theorem dX5_covered_61 : decode cX5_covered 61 = .ok (.irem, 1) := by decide +kernel
theorem dX5_covered_62 : decode cX5_covered 62 = .ok (.ifCond .ne 8, 3) := by decide +kernel
theorem dX5_covered_65 : decode cX5_covered 65 = .ok (.lload 5, 2) := by decide +kernel
theorem dX5_covered_67 : decode cX5_covered 67 = .ok (.goto 6, 3) := by decide +kernel
theorem dX5_covered_70 : decode cX5_covered 70 = .ok (.lload 5, 2) := by decide +kernel
theorem dX5_covered_72 : decode cX5_covered 72 = .ok (.lneg, 1) := by decide +kernel
theorem dX5_covered_73 : decode cX5_covered 73 = .ok (.ladd, 1) := by decide +kernel
theorem dX5_covered_74 : decode cX5_covered 74 = .ok (.lstore_n 2, 1) := by decide +kernel
theorem dX5_covered_75 : decode cX5_covered 75 = .ok (.iinc 4 1, 3) := by decide +kernel
theorem dX5_covered_78 : decode cX5_covered 78 = .ok (.goto (-62), 3) := by decide +kernel
theorem dX5_covered_81 : decode cX5_covered 81 = .ok (.lload_n 2, 1) := by decide +kernel
theorem dX5_covered_82 : decode cX5_covered 82 = .ok (.lreturn, 1) := by decide +kernel
set_option maxRecDepth 20000 in
theorem ggX5_draw_X3_clear : GoodIn wsX5_draw wsX3_clear := goodIn_r _ [8, 9, 31, 32] (by decide +kernel) (by decide +kernel)
set_option maxRecDepth 20000 in
theorem gX5_draw_X3_clear : GoodIn wsX5_draw (wsV RX5 62 RX3 yX3_clear wsX3_clear) := goodIn_app (goodIn_of _ (by decide +kernel)) ggX5_draw_X3_clear
set_option maxRecDepth 20000 in
theorem ggX5_draw_X0_letterFor : GoodIn wsX5_draw wsX0_letterFor := goodIn_r _ [14, 15, 16, 17, 33, 34, 35] (by decide +kernel) (by decide +kernel)
set_option maxRecDepth 20000 in
theorem gX5_draw_X0_letterFor : GoodIn wsX5_draw (wsV RX5 175 RX0 yX0_letterFor wsX0_letterFor) := goodIn_app (goodIn_of _ (by decide +kernel)) ggX5_draw_X0_letterFor
set_option maxRecDepth 20000 in
theorem ggX5_draw_X3_append : GoodIn wsX5_draw wsX3_append := goodIn_r _ [21, 9, 22, 31, 32] (by decide +kernel) (by decide +kernel)
set_option maxRecDepth 20000 in
theorem gX5_draw_X3_append : GoodIn wsX5_draw (wsV RX5 178 RX3 yX3_append wsX3_append) := goodIn_app (goodIn_of _ (by decide +kernel)) ggX5_draw_X3_append
theorem dX5_draw_0 : decode cX5_draw 0 = .ok (.iload_n 2, 1) := by decide +kernel
theorem dX5_draw_1 : decode cX5_draw 1 = .ok (.ifCond .lt 10, 3) := by decide +kernel
theorem dX5_draw_4 : decode cX5_draw 4 = .ok (.iload_n 2, 1) := by decide +kernel
theorem dX5_draw_5 : decode cX5_draw 5 = .ok (.sipush 300, 3) := by decide +kernel
theorem dX5_draw_8 : decode cX5_draw 8 = .ok (.if_icmp .le 5, 3) := by decide +kernel
theorem dX5_draw_11 : decode cX5_draw 11 = .ok (.iconst 0, 1) := by decide +kernel
theorem dX5_draw_12 : decode cX5_draw 12 = .ok (.ireturn, 1) := by decide +kernel
theorem dX5_draw_13 : decode cX5_draw 13 = .ok (.aload_n 0, 1) := by decide +kernel
theorem dX5_draw_14 : decode cX5_draw 14 = .ok (.getfield 44, 3) := by decide +kernel
theorem dX5_draw_17 : decode cX5_draw 17 = .ok (.invokevirtual 62, 3) := by decide +kernel
theorem dX5_draw_20 : decode cX5_draw 20 = .ok (.iload_n 1, 1) := by decide +kernel
theorem dX5_draw_21 : decode cX5_draw 21 = .ok (.istore_n 3, 1) := by decide +kernel
theorem dX5_draw_22 : decode cX5_draw 22 = .ok (.iconst 0, 1) := by decide +kernel
theorem dX5_draw_23 : decode cX5_draw 23 = .ok (.istore 4, 2) := by decide +kernel
theorem dX5_draw_25 : decode cX5_draw 25 = .ok (.iload 4, 2) := by decide +kernel
theorem dX5_draw_27 : decode cX5_draw 27 = .ok (.iload_n 2, 1) := by decide +kernel
theorem dX5_draw_28 : decode cX5_draw 28 = .ok (.if_icmp .ge 37, 3) := by decide +kernel
theorem dX5_draw_31 : decode cX5_draw 31 = .ok (.iload_n 3, 1) := by decide +kernel
theorem dX5_draw_32 : decode cX5_draw 32 = .ok (.ldc 174, 2) := by decide +kernel
theorem dX5_draw_34 : decode cX5_draw 34 = .ok (.imul, 1) := by decide +kernel
theorem dX5_draw_35 : decode cX5_draw 35 = .ok (.sipush 12345, 3) := by decide +kernel
theorem dX5_draw_38 : decode cX5_draw 38 = .ok (.iadd, 1) := by decide +kernel
theorem dX5_draw_39 : decode cX5_draw 39 = .ok (.istore_n 3, 1) := by decide +kernel
theorem dX5_draw_40 : decode cX5_draw 40 = .ok (.aload_n 0, 1) := by decide +kernel
theorem dX5_draw_41 : decode cX5_draw 41 = .ok (.getfield 44, 3) := by decide +kernel
theorem dX5_draw_44 : decode cX5_draw 44 = .ok (.aload_n 0, 1) := by decide +kernel
theorem dX5_draw_45 : decode cX5_draw 45 = .ok (.getfield 12, 3) := by decide +kernel
theorem dX5_draw_48 : decode cX5_draw 48 = .ok (.iload_n 3, 1) := by decide +kernel
theorem dX5_draw_49 : decode cX5_draw 49 = .ok (.bipush 16, 2) := by decide +kernel
theorem dX5_draw_51 : decode cX5_draw 51 = .ok (.iushr, 1) := by decide +kernel
theorem dX5_draw_52 : decode cX5_draw 52 = .ok (.invokevirtual 175, 3) := by decide +kernel
theorem dX5_draw_55 : decode cX5_draw 55 = .ok (.invokevirtual 178, 3) := by decide +kernel
theorem dX5_draw_58 : decode cX5_draw 58 = .ok (.pop, 1) := by decide +kernel
theorem dX5_draw_59 : decode cX5_draw 59 = .ok (.iinc 4 1, 3) := by decide +kernel
theorem dX5_draw_62 : decode cX5_draw 62 = .ok (.goto (-37), 3) := by decide +kernel
theorem dX5_draw_65 : decode cX5_draw 65 = .ok (.iload_n 3, 1) := by decide +kernel
theorem dX5_draw_66 : decode cX5_draw 66 = .ok (.ireturn, 1) := by decide +kernel
set_option maxRecDepth 20000 in
theorem ggX5_add_X3_append : GoodIn wsX5_add wsX3_append := goodIn_r _ [9, 10, 11, 23, 24] (by decide +kernel) (by decide +kernel)
set_option maxRecDepth 20000 in
theorem gX5_add_X3_append : GoodIn wsX5_add (wsV RX5 178 RX3 yX3_append wsX3_append) := goodIn_app (goodIn_of _ (by decide +kernel)) ggX5_add_X3_append
theorem dX5_add_0 : decode cX5_add 0 = .ok (.iload_n 1, 1) := by decide +kernel
theorem dX5_add_1 : decode cX5_add 1 = .ok (.ifCond .lt 25, 3) := by decide +kernel
theorem dX5_add_4 : decode cX5_add 4 = .ok (.iload_n 1, 1) := by decide +kernel
theorem dX5_add_5 : decode cX5_add 5 = .ok (.aload_n 0, 1) := by decide +kernel
theorem dX5_add_6 : decode cX5_add 6 = .ok (.getfield 12, 3) := by decide +kernel
theorem dX5_add_9 : decode cX5_add 9 = .ok (.getfield 141, 3) := by decide +kernel
theorem dX5_add_12 : decode cX5_add 12 = .ok (.if_icmp .ge 14, 3) := by decide +kernel
theorem dX5_add_15 : decode cX5_add 15 = .ok (.aload_n 0, 1) := by decide +kernel
theorem dX5_add_16 : decode cX5_add 16 = .ok (.getfield 44, 3) := by decide +kernel
theorem dX5_add_19 : decode cX5_add 19 = .ok (.iload_n 1, 1) := by decide +kernel
theorem dX5_add_20 : decode cX5_add 20 = .ok (.invokevirtual 178, 3) := by decide +kernel
theorem dX5_add_23 : decode cX5_add 23 = .ok (.ifCond .ne 5, 3) := by decide +kernel
theorem dX5_add_26 : decode cX5_add 26 = .ok (.iconst (-1), 1) := by decide +kernel
theorem dX5_add_27 : decode cX5_add 27 = .ok (.ireturn, 1) := by decide +kernel
theorem dX5_add_28 : decode cX5_add 28 = .ok (.aload_n 0, 1) := by decide +kernel
theorem dX5_add_29 : decode cX5_add 29 = .ok (.getfield 44, 3) := by decide +kernel
theorem dX5_add_32 : decode cX5_add 32 = .ok (.getfield 181, 3) := by decide +kernel
theorem dX5_add_35 : decode cX5_add 35 = .ok (.ireturn, 1) := by decide +kernel
set_option maxRecDepth 20000 in
theorem ggX5_letter_X3_letterAt : GoodIn wsX5_letter wsX3_letterAt := goodIn_r _ [6, 7, 8, 17, 18] (by decide +kernel) (by decide +kernel)
set_option maxRecDepth 20000 in
theorem gX5_letter_X3_letterAt : GoodIn wsX5_letter (wsV RX5 182 RX3 yX3_letterAt wsX3_letterAt) := goodIn_app (goodIn_of _ (by decide +kernel)) ggX5_letter_X3_letterAt
theorem dX5_letter_0 : decode cX5_letter 0 = .ok (.aload_n 0, 1) := by decide +kernel
theorem dX5_letter_1 : decode cX5_letter 1 = .ok (.getfield 44, 3) := by decide +kernel
theorem dX5_letter_4 : decode cX5_letter 4 = .ok (.iload_n 1, 1) := by decide +kernel
theorem dX5_letter_5 : decode cX5_letter 5 = .ok (.invokevirtual 182, 3) := by decide +kernel
theorem dX5_letter_8 : decode cX5_letter 8 = .ok (.ireturn, 1) := by decide +kernel
set_option maxRecDepth 20000 in
theorem ggX5_came_X5_wordIn : GoodIn wsX5_came wsX5_wordIn := goodIn_r _ [6, 7, 8, 9, 10, 5, 11, 31, 32, 33, 34, 35, 36, 37, 38, 39, 40, 41, 42, 43, 44, 45] (by decide +kernel) (by decide +kernel)
set_option maxRecDepth 20000 in
theorem gX5_came_X5_wordIn : GoodIn wsX5_came (wsV RX5 75 RX5 yX5_wordIn wsX5_wordIn) := goodIn_app (goodIn_of _ (by decide +kernel)) ggX5_came_X5_wordIn
set_option maxRecDepth 20000 in
theorem ggX5_came_X3_firstEndOf : GoodIn wsX5_came wsX3_firstEndOf := goodIn_r _ [16, 17, 18, 19, 20, 21, 22, 23, 24, 25, 26, 39, 40, 41, 42, 43, 44, 45, 46, 47] (by decide +kernel) (by decide +kernel)
set_option maxRecDepth 20000 in
theorem gX5_came_X3_firstEndOf : GoodIn wsX5_came (wsV RX5 153 RX3 yX3_firstEndOf wsX3_firstEndOf) := goodIn_app (goodIn_of _ (by decide +kernel)) ggX5_came_X3_firstEndOf
set_option maxRecDepth 20000 in
theorem ggX5_came_X3_placesOf : GoodIn wsX5_came wsX3_placesOf := goodIn_r _ [30, 17, 18, 19, 20, 21, 22, 23, 24, 25, 26, 39, 40, 41, 42, 43, 44, 45, 46, 47] (by decide +kernel) (by decide +kernel)
set_option maxRecDepth 20000 in
theorem gX5_came_X3_placesOf : GoodIn wsX5_came (wsV RX5 183 RX3 yX3_placesOf wsX3_placesOf) := goodIn_app (goodIn_of _ (by decide +kernel)) ggX5_came_X3_placesOf
theorem dX5_came_0 : decode cX5_came 0 = .ok (.aload_n 0, 1) := by decide +kernel
theorem dX5_came_1 : decode cX5_came 1 = .ok (.iload_n 1, 1) := by decide +kernel
theorem dX5_came_2 : decode cX5_came 2 = .ok (.invokevirtual 75, 3) := by decide +kernel
theorem dX5_came_5 : decode cX5_came 5 = .ok (.astore_n 3, 1) := by decide +kernel
theorem dX5_came_6 : decode cX5_came 6 = .ok (.aload_n 3, 1) := by decide +kernel
theorem dX5_came_7 : decode cX5_came 7 = .ok (.ifnull 12, 3) := by decide +kernel
theorem dX5_came_10 : decode cX5_came 10 = .ok (.iload_n 2, 1) := by decide +kernel
theorem dX5_came_11 : decode cX5_came 11 = .ok (.ifCond .lt 8, 3) := by decide +kernel
theorem dX5_came_14 : decode cX5_came 14 = .ok (.iload_n 2, 1) := by decide +kernel
theorem dX5_came_15 : decode cX5_came 15 = .ok (.iconst 1, 1) := by decide +kernel
theorem dX5_came_16 : decode cX5_came 16 = .ok (.if_icmp .le 5, 3) := by decide +kernel
theorem dX5_came_19 : decode cX5_came 19 = .ok (.iconst (-1), 1) := by decide +kernel
theorem dX5_came_20 : decode cX5_came 20 = .ok (.ireturn, 1) := by decide +kernel
theorem dX5_came_21 : decode cX5_came 21 = .ok (.iload_n 2, 1) := by decide +kernel
theorem dX5_came_22 : decode cX5_came 22 = .ok (.ifCond .ne 14, 3) := by decide +kernel
theorem dX5_came_25 : decode cX5_came 25 = .ok (.aload_n 0, 1) := by decide +kernel
theorem dX5_came_26 : decode cX5_came 26 = .ok (.getfield 44, 3) := by decide +kernel
theorem dX5_came_29 : decode cX5_came 29 = .ok (.aload_n 3, 1) := by decide +kernel
theorem dX5_came_30 : decode cX5_came 30 = .ok (.invokevirtual 153, 3) := by decide +kernel
theorem dX5_came_33 : decode cX5_came 33 = .ok (.goto 11, 3) := by decide +kernel
theorem dX5_came_36 : decode cX5_came 36 = .ok (.aload_n 0, 1) := by decide +kernel
theorem dX5_came_37 : decode cX5_came 37 = .ok (.getfield 44, 3) := by decide +kernel
theorem dX5_came_40 : decode cX5_came 40 = .ok (.aload_n 3, 1) := by decide +kernel
theorem dX5_came_41 : decode cX5_came 41 = .ok (.invokevirtual 183, 3) := by decide +kernel
theorem dX5_came_44 : decode cX5_came 44 = .ok (.ireturn, 1) := by decide +kernel
theorem dX5_isSlot_0 : decode cX5_isSlot 0 = .ok (.iload_n 0, 1) := by decide +kernel
theorem dX5_isSlot_1 : decode cX5_isSlot 1 = .ok (.ifCond .lt 13, 3) := by decide +kernel
theorem dX5_isSlot_4 : decode cX5_isSlot 4 = .ok (.iload_n 0, 1) := by decide +kernel
theorem dX5_isSlot_5 : decode cX5_isSlot 5 = .ok (.bipush 8, 2) := by decide +kernel
theorem dX5_isSlot_7 : decode cX5_isSlot 7 = .ok (.if_icmp .ge 7, 3) := by decide +kernel
theorem dX5_isSlot_10 : decode cX5_isSlot 10 = .ok (.iconst 1, 1) := by decide +kernel
theorem dX5_isSlot_11 : decode cX5_isSlot 11 = .ok (.goto 4, 3) := by decide +kernel
theorem dX5_isSlot_14 : decode cX5_isSlot 14 = .ok (.iconst 0, 1) := by decide +kernel
theorem dX5_isSlot_15 : decode cX5_isSlot 15 = .ok (.ireturn, 1) := by decide +kernel
theorem dX5_isCounted_0 : decode cX5_isCounted 0 = .ok (.iload_n 0, 1) := by decide +kernel
theorem dX5_isCounted_1 : decode cX5_isCounted 1 = .ok (.ifCond .lt 13, 3) := by decide +kernel
theorem dX5_isCounted_4 : decode cX5_isCounted 4 = .ok (.iload_n 0, 1) := by decide +kernel
theorem dX5_isCounted_5 : decode cX5_isCounted 5 = .ok (.bipush 30, 2) := by decide +kernel
theorem dX5_isCounted_7 : decode cX5_isCounted 7 = .ok (.if_icmp .gt 7, 3) := by decide +kernel
theorem dX5_isCounted_10 : decode cX5_isCounted 10 = .ok (.iconst 1, 1) := by decide +kernel
theorem dX5_isCounted_11 : decode cX5_isCounted 11 = .ok (.goto 4, 3) := by decide +kernel
theorem dX5_isCounted_14 : decode cX5_isCounted 14 = .ok (.iconst 0, 1) := by decide +kernel
theorem dX5_isCounted_15 : decode cX5_isCounted 15 = .ok (.ireturn, 1) := by decide +kernel
set_option maxRecDepth 20000 in
theorem ggX5_wordIn_X5_isSlot : GoodIn wsX5_wordIn wsX5_isSlot := goodIn_r _ [6] (by decide +kernel) (by decide +kernel)
set_option maxRecDepth 20000 in
theorem gX5_wordIn_X5_isSlot : GoodIn wsX5_wordIn (va_wsS RX5 67 yX5_isSlot wsX5_isSlot) := goodIn_app (goodIn_of _ (by decide +kernel)) ggX5_wordIn_X5_isSlot
theorem dX5_wordIn_0 : decode cX5_wordIn 0 = .ok (.iload_n 1, 1) := by decide +kernel
theorem dX5_wordIn_1 : decode cX5_wordIn 1 = .ok (.invokestatic 67, 3) := by decide +kernel
theorem dX5_wordIn_4 : decode cX5_wordIn 4 = .ok (.ifCond .eq 24, 3) := by decide +kernel
theorem dX5_wordIn_7 : decode cX5_wordIn 7 = .ok (.aload_n 0, 1) := by decide +kernel
theorem dX5_wordIn_8 : decode cX5_wordIn 8 = .ok (.getfield 18, 3) := by decide +kernel
theorem dX5_wordIn_11 : decode cX5_wordIn 11 = .ok (.iload_n 1, 1) := by decide +kernel
theorem dX5_wordIn_12 : decode cX5_wordIn 12 = .ok (.aaload, 1) := by decide +kernel
theorem dX5_wordIn_13 : decode cX5_wordIn 13 = .ok (.getfield 79, 3) := by decide +kernel
theorem dX5_wordIn_16 : decode cX5_wordIn 16 = .ok (.ifCond .le 12, 3) := by decide +kernel
theorem dX5_wordIn_19 : decode cX5_wordIn 19 = .ok (.aload_n 0, 1) := by decide +kernel
theorem dX5_wordIn_20 : decode cX5_wordIn 20 = .ok (.getfield 18, 3) := by decide +kernel
theorem dX5_wordIn_23 : decode cX5_wordIn 23 = .ok (.iload_n 1, 1) := by decide +kernel
theorem dX5_wordIn_24 : decode cX5_wordIn 24 = .ok (.aaload, 1) := by decide +kernel
theorem dX5_wordIn_25 : decode cX5_wordIn 25 = .ok (.goto 4, 3) := by decide +kernel
theorem dX5_wordIn_28 : decode cX5_wordIn 28 = .ok (.aconst_null, 1) := by decide +kernel
theorem dX5_wordIn_29 : decode cX5_wordIn 29 = .ok (.areturn, 1) := by decide +kernel
set_option maxRecDepth 20000 in
theorem ggX5_enterList_X2_clear : GoodIn wsX5_enterList wsX2_clear := goodIn_r _ [6, 7, 8, 9, 10, 63, 64, 65, 66] (by decide +kernel) (by decide +kernel)
set_option maxRecDepth 20000 in
theorem gX5_enterList_X2_clear : GoodIn wsX5_enterList (wsV RX5 130 RX2 yX2_clear wsX2_clear) := goodIn_app (goodIn_of _ (by decide +kernel)) ggX5_enterList_X2_clear
set_option maxRecDepth 20000 in
theorem ggX5_enterList_X5_wordIn : GoodIn wsX5_enterList wsX5_wordIn := goodIn_r _ [15, 16, 17, 18, 19, 14, 20, 55, 56, 57, 58, 59, 60, 61, 62, 67, 68, 69, 70, 71, 72, 73] (by decide +kernel) (by decide +kernel)
set_option maxRecDepth 20000 in
theorem gX5_enterList_X5_wordIn : GoodIn wsX5_enterList (wsV RX5 75 RX5 yX5_wordIn wsX5_wordIn) := goodIn_app (goodIn_of _ (by decide +kernel)) ggX5_enterList_X5_wordIn
set_option maxRecDepth 20000 in
theorem ggX5_enterList_X2_enter : GoodIn wsX5_enterList wsX2_enter := goodIn_r _ [24, 7, 8, 9, 10, 25, 26, 27, 28, 29, 30, 31, 32, 33, 34, 35, 36, 37, 38, 39, 40, 41, 42, 43, 44, 45, 46, 47, 48, 49, 50, 51, 52, 53, 54, 63, 64, 65, 66, 67, 68, 69, 70, 71, 72, 73] (by decide +kernel) (by decide +kernel)
set_option maxRecDepth 20000 in
theorem gX5_enterList_X2_enter : GoodIn wsX5_enterList (wsV RX5 131 RX2 yX2_enter wsX2_enter) := goodIn_app (goodIn_of _ (by decide +kernel)) ggX5_enterList_X2_enter
theorem dX5_enterList_0 : decode cX5_enterList 0 = .ok (.aload_n 0, 1) := by decide +kernel
theorem dX5_enterList_1 : decode cX5_enterList 1 = .ok (.getfield 30, 3) := by decide +kernel
theorem dX5_enterList_4 : decode cX5_enterList 4 = .ok (.invokevirtual 130, 3) := by decide +kernel
theorem dX5_enterList_7 : decode cX5_enterList 7 = .ok (.iload_n 1, 1) := by decide +kernel
theorem dX5_enterList_8 : decode cX5_enterList 8 = .ok (.ifCond .eq 11, 3) := by decide +kernel
theorem dX5_enterList_11 : decode cX5_enterList 11 = .ok (.iload_n 1, 1) := by decide +kernel
theorem dX5_enterList_12 : decode cX5_enterList 12 = .ok (.sipush (-256), 3) := by decide +kernel
theorem dX5_enterList_15 : decode cX5_enterList 15 = .ok (.iand, 1) := by decide +kernel
theorem dX5_enterList_16 : decode cX5_enterList 16 = .ok (.ifCond .eq 5, 3) := by decide +kernel
theorem dX5_enterList_19 : decode cX5_enterList 19 = .ok (.iconst 0, 1) := by decide +kernel
theorem dX5_enterList_20 : decode cX5_enterList 20 = .ok (.ireturn, 1) := by decide +kernel
theorem dX5_enterList_21 : decode cX5_enterList 21 = .ok (.iconst 0, 1) := by decide +kernel
theorem dX5_enterList_22 : decode cX5_enterList 22 = .ok (.istore_n 2, 1) := by decide +kernel
theorem dX5_enterList_23 : decode cX5_enterList 23 = .ok (.iload_n 2, 1) := by decide +kernel
theorem dX5_enterList_24 : decode cX5_enterList 24 = .ok (.bipush 8, 2) := by decide +kernel
theorem dX5_enterList_26 : decode cX5_enterList 26 = .ok (.if_icmp .ge 41, 3) := by decide +kernel
theorem dX5_enterList_29 : decode cX5_enterList 29 = .ok (.iload_n 1, 1) := by decide +kernel
theorem dX5_enterList_30 : decode cX5_enterList 30 = .ok (.iload_n 2, 1) := by decide +kernel
theorem dX5_enterList_31 : decode cX5_enterList 31 = .ok (.ishr, 1) := by decide +kernel
theorem dX5_enterList_32 : decode cX5_enterList 32 = .ok (.iconst 1, 1) := by decide +kernel
theorem dX5_enterList_33 : decode cX5_enterList 33 = .ok (.iand, 1) := by decide +kernel
theorem dX5_enterList_34 : decode cX5_enterList 34 = .ok (.iconst 1, 1) := by decide +kernel
theorem dX5_enterList_35 : decode cX5_enterList 35 = .ok (.if_icmp .ne 26, 3) := by decide +kernel
theorem dX5_enterList_38 : decode cX5_enterList 38 = .ok (.aload_n 0, 1) := by decide +kernel
theorem dX5_enterList_39 : decode cX5_enterList 39 = .ok (.iload_n 2, 1) := by decide +kernel
theorem dX5_enterList_40 : decode cX5_enterList 40 = .ok (.invokevirtual 75, 3) := by decide +kernel
theorem dX5_enterList_43 : decode cX5_enterList 43 = .ok (.astore_n 3, 1) := by decide +kernel
theorem dX5_enterList_44 : decode cX5_enterList 44 = .ok (.aload_n 3, 1) := by decide +kernel
theorem dX5_enterList_45 : decode cX5_enterList 45 = .ok (.ifnull 14, 3) := by decide +kernel
theorem dX5_enterList_48 : decode cX5_enterList 48 = .ok (.aload_n 0, 1) := by decide +kernel
theorem dX5_enterList_49 : decode cX5_enterList 49 = .ok (.getfield 30, 3) := by decide +kernel
theorem dX5_enterList_52 : decode cX5_enterList 52 = .ok (.aload_n 3, 1) := by decide +kernel
theorem dX5_enterList_53 : decode cX5_enterList 53 = .ok (.invokevirtual 131, 3) := by decide +kernel
theorem dX5_enterList_56 : decode cX5_enterList 56 = .ok (.ifCond .ne 5, 3) := by decide +kernel
theorem dX5_enterList_59 : decode cX5_enterList 59 = .ok (.iconst 0, 1) := by decide +kernel
theorem dX5_enterList_60 : decode cX5_enterList 60 = .ok (.ireturn, 1) := by decide +kernel
theorem dX5_enterList_61 : decode cX5_enterList 61 = .ok (.iinc 2 1, 3) := by decide +kernel
theorem dX5_enterList_64 : decode cX5_enterList 64 = .ok (.goto (-41), 3) := by decide +kernel
theorem dX5_enterList_67 : decode cX5_enterList 67 = .ok (.iconst 1, 1) := by decide +kernel
theorem dX5_enterList_68 : decode cX5_enterList 68 = .ok (.ireturn, 1) := by decide +kernel
set_option maxRecDepth 20000 in
theorem ggX5_hold_X5_greatestDivisor : GoodIn wsX5_hold wsX5_greatestDivisor := goodIn_r _ [10] (by decide +kernel) (by decide +kernel)
set_option maxRecDepth 20000 in
theorem gX5_hold_X5_greatestDivisor : GoodIn wsX5_hold (va_wsS RX5 192 yX5_greatestDivisor wsX5_greatestDivisor) := goodIn_app (goodIn_of _ (by decide +kernel)) ggX5_hold_X5_greatestDivisor
theorem dX5_hold_0 : decode cX5_hold 0 = .ok (.lload_n 1, 1) := by decide +kernel
theorem dX5_hold_1 : decode cX5_hold 1 = .ok (.invokestatic 186, 3) := by decide +kernel
theorem dX5_hold_4 : decode cX5_hold 4 = .ok (.lload_n 3, 1) := by decide +kernel
theorem dX5_hold_5 : decode cX5_hold 5 = .ok (.invokestatic 186, 3) := by decide +kernel
theorem dX5_hold_8 : decode cX5_hold 8 = .ok (.invokestatic 192, 3) := by decide +kernel
theorem dX5_hold_11 : decode cX5_hold 11 = .ok (.lstore 5, 2) := by decide +kernel
theorem dX5_hold_13 : decode cX5_hold 13 = .ok (.lload 5, 2) := by decide +kernel
theorem dX5_hold_15 : decode cX5_hold 15 = .ok (.lconst 0, 1) := by decide +kernel
theorem dX5_hold_16 : decode cX5_hold 16 = .ok (.lcmp, 1) := by decide +kernel
theorem dX5_hold_17 : decode cX5_hold 17 = .ok (.ifCond .eq 9, 3) := by decide +kernel
theorem dX5_hold_20 : decode cX5_hold 20 = .ok (.lload_n 3, 1) := by decide +kernel
theorem dX5_hold_21 : decode cX5_hold 21 = .ok (.lconst 0, 1) := by decide +kernel
theorem dX5_hold_22 : decode cX5_hold 22 = .ok (.lcmp, 1) := by decide +kernel
theorem dX5_hold_23 : decode cX5_hold 23 = .ok (.ifCond .ne 4, 3) := by decide +kernel
theorem dX5_hold_26 : decode cX5_hold 26 = .ok (.return_, 1) := by decide +kernel
theorem dX5_hold_27 : decode cX5_hold 27 = .ok (.lload_n 3, 1) := by decide +kernel
theorem dX5_hold_28 : decode cX5_hold 28 = .ok (.lconst 0, 1) := by decide +kernel
theorem dX5_hold_29 : decode cX5_hold 29 = .ok (.lcmp, 1) := by decide +kernel
theorem dX5_hold_30 : decode cX5_hold 30 = .ok (.ifCond .ge 9, 3) := by decide +kernel
theorem dX5_hold_33 : decode cX5_hold 33 = .ok (.lload 5, 2) := by decide +kernel
theorem dX5_hold_35 : decode cX5_hold 35 = .ok (.lneg, 1) := by decide +kernel
theorem dX5_hold_36 : decode cX5_hold 36 = .ok (.goto 5, 3) := by decide +kernel
theorem dX5_hold_39 : decode cX5_hold 39 = .ok (.lload 5, 2) := by decide +kernel
theorem dX5_hold_41 : decode cX5_hold 41 = .ok (.lstore 7, 2) := by decide +kernel
theorem dX5_hold_43 : decode cX5_hold 43 = .ok (.aload_n 0, 1) := by decide +kernel
theorem dX5_hold_44 : decode cX5_hold 44 = .ok (.lload_n 1, 1) := by decide +kernel
theorem dX5_hold_45 : decode cX5_hold 45 = .ok (.lload 7, 2) := by decide +kernel
theorem dX5_hold_47 : decode cX5_hold 47 = .ok (.ldiv, 1) := by decide +kernel
theorem dX5_hold_48 : decode cX5_hold 48 = .ok (.putfield 48, 3) := by decide +kernel
theorem dX5_hold_51 : decode cX5_hold 51 = .ok (.aload_n 0, 1) := by decide +kernel
theorem dX5_hold_52 : decode cX5_hold 52 = .ok (.lload_n 3, 1) := by decide +kernel
theorem dX5_hold_53 : decode cX5_hold 53 = .ok (.lload 7, 2) := by decide +kernel
theorem dX5_hold_55 : decode cX5_hold 55 = .ok (.ldiv, 1) := by decide +kernel
theorem dX5_hold_56 : decode cX5_hold 56 = .ok (.putfield 52, 3) := by decide +kernel
theorem dX5_hold_59 : decode cX5_hold 59 = .ok (.return_, 1) := by decide +kernel
theorem dX5_greatestDivisor_0 : decode cX5_greatestDivisor 0 = .ok (.lload_n 0, 1) := by decide +kernel
theorem dX5_greatestDivisor_1 : decode cX5_greatestDivisor 1 = .ok (.lstore 4, 2) := by decide +kernel
theorem dX5_greatestDivisor_3 : decode cX5_greatestDivisor 3 = .ok (.lload_n 2, 1) := by decide +kernel
theorem dX5_greatestDivisor_4 : decode cX5_greatestDivisor 4 = .ok (.lstore 6, 2) := by decide +kernel
theorem dX5_greatestDivisor_6 : decode cX5_greatestDivisor 6 = .ok (.iconst 0, 1) := by decide +kernel
theorem dX5_greatestDivisor_7 : decode cX5_greatestDivisor 7 = .ok (.istore 8, 2) := by decide +kernel
theorem dX5_greatestDivisor_9 : decode cX5_greatestDivisor 9 = .ok (.iload 8, 2) := by decide +kernel
theorem dX5_greatestDivisor_11 : decode cX5_greatestDivisor 11 = .ok (.bipush 100, 2) := by decide +kernel
theorem dX5_greatestDivisor_13 : decode cX5_greatestDivisor 13 = .ok (.if_icmp .ge 31, 3) := by decide +kernel
theorem dX5_greatestDivisor_16 : decode cX5_greatestDivisor 16 = .ok (.lload 6, 2) := by decide +kernel
theorem dX5_greatestDivisor_18 : decode cX5_greatestDivisor 18 = .ok (.lconst 0, 1) := by decide +kernel
theorem dX5_greatestDivisor_19 : decode cX5_greatestDivisor 19 = .ok (.lcmp, 1) := by decide +kernel
theorem dX5_greatestDivisor_20 : decode cX5_greatestDivisor 20 = .ok (.ifCond .eq 24, 3) := by decide +kernel
theorem dX5_greatestDivisor_23 : decode cX5_greatestDivisor 23 = .ok (.lload 4, 2) := by decide +kernel
theorem dX5_greatestDivisor_25 : decode cX5_greatestDivisor 25 = .ok (.lload 6, 2) := by decide +kernel
theorem dX5_greatestDivisor_27 : decode cX5_greatestDivisor 27 = .ok (.lrem, 1) := by decide +kernel
theorem dX5_greatestDivisor_28 : decode cX5_greatestDivisor 28 = .ok (.lstore 9, 2) := by decide +kernel
theorem dX5_greatestDivisor_30 : decode cX5_greatestDivisor 30 = .ok (.lload 6, 2) := by decide +kernel
theorem dX5_greatestDivisor_32 : decode cX5_greatestDivisor 32 = .ok (.lstore 4, 2) := by decide +kernel
theorem dX5_greatestDivisor_34 : decode cX5_greatestDivisor 34 = .ok (.lload 9, 2) := by decide +kernel
theorem dX5_greatestDivisor_36 : decode cX5_greatestDivisor 36 = .ok (.lstore 6, 2) := by decide +kernel
theorem dX5_greatestDivisor_38 : decode cX5_greatestDivisor 38 = .ok (.iinc 8 1, 3) := by decide +kernel
theorem dX5_greatestDivisor_41 : decode cX5_greatestDivisor 41 = .ok (.goto (-32), 3) := by decide +kernel
theorem dX5_greatestDivisor_44 : decode cX5_greatestDivisor 44 = .ok (.lload 4, 2) := by decide +kernel
theorem dX5_greatestDivisor_46 : decode cX5_greatestDivisor 46 = .ok (.lreturn, 1) := by decide +kernel
theorem dX5_power_0 : decode cX5_power 0 = .ok (.lconst 1, 1) := by decide +kernel
theorem dX5_power_1 : decode cX5_power 1 = .ok (.lstore_n 3, 1) := by decide +kernel
theorem dX5_power_2 : decode cX5_power 2 = .ok (.iconst 0, 1) := by decide +kernel
theorem dX5_power_3 : decode cX5_power 3 = .ok (.istore 5, 2) := by decide +kernel
theorem dX5_power_5 : decode cX5_power 5 = .ok (.iload 5, 2) := by decide +kernel
theorem dX5_power_7 : decode cX5_power 7 = .ok (.iload_n 2, 1) := by decide +kernel
theorem dX5_power_8 : decode cX5_power 8 = .ok (.if_icmp .ge 13, 3) := by decide +kernel
theorem dX5_power_11 : decode cX5_power 11 = .ok (.lload_n 3, 1) := by decide +kernel
theorem dX5_power_12 : decode cX5_power 12 = .ok (.lload_n 0, 1) := by decide +kernel
theorem dX5_power_13 : decode cX5_power 13 = .ok (.lmul, 1) := by decide +kernel
theorem dX5_power_14 : decode cX5_power 14 = .ok (.lstore_n 3, 1) := by decide +kernel
theorem dX5_power_15 : decode cX5_power 15 = .ok (.iinc 5 1, 3) := by decide +kernel
theorem dX5_power_18 : decode cX5_power 18 = .ok (.goto (-13), 3) := by decide +kernel
theorem dX5_power_21 : decode cX5_power 21 = .ok (.lload_n 3, 1) := by decide +kernel
theorem dX5_power_22 : decode cX5_power 22 = .ok (.lreturn, 1) := by decide +kernel
theorem dX6_init_0 : decode cX6_init 0 = .ok (.aload_n 0, 1) := by decide +kernel
theorem dX6_init_1 : decode cX6_init 1 = .ok (.invokespecial 1, 3) := by decide +kernel
theorem dX6_init_4 : decode cX6_init 4 = .ok (.aload_n 0, 1) := by decide +kernel
theorem dX6_init_5 : decode cX6_init 5 = .ok (.iconst 2, 1) := by decide +kernel
theorem dX6_init_6 : decode cX6_init 6 = .ok (.putfield 7, 3) := by decide +kernel
theorem dX6_init_9 : decode cX6_init 9 = .ok (.aload_n 0, 1) := by decide +kernel
theorem dX6_init_10 : decode cX6_init 10 = .ok (.iconst 2, 1) := by decide +kernel
theorem dX6_init_11 : decode cX6_init 11 = .ok (.putfield 13, 3) := by decide +kernel
theorem dX6_init_14 : decode cX6_init 14 = .ok (.aload_n 0, 1) := by decide +kernel
theorem dX6_init_15 : decode cX6_init 15 = .ok (.iconst 4, 1) := by decide +kernel
theorem dX6_init_16 : decode cX6_init 16 = .ok (.newarray .int, 2) := by decide +kernel
theorem dX6_init_18 : decode cX6_init 18 = .ok (.dup, 1) := by decide +kernel
theorem dX6_init_19 : decode cX6_init 19 = .ok (.iconst 0, 1) := by decide +kernel
theorem dX6_init_20 : decode cX6_init 20 = .ok (.iconst 1, 1) := by decide +kernel
theorem dX6_init_21 : decode cX6_init 21 = .ok (.iastore, 1) := by decide +kernel
theorem dX6_init_22 : decode cX6_init 22 = .ok (.dup, 1) := by decide +kernel
theorem dX6_init_23 : decode cX6_init 23 = .ok (.iconst 1, 1) := by decide +kernel
theorem dX6_init_24 : decode cX6_init 24 = .ok (.iconst 1, 1) := by decide +kernel
theorem dX6_init_25 : decode cX6_init 25 = .ok (.iastore, 1) := by decide +kernel
theorem dX6_init_26 : decode cX6_init 26 = .ok (.dup, 1) := by decide +kernel
theorem dX6_init_27 : decode cX6_init 27 = .ok (.iconst 2, 1) := by decide +kernel
theorem dX6_init_28 : decode cX6_init 28 = .ok (.iconst 0, 1) := by decide +kernel
theorem dX6_init_29 : decode cX6_init 29 = .ok (.iastore, 1) := by decide +kernel
theorem dX6_init_30 : decode cX6_init 30 = .ok (.dup, 1) := by decide +kernel
theorem dX6_init_31 : decode cX6_init 31 = .ok (.iconst 3, 1) := by decide +kernel
theorem dX6_init_32 : decode cX6_init 32 = .ok (.iconst 0, 1) := by decide +kernel
theorem dX6_init_33 : decode cX6_init 33 = .ok (.iastore, 1) := by decide +kernel
theorem dX6_init_34 : decode cX6_init 34 = .ok (.putfield 16, 3) := by decide +kernel
theorem dX6_init_37 : decode cX6_init 37 = .ok (.aload_n 0, 1) := by decide +kernel
theorem dX6_init_38 : decode cX6_init 38 = .ok (.bipush 8, 2) := by decide +kernel
theorem dX6_init_40 : decode cX6_init 40 = .ok (.newarray .int, 2) := by decide +kernel
theorem dX6_init_42 : decode cX6_init 42 = .ok (.putfield 20, 3) := by decide +kernel
theorem dX6_init_45 : decode cX6_init 45 = .ok (.aload_n 0, 1) := by decide +kernel
theorem dX6_init_46 : decode cX6_init 46 = .ok (.bipush 40, 2) := by decide +kernel
theorem dX6_init_48 : decode cX6_init 48 = .ok (.newarray .int, 2) := by decide +kernel
theorem dX6_init_50 : decode cX6_init 50 = .ok (.putfield 23, 3) := by decide +kernel
theorem dX6_init_53 : decode cX6_init 53 = .ok (.aload_n 0, 1) := by decide +kernel
theorem dX6_init_54 : decode cX6_init 54 = .ok (.sipush 300, 3) := by decide +kernel
theorem dX6_init_57 : decode cX6_init 57 = .ok (.newarray .int, 2) := by decide +kernel
theorem dX6_init_59 : decode cX6_init 59 = .ok (.putfield 26, 3) := by decide +kernel
theorem dX6_init_62 : decode cX6_init 62 = .ok (.aload_n 0, 1) := by decide +kernel
theorem dX6_init_63 : decode cX6_init 63 = .ok (.lconst 1, 1) := by decide +kernel
theorem dX6_init_64 : decode cX6_init 64 = .ok (.putfield 29, 3) := by decide +kernel
theorem dX6_init_67 : decode cX6_init 67 = .ok (.aload_n 0, 1) := by decide +kernel
theorem dX6_init_68 : decode cX6_init 68 = .ok (.bipush 13, 2) := by decide +kernel
theorem dX6_init_70 : decode cX6_init 70 = .ok (.newarray .int, 2) := by decide +kernel
theorem dX6_init_72 : decode cX6_init 72 = .ok (.putfield 33, 3) := by decide +kernel
theorem dX6_init_75 : decode cX6_init 75 = .ok (.aload_n 0, 1) := by decide +kernel
theorem dX6_init_76 : decode cX6_init 76 = .ok (.bipush 13, 2) := by decide +kernel
theorem dX6_init_78 : decode cX6_init 78 = .ok (.newarray .int, 2) := by decide +kernel
theorem dX6_init_80 : decode cX6_init 80 = .ok (.putfield 36, 3) := by decide +kernel
theorem dX6_init_83 : decode cX6_init 83 = .ok (.aload_n 0, 1) := by decide +kernel
theorem dX6_init_84 : decode cX6_init 84 = .ok (.bipush 52, 2) := by decide +kernel
theorem dX6_init_86 : decode cX6_init 86 = .ok (.newarray .int, 2) := by decide +kernel
theorem dX6_init_88 : decode cX6_init 88 = .ok (.putfield 39, 3) := by decide +kernel
theorem dX6_init_91 : decode cX6_init 91 = .ok (.aload_n 0, 1) := by decide +kernel
theorem dX6_init_92 : decode cX6_init 92 = .ok (.bipush 6, 2) := by decide +kernel
theorem dX6_init_94 : decode cX6_init 94 = .ok (.newarray .int, 2) := by decide +kernel
theorem dX6_init_96 : decode cX6_init 96 = .ok (.putfield 42, 3) := by decide +kernel
theorem dX6_init_99 : decode cX6_init 99 = .ok (.aload_n 0, 1) := by decide +kernel
theorem dX6_init_100 : decode cX6_init 100 = .ok (.sipush 169, 3) := by decide +kernel
theorem dX6_init_103 : decode cX6_init 103 = .ok (.newarray .long, 2) := by decide +kernel
theorem dX6_init_105 : decode cX6_init 105 = .ok (.putfield 45, 3) := by decide +kernel
theorem dX6_init_108 : decode cX6_init 108 = .ok (.aload_n 0, 1) := by decide +kernel
theorem dX6_init_109 : decode cX6_init 109 = .ok (.sipush 169, 3) := by decide +kernel
theorem dX6_init_112 : decode cX6_init 112 = .ok (.newarray .long, 2) := by decide +kernel
theorem dX6_init_114 : decode cX6_init 114 = .ok (.putfield 49, 3) := by decide +kernel
theorem dX6_init_117 : decode cX6_init 117 = .ok (.aload_n 0, 1) := by decide +kernel
theorem dX6_init_118 : decode cX6_init 118 = .ok (.bipush 13, 2) := by decide +kernel
theorem dX6_init_120 : decode cX6_init 120 = .ok (.newarray .long, 2) := by decide +kernel
theorem dX6_init_122 : decode cX6_init 122 = .ok (.putfield 52, 3) := by decide +kernel
theorem dX6_init_125 : decode cX6_init 125 = .ok (.aload_n 0, 1) := by decide +kernel
theorem dX6_init_126 : decode cX6_init 126 = .ok (.bipush 13, 2) := by decide +kernel
theorem dX6_init_128 : decode cX6_init 128 = .ok (.newarray .long, 2) := by decide +kernel
theorem dX6_init_130 : decode cX6_init 130 = .ok (.putfield 55, 3) := by decide +kernel
theorem dX6_init_133 : decode cX6_init 133 = .ok (.aload_n 0, 1) := by decide +kernel
theorem dX6_init_134 : decode cX6_init 134 = .ok (.bipush 13, 2) := by decide +kernel
theorem dX6_init_136 : decode cX6_init 136 = .ok (.newarray .long, 2) := by decide +kernel
theorem dX6_init_138 : decode cX6_init 138 = .ok (.putfield 58, 3) := by decide +kernel
theorem dX6_init_141 : decode cX6_init 141 = .ok (.aload_n 0, 1) := by decide +kernel
theorem dX6_init_142 : decode cX6_init 142 = .ok (.bipush 13, 2) := by decide +kernel
theorem dX6_init_144 : decode cX6_init 144 = .ok (.newarray .long, 2) := by decide +kernel
theorem dX6_init_146 : decode cX6_init 146 = .ok (.putfield 61, 3) := by decide +kernel
theorem dX6_init_149 : decode cX6_init 149 = .ok (.aload_n 0, 1) := by decide +kernel
theorem dX6_init_150 : decode cX6_init 150 = .ok (.bipush 16, 2) := by decide +kernel
theorem dX6_init_152 : decode cX6_init 152 = .ok (.newarray .long, 2) := by decide +kernel
theorem dX6_init_154 : decode cX6_init 154 = .ok (.putfield 64, 3) := by decide +kernel
theorem dX6_init_157 : decode cX6_init 157 = .ok (.aload_n 0, 1) := by decide +kernel
theorem dX6_init_158 : decode cX6_init 158 = .ok (.bipush 16, 2) := by decide +kernel
theorem dX6_init_160 : decode cX6_init 160 = .ok (.newarray .long, 2) := by decide +kernel
theorem dX6_init_162 : decode cX6_init 162 = .ok (.putfield 67, 3) := by decide +kernel
theorem dX6_init_165 : decode cX6_init 165 = .ok (.aload_n 0, 1) := by decide +kernel
theorem dX6_init_166 : decode cX6_init 166 = .ok (.sipush 16384, 3) := by decide +kernel
theorem dX6_init_169 : decode cX6_init 169 = .ok (.newarray .long, 2) := by decide +kernel
theorem dX6_init_171 : decode cX6_init 171 = .ok (.putfield 70, 3) := by decide +kernel
theorem dX6_init_174 : decode cX6_init 174 = .ok (.aload_n 0, 1) := by decide +kernel
theorem dX6_init_175 : decode cX6_init 175 = .ok (.sipush 16384, 3) := by decide +kernel
theorem dX6_init_178 : decode cX6_init 178 = .ok (.newarray .long, 2) := by decide +kernel
theorem dX6_init_180 : decode cX6_init 180 = .ok (.putfield 73, 3) := by decide +kernel
theorem dX6_init_183 : decode cX6_init 183 = .ok (.return_, 1) := by decide +kernel
theorem dX6_isIn_0 : decode cX6_isIn 0 = .ok (.iload_n 0, 1) := by decide +kernel
theorem dX6_isIn_1 : decode cX6_isIn 1 = .ok (.ifCond .lt 12, 3) := by decide +kernel
theorem dX6_isIn_4 : decode cX6_isIn 4 = .ok (.iload_n 0, 1) := by decide +kernel
theorem dX6_isIn_5 : decode cX6_isIn 5 = .ok (.iload_n 1, 1) := by decide +kernel
theorem dX6_isIn_6 : decode cX6_isIn 6 = .ok (.if_icmp .ge 7, 3) := by decide +kernel
theorem dX6_isIn_9 : decode cX6_isIn 9 = .ok (.iconst 1, 1) := by decide +kernel
theorem dX6_isIn_10 : decode cX6_isIn 10 = .ok (.goto 4, 3) := by decide +kernel
theorem dX6_isIn_13 : decode cX6_isIn 13 = .ok (.iconst 0, 1) := by decide +kernel
theorem dX6_isIn_14 : decode cX6_isIn 14 = .ok (.ireturn, 1) := by decide +kernel
theorem dX6_source_0 : decode cX6_source 0 = .ok (.iload_n 1, 1) := by decide +kernel
theorem dX6_source_1 : decode cX6_source 1 = .ok (.iconst 2, 1) := by decide +kernel
theorem dX6_source_2 : decode cX6_source 2 = .ok (.if_icmp .lt 8, 3) := by decide +kernel
theorem dX6_source_5 : decode cX6_source 5 = .ok (.iload_n 1, 1) := by decide +kernel
theorem dX6_source_6 : decode cX6_source 6 = .ok (.iconst 4, 1) := by decide +kernel
theorem dX6_source_7 : decode cX6_source 7 = .ok (.if_icmp .le 5, 3) := by decide +kernel
theorem dX6_source_10 : decode cX6_source 10 = .ok (.iconst (-1), 1) := by decide +kernel
theorem dX6_source_11 : decode cX6_source 11 = .ok (.ireturn, 1) := by decide +kernel
theorem dX6_source_12 : decode cX6_source 12 = .ok (.iconst 0, 1) := by decide +kernel
theorem dX6_source_13 : decode cX6_source 13 = .ok (.istore 6, 2) := by decide +kernel
theorem dX6_source_15 : decode cX6_source 15 = .ok (.iconst 0, 1) := by decide +kernel
theorem dX6_source_16 : decode cX6_source 16 = .ok (.istore 7, 2) := by decide +kernel
theorem dX6_source_18 : decode cX6_source 18 = .ok (.iload 7, 2) := by decide +kernel
theorem dX6_source_20 : decode cX6_source 20 = .ok (.iload_n 1, 1) := by decide +kernel
theorem dX6_source_21 : decode cX6_source 21 = .ok (.if_icmp .ge 64, 3) := by decide +kernel
theorem dX6_source_24 : decode cX6_source 24 = .ok (.iload 7, 2) := by decide +kernel
theorem dX6_source_26 : decode cX6_source 26 = .ok (.ifCond .ne 7, 3) := by decide +kernel
theorem dX6_source_29 : decode cX6_source 29 = .ok (.iload_n 2, 1) := by decide +kernel
theorem dX6_source_30 : decode cX6_source 30 = .ok (.goto 26, 3) := by decide +kernel
theorem dX6_source_33 : decode cX6_source 33 = .ok (.iload 7, 2) := by decide +kernel
theorem dX6_source_35 : decode cX6_source 35 = .ok (.iconst 1, 1) := by decide +kernel
theorem dX6_source_36 : decode cX6_source 36 = .ok (.if_icmp .ne 7, 3) := by decide +kernel
theorem dX6_source_39 : decode cX6_source 39 = .ok (.iload_n 3, 1) := by decide +kernel
theorem dX6_source_40 : decode cX6_source 40 = .ok (.goto 16, 3) := by decide +kernel
theorem dX6_source_43 : decode cX6_source 43 = .ok (.iload 7, 2) := by decide +kernel
theorem dX6_source_45 : decode cX6_source 45 = .ok (.iconst 2, 1) := by decide +kernel
theorem dX6_source_46 : decode cX6_source 46 = .ok (.if_icmp .ne 8, 3) := by decide +kernel
theorem dX6_source_49 : decode cX6_source 49 = .ok (.iload 4, 2) := by decide +kernel
theorem dX6_source_51 : decode cX6_source 51 = .ok (.goto 5, 3) := by decide +kernel
theorem dX6_source_54 : decode cX6_source 54 = .ok (.iload 5, 2) := by decide +kernel
theorem dX6_source_56 : decode cX6_source 56 = .ok (.istore 8, 2) := by decide +kernel
theorem dX6_source_58 : decode cX6_source 58 = .ok (.iload 8, 2) := by decide +kernel
theorem dX6_source_60 : decode cX6_source 60 = .ok (.iconst 1, 1) := by decide +kernel
theorem dX6_source_61 : decode cX6_source 61 = .ok (.if_icmp .lt 9, 3) := by decide +kernel
theorem dX6_source_64 : decode cX6_source 64 = .ok (.iload 8, 2) := by decide +kernel
theorem dX6_source_66 : decode cX6_source 66 = .ok (.iconst 4, 1) := by decide +kernel
theorem dX6_source_67 : decode cX6_source 67 = .ok (.if_icmp .le 5, 3) := by decide +kernel
theorem dX6_source_70 : decode cX6_source 70 = .ok (.iconst (-1), 1) := by decide +kernel
theorem dX6_source_71 : decode cX6_source 71 = .ok (.ireturn, 1) := by decide +kernel
theorem dX6_source_72 : decode cX6_source 72 = .ok (.iload 6, 2) := by decide +kernel
theorem dX6_source_74 : decode cX6_source 74 = .ok (.iload 8, 2) := by decide +kernel
theorem dX6_source_76 : decode cX6_source 76 = .ok (.iadd, 1) := by decide +kernel
theorem dX6_source_77 : decode cX6_source 77 = .ok (.istore 6, 2) := by decide +kernel
theorem dX6_source_79 : decode cX6_source 79 = .ok (.iinc 7 1, 3) := by decide +kernel
theorem dX6_source_82 : decode cX6_source 82 = .ok (.goto (-64), 3) := by decide +kernel
theorem dX6_source_85 : decode cX6_source 85 = .ok (.iload 6, 2) := by decide +kernel
theorem dX6_source_87 : decode cX6_source 87 = .ok (.iconst 4, 1) := by decide +kernel
theorem dX6_source_88 : decode cX6_source 88 = .ok (.if_icmp .le 5, 3) := by decide +kernel
theorem dX6_source_91 : decode cX6_source 91 = .ok (.iconst (-1), 1) := by decide +kernel
theorem dX6_source_92 : decode cX6_source 92 = .ok (.ireturn, 1) := by decide +kernel
theorem dX6_source_93 : decode cX6_source 93 = .ok (.aload_n 0, 1) := by decide +kernel
theorem dX6_source_94 : decode cX6_source 94 = .ok (.iload_n 1, 1) := by decide +kernel
theorem dX6_source_95 : decode cX6_source 95 = .ok (.putfield 7, 3) := by decide +kernel
theorem dX6_source_98 : decode cX6_source 98 = .ok (.aload_n 0, 1) := by decide +kernel
theorem dX6_source_99 : decode cX6_source 99 = .ok (.iload 6, 2) := by decide +kernel
theorem dX6_source_101 : decode cX6_source 101 = .ok (.putfield 13, 3) := by decide +kernel
theorem dX6_source_104 : decode cX6_source 104 = .ok (.iconst 0, 1) := by decide +kernel
theorem dX6_source_105 : decode cX6_source 105 = .ok (.istore 7, 2) := by decide +kernel
theorem dX6_source_107 : decode cX6_source 107 = .ok (.iload 7, 2) := by decide +kernel
theorem dX6_source_109 : decode cX6_source 109 = .ok (.iconst 4, 1) := by decide +kernel
theorem dX6_source_110 : decode cX6_source 110 = .ok (.if_icmp .ge 58, 3) := by decide +kernel
theorem dX6_source_113 : decode cX6_source 113 = .ok (.aload_n 0, 1) := by decide +kernel
theorem dX6_source_114 : decode cX6_source 114 = .ok (.getfield 16, 3) := by decide +kernel
theorem dX6_source_117 : decode cX6_source 117 = .ok (.iload 7, 2) := by decide +kernel
theorem dX6_source_119 : decode cX6_source 119 = .ok (.iload 7, 2) := by decide +kernel
theorem dX6_source_121 : decode cX6_source 121 = .ok (.iload_n 1, 1) := by decide +kernel
theorem dX6_source_122 : decode cX6_source 122 = .ok (.if_icmp .lt 7, 3) := by decide +kernel
