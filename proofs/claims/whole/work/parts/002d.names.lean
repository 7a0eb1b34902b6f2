theorem dX4_standsIn_18 : decode cX4_standsIn 18 = .ok (.istore_n 3, 1) := by decide +kernel
theorem dX4_standsIn_19 : decode cX4_standsIn 19 = .ok (.iload_n 3, 1) := by decide +kernel
theorem dX4_standsIn_20 : decode cX4_standsIn 20 = .ok (.aload_n 0, 1) := by decide +kernel
theorem dX4_standsIn_21 : decode cX4_standsIn 21 = .ok (.getfield 25, 3) := by decide +kernel
theorem dX4_standsIn_24 : decode cX4_standsIn 24 = .ok (.if_icmp .ge 25, 3) := by decide +kernel
theorem dX4_standsIn_27 : decode cX4_standsIn 27 = .ok (.aload_n 1, 1) := by decide +kernel
theorem dX4_standsIn_28 : decode cX4_standsIn 28 = .ok (.iload_n 2, 1) := by decide +kernel
theorem dX4_standsIn_29 : decode cX4_standsIn 29 = .ok (.iload_n 3, 1) := by decide +kernel
theorem dX4_standsIn_30 : decode cX4_standsIn 30 = .ok (.iadd, 1) := by decide +kernel
theorem dX4_standsIn_31 : decode cX4_standsIn 31 = .ok (.iaload, 1) := by decide +kernel
theorem dX4_standsIn_32 : decode cX4_standsIn 32 = .ok (.aload_n 0, 1) := by decide +kernel
theorem dX4_standsIn_33 : decode cX4_standsIn 33 = .ok (.getfield 9, 3) := by decide +kernel
theorem dX4_standsIn_36 : decode cX4_standsIn 36 = .ok (.iload_n 3, 1) := by decide +kernel
theorem dX4_standsIn_37 : decode cX4_standsIn 37 = .ok (.iaload, 1) := by decide +kernel
theorem dX4_standsIn_38 : decode cX4_standsIn 38 = .ok (.if_icmp .eq 5, 3) := by decide +kernel
theorem dX4_standsIn_41 : decode cX4_standsIn 41 = .ok (.iconst 0, 1) := by decide +kernel
theorem dX4_standsIn_42 : decode cX4_standsIn 42 = .ok (.ireturn, 1) := by decide +kernel
theorem dX4_standsIn_43 : decode cX4_standsIn 43 = .ok (.iinc 3 1, 3) := by decide +kernel
theorem dX4_standsIn_46 : decode cX4_standsIn 46 = .ok (.goto (-27), 3) := by decide +kernel
theorem dX4_standsIn_49 : decode cX4_standsIn 49 = .ok (.iconst 1, 1) := by decide +kernel
theorem dX4_standsIn_50 : decode cX4_standsIn 50 = .ok (.ireturn, 1) := by decide +kernel
set_option maxRecDepth 20000 in
theorem ggX5_init_X0_init : GoodIn wsX5_init wsX0_init := goodIn_r _ [29, 30, 2, 3, 31, 32, 33, 34, 75, 76, 77] (by decide +kernel) (by decide +kernel)
set_option maxRecDepth 20000 in
theorem gX5_init_X0_init : GoodIn wsX5_init (wsX0_init) := ggX5_init_X0_init
set_option maxRecDepth 20000 in
theorem ggX5_init_X4_init : GoodIn wsX5_init wsX4_init := goodIn_r _ [37, 38, 2, 3, 31, 39, 40, 41, 42, 43, 86, 87, 88, 89, 90, 91, 92] (by decide +kernel) (by decide +kernel)
set_option maxRecDepth 20000 in
theorem gX5_init_X4_init : GoodIn wsX5_init (wsX4_init) := ggX5_init_X4_init
set_option maxRecDepth 20000 in
theorem ggX5_init_X2_init : GoodIn wsX5_init wsX2_init := goodIn_r _ [46, 47, 2, 3, 48, 49, 42, 50, 51, 52, 53, 54, 15, 55, 56, 93, 94, 95, 96] (by decide +kernel) (by decide +kernel)
set_option maxRecDepth 20000 in
theorem gX5_init_X2_init : GoodIn wsX5_init (wsX2_init) := ggX5_init_X2_init
set_option maxRecDepth 20000 in
theorem ggX5_init_X1_init : GoodIn wsX5_init wsX1_init := goodIn_r _ [59, 60, 2, 3, 31, 61, 62, 63, 64, 65, 42, 66, 67, 68, 97, 98, 99, 100, 101, 102, 103] (by decide +kernel) (by decide +kernel)
set_option maxRecDepth 20000 in
theorem gX5_init_X1_init : GoodIn wsX5_init (wsX1_init) := ggX5_init_X1_init
set_option maxRecDepth 20000 in
theorem ggX5_init_X3_init : GoodIn wsX5_init wsX3_init := goodIn_r _ [71, 72, 2, 3, 31, 73, 74, 104, 105] (by decide +kernel) (by decide +kernel)
set_option maxRecDepth 20000 in
theorem gX5_init_X3_init : GoodIn wsX5_init (wsX3_init) := ggX5_init_X3_init
theorem dX5_init_0 : decode cX5_init 0 = .ok (.aload_n 0, 1) := by decide +kernel
theorem dX5_init_1 : decode cX5_init 1 = .ok (.invokespecial 3, 3) := by decide +kernel
theorem dX5_init_4 : decode cX5_init 4 = .ok (.aload_n 0, 1) := by decide +kernel
theorem dX5_init_5 : decode cX5_init 5 = .ok (.new 9, 3) := by decide +kernel
theorem dX5_init_8 : decode cX5_init 8 = .ok (.dup, 1) := by decide +kernel
theorem dX5_init_9 : decode cX5_init 9 = .ok (.invokespecial 11, 3) := by decide +kernel
theorem dX5_init_12 : decode cX5_init 12 = .ok (.putfield 12, 3) := by decide +kernel
theorem dX5_init_15 : decode cX5_init 15 = .ok (.aload_n 0, 1) := by decide +kernel
theorem dX5_init_16 : decode cX5_init 16 = .ok (.bipush 8, 2) := by decide +kernel
theorem dX5_init_18 : decode cX5_init 18 = .ok (.anewarray 16, 3) := by decide +kernel
theorem dX5_init_21 : decode cX5_init 21 = .ok (.putfield 18, 3) := by decide +kernel
theorem dX5_init_24 : decode cX5_init 24 = .ok (.iconst 0, 1) := by decide +kernel
theorem dX5_init_25 : decode cX5_init 25 = .ok (.istore_n 1, 1) := by decide +kernel
theorem dX5_init_26 : decode cX5_init 26 = .ok (.iload_n 1, 1) := by decide +kernel
theorem dX5_init_27 : decode cX5_init 27 = .ok (.aload_n 0, 1) := by decide +kernel
theorem dX5_init_28 : decode cX5_init 28 = .ok (.getfield 18, 3) := by decide +kernel
theorem dX5_init_31 : decode cX5_init 31 = .ok (.arraylength, 1) := by decide +kernel
theorem dX5_init_32 : decode cX5_init 32 = .ok (.if_icmp .ge 22, 3) := by decide +kernel
theorem dX5_init_35 : decode cX5_init 35 = .ok (.aload_n 0, 1) := by decide +kernel
theorem dX5_init_36 : decode cX5_init 36 = .ok (.getfield 18, 3) := by decide +kernel
theorem dX5_init_39 : decode cX5_init 39 = .ok (.iload_n 1, 1) := by decide +kernel
theorem dX5_init_40 : decode cX5_init 40 = .ok (.new 16, 3) := by decide +kernel
theorem dX5_init_43 : decode cX5_init 43 = .ok (.dup, 1) := by decide +kernel
theorem dX5_init_44 : decode cX5_init 44 = .ok (.invokespecial 22, 3) := by decide +kernel
theorem dX5_init_47 : decode cX5_init 47 = .ok (.aastore, 1) := by decide +kernel
theorem dX5_init_48 : decode cX5_init 48 = .ok (.iinc 1 1, 3) := by decide +kernel
theorem dX5_init_51 : decode cX5_init 51 = .ok (.goto (-25), 3) := by decide +kernel
theorem dX5_init_54 : decode cX5_init 54 = .ok (.aload_n 0, 1) := by decide +kernel
theorem dX5_init_55 : decode cX5_init 55 = .ok (.new 16, 3) := by decide +kernel
theorem dX5_init_58 : decode cX5_init 58 = .ok (.dup, 1) := by decide +kernel
theorem dX5_init_59 : decode cX5_init 59 = .ok (.invokespecial 22, 3) := by decide +kernel
theorem dX5_init_62 : decode cX5_init 62 = .ok (.putfield 23, 3) := by decide +kernel
theorem dX5_init_65 : decode cX5_init 65 = .ok (.aload_n 0, 1) := by decide +kernel
theorem dX5_init_66 : decode cX5_init 66 = .ok (.new 27, 3) := by decide +kernel
theorem dX5_init_69 : decode cX5_init 69 = .ok (.dup, 1) := by decide +kernel
theorem dX5_init_70 : decode cX5_init 70 = .ok (.invokespecial 29, 3) := by decide +kernel
theorem dX5_init_73 : decode cX5_init 73 = .ok (.putfield 30, 3) := by decide +kernel
theorem dX5_init_76 : decode cX5_init 76 = .ok (.aload_n 0, 1) := by decide +kernel
theorem dX5_init_77 : decode cX5_init 77 = .ok (.new 34, 3) := by decide +kernel
theorem dX5_init_80 : decode cX5_init 80 = .ok (.dup, 1) := by decide +kernel
theorem dX5_init_81 : decode cX5_init 81 = .ok (.invokespecial 36, 3) := by decide +kernel
theorem dX5_init_84 : decode cX5_init 84 = .ok (.putfield 37, 3) := by decide +kernel
theorem dX5_init_87 : decode cX5_init 87 = .ok (.aload_n 0, 1) := by decide +kernel
theorem dX5_init_88 : decode cX5_init 88 = .ok (.new 41, 3) := by decide +kernel
theorem dX5_init_91 : decode cX5_init 91 = .ok (.dup, 1) := by decide +kernel
theorem dX5_init_92 : decode cX5_init 92 = .ok (.invokespecial 43, 3) := by decide +kernel
theorem dX5_init_95 : decode cX5_init 95 = .ok (.putfield 44, 3) := by decide +kernel
theorem dX5_init_98 : decode cX5_init 98 = .ok (.aload_n 0, 1) := by decide +kernel
theorem dX5_init_99 : decode cX5_init 99 = .ok (.lconst 0, 1) := by decide +kernel
theorem dX5_init_100 : decode cX5_init 100 = .ok (.putfield 48, 3) := by decide +kernel
theorem dX5_init_103 : decode cX5_init 103 = .ok (.aload_n 0, 1) := by decide +kernel
theorem dX5_init_104 : decode cX5_init 104 = .ok (.lconst 1, 1) := by decide +kernel
theorem dX5_init_105 : decode cX5_init 105 = .ok (.putfield 52, 3) := by decide +kernel
theorem dX5_init_108 : decode cX5_init 108 = .ok (.return_, 1) := by decide +kernel
set_option maxRecDepth 20000 in
theorem ggX5_source_X0_become : GoodIn wsX5_source wsX0_become := goodIn_r _ [9, 10, 11, 12, 13, 14, 8, 15, 36, 37, 38] (by decide +kernel) (by decide +kernel)
set_option maxRecDepth 20000 in
theorem gX5_source_X0_become : GoodIn wsX5_source (wsV RX5 55 RX0 yX0_become wsX0_become) := goodIn_app (goodIn_of _ (by decide +kernel)) ggX5_source_X0_become
set_option maxRecDepth 20000 in
theorem ggX5_source_X4_clear : GoodIn wsX5_source wsX4_clear := goodIn_r _ [20, 21, 39, 40, 41, 42, 43, 44, 45] (by decide +kernel) (by decide +kernel)
set_option maxRecDepth 20000 in
theorem gX5_source_X4_clear : GoodIn wsX5_source (wsV RX5 59 RX4 yX4_clear wsX4_clear) := goodIn_app (goodIn_of _ (by decide +kernel)) ggX5_source_X4_clear
set_option maxRecDepth 20000 in
theorem ggX5_source_X3_clear : GoodIn wsX5_source wsX3_clear := goodIn_r _ [26, 27, 46, 47] (by decide +kernel) (by decide +kernel)
set_option maxRecDepth 20000 in
theorem gX5_source_X3_clear : GoodIn wsX5_source (wsV RX5 62 RX3 yX3_clear wsX3_clear) := goodIn_app (goodIn_of _ (by decide +kernel)) ggX5_source_X3_clear
theorem dX5_source_0 : decode cX5_source 0 = .ok (.aload_n 0, 1) := by decide +kernel
theorem dX5_source_1 : decode cX5_source 1 = .ok (.getfield 12, 3) := by decide +kernel
theorem dX5_source_4 : decode cX5_source 4 = .ok (.iload_n 1, 1) := by decide +kernel
theorem dX5_source_5 : decode cX5_source 5 = .ok (.iload_n 2, 1) := by decide +kernel
theorem dX5_source_6 : decode cX5_source 6 = .ok (.iload_n 3, 1) := by decide +kernel
theorem dX5_source_7 : decode cX5_source 7 = .ok (.iload 4, 2) := by decide +kernel
theorem dX5_source_9 : decode cX5_source 9 = .ok (.iload 5, 2) := by decide +kernel
theorem dX5_source_11 : decode cX5_source 11 = .ok (.invokevirtual 55, 3) := by decide +kernel
theorem dX5_source_14 : decode cX5_source 14 = .ok (.ifCond .ne 5, 3) := by decide +kernel
theorem dX5_source_17 : decode cX5_source 17 = .ok (.iconst (-1), 1) := by decide +kernel
theorem dX5_source_18 : decode cX5_source 18 = .ok (.ireturn, 1) := by decide +kernel
theorem dX5_source_19 : decode cX5_source 19 = .ok (.iconst 0, 1) := by decide +kernel
theorem dX5_source_20 : decode cX5_source 20 = .ok (.istore 6, 2) := by decide +kernel
theorem dX5_source_22 : decode cX5_source 22 = .ok (.iload 6, 2) := by decide +kernel
theorem dX5_source_24 : decode cX5_source 24 = .ok (.aload_n 0, 1) := by decide +kernel
theorem dX5_source_25 : decode cX5_source 25 = .ok (.getfield 18, 3) := by decide +kernel
theorem dX5_source_28 : decode cX5_source 28 = .ok (.arraylength, 1) := by decide +kernel
theorem dX5_source_29 : decode cX5_source 29 = .ok (.if_icmp .ge 19, 3) := by decide +kernel
theorem dX5_source_32 : decode cX5_source 32 = .ok (.aload_n 0, 1) := by decide +kernel
theorem dX5_source_33 : decode cX5_source 33 = .ok (.getfield 18, 3) := by decide +kernel
theorem dX5_source_36 : decode cX5_source 36 = .ok (.iload 6, 2) := by decide +kernel
theorem dX5_source_38 : decode cX5_source 38 = .ok (.aaload, 1) := by decide +kernel
theorem dX5_source_39 : decode cX5_source 39 = .ok (.invokevirtual 59, 3) := by decide +kernel
theorem dX5_source_42 : decode cX5_source 42 = .ok (.iinc 6 1, 3) := by decide +kernel
theorem dX5_source_45 : decode cX5_source 45 = .ok (.goto (-23), 3) := by decide +kernel
theorem dX5_source_48 : decode cX5_source 48 = .ok (.aload_n 0, 1) := by decide +kernel
theorem dX5_source_49 : decode cX5_source 49 = .ok (.getfield 44, 3) := by decide +kernel
theorem dX5_source_52 : decode cX5_source 52 = .ok (.invokevirtual 62, 3) := by decide +kernel
theorem dX5_source_55 : decode cX5_source 55 = .ok (.aload_n 0, 1) := by decide +kernel
theorem dX5_source_56 : decode cX5_source 56 = .ok (.getfield 12, 3) := by decide +kernel
theorem dX5_source_59 : decode cX5_source 59 = .ok (.getfield 63, 3) := by decide +kernel
theorem dX5_source_62 : decode cX5_source 62 = .ok (.ireturn, 1) := by decide +kernel
set_option maxRecDepth 20000 in
theorem ggX5_word_X5_isSlot : GoodIn wsX5_word wsX5_isSlot := goodIn_r _ [6] (by decide +kernel) (by decide +kernel)
set_option maxRecDepth 20000 in
theorem gX5_word_X5_isSlot : GoodIn wsX5_word (va_wsS RX5 67 yX5_isSlot wsX5_isSlot) := goodIn_app (goodIn_of _ (by decide +kernel)) ggX5_word_X5_isSlot
set_option maxRecDepth 20000 in
theorem ggX5_word_X4_spell : GoodIn wsX5_word wsX4_spell := goodIn_r _ [11, 12, 13, 14, 15, 16, 17, 18, 19, 5, 20, 21, 22, 23, 10, 24, 25, 26, 27, 28, 29, 30, 31, 32, 33, 34, 35, 36, 37, 38, 39, 48, 49, 50, 51, 52, 53, 54, 55, 56, 57] (by decide +kernel) (by decide +kernel)
set_option maxRecDepth 20000 in
theorem gX5_word_X4_spell : GoodIn wsX5_word (wsV RX5 71 RX4 yX4_spell wsX4_spell) := goodIn_app (goodIn_of _ (by decide +kernel)) ggX5_word_X4_spell
theorem dX5_word_0 : decode cX5_word 0 = .ok (.iload_n 1, 1) := by decide +kernel
theorem dX5_word_1 : decode cX5_word 1 = .ok (.invokestatic 67, 3) := by decide +kernel
theorem dX5_word_4 : decode cX5_word 4 = .ok (.ifCond .eq 25, 3) := by decide +kernel
theorem dX5_word_7 : decode cX5_word 7 = .ok (.aload_n 0, 1) := by decide +kernel
theorem dX5_word_8 : decode cX5_word 8 = .ok (.getfield 18, 3) := by decide +kernel
theorem dX5_word_11 : decode cX5_word 11 = .ok (.iload_n 1, 1) := by decide +kernel
theorem dX5_word_12 : decode cX5_word 12 = .ok (.aaload, 1) := by decide +kernel
theorem dX5_word_13 : decode cX5_word 13 = .ok (.iload_n 2, 1) := by decide +kernel
theorem dX5_word_14 : decode cX5_word 14 = .ok (.iload_n 3, 1) := by decide +kernel
theorem dX5_word_15 : decode cX5_word 15 = .ok (.aload_n 0, 1) := by decide +kernel
theorem dX5_word_16 : decode cX5_word 16 = .ok (.getfield 12, 3) := by decide +kernel
theorem dX5_word_19 : decode cX5_word 19 = .ok (.invokevirtual 71, 3) := by decide +kernel
theorem dX5_word_22 : decode cX5_word 22 = .ok (.ifCond .eq 7, 3) := by decide +kernel
theorem dX5_word_25 : decode cX5_word 25 = .ok (.iconst 1, 1) := by decide +kernel
theorem dX5_word_26 : decode cX5_word 26 = .ok (.goto 4, 3) := by decide +kernel
theorem dX5_word_29 : decode cX5_word 29 = .ok (.iconst 0, 1) := by decide +kernel
theorem dX5_word_30 : decode cX5_word 30 = .ok (.ireturn, 1) := by decide +kernel
set_option maxRecDepth 20000 in
theorem ggX5_drop_X5_wordIn : GoodIn wsX5_drop wsX5_wordIn := goodIn_r _ [5, 6, 7, 8, 9, 4, 10, 17, 18, 19, 20, 21, 22, 23, 24, 25, 26, 27, 28, 29, 30, 31] (by decide +kernel) (by decide +kernel)
set_option maxRecDepth 20000 in
theorem gX5_drop_X5_wordIn : GoodIn wsX5_drop (wsV RX5 75 RX5 yX5_wordIn wsX5_wordIn) := goodIn_app (goodIn_of _ (by decide +kernel)) ggX5_drop_X5_wordIn
set_option maxRecDepth 20000 in
theorem ggX5_drop_X4_clear : GoodIn wsX5_drop wsX4_clear := goodIn_r _ [15, 16, 25, 26, 27, 28, 29, 30, 31] (by decide +kernel) (by decide +kernel)
set_option maxRecDepth 20000 in
theorem gX5_drop_X4_clear : GoodIn wsX5_drop (wsV RX5 59 RX4 yX4_clear wsX4_clear) := goodIn_app (goodIn_of _ (by decide +kernel)) ggX5_drop_X4_clear
theorem dX5_drop_0 : decode cX5_drop 0 = .ok (.aload_n 0, 1) := by decide +kernel
theorem dX5_drop_1 : decode cX5_drop 1 = .ok (.iload_n 1, 1) := by decide +kernel
theorem dX5_drop_2 : decode cX5_drop 2 = .ok (.invokevirtual 75, 3) := by decide +kernel
theorem dX5_drop_5 : decode cX5_drop 5 = .ok (.astore_n 2, 1) := by decide +kernel
theorem dX5_drop_6 : decode cX5_drop 6 = .ok (.aload_n 2, 1) := by decide +kernel
theorem dX5_drop_7 : decode cX5_drop 7 = .ok (.ifnonnull 5, 3) := by decide +kernel
theorem dX5_drop_10 : decode cX5_drop 10 = .ok (.iconst 0, 1) := by decide +kernel
theorem dX5_drop_11 : decode cX5_drop 11 = .ok (.ireturn, 1) := by decide +kernel
theorem dX5_drop_12 : decode cX5_drop 12 = .ok (.aload_n 2, 1) := by decide +kernel
theorem dX5_drop_13 : decode cX5_drop 13 = .ok (.invokevirtual 59, 3) := by decide +kernel
theorem dX5_drop_16 : decode cX5_drop 16 = .ok (.iconst 1, 1) := by decide +kernel
theorem dX5_drop_17 : decode cX5_drop 17 = .ok (.ireturn, 1) := by decide +kernel
set_option maxRecDepth 20000 in
theorem ggX5_tell_X5_wordIn : GoodIn wsX5_tell wsX5_wordIn := goodIn_r _ [7, 8, 1, 9, 10, 6, 11, 26, 27, 28, 29, 30, 31, 32, 33, 19, 20, 21, 22, 23, 24, 25] (by decide +kernel) (by decide +kernel)
set_option maxRecDepth 20000 in
theorem gX5_tell_X5_wordIn : GoodIn wsX5_tell (wsV RX5 75 RX5 yX5_wordIn wsX5_wordIn) := goodIn_app (goodIn_of _ (by decide +kernel)) ggX5_tell_X5_wordIn
set_option maxRecDepth 20000 in
theorem ggX5_tell_X4_letterAt : GoodIn wsX5_tell wsX4_letterAt := goodIn_r _ [16, 17, 18, 19, 20, 21, 22, 23, 24, 25] (by decide +kernel) (by decide +kernel)
set_option maxRecDepth 20000 in
theorem gX5_tell_X4_letterAt : GoodIn wsX5_tell (wsV RX5 85 RX4 yX4_letterAt wsX4_letterAt) := goodIn_app (goodIn_of _ (by decide +kernel)) ggX5_tell_X4_letterAt
theorem dX5_tell_0 : decode cX5_tell 0 = .ok (.aload_n 0, 1) := by decide +kernel
theorem dX5_tell_1 : decode cX5_tell 1 = .ok (.iload_n 1, 1) := by decide +kernel
theorem dX5_tell_2 : decode cX5_tell 2 = .ok (.invokevirtual 75, 3) := by decide +kernel
theorem dX5_tell_5 : decode cX5_tell 5 = .ok (.astore_n 3, 1) := by decide +kernel
theorem dX5_tell_6 : decode cX5_tell 6 = .ok (.aload_n 3, 1) := by decide +kernel
theorem dX5_tell_7 : decode cX5_tell 7 = .ok (.ifnull 7, 3) := by decide +kernel
theorem dX5_tell_10 : decode cX5_tell 10 = .ok (.iload_n 2, 1) := by decide +kernel
theorem dX5_tell_11 : decode cX5_tell 11 = .ok (.ifCond .ge 5, 3) := by decide +kernel
theorem dX5_tell_14 : decode cX5_tell 14 = .ok (.iconst (-1), 1) := by decide +kernel
theorem dX5_tell_15 : decode cX5_tell 15 = .ok (.ireturn, 1) := by decide +kernel
theorem dX5_tell_16 : decode cX5_tell 16 = .ok (.iload_n 2, 1) := by decide +kernel
theorem dX5_tell_17 : decode cX5_tell 17 = .ok (.ifCond .ne 8, 3) := by decide +kernel
theorem dX5_tell_20 : decode cX5_tell 20 = .ok (.aload_n 3, 1) := by decide +kernel
theorem dX5_tell_21 : decode cX5_tell 21 = .ok (.getfield 79, 3) := by decide +kernel
theorem dX5_tell_24 : decode cX5_tell 24 = .ok (.ireturn, 1) := by decide +kernel
theorem dX5_tell_25 : decode cX5_tell 25 = .ok (.iload_n 2, 1) := by decide +kernel
theorem dX5_tell_26 : decode cX5_tell 26 = .ok (.iconst 1, 1) := by decide +kernel
theorem dX5_tell_27 : decode cX5_tell 27 = .ok (.if_icmp .ne 10, 3) := by decide +kernel
theorem dX5_tell_30 : decode cX5_tell 30 = .ok (.aload_n 3, 1) := by decide +kernel
theorem dX5_tell_31 : decode cX5_tell 31 = .ok (.getfield 82, 3) := by decide +kernel
theorem dX5_tell_34 : decode cX5_tell 34 = .ok (.goto 10, 3) := by decide +kernel
theorem dX5_tell_37 : decode cX5_tell 37 = .ok (.aload_n 3, 1) := by decide +kernel
theorem dX5_tell_38 : decode cX5_tell 38 = .ok (.iload_n 2, 1) := by decide +kernel
theorem dX5_tell_39 : decode cX5_tell 39 = .ok (.iconst 2, 1) := by decide +kernel
theorem dX5_tell_40 : decode cX5_tell 40 = .ok (.isub, 1) := by decide +kernel
theorem dX5_tell_41 : decode cX5_tell 41 = .ok (.invokevirtual 85, 3) := by decide +kernel
theorem dX5_tell_44 : decode cX5_tell 44 = .ok (.ireturn, 1) := by decide +kernel
set_option maxRecDepth 20000 in
theorem ggX5_laps_X5_wordIn : GoodIn wsX5_laps wsX5_wordIn := goodIn_r _ [5, 6, 7, 8, 9, 4, 10, 27, 28, 29, 30, 31, 32, 33, 34, 35, 36, 37, 38, 39, 40, 41] (by decide +kernel) (by decide +kernel)
set_option maxRecDepth 20000 in
theorem gX5_laps_X5_wordIn : GoodIn wsX5_laps (wsV RX5 75 RX5 yX5_wordIn wsX5_wordIn) := goodIn_app (goodIn_of _ (by decide +kernel)) ggX5_laps_X5_wordIn
set_option maxRecDepth 20000 in
theorem ggX5_laps_X4_lapsOn : GoodIn wsX5_laps wsX4_lapsOn := goodIn_r _ [15, 16, 17, 18, 19, 20, 21, 22, 23, 14, 24, 25, 26, 35, 36, 37, 38, 39, 40, 41] (by decide +kernel) (by decide +kernel)
set_option maxRecDepth 20000 in
theorem gX5_laps_X4_lapsOn : GoodIn wsX5_laps (wsV RX5 89 RX4 yX4_lapsOn wsX4_lapsOn) := goodIn_app (goodIn_of _ (by decide +kernel)) ggX5_laps_X4_lapsOn
theorem dX5_laps_0 : decode cX5_laps 0 = .ok (.aload_n 0, 1) := by decide +kernel
theorem dX5_laps_1 : decode cX5_laps 1 = .ok (.iload_n 1, 1) := by decide +kernel
theorem dX5_laps_2 : decode cX5_laps 2 = .ok (.invokevirtual 75, 3) := by decide +kernel
theorem dX5_laps_5 : decode cX5_laps 5 = .ok (.astore_n 3, 1) := by decide +kernel
theorem dX5_laps_6 : decode cX5_laps 6 = .ok (.aload_n 0, 1) := by decide +kernel
theorem dX5_laps_7 : decode cX5_laps 7 = .ok (.iload_n 2, 1) := by decide +kernel
theorem dX5_laps_8 : decode cX5_laps 8 = .ok (.invokevirtual 75, 3) := by decide +kernel
theorem dX5_laps_11 : decode cX5_laps 11 = .ok (.astore 4, 2) := by decide +kernel
theorem dX5_laps_13 : decode cX5_laps 13 = .ok (.aload_n 3, 1) := by decide +kernel
theorem dX5_laps_14 : decode cX5_laps 14 = .ok (.ifnull 8, 3) := by decide +kernel
theorem dX5_laps_17 : decode cX5_laps 17 = .ok (.aload 4, 2) := by decide +kernel
theorem dX5_laps_19 : decode cX5_laps 19 = .ok (.ifnonnull 7, 3) := by decide +kernel
theorem dX5_laps_22 : decode cX5_laps 22 = .ok (.iconst (-1), 1) := by decide +kernel
theorem dX5_laps_23 : decode cX5_laps 23 = .ok (.goto 9, 3) := by decide +kernel
theorem dX5_laps_26 : decode cX5_laps 26 = .ok (.aload_n 3, 1) := by decide +kernel
theorem dX5_laps_27 : decode cX5_laps 27 = .ok (.aload 4, 2) := by decide +kernel
theorem dX5_laps_29 : decode cX5_laps 29 = .ok (.invokevirtual 89, 3) := by decide +kernel
theorem dX5_laps_32 : decode cX5_laps 32 = .ok (.ireturn, 1) := by decide +kernel
set_option maxRecDepth 20000 in
theorem ggX5_within_X5_wordIn : GoodIn wsX5_within wsX5_wordIn := goodIn_r _ [5, 6, 7, 8, 9, 4, 10, 22, 23, 24, 25, 26, 27, 28, 29, 30, 31, 32, 33, 34, 35, 36] (by decide +kernel) (by decide +kernel)
set_option maxRecDepth 20000 in
theorem gX5_within_X5_wordIn : GoodIn wsX5_within (wsV RX5 75 RX5 yX5_wordIn wsX5_wordIn) := goodIn_app (goodIn_of _ (by decide +kernel)) ggX5_within_X5_wordIn
set_option maxRecDepth 20000 in
theorem ggX5_within_X4_liesWithin : GoodIn wsX5_within wsX4_liesWithin := goodIn_r _ [15, 16, 17, 18, 19, 20, 14, 21, 30, 31, 32, 33, 34, 35, 36] (by decide +kernel) (by decide +kernel)
set_option maxRecDepth 20000 in
theorem gX5_within_X4_liesWithin : GoodIn wsX5_within (wsV RX5 93 RX4 yX4_liesWithin wsX4_liesWithin) := goodIn_app (goodIn_of _ (by decide +kernel)) ggX5_within_X4_liesWithin
theorem dX5_within_0 : decode cX5_within 0 = .ok (.aload_n 0, 1) := by decide +kernel
theorem dX5_within_1 : decode cX5_within 1 = .ok (.iload_n 1, 1) := by decide +kernel
theorem dX5_within_2 : decode cX5_within 2 = .ok (.invokevirtual 75, 3) := by decide +kernel
theorem dX5_within_5 : decode cX5_within 5 = .ok (.astore_n 3, 1) := by decide +kernel
theorem dX5_within_6 : decode cX5_within 6 = .ok (.aload_n 0, 1) := by decide +kernel
theorem dX5_within_7 : decode cX5_within 7 = .ok (.iload_n 2, 1) := by decide +kernel
theorem dX5_within_8 : decode cX5_within 8 = .ok (.invokevirtual 75, 3) := by decide +kernel
theorem dX5_within_11 : decode cX5_within 11 = .ok (.astore 4, 2) := by decide +kernel
theorem dX5_within_13 : decode cX5_within 13 = .ok (.aload_n 3, 1) := by decide +kernel
theorem dX5_within_14 : decode cX5_within 14 = .ok (.ifnull 21, 3) := by decide +kernel
theorem dX5_within_17 : decode cX5_within 17 = .ok (.aload 4, 2) := by decide +kernel
theorem dX5_within_19 : decode cX5_within 19 = .ok (.ifnull 16, 3) := by decide +kernel
theorem dX5_within_22 : decode cX5_within 22 = .ok (.aload_n 3, 1) := by decide +kernel
theorem dX5_within_23 : decode cX5_within 23 = .ok (.aload 4, 2) := by decide +kernel
theorem dX5_within_25 : decode cX5_within 25 = .ok (.invokevirtual 93, 3) := by decide +kernel
theorem dX5_within_28 : decode cX5_within 28 = .ok (.ifCond .eq 7, 3) := by decide +kernel
theorem dX5_within_31 : decode cX5_within 31 = .ok (.iconst 1, 1) := by decide +kernel
theorem dX5_within_32 : decode cX5_within 32 = .ok (.goto 4, 3) := by decide +kernel
theorem dX5_within_35 : decode cX5_within 35 = .ok (.iconst 0, 1) := by decide +kernel
theorem dX5_within_36 : decode cX5_within 36 = .ok (.ireturn, 1) := by decide +kernel
set_option maxRecDepth 20000 in
theorem ggX5_lead_X5_wordIn : GoodIn wsX5_lead wsX5_wordIn := goodIn_r _ [5, 6, 7, 8, 9, 4, 10, 44, 45, 46, 47, 48, 49, 50, 51, 52, 53, 54, 55, 56, 57, 58] (by decide +kernel) (by decide +kernel)
set_option maxRecDepth 20000 in
theorem gX5_lead_X5_wordIn : GoodIn wsX5_lead (wsV RX5 75 RX5 yX5_wordIn wsX5_wordIn) := goodIn_app (goodIn_of _ (by decide +kernel)) ggX5_lead_X5_wordIn
set_option maxRecDepth 20000 in
theorem ggX5_lead_X4_leadOn : GoodIn wsX5_lead wsX4_leadOn := goodIn_r _ [15, 16, 17, 18, 19, 20, 21, 22, 23, 24, 14, 25, 26, 27, 52, 53, 54, 55, 56, 57, 58] (by decide +kernel) (by decide +kernel)
set_option maxRecDepth 20000 in
theorem gX5_lead_X4_leadOn : GoodIn wsX5_lead (wsV RX5 97 RX4 yX4_leadOn wsX4_leadOn) := goodIn_app (goodIn_of _ (by decide +kernel)) ggX5_lead_X4_leadOn
set_option maxRecDepth 20000 in
theorem ggX5_lead_X4_leadBottom : GoodIn wsX5_lead wsX4_leadBottom := goodIn_r _ [31, 21, 52, 53, 54, 55, 56, 57, 58] (by decide +kernel) (by decide +kernel)
set_option maxRecDepth 20000 in
theorem gX5_lead_X4_leadBottom : GoodIn wsX5_lead (wsV RX5 101 RX4 yX4_leadBottom wsX4_leadBottom) := goodIn_app (goodIn_of _ (by decide +kernel)) ggX5_lead_X4_leadBottom
set_option maxRecDepth 20000 in
theorem ggX5_lead_X5_hold : GoodIn wsX5_lead wsX5_hold := goodIn_r _ [35, 36, 37, 19, 38, 39, 40, 41, 42, 4, 43, 44, 45, 46, 47, 48, 49, 50, 51] (by decide +kernel) (by decide +kernel)
set_option maxRecDepth 20000 in
theorem gX5_lead_X5_hold : GoodIn wsX5_lead (wsV RX5 105 RX5 yX5_hold wsX5_hold) := goodIn_app (goodIn_of _ (by decide +kernel)) ggX5_lead_X5_hold
theorem dX5_lead_0 : decode cX5_lead 0 = .ok (.aload_n 0, 1) := by decide +kernel
theorem dX5_lead_1 : decode cX5_lead 1 = .ok (.iload_n 1, 1) := by decide +kernel
theorem dX5_lead_2 : decode cX5_lead 2 = .ok (.invokevirtual 75, 3) := by decide +kernel
theorem dX5_lead_5 : decode cX5_lead 5 = .ok (.astore_n 3, 1) := by decide +kernel
theorem dX5_lead_6 : decode cX5_lead 6 = .ok (.aload_n 0, 1) := by decide +kernel
theorem dX5_lead_7 : decode cX5_lead 7 = .ok (.iload_n 2, 1) := by decide +kernel
theorem dX5_lead_8 : decode cX5_lead 8 = .ok (.invokevirtual 75, 3) := by decide +kernel
theorem dX5_lead_11 : decode cX5_lead 11 = .ok (.astore 4, 2) := by decide +kernel
theorem dX5_lead_13 : decode cX5_lead 13 = .ok (.aload_n 3, 1) := by decide +kernel
theorem dX5_lead_14 : decode cX5_lead 14 = .ok (.ifnull 8, 3) := by decide +kernel
theorem dX5_lead_17 : decode cX5_lead 17 = .ok (.aload 4, 2) := by decide +kernel
theorem dX5_lead_19 : decode cX5_lead 19 = .ok (.ifnonnull 5, 3) := by decide +kernel
theorem dX5_lead_22 : decode cX5_lead 22 = .ok (.iconst 0, 1) := by decide +kernel
theorem dX5_lead_23 : decode cX5_lead 23 = .ok (.ireturn, 1) := by decide +kernel
theorem dX5_lead_24 : decode cX5_lead 24 = .ok (.aload_n 0, 1) := by decide +kernel
theorem dX5_lead_25 : decode cX5_lead 25 = .ok (.aload_n 3, 1) := by decide +kernel
theorem dX5_lead_26 : decode cX5_lead 26 = .ok (.aload 4, 2) := by decide +kernel
theorem dX5_lead_28 : decode cX5_lead 28 = .ok (.invokevirtual 97, 3) := by decide +kernel
theorem dX5_lead_31 : decode cX5_lead 31 = .ok (.aload 4, 2) := by decide +kernel
theorem dX5_lead_33 : decode cX5_lead 33 = .ok (.invokevirtual 101, 3) := by decide +kernel
theorem dX5_lead_36 : decode cX5_lead 36 = .ok (.invokevirtual 105, 3) := by decide +kernel
theorem dX5_lead_39 : decode cX5_lead 39 = .ok (.iconst 1, 1) := by decide +kernel
theorem dX5_lead_40 : decode cX5_lead 40 = .ok (.ireturn, 1) := by decide +kernel
set_option maxRecDepth 20000 in
theorem ggX5_wait_X5_wordIn : GoodIn wsX5_wait wsX5_wordIn := goodIn_r _ [6, 7, 8, 9, 10, 5, 11, 51, 52, 53, 54, 55, 56, 57, 58, 44, 45, 46, 47, 48, 49, 50] (by decide +kernel) (by decide +kernel)
set_option maxRecDepth 20000 in
theorem gX5_wait_X5_wordIn : GoodIn wsX5_wait (wsV RX5 75 RX5 yX5_wordIn wsX5_wordIn) := goodIn_app (goodIn_of _ (by decide +kernel)) ggX5_wait_X5_wordIn
set_option maxRecDepth 20000 in
theorem ggX5_wait_X4_leadBottom : GoodIn wsX5_wait wsX4_leadBottom := goodIn_r _ [16, 17, 44, 45, 46, 47, 48, 49, 50] (by decide +kernel) (by decide +kernel)
set_option maxRecDepth 20000 in
theorem gX5_wait_X4_leadBottom : GoodIn wsX5_wait (wsV RX5 101 RX4 yX4_leadBottom wsX4_leadBottom) := goodIn_app (goodIn_of _ (by decide +kernel)) ggX5_wait_X4_leadBottom
set_option maxRecDepth 20000 in
theorem ggX5_wait_X5_hold : GoodIn wsX5_wait wsX5_hold := goodIn_r _ [21, 22, 23, 24, 25, 26, 27, 28, 29, 5, 30, 51, 52, 53, 54, 55, 56, 57, 58] (by decide +kernel) (by decide +kernel)
set_option maxRecDepth 20000 in
theorem gX5_wait_X5_hold : GoodIn wsX5_wait (wsV RX5 105 RX5 yX5_hold wsX5_hold) := goodIn_app (goodIn_of _ (by decide +kernel)) ggX5_wait_X5_hold
set_option maxRecDepth 20000 in
theorem ggX5_wait_X4_spreadTop : GoodIn wsX5_wait wsX4_spreadTop := goodIn_r _ [34, 35, 17, 36, 37, 38, 39, 15, 40, 41, 42, 43, 13, 14, 16, 44, 45, 46, 47, 48, 49, 50] (by decide +kernel) (by decide +kernel)
set_option maxRecDepth 20000 in
theorem gX5_wait_X4_spreadTop : GoodIn wsX5_wait (wsV RX5 112 RX4 yX4_spreadTop wsX4_spreadTop) := goodIn_app (goodIn_of _ (by decide +kernel)) ggX5_wait_X4_spreadTop
theorem dX5_wait_0 : decode cX5_wait 0 = .ok (.aload_n 0, 1) := by decide +kernel
theorem dX5_wait_1 : decode cX5_wait 1 = .ok (.iload_n 1, 1) := by decide +kernel
theorem dX5_wait_2 : decode cX5_wait 2 = .ok (.invokevirtual 75, 3) := by decide +kernel
theorem dX5_wait_5 : decode cX5_wait 5 = .ok (.astore_n 3, 1) := by decide +kernel
theorem dX5_wait_6 : decode cX5_wait 6 = .ok (.aload_n 3, 1) := by decide +kernel
theorem dX5_wait_7 : decode cX5_wait 7 = .ok (.ifnull 12, 3) := by decide +kernel
theorem dX5_wait_10 : decode cX5_wait 10 = .ok (.iload_n 2, 1) := by decide +kernel
theorem dX5_wait_11 : decode cX5_wait 11 = .ok (.ifCond .lt 8, 3) := by decide +kernel
theorem dX5_wait_14 : decode cX5_wait 14 = .ok (.iload_n 2, 1) := by decide +kernel
theorem dX5_wait_15 : decode cX5_wait 15 = .ok (.iconst 1, 1) := by decide +kernel
theorem dX5_wait_16 : decode cX5_wait 16 = .ok (.if_icmp .le 5, 3) := by decide +kernel
theorem dX5_wait_19 : decode cX5_wait 19 = .ok (.iconst 0, 1) := by decide +kernel
theorem dX5_wait_20 : decode cX5_wait 20 = .ok (.ireturn, 1) := by decide +kernel
theorem dX5_wait_21 : decode cX5_wait 21 = .ok (.iload_n 2, 1) := by decide +kernel
theorem dX5_wait_22 : decode cX5_wait 22 = .ok (.ifCond .ne 18, 3) := by decide +kernel
theorem dX5_wait_25 : decode cX5_wait 25 = .ok (.aload_n 0, 1) := by decide +kernel
theorem dX5_wait_26 : decode cX5_wait 26 = .ok (.aload_n 3, 1) := by decide +kernel
theorem dX5_wait_27 : decode cX5_wait 27 = .ok (.getfield 109, 3) := by decide +kernel
theorem dX5_wait_30 : decode cX5_wait 30 = .ok (.aload_n 3, 1) := by decide +kernel
theorem dX5_wait_31 : decode cX5_wait 31 = .ok (.invokevirtual 101, 3) := by decide +kernel
theorem dX5_wait_34 : decode cX5_wait 34 = .ok (.invokevirtual 105, 3) := by decide +kernel
theorem dX5_wait_37 : decode cX5_wait 37 = .ok (.goto 20, 3) := by decide +kernel
theorem dX5_wait_40 : decode cX5_wait 40 = .ok (.aload_n 0, 1) := by decide +kernel
theorem dX5_wait_41 : decode cX5_wait 41 = .ok (.aload_n 3, 1) := by decide +kernel
theorem dX5_wait_42 : decode cX5_wait 42 = .ok (.invokevirtual 112, 3) := by decide +kernel
theorem dX5_wait_45 : decode cX5_wait 45 = .ok (.aload_n 3, 1) := by decide +kernel
theorem dX5_wait_46 : decode cX5_wait 46 = .ok (.invokevirtual 101, 3) := by decide +kernel
theorem dX5_wait_49 : decode cX5_wait 49 = .ok (.aload_n 3, 1) := by decide +kernel
theorem dX5_wait_50 : decode cX5_wait 50 = .ok (.invokevirtual 101, 3) := by decide +kernel
theorem dX5_wait_53 : decode cX5_wait 53 = .ok (.lmul, 1) := by decide +kernel
theorem dX5_wait_54 : decode cX5_wait 54 = .ok (.invokevirtual 105, 3) := by decide +kernel
theorem dX5_wait_57 : decode cX5_wait 57 = .ok (.iconst 1, 1) := by decide +kernel
theorem dX5_wait_58 : decode cX5_wait 58 = .ok (.ireturn, 1) := by decide +kernel
set_option maxRecDepth 20000 in
theorem ggX5_first_X5_enterList : GoodIn wsX5_first wsX5_enterList := goodIn_r _ [6, 1, 7, 8, 9, 10, 11, 12, 13, 14, 15, 16, 17, 18, 5, 19, 20, 21, 22, 23, 24, 25, 26, 27, 28, 29, 30, 31, 32, 33, 34, 35, 36, 37, 38, 39, 40, 41, 42, 43, 44, 45, 46, 47, 48, 49, 50, 51, 52, 53, 54, 55, 56, 57, 58, 95, 96, 97, 98, 99, 100, 101, 102, 103, 104, 105, 106, 107, 108, 109, 110, 111, 112, 113] (by decide +kernel) (by decide +kernel)
set_option maxRecDepth 20000 in
theorem gX5_first_X5_enterList : GoodIn wsX5_first (wsV RX5 115 RX5 yX5_enterList wsX5_enterList) := goodIn_app (goodIn_of _ (by decide +kernel)) ggX5_first_X5_enterList
set_option maxRecDepth 20000 in
theorem ggX5_first_X2_determinant : GoodIn wsX5_first wsX2_determinant := goodIn_r _ [62, 63, 64, 65, 10, 66, 14, 15, 67, 68, 69, 70, 103, 104, 105, 106] (by decide +kernel) (by decide +kernel)
set_option maxRecDepth 20000 in
theorem gX5_first_X2_determinant : GoodIn wsX5_first (wsV RX5 118 RX2 yX2_determinant wsX2_determinant) := goodIn_app (goodIn_of _ (by decide +kernel)) ggX5_first_X2_determinant
set_option maxRecDepth 20000 in
theorem ggX5_first_X2_sumOfShares : GoodIn wsX5_first wsX2_sumOfShares := goodIn_r _ [74, 12, 75, 60, 61, 10, 62, 63, 64, 65, 66, 14, 15, 67, 68, 69, 70, 103, 104, 105, 106] (by decide +kernel) (by decide +kernel)
set_option maxRecDepth 20000 in
theorem gX5_first_X2_sumOfShares : GoodIn wsX5_first (wsV RX5 122 RX2 yX2_sumOfShares wsX2_sumOfShares) := goodIn_app (goodIn_of _ (by decide +kernel)) ggX5_first_X2_sumOfShares
set_option maxRecDepth 20000 in
theorem ggX5_first_X5_hold : GoodIn wsX5_first wsX5_hold := goodIn_r _ [79, 80, 81, 51, 82, 83, 84, 85, 86, 5, 87, 95, 96, 97, 98, 99, 100, 101, 102] (by decide +kernel) (by decide +kernel)
set_option maxRecDepth 20000 in
theorem gX5_first_X5_hold : GoodIn wsX5_first (wsV RX5 105 RX5 yX5_hold wsX5_hold) := goodIn_app (goodIn_of _ (by decide +kernel)) ggX5_first_X5_hold
set_option maxRecDepth 20000 in
theorem ggX5_first_X5_isSlot : GoodIn wsX5_first wsX5_isSlot := goodIn_r _ [24] (by decide +kernel) (by decide +kernel)
set_option maxRecDepth 20000 in
theorem gX5_first_X5_isSlot : GoodIn wsX5_first (va_wsS RX5 67 yX5_isSlot wsX5_isSlot) := goodIn_app (goodIn_of _ (by decide +kernel)) ggX5_first_X5_isSlot
set_option maxRecDepth 20000 in
theorem ggX5_first_J6_bitCount_0f7a4 : GoodIn wsX5_first wsJ6_bitCount_0f7a4 := goodIn_r _ [91, 92, 93, 94] (by decide +kernel) (by decide +kernel)
set_option maxRecDepth 20000 in
theorem gX5_first_J6_bitCount_0f7a4 : GoodIn wsX5_first (va_wsS RX5 125 yJ6_bitCount_0f7a4 wsJ6_bitCount_0f7a4) := goodIn_app (goodIn_of _ (by decide +kernel)) ggX5_first_J6_bitCount_0f7a4
theorem dX5_first_0 : decode cX5_first 0 = .ok (.aload_n 0, 1) := by decide +kernel
theorem dX5_first_1 : decode cX5_first 1 = .ok (.iload_n 1, 1) := by decide +kernel
theorem dX5_first_2 : decode cX5_first 2 = .ok (.invokevirtual 115, 3) := by decide +kernel
theorem dX5_first_5 : decode cX5_first 5 = .ok (.ifCond .ne 5, 3) := by decide +kernel
theorem dX5_first_8 : decode cX5_first 8 = .ok (.iconst 0, 1) := by decide +kernel
theorem dX5_first_9 : decode cX5_first 9 = .ok (.ireturn, 1) := by decide +kernel
theorem dX5_first_10 : decode cX5_first 10 = .ok (.iload_n 2, 1) := by decide +kernel
theorem dX5_first_11 : decode cX5_first 11 = .ok (.iconst (-1), 1) := by decide +kernel
theorem dX5_first_12 : decode cX5_first 12 = .ok (.if_icmp .ne 24, 3) := by decide +kernel
theorem dX5_first_15 : decode cX5_first 15 = .ok (.aload_n 0, 1) := by decide +kernel
theorem dX5_first_16 : decode cX5_first 16 = .ok (.aload_n 0, 1) := by decide +kernel
theorem dX5_first_17 : decode cX5_first 17 = .ok (.getfield 30, 3) := by decide +kernel
theorem dX5_first_20 : decode cX5_first 20 = .ok (.iconst (-1), 1) := by decide +kernel
theorem dX5_first_21 : decode cX5_first 21 = .ok (.invokevirtual 118, 3) := by decide +kernel
theorem dX5_first_24 : decode cX5_first 24 = .ok (.aload_n 0, 1) := by decide +kernel
theorem dX5_first_25 : decode cX5_first 25 = .ok (.getfield 30, 3) := by decide +kernel
theorem dX5_first_28 : decode cX5_first 28 = .ok (.invokevirtual 122, 3) := by decide +kernel
theorem dX5_first_31 : decode cX5_first 31 = .ok (.invokevirtual 105, 3) := by decide +kernel
theorem dX5_first_34 : decode cX5_first 34 = .ok (.iconst 1, 1) := by decide +kernel
theorem dX5_first_35 : decode cX5_first 35 = .ok (.ireturn, 1) := by decide +kernel
theorem dX5_first_36 : decode cX5_first 36 = .ok (.iload_n 2, 1) := by decide +kernel
theorem dX5_first_37 : decode cX5_first 37 = .ok (.invokestatic 67, 3) := by decide +kernel
theorem dX5_first_40 : decode cX5_first 40 = .ok (.ifCond .eq 11, 3) := by decide +kernel
theorem dX5_first_43 : decode cX5_first 43 = .ok (.iload_n 1, 1) := by decide +kernel
theorem dX5_first_44 : decode cX5_first 44 = .ok (.iload_n 2, 1) := by decide +kernel
theorem dX5_first_45 : decode cX5_first 45 = .ok (.ishr, 1) := by decide +kernel
theorem dX5_first_46 : decode cX5_first 46 = .ok (.iconst 1, 1) := by decide +kernel
theorem dX5_first_47 : decode cX5_first 47 = .ok (.iand, 1) := by decide +kernel
theorem dX5_first_48 : decode cX5_first 48 = .ok (.ifCond .ne 5, 3) := by decide +kernel
theorem dX5_first_51 : decode cX5_first 51 = .ok (.iconst 0, 1) := by decide +kernel
theorem dX5_first_52 : decode cX5_first 52 = .ok (.ireturn, 1) := by decide +kernel
theorem dX5_first_53 : decode cX5_first 53 = .ok (.iload_n 1, 1) := by decide +kernel
theorem dX5_first_54 : decode cX5_first 54 = .ok (.iconst 1, 1) := by decide +kernel
theorem dX5_first_55 : decode cX5_first 55 = .ok (.iload_n 2, 1) := by decide +kernel
theorem dX5_first_56 : decode cX5_first 56 = .ok (.ishl, 1) := by decide +kernel
theorem dX5_first_57 : decode cX5_first 57 = .ok (.iconst 1, 1) := by decide +kernel
theorem dX5_first_58 : decode cX5_first 58 = .ok (.isub, 1) := by decide +kernel
theorem dX5_first_59 : decode cX5_first 59 = .ok (.iand, 1) := by decide +kernel
theorem dX5_first_60 : decode cX5_first 60 = .ok (.invokestatic 125, 3) := by decide +kernel
theorem dX5_first_63 : decode cX5_first 63 = .ok (.istore_n 3, 1) := by decide +kernel
theorem dX5_first_64 : decode cX5_first 64 = .ok (.aload_n 0, 1) := by decide +kernel
theorem dX5_first_65 : decode cX5_first 65 = .ok (.aload_n 0, 1) := by decide +kernel
theorem dX5_first_66 : decode cX5_first 66 = .ok (.getfield 30, 3) := by decide +kernel
theorem dX5_first_69 : decode cX5_first 69 = .ok (.iload_n 3, 1) := by decide +kernel
theorem dX5_first_70 : decode cX5_first 70 = .ok (.invokevirtual 118, 3) := by decide +kernel
theorem dX5_first_73 : decode cX5_first 73 = .ok (.aload_n 0, 1) := by decide +kernel
theorem dX5_first_74 : decode cX5_first 74 = .ok (.getfield 30, 3) := by decide +kernel
theorem dX5_first_77 : decode cX5_first 77 = .ok (.invokevirtual 122, 3) := by decide +kernel
theorem dX5_first_80 : decode cX5_first 80 = .ok (.invokevirtual 105, 3) := by decide +kernel
theorem dX5_first_83 : decode cX5_first 83 = .ok (.iconst 1, 1) := by decide +kernel
theorem dX5_first_84 : decode cX5_first 84 = .ok (.ireturn, 1) := by decide +kernel
set_option maxRecDepth 20000 in
theorem ggX5_odds_X5_wordIn : GoodIn wsX5_odds wsX5_wordIn := goodIn_r _ [6, 7, 8, 9, 10, 5, 11, 74, 75, 76, 77, 78, 79, 80, 81, 82, 83, 84, 85, 86, 87, 88] (by decide +kernel) (by decide +kernel)
set_option maxRecDepth 20000 in
theorem gX5_odds_X5_wordIn : GoodIn wsX5_odds (wsV RX5 75 RX5 yX5_wordIn wsX5_wordIn) := goodIn_app (goodIn_of _ (by decide +kernel)) ggX5_odds_X5_wordIn
set_option maxRecDepth 20000 in
theorem ggX5_odds_X2_clear : GoodIn wsX5_odds wsX2_clear := goodIn_r _ [16, 17, 18, 19, 20, 89, 90, 91, 92] (by decide +kernel) (by decide +kernel)
set_option maxRecDepth 20000 in
theorem gX5_odds_X2_clear : GoodIn wsX5_odds (wsV RX5 130 RX2 yX2_clear wsX2_clear) := goodIn_app (goodIn_of _ (by decide +kernel)) ggX5_odds_X2_clear
set_option maxRecDepth 20000 in
theorem ggX5_odds_X2_enter : GoodIn wsX5_odds wsX2_enter := goodIn_r _ [24, 17, 18, 19, 20, 25, 26, 27, 28, 29, 30, 31, 32, 33, 34, 35, 36, 37, 38, 39, 40, 41, 42, 43, 44, 45, 46, 47, 48, 49, 50, 51, 52, 53, 54, 89, 90, 91, 92, 82, 83, 84, 85, 86, 87, 88] (by decide +kernel) (by decide +kernel)
set_option maxRecDepth 20000 in
theorem gX5_odds_X2_enter : GoodIn wsX5_odds (wsV RX5 131 RX2 yX2_enter wsX2_enter) := goodIn_app (goodIn_of _ (by decide +kernel)) ggX5_odds_X2_enter
set_option maxRecDepth 20000 in
theorem ggX5_odds_X4_edgeOver : GoodIn wsX5_odds wsX4_edgeOver := goodIn_r _ [58, 59, 60, 37, 38, 28, 39, 40, 61, 42, 43, 44, 30, 45, 46, 47, 48, 49, 50, 51, 52, 53, 54, 82, 83, 84, 85, 86, 87, 88] (by decide +kernel) (by decide +kernel)
set_option maxRecDepth 20000 in
theorem gX5_odds_X4_edgeOver : GoodIn wsX5_odds (wsV RX5 134 RX4 yX4_edgeOver wsX4_edgeOver) := goodIn_app (goodIn_of _ (by decide +kernel)) ggX5_odds_X4_edgeOver
set_option maxRecDepth 20000 in
theorem ggX5_odds_X5_hold : GoodIn wsX5_odds wsX5_hold := goodIn_r _ [65, 66, 67, 47, 68, 69, 70, 71, 72, 5, 73, 74, 75, 76, 77, 78, 79, 80, 81] (by decide +kernel) (by decide +kernel)
set_option maxRecDepth 20000 in
theorem gX5_odds_X5_hold : GoodIn wsX5_odds (wsV RX5 105 RX5 yX5_hold wsX5_hold) := goodIn_app (goodIn_of _ (by decide +kernel)) ggX5_odds_X5_hold
theorem dX5_odds_0 : decode cX5_odds 0 = .ok (.aload_n 0, 1) := by decide +kernel
theorem dX5_odds_1 : decode cX5_odds 1 = .ok (.iload_n 1, 1) := by decide +kernel
theorem dX5_odds_2 : decode cX5_odds 2 = .ok (.invokevirtual 75, 3) := by decide +kernel
theorem dX5_odds_5 : decode cX5_odds 5 = .ok (.astore_n 3, 1) := by decide +kernel
theorem dX5_odds_6 : decode cX5_odds 6 = .ok (.aload_n 0, 1) := by decide +kernel
theorem dX5_odds_7 : decode cX5_odds 7 = .ok (.iload_n 2, 1) := by decide +kernel
theorem dX5_odds_8 : decode cX5_odds 8 = .ok (.invokevirtual 75, 3) := by decide +kernel
theorem dX5_odds_11 : decode cX5_odds 11 = .ok (.astore 4, 2) := by decide +kernel
theorem dX5_odds_13 : decode cX5_odds 13 = .ok (.aload_n 0, 1) := by decide +kernel
theorem dX5_odds_14 : decode cX5_odds 14 = .ok (.getfield 30, 3) := by decide +kernel
theorem dX5_odds_17 : decode cX5_odds 17 = .ok (.invokevirtual 130, 3) := by decide +kernel
theorem dX5_odds_20 : decode cX5_odds 20 = .ok (.aload_n 3, 1) := by decide +kernel
theorem dX5_odds_21 : decode cX5_odds 21 = .ok (.ifnull 31, 3) := by decide +kernel
theorem dX5_odds_24 : decode cX5_odds 24 = .ok (.aload 4, 2) := by decide +kernel
theorem dX5_odds_26 : decode cX5_odds 26 = .ok (.ifnull 26, 3) := by decide +kernel
theorem dX5_odds_29 : decode cX5_odds 29 = .ok (.aload_n 0, 1) := by decide +kernel
theorem dX5_odds_30 : decode cX5_odds 30 = .ok (.getfield 30, 3) := by decide +kernel
theorem dX5_odds_33 : decode cX5_odds 33 = .ok (.aload_n 3, 1) := by decide +kernel
theorem dX5_odds_34 : decode cX5_odds 34 = .ok (.invokevirtual 131, 3) := by decide +kernel
theorem dX5_odds_37 : decode cX5_odds 37 = .ok (.ifCond .eq 15, 3) := by decide +kernel
theorem dX5_odds_40 : decode cX5_odds 40 = .ok (.aload_n 0, 1) := by decide +kernel
theorem dX5_odds_41 : decode cX5_odds 41 = .ok (.getfield 30, 3) := by decide +kernel
theorem dX5_odds_44 : decode cX5_odds 44 = .ok (.aload 4, 2) := by decide +kernel
theorem dX5_odds_46 : decode cX5_odds 46 = .ok (.invokevirtual 131, 3) := by decide +kernel
theorem dX5_odds_49 : decode cX5_odds 49 = .ok (.ifCond .ne 5, 3) := by decide +kernel
theorem dX5_odds_52 : decode cX5_odds 52 = .ok (.iconst 0, 1) := by decide +kernel
theorem dX5_odds_53 : decode cX5_odds 53 = .ok (.ireturn, 1) := by decide +kernel
theorem dX5_odds_54 : decode cX5_odds 54 = .ok (.aload_n 0, 1) := by decide +kernel
theorem dX5_odds_55 : decode cX5_odds 55 = .ok (.aload 4, 2) := by decide +kernel
theorem dX5_odds_57 : decode cX5_odds 57 = .ok (.aload_n 3, 1) := by decide +kernel
theorem dX5_odds_58 : decode cX5_odds 58 = .ok (.invokevirtual 134, 3) := by decide +kernel
theorem dX5_odds_61 : decode cX5_odds 61 = .ok (.aload_n 3, 1) := by decide +kernel
theorem dX5_odds_62 : decode cX5_odds 62 = .ok (.aload 4, 2) := by decide +kernel
theorem dX5_odds_64 : decode cX5_odds 64 = .ok (.invokevirtual 134, 3) := by decide +kernel
theorem dX5_odds_67 : decode cX5_odds 67 = .ok (.invokevirtual 105, 3) := by decide +kernel
theorem dX5_odds_70 : decode cX5_odds 70 = .ok (.iconst 1, 1) := by decide +kernel
theorem dX5_odds_71 : decode cX5_odds 71 = .ok (.ireturn, 1) := by decide +kernel
set_option maxRecDepth 20000 in
theorem ggX5_best_X5_wordIn : GoodIn wsX5_best wsX5_wordIn := goodIn_r _ [10, 11, 2, 12, 13, 9, 14, 76, 77, 78, 79, 80, 81, 82, 83, 84, 85, 86, 87, 88, 89, 90] (by decide +kernel) (by decide +kernel)
set_option maxRecDepth 20000 in
theorem gX5_best_X5_wordIn : GoodIn wsX5_best (wsV RX5 75 RX5 yX5_wordIn wsX5_wordIn) := goodIn_app (goodIn_of _ (by decide +kernel)) ggX5_best_X5_wordIn
set_option maxRecDepth 20000 in
theorem ggX5_best_X0_isEven : GoodIn wsX5_best wsX0_isEven := goodIn_r _ [19, 20, 21, 91, 92, 93] (by decide +kernel) (by decide +kernel)
set_option maxRecDepth 20000 in
theorem gX5_best_X0_isEven : GoodIn wsX5_best (wsV RX5 137 RX0 yX0_isEven wsX0_isEven) := goodIn_app (goodIn_of _ (by decide +kernel)) ggX5_best_X0_isEven
set_option maxRecDepth 20000 in
theorem ggX5_best_X5_power : GoodIn wsX5_best wsX5_power := goodIn_r _ [24] (by decide +kernel) (by decide +kernel)
set_option maxRecDepth 20000 in
theorem gX5_best_X5_power : GoodIn wsX5_best (va_wsS RX5 144 yX5_power wsX5_power) := goodIn_app (goodIn_of _ (by decide +kernel)) ggX5_best_X5_power
set_option maxRecDepth 20000 in
theorem ggX5_best_X4_spell : GoodIn wsX5_best wsX4_spell := goodIn_r _ [29, 30, 31, 32, 33, 34, 35, 36, 23, 9, 24, 37, 38, 39, 28, 40, 41, 42, 43, 44, 45, 46, 47, 48, 49, 50, 51, 52, 53, 54, 55, 91, 92, 93, 84, 85, 86, 87, 88, 89, 90] (by decide +kernel) (by decide +kernel)
set_option maxRecDepth 20000 in
theorem gX5_best_X4_spell : GoodIn wsX5_best (wsV RX5 71 RX4 yX4_spell wsX4_spell) := goodIn_app (goodIn_of _ (by decide +kernel)) ggX5_best_X4_spell
set_option maxRecDepth 20000 in
theorem ggX5_best_X4_edgeOver : GoodIn wsX5_best wsX4_edgeOver := goodIn_r _ [59, 36, 60, 61, 62, 28, 63, 41, 44, 45, 46, 47, 31, 48, 49, 50, 51, 52, 53, 54, 55, 34, 35, 84, 85, 86, 87, 88, 89, 90] (by decide +kernel) (by decide +kernel)
set_option maxRecDepth 20000 in
theorem gX5_best_X4_edgeOver : GoodIn wsX5_best (wsV RX5 134 RX4 yX4_edgeOver wsX4_edgeOver) := goodIn_app (goodIn_of _ (by decide +kernel)) ggX5_best_X4_edgeOver
set_option maxRecDepth 20000 in
theorem ggX5_best_X5_hold : GoodIn wsX5_best wsX5_hold := goodIn_r _ [67, 68, 69, 50, 70, 71, 72, 73, 74, 9, 75, 76, 77, 78, 79, 80, 81, 82, 83] (by decide +kernel) (by decide +kernel)
set_option maxRecDepth 20000 in
theorem gX5_best_X5_hold : GoodIn wsX5_best (wsV RX5 105 RX5 yX5_hold wsX5_hold) := goodIn_app (goodIn_of _ (by decide +kernel)) ggX5_best_X5_hold
theorem dX5_best_0 : decode cX5_best 0 = .ok (.aload_n 0, 1) := by decide +kernel
theorem dX5_best_1 : decode cX5_best 1 = .ok (.iload_n 1, 1) := by decide +kernel
theorem dX5_best_2 : decode cX5_best 2 = .ok (.invokevirtual 75, 3) := by decide +kernel
theorem dX5_best_5 : decode cX5_best 5 = .ok (.astore_n 2, 1) := by decide +kernel
theorem dX5_best_6 : decode cX5_best 6 = .ok (.aload_n 2, 1) := by decide +kernel
theorem dX5_best_7 : decode cX5_best 7 = .ok (.ifnull 21, 3) := by decide +kernel
theorem dX5_best_10 : decode cX5_best 10 = .ok (.aload_n 0, 1) := by decide +kernel
theorem dX5_best_11 : decode cX5_best 11 = .ok (.getfield 12, 3) := by decide +kernel
theorem dX5_best_14 : decode cX5_best 14 = .ok (.invokevirtual 137, 3) := by decide +kernel
theorem dX5_best_17 : decode cX5_best 17 = .ok (.ifCond .eq 11, 3) := by decide +kernel
theorem dX5_best_20 : decode cX5_best 20 = .ok (.aload_n 2, 1) := by decide +kernel
theorem dX5_best_21 : decode cX5_best 21 = .ok (.getfield 79, 3) := by decide +kernel
theorem dX5_best_24 : decode cX5_best 24 = .ok (.iconst 3, 1) := by decide +kernel
theorem dX5_best_25 : decode cX5_best 25 = .ok (.if_icmp .ge 5, 3) := by decide +kernel
theorem dX5_best_28 : decode cX5_best 28 = .ok (.iconst (-1), 1) := by decide +kernel
theorem dX5_best_29 : decode cX5_best 29 = .ok (.ireturn, 1) := by decide +kernel
theorem dX5_best_30 : decode cX5_best 30 = .ok (.aload_n 0, 1) := by decide +kernel
theorem dX5_best_31 : decode cX5_best 31 = .ok (.getfield 12, 3) := by decide +kernel
theorem dX5_best_34 : decode cX5_best 34 = .ok (.getfield 141, 3) := by decide +kernel
theorem dX5_best_37 : decode cX5_best 37 = .ok (.i2l, 1) := by decide +kernel
theorem dX5_best_38 : decode cX5_best 38 = .ok (.aload_n 2, 1) := by decide +kernel
theorem dX5_best_39 : decode cX5_best 39 = .ok (.getfield 79, 3) := by decide +kernel
theorem dX5_best_42 : decode cX5_best 42 = .ok (.invokestatic 144, 3) := by decide +kernel
theorem dX5_best_45 : decode cX5_best 45 = .ok (.l2i, 1) := by decide +kernel
theorem dX5_best_46 : decode cX5_best 46 = .ok (.istore_n 3, 1) := by decide +kernel
theorem dX5_best_47 : decode cX5_best 47 = .ok (.iconst (-1), 1) := by decide +kernel
theorem dX5_best_48 : decode cX5_best 48 = .ok (.istore 4, 2) := by decide +kernel
theorem dX5_best_50 : decode cX5_best 50 = .ok (.lconst 0, 1) := by decide +kernel
theorem dX5_best_51 : decode cX5_best 51 = .ok (.lstore 5, 2) := by decide +kernel
theorem dX5_best_53 : decode cX5_best 53 = .ok (.lconst 1, 1) := by decide +kernel
theorem dX5_best_54 : decode cX5_best 54 = .ok (.lstore 7, 2) := by decide +kernel
theorem dX5_best_56 : decode cX5_best 56 = .ok (.iconst 0, 1) := by decide +kernel
theorem dX5_best_57 : decode cX5_best 57 = .ok (.istore 9, 2) := by decide +kernel
theorem dX5_best_59 : decode cX5_best 59 = .ok (.iload 9, 2) := by decide +kernel
theorem dX5_best_61 : decode cX5_best 61 = .ok (.iload_n 3, 1) := by decide +kernel
theorem dX5_best_62 : decode cX5_best 62 = .ok (.if_icmp .ge 90, 3) := by decide +kernel
theorem dX5_best_65 : decode cX5_best 65 = .ok (.iload 9, 2) := by decide +kernel
theorem dX5_best_67 : decode cX5_best 67 = .ok (.aload_n 2, 1) := by decide +kernel
theorem dX5_best_68 : decode cX5_best 68 = .ok (.getfield 82, 3) := by decide +kernel
theorem dX5_best_71 : decode cX5_best 71 = .ok (.if_icmp .eq 75, 3) := by decide +kernel
theorem dX5_best_74 : decode cX5_best 74 = .ok (.aload_n 0, 1) := by decide +kernel
theorem dX5_best_75 : decode cX5_best 75 = .ok (.getfield 23, 3) := by decide +kernel
theorem dX5_best_78 : decode cX5_best 78 = .ok (.aload_n 2, 1) := by decide +kernel
theorem dX5_best_79 : decode cX5_best 79 = .ok (.getfield 79, 3) := by decide +kernel
theorem dX5_best_82 : decode cX5_best 82 = .ok (.iload 9, 2) := by decide +kernel
theorem dX5_best_84 : decode cX5_best 84 = .ok (.aload_n 0, 1) := by decide +kernel
theorem dX5_best_85 : decode cX5_best 85 = .ok (.getfield 12, 3) := by decide +kernel
theorem dX5_best_88 : decode cX5_best 88 = .ok (.invokevirtual 71, 3) := by decide +kernel
theorem dX5_best_91 : decode cX5_best 91 = .ok (.ifCond .ne 6, 3) := by decide +kernel
theorem dX5_best_94 : decode cX5_best 94 = .ok (.goto 52, 3) := by decide +kernel
theorem dX5_best_97 : decode cX5_best 97 = .ok (.aload_n 2, 1) := by decide +kernel
theorem dX5_best_98 : decode cX5_best 98 = .ok (.aload_n 0, 1) := by decide +kernel
theorem dX5_best_99 : decode cX5_best 99 = .ok (.getfield 23, 3) := by decide +kernel
theorem dX5_best_102 : decode cX5_best 102 = .ok (.invokevirtual 134, 3) := by decide +kernel
theorem dX5_best_105 : decode cX5_best 105 = .ok (.lstore 10, 2) := by decide +kernel
theorem dX5_best_107 : decode cX5_best 107 = .ok (.lload 10, 2) := by decide +kernel
theorem dX5_best_109 : decode cX5_best 109 = .ok (.aload_n 0, 1) := by decide +kernel
theorem dX5_best_110 : decode cX5_best 110 = .ok (.getfield 23, 3) := by decide +kernel
theorem dX5_best_113 : decode cX5_best 113 = .ok (.aload_n 2, 1) := by decide +kernel
theorem dX5_best_114 : decode cX5_best 114 = .ok (.invokevirtual 134, 3) := by decide +kernel
theorem dX5_best_117 : decode cX5_best 117 = .ok (.ladd, 1) := by decide +kernel
theorem dX5_best_118 : decode cX5_best 118 = .ok (.lstore 12, 2) := by decide +kernel
theorem dX5_best_120 : decode cX5_best 120 = .ok (.lload 10, 2) := by decide +kernel
theorem dX5_best_122 : decode cX5_best 122 = .ok (.lload 7, 2) := by decide +kernel
theorem dX5_best_124 : decode cX5_best 124 = .ok (.lmul, 1) := by decide +kernel
theorem dX5_best_125 : decode cX5_best 125 = .ok (.lload 5, 2) := by decide +kernel
theorem dX5_best_127 : decode cX5_best 127 = .ok (.lload 12, 2) := by decide +kernel
theorem dX5_best_129 : decode cX5_best 129 = .ok (.lmul, 1) := by decide +kernel
theorem dX5_best_130 : decode cX5_best 130 = .ok (.lcmp, 1) := by decide +kernel
theorem dX5_best_131 : decode cX5_best 131 = .ok (.ifCond .le 15, 3) := by decide +kernel
theorem dX5_best_134 : decode cX5_best 134 = .ok (.iload 9, 2) := by decide +kernel
theorem dX5_best_136 : decode cX5_best 136 = .ok (.istore 4, 2) := by decide +kernel
theorem dX5_best_138 : decode cX5_best 138 = .ok (.lload 10, 2) := by decide +kernel
theorem dX5_best_140 : decode cX5_best 140 = .ok (.lstore 5, 2) := by decide +kernel
theorem dX5_best_142 : decode cX5_best 142 = .ok (.lload 12, 2) := by decide +kernel
theorem dX5_best_144 : decode cX5_best 144 = .ok (.lstore 7, 2) := by decide +kernel
theorem dX5_best_146 : decode cX5_best 146 = .ok (.iinc 9 1, 3) := by decide +kernel
theorem dX5_best_149 : decode cX5_best 149 = .ok (.goto (-90), 3) := by decide +kernel
theorem dX5_best_152 : decode cX5_best 152 = .ok (.iload 4, 2) := by decide +kernel
theorem dX5_best_154 : decode cX5_best 154 = .ok (.iconst (-1), 1) := by decide +kernel
theorem dX5_best_155 : decode cX5_best 155 = .ok (.if_icmp .eq 11, 3) := by decide +kernel
theorem dX5_best_158 : decode cX5_best 158 = .ok (.aload_n 0, 1) := by decide +kernel
theorem dX5_best_159 : decode cX5_best 159 = .ok (.lload 5, 2) := by decide +kernel
theorem dX5_best_161 : decode cX5_best 161 = .ok (.lload 7, 2) := by decide +kernel
theorem dX5_best_163 : decode cX5_best 163 = .ok (.invokevirtual 105, 3) := by decide +kernel
theorem dX5_best_166 : decode cX5_best 166 = .ok (.iload 4, 2) := by decide +kernel
theorem dX5_best_168 : decode cX5_best 168 = .ok (.ireturn, 1) := by decide +kernel
set_option maxRecDepth 20000 in
theorem ggX5_cover_X0_weightOf : GoodIn wsX5_cover wsX0_weightOf := goodIn_r _ [9, 10, 11, 41, 42, 43] (by decide +kernel) (by decide +kernel)
set_option maxRecDepth 20000 in
theorem gX5_cover_X0_weightOf : GoodIn wsX5_cover (wsV RX5 148 RX0 yX0_weightOf wsX0_weightOf) := goodIn_app (goodIn_of _ (by decide +kernel)) ggX5_cover_X0_weightOf
set_option maxRecDepth 20000 in
theorem ggX5_cover_J6_bitCount_0f7a4 : GoodIn wsX5_cover wsJ6_bitCount_0f7a4 := goodIn_r _ [15, 16, 17, 18] (by decide +kernel) (by decide +kernel)
set_option maxRecDepth 20000 in
theorem gX5_cover_J6_bitCount_0f7a4 : GoodIn wsX5_cover (va_wsS RX5 125 yJ6_bitCount_0f7a4 wsJ6_bitCount_0f7a4) := goodIn_app (goodIn_of _ (by decide +kernel)) ggX5_cover_J6_bitCount_0f7a4
set_option maxRecDepth 20000 in
theorem ggX5_cover_X5_hold : GoodIn wsX5_cover wsX5_hold := goodIn_r _ [23, 24, 25, 26, 27, 28, 29, 30, 31, 22, 32, 33, 34, 35, 36, 37, 38, 39, 40] (by decide +kernel) (by decide +kernel)
set_option maxRecDepth 20000 in
theorem gX5_cover_X5_hold : GoodIn wsX5_cover (wsV RX5 105 RX5 yX5_hold wsX5_hold) := goodIn_app (goodIn_of _ (by decide +kernel)) ggX5_cover_X5_hold
theorem dX5_cover_0 : decode cX5_cover 0 = .ok (.lconst 0, 1) := by decide +kernel
theorem dX5_cover_1 : decode cX5_cover 1 = .ok (.lstore_n 1, 1) := by decide +kernel
theorem dX5_cover_2 : decode cX5_cover 2 = .ok (.iconst 1, 1) := by decide +kernel
theorem dX5_cover_3 : decode cX5_cover 3 = .ok (.istore_n 3, 1) := by decide +kernel
theorem dX5_cover_4 : decode cX5_cover 4 = .ok (.iload_n 3, 1) := by decide +kernel
theorem dX5_cover_5 : decode cX5_cover 5 = .ok (.iconst 1, 1) := by decide +kernel
theorem dX5_cover_6 : decode cX5_cover 6 = .ok (.aload_n 0, 1) := by decide +kernel
theorem dX5_cover_7 : decode cX5_cover 7 = .ok (.getfield 12, 3) := by decide +kernel
theorem dX5_cover_10 : decode cX5_cover 10 = .ok (.getfield 141, 3) := by decide +kernel
theorem dX5_cover_13 : decode cX5_cover 13 = .ok (.ishl, 1) := by decide +kernel
theorem dX5_cover_14 : decode cX5_cover 14 = .ok (.if_icmp .ge 62, 3) := by decide +kernel
theorem dX5_cover_17 : decode cX5_cover 17 = .ok (.aload_n 0, 1) := by decide +kernel
theorem dX5_cover_18 : decode cX5_cover 18 = .ok (.getfield 12, 3) := by decide +kernel
theorem dX5_cover_21 : decode cX5_cover 21 = .ok (.iload_n 3, 1) := by decide +kernel
theorem dX5_cover_22 : decode cX5_cover 22 = .ok (.invokevirtual 148, 3) := by decide +kernel
theorem dX5_cover_25 : decode cX5_cover 25 = .ok (.istore 4, 2) := by decide +kernel
theorem dX5_cover_27 : decode cX5_cover 27 = .ok (.iload 4, 2) := by decide +kernel
theorem dX5_cover_29 : decode cX5_cover 29 = .ok (.ifCond .le 41, 3) := by decide +kernel
theorem dX5_cover_32 : decode cX5_cover 32 = .ok (.aload_n 0, 1) := by decide +kernel
theorem dX5_cover_33 : decode cX5_cover 33 = .ok (.getfield 12, 3) := by decide +kernel
theorem dX5_cover_36 : decode cX5_cover 36 = .ok (.getfield 63, 3) := by decide +kernel
theorem dX5_cover_39 : decode cX5_cover 39 = .ok (.i2l, 1) := by decide +kernel
theorem dX5_cover_40 : decode cX5_cover 40 = .ok (.bipush 12, 2) := by decide +kernel
theorem dX5_cover_42 : decode cX5_cover 42 = .ok (.iload 4, 2) := by decide +kernel
theorem dX5_cover_44 : decode cX5_cover 44 = .ok (.idiv, 1) := by decide +kernel
theorem dX5_cover_45 : decode cX5_cover 45 = .ok (.i2l, 1) := by decide +kernel
theorem dX5_cover_46 : decode cX5_cover 46 = .ok (.lmul, 1) := by decide +kernel
theorem dX5_cover_47 : decode cX5_cover 47 = .ok (.lstore 5, 2) := by decide +kernel
theorem dX5_cover_49 : decode cX5_cover 49 = .ok (.lload_n 1, 1) := by decide +kernel
theorem dX5_cover_50 : decode cX5_cover 50 = .ok (.iload_n 3, 1) := by decide +kernel
theorem dX5_cover_51 : decode cX5_cover 51 = .ok (.invokestatic 125, 3) := by decide +kernel
theorem dX5_cover_54 : decode cX5_cover 54 = .ok (.iconst 2, 1) := by decide +kernel
theorem dX5_cover_55 : decode cX5_cover 55 = .ok (.irem, 1) := by decide +kernel
theorem dX5_cover_56 : decode cX5_cover 56 = .ok (.iconst 1, 1) := by decide +kernel
theorem dX5_cover_57 : decode cX5_cover 57 = .ok (.if_icmp .ne 8, 3) := by decide +kernel
theorem dX5_cover_60 : decode cX5_cover 60 = .ok (.lload 5, 2) := by decide +kernel
theorem dX5_cover_62 : decode cX5_cover 62 = .ok (.goto 6, 3) := by decide +kernel
theorem dX5_cover_65 : decode cX5_cover 65 = .ok (.lload 5, 2) := by decide +kernel
theorem dX5_cover_67 : decode cX5_cover 67 = .ok (.lneg, 1) := by decide +kernel
theorem dX5_cover_68 : decode cX5_cover 68 = .ok (.ladd, 1) := by decide +kernel
theorem dX5_cover_69 : decode cX5_cover 69 = .ok (.lstore_n 1, 1) := by decide +kernel
theorem dX5_cover_70 : decode cX5_cover 70 = .ok (.iinc 3 1, 3) := by decide +kernel
theorem dX5_cover_73 : decode cX5_cover 73 = .ok (.goto (-69), 3) := by decide +kernel
theorem dX5_cover_76 : decode cX5_cover 76 = .ok (.aload_n 0, 1) := by decide +kernel
theorem dX5_cover_77 : decode cX5_cover 77 = .ok (.lload_n 1, 1) := by decide +kernel
theorem dX5_cover_78 : decode cX5_cover 78 = .ok (.ldc2_w 151, 3) := by decide +kernel
theorem dX5_cover_81 : decode cX5_cover 81 = .ok (.invokevirtual 105, 3) := by decide +kernel
theorem dX5_cover_84 : decode cX5_cover 84 = .ok (.return_, 1) := by decide +kernel
set_option maxRecDepth 20000 in
theorem ggX5_won_X5_wordIn : GoodIn wsX5_won wsX5_wordIn := goodIn_r _ [7, 8, 9, 10, 11, 6, 12, 46, 47, 48, 49, 50, 51, 52, 53, 54, 55, 56, 57, 58, 59, 60] (by decide +kernel) (by decide +kernel)
set_option maxRecDepth 20000 in
theorem gX5_won_X5_wordIn : GoodIn wsX5_won (wsV RX5 75 RX5 yX5_wordIn wsX5_wordIn) := goodIn_app (goodIn_of _ (by decide +kernel)) ggX5_won_X5_wordIn
set_option maxRecDepth 20000 in
theorem ggX5_won_X3_firstEndOf : GoodIn wsX5_won wsX3_firstEndOf := goodIn_r _ [17, 18, 19, 20, 21, 22, 23, 24, 25, 26, 27, 54, 55, 56, 57, 58, 59, 60, 61, 62] (by decide +kernel) (by decide +kernel)
set_option maxRecDepth 20000 in
theorem gX5_won_X3_firstEndOf : GoodIn wsX5_won (wsV RX5 153 RX3 yX3_firstEndOf wsX3_firstEndOf) := goodIn_app (goodIn_of _ (by decide +kernel)) ggX5_won_X3_firstEndOf
set_option maxRecDepth 20000 in
theorem ggX5_won_X4_leadBottom : GoodIn wsX5_won wsX4_leadBottom := goodIn_r _ [31, 32, 54, 55, 56, 57, 58, 59, 60] (by decide +kernel) (by decide +kernel)
set_option maxRecDepth 20000 in
theorem gX5_won_X4_leadBottom : GoodIn wsX5_won (wsV RX5 101 RX4 yX4_leadBottom wsX4_leadBottom) := goodIn_app (goodIn_of _ (by decide +kernel)) ggX5_won_X4_leadBottom
set_option maxRecDepth 20000 in
theorem ggX5_won_X5_hold : GoodIn wsX5_won wsX5_hold := goodIn_r _ [36, 37, 38, 39, 40, 41, 42, 43, 44, 6, 45, 46, 47, 48, 49, 50, 51, 52, 53] (by decide +kernel) (by decide +kernel)
set_option maxRecDepth 20000 in
theorem gX5_won_X5_hold : GoodIn wsX5_won (wsV RX5 105 RX5 yX5_hold wsX5_hold) := goodIn_app (goodIn_of _ (by decide +kernel)) ggX5_won_X5_hold
theorem dX5_won_0 : decode cX5_won 0 = .ok (.aload_n 0, 1) := by decide +kernel
theorem dX5_won_1 : decode cX5_won 1 = .ok (.iload_n 1, 1) := by decide +kernel
theorem dX5_won_2 : decode cX5_won 2 = .ok (.invokevirtual 75, 3) := by decide +kernel
theorem dX5_won_5 : decode cX5_won 5 = .ok (.astore_n 2, 1) := by decide +kernel
theorem dX5_won_6 : decode cX5_won 6 = .ok (.aload_n 2, 1) := by decide +kernel
theorem dX5_won_7 : decode cX5_won 7 = .ok (.ifnull 15, 3) := by decide +kernel
theorem dX5_won_10 : decode cX5_won 10 = .ok (.aload_n 0, 1) := by decide +kernel
theorem dX5_won_11 : decode cX5_won 11 = .ok (.getfield 44, 3) := by decide +kernel
theorem dX5_won_14 : decode cX5_won 14 = .ok (.aload_n 2, 1) := by decide +kernel
theorem dX5_won_15 : decode cX5_won 15 = .ok (.invokevirtual 153, 3) := by decide +kernel
theorem dX5_won_18 : decode cX5_won 18 = .ok (.iconst (-1), 1) := by decide +kernel
theorem dX5_won_19 : decode cX5_won 19 = .ok (.if_icmp .ne 5, 3) := by decide +kernel
theorem dX5_won_22 : decode cX5_won 22 = .ok (.iconst 0, 1) := by decide +kernel
theorem dX5_won_23 : decode cX5_won 23 = .ok (.ireturn, 1) := by decide +kernel
theorem dX5_won_24 : decode cX5_won 24 = .ok (.aload_n 0, 1) := by decide +kernel
theorem dX5_won_25 : decode cX5_won 25 = .ok (.aload_n 2, 1) := by decide +kernel
theorem dX5_won_26 : decode cX5_won 26 = .ok (.getfield 109, 3) := by decide +kernel
theorem dX5_won_29 : decode cX5_won 29 = .ok (.aload_n 2, 1) := by decide +kernel
theorem dX5_won_30 : decode cX5_won 30 = .ok (.invokevirtual 101, 3) := by decide +kernel
theorem dX5_won_33 : decode cX5_won 33 = .ok (.invokevirtual 105, 3) := by decide +kernel
