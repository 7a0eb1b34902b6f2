theorem inlX5 : ∀ w ∈ wsX50, w ∈ wsL_law := fun _ h => List.mem_append_left _ (List.mem_append_left _ (List.mem_append_left _ (List.mem_append_left _ (List.mem_append_left _ (List.mem_append_left _ (List.mem_append_left _ (List.mem_append_right _ h)))))))
theorem inlX6 : ∀ w ∈ wsX60, w ∈ wsL_law := fun _ h => List.mem_append_left _ (List.mem_append_left _ (List.mem_append_left _ (List.mem_append_left _ (List.mem_append_left _ (List.mem_append_left _ (List.mem_append_right _ h))))))
theorem inJ6 : ∀ w ∈ wsJ60, w ∈ lw_tbl := by decide +kernel
theorem inJ9 : ∀ w ∈ wsJ90, w ∈ lw_tbl := by decide +kernel
theorem inJ7 : ∀ w ∈ wsJ70, w ∈ lw_tbl := by decide +kernel
theorem dX0_init_0 : decode cX0_init 0 = .ok (.aload_n 0, 1) := by decide +kernel
theorem dX0_init_1 : decode cX0_init 1 = .ok (.invokespecial 3, 3) := by decide +kernel
theorem dX0_init_4 : decode cX0_init 4 = .ok (.aload_n 0, 1) := by decide +kernel
theorem dX0_init_5 : decode cX0_init 5 = .ok (.iconst 4, 1) := by decide +kernel
theorem dX0_init_6 : decode cX0_init 6 = .ok (.newarray .int, 2) := by decide +kernel
theorem dX0_init_8 : decode cX0_init 8 = .ok (.putfield 9, 3) := by decide +kernel
theorem dX0_init_11 : decode cX0_init 11 = .ok (.aload_n 0, 1) := by decide +kernel
theorem dX0_init_12 : decode cX0_init 12 = .ok (.getfield 9, 3) := by decide +kernel
theorem dX0_init_15 : decode cX0_init 15 = .ok (.iconst 0, 1) := by decide +kernel
theorem dX0_init_16 : decode cX0_init 16 = .ok (.iconst 1, 1) := by decide +kernel
theorem dX0_init_17 : decode cX0_init 17 = .ok (.iastore, 1) := by decide +kernel
theorem dX0_init_18 : decode cX0_init 18 = .ok (.aload_n 0, 1) := by decide +kernel
theorem dX0_init_19 : decode cX0_init 19 = .ok (.getfield 9, 3) := by decide +kernel
theorem dX0_init_22 : decode cX0_init 22 = .ok (.iconst 1, 1) := by decide +kernel
theorem dX0_init_23 : decode cX0_init 23 = .ok (.iconst 1, 1) := by decide +kernel
theorem dX0_init_24 : decode cX0_init 24 = .ok (.iastore, 1) := by decide +kernel
theorem dX0_init_25 : decode cX0_init 25 = .ok (.aload_n 0, 1) := by decide +kernel
theorem dX0_init_26 : decode cX0_init 26 = .ok (.iconst 2, 1) := by decide +kernel
theorem dX0_init_27 : decode cX0_init 27 = .ok (.putfield 15, 3) := by decide +kernel
theorem dX0_init_30 : decode cX0_init 30 = .ok (.aload_n 0, 1) := by decide +kernel
theorem dX0_init_31 : decode cX0_init 31 = .ok (.iconst 2, 1) := by decide +kernel
theorem dX0_init_32 : decode cX0_init 32 = .ok (.putfield 19, 3) := by decide +kernel
theorem dX0_init_35 : decode cX0_init 35 = .ok (.return_, 1) := by decide +kernel
set_option maxRecDepth 20000 in
theorem ggX0_become_X0_heft : GoodIn wsX0_become wsX0_heft := goodIn_r _ [7] (by decide +kernel) (by decide +kernel)
set_option maxRecDepth 20000 in
theorem gX0_become_X0_heft : GoodIn wsX0_become (va_wsS RX0 22 yX0_heft wsX0_heft) := goodIn_app (goodIn_of _ (by decide +kernel)) ggX0_become_X0_heft
theorem dX0_become_0 : decode cX0_become 0 = .ok (.iload_n 1, 1) := by decide +kernel
theorem dX0_become_1 : decode cX0_become 1 = .ok (.iconst 2, 1) := by decide +kernel
theorem dX0_become_2 : decode cX0_become 2 = .ok (.if_icmp .lt 8, 3) := by decide +kernel
theorem dX0_become_5 : decode cX0_become 5 = .ok (.iload_n 1, 1) := by decide +kernel
theorem dX0_become_6 : decode cX0_become 6 = .ok (.iconst 4, 1) := by decide +kernel
theorem dX0_become_7 : decode cX0_become 7 = .ok (.if_icmp .le 5, 3) := by decide +kernel
theorem dX0_become_10 : decode cX0_become 10 = .ok (.iconst 0, 1) := by decide +kernel
theorem dX0_become_11 : decode cX0_become 11 = .ok (.ireturn, 1) := by decide +kernel
theorem dX0_become_12 : decode cX0_become 12 = .ok (.iload_n 1, 1) := by decide +kernel
theorem dX0_become_13 : decode cX0_become 13 = .ok (.iconst 2, 1) := by decide +kernel
theorem dX0_become_14 : decode cX0_become 14 = .ok (.if_icmp .le 8, 3) := by decide +kernel
theorem dX0_become_17 : decode cX0_become 17 = .ok (.iload 4, 2) := by decide +kernel
theorem dX0_become_19 : decode cX0_become 19 = .ok (.goto 4, 3) := by decide +kernel
theorem dX0_become_22 : decode cX0_become 22 = .ok (.iconst 0, 1) := by decide +kernel
theorem dX0_become_23 : decode cX0_become 23 = .ok (.istore 6, 2) := by decide +kernel
theorem dX0_become_25 : decode cX0_become 25 = .ok (.iload_n 1, 1) := by decide +kernel
theorem dX0_become_26 : decode cX0_become 26 = .ok (.iconst 3, 1) := by decide +kernel
theorem dX0_become_27 : decode cX0_become 27 = .ok (.if_icmp .le 8, 3) := by decide +kernel
theorem dX0_become_30 : decode cX0_become 30 = .ok (.iload 5, 2) := by decide +kernel
theorem dX0_become_32 : decode cX0_become 32 = .ok (.goto 4, 3) := by decide +kernel
theorem dX0_become_35 : decode cX0_become 35 = .ok (.iconst 0, 1) := by decide +kernel
theorem dX0_become_36 : decode cX0_become 36 = .ok (.istore 7, 2) := by decide +kernel
theorem dX0_become_38 : decode cX0_become 38 = .ok (.iload_n 2, 1) := by decide +kernel
theorem dX0_become_39 : decode cX0_become 39 = .ok (.invokestatic 22, 3) := by decide +kernel
theorem dX0_become_42 : decode cX0_become 42 = .ok (.iload_n 3, 1) := by decide +kernel
theorem dX0_become_43 : decode cX0_become 43 = .ok (.invokestatic 22, 3) := by decide +kernel
theorem dX0_become_46 : decode cX0_become 46 = .ok (.iadd, 1) := by decide +kernel
theorem dX0_become_47 : decode cX0_become 47 = .ok (.istore 8, 2) := by decide +kernel
theorem dX0_become_49 : decode cX0_become 49 = .ok (.iload 8, 2) := by decide +kernel
theorem dX0_become_51 : decode cX0_become 51 = .ok (.iload_n 1, 1) := by decide +kernel
theorem dX0_become_52 : decode cX0_become 52 = .ok (.iconst 2, 1) := by decide +kernel
theorem dX0_become_53 : decode cX0_become 53 = .ok (.if_icmp .le 11, 3) := by decide +kernel
theorem dX0_become_56 : decode cX0_become 56 = .ok (.iload 6, 2) := by decide +kernel
theorem dX0_become_58 : decode cX0_become 58 = .ok (.invokestatic 22, 3) := by decide +kernel
theorem dX0_become_61 : decode cX0_become 61 = .ok (.goto 4, 3) := by decide +kernel
theorem dX0_become_64 : decode cX0_become 64 = .ok (.iconst 0, 1) := by decide +kernel
theorem dX0_become_65 : decode cX0_become 65 = .ok (.iadd, 1) := by decide +kernel
theorem dX0_become_66 : decode cX0_become 66 = .ok (.istore 8, 2) := by decide +kernel
theorem dX0_become_68 : decode cX0_become 68 = .ok (.iload 8, 2) := by decide +kernel
theorem dX0_become_70 : decode cX0_become 70 = .ok (.iload_n 1, 1) := by decide +kernel
theorem dX0_become_71 : decode cX0_become 71 = .ok (.iconst 3, 1) := by decide +kernel
theorem dX0_become_72 : decode cX0_become 72 = .ok (.if_icmp .le 11, 3) := by decide +kernel
theorem dX0_become_75 : decode cX0_become 75 = .ok (.iload 7, 2) := by decide +kernel
theorem dX0_become_77 : decode cX0_become 77 = .ok (.invokestatic 22, 3) := by decide +kernel
theorem dX0_become_80 : decode cX0_become 80 = .ok (.goto 4, 3) := by decide +kernel
theorem dX0_become_83 : decode cX0_become 83 = .ok (.iconst 0, 1) := by decide +kernel
theorem dX0_become_84 : decode cX0_become 84 = .ok (.iadd, 1) := by decide +kernel
theorem dX0_become_85 : decode cX0_become 85 = .ok (.istore 8, 2) := by decide +kernel
theorem dX0_become_87 : decode cX0_become 87 = .ok (.iload 8, 2) := by decide +kernel
theorem dX0_become_89 : decode cX0_become 89 = .ok (.iconst 4, 1) := by decide +kernel
theorem dX0_become_90 : decode cX0_become 90 = .ok (.if_icmp .le 5, 3) := by decide +kernel
theorem dX0_become_93 : decode cX0_become 93 = .ok (.iconst 0, 1) := by decide +kernel
theorem dX0_become_94 : decode cX0_become 94 = .ok (.ireturn, 1) := by decide +kernel
theorem dX0_become_95 : decode cX0_become 95 = .ok (.aload_n 0, 1) := by decide +kernel
theorem dX0_become_96 : decode cX0_become 96 = .ok (.getfield 9, 3) := by decide +kernel
theorem dX0_become_99 : decode cX0_become 99 = .ok (.iconst 0, 1) := by decide +kernel
theorem dX0_become_100 : decode cX0_become 100 = .ok (.iload_n 2, 1) := by decide +kernel
theorem dX0_become_101 : decode cX0_become 101 = .ok (.iastore, 1) := by decide +kernel
theorem dX0_become_102 : decode cX0_become 102 = .ok (.aload_n 0, 1) := by decide +kernel
theorem dX0_become_103 : decode cX0_become 103 = .ok (.getfield 9, 3) := by decide +kernel
theorem dX0_become_106 : decode cX0_become 106 = .ok (.iconst 1, 1) := by decide +kernel
theorem dX0_become_107 : decode cX0_become 107 = .ok (.iload_n 3, 1) := by decide +kernel
theorem dX0_become_108 : decode cX0_become 108 = .ok (.iastore, 1) := by decide +kernel
theorem dX0_become_109 : decode cX0_become 109 = .ok (.aload_n 0, 1) := by decide +kernel
theorem dX0_become_110 : decode cX0_become 110 = .ok (.getfield 9, 3) := by decide +kernel
theorem dX0_become_113 : decode cX0_become 113 = .ok (.iconst 2, 1) := by decide +kernel
theorem dX0_become_114 : decode cX0_become 114 = .ok (.iload 6, 2) := by decide +kernel
theorem dX0_become_116 : decode cX0_become 116 = .ok (.iastore, 1) := by decide +kernel
theorem dX0_become_117 : decode cX0_become 117 = .ok (.aload_n 0, 1) := by decide +kernel
theorem dX0_become_118 : decode cX0_become 118 = .ok (.getfield 9, 3) := by decide +kernel
theorem dX0_become_121 : decode cX0_become 121 = .ok (.iconst 3, 1) := by decide +kernel
theorem dX0_become_122 : decode cX0_become 122 = .ok (.iload 7, 2) := by decide +kernel
theorem dX0_become_124 : decode cX0_become 124 = .ok (.iastore, 1) := by decide +kernel
theorem dX0_become_125 : decode cX0_become 125 = .ok (.aload_n 0, 1) := by decide +kernel
theorem dX0_become_126 : decode cX0_become 126 = .ok (.iload_n 1, 1) := by decide +kernel
theorem dX0_become_127 : decode cX0_become 127 = .ok (.putfield 15, 3) := by decide +kernel
theorem dX0_become_130 : decode cX0_become 130 = .ok (.aload_n 0, 1) := by decide +kernel
theorem dX0_become_131 : decode cX0_become 131 = .ok (.iload 8, 2) := by decide +kernel
theorem dX0_become_133 : decode cX0_become 133 = .ok (.putfield 19, 3) := by decide +kernel
theorem dX0_become_136 : decode cX0_become 136 = .ok (.iconst 1, 1) := by decide +kernel
theorem dX0_become_137 : decode cX0_become 137 = .ok (.ireturn, 1) := by decide +kernel
theorem dX0_heft_0 : decode cX0_heft 0 = .ok (.iload_n 0, 1) := by decide +kernel
theorem dX0_heft_1 : decode cX0_heft 1 = .ok (.iconst 1, 1) := by decide +kernel
theorem dX0_heft_2 : decode cX0_heft 2 = .ok (.if_icmp .lt 12, 3) := by decide +kernel
theorem dX0_heft_5 : decode cX0_heft 5 = .ok (.iload_n 0, 1) := by decide +kernel
theorem dX0_heft_6 : decode cX0_heft 6 = .ok (.iconst 4, 1) := by decide +kernel
theorem dX0_heft_7 : decode cX0_heft 7 = .ok (.if_icmp .gt 7, 3) := by decide +kernel
theorem dX0_heft_10 : decode cX0_heft 10 = .ok (.iload_n 0, 1) := by decide +kernel
theorem dX0_heft_11 : decode cX0_heft 11 = .ok (.goto 4, 3) := by decide +kernel
theorem dX0_heft_14 : decode cX0_heft 14 = .ok (.iconst 5, 1) := by decide +kernel
theorem dX0_heft_15 : decode cX0_heft 15 = .ok (.ireturn, 1) := by decide +kernel
theorem dX0_isEven_0 : decode cX0_isEven 0 = .ok (.iconst 1, 1) := by decide +kernel
theorem dX0_isEven_1 : decode cX0_isEven 1 = .ok (.istore_n 1, 1) := by decide +kernel
theorem dX0_isEven_2 : decode cX0_isEven 2 = .ok (.iload_n 1, 1) := by decide +kernel
theorem dX0_isEven_3 : decode cX0_isEven 3 = .ok (.aload_n 0, 1) := by decide +kernel
theorem dX0_isEven_4 : decode cX0_isEven 4 = .ok (.getfield 15, 3) := by decide +kernel
theorem dX0_isEven_7 : decode cX0_isEven 7 = .ok (.if_icmp .ge 26, 3) := by decide +kernel
theorem dX0_isEven_10 : decode cX0_isEven 10 = .ok (.aload_n 0, 1) := by decide +kernel
theorem dX0_isEven_11 : decode cX0_isEven 11 = .ok (.getfield 9, 3) := by decide +kernel
theorem dX0_isEven_14 : decode cX0_isEven 14 = .ok (.iload_n 1, 1) := by decide +kernel
theorem dX0_isEven_15 : decode cX0_isEven 15 = .ok (.iaload, 1) := by decide +kernel
theorem dX0_isEven_16 : decode cX0_isEven 16 = .ok (.aload_n 0, 1) := by decide +kernel
theorem dX0_isEven_17 : decode cX0_isEven 17 = .ok (.getfield 9, 3) := by decide +kernel
theorem dX0_isEven_20 : decode cX0_isEven 20 = .ok (.iconst 0, 1) := by decide +kernel
theorem dX0_isEven_21 : decode cX0_isEven 21 = .ok (.iaload, 1) := by decide +kernel
theorem dX0_isEven_22 : decode cX0_isEven 22 = .ok (.if_icmp .eq 5, 3) := by decide +kernel
theorem dX0_isEven_25 : decode cX0_isEven 25 = .ok (.iconst 0, 1) := by decide +kernel
theorem dX0_isEven_26 : decode cX0_isEven 26 = .ok (.ireturn, 1) := by decide +kernel
theorem dX0_isEven_27 : decode cX0_isEven 27 = .ok (.iinc 1 1, 3) := by decide +kernel
theorem dX0_isEven_30 : decode cX0_isEven 30 = .ok (.goto (-28), 3) := by decide +kernel
theorem dX0_isEven_33 : decode cX0_isEven 33 = .ok (.iconst 1, 1) := by decide +kernel
theorem dX0_isEven_34 : decode cX0_isEven 34 = .ok (.ireturn, 1) := by decide +kernel
theorem dX0_weightOf_0 : decode cX0_weightOf 0 = .ok (.iconst 0, 1) := by decide +kernel
theorem dX0_weightOf_1 : decode cX0_weightOf 1 = .ok (.istore_n 2, 1) := by decide +kernel
theorem dX0_weightOf_2 : decode cX0_weightOf 2 = .ok (.iconst 0, 1) := by decide +kernel
theorem dX0_weightOf_3 : decode cX0_weightOf 3 = .ok (.istore_n 3, 1) := by decide +kernel
theorem dX0_weightOf_4 : decode cX0_weightOf 4 = .ok (.iload_n 3, 1) := by decide +kernel
theorem dX0_weightOf_5 : decode cX0_weightOf 5 = .ok (.aload_n 0, 1) := by decide +kernel
theorem dX0_weightOf_6 : decode cX0_weightOf 6 = .ok (.getfield 15, 3) := by decide +kernel
theorem dX0_weightOf_9 : decode cX0_weightOf 9 = .ok (.if_icmp .ge 31, 3) := by decide +kernel
theorem dX0_weightOf_12 : decode cX0_weightOf 12 = .ok (.iload_n 2, 1) := by decide +kernel
theorem dX0_weightOf_13 : decode cX0_weightOf 13 = .ok (.iload_n 1, 1) := by decide +kernel
theorem dX0_weightOf_14 : decode cX0_weightOf 14 = .ok (.iload_n 3, 1) := by decide +kernel
theorem dX0_weightOf_15 : decode cX0_weightOf 15 = .ok (.ishr, 1) := by decide +kernel
theorem dX0_weightOf_16 : decode cX0_weightOf 16 = .ok (.iconst 1, 1) := by decide +kernel
theorem dX0_weightOf_17 : decode cX0_weightOf 17 = .ok (.iand, 1) := by decide +kernel
theorem dX0_weightOf_18 : decode cX0_weightOf 18 = .ok (.iconst 1, 1) := by decide +kernel
theorem dX0_weightOf_19 : decode cX0_weightOf 19 = .ok (.if_icmp .ne 12, 3) := by decide +kernel
theorem dX0_weightOf_22 : decode cX0_weightOf 22 = .ok (.aload_n 0, 1) := by decide +kernel
theorem dX0_weightOf_23 : decode cX0_weightOf 23 = .ok (.getfield 9, 3) := by decide +kernel
theorem dX0_weightOf_26 : decode cX0_weightOf 26 = .ok (.iload_n 3, 1) := by decide +kernel
theorem dX0_weightOf_27 : decode cX0_weightOf 27 = .ok (.iaload, 1) := by decide +kernel
theorem dX0_weightOf_28 : decode cX0_weightOf 28 = .ok (.goto 4, 3) := by decide +kernel
theorem dX0_weightOf_31 : decode cX0_weightOf 31 = .ok (.iconst 0, 1) := by decide +kernel
theorem dX0_weightOf_32 : decode cX0_weightOf 32 = .ok (.iadd, 1) := by decide +kernel
theorem dX0_weightOf_33 : decode cX0_weightOf 33 = .ok (.istore_n 2, 1) := by decide +kernel
theorem dX0_weightOf_34 : decode cX0_weightOf 34 = .ok (.iinc 3 1, 3) := by decide +kernel
theorem dX0_weightOf_37 : decode cX0_weightOf 37 = .ok (.goto (-33), 3) := by decide +kernel
theorem dX0_weightOf_40 : decode cX0_weightOf 40 = .ok (.iload_n 2, 1) := by decide +kernel
theorem dX0_weightOf_41 : decode cX0_weightOf 41 = .ok (.ireturn, 1) := by decide +kernel
theorem dX0_letterFor_0 : decode cX0_letterFor 0 = .ok (.aload_n 0, 1) := by decide +kernel
theorem dX0_letterFor_1 : decode cX0_letterFor 1 = .ok (.getfield 19, 3) := by decide +kernel
theorem dX0_letterFor_4 : decode cX0_letterFor 4 = .ok (.ifCond .gt 5, 3) := by decide +kernel
theorem dX0_letterFor_7 : decode cX0_letterFor 7 = .ok (.iconst 0, 1) := by decide +kernel
theorem dX0_letterFor_8 : decode cX0_letterFor 8 = .ok (.ireturn, 1) := by decide +kernel
theorem dX0_letterFor_9 : decode cX0_letterFor 9 = .ok (.iload_n 1, 1) := by decide +kernel
theorem dX0_letterFor_10 : decode cX0_letterFor 10 = .ok (.aload_n 0, 1) := by decide +kernel
theorem dX0_letterFor_11 : decode cX0_letterFor 11 = .ok (.getfield 19, 3) := by decide +kernel
theorem dX0_letterFor_14 : decode cX0_letterFor 14 = .ok (.irem, 1) := by decide +kernel
theorem dX0_letterFor_15 : decode cX0_letterFor 15 = .ok (.istore_n 2, 1) := by decide +kernel
theorem dX0_letterFor_16 : decode cX0_letterFor 16 = .ok (.iconst 0, 1) := by decide +kernel
theorem dX0_letterFor_17 : decode cX0_letterFor 17 = .ok (.istore_n 3, 1) := by decide +kernel
theorem dX0_letterFor_18 : decode cX0_letterFor 18 = .ok (.iconst 0, 1) := by decide +kernel
theorem dX0_letterFor_19 : decode cX0_letterFor 19 = .ok (.istore 4, 2) := by decide +kernel
theorem dX0_letterFor_21 : decode cX0_letterFor 21 = .ok (.iload 4, 2) := by decide +kernel
theorem dX0_letterFor_23 : decode cX0_letterFor 23 = .ok (.aload_n 0, 1) := by decide +kernel
theorem dX0_letterFor_24 : decode cX0_letterFor 24 = .ok (.getfield 15, 3) := by decide +kernel
theorem dX0_letterFor_27 : decode cX0_letterFor 27 = .ok (.if_icmp .ge 27, 3) := by decide +kernel
theorem dX0_letterFor_30 : decode cX0_letterFor 30 = .ok (.iload_n 3, 1) := by decide +kernel
theorem dX0_letterFor_31 : decode cX0_letterFor 31 = .ok (.aload_n 0, 1) := by decide +kernel
theorem dX0_letterFor_32 : decode cX0_letterFor 32 = .ok (.getfield 9, 3) := by decide +kernel
theorem dX0_letterFor_35 : decode cX0_letterFor 35 = .ok (.iload 4, 2) := by decide +kernel
theorem dX0_letterFor_37 : decode cX0_letterFor 37 = .ok (.iaload, 1) := by decide +kernel
theorem dX0_letterFor_38 : decode cX0_letterFor 38 = .ok (.iadd, 1) := by decide +kernel
theorem dX0_letterFor_39 : decode cX0_letterFor 39 = .ok (.istore_n 3, 1) := by decide +kernel
theorem dX0_letterFor_40 : decode cX0_letterFor 40 = .ok (.iload_n 3, 1) := by decide +kernel
theorem dX0_letterFor_41 : decode cX0_letterFor 41 = .ok (.iload_n 2, 1) := by decide +kernel
theorem dX0_letterFor_42 : decode cX0_letterFor 42 = .ok (.if_icmp .le 6, 3) := by decide +kernel
theorem dX0_letterFor_45 : decode cX0_letterFor 45 = .ok (.iload 4, 2) := by decide +kernel
theorem dX0_letterFor_47 : decode cX0_letterFor 47 = .ok (.ireturn, 1) := by decide +kernel
theorem dX0_letterFor_48 : decode cX0_letterFor 48 = .ok (.iinc 4 1, 3) := by decide +kernel
theorem dX0_letterFor_51 : decode cX0_letterFor 51 = .ok (.goto (-30), 3) := by decide +kernel
theorem dX0_letterFor_54 : decode cX0_letterFor 54 = .ok (.iconst 0, 1) := by decide +kernel
theorem dX0_letterFor_55 : decode cX0_letterFor 55 = .ok (.ireturn, 1) := by decide +kernel
theorem dX1_init_0 : decode cX1_init 0 = .ok (.aload_n 0, 1) := by decide +kernel
theorem dX1_init_1 : decode cX1_init 1 = .ok (.invokespecial 3, 3) := by decide +kernel
theorem dX1_init_4 : decode cX1_init 4 = .ok (.aload_n 0, 1) := by decide +kernel
theorem dX1_init_5 : decode cX1_init 5 = .ok (.sipush 164, 3) := by decide +kernel
theorem dX1_init_8 : decode cX1_init 8 = .ok (.newarray .int, 2) := by decide +kernel
theorem dX1_init_10 : decode cX1_init 10 = .ok (.putfield 11, 3) := by decide +kernel
theorem dX1_init_13 : decode cX1_init 13 = .ok (.aload_n 0, 1) := by decide +kernel
theorem dX1_init_14 : decode cX1_init 14 = .ok (.bipush 41, 2) := by decide +kernel
theorem dX1_init_16 : decode cX1_init 16 = .ok (.newarray .int, 2) := by decide +kernel
theorem dX1_init_18 : decode cX1_init 18 = .ok (.putfield 15, 3) := by decide +kernel
theorem dX1_init_21 : decode cX1_init 21 = .ok (.aload_n 0, 1) := by decide +kernel
theorem dX1_init_22 : decode cX1_init 22 = .ok (.bipush 41, 2) := by decide +kernel
theorem dX1_init_24 : decode cX1_init 24 = .ok (.newarray .int, 2) := by decide +kernel
theorem dX1_init_26 : decode cX1_init 26 = .ok (.putfield 18, 3) := by decide +kernel
theorem dX1_init_29 : decode cX1_init 29 = .ok (.aload_n 0, 1) := by decide +kernel
theorem dX1_init_30 : decode cX1_init 30 = .ok (.bipush 41, 2) := by decide +kernel
theorem dX1_init_32 : decode cX1_init 32 = .ok (.newarray .boolean, 2) := by decide +kernel
theorem dX1_init_34 : decode cX1_init 34 = .ok (.putfield 21, 3) := by decide +kernel
theorem dX1_init_37 : decode cX1_init 37 = .ok (.aload_n 0, 1) := by decide +kernel
theorem dX1_init_38 : decode cX1_init 38 = .ok (.sipush 186, 3) := by decide +kernel
theorem dX1_init_41 : decode cX1_init 41 = .ok (.newarray .long, 2) := by decide +kernel
theorem dX1_init_43 : decode cX1_init 43 = .ok (.putfield 25, 3) := by decide +kernel
theorem dX1_init_46 : decode cX1_init 46 = .ok (.aload_n 0, 1) := by decide +kernel
theorem dX1_init_47 : decode cX1_init 47 = .ok (.sipush 186, 3) := by decide +kernel
theorem dX1_init_50 : decode cX1_init 50 = .ok (.newarray .long, 2) := by decide +kernel
theorem dX1_init_52 : decode cX1_init 52 = .ok (.putfield 29, 3) := by decide +kernel
theorem dX1_init_55 : decode cX1_init 55 = .ok (.aload_n 0, 1) := by decide +kernel
theorem dX1_init_56 : decode cX1_init 56 = .ok (.iconst 1, 1) := by decide +kernel
theorem dX1_init_57 : decode cX1_init 57 = .ok (.putfield 32, 3) := by decide +kernel
theorem dX1_init_60 : decode cX1_init 60 = .ok (.return_, 1) := by decide +kernel
set_option maxRecDepth 20000 in
theorem ggX1_clear_J7_fill_53178 : GoodIn wsX1_clear wsJ7_fill_53178 := goodIn_r _ [8] (by decide +kernel) (by decide +kernel)
set_option maxRecDepth 20000 in
theorem gX1_clear_J7_fill_53178 : GoodIn wsX1_clear (va_wsS RX1 36 yJ7_fill_53178 wsJ7_fill_53178) := goodIn_app (goodIn_of _ (by decide +kernel)) ggX1_clear_J7_fill_53178
theorem dX1_clear_0 : decode cX1_clear 0 = .ok (.aload_n 0, 1) := by decide +kernel
theorem dX1_clear_1 : decode cX1_clear 1 = .ok (.getfield 11, 3) := by decide +kernel
theorem dX1_clear_4 : decode cX1_clear 4 = .ok (.iconst 0, 1) := by decide +kernel
theorem dX1_clear_5 : decode cX1_clear 5 = .ok (.invokestatic 36, 3) := by decide +kernel
theorem dX1_clear_8 : decode cX1_clear 8 = .ok (.aload_n 0, 1) := by decide +kernel
theorem dX1_clear_9 : decode cX1_clear 9 = .ok (.getfield 15, 3) := by decide +kernel
theorem dX1_clear_12 : decode cX1_clear 12 = .ok (.iconst 0, 1) := by decide +kernel
theorem dX1_clear_13 : decode cX1_clear 13 = .ok (.invokestatic 36, 3) := by decide +kernel
theorem dX1_clear_16 : decode cX1_clear 16 = .ok (.iconst 0, 1) := by decide +kernel
theorem dX1_clear_17 : decode cX1_clear 17 = .ok (.istore_n 1, 1) := by decide +kernel
theorem dX1_clear_18 : decode cX1_clear 18 = .ok (.iload_n 1, 1) := by decide +kernel
theorem dX1_clear_19 : decode cX1_clear 19 = .ok (.bipush 41, 2) := by decide +kernel
theorem dX1_clear_21 : decode cX1_clear 21 = .ok (.if_icmp .ge 16, 3) := by decide +kernel
theorem dX1_clear_24 : decode cX1_clear 24 = .ok (.aload_n 0, 1) := by decide +kernel
theorem dX1_clear_25 : decode cX1_clear 25 = .ok (.getfield 21, 3) := by decide +kernel
theorem dX1_clear_28 : decode cX1_clear 28 = .ok (.iload_n 1, 1) := by decide +kernel
theorem dX1_clear_29 : decode cX1_clear 29 = .ok (.iconst 0, 1) := by decide +kernel
theorem dX1_clear_30 : decode cX1_clear 30 = .ok (.bastore, 1) := by decide +kernel
theorem dX1_clear_31 : decode cX1_clear 31 = .ok (.iinc 1 1, 3) := by decide +kernel
theorem dX1_clear_34 : decode cX1_clear 34 = .ok (.goto (-16), 3) := by decide +kernel
theorem dX1_clear_37 : decode cX1_clear 37 = .ok (.aload_n 0, 1) := by decide +kernel
theorem dX1_clear_38 : decode cX1_clear 38 = .ok (.iconst 1, 1) := by decide +kernel
theorem dX1_clear_39 : decode cX1_clear 39 = .ok (.putfield 32, 3) := by decide +kernel
theorem dX1_clear_42 : decode cX1_clear 42 = .ok (.return_, 1) := by decide +kernel
theorem dX1_learn_0 : decode cX1_learn 0 = .ok (.iconst 0, 1) := by decide +kernel
theorem dX1_learn_1 : decode cX1_learn 1 = .ok (.istore_n 2, 1) := by decide +kernel
theorem dX1_learn_2 : decode cX1_learn 2 = .ok (.iconst 0, 1) := by decide +kernel
theorem dX1_learn_3 : decode cX1_learn 3 = .ok (.istore_n 3, 1) := by decide +kernel
theorem dX1_learn_4 : decode cX1_learn 4 = .ok (.iload_n 3, 1) := by decide +kernel
theorem dX1_learn_5 : decode cX1_learn 5 = .ok (.aload_n 1, 1) := by decide +kernel
theorem dX1_learn_6 : decode cX1_learn 6 = .ok (.getfield 42, 3) := by decide +kernel
theorem dX1_learn_9 : decode cX1_learn 9 = .ok (.if_icmp .ge 70, 3) := by decide +kernel
theorem dX1_learn_12 : decode cX1_learn 12 = .ok (.iload_n 2, 1) := by decide +kernel
theorem dX1_learn_13 : decode cX1_learn 13 = .ok (.iconst 4, 1) := by decide +kernel
theorem dX1_learn_14 : decode cX1_learn 14 = .ok (.imul, 1) := by decide +kernel
theorem dX1_learn_15 : decode cX1_learn 15 = .ok (.aload_n 1, 1) := by decide +kernel
theorem dX1_learn_16 : decode cX1_learn 16 = .ok (.getfield 47, 3) := by decide +kernel
theorem dX1_learn_19 : decode cX1_learn 19 = .ok (.iload_n 3, 1) := by decide +kernel
theorem dX1_learn_20 : decode cX1_learn 20 = .ok (.iaload, 1) := by decide +kernel
theorem dX1_learn_21 : decode cX1_learn 21 = .ok (.iadd, 1) := by decide +kernel
theorem dX1_learn_22 : decode cX1_learn 22 = .ok (.istore 4, 2) := by decide +kernel
theorem dX1_learn_24 : decode cX1_learn 24 = .ok (.aload_n 0, 1) := by decide +kernel
theorem dX1_learn_25 : decode cX1_learn 25 = .ok (.getfield 11, 3) := by decide +kernel
theorem dX1_learn_28 : decode cX1_learn 28 = .ok (.iload 4, 2) := by decide +kernel
theorem dX1_learn_30 : decode cX1_learn 30 = .ok (.iaload, 1) := by decide +kernel
theorem dX1_learn_31 : decode cX1_learn 31 = .ok (.ifCond .ne 34, 3) := by decide +kernel
theorem dX1_learn_34 : decode cX1_learn 34 = .ok (.aload_n 0, 1) := by decide +kernel
theorem dX1_learn_35 : decode cX1_learn 35 = .ok (.getfield 32, 3) := by decide +kernel
theorem dX1_learn_38 : decode cX1_learn 38 = .ok (.bipush 41, 2) := by decide +kernel
theorem dX1_learn_40 : decode cX1_learn 40 = .ok (.if_icmp .lt 4, 3) := by decide +kernel
theorem dX1_learn_43 : decode cX1_learn 43 = .ok (.return_, 1) := by decide +kernel
theorem dX1_learn_44 : decode cX1_learn 44 = .ok (.aload_n 0, 1) := by decide +kernel
theorem dX1_learn_45 : decode cX1_learn 45 = .ok (.getfield 11, 3) := by decide +kernel
theorem dX1_learn_48 : decode cX1_learn 48 = .ok (.iload 4, 2) := by decide +kernel
theorem dX1_learn_50 : decode cX1_learn 50 = .ok (.aload_n 0, 1) := by decide +kernel
theorem dX1_learn_51 : decode cX1_learn 51 = .ok (.getfield 32, 3) := by decide +kernel
theorem dX1_learn_54 : decode cX1_learn 54 = .ok (.iastore, 1) := by decide +kernel
theorem dX1_learn_55 : decode cX1_learn 55 = .ok (.aload_n 0, 1) := by decide +kernel
theorem dX1_learn_56 : decode cX1_learn 56 = .ok (.dup, 1) := by decide +kernel
theorem dX1_learn_57 : decode cX1_learn 57 = .ok (.getfield 32, 3) := by decide +kernel
theorem dX1_learn_60 : decode cX1_learn 60 = .ok (.iconst 1, 1) := by decide +kernel
theorem dX1_learn_61 : decode cX1_learn 61 = .ok (.iadd, 1) := by decide +kernel
theorem dX1_learn_62 : decode cX1_learn 62 = .ok (.putfield 32, 3) := by decide +kernel
theorem dX1_learn_65 : decode cX1_learn 65 = .ok (.aload_n 0, 1) := by decide +kernel
theorem dX1_learn_66 : decode cX1_learn 66 = .ok (.getfield 11, 3) := by decide +kernel
theorem dX1_learn_69 : decode cX1_learn 69 = .ok (.iload 4, 2) := by decide +kernel
theorem dX1_learn_71 : decode cX1_learn 71 = .ok (.iaload, 1) := by decide +kernel
theorem dX1_learn_72 : decode cX1_learn 72 = .ok (.istore_n 2, 1) := by decide +kernel
theorem dX1_learn_73 : decode cX1_learn 73 = .ok (.iinc 3 1, 3) := by decide +kernel
theorem dX1_learn_76 : decode cX1_learn 76 = .ok (.goto (-72), 3) := by decide +kernel
theorem dX1_learn_79 : decode cX1_learn 79 = .ok (.aload_n 0, 1) := by decide +kernel
theorem dX1_learn_80 : decode cX1_learn 80 = .ok (.getfield 21, 3) := by decide +kernel
theorem dX1_learn_83 : decode cX1_learn 83 = .ok (.iload_n 2, 1) := by decide +kernel
theorem dX1_learn_84 : decode cX1_learn 84 = .ok (.iconst 1, 1) := by decide +kernel
theorem dX1_learn_85 : decode cX1_learn 85 = .ok (.bastore, 1) := by decide +kernel
theorem dX1_learn_86 : decode cX1_learn 86 = .ok (.return_, 1) := by decide +kernel
theorem dX1_link_0 : decode cX1_link 0 = .ok (.iconst 1, 1) := by decide +kernel
theorem dX1_link_1 : decode cX1_link 1 = .ok (.istore_n 2, 1) := by decide +kernel
theorem dX1_link_2 : decode cX1_link 2 = .ok (.aload_n 0, 1) := by decide +kernel
theorem dX1_link_3 : decode cX1_link 3 = .ok (.getfield 18, 3) := by decide +kernel
theorem dX1_link_6 : decode cX1_link 6 = .ok (.iconst 0, 1) := by decide +kernel
theorem dX1_link_7 : decode cX1_link 7 = .ok (.iconst 0, 1) := by decide +kernel
theorem dX1_link_8 : decode cX1_link 8 = .ok (.iastore, 1) := by decide +kernel
theorem dX1_link_9 : decode cX1_link 9 = .ok (.iconst 0, 1) := by decide +kernel
theorem dX1_link_10 : decode cX1_link 10 = .ok (.istore_n 3, 1) := by decide +kernel
theorem dX1_link_11 : decode cX1_link 11 = .ok (.iload_n 3, 1) := by decide +kernel
theorem dX1_link_12 : decode cX1_link 12 = .ok (.iload_n 2, 1) := by decide +kernel
theorem dX1_link_13 : decode cX1_link 13 = .ok (.if_icmp .ge 167, 3) := by decide +kernel
theorem dX1_link_16 : decode cX1_link 16 = .ok (.iload_n 3, 1) := by decide +kernel
theorem dX1_link_17 : decode cX1_link 17 = .ok (.bipush 41, 2) := by decide +kernel
theorem dX1_link_19 : decode cX1_link 19 = .ok (.if_icmp .ge 161, 3) := by decide +kernel
theorem dX1_link_22 : decode cX1_link 22 = .ok (.aload_n 0, 1) := by decide +kernel
theorem dX1_link_23 : decode cX1_link 23 = .ok (.getfield 18, 3) := by decide +kernel
theorem dX1_link_26 : decode cX1_link 26 = .ok (.iload_n 3, 1) := by decide +kernel
theorem dX1_link_27 : decode cX1_link 27 = .ok (.iaload, 1) := by decide +kernel
theorem dX1_link_28 : decode cX1_link 28 = .ok (.istore 4, 2) := by decide +kernel
theorem dX1_link_30 : decode cX1_link 30 = .ok (.aload_n 0, 1) := by decide +kernel
theorem dX1_link_31 : decode cX1_link 31 = .ok (.getfield 21, 3) := by decide +kernel
theorem dX1_link_34 : decode cX1_link 34 = .ok (.iload 4, 2) := by decide +kernel
theorem dX1_link_36 : decode cX1_link 36 = .ok (.aload_n 0, 1) := by decide +kernel
theorem dX1_link_37 : decode cX1_link 37 = .ok (.getfield 21, 3) := by decide +kernel
theorem dX1_link_40 : decode cX1_link 40 = .ok (.iload 4, 2) := by decide +kernel
theorem dX1_link_42 : decode cX1_link 42 = .ok (.baload, 1) := by decide +kernel
theorem dX1_link_43 : decode cX1_link 43 = .ok (.ifCond .ne 18, 3) := by decide +kernel
theorem dX1_link_46 : decode cX1_link 46 = .ok (.aload_n 0, 1) := by decide +kernel
theorem dX1_link_47 : decode cX1_link 47 = .ok (.getfield 21, 3) := by decide +kernel
theorem dX1_link_50 : decode cX1_link 50 = .ok (.aload_n 0, 1) := by decide +kernel
theorem dX1_link_51 : decode cX1_link 51 = .ok (.getfield 15, 3) := by decide +kernel
theorem dX1_link_54 : decode cX1_link 54 = .ok (.iload 4, 2) := by decide +kernel
theorem dX1_link_56 : decode cX1_link 56 = .ok (.iaload, 1) := by decide +kernel
theorem dX1_link_57 : decode cX1_link 57 = .ok (.baload, 1) := by decide +kernel
theorem dX1_link_58 : decode cX1_link 58 = .ok (.ifCond .eq 7, 3) := by decide +kernel
theorem dX1_link_61 : decode cX1_link 61 = .ok (.iconst 1, 1) := by decide +kernel
theorem dX1_link_62 : decode cX1_link 62 = .ok (.goto 4, 3) := by decide +kernel
theorem dX1_link_65 : decode cX1_link 65 = .ok (.iconst 0, 1) := by decide +kernel
theorem dX1_link_66 : decode cX1_link 66 = .ok (.bastore, 1) := by decide +kernel
theorem dX1_link_67 : decode cX1_link 67 = .ok (.iconst 0, 1) := by decide +kernel
theorem dX1_link_68 : decode cX1_link 68 = .ok (.istore 5, 2) := by decide +kernel
theorem dX1_link_70 : decode cX1_link 70 = .ok (.iload 5, 2) := by decide +kernel
theorem dX1_link_72 : decode cX1_link 72 = .ok (.aload_n 1, 1) := by decide +kernel
theorem dX1_link_73 : decode cX1_link 73 = .ok (.getfield 50, 3) := by decide +kernel
theorem dX1_link_76 : decode cX1_link 76 = .ok (.if_icmp .ge 98, 3) := by decide +kernel
theorem dX1_link_79 : decode cX1_link 79 = .ok (.iload 4, 2) := by decide +kernel
theorem dX1_link_81 : decode cX1_link 81 = .ok (.iconst 4, 1) := by decide +kernel
theorem dX1_link_82 : decode cX1_link 82 = .ok (.imul, 1) := by decide +kernel
theorem dX1_link_83 : decode cX1_link 83 = .ok (.iload 5, 2) := by decide +kernel
theorem dX1_link_85 : decode cX1_link 85 = .ok (.iadd, 1) := by decide +kernel
theorem dX1_link_86 : decode cX1_link 86 = .ok (.istore 6, 2) := by decide +kernel
theorem dX1_link_88 : decode cX1_link 88 = .ok (.aload_n 0, 1) := by decide +kernel
theorem dX1_link_89 : decode cX1_link 89 = .ok (.getfield 11, 3) := by decide +kernel
theorem dX1_link_92 : decode cX1_link 92 = .ok (.iload 6, 2) := by decide +kernel
theorem dX1_link_94 : decode cX1_link 94 = .ok (.iaload, 1) := by decide +kernel
theorem dX1_link_95 : decode cX1_link 95 = .ok (.istore 7, 2) := by decide +kernel
theorem dX1_link_97 : decode cX1_link 97 = .ok (.iload 4, 2) := by decide +kernel
theorem dX1_link_99 : decode cX1_link 99 = .ok (.ifCond .ne 7, 3) := by decide +kernel
theorem dX1_link_102 : decode cX1_link 102 = .ok (.iconst 0, 1) := by decide +kernel
theorem dX1_link_103 : decode cX1_link 103 = .ok (.goto 20, 3) := by decide +kernel
theorem dX1_link_106 : decode cX1_link 106 = .ok (.aload_n 0, 1) := by decide +kernel
theorem dX1_link_107 : decode cX1_link 107 = .ok (.getfield 11, 3) := by decide +kernel
theorem dX1_link_110 : decode cX1_link 110 = .ok (.aload_n 0, 1) := by decide +kernel
theorem dX1_link_111 : decode cX1_link 111 = .ok (.getfield 15, 3) := by decide +kernel
theorem dX1_link_114 : decode cX1_link 114 = .ok (.iload 4, 2) := by decide +kernel
theorem dX1_link_116 : decode cX1_link 116 = .ok (.iaload, 1) := by decide +kernel
theorem dX1_link_117 : decode cX1_link 117 = .ok (.iconst 4, 1) := by decide +kernel
theorem dX1_link_118 : decode cX1_link 118 = .ok (.imul, 1) := by decide +kernel
theorem dX1_link_119 : decode cX1_link 119 = .ok (.iload 5, 2) := by decide +kernel
theorem dX1_link_121 : decode cX1_link 121 = .ok (.iadd, 1) := by decide +kernel
theorem dX1_link_122 : decode cX1_link 122 = .ok (.iaload, 1) := by decide +kernel
theorem dX1_link_123 : decode cX1_link 123 = .ok (.istore 8, 2) := by decide +kernel
theorem dX1_link_125 : decode cX1_link 125 = .ok (.iload 7, 2) := by decide +kernel
theorem dX1_link_127 : decode cX1_link 127 = .ok (.ifCond .ne 15, 3) := by decide +kernel
theorem dX1_link_130 : decode cX1_link 130 = .ok (.aload_n 0, 1) := by decide +kernel
theorem dX1_link_131 : decode cX1_link 131 = .ok (.getfield 11, 3) := by decide +kernel
theorem dX1_link_134 : decode cX1_link 134 = .ok (.iload 6, 2) := by decide +kernel
theorem dX1_link_136 : decode cX1_link 136 = .ok (.iload 8, 2) := by decide +kernel
theorem dX1_link_138 : decode cX1_link 138 = .ok (.iastore, 1) := by decide +kernel
theorem dX1_link_139 : decode cX1_link 139 = .ok (.goto 29, 3) := by decide +kernel
theorem dX1_link_142 : decode cX1_link 142 = .ok (.iload_n 2, 1) := by decide +kernel
theorem dX1_link_143 : decode cX1_link 143 = .ok (.bipush 41, 2) := by decide +kernel
theorem dX1_link_145 : decode cX1_link 145 = .ok (.if_icmp .ge 23, 3) := by decide +kernel
theorem dX1_link_148 : decode cX1_link 148 = .ok (.aload_n 0, 1) := by decide +kernel
theorem dX1_link_149 : decode cX1_link 149 = .ok (.getfield 15, 3) := by decide +kernel
theorem dX1_link_152 : decode cX1_link 152 = .ok (.iload 7, 2) := by decide +kernel
theorem dX1_link_154 : decode cX1_link 154 = .ok (.iload 8, 2) := by decide +kernel
theorem dX1_link_156 : decode cX1_link 156 = .ok (.iastore, 1) := by decide +kernel
theorem dX1_link_157 : decode cX1_link 157 = .ok (.aload_n 0, 1) := by decide +kernel
theorem dX1_link_158 : decode cX1_link 158 = .ok (.getfield 18, 3) := by decide +kernel
theorem dX1_link_161 : decode cX1_link 161 = .ok (.iload_n 2, 1) := by decide +kernel
theorem dX1_link_162 : decode cX1_link 162 = .ok (.iload 7, 2) := by decide +kernel
theorem dX1_link_164 : decode cX1_link 164 = .ok (.iastore, 1) := by decide +kernel
theorem dX1_link_165 : decode cX1_link 165 = .ok (.iinc 2 1, 3) := by decide +kernel
theorem dX1_link_168 : decode cX1_link 168 = .ok (.iinc 5 1, 3) := by decide +kernel
theorem dX1_link_171 : decode cX1_link 171 = .ok (.goto (-101), 3) := by decide +kernel
theorem dX1_link_174 : decode cX1_link 174 = .ok (.iinc 3 1, 3) := by decide +kernel
theorem dX1_link_177 : decode cX1_link 177 = .ok (.goto (-166), 3) := by decide +kernel
theorem dX1_link_180 : decode cX1_link 180 = .ok (.return_, 1) := by decide +kernel
set_option maxRecDepth 20000 in
theorem ggX1_weigh_J7_fill_d0a16 : GoodIn wsX1_weigh wsJ7_fill_d0a16 := goodIn_r _ [10] (by decide +kernel) (by decide +kernel)
set_option maxRecDepth 20000 in
theorem gX1_weigh_J7_fill_d0a16 : GoodIn wsX1_weigh (va_wsS RX1 54 yJ7_fill_d0a16 wsJ7_fill_d0a16) := goodIn_app (goodIn_of _ (by decide +kernel)) ggX1_weigh_J7_fill_d0a16
set_option maxRecDepth 20000 in
theorem ggX1_weigh_X1_readLetter : GoodIn wsX1_weigh wsX1_readLetter := goodIn_r _ [15, 16, 1, 2, 7, 8, 9, 10, 17, 18, 19, 14, 20, 21, 22, 23, 24, 25, 26, 27, 28, 29, 30, 31, 32, 33, 34] (by decide +kernel) (by decide +kernel)
set_option maxRecDepth 20000 in
theorem gX1_weigh_X1_readLetter : GoodIn wsX1_weigh (wsV RX1 63 RX1 yX1_readLetter wsX1_readLetter) := goodIn_app (goodIn_of _ (by decide +kernel)) ggX1_weigh_X1_readLetter
theorem dX1_weigh_0 : decode cX1_weigh 0 = .ok (.iload_n 3, 1) := by decide +kernel
theorem dX1_weigh_1 : decode cX1_weigh 1 = .ok (.ifCond .lt 31, 3) := by decide +kernel
theorem dX1_weigh_4 : decode cX1_weigh 4 = .ok (.iload 4, 2) := by decide +kernel
theorem dX1_weigh_6 : decode cX1_weigh 6 = .ok (.iload_n 3, 1) := by decide +kernel
theorem dX1_weigh_7 : decode cX1_weigh 7 = .ok (.if_icmp .lt 25, 3) := by decide +kernel
theorem dX1_weigh_10 : decode cX1_weigh 10 = .ok (.iload 4, 2) := by decide +kernel
theorem dX1_weigh_12 : decode cX1_weigh 12 = .ok (.bipush 30, 2) := by decide +kernel
theorem dX1_weigh_14 : decode cX1_weigh 14 = .ok (.if_icmp .gt 18, 3) := by decide +kernel
theorem dX1_weigh_17 : decode cX1_weigh 17 = .ok (.aload_n 0, 1) := by decide +kernel
theorem dX1_weigh_18 : decode cX1_weigh 18 = .ok (.getfield 32, 3) := by decide +kernel
theorem dX1_weigh_21 : decode cX1_weigh 21 = .ok (.iload 4, 2) := by decide +kernel
theorem dX1_weigh_23 : decode cX1_weigh 23 = .ok (.iconst 1, 1) := by decide +kernel
theorem dX1_weigh_24 : decode cX1_weigh 24 = .ok (.iadd, 1) := by decide +kernel
theorem dX1_weigh_25 : decode cX1_weigh 25 = .ok (.imul, 1) := by decide +kernel
theorem dX1_weigh_26 : decode cX1_weigh 26 = .ok (.sipush 186, 3) := by decide +kernel
theorem dX1_weigh_29 : decode cX1_weigh 29 = .ok (.if_icmp .le 5, 3) := by decide +kernel
theorem dX1_weigh_32 : decode cX1_weigh 32 = .ok (.lconst 0, 1) := by decide +kernel
theorem dX1_weigh_33 : decode cX1_weigh 33 = .ok (.lreturn, 1) := by decide +kernel
theorem dX1_weigh_34 : decode cX1_weigh 34 = .ok (.aload_n 0, 1) := by decide +kernel
theorem dX1_weigh_35 : decode cX1_weigh 35 = .ok (.getfield 25, 3) := by decide +kernel
theorem dX1_weigh_38 : decode cX1_weigh 38 = .ok (.lconst 0, 1) := by decide +kernel
theorem dX1_weigh_39 : decode cX1_weigh 39 = .ok (.invokestatic 54, 3) := by decide +kernel
theorem dX1_weigh_42 : decode cX1_weigh 42 = .ok (.aload_n 0, 1) := by decide +kernel
theorem dX1_weigh_43 : decode cX1_weigh 43 = .ok (.getfield 25, 3) := by decide +kernel
theorem dX1_weigh_46 : decode cX1_weigh 46 = .ok (.iconst 0, 1) := by decide +kernel
theorem dX1_weigh_47 : decode cX1_weigh 47 = .ok (.lconst 1, 1) := by decide +kernel
theorem dX1_weigh_48 : decode cX1_weigh 48 = .ok (.lastore, 1) := by decide +kernel
theorem dX1_weigh_49 : decode cX1_weigh 49 = .ok (.iconst 0, 1) := by decide +kernel
theorem dX1_weigh_50 : decode cX1_weigh 50 = .ok (.istore 5, 2) := by decide +kernel
theorem dX1_weigh_52 : decode cX1_weigh 52 = .ok (.iload 5, 2) := by decide +kernel
theorem dX1_weigh_54 : decode cX1_weigh 54 = .ok (.iload_n 2, 1) := by decide +kernel
theorem dX1_weigh_55 : decode cX1_weigh 55 = .ok (.if_icmp .ge 23, 3) := by decide +kernel
theorem dX1_weigh_58 : decode cX1_weigh 58 = .ok (.aload_n 0, 1) := by decide +kernel
theorem dX1_weigh_59 : decode cX1_weigh 59 = .ok (.aload_n 1, 1) := by decide +kernel
theorem dX1_weigh_60 : decode cX1_weigh 60 = .ok (.iload 5, 2) := by decide +kernel
theorem dX1_weigh_62 : decode cX1_weigh 62 = .ok (.iload 4, 2) := by decide +kernel
theorem dX1_weigh_64 : decode cX1_weigh 64 = .ok (.invokestatic 57, 3) := by decide +kernel
theorem dX1_weigh_67 : decode cX1_weigh 67 = .ok (.iload 4, 2) := by decide +kernel
theorem dX1_weigh_69 : decode cX1_weigh 69 = .ok (.invokevirtual 63, 3) := by decide +kernel
theorem dX1_weigh_72 : decode cX1_weigh 72 = .ok (.iinc 5 1, 3) := by decide +kernel
theorem dX1_weigh_75 : decode cX1_weigh 75 = .ok (.goto (-23), 3) := by decide +kernel
theorem dX1_weigh_78 : decode cX1_weigh 78 = .ok (.lconst 0, 1) := by decide +kernel
theorem dX1_weigh_79 : decode cX1_weigh 79 = .ok (.lstore 5, 2) := by decide +kernel
theorem dX1_weigh_81 : decode cX1_weigh 81 = .ok (.iload_n 3, 1) := by decide +kernel
theorem dX1_weigh_82 : decode cX1_weigh 82 = .ok (.aload_n 0, 1) := by decide +kernel
theorem dX1_weigh_83 : decode cX1_weigh 83 = .ok (.getfield 32, 3) := by decide +kernel
theorem dX1_weigh_86 : decode cX1_weigh 86 = .ok (.imul, 1) := by decide +kernel
theorem dX1_weigh_87 : decode cX1_weigh 87 = .ok (.istore 7, 2) := by decide +kernel
theorem dX1_weigh_89 : decode cX1_weigh 89 = .ok (.iload 7, 2) := by decide +kernel
theorem dX1_weigh_91 : decode cX1_weigh 91 = .ok (.iload 4, 2) := by decide +kernel
theorem dX1_weigh_93 : decode cX1_weigh 93 = .ok (.iconst 1, 1) := by decide +kernel
theorem dX1_weigh_94 : decode cX1_weigh 94 = .ok (.iadd, 1) := by decide +kernel
theorem dX1_weigh_95 : decode cX1_weigh 95 = .ok (.aload_n 0, 1) := by decide +kernel
theorem dX1_weigh_96 : decode cX1_weigh 96 = .ok (.getfield 32, 3) := by decide +kernel
theorem dX1_weigh_99 : decode cX1_weigh 99 = .ok (.imul, 1) := by decide +kernel
theorem dX1_weigh_100 : decode cX1_weigh 100 = .ok (.if_icmp .ge 21, 3) := by decide +kernel
theorem dX1_weigh_103 : decode cX1_weigh 103 = .ok (.lload 5, 2) := by decide +kernel
theorem dX1_weigh_105 : decode cX1_weigh 105 = .ok (.aload_n 0, 1) := by decide +kernel
theorem dX1_weigh_106 : decode cX1_weigh 106 = .ok (.getfield 25, 3) := by decide +kernel
theorem dX1_weigh_109 : decode cX1_weigh 109 = .ok (.iload 7, 2) := by decide +kernel
theorem dX1_weigh_111 : decode cX1_weigh 111 = .ok (.laload, 1) := by decide +kernel
theorem dX1_weigh_112 : decode cX1_weigh 112 = .ok (.ladd, 1) := by decide +kernel
theorem dX1_weigh_113 : decode cX1_weigh 113 = .ok (.lstore 5, 2) := by decide +kernel
theorem dX1_weigh_115 : decode cX1_weigh 115 = .ok (.iinc 7 1, 3) := by decide +kernel
theorem dX1_weigh_118 : decode cX1_weigh 118 = .ok (.goto (-29), 3) := by decide +kernel
theorem dX1_weigh_121 : decode cX1_weigh 121 = .ok (.lload 5, 2) := by decide +kernel
theorem dX1_weigh_123 : decode cX1_weigh 123 = .ok (.lreturn, 1) := by decide +kernel
set_option maxRecDepth 20000 in
theorem ggX1_readLetter_J7_fill_d0a16 : GoodIn wsX1_readLetter wsJ7_fill_d0a16 := goodIn_r _ [7] (by decide +kernel) (by decide +kernel)
set_option maxRecDepth 20000 in
theorem gX1_readLetter_J7_fill_d0a16 : GoodIn wsX1_readLetter (va_wsS RX1 54 yJ7_fill_d0a16 wsJ7_fill_d0a16) := goodIn_app (goodIn_of _ (by decide +kernel)) ggX1_readLetter_J7_fill_d0a16
set_option maxRecDepth 20000 in
theorem ggX1_readLetter_X1_spread : GoodIn wsX1_readLetter wsX1_spread := goodIn_r _ [12, 13, 14, 15, 1, 2, 16, 24, 25, 26, 17, 18, 19, 20, 21, 22, 23] (by decide +kernel) (by decide +kernel)
set_option maxRecDepth 20000 in
theorem gX1_readLetter_X1_spread : GoodIn wsX1_readLetter (wsV RX1 67 RX1 yX1_spread wsX1_spread) := goodIn_app (goodIn_of _ (by decide +kernel)) ggX1_readLetter_X1_spread
theorem dX1_readLetter_0 : decode cX1_readLetter 0 = .ok (.aload_n 0, 1) := by decide +kernel
theorem dX1_readLetter_1 : decode cX1_readLetter 1 = .ok (.getfield 29, 3) := by decide +kernel
theorem dX1_readLetter_4 : decode cX1_readLetter 4 = .ok (.lconst 0, 1) := by decide +kernel
theorem dX1_readLetter_5 : decode cX1_readLetter 5 = .ok (.invokestatic 54, 3) := by decide +kernel
theorem dX1_readLetter_8 : decode cX1_readLetter 8 = .ok (.iconst 0, 1) := by decide +kernel
theorem dX1_readLetter_9 : decode cX1_readLetter 9 = .ok (.istore 4, 2) := by decide +kernel
theorem dX1_readLetter_11 : decode cX1_readLetter 11 = .ok (.iload 4, 2) := by decide +kernel
theorem dX1_readLetter_13 : decode cX1_readLetter 13 = .ok (.iload_n 2, 1) := by decide +kernel
theorem dX1_readLetter_14 : decode cX1_readLetter 14 = .ok (.if_icmp .gt 63, 3) := by decide +kernel
theorem dX1_readLetter_17 : decode cX1_readLetter 17 = .ok (.iconst 0, 1) := by decide +kernel
theorem dX1_readLetter_18 : decode cX1_readLetter 18 = .ok (.istore 5, 2) := by decide +kernel
theorem dX1_readLetter_20 : decode cX1_readLetter 20 = .ok (.iload 5, 2) := by decide +kernel
theorem dX1_readLetter_22 : decode cX1_readLetter 22 = .ok (.aload_n 0, 1) := by decide +kernel
theorem dX1_readLetter_23 : decode cX1_readLetter 23 = .ok (.getfield 32, 3) := by decide +kernel
theorem dX1_readLetter_26 : decode cX1_readLetter 26 = .ok (.if_icmp .ge 45, 3) := by decide +kernel
theorem dX1_readLetter_29 : decode cX1_readLetter 29 = .ok (.aload_n 0, 1) := by decide +kernel
theorem dX1_readLetter_30 : decode cX1_readLetter 30 = .ok (.getfield 25, 3) := by decide +kernel
theorem dX1_readLetter_33 : decode cX1_readLetter 33 = .ok (.iload 4, 2) := by decide +kernel
theorem dX1_readLetter_35 : decode cX1_readLetter 35 = .ok (.aload_n 0, 1) := by decide +kernel
theorem dX1_readLetter_36 : decode cX1_readLetter 36 = .ok (.getfield 32, 3) := by decide +kernel
theorem dX1_readLetter_39 : decode cX1_readLetter 39 = .ok (.imul, 1) := by decide +kernel
theorem dX1_readLetter_40 : decode cX1_readLetter 40 = .ok (.iload 5, 2) := by decide +kernel
theorem dX1_readLetter_42 : decode cX1_readLetter 42 = .ok (.iadd, 1) := by decide +kernel
theorem dX1_readLetter_43 : decode cX1_readLetter 43 = .ok (.laload, 1) := by decide +kernel
theorem dX1_readLetter_44 : decode cX1_readLetter 44 = .ok (.lstore 6, 2) := by decide +kernel
theorem dX1_readLetter_46 : decode cX1_readLetter 46 = .ok (.lload 6, 2) := by decide +kernel
theorem dX1_readLetter_48 : decode cX1_readLetter 48 = .ok (.lconst 0, 1) := by decide +kernel
theorem dX1_readLetter_49 : decode cX1_readLetter 49 = .ok (.lcmp, 1) := by decide +kernel
theorem dX1_readLetter_50 : decode cX1_readLetter 50 = .ok (.ifCond .eq 15, 3) := by decide +kernel
theorem dX1_readLetter_53 : decode cX1_readLetter 53 = .ok (.aload_n 0, 1) := by decide +kernel
theorem dX1_readLetter_54 : decode cX1_readLetter 54 = .ok (.aload_n 1, 1) := by decide +kernel
theorem dX1_readLetter_55 : decode cX1_readLetter 55 = .ok (.iload 5, 2) := by decide +kernel
theorem dX1_readLetter_57 : decode cX1_readLetter 57 = .ok (.iload 4, 2) := by decide +kernel
theorem dX1_readLetter_59 : decode cX1_readLetter 59 = .ok (.iload_n 3, 1) := by decide +kernel
theorem dX1_readLetter_60 : decode cX1_readLetter 60 = .ok (.lload 6, 2) := by decide +kernel
theorem dX1_readLetter_62 : decode cX1_readLetter 62 = .ok (.invokevirtual 67, 3) := by decide +kernel
theorem dX1_readLetter_65 : decode cX1_readLetter 65 = .ok (.iinc 5 1, 3) := by decide +kernel
theorem dX1_readLetter_68 : decode cX1_readLetter 68 = .ok (.goto (-48), 3) := by decide +kernel
theorem dX1_readLetter_71 : decode cX1_readLetter 71 = .ok (.iinc 4 1, 3) := by decide +kernel
theorem dX1_readLetter_74 : decode cX1_readLetter 74 = .ok (.goto (-63), 3) := by decide +kernel
theorem dX1_readLetter_77 : decode cX1_readLetter 77 = .ok (.aload_n 0, 1) := by decide +kernel
theorem dX1_readLetter_78 : decode cX1_readLetter 78 = .ok (.getfield 25, 3) := by decide +kernel
theorem dX1_readLetter_81 : decode cX1_readLetter 81 = .ok (.astore 4, 2) := by decide +kernel
theorem dX1_readLetter_83 : decode cX1_readLetter 83 = .ok (.aload_n 0, 1) := by decide +kernel
theorem dX1_readLetter_84 : decode cX1_readLetter 84 = .ok (.aload_n 0, 1) := by decide +kernel
theorem dX1_readLetter_85 : decode cX1_readLetter 85 = .ok (.getfield 29, 3) := by decide +kernel
theorem dX1_readLetter_88 : decode cX1_readLetter 88 = .ok (.putfield 25, 3) := by decide +kernel
theorem dX1_readLetter_91 : decode cX1_readLetter 91 = .ok (.aload_n 0, 1) := by decide +kernel
theorem dX1_readLetter_92 : decode cX1_readLetter 92 = .ok (.aload 4, 2) := by decide +kernel
theorem dX1_readLetter_94 : decode cX1_readLetter 94 = .ok (.putfield 29, 3) := by decide +kernel
theorem dX1_readLetter_97 : decode cX1_readLetter 97 = .ok (.return_, 1) := by decide +kernel
theorem dX1_spread_0 : decode cX1_spread 0 = .ok (.iconst 0, 1) := by decide +kernel
theorem dX1_spread_1 : decode cX1_spread 1 = .ok (.istore 7, 2) := by decide +kernel
theorem dX1_spread_3 : decode cX1_spread 3 = .ok (.iload 7, 2) := by decide +kernel
theorem dX1_spread_5 : decode cX1_spread 5 = .ok (.aload_n 1, 1) := by decide +kernel
theorem dX1_spread_6 : decode cX1_spread 6 = .ok (.getfield 50, 3) := by decide +kernel
theorem dX1_spread_9 : decode cX1_spread 9 = .ok (.if_icmp .ge 77, 3) := by decide +kernel
theorem dX1_spread_12 : decode cX1_spread 12 = .ok (.aload_n 0, 1) := by decide +kernel
theorem dX1_spread_13 : decode cX1_spread 13 = .ok (.getfield 11, 3) := by decide +kernel
theorem dX1_spread_16 : decode cX1_spread 16 = .ok (.iload_n 2, 1) := by decide +kernel
theorem dX1_spread_17 : decode cX1_spread 17 = .ok (.iconst 4, 1) := by decide +kernel
theorem dX1_spread_18 : decode cX1_spread 18 = .ok (.imul, 1) := by decide +kernel
theorem dX1_spread_19 : decode cX1_spread 19 = .ok (.iload 7, 2) := by decide +kernel
theorem dX1_spread_21 : decode cX1_spread 21 = .ok (.iadd, 1) := by decide +kernel
theorem dX1_spread_22 : decode cX1_spread 22 = .ok (.iaload, 1) := by decide +kernel
theorem dX1_spread_23 : decode cX1_spread 23 = .ok (.istore 8, 2) := by decide +kernel
theorem dX1_spread_25 : decode cX1_spread 25 = .ok (.aload_n 0, 1) := by decide +kernel
theorem dX1_spread_26 : decode cX1_spread 26 = .ok (.getfield 21, 3) := by decide +kernel
theorem dX1_spread_29 : decode cX1_spread 29 = .ok (.iload 8, 2) := by decide +kernel
theorem dX1_spread_31 : decode cX1_spread 31 = .ok (.baload, 1) := by decide +kernel
theorem dX1_spread_32 : decode cX1_spread 32 = .ok (.ifCond .eq 9, 3) := by decide +kernel
theorem dX1_spread_35 : decode cX1_spread 35 = .ok (.iload_n 3, 1) := by decide +kernel
theorem dX1_spread_36 : decode cX1_spread 36 = .ok (.iconst 1, 1) := by decide +kernel
theorem dX1_spread_37 : decode cX1_spread 37 = .ok (.iadd, 1) := by decide +kernel
theorem dX1_spread_38 : decode cX1_spread 38 = .ok (.goto 4, 3) := by decide +kernel
theorem dX1_spread_41 : decode cX1_spread 41 = .ok (.iload_n 3, 1) := by decide +kernel
theorem dX1_spread_42 : decode cX1_spread 42 = .ok (.istore 9, 2) := by decide +kernel
theorem dX1_spread_44 : decode cX1_spread 44 = .ok (.iload 9, 2) := by decide +kernel
theorem dX1_spread_46 : decode cX1_spread 46 = .ok (.iload 4, 2) := by decide +kernel
theorem dX1_spread_48 : decode cX1_spread 48 = .ok (.if_icmp .gt 32, 3) := by decide +kernel
theorem dX1_spread_51 : decode cX1_spread 51 = .ok (.aload_n 0, 1) := by decide +kernel
theorem dX1_spread_52 : decode cX1_spread 52 = .ok (.getfield 29, 3) := by decide +kernel
theorem dX1_spread_55 : decode cX1_spread 55 = .ok (.iload 9, 2) := by decide +kernel
theorem dX1_spread_57 : decode cX1_spread 57 = .ok (.aload_n 0, 1) := by decide +kernel
theorem dX1_spread_58 : decode cX1_spread 58 = .ok (.getfield 32, 3) := by decide +kernel
theorem dX1_spread_61 : decode cX1_spread 61 = .ok (.imul, 1) := by decide +kernel
theorem dX1_spread_62 : decode cX1_spread 62 = .ok (.iload 8, 2) := by decide +kernel
theorem dX1_spread_64 : decode cX1_spread 64 = .ok (.iadd, 1) := by decide +kernel
theorem dX1_spread_65 : decode cX1_spread 65 = .ok (.dup2, 1) := by decide +kernel
theorem dX1_spread_66 : decode cX1_spread 66 = .ok (.laload, 1) := by decide +kernel
theorem dX1_spread_67 : decode cX1_spread 67 = .ok (.lload 5, 2) := by decide +kernel
theorem dX1_spread_69 : decode cX1_spread 69 = .ok (.aload_n 1, 1) := by decide +kernel
theorem dX1_spread_70 : decode cX1_spread 70 = .ok (.getfield 71, 3) := by decide +kernel
theorem dX1_spread_73 : decode cX1_spread 73 = .ok (.iload 7, 2) := by decide +kernel
theorem dX1_spread_75 : decode cX1_spread 75 = .ok (.iaload, 1) := by decide +kernel
theorem dX1_spread_76 : decode cX1_spread 76 = .ok (.i2l, 1) := by decide +kernel
theorem dX1_spread_77 : decode cX1_spread 77 = .ok (.lmul, 1) := by decide +kernel
theorem dX1_spread_78 : decode cX1_spread 78 = .ok (.ladd, 1) := by decide +kernel
theorem dX1_spread_79 : decode cX1_spread 79 = .ok (.lastore, 1) := by decide +kernel
theorem dX1_spread_80 : decode cX1_spread 80 = .ok (.iinc 7 1, 3) := by decide +kernel
theorem dX1_spread_83 : decode cX1_spread 83 = .ok (.goto (-80), 3) := by decide +kernel
theorem dX1_spread_86 : decode cX1_spread 86 = .ok (.return_, 1) := by decide +kernel
set_option maxRecDepth 20000 in
theorem ggX2_init_X2_clear : GoodIn wsX2_init wsX2_clear := goodIn_r _ [13, 14, 5, 8, 7, 15, 16, 17, 18] (by decide +kernel) (by decide +kernel)
set_option maxRecDepth 20000 in
theorem gX2_init_X2_clear : GoodIn wsX2_init (wsV RX2 24 RX2 yX2_clear wsX2_clear) := goodIn_app (goodIn_of _ (by decide +kernel)) ggX2_init_X2_clear
theorem dX2_init_0 : decode cX2_init 0 = .ok (.aload_n 0, 1) := by decide +kernel
theorem dX2_init_1 : decode cX2_init 1 = .ok (.invokespecial 3, 3) := by decide +kernel
theorem dX2_init_4 : decode cX2_init 4 = .ok (.aload_n 0, 1) := by decide +kernel
theorem dX2_init_5 : decode cX2_init 5 = .ok (.iconst 3, 1) := by decide +kernel
theorem dX2_init_6 : decode cX2_init 6 = .ok (.anewarray 9, 3) := by decide +kernel
theorem dX2_init_9 : decode cX2_init 9 = .ok (.putfield 11, 3) := by decide +kernel
theorem dX2_init_12 : decode cX2_init 12 = .ok (.aload_n 0, 1) := by decide +kernel
theorem dX2_init_13 : decode cX2_init 13 = .ok (.bipush 9, 2) := by decide +kernel
theorem dX2_init_15 : decode cX2_init 15 = .ok (.newarray .long, 2) := by decide +kernel
theorem dX2_init_17 : decode cX2_init 17 = .ok (.putfield 17, 3) := by decide +kernel
theorem dX2_init_20 : decode cX2_init 20 = .ok (.aload_n 0, 1) := by decide +kernel
theorem dX2_init_21 : decode cX2_init 21 = .ok (.iconst 3, 1) := by decide +kernel
theorem dX2_init_22 : decode cX2_init 22 = .ok (.newarray .long, 2) := by decide +kernel
theorem dX2_init_24 : decode cX2_init 24 = .ok (.putfield 21, 3) := by decide +kernel
theorem dX2_init_27 : decode cX2_init 27 = .ok (.aload_n 0, 1) := by decide +kernel
theorem dX2_init_28 : decode cX2_init 28 = .ok (.invokevirtual 24, 3) := by decide +kernel
theorem dX2_init_31 : decode cX2_init 31 = .ok (.return_, 1) := by decide +kernel
theorem dX2_clear_0 : decode cX2_clear 0 = .ok (.aload_n 0, 1) := by decide +kernel
theorem dX2_clear_1 : decode cX2_clear 1 = .ok (.iconst 0, 1) := by decide +kernel
theorem dX2_clear_2 : decode cX2_clear 2 = .ok (.putfield 27, 3) := by decide +kernel
theorem dX2_clear_5 : decode cX2_clear 5 = .ok (.iconst 0, 1) := by decide +kernel
theorem dX2_clear_6 : decode cX2_clear 6 = .ok (.istore_n 1, 1) := by decide +kernel
theorem dX2_clear_7 : decode cX2_clear 7 = .ok (.iload_n 1, 1) := by decide +kernel
theorem dX2_clear_8 : decode cX2_clear 8 = .ok (.iconst 3, 1) := by decide +kernel
theorem dX2_clear_9 : decode cX2_clear 9 = .ok (.if_icmp .ge 56, 3) := by decide +kernel
theorem dX2_clear_12 : decode cX2_clear 12 = .ok (.aload_n 0, 1) := by decide +kernel
theorem dX2_clear_13 : decode cX2_clear 13 = .ok (.getfield 11, 3) := by decide +kernel
theorem dX2_clear_16 : decode cX2_clear 16 = .ok (.iload_n 1, 1) := by decide +kernel
theorem dX2_clear_17 : decode cX2_clear 17 = .ok (.aconst_null, 1) := by decide +kernel
theorem dX2_clear_18 : decode cX2_clear 18 = .ok (.aastore, 1) := by decide +kernel
theorem dX2_clear_19 : decode cX2_clear 19 = .ok (.aload_n 0, 1) := by decide +kernel
theorem dX2_clear_20 : decode cX2_clear 20 = .ok (.getfield 21, 3) := by decide +kernel
theorem dX2_clear_23 : decode cX2_clear 23 = .ok (.iload_n 1, 1) := by decide +kernel
theorem dX2_clear_24 : decode cX2_clear 24 = .ok (.lconst 0, 1) := by decide +kernel
theorem dX2_clear_25 : decode cX2_clear 25 = .ok (.lastore, 1) := by decide +kernel
theorem dX2_clear_26 : decode cX2_clear 26 = .ok (.iconst 0, 1) := by decide +kernel
theorem dX2_clear_27 : decode cX2_clear 27 = .ok (.istore_n 2, 1) := by decide +kernel
theorem dX2_clear_28 : decode cX2_clear 28 = .ok (.iload_n 2, 1) := by decide +kernel
theorem dX2_clear_29 : decode cX2_clear 29 = .ok (.iconst 3, 1) := by decide +kernel
theorem dX2_clear_30 : decode cX2_clear 30 = .ok (.if_icmp .ge 29, 3) := by decide +kernel
theorem dX2_clear_33 : decode cX2_clear 33 = .ok (.aload_n 0, 1) := by decide +kernel
theorem dX2_clear_34 : decode cX2_clear 34 = .ok (.getfield 17, 3) := by decide +kernel
theorem dX2_clear_37 : decode cX2_clear 37 = .ok (.iload_n 1, 1) := by decide +kernel
theorem dX2_clear_38 : decode cX2_clear 38 = .ok (.iconst 3, 1) := by decide +kernel
theorem dX2_clear_39 : decode cX2_clear 39 = .ok (.imul, 1) := by decide +kernel
theorem dX2_clear_40 : decode cX2_clear 40 = .ok (.iload_n 2, 1) := by decide +kernel
theorem dX2_clear_41 : decode cX2_clear 41 = .ok (.iadd, 1) := by decide +kernel
theorem dX2_clear_42 : decode cX2_clear 42 = .ok (.iload_n 1, 1) := by decide +kernel
theorem dX2_clear_43 : decode cX2_clear 43 = .ok (.iload_n 2, 1) := by decide +kernel
theorem dX2_clear_44 : decode cX2_clear 44 = .ok (.if_icmp .ne 7, 3) := by decide +kernel
theorem dX2_clear_47 : decode cX2_clear 47 = .ok (.lconst 1, 1) := by decide +kernel
theorem dX2_clear_48 : decode cX2_clear 48 = .ok (.goto 4, 3) := by decide +kernel
theorem dX2_clear_51 : decode cX2_clear 51 = .ok (.lconst 0, 1) := by decide +kernel
theorem dX2_clear_52 : decode cX2_clear 52 = .ok (.lastore, 1) := by decide +kernel
theorem dX2_clear_53 : decode cX2_clear 53 = .ok (.iinc 2 1, 3) := by decide +kernel
theorem dX2_clear_56 : decode cX2_clear 56 = .ok (.goto (-28), 3) := by decide +kernel
theorem dX2_clear_59 : decode cX2_clear 59 = .ok (.iinc 1 1, 3) := by decide +kernel
theorem dX2_clear_62 : decode cX2_clear 62 = .ok (.goto (-55), 3) := by decide +kernel
theorem dX2_clear_65 : decode cX2_clear 65 = .ok (.return_, 1) := by decide +kernel
set_option maxRecDepth 20000 in
theorem ggX2_enter_X4_liesWithin : GoodIn wsX2_enter wsX4_liesWithin := goodIn_r _ [9, 10, 11, 12, 13, 14, 8, 15, 39, 40, 41, 42, 43, 44, 45] (by decide +kernel) (by decide +kernel)
set_option maxRecDepth 20000 in
theorem gX2_enter_X4_liesWithin : GoodIn wsX2_enter (wsV RX2 31 RX4 yX4_liesWithin wsX4_liesWithin) := goodIn_app (goodIn_of _ (by decide +kernel)) ggX2_enter_X4_liesWithin
set_option maxRecDepth 20000 in
theorem ggX2_enter_X4_leadBottom : GoodIn wsX2_enter wsX4_leadBottom := goodIn_r _ [19, 20, 39, 40, 41, 42, 43, 44, 45] (by decide +kernel) (by decide +kernel)
set_option maxRecDepth 20000 in
theorem gX2_enter_X4_leadBottom : GoodIn wsX2_enter (wsV RX2 35 RX4 yX4_leadBottom wsX4_leadBottom) := goodIn_app (goodIn_of _ (by decide +kernel)) ggX2_enter_X4_leadBottom
set_option maxRecDepth 20000 in
theorem ggX2_enter_X4_leadOn : GoodIn wsX2_enter wsX4_leadOn := goodIn_r _ [24, 10, 25, 26, 27, 28, 20, 29, 30, 31, 8, 32, 33, 34, 39, 40, 41, 42, 43, 44, 45] (by decide +kernel) (by decide +kernel)
set_option maxRecDepth 20000 in
theorem gX2_enter_X4_leadOn : GoodIn wsX2_enter (wsV RX2 39 RX4 yX4_leadOn wsX4_leadOn) := goodIn_app (goodIn_of _ (by decide +kernel)) ggX2_enter_X4_leadOn
theorem dX2_enter_0 : decode cX2_enter 0 = .ok (.aload_n 0, 1) := by decide +kernel
theorem dX2_enter_1 : decode cX2_enter 1 = .ok (.getfield 27, 3) := by decide +kernel
theorem dX2_enter_4 : decode cX2_enter 4 = .ok (.iconst 3, 1) := by decide +kernel
theorem dX2_enter_5 : decode cX2_enter 5 = .ok (.if_icmp .lt 5, 3) := by decide +kernel
theorem dX2_enter_8 : decode cX2_enter 8 = .ok (.iconst 0, 1) := by decide +kernel
theorem dX2_enter_9 : decode cX2_enter 9 = .ok (.ireturn, 1) := by decide +kernel
theorem dX2_enter_10 : decode cX2_enter 10 = .ok (.iconst 0, 1) := by decide +kernel
theorem dX2_enter_11 : decode cX2_enter 11 = .ok (.istore_n 2, 1) := by decide +kernel
theorem dX2_enter_12 : decode cX2_enter 12 = .ok (.iload_n 2, 1) := by decide +kernel
theorem dX2_enter_13 : decode cX2_enter 13 = .ok (.aload_n 0, 1) := by decide +kernel
theorem dX2_enter_14 : decode cX2_enter 14 = .ok (.getfield 27, 3) := by decide +kernel
theorem dX2_enter_17 : decode cX2_enter 17 = .ok (.if_icmp .ge 38, 3) := by decide +kernel
theorem dX2_enter_20 : decode cX2_enter 20 = .ok (.aload_n 0, 1) := by decide +kernel
theorem dX2_enter_21 : decode cX2_enter 21 = .ok (.getfield 11, 3) := by decide +kernel
theorem dX2_enter_24 : decode cX2_enter 24 = .ok (.iload_n 2, 1) := by decide +kernel
theorem dX2_enter_25 : decode cX2_enter 25 = .ok (.aaload, 1) := by decide +kernel
theorem dX2_enter_26 : decode cX2_enter 26 = .ok (.astore_n 3, 1) := by decide +kernel
theorem dX2_enter_27 : decode cX2_enter 27 = .ok (.aload_n 3, 1) := by decide +kernel
theorem dX2_enter_28 : decode cX2_enter 28 = .ok (.ifnull 19, 3) := by decide +kernel
theorem dX2_enter_31 : decode cX2_enter 31 = .ok (.aload_n 1, 1) := by decide +kernel
theorem dX2_enter_32 : decode cX2_enter 32 = .ok (.aload_n 3, 1) := by decide +kernel
theorem dX2_enter_33 : decode cX2_enter 33 = .ok (.invokevirtual 31, 3) := by decide +kernel
theorem dX2_enter_36 : decode cX2_enter 36 = .ok (.ifCond .ne 11, 3) := by decide +kernel
theorem dX2_enter_39 : decode cX2_enter 39 = .ok (.aload_n 3, 1) := by decide +kernel
