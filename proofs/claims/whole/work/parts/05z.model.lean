theorem dX8_init_0 : decode cX8_init 0 = .ok (.aload_n 0, 1) := by decide +kernel
theorem dX8_init_1 : decode cX8_init 1 = .ok (.invokespecial 3, 3) := by decide +kernel
theorem dX8_init_4 : decode cX8_init 4 = .ok (.aload_n 0, 1) := by decide +kernel
theorem dX8_init_5 : decode cX8_init 5 = .ok (.sipush 178, 3) := by decide +kernel
theorem dX8_init_8 : decode cX8_init 8 = .ok (.newarray .int, 2) := by decide +kernel
theorem dX8_init_10 : decode cX8_init 10 = .ok (.putfield 9, 3) := by decide +kernel
theorem dX8_init_13 : decode cX8_init 13 = .ok (.aload_n 0, 1) := by decide +kernel
theorem dX8_init_14 : decode cX8_init 14 = .ok (.sipush 178, 3) := by decide +kernel
theorem dX8_init_17 : decode cX8_init 17 = .ok (.newarray .int, 2) := by decide +kernel
theorem dX8_init_19 : decode cX8_init 19 = .ok (.putfield 13, 3) := by decide +kernel
theorem dX8_init_22 : decode cX8_init 22 = .ok (.aload_n 0, 1) := by decide +kernel
theorem dX8_init_23 : decode cX8_init 23 = .ok (.sipush 178, 3) := by decide +kernel
theorem dX8_init_26 : decode cX8_init 26 = .ok (.newarray .int, 2) := by decide +kernel
theorem dX8_init_28 : decode cX8_init 28 = .ok (.putfield 16, 3) := by decide +kernel
theorem dX8_init_31 : decode cX8_init 31 = .ok (.aload_n 0, 1) := by decide +kernel
theorem dX8_init_32 : decode cX8_init 32 = .ok (.sipush 1424, 3) := by decide +kernel
theorem dX8_init_35 : decode cX8_init 35 = .ok (.newarray .int, 2) := by decide +kernel
theorem dX8_init_37 : decode cX8_init 37 = .ok (.putfield 19, 3) := by decide +kernel
theorem dX8_init_40 : decode cX8_init 40 = .ok (.aload_n 0, 1) := by decide +kernel
theorem dX8_init_41 : decode cX8_init 41 = .ok (.iconst (-1), 1) := by decide +kernel
theorem dX8_init_42 : decode cX8_init 42 = .ok (.putfield 22, 3) := by decide +kernel
theorem dX8_init_45 : decode cX8_init 45 = .ok (.aload_n 0, 1) := by decide +kernel
theorem dX8_init_46 : decode cX8_init 46 = .ok (.iconst (-1), 1) := by decide +kernel
theorem dX8_init_47 : decode cX8_init 47 = .ok (.putfield 26, 3) := by decide +kernel
theorem dX8_init_50 : decode cX8_init 50 = .ok (.aload_n 0, 1) := by decide +kernel
theorem dX8_init_51 : decode cX8_init 51 = .ok (.bipush 60, 2) := by decide +kernel
theorem dX8_init_53 : decode cX8_init 53 = .ok (.newarray .int, 2) := by decide +kernel
theorem dX8_init_55 : decode cX8_init 55 = .ok (.putfield 29, 3) := by decide +kernel
theorem dX8_init_58 : decode cX8_init 58 = .ok (.aload_n 0, 1) := by decide +kernel
theorem dX8_init_59 : decode cX8_init 59 = .ok (.bipush 60, 2) := by decide +kernel
theorem dX8_init_61 : decode cX8_init 61 = .ok (.newarray .int, 2) := by decide +kernel
theorem dX8_init_63 : decode cX8_init 63 = .ok (.putfield 32, 3) := by decide +kernel
theorem dX8_init_66 : decode cX8_init 66 = .ok (.aload_n 0, 1) := by decide +kernel
theorem dX8_init_67 : decode cX8_init 67 = .ok (.bipush 8, 2) := by decide +kernel
theorem dX8_init_69 : decode cX8_init 69 = .ok (.newarray .int, 2) := by decide +kernel
theorem dX8_init_71 : decode cX8_init 71 = .ok (.putfield 35, 3) := by decide +kernel
theorem dX8_init_74 : decode cX8_init 74 = .ok (.aload_n 0, 1) := by decide +kernel
theorem dX8_init_75 : decode cX8_init 75 = .ok (.bipush 8, 2) := by decide +kernel
theorem dX8_init_77 : decode cX8_init 77 = .ok (.newarray .int, 2) := by decide +kernel
theorem dX8_init_79 : decode cX8_init 79 = .ok (.putfield 38, 3) := by decide +kernel
theorem dX8_init_82 : decode cX8_init 82 = .ok (.aload_n 0, 1) := by decide +kernel
theorem dX8_init_83 : decode cX8_init 83 = .ok (.bipush 120, 2) := by decide +kernel
theorem dX8_init_85 : decode cX8_init 85 = .ok (.newarray .int, 2) := by decide +kernel
theorem dX8_init_87 : decode cX8_init 87 = .ok (.putfield 41, 3) := by decide +kernel
theorem dX8_init_90 : decode cX8_init 90 = .ok (.iconst 0, 1) := by decide +kernel
theorem dX8_init_91 : decode cX8_init 91 = .ok (.istore_n 1, 1) := by decide +kernel
theorem dX8_init_92 : decode cX8_init 92 = .ok (.iload_n 1, 1) := by decide +kernel
theorem dX8_init_93 : decode cX8_init 93 = .ok (.bipush 8, 2) := by decide +kernel
theorem dX8_init_95 : decode cX8_init 95 = .ok (.if_icmp .ge 21, 3) := by decide +kernel
theorem dX8_init_98 : decode cX8_init 98 = .ok (.aload_n 0, 1) := by decide +kernel
theorem dX8_init_99 : decode cX8_init 99 = .ok (.getfield 9, 3) := by decide +kernel
theorem dX8_init_102 : decode cX8_init 102 = .ok (.bipush 6, 2) := by decide +kernel
theorem dX8_init_104 : decode cX8_init 104 = .ok (.iload_n 1, 1) := by decide +kernel
theorem dX8_init_105 : decode cX8_init 105 = .ok (.iadd, 1) := by decide +kernel
theorem dX8_init_106 : decode cX8_init 106 = .ok (.iload_n 1, 1) := by decide +kernel
theorem dX8_init_107 : decode cX8_init 107 = .ok (.iconst 4, 1) := by decide +kernel
theorem dX8_init_108 : decode cX8_init 108 = .ok (.irem, 1) := by decide +kernel
theorem dX8_init_109 : decode cX8_init 109 = .ok (.iastore, 1) := by decide +kernel
theorem dX8_init_110 : decode cX8_init 110 = .ok (.iinc 1 1, 3) := by decide +kernel
theorem dX8_init_113 : decode cX8_init 113 = .ok (.goto (-21), 3) := by decide +kernel
theorem dX8_init_116 : decode cX8_init 116 = .ok (.return_, 1) := by decide +kernel
theorem dX8_thrown_0 : decode cX8_thrown 0 = .ok (.aload_n 0, 1) := by decide +kernel
theorem dX8_thrown_1 : decode cX8_thrown 1 = .ok (.getfield 44, 3) := by decide +kernel
theorem dX8_thrown_4 : decode cX8_thrown 4 = .ok (.ireturn, 1) := by decide +kernel
theorem dX8_isIn_0 : decode cX8_isIn 0 = .ok (.iload_n 0, 1) := by decide +kernel
theorem dX8_isIn_1 : decode cX8_isIn 1 = .ok (.iload_n 1, 1) := by decide +kernel
theorem dX8_isIn_2 : decode cX8_isIn 2 = .ok (.if_icmp .lt 12, 3) := by decide +kernel
theorem dX8_isIn_5 : decode cX8_isIn 5 = .ok (.iload_n 0, 1) := by decide +kernel
theorem dX8_isIn_6 : decode cX8_isIn 6 = .ok (.iload_n 2, 1) := by decide +kernel
theorem dX8_isIn_7 : decode cX8_isIn 7 = .ok (.if_icmp .gt 7, 3) := by decide +kernel
theorem dX8_isIn_10 : decode cX8_isIn 10 = .ok (.iconst 1, 1) := by decide +kernel
theorem dX8_isIn_11 : decode cX8_isIn 11 = .ok (.goto 4, 3) := by decide +kernel
theorem dX8_isIn_14 : decode cX8_isIn 14 = .ok (.iconst 0, 1) := by decide +kernel
theorem dX8_isIn_15 : decode cX8_isIn 15 = .ok (.ireturn, 1) := by decide +kernel
theorem dX8_copies_0 : decode cX8_copies 0 = .ok (.iconst 0, 1) := by decide +kernel
theorem dX8_copies_1 : decode cX8_copies 1 = .ok (.istore 4, 2) := by decide +kernel
theorem dX8_copies_3 : decode cX8_copies 3 = .ok (.iload 4, 2) := by decide +kernel
theorem dX8_copies_5 : decode cX8_copies 5 = .ok (.sipush 178, 3) := by decide +kernel
theorem dX8_copies_8 : decode cX8_copies 8 = .ok (.if_icmp .ge 21, 3) := by decide +kernel
theorem dX8_copies_11 : decode cX8_copies 11 = .ok (.aload_n 2, 1) := by decide +kernel
theorem dX8_copies_12 : decode cX8_copies 12 = .ok (.iload_n 3, 1) := by decide +kernel
theorem dX8_copies_13 : decode cX8_copies 13 = .ok (.iload 4, 2) := by decide +kernel
theorem dX8_copies_15 : decode cX8_copies 15 = .ok (.iadd, 1) := by decide +kernel
theorem dX8_copies_16 : decode cX8_copies 16 = .ok (.aload_n 0, 1) := by decide +kernel
theorem dX8_copies_17 : decode cX8_copies 17 = .ok (.iload_n 1, 1) := by decide +kernel
theorem dX8_copies_18 : decode cX8_copies 18 = .ok (.iload 4, 2) := by decide +kernel
theorem dX8_copies_20 : decode cX8_copies 20 = .ok (.iadd, 1) := by decide +kernel
theorem dX8_copies_21 : decode cX8_copies 21 = .ok (.iaload, 1) := by decide +kernel
theorem dX8_copies_22 : decode cX8_copies 22 = .ok (.iastore, 1) := by decide +kernel
theorem dX8_copies_23 : decode cX8_copies 23 = .ok (.iinc 4 1, 3) := by decide +kernel
theorem dX8_copies_26 : decode cX8_copies 26 = .ok (.goto (-23), 3) := by decide +kernel
theorem dX8_copies_29 : decode cX8_copies 29 = .ok (.return_, 1) := by decide +kernel
theorem dX8_holds_0 : decode cX8_holds 0 = .ok (.aload_n 0, 1) := by decide +kernel
theorem dX8_holds_1 : decode cX8_holds 1 = .ok (.iload_n 1, 1) := by decide +kernel
theorem dX8_holds_2 : decode cX8_holds 2 = .ok (.ifCond .ne 7, 3) := by decide +kernel
theorem dX8_holds_5 : decode cX8_holds 5 = .ok (.iconst 1, 1) := by decide +kernel
theorem dX8_holds_6 : decode cX8_holds 6 = .ok (.goto 29, 3) := by decide +kernel
theorem dX8_holds_9 : decode cX8_holds 9 = .ok (.iload_n 2, 1) := by decide +kernel
theorem dX8_holds_10 : decode cX8_holds 10 = .ok (.ifCond .ne 7, 3) := by decide +kernel
theorem dX8_holds_13 : decode cX8_holds 13 = .ok (.iconst 2, 1) := by decide +kernel
theorem dX8_holds_14 : decode cX8_holds 14 = .ok (.goto 21, 3) := by decide +kernel
theorem dX8_holds_17 : decode cX8_holds 17 = .ok (.iload_n 3, 1) := by decide +kernel
theorem dX8_holds_18 : decode cX8_holds 18 = .ok (.ifCond .ne 7, 3) := by decide +kernel
theorem dX8_holds_21 : decode cX8_holds 21 = .ok (.iconst 3, 1) := by decide +kernel
theorem dX8_holds_22 : decode cX8_holds 22 = .ok (.goto 13, 3) := by decide +kernel
theorem dX8_holds_25 : decode cX8_holds 25 = .ok (.iload 4, 2) := by decide +kernel
theorem dX8_holds_27 : decode cX8_holds 27 = .ok (.ifCond .ne 7, 3) := by decide +kernel
theorem dX8_holds_30 : decode cX8_holds 30 = .ok (.iconst 4, 1) := by decide +kernel
theorem dX8_holds_31 : decode cX8_holds 31 = .ok (.goto 4, 3) := by decide +kernel
theorem dX8_holds_34 : decode cX8_holds 34 = .ok (.iconst 0, 1) := by decide +kernel
theorem dX8_holds_35 : decode cX8_holds 35 = .ok (.putfield 44, 3) := by decide +kernel
theorem dX8_holds_38 : decode cX8_holds 38 = .ok (.aload_n 0, 1) := by decide +kernel
theorem dX8_holds_39 : decode cX8_holds 39 = .ok (.getfield 44, 3) := by decide +kernel
theorem dX8_holds_42 : decode cX8_holds 42 = .ok (.ifCond .ne 7, 3) := by decide +kernel
theorem dX8_holds_45 : decode cX8_holds 45 = .ok (.iconst 1, 1) := by decide +kernel
theorem dX8_holds_46 : decode cX8_holds 46 = .ok (.goto 4, 3) := by decide +kernel
theorem dX8_holds_49 : decode cX8_holds 49 = .ok (.iconst 0, 1) := by decide +kernel
theorem dX8_holds_50 : decode cX8_holds 50 = .ok (.ireturn, 1) := by decide +kernel
set_option maxRecDepth 20000 in
theorem ggX8_goes_X8_holds : GoodIn wsX8_goes wsX8_holds := goodIn_r _ [5, 6, 7, 8, 9, 10, 11, 12, 13, 14, 15, 16, 17, 18, 19, 20, 21, 22, 23, 24, 25, 26] (by decide +kernel) (by decide +kernel)
set_option maxRecDepth 20000 in
theorem gX8_goes_X8_holds : GoodIn wsX8_goes (wsV RX8 47 RX8 yX8_holds wsX8_holds) := goodIn_app (goodIn_of _ (by decide +kernel)) ggX8_goes_X8_holds
theorem dX8_goes_0 : decode cX8_goes 0 = .ok (.aload_n 0, 1) := by decide +kernel
theorem dX8_goes_1 : decode cX8_goes 1 = .ok (.iload_n 1, 1) := by decide +kernel
theorem dX8_goes_2 : decode cX8_goes 2 = .ok (.iconst 1, 1) := by decide +kernel
theorem dX8_goes_3 : decode cX8_goes 3 = .ok (.iconst 1, 1) := by decide +kernel
theorem dX8_goes_4 : decode cX8_goes 4 = .ok (.iconst 1, 1) := by decide +kernel
theorem dX8_goes_5 : decode cX8_goes 5 = .ok (.invokevirtual 47, 3) := by decide +kernel
theorem dX8_goes_8 : decode cX8_goes 8 = .ok (.ireturn, 1) := by decide +kernel
set_option maxRecDepth 20000 in
theorem ggX8_begins_X8_copies : GoodIn wsX8_begins wsX8_copies := goodIn_ca (goodIn_r _ [6] (by decide +kernel) (by decide +kernel)) (goodIn_sub (fun _ h => List.mem_cons_of_mem _ (List.mem_append_right _ h)) (by decide +kernel))
set_option maxRecDepth 20000 in
theorem gX8_begins_X8_copies : GoodIn wsX8_begins (va_wsS RX8 51 yX8_copies wsX8_copies) := goodIn_app (goodIn_of _ (by decide +kernel)) ggX8_begins_X8_copies
theorem dX8_begins_0 : decode cX8_begins 0 = .ok (.aload_n 0, 1) := by decide +kernel
theorem dX8_begins_1 : decode cX8_begins 1 = .ok (.getfield 9, 3) := by decide +kernel
theorem dX8_begins_4 : decode cX8_begins 4 = .ok (.iconst 0, 1) := by decide +kernel
theorem dX8_begins_5 : decode cX8_begins 5 = .ok (.aload_n 0, 1) := by decide +kernel
theorem dX8_begins_6 : decode cX8_begins 6 = .ok (.getfield 13, 3) := by decide +kernel
theorem dX8_begins_9 : decode cX8_begins 9 = .ok (.iconst 0, 1) := by decide +kernel
theorem dX8_begins_10 : decode cX8_begins 10 = .ok (.invokestatic 51, 3) := by decide +kernel
theorem dX8_begins_13 : decode cX8_begins 13 = .ok (.return_, 1) := by decide +kernel
set_option maxRecDepth 20000 in
theorem ggX8_remembers_X8_copies : GoodIn wsX8_remembers wsX8_copies := goodIn_ca (goodIn_r _ [7] (by decide +kernel) (by decide +kernel)) (goodIn_sub (fun _ h => List.mem_cons_of_mem _ (List.mem_append_right _ h)) (by decide +kernel))
set_option maxRecDepth 20000 in
theorem gX8_remembers_X8_copies : GoodIn wsX8_remembers (va_wsS RX8 51 yX8_copies wsX8_copies) := goodIn_app (goodIn_of _ (by decide +kernel)) ggX8_remembers_X8_copies
theorem dX8_remembers_0 : decode cX8_remembers 0 = .ok (.aload_n 0, 1) := by decide +kernel
theorem dX8_remembers_1 : decode cX8_remembers 1 = .ok (.getfield 55, 3) := by decide +kernel
theorem dX8_remembers_4 : decode cX8_remembers 4 = .ok (.bipush 8, 2) := by decide +kernel
theorem dX8_remembers_6 : decode cX8_remembers 6 = .ok (.if_icmp .ne 44, 3) := by decide +kernel
theorem dX8_remembers_9 : decode cX8_remembers 9 = .ok (.iconst 0, 1) := by decide +kernel
theorem dX8_remembers_10 : decode cX8_remembers 10 = .ok (.istore_n 1, 1) := by decide +kernel
theorem dX8_remembers_11 : decode cX8_remembers 11 = .ok (.iload_n 1, 1) := by decide +kernel
theorem dX8_remembers_12 : decode cX8_remembers 12 = .ok (.sipush 1246, 3) := by decide +kernel
theorem dX8_remembers_15 : decode cX8_remembers 15 = .ok (.if_icmp .ge 25, 3) := by decide +kernel
theorem dX8_remembers_18 : decode cX8_remembers 18 = .ok (.aload_n 0, 1) := by decide +kernel
theorem dX8_remembers_19 : decode cX8_remembers 19 = .ok (.getfield 19, 3) := by decide +kernel
theorem dX8_remembers_22 : decode cX8_remembers 22 = .ok (.iload_n 1, 1) := by decide +kernel
theorem dX8_remembers_23 : decode cX8_remembers 23 = .ok (.aload_n 0, 1) := by decide +kernel
theorem dX8_remembers_24 : decode cX8_remembers 24 = .ok (.getfield 19, 3) := by decide +kernel
theorem dX8_remembers_27 : decode cX8_remembers 27 = .ok (.iload_n 1, 1) := by decide +kernel
theorem dX8_remembers_28 : decode cX8_remembers 28 = .ok (.sipush 178, 3) := by decide +kernel
theorem dX8_remembers_31 : decode cX8_remembers 31 = .ok (.iadd, 1) := by decide +kernel
theorem dX8_remembers_32 : decode cX8_remembers 32 = .ok (.iaload, 1) := by decide +kernel
theorem dX8_remembers_33 : decode cX8_remembers 33 = .ok (.iastore, 1) := by decide +kernel
theorem dX8_remembers_34 : decode cX8_remembers 34 = .ok (.iinc 1 1, 3) := by decide +kernel
theorem dX8_remembers_37 : decode cX8_remembers 37 = .ok (.goto (-26), 3) := by decide +kernel
theorem dX8_remembers_40 : decode cX8_remembers 40 = .ok (.aload_n 0, 1) := by decide +kernel
theorem dX8_remembers_41 : decode cX8_remembers 41 = .ok (.dup, 1) := by decide +kernel
theorem dX8_remembers_42 : decode cX8_remembers 42 = .ok (.getfield 55, 3) := by decide +kernel
theorem dX8_remembers_45 : decode cX8_remembers 45 = .ok (.iconst 1, 1) := by decide +kernel
theorem dX8_remembers_46 : decode cX8_remembers 46 = .ok (.isub, 1) := by decide +kernel
theorem dX8_remembers_47 : decode cX8_remembers 47 = .ok (.putfield 55, 3) := by decide +kernel
theorem dX8_remembers_50 : decode cX8_remembers 50 = .ok (.aload_n 0, 1) := by decide +kernel
theorem dX8_remembers_51 : decode cX8_remembers 51 = .ok (.getfield 13, 3) := by decide +kernel
theorem dX8_remembers_54 : decode cX8_remembers 54 = .ok (.iconst 0, 1) := by decide +kernel
theorem dX8_remembers_55 : decode cX8_remembers 55 = .ok (.aload_n 0, 1) := by decide +kernel
theorem dX8_remembers_56 : decode cX8_remembers 56 = .ok (.getfield 19, 3) := by decide +kernel
theorem dX8_remembers_59 : decode cX8_remembers 59 = .ok (.aload_n 0, 1) := by decide +kernel
theorem dX8_remembers_60 : decode cX8_remembers 60 = .ok (.getfield 55, 3) := by decide +kernel
theorem dX8_remembers_63 : decode cX8_remembers 63 = .ok (.sipush 178, 3) := by decide +kernel
theorem dX8_remembers_66 : decode cX8_remembers 66 = .ok (.imul, 1) := by decide +kernel
theorem dX8_remembers_67 : decode cX8_remembers 67 = .ok (.invokestatic 51, 3) := by decide +kernel
theorem dX8_remembers_70 : decode cX8_remembers 70 = .ok (.aload_n 0, 1) := by decide +kernel
theorem dX8_remembers_71 : decode cX8_remembers 71 = .ok (.dup, 1) := by decide +kernel
theorem dX8_remembers_72 : decode cX8_remembers 72 = .ok (.getfield 55, 3) := by decide +kernel
theorem dX8_remembers_75 : decode cX8_remembers 75 = .ok (.iconst 1, 1) := by decide +kernel
theorem dX8_remembers_76 : decode cX8_remembers 76 = .ok (.iadd, 1) := by decide +kernel
theorem dX8_remembers_77 : decode cX8_remembers 77 = .ok (.putfield 55, 3) := by decide +kernel
theorem dX8_remembers_80 : decode cX8_remembers 80 = .ok (.return_, 1) := by decide +kernel
set_option maxRecDepth 20000 in
theorem ggX8_ends_X8_copies : GoodIn wsX8_ends wsX8_copies := goodIn_ca (goodIn_r _ [7] (by decide +kernel) (by decide +kernel)) (goodIn_sub (fun _ h => List.mem_cons_of_mem _ (List.mem_append_right _ h)) (by decide +kernel))
set_option maxRecDepth 20000 in
theorem gX8_ends_X8_copies : GoodIn wsX8_ends (va_wsS RX8 51 yX8_copies wsX8_copies) := goodIn_app (goodIn_of _ (by decide +kernel)) ggX8_ends_X8_copies
set_option maxRecDepth 20000 in
theorem ggX8_ends_X8_remembers : GoodIn wsX8_ends wsX8_remembers := goodIn_ca (goodIn_r _ [11, 12, 13, 2, 4, 5, 6, 7, 14, 15, 16, 17, 18, 19, 20, 21, 22, 23, 24, 25, 26, 27, 28, 29, 30, 31, 32, 33] (by decide +kernel) (by decide +kernel)) (goodIn_sub (fun _ h => List.mem_cons_of_mem _ (List.mem_append_right _ h)) (by decide +kernel))
set_option maxRecDepth 20000 in
theorem gX8_ends_X8_remembers : GoodIn wsX8_ends (wsV RX8 58 RX8 yX8_remembers wsX8_remembers) := goodIn_app (goodIn_of _ (by decide +kernel)) ggX8_ends_X8_remembers
theorem dX8_ends_0 : decode cX8_ends 0 = .ok (.aload_n 0, 1) := by decide +kernel
theorem dX8_ends_1 : decode cX8_ends 1 = .ok (.getfield 44, 3) := by decide +kernel
theorem dX8_ends_4 : decode cX8_ends 4 = .ok (.ifCond .eq 18, 3) := by decide +kernel
theorem dX8_ends_7 : decode cX8_ends 7 = .ok (.aload_n 0, 1) := by decide +kernel
theorem dX8_ends_8 : decode cX8_ends 8 = .ok (.getfield 13, 3) := by decide +kernel
theorem dX8_ends_11 : decode cX8_ends 11 = .ok (.iconst 0, 1) := by decide +kernel
theorem dX8_ends_12 : decode cX8_ends 12 = .ok (.aload_n 0, 1) := by decide +kernel
theorem dX8_ends_13 : decode cX8_ends 13 = .ok (.getfield 9, 3) := by decide +kernel
theorem dX8_ends_16 : decode cX8_ends 16 = .ok (.iconst 0, 1) := by decide +kernel
theorem dX8_ends_17 : decode cX8_ends 17 = .ok (.invokestatic 51, 3) := by decide +kernel
theorem dX8_ends_20 : decode cX8_ends 20 = .ok (.iconst 0, 1) := by decide +kernel
theorem dX8_ends_21 : decode cX8_ends 21 = .ok (.ireturn, 1) := by decide +kernel
theorem dX8_ends_22 : decode cX8_ends 22 = .ok (.aload_n 0, 1) := by decide +kernel
theorem dX8_ends_23 : decode cX8_ends 23 = .ok (.invokevirtual 58, 3) := by decide +kernel
theorem dX8_ends_26 : decode cX8_ends 26 = .ok (.iload_n 1, 1) := by decide +kernel
theorem dX8_ends_27 : decode cX8_ends 27 = .ok (.ireturn, 1) := by decide +kernel
set_option maxRecDepth 20000 in
theorem ggX8_undo_X8_goes : GoodIn wsX8_undo wsX8_goes := goodIn_r _ [9, 10, 11, 12, 8, 13, 4, 17, 18, 19, 20, 21, 22, 23, 24, 25, 26, 27, 28, 29, 30, 31, 32, 33, 34, 35, 36] (by decide +kernel) (by decide +kernel)
set_option maxRecDepth 20000 in
theorem gX8_undo_X8_goes : GoodIn wsX8_undo (wsV RX8 61 RX8 yX8_goes wsX8_goes) := goodIn_app (goodIn_of _ (by decide +kernel)) ggX8_undo_X8_goes
set_option maxRecDepth 20000 in
theorem ggX8_undo_X8_copies : GoodIn wsX8_undo wsX8_copies := goodIn_ca (goodIn_r _ [16] (by decide +kernel) (by decide +kernel)) (goodIn_sub (fun _ h => List.mem_cons_of_mem _ (List.mem_append_right _ h)) (by decide +kernel))
set_option maxRecDepth 20000 in
theorem gX8_undo_X8_copies : GoodIn wsX8_undo (va_wsS RX8 51 yX8_copies wsX8_copies) := goodIn_app (goodIn_of _ (by decide +kernel)) ggX8_undo_X8_copies
theorem dX8_undo_0 : decode cX8_undo 0 = .ok (.aload_n 0, 1) := by decide +kernel
theorem dX8_undo_1 : decode cX8_undo 1 = .ok (.aload_n 0, 1) := by decide +kernel
theorem dX8_undo_2 : decode cX8_undo 2 = .ok (.getfield 55, 3) := by decide +kernel
theorem dX8_undo_5 : decode cX8_undo 5 = .ok (.ifCond .le 7, 3) := by decide +kernel
theorem dX8_undo_8 : decode cX8_undo 8 = .ok (.iconst 1, 1) := by decide +kernel
theorem dX8_undo_9 : decode cX8_undo 9 = .ok (.goto 4, 3) := by decide +kernel
theorem dX8_undo_12 : decode cX8_undo 12 = .ok (.iconst 0, 1) := by decide +kernel
theorem dX8_undo_13 : decode cX8_undo 13 = .ok (.invokevirtual 61, 3) := by decide +kernel
theorem dX8_undo_16 : decode cX8_undo 16 = .ok (.ifCond .eq 33, 3) := by decide +kernel
theorem dX8_undo_19 : decode cX8_undo 19 = .ok (.aload_n 0, 1) := by decide +kernel
theorem dX8_undo_20 : decode cX8_undo 20 = .ok (.dup, 1) := by decide +kernel
theorem dX8_undo_21 : decode cX8_undo 21 = .ok (.getfield 55, 3) := by decide +kernel
theorem dX8_undo_24 : decode cX8_undo 24 = .ok (.iconst 1, 1) := by decide +kernel
theorem dX8_undo_25 : decode cX8_undo 25 = .ok (.isub, 1) := by decide +kernel
theorem dX8_undo_26 : decode cX8_undo 26 = .ok (.putfield 55, 3) := by decide +kernel
theorem dX8_undo_29 : decode cX8_undo 29 = .ok (.aload_n 0, 1) := by decide +kernel
theorem dX8_undo_30 : decode cX8_undo 30 = .ok (.getfield 19, 3) := by decide +kernel
theorem dX8_undo_33 : decode cX8_undo 33 = .ok (.aload_n 0, 1) := by decide +kernel
theorem dX8_undo_34 : decode cX8_undo 34 = .ok (.getfield 55, 3) := by decide +kernel
theorem dX8_undo_37 : decode cX8_undo 37 = .ok (.sipush 178, 3) := by decide +kernel
theorem dX8_undo_40 : decode cX8_undo 40 = .ok (.imul, 1) := by decide +kernel
theorem dX8_undo_41 : decode cX8_undo 41 = .ok (.aload_n 0, 1) := by decide +kernel
theorem dX8_undo_42 : decode cX8_undo 42 = .ok (.getfield 9, 3) := by decide +kernel
theorem dX8_undo_45 : decode cX8_undo 45 = .ok (.iconst 0, 1) := by decide +kernel
theorem dX8_undo_46 : decode cX8_undo 46 = .ok (.invokestatic 51, 3) := by decide +kernel
theorem dX8_undo_49 : decode cX8_undo 49 = .ok (.aload_n 0, 1) := by decide +kernel
theorem dX8_undo_50 : decode cX8_undo 50 = .ok (.getfield 44, 3) := by decide +kernel
theorem dX8_undo_53 : decode cX8_undo 53 = .ok (.ifCond .ne 10, 3) := by decide +kernel
theorem dX8_undo_56 : decode cX8_undo 56 = .ok (.aload_n 0, 1) := by decide +kernel
theorem dX8_undo_57 : decode cX8_undo 57 = .ok (.getfield 55, 3) := by decide +kernel
theorem dX8_undo_60 : decode cX8_undo 60 = .ok (.goto 4, 3) := by decide +kernel
theorem dX8_undo_63 : decode cX8_undo 63 = .ok (.iconst 0, 1) := by decide +kernel
theorem dX8_undo_64 : decode cX8_undo 64 = .ok (.ireturn, 1) := by decide +kernel
set_option maxRecDepth 20000 in
theorem ggX8_save_X8_copies : GoodIn wsX8_save wsX8_copies := goodIn_ca (goodIn_r _ [8] (by decide +kernel) (by decide +kernel)) (goodIn_sub (fun _ h => List.mem_cons_of_mem _ (List.mem_append_right _ h)) (by decide +kernel))
set_option maxRecDepth 20000 in
theorem gX8_save_X8_copies : GoodIn wsX8_save (va_wsS RX8 51 yX8_copies wsX8_copies) := goodIn_app (goodIn_of _ (by decide +kernel)) ggX8_save_X8_copies
theorem dX8_save_0 : decode cX8_save 0 = .ok (.aload_n 0, 1) := by decide +kernel
theorem dX8_save_1 : decode cX8_save 1 = .ok (.iconst 0, 1) := by decide +kernel
theorem dX8_save_2 : decode cX8_save 2 = .ok (.putfield 44, 3) := by decide +kernel
theorem dX8_save_5 : decode cX8_save 5 = .ok (.aload_n 0, 1) := by decide +kernel
theorem dX8_save_6 : decode cX8_save 6 = .ok (.getfield 9, 3) := by decide +kernel
theorem dX8_save_9 : decode cX8_save 9 = .ok (.iconst 0, 1) := by decide +kernel
theorem dX8_save_10 : decode cX8_save 10 = .ok (.aload_n 0, 1) := by decide +kernel
theorem dX8_save_11 : decode cX8_save 11 = .ok (.getfield 16, 3) := by decide +kernel
theorem dX8_save_14 : decode cX8_save 14 = .ok (.iconst 0, 1) := by decide +kernel
theorem dX8_save_15 : decode cX8_save 15 = .ok (.invokestatic 51, 3) := by decide +kernel
theorem dX8_save_18 : decode cX8_save 18 = .ok (.aload_n 0, 1) := by decide +kernel
theorem dX8_save_19 : decode cX8_save 19 = .ok (.iconst 1, 1) := by decide +kernel
theorem dX8_save_20 : decode cX8_save 20 = .ok (.putfield 65, 3) := by decide +kernel
theorem dX8_save_23 : decode cX8_save 23 = .ok (.aload_n 0, 1) := by decide +kernel
theorem dX8_save_24 : decode cX8_save 24 = .ok (.getfield 9, 3) := by decide +kernel
theorem dX8_save_27 : decode cX8_save 27 = .ok (.iconst 1, 1) := by decide +kernel
theorem dX8_save_28 : decode cX8_save 28 = .ok (.iaload, 1) := by decide +kernel
theorem dX8_save_29 : decode cX8_save 29 = .ok (.ireturn, 1) := by decide +kernel
set_option maxRecDepth 20000 in
theorem ggX8_restore_X8_goes : GoodIn wsX8_restore wsX8_goes := goodIn_r _ [9, 10, 11, 12, 8, 13, 14, 18, 19, 20, 21, 22, 23, 24, 25, 26, 27, 28, 29, 30, 31, 32, 33, 34, 35, 36, 37] (by decide +kernel) (by decide +kernel)
set_option maxRecDepth 20000 in
theorem gX8_restore_X8_goes : GoodIn wsX8_restore (wsV RX8 61 RX8 yX8_goes wsX8_goes) := goodIn_app (goodIn_of _ (by decide +kernel)) ggX8_restore_X8_goes
set_option maxRecDepth 20000 in
theorem ggX8_restore_X8_copies : GoodIn wsX8_restore wsX8_copies := goodIn_ca (goodIn_r _ [17] (by decide +kernel) (by decide +kernel)) (goodIn_sub (fun _ h => List.mem_cons_of_mem _ (List.mem_append_right _ h)) (by decide +kernel))
set_option maxRecDepth 20000 in
theorem gX8_restore_X8_copies : GoodIn wsX8_restore (va_wsS RX8 51 yX8_copies wsX8_copies) := goodIn_app (goodIn_of _ (by decide +kernel)) ggX8_restore_X8_copies
theorem dX8_restore_0 : decode cX8_restore 0 = .ok (.aload_n 0, 1) := by decide +kernel
theorem dX8_restore_1 : decode cX8_restore 1 = .ok (.aload_n 0, 1) := by decide +kernel
theorem dX8_restore_2 : decode cX8_restore 2 = .ok (.getfield 65, 3) := by decide +kernel
theorem dX8_restore_5 : decode cX8_restore 5 = .ok (.invokevirtual 61, 3) := by decide +kernel
theorem dX8_restore_8 : decode cX8_restore 8 = .ok (.ifCond .ne 5, 3) := by decide +kernel
theorem dX8_restore_11 : decode cX8_restore 11 = .ok (.iconst 0, 1) := by decide +kernel
theorem dX8_restore_12 : decode cX8_restore 12 = .ok (.ireturn, 1) := by decide +kernel
theorem dX8_restore_13 : decode cX8_restore 13 = .ok (.aload_n 0, 1) := by decide +kernel
theorem dX8_restore_14 : decode cX8_restore 14 = .ok (.getfield 16, 3) := by decide +kernel
theorem dX8_restore_17 : decode cX8_restore 17 = .ok (.iconst 0, 1) := by decide +kernel
theorem dX8_restore_18 : decode cX8_restore 18 = .ok (.aload_n 0, 1) := by decide +kernel
theorem dX8_restore_19 : decode cX8_restore 19 = .ok (.getfield 9, 3) := by decide +kernel
theorem dX8_restore_22 : decode cX8_restore 22 = .ok (.iconst 0, 1) := by decide +kernel
theorem dX8_restore_23 : decode cX8_restore 23 = .ok (.invokestatic 51, 3) := by decide +kernel
theorem dX8_restore_26 : decode cX8_restore 26 = .ok (.aload_n 0, 1) := by decide +kernel
theorem dX8_restore_27 : decode cX8_restore 27 = .ok (.iconst 0, 1) := by decide +kernel
theorem dX8_restore_28 : decode cX8_restore 28 = .ok (.putfield 55, 3) := by decide +kernel
theorem dX8_restore_31 : decode cX8_restore 31 = .ok (.aload_n 0, 1) := by decide +kernel
theorem dX8_restore_32 : decode cX8_restore 32 = .ok (.getfield 9, 3) := by decide +kernel
theorem dX8_restore_35 : decode cX8_restore 35 = .ok (.iconst 1, 1) := by decide +kernel
theorem dX8_restore_36 : decode cX8_restore 36 = .ok (.iaload, 1) := by decide +kernel
theorem dX8_restore_37 : decode cX8_restore 37 = .ok (.ireturn, 1) := by decide +kernel
set_option maxRecDepth 20000 in
theorem ggX8_isIsland_X8_isIn : GoodIn wsX8_isIsland wsX8_isIn := goodIn_r _ [4] (by decide +kernel) (by decide +kernel)
set_option maxRecDepth 20000 in
theorem gX8_isIsland_X8_isIn : GoodIn wsX8_isIsland (va_wsS RX8 69 yX8_isIn wsX8_isIn) := goodIn_app (goodIn_of _ (by decide +kernel)) ggX8_isIsland_X8_isIn
theorem dX8_isIsland_0 : decode cX8_isIsland 0 = .ok (.iload_n 0, 1) := by decide +kernel
theorem dX8_isIsland_1 : decode cX8_isIsland 1 = .ok (.iconst 0, 1) := by decide +kernel
theorem dX8_isIsland_2 : decode cX8_isIsland 2 = .ok (.bipush 7, 2) := by decide +kernel
theorem dX8_isIsland_4 : decode cX8_isIsland 4 = .ok (.invokestatic 69, 3) := by decide +kernel
theorem dX8_isIsland_7 : decode cX8_isIsland 7 = .ok (.ireturn, 1) := by decide +kernel
set_option maxRecDepth 20000 in
theorem ggX8_isPlayer_X8_isIn : GoodIn wsX8_isPlayer wsX8_isIn := goodIn_r _ [5] (by decide +kernel) (by decide +kernel)
set_option maxRecDepth 20000 in
theorem gX8_isPlayer_X8_isIn : GoodIn wsX8_isPlayer (va_wsS RX8 69 yX8_isIn wsX8_isIn) := goodIn_app (goodIn_of _ (by decide +kernel)) ggX8_isPlayer_X8_isIn
theorem dX8_isPlayer_0 : decode cX8_isPlayer 0 = .ok (.iload_n 1, 1) := by decide +kernel
theorem dX8_isPlayer_1 : decode cX8_isPlayer 1 = .ok (.iconst 0, 1) := by decide +kernel
theorem dX8_isPlayer_2 : decode cX8_isPlayer 2 = .ok (.aload_n 0, 1) := by decide +kernel
theorem dX8_isPlayer_3 : decode cX8_isPlayer 3 = .ok (.getfield 9, 3) := by decide +kernel
theorem dX8_isPlayer_6 : decode cX8_isPlayer 6 = .ok (.iconst 1, 1) := by decide +kernel
theorem dX8_isPlayer_7 : decode cX8_isPlayer 7 = .ok (.iaload, 1) := by decide +kernel
theorem dX8_isPlayer_8 : decode cX8_isPlayer 8 = .ok (.iconst 1, 1) := by decide +kernel
theorem dX8_isPlayer_9 : decode cX8_isPlayer 9 = .ok (.isub, 1) := by decide +kernel
theorem dX8_isPlayer_10 : decode cX8_isPlayer 10 = .ok (.invokestatic 69, 3) := by decide +kernel
theorem dX8_isPlayer_13 : decode cX8_isPlayer 13 = .ok (.ireturn, 1) := by decide +kernel
set_option maxRecDepth 20000 in
theorem ggX8_isSite_X8_isIn : GoodIn wsX8_isSite wsX8_isIn := goodIn_r _ [5] (by decide +kernel) (by decide +kernel)
set_option maxRecDepth 20000 in
theorem gX8_isSite_X8_isIn : GoodIn wsX8_isSite (va_wsS RX8 69 yX8_isIn wsX8_isIn) := goodIn_app (goodIn_of _ (by decide +kernel)) ggX8_isSite_X8_isIn
theorem dX8_isSite_0 : decode cX8_isSite 0 = .ok (.iload_n 1, 1) := by decide +kernel
theorem dX8_isSite_1 : decode cX8_isSite 1 = .ok (.iconst 0, 1) := by decide +kernel
theorem dX8_isSite_2 : decode cX8_isSite 2 = .ok (.aload_n 0, 1) := by decide +kernel
theorem dX8_isSite_3 : decode cX8_isSite 3 = .ok (.getfield 9, 3) := by decide +kernel
theorem dX8_isSite_6 : decode cX8_isSite 6 = .ok (.iconst 2, 1) := by decide +kernel
theorem dX8_isSite_7 : decode cX8_isSite 7 = .ok (.iaload, 1) := by decide +kernel
theorem dX8_isSite_8 : decode cX8_isSite 8 = .ok (.iconst 1, 1) := by decide +kernel
theorem dX8_isSite_9 : decode cX8_isSite 9 = .ok (.isub, 1) := by decide +kernel
theorem dX8_isSite_10 : decode cX8_isSite 10 = .ok (.invokestatic 69, 3) := by decide +kernel
theorem dX8_isSite_13 : decode cX8_isSite 13 = .ok (.ireturn, 1) := by decide +kernel
theorem dX8_playerAt_0 : decode cX8_playerAt 0 = .ok (.bipush 14, 2) := by decide +kernel
theorem dX8_playerAt_2 : decode cX8_playerAt 2 = .ok (.iconst 2, 1) := by decide +kernel
theorem dX8_playerAt_3 : decode cX8_playerAt 3 = .ok (.iload_n 0, 1) := by decide +kernel
theorem dX8_playerAt_4 : decode cX8_playerAt 4 = .ok (.imul, 1) := by decide +kernel
theorem dX8_playerAt_5 : decode cX8_playerAt 5 = .ok (.iadd, 1) := by decide +kernel
theorem dX8_playerAt_6 : decode cX8_playerAt 6 = .ok (.ireturn, 1) := by decide +kernel
theorem dX8_siteAt_0 : decode cX8_siteAt 0 = .ok (.bipush 22, 2) := by decide +kernel
theorem dX8_siteAt_2 : decode cX8_siteAt 2 = .ok (.bipush 13, 2) := by decide +kernel
theorem dX8_siteAt_4 : decode cX8_siteAt 4 = .ok (.iload_n 0, 1) := by decide +kernel
theorem dX8_siteAt_5 : decode cX8_siteAt 5 = .ok (.imul, 1) := by decide +kernel
theorem dX8_siteAt_6 : decode cX8_siteAt 6 = .ok (.iadd, 1) := by decide +kernel
theorem dX8_siteAt_7 : decode cX8_siteAt 7 = .ok (.ireturn, 1) := by decide +kernel
set_option maxRecDepth 20000 in
theorem ggX8_of_X8_isSite : GoodIn wsX8_of wsX8_isSite := goodIn_ca (goodIn_r _ [6, 1, 7, 8, 5, 9, 13, 14, 15, 16, 17, 18, 19, 20, 21, 22, 23, 24, 25, 26, 27, 28, 29, 30, 31, 32] (by decide +kernel) (by decide +kernel)) (goodIn_sub (fun _ h => List.mem_cons_of_mem _ (List.mem_append_right _ h)) (by decide +kernel))
set_option maxRecDepth 20000 in
theorem gX8_of_X8_isSite : GoodIn wsX8_of (wsV RX8 73 RX8 yX8_isSite wsX8_isSite) := goodIn_app (goodIn_of _ (by decide +kernel)) ggX8_of_X8_isSite
set_option maxRecDepth 20000 in
theorem ggX8_of_X8_siteAt : GoodIn wsX8_of wsX8_siteAt := goodIn_r _ [12] (by decide +kernel) (by decide +kernel)
set_option maxRecDepth 20000 in
theorem gX8_of_X8_siteAt : GoodIn wsX8_of (va_wsS RX8 77 yX8_siteAt wsX8_siteAt) := goodIn_app (goodIn_of _ (by decide +kernel)) ggX8_of_X8_siteAt
theorem dX8_of_0 : decode cX8_of 0 = .ok (.aload_n 0, 1) := by decide +kernel
theorem dX8_of_1 : decode cX8_of 1 = .ok (.getfield 9, 3) := by decide +kernel
theorem dX8_of_4 : decode cX8_of 4 = .ok (.aload_n 0, 1) := by decide +kernel
theorem dX8_of_5 : decode cX8_of 5 = .ok (.iload_n 1, 1) := by decide +kernel
theorem dX8_of_6 : decode cX8_of 6 = .ok (.invokevirtual 73, 3) := by decide +kernel
theorem dX8_of_9 : decode cX8_of 9 = .ok (.ifCond .eq 7, 3) := by decide +kernel
theorem dX8_of_12 : decode cX8_of 12 = .ok (.iload_n 1, 1) := by decide +kernel
theorem dX8_of_13 : decode cX8_of 13 = .ok (.goto 4, 3) := by decide +kernel
theorem dX8_of_16 : decode cX8_of 16 = .ok (.iconst 0, 1) := by decide +kernel
theorem dX8_of_17 : decode cX8_of 17 = .ok (.invokestatic 77, 3) := by decide +kernel
theorem dX8_of_20 : decode cX8_of 20 = .ok (.iload_n 2, 1) := by decide +kernel
theorem dX8_of_21 : decode cX8_of 21 = .ok (.iadd, 1) := by decide +kernel
theorem dX8_of_22 : decode cX8_of 22 = .ok (.iaload, 1) := by decide +kernel
theorem dX8_of_23 : decode cX8_of 23 = .ok (.ireturn, 1) := by decide +kernel
set_option maxRecDepth 20000 in
theorem ggX8_isDone_X8_isSite : GoodIn wsX8_isDone wsX8_isSite := goodIn_ca (goodIn_r _ [5, 6, 7, 8, 4, 9, 17, 18, 19, 20, 21, 22, 23, 24, 25, 26, 27, 28, 29, 30, 31, 32, 33, 34, 35, 36] (by decide +kernel) (by decide +kernel)) (goodIn_sub (fun _ h => List.mem_cons_of_mem _ (List.mem_append_right _ h)) (by decide +kernel))
set_option maxRecDepth 20000 in
theorem gX8_isDone_X8_isSite : GoodIn wsX8_isDone (wsV RX8 73 RX8 yX8_isSite wsX8_isSite) := goodIn_app (goodIn_of _ (by decide +kernel)) ggX8_isDone_X8_isSite
set_option maxRecDepth 20000 in
theorem ggX8_isDone_X8_of : GoodIn wsX8_isDone wsX8_of := goodIn_ca (goodIn_r _ [13, 6, 1, 2, 3, 4, 5, 7, 8, 9, 14, 15, 16, 17, 18, 19, 20, 21, 22, 23, 24, 25, 26, 27, 28, 29, 30, 31, 32, 33, 34, 35, 36] (by decide +kernel) (by decide +kernel)) (goodIn_sub (fun _ h => List.mem_cons_of_mem _ (List.mem_append_right _ h)) (by decide +kernel))
set_option maxRecDepth 20000 in
theorem gX8_isDone_X8_of : GoodIn wsX8_isDone (wsV RX8 81 RX8 yX8_of wsX8_of) := goodIn_app (goodIn_of _ (by decide +kernel)) ggX8_isDone_X8_of
theorem dX8_isDone_0 : decode cX8_isDone 0 = .ok (.aload_n 0, 1) := by decide +kernel
theorem dX8_isDone_1 : decode cX8_isDone 1 = .ok (.iload_n 1, 1) := by decide +kernel
theorem dX8_isDone_2 : decode cX8_isDone 2 = .ok (.invokevirtual 73, 3) := by decide +kernel
theorem dX8_isDone_5 : decode cX8_isDone 5 = .ok (.ifCond .eq 17, 3) := by decide +kernel
theorem dX8_isDone_8 : decode cX8_isDone 8 = .ok (.aload_n 0, 1) := by decide +kernel
theorem dX8_isDone_9 : decode cX8_isDone 9 = .ok (.iload_n 1, 1) := by decide +kernel
theorem dX8_isDone_10 : decode cX8_isDone 10 = .ok (.iconst 3, 1) := by decide +kernel
theorem dX8_isDone_11 : decode cX8_isDone 11 = .ok (.invokevirtual 81, 3) := by decide +kernel
theorem dX8_isDone_14 : decode cX8_isDone 14 = .ok (.iconst (-1), 1) := by decide +kernel
theorem dX8_isDone_15 : decode cX8_isDone 15 = .ok (.if_icmp .eq 7, 3) := by decide +kernel
theorem dX8_isDone_18 : decode cX8_isDone 18 = .ok (.iconst 1, 1) := by decide +kernel
theorem dX8_isDone_19 : decode cX8_isDone 19 = .ok (.goto 4, 3) := by decide +kernel
theorem dX8_isDone_22 : decode cX8_isDone 22 = .ok (.iconst 0, 1) := by decide +kernel
theorem dX8_isDone_23 : decode cX8_isDone 23 = .ok (.ireturn, 1) := by decide +kernel
set_option maxRecDepth 20000 in
theorem ggX8_amountOf_X8_isPlayer : GoodIn wsX8_amountOf wsX8_isPlayer := goodIn_ca (goodIn_r _ [5, 6, 7, 8, 4, 9, 21, 22, 23, 24, 25, 26, 27, 28, 29, 30, 31, 32, 33, 34, 35, 36, 37, 38, 39, 40] (by decide +kernel) (by decide +kernel)) (goodIn_sub (fun _ h => List.mem_cons_of_mem _ (List.mem_append_right _ h)) (by decide +kernel))
set_option maxRecDepth 20000 in
theorem gX8_amountOf_X8_isPlayer : GoodIn wsX8_amountOf (wsV RX8 85 RX8 yX8_isPlayer wsX8_isPlayer) := goodIn_app (goodIn_of _ (by decide +kernel)) ggX8_amountOf_X8_isPlayer
set_option maxRecDepth 20000 in
theorem ggX8_amountOf_X8_isSite : GoodIn wsX8_amountOf wsX8_isSite := goodIn_ca (goodIn_r _ [13, 6, 7, 8, 4, 9, 21, 22, 23, 24, 25, 26, 27, 28, 29, 30, 31, 32, 33, 34, 35, 36, 37, 38, 39, 40] (by decide +kernel) (by decide +kernel)) (goodIn_sub (fun _ h => List.mem_cons_of_mem _ (List.mem_append_right _ h)) (by decide +kernel))
set_option maxRecDepth 20000 in
theorem gX8_amountOf_X8_isSite : GoodIn wsX8_amountOf (wsV RX8 73 RX8 yX8_isSite wsX8_isSite) := goodIn_app (goodIn_of _ (by decide +kernel)) ggX8_amountOf_X8_isSite
set_option maxRecDepth 20000 in
theorem ggX8_amountOf_X8_of : GoodIn wsX8_amountOf wsX8_of := goodIn_ca (goodIn_r _ [17, 6, 10, 11, 12, 4, 13, 7, 8, 9, 18, 19, 20, 21, 22, 23, 24, 25, 26, 27, 28, 29, 30, 31, 32, 33, 34, 35, 36, 37, 38, 39, 40] (by decide +kernel) (by decide +kernel)) (goodIn_sub (fun _ h => List.mem_cons_of_mem _ (List.mem_append_right _ h)) (by decide +kernel))
set_option maxRecDepth 20000 in
theorem gX8_amountOf_X8_of : GoodIn wsX8_amountOf (wsV RX8 81 RX8 yX8_of wsX8_of) := goodIn_app (goodIn_of _ (by decide +kernel)) ggX8_amountOf_X8_of
theorem dX8_amountOf_0 : decode cX8_amountOf 0 = .ok (.aload_n 0, 1) := by decide +kernel
theorem dX8_amountOf_1 : decode cX8_amountOf 1 = .ok (.iload_n 1, 1) := by decide +kernel
theorem dX8_amountOf_2 : decode cX8_amountOf 2 = .ok (.invokevirtual 85, 3) := by decide +kernel
theorem dX8_amountOf_5 : decode cX8_amountOf 5 = .ok (.ifCond .eq 22, 3) := by decide +kernel
theorem dX8_amountOf_8 : decode cX8_amountOf 8 = .ok (.aload_n 0, 1) := by decide +kernel
theorem dX8_amountOf_9 : decode cX8_amountOf 9 = .ok (.iload_n 2, 1) := by decide +kernel
theorem dX8_amountOf_10 : decode cX8_amountOf 10 = .ok (.invokevirtual 73, 3) := by decide +kernel
theorem dX8_amountOf_13 : decode cX8_amountOf 13 = .ok (.ifCond .eq 14, 3) := by decide +kernel
theorem dX8_amountOf_16 : decode cX8_amountOf 16 = .ok (.aload_n 0, 1) := by decide +kernel
theorem dX8_amountOf_17 : decode cX8_amountOf 17 = .ok (.iload_n 2, 1) := by decide +kernel
theorem dX8_amountOf_18 : decode cX8_amountOf 18 = .ok (.iconst 5, 1) := by decide +kernel
theorem dX8_amountOf_19 : decode cX8_amountOf 19 = .ok (.iload_n 1, 1) := by decide +kernel
theorem dX8_amountOf_20 : decode cX8_amountOf 20 = .ok (.iadd, 1) := by decide +kernel
theorem dX8_amountOf_21 : decode cX8_amountOf 21 = .ok (.invokevirtual 81, 3) := by decide +kernel
theorem dX8_amountOf_24 : decode cX8_amountOf 24 = .ok (.goto 4, 3) := by decide +kernel
theorem dX8_amountOf_27 : decode cX8_amountOf 27 = .ok (.iconst 0, 1) := by decide +kernel
theorem dX8_amountOf_28 : decode cX8_amountOf 28 = .ok (.ireturn, 1) := by decide +kernel
set_option maxRecDepth 20000 in
theorem ggX8_highest_X8_of : GoodIn wsX8_highest wsX8_of := goodIn_ca (goodIn_r _ [9, 10, 11, 12, 13, 8, 14, 15, 16, 17, 18, 19, 20, 21, 22, 23, 24, 25, 26, 27, 28, 29, 30, 31, 32, 33, 34, 35, 36, 37, 38, 39, 40] (by decide +kernel) (by decide +kernel)) (goodIn_sub (fun _ h => List.mem_cons_of_mem _ (List.mem_append_right _ h)) (by decide +kernel))
set_option maxRecDepth 20000 in
theorem gX8_highest_X8_of : GoodIn wsX8_highest (wsV RX8 81 RX8 yX8_of wsX8_of) := goodIn_app (goodIn_of _ (by decide +kernel)) ggX8_highest_X8_of
theorem dX8_highest_0 : decode cX8_highest 0 = .ok (.iconst 0, 1) := by decide +kernel
theorem dX8_highest_1 : decode cX8_highest 1 = .ok (.istore_n 2, 1) := by decide +kernel
theorem dX8_highest_2 : decode cX8_highest 2 = .ok (.iconst 0, 1) := by decide +kernel
theorem dX8_highest_3 : decode cX8_highest 3 = .ok (.istore_n 3, 1) := by decide +kernel
theorem dX8_highest_4 : decode cX8_highest 4 = .ok (.iload_n 3, 1) := by decide +kernel
theorem dX8_highest_5 : decode cX8_highest 5 = .ok (.iconst 4, 1) := by decide +kernel
theorem dX8_highest_6 : decode cX8_highest 6 = .ok (.if_icmp .ge 22, 3) := by decide +kernel
theorem dX8_highest_9 : decode cX8_highest 9 = .ok (.iload_n 2, 1) := by decide +kernel
theorem dX8_highest_10 : decode cX8_highest 10 = .ok (.aload_n 0, 1) := by decide +kernel
theorem dX8_highest_11 : decode cX8_highest 11 = .ok (.iload_n 1, 1) := by decide +kernel
theorem dX8_highest_12 : decode cX8_highest 12 = .ok (.iconst 5, 1) := by decide +kernel
theorem dX8_highest_13 : decode cX8_highest 13 = .ok (.iload_n 3, 1) := by decide +kernel
theorem dX8_highest_14 : decode cX8_highest 14 = .ok (.iadd, 1) := by decide +kernel
theorem dX8_highest_15 : decode cX8_highest 15 = .ok (.invokevirtual 81, 3) := by decide +kernel
theorem dX8_highest_18 : decode cX8_highest 18 = .ok (.invokestatic 88, 3) := by decide +kernel
theorem dX8_highest_21 : decode cX8_highest 21 = .ok (.istore_n 2, 1) := by decide +kernel
theorem dX8_highest_22 : decode cX8_highest 22 = .ok (.iinc 3 1, 3) := by decide +kernel
theorem dX8_highest_25 : decode cX8_highest 25 = .ok (.goto (-21), 3) := by decide +kernel
theorem dX8_highest_28 : decode cX8_highest 28 = .ok (.iload_n 2, 1) := by decide +kernel
theorem dX8_highest_29 : decode cX8_highest 29 = .ok (.ireturn, 1) := by decide +kernel
set_option maxRecDepth 20000 in
theorem ggX8_bidsOn_X8_of : GoodIn wsX8_bidsOn wsX8_of := goodIn_ca (goodIn_r _ [5, 6, 7, 8, 9, 4, 10, 11, 12, 13, 14, 15, 16, 17, 18, 19, 20, 21, 22, 23, 24, 25, 26, 27, 28, 29, 30, 31, 32, 33, 34, 35, 36] (by decide +kernel) (by decide +kernel)) (goodIn_sub (fun _ h => List.mem_cons_of_mem _ (List.mem_append_right _ h)) (by decide +kernel))
set_option maxRecDepth 20000 in
theorem gX8_bidsOn_X8_of : GoodIn wsX8_bidsOn (wsV RX8 81 RX8 yX8_of wsX8_of) := goodIn_app (goodIn_of _ (by decide +kernel)) ggX8_bidsOn_X8_of
theorem dX8_bidsOn_0 : decode cX8_bidsOn 0 = .ok (.iconst 0, 1) := by decide +kernel
theorem dX8_bidsOn_1 : decode cX8_bidsOn 1 = .ok (.istore_n 2, 1) := by decide +kernel
theorem dX8_bidsOn_2 : decode cX8_bidsOn 2 = .ok (.iconst 0, 1) := by decide +kernel
theorem dX8_bidsOn_3 : decode cX8_bidsOn 3 = .ok (.istore_n 3, 1) := by decide +kernel
theorem dX8_bidsOn_4 : decode cX8_bidsOn 4 = .ok (.iload_n 3, 1) := by decide +kernel
theorem dX8_bidsOn_5 : decode cX8_bidsOn 5 = .ok (.iconst 4, 1) := by decide +kernel
theorem dX8_bidsOn_6 : decode cX8_bidsOn 6 = .ok (.if_icmp .ge 28, 3) := by decide +kernel
theorem dX8_bidsOn_9 : decode cX8_bidsOn 9 = .ok (.iload_n 2, 1) := by decide +kernel
theorem dX8_bidsOn_10 : decode cX8_bidsOn 10 = .ok (.aload_n 0, 1) := by decide +kernel
theorem dX8_bidsOn_11 : decode cX8_bidsOn 11 = .ok (.iload_n 1, 1) := by decide +kernel
theorem dX8_bidsOn_12 : decode cX8_bidsOn 12 = .ok (.iconst 5, 1) := by decide +kernel
theorem dX8_bidsOn_13 : decode cX8_bidsOn 13 = .ok (.iload_n 3, 1) := by decide +kernel
theorem dX8_bidsOn_14 : decode cX8_bidsOn 14 = .ok (.iadd, 1) := by decide +kernel
theorem dX8_bidsOn_15 : decode cX8_bidsOn 15 = .ok (.invokevirtual 81, 3) := by decide +kernel
theorem dX8_bidsOn_18 : decode cX8_bidsOn 18 = .ok (.ifCond .le 7, 3) := by decide +kernel
theorem dX8_bidsOn_21 : decode cX8_bidsOn 21 = .ok (.iconst 1, 1) := by decide +kernel
theorem dX8_bidsOn_22 : decode cX8_bidsOn 22 = .ok (.goto 4, 3) := by decide +kernel
theorem dX8_bidsOn_25 : decode cX8_bidsOn 25 = .ok (.iconst 0, 1) := by decide +kernel
theorem dX8_bidsOn_26 : decode cX8_bidsOn 26 = .ok (.iadd, 1) := by decide +kernel
theorem dX8_bidsOn_27 : decode cX8_bidsOn 27 = .ok (.istore_n 2, 1) := by decide +kernel
theorem dX8_bidsOn_28 : decode cX8_bidsOn 28 = .ok (.iinc 3 1, 3) := by decide +kernel
theorem dX8_bidsOn_31 : decode cX8_bidsOn 31 = .ok (.goto (-27), 3) := by decide +kernel
theorem dX8_bidsOn_34 : decode cX8_bidsOn 34 = .ok (.iload_n 2, 1) := by decide +kernel
theorem dX8_bidsOn_35 : decode cX8_bidsOn 35 = .ok (.ireturn, 1) := by decide +kernel
set_option maxRecDepth 20000 in
theorem ggX8_reservedOn_X8_of : GoodIn wsX8_reservedOn wsX8_of := goodIn_ca (goodIn_r _ [5, 6, 7, 8, 9, 4, 10, 11, 12, 13, 14, 15, 16, 17, 18, 19, 20, 21, 22, 23, 24, 25, 26, 27, 28, 29, 30, 31, 32, 33, 34, 35, 36] (by decide +kernel) (by decide +kernel)) (goodIn_sub (fun _ h => List.mem_cons_of_mem _ (List.mem_append_right _ h)) (by decide +kernel))
set_option maxRecDepth 20000 in
theorem gX8_reservedOn_X8_of : GoodIn wsX8_reservedOn (wsV RX8 81 RX8 yX8_of wsX8_of) := goodIn_app (goodIn_of _ (by decide +kernel)) ggX8_reservedOn_X8_of
theorem dX8_reservedOn_0 : decode cX8_reservedOn 0 = .ok (.aload_n 0, 1) := by decide +kernel
theorem dX8_reservedOn_1 : decode cX8_reservedOn 1 = .ok (.iload_n 2, 1) := by decide +kernel
theorem dX8_reservedOn_2 : decode cX8_reservedOn 2 = .ok (.bipush 9, 2) := by decide +kernel
theorem dX8_reservedOn_4 : decode cX8_reservedOn 4 = .ok (.iload_n 1, 1) := by decide +kernel
theorem dX8_reservedOn_5 : decode cX8_reservedOn 5 = .ok (.iadd, 1) := by decide +kernel
theorem dX8_reservedOn_6 : decode cX8_reservedOn 6 = .ok (.invokevirtual 81, 3) := by decide +kernel
theorem dX8_reservedOn_9 : decode cX8_reservedOn 9 = .ok (.ifCond .ne 14, 3) := by decide +kernel
theorem dX8_reservedOn_12 : decode cX8_reservedOn 12 = .ok (.aload_n 0, 1) := by decide +kernel
theorem dX8_reservedOn_13 : decode cX8_reservedOn 13 = .ok (.iload_n 2, 1) := by decide +kernel
theorem dX8_reservedOn_14 : decode cX8_reservedOn 14 = .ok (.iconst 5, 1) := by decide +kernel
theorem dX8_reservedOn_15 : decode cX8_reservedOn 15 = .ok (.iload_n 1, 1) := by decide +kernel
theorem dX8_reservedOn_16 : decode cX8_reservedOn 16 = .ok (.iadd, 1) := by decide +kernel
theorem dX8_reservedOn_17 : decode cX8_reservedOn 17 = .ok (.invokevirtual 81, 3) := by decide +kernel
theorem dX8_reservedOn_20 : decode cX8_reservedOn 20 = .ok (.goto 4, 3) := by decide +kernel
theorem dX8_reservedOn_23 : decode cX8_reservedOn 23 = .ok (.iconst 0, 1) := by decide +kernel
theorem dX8_reservedOn_24 : decode cX8_reservedOn 24 = .ok (.ireturn, 1) := by decide +kernel
set_option maxRecDepth 20000 in
theorem ggX8_available_X8_playerAt : GoodIn wsX8_available wsX8_playerAt := goodIn_r _ [5] (by decide +kernel) (by decide +kernel)
set_option maxRecDepth 20000 in
theorem gX8_available_X8_playerAt : GoodIn wsX8_available (va_wsS RX8 93 yX8_playerAt wsX8_playerAt) := goodIn_app (goodIn_of _ (by decide +kernel)) ggX8_available_X8_playerAt
set_option maxRecDepth 20000 in
theorem ggX8_available_X8_reservedOn : GoodIn wsX8_available wsX8_reservedOn := goodIn_ca (goodIn_r _ [9, 10, 11, 12, 4, 13, 1, 14, 15, 16, 17, 18, 19, 20, 21, 22, 23, 24, 25, 26, 27, 28, 29, 30, 31, 32, 33, 34, 35, 36, 37, 38, 39, 40, 41, 42, 43] (by decide +kernel) (by decide +kernel)) (goodIn_sub (fun _ h => List.mem_cons_of_mem _ (List.mem_append_right _ h)) (by decide +kernel))
set_option maxRecDepth 20000 in
theorem gX8_available_X8_reservedOn : GoodIn wsX8_available (wsV RX8 96 RX8 yX8_reservedOn wsX8_reservedOn) := goodIn_app (goodIn_of _ (by decide +kernel)) ggX8_available_X8_reservedOn
theorem dX8_available_0 : decode cX8_available 0 = .ok (.aload_n 0, 1) := by decide +kernel
theorem dX8_available_1 : decode cX8_available 1 = .ok (.getfield 9, 3) := by decide +kernel
theorem dX8_available_4 : decode cX8_available 4 = .ok (.iload_n 1, 1) := by decide +kernel
theorem dX8_available_5 : decode cX8_available 5 = .ok (.invokestatic 93, 3) := by decide +kernel
theorem dX8_available_8 : decode cX8_available 8 = .ok (.iconst 0, 1) := by decide +kernel
theorem dX8_available_9 : decode cX8_available 9 = .ok (.iadd, 1) := by decide +kernel
theorem dX8_available_10 : decode cX8_available 10 = .ok (.iaload, 1) := by decide +kernel
theorem dX8_available_11 : decode cX8_available 11 = .ok (.istore_n 2, 1) := by decide +kernel
theorem dX8_available_12 : decode cX8_available 12 = .ok (.iconst 0, 1) := by decide +kernel
theorem dX8_available_13 : decode cX8_available 13 = .ok (.istore_n 3, 1) := by decide +kernel
theorem dX8_available_14 : decode cX8_available 14 = .ok (.iload_n 3, 1) := by decide +kernel
theorem dX8_available_15 : decode cX8_available 15 = .ok (.aload_n 0, 1) := by decide +kernel
theorem dX8_available_16 : decode cX8_available 16 = .ok (.getfield 9, 3) := by decide +kernel
theorem dX8_available_19 : decode cX8_available 19 = .ok (.iconst 2, 1) := by decide +kernel
theorem dX8_available_20 : decode cX8_available 20 = .ok (.iaload, 1) := by decide +kernel
theorem dX8_available_21 : decode cX8_available 21 = .ok (.if_icmp .ge 18, 3) := by decide +kernel
theorem dX8_available_24 : decode cX8_available 24 = .ok (.iload_n 2, 1) := by decide +kernel
theorem dX8_available_25 : decode cX8_available 25 = .ok (.aload_n 0, 1) := by decide +kernel
theorem dX8_available_26 : decode cX8_available 26 = .ok (.iload_n 1, 1) := by decide +kernel
theorem dX8_available_27 : decode cX8_available 27 = .ok (.iload_n 3, 1) := by decide +kernel
theorem dX8_available_28 : decode cX8_available 28 = .ok (.invokevirtual 96, 3) := by decide +kernel
theorem dX8_available_31 : decode cX8_available 31 = .ok (.isub, 1) := by decide +kernel
theorem dX8_available_32 : decode cX8_available 32 = .ok (.istore_n 2, 1) := by decide +kernel
theorem dX8_available_33 : decode cX8_available 33 = .ok (.iinc 3 1, 3) := by decide +kernel
theorem dX8_available_36 : decode cX8_available 36 = .ok (.goto (-22), 3) := by decide +kernel
theorem dX8_available_39 : decode cX8_available 39 = .ok (.iload_n 2, 1) := by decide +kernel
theorem dX8_available_40 : decode cX8_available 40 = .ok (.ireturn, 1) := by decide +kernel
set_option maxRecDepth 20000 in
theorem ggX8_costOf_X8_of : GoodIn wsX8_costOf wsX8_of := goodIn_ca (goodIn_r _ [6, 1, 7, 8, 9, 5, 10, 11, 12, 13, 14, 15, 16, 17, 18, 19, 20, 21, 22, 23, 24, 25, 26, 27, 28, 29, 30, 31, 32, 33, 34, 35, 36] (by decide +kernel) (by decide +kernel)) (goodIn_sub (fun _ h => List.mem_cons_of_mem _ (List.mem_append_right _ h)) (by decide +kernel))
set_option maxRecDepth 20000 in
theorem gX8_costOf_X8_of : GoodIn wsX8_costOf (wsV RX8 81 RX8 yX8_of wsX8_of) := goodIn_app (goodIn_of _ (by decide +kernel)) ggX8_costOf_X8_of
theorem dX8_costOf_0 : decode cX8_costOf 0 = .ok (.aload_n 0, 1) := by decide +kernel
theorem dX8_costOf_1 : decode cX8_costOf 1 = .ok (.iload_n 1, 1) := by decide +kernel
theorem dX8_costOf_2 : decode cX8_costOf 2 = .ok (.iconst 2, 1) := by decide +kernel
theorem dX8_costOf_3 : decode cX8_costOf 3 = .ok (.invokevirtual 81, 3) := by decide +kernel
theorem dX8_costOf_6 : decode cX8_costOf 6 = .ok (.aload_n 0, 1) := by decide +kernel
theorem dX8_costOf_7 : decode cX8_costOf 7 = .ok (.getfield 9, 3) := by decide +kernel
theorem dX8_costOf_10 : decode cX8_costOf 10 = .ok (.iconst 0, 1) := by decide +kernel
theorem dX8_costOf_11 : decode cX8_costOf 11 = .ok (.iaload, 1) := by decide +kernel
theorem dX8_costOf_12 : decode cX8_costOf 12 = .ok (.iadd, 1) := by decide +kernel
theorem dX8_costOf_13 : decode cX8_costOf 13 = .ok (.ireturn, 1) := by decide +kernel
set_option maxRecDepth 20000 in
theorem ggX8_winner_X8_of : GoodIn wsX8_winner wsX8_of := goodIn_ca (goodIn_r _ [5, 6, 7, 8, 9, 4, 10, 11, 12, 13, 14, 15, 16, 17, 18, 19, 20, 21, 22, 23, 24, 25, 26, 27, 28, 29, 30, 31, 32, 33, 34, 35, 36] (by decide +kernel) (by decide +kernel)) (goodIn_sub (fun _ h => List.mem_cons_of_mem _ (List.mem_append_right _ h)) (by decide +kernel))
set_option maxRecDepth 20000 in
theorem gX8_winner_X8_of : GoodIn wsX8_winner (wsV RX8 81 RX8 yX8_of wsX8_of) := goodIn_app (goodIn_of _ (by decide +kernel)) ggX8_winner_X8_of
theorem dX8_winner_0 : decode cX8_winner 0 = .ok (.iconst 0, 1) := by decide +kernel
theorem dX8_winner_1 : decode cX8_winner 1 = .ok (.istore_n 2, 1) := by decide +kernel
theorem dX8_winner_2 : decode cX8_winner 2 = .ok (.iconst 1, 1) := by decide +kernel
theorem dX8_winner_3 : decode cX8_winner 3 = .ok (.istore_n 3, 1) := by decide +kernel
theorem dX8_winner_4 : decode cX8_winner 4 = .ok (.iload_n 3, 1) := by decide +kernel
theorem dX8_winner_5 : decode cX8_winner 5 = .ok (.iconst 4, 1) := by decide +kernel
theorem dX8_winner_6 : decode cX8_winner 6 = .ok (.if_icmp .ge 34, 3) := by decide +kernel
theorem dX8_winner_9 : decode cX8_winner 9 = .ok (.aload_n 0, 1) := by decide +kernel
theorem dX8_winner_10 : decode cX8_winner 10 = .ok (.iload_n 1, 1) := by decide +kernel
theorem dX8_winner_11 : decode cX8_winner 11 = .ok (.iconst 5, 1) := by decide +kernel
theorem dX8_winner_12 : decode cX8_winner 12 = .ok (.iload_n 3, 1) := by decide +kernel
theorem dX8_winner_13 : decode cX8_winner 13 = .ok (.iadd, 1) := by decide +kernel
theorem dX8_winner_14 : decode cX8_winner 14 = .ok (.invokevirtual 81, 3) := by decide +kernel
theorem dX8_winner_17 : decode cX8_winner 17 = .ok (.aload_n 0, 1) := by decide +kernel
theorem dX8_winner_18 : decode cX8_winner 18 = .ok (.iload_n 1, 1) := by decide +kernel
theorem dX8_winner_19 : decode cX8_winner 19 = .ok (.iconst 5, 1) := by decide +kernel
theorem dX8_winner_20 : decode cX8_winner 20 = .ok (.iload_n 2, 1) := by decide +kernel
theorem dX8_winner_21 : decode cX8_winner 21 = .ok (.iadd, 1) := by decide +kernel
theorem dX8_winner_22 : decode cX8_winner 22 = .ok (.invokevirtual 81, 3) := by decide +kernel
theorem dX8_winner_25 : decode cX8_winner 25 = .ok (.if_icmp .le 7, 3) := by decide +kernel
theorem dX8_winner_28 : decode cX8_winner 28 = .ok (.iload_n 3, 1) := by decide +kernel
theorem dX8_winner_29 : decode cX8_winner 29 = .ok (.goto 4, 3) := by decide +kernel
theorem dX8_winner_32 : decode cX8_winner 32 = .ok (.iload_n 2, 1) := by decide +kernel
theorem dX8_winner_33 : decode cX8_winner 33 = .ok (.istore_n 2, 1) := by decide +kernel
theorem dX8_winner_34 : decode cX8_winner 34 = .ok (.iinc 3 1, 3) := by decide +kernel
theorem dX8_winner_37 : decode cX8_winner 37 = .ok (.goto (-33), 3) := by decide +kernel
theorem dX8_winner_40 : decode cX8_winner 40 = .ok (.aload_n 0, 1) := by decide +kernel
theorem dX8_winner_41 : decode cX8_winner 41 = .ok (.iload_n 1, 1) := by decide +kernel
theorem dX8_winner_42 : decode cX8_winner 42 = .ok (.iconst 4, 1) := by decide +kernel
theorem dX8_winner_43 : decode cX8_winner 43 = .ok (.invokevirtual 81, 3) := by decide +kernel
theorem dX8_winner_46 : decode cX8_winner 46 = .ok (.iconst (-1), 1) := by decide +kernel
theorem dX8_winner_47 : decode cX8_winner 47 = .ok (.if_icmp .ne 7, 3) := by decide +kernel
theorem dX8_winner_50 : decode cX8_winner 50 = .ok (.iload_n 2, 1) := by decide +kernel
theorem dX8_winner_51 : decode cX8_winner 51 = .ok (.goto 9, 3) := by decide +kernel
theorem dX8_winner_54 : decode cX8_winner 54 = .ok (.aload_n 0, 1) := by decide +kernel
theorem dX8_winner_55 : decode cX8_winner 55 = .ok (.iload_n 1, 1) := by decide +kernel
theorem dX8_winner_56 : decode cX8_winner 56 = .ok (.iconst 4, 1) := by decide +kernel
theorem dX8_winner_57 : decode cX8_winner 57 = .ok (.invokevirtual 81, 3) := by decide +kernel
theorem dX8_winner_60 : decode cX8_winner 60 = .ok (.ireturn, 1) := by decide +kernel
set_option maxRecDepth 20000 in
theorem ggX8_doesBuild_X8_winner : GoodIn wsX8_doesBuild wsX8_winner := goodIn_ca (goodIn_r _ [5, 6, 7, 8, 4, 9, 10, 11, 12, 13, 14, 15, 16, 17, 18, 19, 20, 25, 26, 27, 28, 29, 30, 31, 32, 33, 34, 35, 36, 37, 38, 39, 40, 41, 42, 43, 44] (by decide +kernel) (by decide +kernel)) (goodIn_sub (fun _ h => List.mem_cons_of_mem _ (List.mem_append_right _ h)) (by decide +kernel))
set_option maxRecDepth 20000 in
theorem gX8_doesBuild_X8_winner : GoodIn wsX8_doesBuild (wsV RX8 99 RX8 yX8_winner wsX8_winner) := goodIn_app (goodIn_of _ (by decide +kernel)) ggX8_doesBuild_X8_winner
set_option maxRecDepth 20000 in
theorem ggX8_doesBuild_X8_of : GoodIn wsX8_doesBuild wsX8_of := goodIn_ca (goodIn_r _ [9, 10, 11, 12, 13, 4, 14, 15, 16, 17, 18, 19, 20, 25, 26, 27, 28, 29, 30, 31, 32, 33, 34, 35, 36, 37, 38, 39, 40, 41, 42, 43, 44] (by decide +kernel) (by decide +kernel)) (goodIn_sub (fun _ h => List.mem_cons_of_mem _ (List.mem_append_right _ h)) (by decide +kernel))
set_option maxRecDepth 20000 in
theorem gX8_doesBuild_X8_of : GoodIn wsX8_doesBuild (wsV RX8 81 RX8 yX8_of wsX8_of) := goodIn_app (goodIn_of _ (by decide +kernel)) ggX8_doesBuild_X8_of
set_option maxRecDepth 20000 in
theorem ggX8_doesBuild_X8_costOf : GoodIn wsX8_doesBuild wsX8_costOf := goodIn_ca (goodIn_r _ [24, 10, 6, 7, 8, 4, 9, 11, 12, 13, 14, 15, 16, 17, 18, 19, 20, 25, 26, 27, 28, 29, 30, 31, 32, 33, 34, 35, 36, 37, 38, 39, 40, 41, 42, 43, 44] (by decide +kernel) (by decide +kernel)) (goodIn_sub (fun _ h => List.mem_cons_of_mem _ (List.mem_append_right _ h)) (by decide +kernel))
set_option maxRecDepth 20000 in
theorem gX8_doesBuild_X8_costOf : GoodIn wsX8_doesBuild (wsV RX8 102 RX8 yX8_costOf wsX8_costOf) := goodIn_app (goodIn_of _ (by decide +kernel)) ggX8_doesBuild_X8_costOf
theorem dX8_doesBuild_0 : decode cX8_doesBuild 0 = .ok (.aload_n 0, 1) := by decide +kernel
theorem dX8_doesBuild_1 : decode cX8_doesBuild 1 = .ok (.iload_n 1, 1) := by decide +kernel
theorem dX8_doesBuild_2 : decode cX8_doesBuild 2 = .ok (.invokevirtual 99, 3) := by decide +kernel
theorem dX8_doesBuild_5 : decode cX8_doesBuild 5 = .ok (.istore_n 2, 1) := by decide +kernel
theorem dX8_doesBuild_6 : decode cX8_doesBuild 6 = .ok (.aload_n 0, 1) := by decide +kernel
theorem dX8_doesBuild_7 : decode cX8_doesBuild 7 = .ok (.iload_n 1, 1) := by decide +kernel
theorem dX8_doesBuild_8 : decode cX8_doesBuild 8 = .ok (.bipush 9, 2) := by decide +kernel
theorem dX8_doesBuild_10 : decode cX8_doesBuild 10 = .ok (.iload_n 2, 1) := by decide +kernel
theorem dX8_doesBuild_11 : decode cX8_doesBuild 11 = .ok (.iadd, 1) := by decide +kernel
theorem dX8_doesBuild_12 : decode cX8_doesBuild 12 = .ok (.invokevirtual 81, 3) := by decide +kernel
theorem dX8_doesBuild_15 : decode cX8_doesBuild 15 = .ok (.ifCond .ne 23, 3) := by decide +kernel
theorem dX8_doesBuild_18 : decode cX8_doesBuild 18 = .ok (.aload_n 0, 1) := by decide +kernel
theorem dX8_doesBuild_19 : decode cX8_doesBuild 19 = .ok (.iload_n 1, 1) := by decide +kernel
theorem dX8_doesBuild_20 : decode cX8_doesBuild 20 = .ok (.iconst 5, 1) := by decide +kernel
theorem dX8_doesBuild_21 : decode cX8_doesBuild 21 = .ok (.iload_n 2, 1) := by decide +kernel
theorem dX8_doesBuild_22 : decode cX8_doesBuild 22 = .ok (.iadd, 1) := by decide +kernel
theorem dX8_doesBuild_23 : decode cX8_doesBuild 23 = .ok (.invokevirtual 81, 3) := by decide +kernel
theorem dX8_doesBuild_26 : decode cX8_doesBuild 26 = .ok (.aload_n 0, 1) := by decide +kernel
theorem dX8_doesBuild_27 : decode cX8_doesBuild 27 = .ok (.iload_n 1, 1) := by decide +kernel
theorem dX8_doesBuild_28 : decode cX8_doesBuild 28 = .ok (.invokevirtual 102, 3) := by decide +kernel
theorem dX8_doesBuild_31 : decode cX8_doesBuild 31 = .ok (.if_icmp .lt 7, 3) := by decide +kernel
theorem dX8_doesBuild_34 : decode cX8_doesBuild 34 = .ok (.iconst 1, 1) := by decide +kernel
theorem dX8_doesBuild_35 : decode cX8_doesBuild 35 = .ok (.goto 4, 3) := by decide +kernel
theorem dX8_doesBuild_38 : decode cX8_doesBuild 38 = .ok (.iconst 0, 1) := by decide +kernel
theorem dX8_doesBuild_39 : decode cX8_doesBuild 39 = .ok (.ireturn, 1) := by decide +kernel
set_option maxRecDepth 20000 in
theorem ggX8_joins_X8_isIn : GoodIn wsX8_joins wsX8_isIn := goodIn_r _ [5] (by decide +kernel) (by decide +kernel)
set_option maxRecDepth 20000 in
theorem gX8_joins_X8_isIn : GoodIn wsX8_joins (va_wsS RX8 69 yX8_isIn wsX8_isIn) := goodIn_app (goodIn_of _ (by decide +kernel)) ggX8_joins_X8_isIn
set_option maxRecDepth 20000 in
theorem ggX8_joins_X8_holds : GoodIn wsX8_joins wsX8_holds := goodIn_r _ [9, 10, 14, 15, 16, 17, 18, 19, 20, 21, 22, 23, 24, 25, 26, 27, 28, 29, 30, 31, 32, 33] (by decide +kernel) (by decide +kernel)
set_option maxRecDepth 20000 in
theorem gX8_joins_X8_holds : GoodIn wsX8_joins (wsV RX8 47 RX8 yX8_holds wsX8_holds) := goodIn_app (goodIn_of _ (by decide +kernel)) ggX8_joins_X8_holds
set_option maxRecDepth 20000 in
theorem ggX8_joins_X8_playerAt : GoodIn wsX8_joins wsX8_playerAt := goodIn_r _ [13] (by decide +kernel) (by decide +kernel)
set_option maxRecDepth 20000 in
theorem gX8_joins_X8_playerAt : GoodIn wsX8_joins (va_wsS RX8 93 yX8_playerAt wsX8_playerAt) := goodIn_app (goodIn_of _ (by decide +kernel)) ggX8_joins_X8_playerAt
theorem dX8_joins_0 : decode cX8_joins 0 = .ok (.aload_n 0, 1) := by decide +kernel
theorem dX8_joins_1 : decode cX8_joins 1 = .ok (.iload_n 1, 1) := by decide +kernel
theorem dX8_joins_2 : decode cX8_joins 2 = .ok (.iconst 0, 1) := by decide +kernel
theorem dX8_joins_3 : decode cX8_joins 3 = .ok (.bipush 99, 2) := by decide +kernel
theorem dX8_joins_5 : decode cX8_joins 5 = .ok (.invokestatic 69, 3) := by decide +kernel
theorem dX8_joins_8 : decode cX8_joins 8 = .ok (.aload_n 0, 1) := by decide +kernel
theorem dX8_joins_9 : decode cX8_joins 9 = .ok (.getfield 9, 3) := by decide +kernel
theorem dX8_joins_12 : decode cX8_joins 12 = .ok (.iconst 1, 1) := by decide +kernel
theorem dX8_joins_13 : decode cX8_joins 13 = .ok (.iaload, 1) := by decide +kernel
theorem dX8_joins_14 : decode cX8_joins 14 = .ok (.iconst 4, 1) := by decide +kernel
theorem dX8_joins_15 : decode cX8_joins 15 = .ok (.if_icmp .ge 7, 3) := by decide +kernel
theorem dX8_joins_18 : decode cX8_joins 18 = .ok (.iconst 1, 1) := by decide +kernel
theorem dX8_joins_19 : decode cX8_joins 19 = .ok (.goto 4, 3) := by decide +kernel
theorem dX8_joins_22 : decode cX8_joins 22 = .ok (.iconst 0, 1) := by decide +kernel
theorem dX8_joins_23 : decode cX8_joins 23 = .ok (.iconst 1, 1) := by decide +kernel
theorem dX8_joins_24 : decode cX8_joins 24 = .ok (.iconst 1, 1) := by decide +kernel
theorem dX8_joins_25 : decode cX8_joins 25 = .ok (.invokevirtual 47, 3) := by decide +kernel
theorem dX8_joins_28 : decode cX8_joins 28 = .ok (.ifCond .ne 5, 3) := by decide +kernel
theorem dX8_joins_31 : decode cX8_joins 31 = .ok (.iconst 0, 1) := by decide +kernel
theorem dX8_joins_32 : decode cX8_joins 32 = .ok (.ireturn, 1) := by decide +kernel
theorem dX8_joins_33 : decode cX8_joins 33 = .ok (.aload_n 0, 1) := by decide +kernel
theorem dX8_joins_34 : decode cX8_joins 34 = .ok (.getfield 9, 3) := by decide +kernel
theorem dX8_joins_37 : decode cX8_joins 37 = .ok (.aload_n 0, 1) := by decide +kernel
theorem dX8_joins_38 : decode cX8_joins 38 = .ok (.getfield 9, 3) := by decide +kernel
theorem dX8_joins_41 : decode cX8_joins 41 = .ok (.iconst 1, 1) := by decide +kernel
theorem dX8_joins_42 : decode cX8_joins 42 = .ok (.iaload, 1) := by decide +kernel
theorem dX8_joins_43 : decode cX8_joins 43 = .ok (.invokestatic 93, 3) := by decide +kernel
theorem dX8_joins_46 : decode cX8_joins 46 = .ok (.iconst 0, 1) := by decide +kernel
theorem dX8_joins_47 : decode cX8_joins 47 = .ok (.iadd, 1) := by decide +kernel
theorem dX8_joins_48 : decode cX8_joins 48 = .ok (.iload_n 1, 1) := by decide +kernel
theorem dX8_joins_49 : decode cX8_joins 49 = .ok (.iastore, 1) := by decide +kernel
theorem dX8_joins_50 : decode cX8_joins 50 = .ok (.aload_n 0, 1) := by decide +kernel
theorem dX8_joins_51 : decode cX8_joins 51 = .ok (.getfield 9, 3) := by decide +kernel
theorem dX8_joins_54 : decode cX8_joins 54 = .ok (.aload_n 0, 1) := by decide +kernel
theorem dX8_joins_55 : decode cX8_joins 55 = .ok (.getfield 9, 3) := by decide +kernel
theorem dX8_joins_58 : decode cX8_joins 58 = .ok (.iconst 1, 1) := by decide +kernel
theorem dX8_joins_59 : decode cX8_joins 59 = .ok (.iaload, 1) := by decide +kernel
theorem dX8_joins_60 : decode cX8_joins 60 = .ok (.invokestatic 93, 3) := by decide +kernel
theorem dX8_joins_63 : decode cX8_joins 63 = .ok (.iconst 1, 1) := by decide +kernel
theorem dX8_joins_64 : decode cX8_joins 64 = .ok (.iadd, 1) := by decide +kernel
theorem dX8_joins_65 : decode cX8_joins 65 = .ok (.iconst 0, 1) := by decide +kernel
theorem dX8_joins_66 : decode cX8_joins 66 = .ok (.iastore, 1) := by decide +kernel
theorem dX8_joins_67 : decode cX8_joins 67 = .ok (.aload_n 0, 1) := by decide +kernel
theorem dX8_joins_68 : decode cX8_joins 68 = .ok (.getfield 9, 3) := by decide +kernel
theorem dX8_joins_71 : decode cX8_joins 71 = .ok (.iconst 1, 1) := by decide +kernel
theorem dX8_joins_72 : decode cX8_joins 72 = .ok (.dup2, 1) := by decide +kernel
theorem dX8_joins_73 : decode cX8_joins 73 = .ok (.iaload, 1) := by decide +kernel
theorem dX8_joins_74 : decode cX8_joins 74 = .ok (.iconst 1, 1) := by decide +kernel
theorem dX8_joins_75 : decode cX8_joins 75 = .ok (.iadd, 1) := by decide +kernel
theorem dX8_joins_76 : decode cX8_joins 76 = .ok (.iastore, 1) := by decide +kernel
theorem dX8_joins_77 : decode cX8_joins 77 = .ok (.aload_n 0, 1) := by decide +kernel
theorem dX8_joins_78 : decode cX8_joins 78 = .ok (.getfield 9, 3) := by decide +kernel
theorem dX8_joins_81 : decode cX8_joins 81 = .ok (.iconst 1, 1) := by decide +kernel
theorem dX8_joins_82 : decode cX8_joins 82 = .ok (.iaload, 1) := by decide +kernel
theorem dX8_joins_83 : decode cX8_joins 83 = .ok (.iconst 1, 1) := by decide +kernel
theorem dX8_joins_84 : decode cX8_joins 84 = .ok (.isub, 1) := by decide +kernel
theorem dX8_joins_85 : decode cX8_joins 85 = .ok (.ireturn, 1) := by decide +kernel
set_option maxRecDepth 20000 in
theorem ggX8_addPlayer_X8_begins : GoodIn wsX8_addPlayer wsX8_begins := goodIn_ca (goodIn_r _ [5, 6, 7, 8, 9, 4, 10, 36, 37, 38, 39, 40, 41, 42, 43, 44, 45, 46, 47, 48, 49, 50, 51, 52, 53, 54, 55] (by decide +kernel) (by decide +kernel)) (goodIn_sub (fun _ h => List.mem_cons_of_mem _ (List.mem_append_right _ h)) (by decide +kernel))
set_option maxRecDepth 20000 in
theorem gX8_addPlayer_X8_begins : GoodIn wsX8_addPlayer (wsV RX8 105 RX8 yX8_begins wsX8_begins) := goodIn_app (goodIn_of _ (by decide +kernel)) ggX8_addPlayer_X8_begins
set_option maxRecDepth 20000 in
theorem ggX8_addPlayer_X8_joins : GoodIn wsX8_addPlayer wsX8_joins := goodIn_ca (goodIn_r _ [14, 6, 15, 16, 4, 17, 18, 19, 20, 21, 22, 23, 24, 25, 36, 37, 38, 39, 40, 41, 42, 43, 44, 45, 46, 47, 48, 49, 50, 51, 52, 53, 54, 55] (by decide +kernel) (by decide +kernel)) (goodIn_sub (fun _ h => List.mem_cons_of_mem _ (List.mem_append_right _ h)) (by decide +kernel))
set_option maxRecDepth 20000 in
theorem gX8_addPlayer_X8_joins : GoodIn wsX8_addPlayer (wsV RX8 108 RX8 yX8_joins wsX8_joins) := goodIn_app (goodIn_of _ (by decide +kernel)) ggX8_addPlayer_X8_joins
set_option maxRecDepth 20000 in
theorem ggX8_addPlayer_X8_ends : GoodIn wsX8_addPlayer wsX8_ends := goodIn_ca (goodIn_r _ [29, 22, 7, 6, 8, 9, 4, 10, 30, 31, 32, 33, 34, 35, 36, 37, 38, 39, 40, 41, 42, 43, 44, 45, 46, 47, 48, 49, 50, 51, 52, 53, 54, 55] (by decide +kernel) (by decide +kernel)) (goodIn_sub (fun _ h => List.mem_cons_of_mem _ (List.mem_append_right _ h)) (by decide +kernel))
set_option maxRecDepth 20000 in
theorem gX8_addPlayer_X8_ends : GoodIn wsX8_addPlayer (wsV RX8 111 RX8 yX8_ends wsX8_ends) := goodIn_app (goodIn_of _ (by decide +kernel)) ggX8_addPlayer_X8_ends
theorem dX8_addPlayer_0 : decode cX8_addPlayer 0 = .ok (.aload_n 0, 1) := by decide +kernel
theorem dX8_addPlayer_1 : decode cX8_addPlayer 1 = .ok (.invokevirtual 105, 3) := by decide +kernel
theorem dX8_addPlayer_4 : decode cX8_addPlayer 4 = .ok (.aload_n 0, 1) := by decide +kernel
theorem dX8_addPlayer_5 : decode cX8_addPlayer 5 = .ok (.aload_n 0, 1) := by decide +kernel
theorem dX8_addPlayer_6 : decode cX8_addPlayer 6 = .ok (.iload_n 1, 1) := by decide +kernel
theorem dX8_addPlayer_7 : decode cX8_addPlayer 7 = .ok (.invokevirtual 108, 3) := by decide +kernel
theorem dX8_addPlayer_10 : decode cX8_addPlayer 10 = .ok (.invokevirtual 111, 3) := by decide +kernel
theorem dX8_addPlayer_13 : decode cX8_addPlayer 13 = .ok (.ireturn, 1) := by decide +kernel
set_option maxRecDepth 20000 in
theorem ggX8_isPair_X8_of : GoodIn wsX8_isPair wsX8_of := goodIn_ca (goodIn_r _ [13, 1, 14, 15, 16, 12, 17, 18, 19, 20, 21, 22, 23, 24, 25, 26, 27, 28, 29, 30, 31, 32, 33, 34, 35, 36, 37, 38, 39, 40, 41, 42, 43] (by decide +kernel) (by decide +kernel)) (goodIn_sub (fun _ h => List.mem_cons_of_mem _ (List.mem_append_right _ h)) (by decide +kernel))
set_option maxRecDepth 20000 in
theorem gX8_isPair_X8_of : GoodIn wsX8_isPair (wsV RX8 81 RX8 yX8_of wsX8_of) := goodIn_app (goodIn_of _ (by decide +kernel)) ggX8_isPair_X8_of
theorem dX8_isPair_0 : decode cX8_isPair 0 = .ok (.iconst 0, 1) := by decide +kernel
theorem dX8_isPair_1 : decode cX8_isPair 1 = .ok (.istore_n 3, 1) := by decide +kernel
theorem dX8_isPair_2 : decode cX8_isPair 2 = .ok (.iconst 0, 1) := by decide +kernel
theorem dX8_isPair_3 : decode cX8_isPair 3 = .ok (.istore 4, 2) := by decide +kernel
theorem dX8_isPair_5 : decode cX8_isPair 5 = .ok (.iload 4, 2) := by decide +kernel
theorem dX8_isPair_7 : decode cX8_isPair 7 = .ok (.aload_n 0, 1) := by decide +kernel
theorem dX8_isPair_8 : decode cX8_isPair 8 = .ok (.getfield 9, 3) := by decide +kernel
theorem dX8_isPair_11 : decode cX8_isPair 11 = .ok (.iconst 2, 1) := by decide +kernel
theorem dX8_isPair_12 : decode cX8_isPair 12 = .ok (.iaload, 1) := by decide +kernel
theorem dX8_isPair_13 : decode cX8_isPair 13 = .ok (.if_icmp .ge 49, 3) := by decide +kernel
theorem dX8_isPair_16 : decode cX8_isPair 16 = .ok (.iload_n 3, 1) := by decide +kernel
theorem dX8_isPair_17 : decode cX8_isPair 17 = .ok (.ifCond .ne 33, 3) := by decide +kernel
theorem dX8_isPair_20 : decode cX8_isPair 20 = .ok (.aload_n 0, 1) := by decide +kernel
theorem dX8_isPair_21 : decode cX8_isPair 21 = .ok (.iload 4, 2) := by decide +kernel
theorem dX8_isPair_23 : decode cX8_isPair 23 = .ok (.iconst 0, 1) := by decide +kernel
theorem dX8_isPair_24 : decode cX8_isPair 24 = .ok (.invokevirtual 81, 3) := by decide +kernel
theorem dX8_isPair_27 : decode cX8_isPair 27 = .ok (.iload_n 1, 1) := by decide +kernel
theorem dX8_isPair_28 : decode cX8_isPair 28 = .ok (.iload_n 2, 1) := by decide +kernel
theorem dX8_isPair_29 : decode cX8_isPair 29 = .ok (.invokestatic 114, 3) := by decide +kernel
theorem dX8_isPair_32 : decode cX8_isPair 32 = .ok (.if_icmp .ne 22, 3) := by decide +kernel
theorem dX8_isPair_35 : decode cX8_isPair 35 = .ok (.aload_n 0, 1) := by decide +kernel
theorem dX8_isPair_36 : decode cX8_isPair 36 = .ok (.iload 4, 2) := by decide +kernel
theorem dX8_isPair_38 : decode cX8_isPair 38 = .ok (.iconst 1, 1) := by decide +kernel
theorem dX8_isPair_39 : decode cX8_isPair 39 = .ok (.invokevirtual 81, 3) := by decide +kernel
theorem dX8_isPair_42 : decode cX8_isPair 42 = .ok (.iload_n 1, 1) := by decide +kernel
theorem dX8_isPair_43 : decode cX8_isPair 43 = .ok (.iload_n 2, 1) := by decide +kernel
theorem dX8_isPair_44 : decode cX8_isPair 44 = .ok (.invokestatic 88, 3) := by decide +kernel
theorem dX8_isPair_47 : decode cX8_isPair 47 = .ok (.if_icmp .ne 7, 3) := by decide +kernel
theorem dX8_isPair_50 : decode cX8_isPair 50 = .ok (.iconst 1, 1) := by decide +kernel
theorem dX8_isPair_51 : decode cX8_isPair 51 = .ok (.goto 4, 3) := by decide +kernel
theorem dX8_isPair_54 : decode cX8_isPair 54 = .ok (.iconst 0, 1) := by decide +kernel
theorem dX8_isPair_55 : decode cX8_isPair 55 = .ok (.istore_n 3, 1) := by decide +kernel
theorem dX8_isPair_56 : decode cX8_isPair 56 = .ok (.iinc 4 1, 3) := by decide +kernel
theorem dX8_isPair_59 : decode cX8_isPair 59 = .ok (.goto (-54), 3) := by decide +kernel
theorem dX8_isPair_62 : decode cX8_isPair 62 = .ok (.iload_n 3, 1) := by decide +kernel
theorem dX8_isPair_63 : decode cX8_isPair 63 = .ok (.ireturn, 1) := by decide +kernel
set_option maxRecDepth 20000 in
theorem ggX8_adds_X8_isIsland : GoodIn wsX8_adds wsX8_isIsland := goodIn_r _ [12, 13, 14, 11, 15] (by decide +kernel) (by decide +kernel)
set_option maxRecDepth 20000 in
theorem gX8_adds_X8_isIsland : GoodIn wsX8_adds (va_wsS RX8 117 yX8_isIsland wsX8_isIsland) := goodIn_app (goodIn_of _ (by decide +kernel)) ggX8_adds_X8_isIsland
set_option maxRecDepth 20000 in
theorem ggX8_adds_X8_isIn : GoodIn wsX8_adds wsX8_isIn := goodIn_r _ [15] (by decide +kernel) (by decide +kernel)
set_option maxRecDepth 20000 in
theorem gX8_adds_X8_isIn : GoodIn wsX8_adds (va_wsS RX8 69 yX8_isIn wsX8_isIn) := goodIn_app (goodIn_of _ (by decide +kernel)) ggX8_adds_X8_isIn
set_option maxRecDepth 20000 in
theorem ggX8_adds_X8_isPair : GoodIn wsX8_adds wsX8_isPair := goodIn_ca (goodIn_r _ [19, 1, 2, 3, 4, 5, 6, 7, 8, 20, 21, 22, 11, 23, 24, 25, 26, 27, 13, 14, 15, 28, 29, 30, 36, 37, 38, 39, 40, 41, 42, 43, 44, 45, 46, 47, 48, 49, 50, 51, 52, 53, 54, 55] (by decide +kernel) (by decide +kernel)) (goodIn_sub (fun _ h => List.mem_cons_of_mem _ (List.mem_append_right _ h)) (by decide +kernel))
set_option maxRecDepth 20000 in
theorem gX8_adds_X8_isPair : GoodIn wsX8_adds (wsV RX8 120 RX8 yX8_isPair wsX8_isPair) := goodIn_app (goodIn_of _ (by decide +kernel)) ggX8_adds_X8_isPair
set_option maxRecDepth 20000 in
theorem ggX8_adds_X8_holds : GoodIn wsX8_adds wsX8_holds := goodIn_r _ [34, 35, 36, 37, 38, 39, 40, 41, 42, 43, 44, 45, 46, 47, 48, 49, 50, 51, 52, 53, 54, 55] (by decide +kernel) (by decide +kernel)
set_option maxRecDepth 20000 in
theorem gX8_adds_X8_holds : GoodIn wsX8_adds (wsV RX8 47 RX8 yX8_holds wsX8_holds) := goodIn_app (goodIn_of _ (by decide +kernel)) ggX8_adds_X8_holds
set_option maxRecDepth 20000 in
theorem ggX8_adds_X8_siteAt : GoodIn wsX8_adds wsX8_siteAt := goodIn_r _ [30] (by decide +kernel) (by decide +kernel)
set_option maxRecDepth 20000 in
theorem gX8_adds_X8_siteAt : GoodIn wsX8_adds (va_wsS RX8 77 yX8_siteAt wsX8_siteAt) := goodIn_app (goodIn_of _ (by decide +kernel)) ggX8_adds_X8_siteAt
theorem dX8_adds_0 : decode cX8_adds 0 = .ok (.aload_n 0, 1) := by decide +kernel
theorem dX8_adds_1 : decode cX8_adds 1 = .ok (.iload_n 1, 1) := by decide +kernel
theorem dX8_adds_2 : decode cX8_adds 2 = .ok (.invokestatic 117, 3) := by decide +kernel
theorem dX8_adds_5 : decode cX8_adds 5 = .ok (.ifCond .eq 14, 3) := by decide +kernel
theorem dX8_adds_8 : decode cX8_adds 8 = .ok (.iload_n 2, 1) := by decide +kernel
theorem dX8_adds_9 : decode cX8_adds 9 = .ok (.invokestatic 117, 3) := by decide +kernel
theorem dX8_adds_12 : decode cX8_adds 12 = .ok (.ifCond .eq 7, 3) := by decide +kernel
theorem dX8_adds_15 : decode cX8_adds 15 = .ok (.iconst 1, 1) := by decide +kernel
theorem dX8_adds_16 : decode cX8_adds 16 = .ok (.goto 4, 3) := by decide +kernel
theorem dX8_adds_19 : decode cX8_adds 19 = .ok (.iconst 0, 1) := by decide +kernel
theorem dX8_adds_20 : decode cX8_adds 20 = .ok (.iload_n 1, 1) := by decide +kernel
theorem dX8_adds_21 : decode cX8_adds 21 = .ok (.iload_n 2, 1) := by decide +kernel
theorem dX8_adds_22 : decode cX8_adds 22 = .ok (.if_icmp .eq 17, 3) := by decide +kernel
theorem dX8_adds_25 : decode cX8_adds 25 = .ok (.iload_n 3, 1) := by decide +kernel
theorem dX8_adds_26 : decode cX8_adds 26 = .ok (.iconst 1, 1) := by decide +kernel
theorem dX8_adds_27 : decode cX8_adds 27 = .ok (.bipush 9, 2) := by decide +kernel
theorem dX8_adds_29 : decode cX8_adds 29 = .ok (.invokestatic 69, 3) := by decide +kernel
theorem dX8_adds_32 : decode cX8_adds 32 = .ok (.ifCond .eq 7, 3) := by decide +kernel
theorem dX8_adds_35 : decode cX8_adds 35 = .ok (.iconst 1, 1) := by decide +kernel
theorem dX8_adds_36 : decode cX8_adds 36 = .ok (.goto 4, 3) := by decide +kernel
theorem dX8_adds_39 : decode cX8_adds 39 = .ok (.iconst 0, 1) := by decide +kernel
theorem dX8_adds_40 : decode cX8_adds 40 = .ok (.aload_n 0, 1) := by decide +kernel
theorem dX8_adds_41 : decode cX8_adds 41 = .ok (.iload_n 1, 1) := by decide +kernel
theorem dX8_adds_42 : decode cX8_adds 42 = .ok (.iload_n 2, 1) := by decide +kernel
theorem dX8_adds_43 : decode cX8_adds 43 = .ok (.invokevirtual 120, 3) := by decide +kernel
theorem dX8_adds_46 : decode cX8_adds 46 = .ok (.ifCond .ne 7, 3) := by decide +kernel
theorem dX8_adds_49 : decode cX8_adds 49 = .ok (.iconst 1, 1) := by decide +kernel
theorem dX8_adds_50 : decode cX8_adds 50 = .ok (.goto 4, 3) := by decide +kernel
theorem dX8_adds_53 : decode cX8_adds 53 = .ok (.iconst 0, 1) := by decide +kernel
theorem dX8_adds_54 : decode cX8_adds 54 = .ok (.aload_n 0, 1) := by decide +kernel
theorem dX8_adds_55 : decode cX8_adds 55 = .ok (.getfield 9, 3) := by decide +kernel
theorem dX8_adds_58 : decode cX8_adds 58 = .ok (.iconst 2, 1) := by decide +kernel
theorem dX8_adds_59 : decode cX8_adds 59 = .ok (.iaload, 1) := by decide +kernel
theorem dX8_adds_60 : decode cX8_adds 60 = .ok (.bipush 12, 2) := by decide +kernel
theorem dX8_adds_62 : decode cX8_adds 62 = .ok (.if_icmp .ge 7, 3) := by decide +kernel
theorem dX8_adds_65 : decode cX8_adds 65 = .ok (.iconst 1, 1) := by decide +kernel
theorem dX8_adds_66 : decode cX8_adds 66 = .ok (.goto 4, 3) := by decide +kernel
theorem dX8_adds_69 : decode cX8_adds 69 = .ok (.iconst 0, 1) := by decide +kernel
theorem dX8_adds_70 : decode cX8_adds 70 = .ok (.invokevirtual 47, 3) := by decide +kernel
theorem dX8_adds_73 : decode cX8_adds 73 = .ok (.ifCond .ne 5, 3) := by decide +kernel
theorem dX8_adds_76 : decode cX8_adds 76 = .ok (.iconst 0, 1) := by decide +kernel
theorem dX8_adds_77 : decode cX8_adds 77 = .ok (.ireturn, 1) := by decide +kernel
theorem dX8_adds_78 : decode cX8_adds 78 = .ok (.aload_n 0, 1) := by decide +kernel
theorem dX8_adds_79 : decode cX8_adds 79 = .ok (.getfield 9, 3) := by decide +kernel
theorem dX8_adds_82 : decode cX8_adds 82 = .ok (.iconst 2, 1) := by decide +kernel
theorem dX8_adds_83 : decode cX8_adds 83 = .ok (.iaload, 1) := by decide +kernel
theorem dX8_adds_84 : decode cX8_adds 84 = .ok (.invokestatic 77, 3) := by decide +kernel
theorem dX8_adds_87 : decode cX8_adds 87 = .ok (.istore 4, 2) := by decide +kernel
theorem dX8_adds_89 : decode cX8_adds 89 = .ok (.iconst 0, 1) := by decide +kernel
theorem dX8_adds_90 : decode cX8_adds 90 = .ok (.istore 5, 2) := by decide +kernel
theorem dX8_adds_92 : decode cX8_adds 92 = .ok (.iload 5, 2) := by decide +kernel
theorem dX8_adds_94 : decode cX8_adds 94 = .ok (.bipush 13, 2) := by decide +kernel
theorem dX8_adds_96 : decode cX8_adds 96 = .ok (.if_icmp .ge 20, 3) := by decide +kernel
theorem dX8_adds_99 : decode cX8_adds 99 = .ok (.aload_n 0, 1) := by decide +kernel
theorem dX8_adds_100 : decode cX8_adds 100 = .ok (.getfield 9, 3) := by decide +kernel
theorem dX8_adds_103 : decode cX8_adds 103 = .ok (.iload 4, 2) := by decide +kernel
theorem dX8_adds_105 : decode cX8_adds 105 = .ok (.iload 5, 2) := by decide +kernel
theorem dX8_adds_107 : decode cX8_adds 107 = .ok (.iadd, 1) := by decide +kernel
theorem dX8_adds_108 : decode cX8_adds 108 = .ok (.iconst 0, 1) := by decide +kernel
theorem dX8_adds_109 : decode cX8_adds 109 = .ok (.iastore, 1) := by decide +kernel
theorem dX8_adds_110 : decode cX8_adds 110 = .ok (.iinc 5 1, 3) := by decide +kernel
theorem dX8_adds_113 : decode cX8_adds 113 = .ok (.goto (-21), 3) := by decide +kernel
theorem dX8_adds_116 : decode cX8_adds 116 = .ok (.aload_n 0, 1) := by decide +kernel
theorem dX8_adds_117 : decode cX8_adds 117 = .ok (.getfield 9, 3) := by decide +kernel
theorem dX8_adds_120 : decode cX8_adds 120 = .ok (.iload 4, 2) := by decide +kernel
theorem dX8_adds_122 : decode cX8_adds 122 = .ok (.iconst 0, 1) := by decide +kernel
theorem dX8_adds_123 : decode cX8_adds 123 = .ok (.iadd, 1) := by decide +kernel
theorem dX8_adds_124 : decode cX8_adds 124 = .ok (.iload_n 1, 1) := by decide +kernel
theorem dX8_adds_125 : decode cX8_adds 125 = .ok (.iload_n 2, 1) := by decide +kernel
theorem dX8_adds_126 : decode cX8_adds 126 = .ok (.invokestatic 114, 3) := by decide +kernel
theorem dX8_adds_129 : decode cX8_adds 129 = .ok (.iastore, 1) := by decide +kernel
theorem dX8_adds_130 : decode cX8_adds 130 = .ok (.aload_n 0, 1) := by decide +kernel
theorem dX8_adds_131 : decode cX8_adds 131 = .ok (.getfield 9, 3) := by decide +kernel
theorem dX8_adds_134 : decode cX8_adds 134 = .ok (.iload 4, 2) := by decide +kernel
theorem dX8_adds_136 : decode cX8_adds 136 = .ok (.iconst 1, 1) := by decide +kernel
theorem dX8_adds_137 : decode cX8_adds 137 = .ok (.iadd, 1) := by decide +kernel
theorem dX8_adds_138 : decode cX8_adds 138 = .ok (.iload_n 1, 1) := by decide +kernel
theorem dX8_adds_139 : decode cX8_adds 139 = .ok (.iload_n 2, 1) := by decide +kernel
theorem dX8_adds_140 : decode cX8_adds 140 = .ok (.invokestatic 88, 3) := by decide +kernel
theorem dX8_adds_143 : decode cX8_adds 143 = .ok (.iastore, 1) := by decide +kernel
theorem dX8_adds_144 : decode cX8_adds 144 = .ok (.aload_n 0, 1) := by decide +kernel
theorem dX8_adds_145 : decode cX8_adds 145 = .ok (.getfield 9, 3) := by decide +kernel
theorem dX8_adds_148 : decode cX8_adds 148 = .ok (.iload 4, 2) := by decide +kernel
theorem dX8_adds_150 : decode cX8_adds 150 = .ok (.iconst 2, 1) := by decide +kernel
theorem dX8_adds_151 : decode cX8_adds 151 = .ok (.iadd, 1) := by decide +kernel
theorem dX8_adds_152 : decode cX8_adds 152 = .ok (.iload_n 3, 1) := by decide +kernel
theorem dX8_adds_153 : decode cX8_adds 153 = .ok (.iastore, 1) := by decide +kernel
theorem dX8_adds_154 : decode cX8_adds 154 = .ok (.aload_n 0, 1) := by decide +kernel
theorem dX8_adds_155 : decode cX8_adds 155 = .ok (.getfield 9, 3) := by decide +kernel
theorem dX8_adds_158 : decode cX8_adds 158 = .ok (.iload 4, 2) := by decide +kernel
theorem dX8_adds_160 : decode cX8_adds 160 = .ok (.iconst 3, 1) := by decide +kernel
theorem dX8_adds_161 : decode cX8_adds 161 = .ok (.iadd, 1) := by decide +kernel
theorem dX8_adds_162 : decode cX8_adds 162 = .ok (.iconst (-1), 1) := by decide +kernel
theorem dX8_adds_163 : decode cX8_adds 163 = .ok (.iastore, 1) := by decide +kernel
theorem dX8_adds_164 : decode cX8_adds 164 = .ok (.aload_n 0, 1) := by decide +kernel
theorem dX8_adds_165 : decode cX8_adds 165 = .ok (.getfield 9, 3) := by decide +kernel
theorem dX8_adds_168 : decode cX8_adds 168 = .ok (.iload 4, 2) := by decide +kernel
theorem dX8_adds_170 : decode cX8_adds 170 = .ok (.iconst 4, 1) := by decide +kernel
theorem dX8_adds_171 : decode cX8_adds 171 = .ok (.iadd, 1) := by decide +kernel
theorem dX8_adds_172 : decode cX8_adds 172 = .ok (.iconst (-1), 1) := by decide +kernel
theorem dX8_adds_173 : decode cX8_adds 173 = .ok (.iastore, 1) := by decide +kernel
theorem dX8_adds_174 : decode cX8_adds 174 = .ok (.aload_n 0, 1) := by decide +kernel
theorem dX8_adds_175 : decode cX8_adds 175 = .ok (.getfield 9, 3) := by decide +kernel
theorem dX8_adds_178 : decode cX8_adds 178 = .ok (.iconst 2, 1) := by decide +kernel
theorem dX8_adds_179 : decode cX8_adds 179 = .ok (.dup2, 1) := by decide +kernel
theorem dX8_adds_180 : decode cX8_adds 180 = .ok (.iaload, 1) := by decide +kernel
theorem dX8_adds_181 : decode cX8_adds 181 = .ok (.iconst 1, 1) := by decide +kernel
theorem dX8_adds_182 : decode cX8_adds 182 = .ok (.iadd, 1) := by decide +kernel
theorem dX8_adds_183 : decode cX8_adds 183 = .ok (.iastore, 1) := by decide +kernel
theorem dX8_adds_184 : decode cX8_adds 184 = .ok (.aload_n 0, 1) := by decide +kernel
theorem dX8_adds_185 : decode cX8_adds 185 = .ok (.getfield 9, 3) := by decide +kernel
theorem dX8_adds_188 : decode cX8_adds 188 = .ok (.iconst 2, 1) := by decide +kernel
theorem dX8_adds_189 : decode cX8_adds 189 = .ok (.iaload, 1) := by decide +kernel
theorem dX8_adds_190 : decode cX8_adds 190 = .ok (.iconst 1, 1) := by decide +kernel
theorem dX8_adds_191 : decode cX8_adds 191 = .ok (.isub, 1) := by decide +kernel
theorem dX8_adds_192 : decode cX8_adds 192 = .ok (.ireturn, 1) := by decide +kernel
set_option maxRecDepth 20000 in
theorem ggX8_addSite_X8_begins : GoodIn wsX8_addSite wsX8_begins := goodIn_ca (goodIn_r _ [5, 6, 7, 8, 9, 4, 10, 58, 59, 60, 61, 62, 63, 64, 65, 66, 67, 68, 69, 70, 71, 72, 73, 74, 75, 76, 77] (by decide +kernel) (by decide +kernel)) (goodIn_sub (fun _ h => List.mem_cons_of_mem _ (List.mem_append_right _ h)) (by decide +kernel))
set_option maxRecDepth 20000 in
theorem gX8_addSite_X8_begins : GoodIn wsX8_addSite (wsV RX8 105 RX8 yX8_begins wsX8_begins) := goodIn_app (goodIn_of _ (by decide +kernel)) ggX8_addSite_X8_begins
set_option maxRecDepth 20000 in
theorem ggX8_addSite_X8_adds : GoodIn wsX8_addSite wsX8_adds := goodIn_ca (goodIn_r _ [14, 6, 15, 16, 17, 18, 19, 20, 21, 22, 23, 4, 24, 25, 26, 27, 28, 29, 30, 31, 32, 33, 34, 35, 36, 37, 38, 39, 40, 41, 42, 43, 44, 45, 46, 47, 58, 59, 60, 61, 62, 63, 64, 65, 66, 67, 68, 69, 70, 71, 72, 73, 74, 75, 76, 77] (by decide +kernel) (by decide +kernel)) (goodIn_sub (fun _ h => List.mem_cons_of_mem _ (List.mem_append_right _ h)) (by decide +kernel))
set_option maxRecDepth 20000 in
theorem gX8_addSite_X8_adds : GoodIn wsX8_addSite (wsV RX8 124 RX8 yX8_adds wsX8_adds) := goodIn_app (goodIn_of _ (by decide +kernel)) ggX8_addSite_X8_adds
set_option maxRecDepth 20000 in
theorem ggX8_addSite_X8_ends : GoodIn wsX8_addSite wsX8_ends := goodIn_ca (goodIn_r _ [51, 47, 7, 6, 8, 9, 4, 10, 52, 53, 54, 55, 56, 57, 58, 59, 60, 61, 62, 63, 64, 65, 66, 67, 68, 69, 70, 71, 72, 73, 74, 75, 76, 77] (by decide +kernel) (by decide +kernel)) (goodIn_sub (fun _ h => List.mem_cons_of_mem _ (List.mem_append_right _ h)) (by decide +kernel))
set_option maxRecDepth 20000 in
theorem gX8_addSite_X8_ends : GoodIn wsX8_addSite (wsV RX8 111 RX8 yX8_ends wsX8_ends) := goodIn_app (goodIn_of _ (by decide +kernel)) ggX8_addSite_X8_ends
theorem dX8_addSite_0 : decode cX8_addSite 0 = .ok (.aload_n 0, 1) := by decide +kernel
theorem dX8_addSite_1 : decode cX8_addSite 1 = .ok (.invokevirtual 105, 3) := by decide +kernel
theorem dX8_addSite_4 : decode cX8_addSite 4 = .ok (.aload_n 0, 1) := by decide +kernel
theorem dX8_addSite_5 : decode cX8_addSite 5 = .ok (.aload_n 0, 1) := by decide +kernel
theorem dX8_addSite_6 : decode cX8_addSite 6 = .ok (.iload_n 1, 1) := by decide +kernel
theorem dX8_addSite_7 : decode cX8_addSite 7 = .ok (.iload_n 2, 1) := by decide +kernel
theorem dX8_addSite_8 : decode cX8_addSite 8 = .ok (.iload_n 3, 1) := by decide +kernel
theorem dX8_addSite_9 : decode cX8_addSite 9 = .ok (.invokevirtual 124, 3) := by decide +kernel
theorem dX8_addSite_12 : decode cX8_addSite 12 = .ok (.invokevirtual 111, 3) := by decide +kernel
theorem dX8_addSite_15 : decode cX8_addSite 15 = .ok (.ireturn, 1) := by decide +kernel
set_option maxRecDepth 20000 in
theorem ggX8_dresses_X8_isIsland : GoodIn wsX8_dresses wsX8_isIsland := goodIn_r _ [5, 6, 7, 4, 8] (by decide +kernel) (by decide +kernel)
set_option maxRecDepth 20000 in
theorem gX8_dresses_X8_isIsland : GoodIn wsX8_dresses (va_wsS RX8 117 yX8_isIsland wsX8_isIsland) := goodIn_app (goodIn_of _ (by decide +kernel)) ggX8_dresses_X8_isIsland
set_option maxRecDepth 20000 in
theorem ggX8_dresses_X8_isIn : GoodIn wsX8_dresses wsX8_isIn := goodIn_r _ [8] (by decide +kernel) (by decide +kernel)
set_option maxRecDepth 20000 in
theorem gX8_dresses_X8_isIn : GoodIn wsX8_dresses (va_wsS RX8 69 yX8_isIn wsX8_isIn) := goodIn_app (goodIn_of _ (by decide +kernel)) ggX8_dresses_X8_isIn
set_option maxRecDepth 20000 in
theorem ggX8_dresses_X8_holds : GoodIn wsX8_dresses wsX8_holds := goodIn_r _ [12, 13, 14, 15, 16, 17, 18, 19, 20, 21, 22, 23, 24, 25, 26, 27, 28, 29, 30, 31, 32, 33] (by decide +kernel) (by decide +kernel)
set_option maxRecDepth 20000 in
theorem gX8_dresses_X8_holds : GoodIn wsX8_dresses (wsV RX8 47 RX8 yX8_holds wsX8_holds) := goodIn_app (goodIn_of _ (by decide +kernel)) ggX8_dresses_X8_holds
theorem dX8_dresses_0 : decode cX8_dresses 0 = .ok (.aload_n 0, 1) := by decide +kernel
theorem dX8_dresses_1 : decode cX8_dresses 1 = .ok (.iload_n 1, 1) := by decide +kernel
theorem dX8_dresses_2 : decode cX8_dresses 2 = .ok (.invokestatic 117, 3) := by decide +kernel
theorem dX8_dresses_5 : decode cX8_dresses 5 = .ok (.iload_n 2, 1) := by decide +kernel
theorem dX8_dresses_6 : decode cX8_dresses 6 = .ok (.iconst 0, 1) := by decide +kernel
theorem dX8_dresses_7 : decode cX8_dresses 7 = .ok (.iconst 3, 1) := by decide +kernel
theorem dX8_dresses_8 : decode cX8_dresses 8 = .ok (.invokestatic 69, 3) := by decide +kernel
theorem dX8_dresses_11 : decode cX8_dresses 11 = .ok (.iconst 1, 1) := by decide +kernel
theorem dX8_dresses_12 : decode cX8_dresses 12 = .ok (.iconst 1, 1) := by decide +kernel
theorem dX8_dresses_13 : decode cX8_dresses 13 = .ok (.invokevirtual 47, 3) := by decide +kernel
theorem dX8_dresses_16 : decode cX8_dresses 16 = .ok (.ifCond .ne 5, 3) := by decide +kernel
theorem dX8_dresses_19 : decode cX8_dresses 19 = .ok (.iconst 0, 1) := by decide +kernel
theorem dX8_dresses_20 : decode cX8_dresses 20 = .ok (.ireturn, 1) := by decide +kernel
theorem dX8_dresses_21 : decode cX8_dresses 21 = .ok (.aload_n 0, 1) := by decide +kernel
theorem dX8_dresses_22 : decode cX8_dresses 22 = .ok (.getfield 9, 3) := by decide +kernel
theorem dX8_dresses_25 : decode cX8_dresses 25 = .ok (.bipush 6, 2) := by decide +kernel
theorem dX8_dresses_27 : decode cX8_dresses 27 = .ok (.iload_n 1, 1) := by decide +kernel
theorem dX8_dresses_28 : decode cX8_dresses 28 = .ok (.iadd, 1) := by decide +kernel
theorem dX8_dresses_29 : decode cX8_dresses 29 = .ok (.iaload, 1) := by decide +kernel
theorem dX8_dresses_30 : decode cX8_dresses 30 = .ok (.istore_n 3, 1) := by decide +kernel
theorem dX8_dresses_31 : decode cX8_dresses 31 = .ok (.aload_n 0, 1) := by decide +kernel
theorem dX8_dresses_32 : decode cX8_dresses 32 = .ok (.getfield 9, 3) := by decide +kernel
theorem dX8_dresses_35 : decode cX8_dresses 35 = .ok (.bipush 6, 2) := by decide +kernel
theorem dX8_dresses_37 : decode cX8_dresses 37 = .ok (.iload_n 1, 1) := by decide +kernel
theorem dX8_dresses_38 : decode cX8_dresses 38 = .ok (.iadd, 1) := by decide +kernel
theorem dX8_dresses_39 : decode cX8_dresses 39 = .ok (.iload_n 2, 1) := by decide +kernel
theorem dX8_dresses_40 : decode cX8_dresses 40 = .ok (.iastore, 1) := by decide +kernel
theorem dX8_dresses_41 : decode cX8_dresses 41 = .ok (.iload_n 3, 1) := by decide +kernel
theorem dX8_dresses_42 : decode cX8_dresses 42 = .ok (.ireturn, 1) := by decide +kernel
set_option maxRecDepth 20000 in
theorem ggX8_setSuit_X8_begins : GoodIn wsX8_setSuit wsX8_begins := goodIn_ca (goodIn_r _ [5, 6, 7, 8, 9, 4, 10, 36, 37, 38, 39, 40, 41, 42, 43, 44, 45, 46, 47, 48, 49, 50, 51, 52, 53, 54, 55] (by decide +kernel) (by decide +kernel)) (goodIn_sub (fun _ h => List.mem_cons_of_mem _ (List.mem_append_right _ h)) (by decide +kernel))
set_option maxRecDepth 20000 in
theorem gX8_setSuit_X8_begins : GoodIn wsX8_setSuit (wsV RX8 105 RX8 yX8_begins wsX8_begins) := goodIn_app (goodIn_of _ (by decide +kernel)) ggX8_setSuit_X8_begins
set_option maxRecDepth 20000 in
theorem ggX8_setSuit_X8_dresses : GoodIn wsX8_setSuit wsX8_dresses := goodIn_ca (goodIn_r _ [14, 6, 15, 16, 4, 17, 18, 19, 20, 21, 22, 23, 24, 25, 36, 37, 38, 39, 40, 41, 42, 43, 44, 45, 46, 47, 48, 49, 50, 51, 52, 53, 54, 55] (by decide +kernel) (by decide +kernel)) (goodIn_sub (fun _ h => List.mem_cons_of_mem _ (List.mem_append_right _ h)) (by decide +kernel))
set_option maxRecDepth 20000 in
theorem gX8_setSuit_X8_dresses : GoodIn wsX8_setSuit (wsV RX8 128 RX8 yX8_dresses wsX8_dresses) := goodIn_app (goodIn_of _ (by decide +kernel)) ggX8_setSuit_X8_dresses
set_option maxRecDepth 20000 in
theorem ggX8_setSuit_X8_ends : GoodIn wsX8_setSuit wsX8_ends := goodIn_ca (goodIn_r _ [29, 25, 7, 6, 8, 9, 4, 10, 30, 31, 32, 33, 34, 35, 36, 37, 38, 39, 40, 41, 42, 43, 44, 45, 46, 47, 48, 49, 50, 51, 52, 53, 54, 55] (by decide +kernel) (by decide +kernel)) (goodIn_sub (fun _ h => List.mem_cons_of_mem _ (List.mem_append_right _ h)) (by decide +kernel))
set_option maxRecDepth 20000 in
theorem gX8_setSuit_X8_ends : GoodIn wsX8_setSuit (wsV RX8 111 RX8 yX8_ends wsX8_ends) := goodIn_app (goodIn_of _ (by decide +kernel)) ggX8_setSuit_X8_ends
theorem dX8_setSuit_0 : decode cX8_setSuit 0 = .ok (.aload_n 0, 1) := by decide +kernel
theorem dX8_setSuit_1 : decode cX8_setSuit 1 = .ok (.invokevirtual 105, 3) := by decide +kernel
theorem dX8_setSuit_4 : decode cX8_setSuit 4 = .ok (.aload_n 0, 1) := by decide +kernel
theorem dX8_setSuit_5 : decode cX8_setSuit 5 = .ok (.aload_n 0, 1) := by decide +kernel
theorem dX8_setSuit_6 : decode cX8_setSuit 6 = .ok (.iload_n 1, 1) := by decide +kernel
theorem dX8_setSuit_7 : decode cX8_setSuit 7 = .ok (.iload_n 2, 1) := by decide +kernel
theorem dX8_setSuit_8 : decode cX8_setSuit 8 = .ok (.invokevirtual 128, 3) := by decide +kernel
theorem dX8_setSuit_11 : decode cX8_setSuit 11 = .ok (.invokevirtual 111, 3) := by decide +kernel
theorem dX8_setSuit_14 : decode cX8_setSuit 14 = .ok (.ireturn, 1) := by decide +kernel
set_option maxRecDepth 20000 in
theorem ggX8_floods_X8_isIn : GoodIn wsX8_floods wsX8_isIn := goodIn_r _ [5] (by decide +kernel) (by decide +kernel)
set_option maxRecDepth 20000 in
theorem gX8_floods_X8_isIn : GoodIn wsX8_floods (va_wsS RX8 69 yX8_isIn wsX8_isIn) := goodIn_app (goodIn_of _ (by decide +kernel)) ggX8_floods_X8_isIn
set_option maxRecDepth 20000 in
theorem ggX8_floods_X8_goes : GoodIn wsX8_floods wsX8_goes := goodIn_r _ [9, 10, 11, 12, 4, 13, 14, 15, 16, 17, 18, 19, 20, 21, 22, 23, 24, 25, 26, 27, 28, 29, 30, 31, 32, 33, 34] (by decide +kernel) (by decide +kernel)
set_option maxRecDepth 20000 in
theorem gX8_floods_X8_goes : GoodIn wsX8_floods (wsV RX8 61 RX8 yX8_goes wsX8_goes) := goodIn_app (goodIn_of _ (by decide +kernel)) ggX8_floods_X8_goes
theorem dX8_floods_0 : decode cX8_floods 0 = .ok (.aload_n 0, 1) := by decide +kernel
theorem dX8_floods_1 : decode cX8_floods 1 = .ok (.getfield 9, 3) := by decide +kernel
theorem dX8_floods_4 : decode cX8_floods 4 = .ok (.iconst 0, 1) := by decide +kernel
theorem dX8_floods_5 : decode cX8_floods 5 = .ok (.iaload, 1) := by decide +kernel
theorem dX8_floods_6 : decode cX8_floods 6 = .ok (.istore_n 2, 1) := by decide +kernel
theorem dX8_floods_7 : decode cX8_floods 7 = .ok (.aload_n 0, 1) := by decide +kernel
theorem dX8_floods_8 : decode cX8_floods 8 = .ok (.iload_n 1, 1) := by decide +kernel
theorem dX8_floods_9 : decode cX8_floods 9 = .ok (.iconst 0, 1) := by decide +kernel
theorem dX8_floods_10 : decode cX8_floods 10 = .ok (.bipush 9, 2) := by decide +kernel
theorem dX8_floods_12 : decode cX8_floods 12 = .ok (.invokestatic 69, 3) := by decide +kernel
theorem dX8_floods_15 : decode cX8_floods 15 = .ok (.invokevirtual 61, 3) := by decide +kernel
theorem dX8_floods_18 : decode cX8_floods 18 = .ok (.ifCond .eq 10, 3) := by decide +kernel
theorem dX8_floods_21 : decode cX8_floods 21 = .ok (.aload_n 0, 1) := by decide +kernel
theorem dX8_floods_22 : decode cX8_floods 22 = .ok (.getfield 9, 3) := by decide +kernel
theorem dX8_floods_25 : decode cX8_floods 25 = .ok (.iconst 0, 1) := by decide +kernel
theorem dX8_floods_26 : decode cX8_floods 26 = .ok (.iload_n 1, 1) := by decide +kernel
theorem dX8_floods_27 : decode cX8_floods 27 = .ok (.iastore, 1) := by decide +kernel
theorem dX8_floods_28 : decode cX8_floods 28 = .ok (.iload_n 2, 1) := by decide +kernel
theorem dX8_floods_29 : decode cX8_floods 29 = .ok (.ireturn, 1) := by decide +kernel
set_option maxRecDepth 20000 in
theorem ggX8_setTide_X8_begins : GoodIn wsX8_setTide wsX8_begins := goodIn_ca (goodIn_r _ [5, 6, 7, 8, 9, 4, 10, 37, 38, 39, 40, 41, 42, 43, 44, 45, 46, 47, 48, 49, 50, 51, 52, 53, 54, 55, 56] (by decide +kernel) (by decide +kernel)) (goodIn_sub (fun _ h => List.mem_cons_of_mem _ (List.mem_append_right _ h)) (by decide +kernel))
set_option maxRecDepth 20000 in
theorem gX8_setTide_X8_begins : GoodIn wsX8_setTide (wsV RX8 105 RX8 yX8_begins wsX8_begins) := goodIn_app (goodIn_of _ (by decide +kernel)) ggX8_setTide_X8_begins
set_option maxRecDepth 20000 in
theorem ggX8_setTide_X8_floods : GoodIn wsX8_setTide wsX8_floods := goodIn_ca (goodIn_r _ [14, 6, 15, 16, 4, 17, 18, 19, 20, 21, 22, 23, 24, 25, 26, 37, 38, 39, 40, 41, 42, 43, 44, 45, 46, 47, 48, 49, 50, 51, 52, 53, 54, 55, 56] (by decide +kernel) (by decide +kernel)) (goodIn_sub (fun _ h => List.mem_cons_of_mem _ (List.mem_append_right _ h)) (by decide +kernel))
set_option maxRecDepth 20000 in
theorem gX8_setTide_X8_floods : GoodIn wsX8_setTide (wsV RX8 131 RX8 yX8_floods wsX8_floods) := goodIn_app (goodIn_of _ (by decide +kernel)) ggX8_setTide_X8_floods
set_option maxRecDepth 20000 in
theorem ggX8_setTide_X8_ends : GoodIn wsX8_setTide wsX8_ends := goodIn_ca (goodIn_r _ [30, 26, 7, 6, 8, 9, 4, 10, 31, 32, 33, 34, 35, 36, 37, 38, 39, 40, 41, 42, 43, 44, 45, 46, 47, 48, 49, 50, 51, 52, 53, 54, 55, 56] (by decide +kernel) (by decide +kernel)) (goodIn_sub (fun _ h => List.mem_cons_of_mem _ (List.mem_append_right _ h)) (by decide +kernel))
set_option maxRecDepth 20000 in
theorem gX8_setTide_X8_ends : GoodIn wsX8_setTide (wsV RX8 111 RX8 yX8_ends wsX8_ends) := goodIn_app (goodIn_of _ (by decide +kernel)) ggX8_setTide_X8_ends
theorem dX8_setTide_0 : decode cX8_setTide 0 = .ok (.aload_n 0, 1) := by decide +kernel
theorem dX8_setTide_1 : decode cX8_setTide 1 = .ok (.invokevirtual 105, 3) := by decide +kernel
theorem dX8_setTide_4 : decode cX8_setTide 4 = .ok (.aload_n 0, 1) := by decide +kernel
theorem dX8_setTide_5 : decode cX8_setTide 5 = .ok (.aload_n 0, 1) := by decide +kernel
theorem dX8_setTide_6 : decode cX8_setTide 6 = .ok (.iload_n 1, 1) := by decide +kernel
theorem dX8_setTide_7 : decode cX8_setTide 7 = .ok (.invokevirtual 131, 3) := by decide +kernel
theorem dX8_setTide_10 : decode cX8_setTide 10 = .ok (.invokevirtual 111, 3) := by decide +kernel
theorem dX8_setTide_13 : decode cX8_setTide 13 = .ok (.ireturn, 1) := by decide +kernel
set_option maxRecDepth 20000 in
theorem ggX8_bids_X8_isPlayer : GoodIn wsX8_bids wsX8_isPlayer := goodIn_ca (goodIn_r _ [6, 1, 7, 8, 5, 9, 53, 54, 55, 56, 57, 58, 59, 60, 61, 62, 63, 64, 65, 66, 67, 68, 69, 70, 71, 72] (by decide +kernel) (by decide +kernel)) (goodIn_sub (fun _ h => List.mem_cons_of_mem _ (List.mem_append_right _ h)) (by decide +kernel))
set_option maxRecDepth 20000 in
theorem gX8_bids_X8_isPlayer : GoodIn wsX8_bids (wsV RX8 85 RX8 yX8_isPlayer wsX8_isPlayer) := goodIn_app (goodIn_of _ (by decide +kernel)) ggX8_bids_X8_isPlayer
set_option maxRecDepth 20000 in
theorem ggX8_bids_X8_isSite : GoodIn wsX8_bids wsX8_isSite := goodIn_ca (goodIn_r _ [13, 1, 7, 8, 5, 9, 53, 54, 55, 56, 57, 58, 59, 60, 61, 62, 63, 64, 65, 66, 67, 68, 69, 70, 71, 72] (by decide +kernel) (by decide +kernel)) (goodIn_sub (fun _ h => List.mem_cons_of_mem _ (List.mem_append_right _ h)) (by decide +kernel))
set_option maxRecDepth 20000 in
theorem gX8_bids_X8_isSite : GoodIn wsX8_bids (wsV RX8 73 RX8 yX8_isSite wsX8_isSite) := goodIn_app (goodIn_of _ (by decide +kernel)) ggX8_bids_X8_isSite
set_option maxRecDepth 20000 in
theorem ggX8_bids_X8_isIn : GoodIn wsX8_bids wsX8_isIn := goodIn_r _ [9] (by decide +kernel) (by decide +kernel)
set_option maxRecDepth 20000 in
theorem gX8_bids_X8_isIn : GoodIn wsX8_bids (va_wsS RX8 69 yX8_isIn wsX8_isIn) := goodIn_app (goodIn_of _ (by decide +kernel)) ggX8_bids_X8_isIn
set_option maxRecDepth 20000 in
theorem ggX8_bids_X8_isDone : GoodIn wsX8_bids wsX8_isDone := goodIn_ca (goodIn_r _ [17, 10, 11, 12, 5, 13, 1, 7, 8, 9, 18, 19, 20, 21, 22, 23, 24, 53, 54, 55, 56, 57, 58, 59, 60, 61, 62, 63, 64, 65, 66, 67, 68, 69, 70, 71, 72] (by decide +kernel) (by decide +kernel)) (goodIn_sub (fun _ h => List.mem_cons_of_mem _ (List.mem_append_right _ h)) (by decide +kernel))
set_option maxRecDepth 20000 in
theorem gX8_bids_X8_isDone : GoodIn wsX8_bids (wsV RX8 134 RX8 yX8_isDone wsX8_isDone) := goodIn_app (goodIn_of _ (by decide +kernel)) ggX8_bids_X8_isDone
set_option maxRecDepth 20000 in
theorem ggX8_bids_X8_holds : GoodIn wsX8_bids wsX8_holds := goodIn_r _ [28, 29, 53, 54, 55, 56, 57, 58, 59, 60, 61, 62, 63, 64, 65, 66, 67, 68, 69, 70, 71, 72] (by decide +kernel) (by decide +kernel)
set_option maxRecDepth 20000 in
theorem gX8_bids_X8_holds : GoodIn wsX8_bids (wsV RX8 47 RX8 yX8_holds wsX8_holds) := goodIn_app (goodIn_of _ (by decide +kernel)) ggX8_bids_X8_holds
set_option maxRecDepth 20000 in
theorem ggX8_bids_X8_highest : GoodIn wsX8_bids wsX8_highest := goodIn_ca (goodIn_r _ [33, 34, 35, 36, 37, 18, 19, 20, 5, 21, 1, 10, 11, 12, 13, 7, 8, 9, 22, 23, 24, 53, 54, 55, 56, 57, 58, 59, 60, 61, 62, 63, 64, 65, 66, 67, 68, 69, 70, 71, 72] (by decide +kernel) (by decide +kernel)) (goodIn_sub (fun _ h => List.mem_cons_of_mem _ (List.mem_append_right _ h)) (by decide +kernel))
set_option maxRecDepth 20000 in
theorem gX8_bids_X8_highest : GoodIn wsX8_bids (wsV RX8 137 RX8 yX8_highest wsX8_highest) := goodIn_app (goodIn_of _ (by decide +kernel)) ggX8_bids_X8_highest
set_option maxRecDepth 20000 in
theorem ggX8_bids_X8_available : GoodIn wsX8_bids wsX8_available := goodIn_ca (goodIn_r _ [41, 1, 42, 43, 5, 44, 45, 46, 47, 48, 18, 19, 20, 21, 10, 11, 12, 13, 7, 8, 9, 22, 23, 24, 53, 54, 55, 56, 57, 58, 59, 60, 61, 62, 63, 64, 65, 66, 67, 68, 69, 70, 71, 72] (by decide +kernel) (by decide +kernel)) (goodIn_sub (fun _ h => List.mem_cons_of_mem _ (List.mem_append_right _ h)) (by decide +kernel))
set_option maxRecDepth 20000 in
theorem gX8_bids_X8_available : GoodIn wsX8_bids (wsV RX8 140 RX8 yX8_available wsX8_available) := goodIn_app (goodIn_of _ (by decide +kernel)) ggX8_bids_X8_available
set_option maxRecDepth 20000 in
theorem ggX8_bids_X8_reservedOn : GoodIn wsX8_bids wsX8_reservedOn := goodIn_ca (goodIn_r _ [48, 18, 19, 20, 5, 21, 1, 10, 11, 12, 13, 7, 8, 9, 22, 23, 24, 53, 54, 55, 56, 57, 58, 59, 60, 61, 62, 63, 64, 65, 66, 67, 68, 69, 70, 71, 72] (by decide +kernel) (by decide +kernel)) (goodIn_sub (fun _ h => List.mem_cons_of_mem _ (List.mem_append_right _ h)) (by decide +kernel))
set_option maxRecDepth 20000 in
theorem gX8_bids_X8_reservedOn : GoodIn wsX8_bids (wsV RX8 96 RX8 yX8_reservedOn wsX8_reservedOn) := goodIn_app (goodIn_of _ (by decide +kernel)) ggX8_bids_X8_reservedOn
set_option maxRecDepth 20000 in
theorem ggX8_bids_X8_siteAt : GoodIn wsX8_bids wsX8_siteAt := goodIn_r _ [24] (by decide +kernel) (by decide +kernel)
set_option maxRecDepth 20000 in
theorem gX8_bids_X8_siteAt : GoodIn wsX8_bids (va_wsS RX8 77 yX8_siteAt wsX8_siteAt) := goodIn_app (goodIn_of _ (by decide +kernel)) ggX8_bids_X8_siteAt
set_option maxRecDepth 20000 in
theorem ggX8_bids_X8_bidsOn : GoodIn wsX8_bids wsX8_bidsOn := goodIn_ca (goodIn_r _ [52, 18, 19, 20, 5, 21, 1, 10, 11, 12, 13, 7, 8, 9, 22, 23, 24, 53, 54, 55, 56, 57, 58, 59, 60, 61, 62, 63, 64, 65, 66, 67, 68, 69, 70, 71, 72] (by decide +kernel) (by decide +kernel)) (goodIn_sub (fun _ h => List.mem_cons_of_mem _ (List.mem_append_right _ h)) (by decide +kernel))
set_option maxRecDepth 20000 in
theorem gX8_bids_X8_bidsOn : GoodIn wsX8_bids (wsV RX8 143 RX8 yX8_bidsOn wsX8_bidsOn) := goodIn_app (goodIn_of _ (by decide +kernel)) ggX8_bids_X8_bidsOn
theorem dX8_bids_0 : decode cX8_bids 0 = .ok (.aload_n 0, 1) := by decide +kernel
theorem dX8_bids_1 : decode cX8_bids 1 = .ok (.aload_n 0, 1) := by decide +kernel
theorem dX8_bids_2 : decode cX8_bids 2 = .ok (.iload_n 1, 1) := by decide +kernel
theorem dX8_bids_3 : decode cX8_bids 3 = .ok (.invokevirtual 85, 3) := by decide +kernel
theorem dX8_bids_6 : decode cX8_bids 6 = .ok (.ifCond .eq 15, 3) := by decide +kernel
theorem dX8_bids_9 : decode cX8_bids 9 = .ok (.aload_n 0, 1) := by decide +kernel
theorem dX8_bids_10 : decode cX8_bids 10 = .ok (.iload_n 2, 1) := by decide +kernel
theorem dX8_bids_11 : decode cX8_bids 11 = .ok (.invokevirtual 73, 3) := by decide +kernel
theorem dX8_bids_14 : decode cX8_bids 14 = .ok (.ifCond .eq 7, 3) := by decide +kernel
theorem dX8_bids_17 : decode cX8_bids 17 = .ok (.iconst 1, 1) := by decide +kernel
theorem dX8_bids_18 : decode cX8_bids 18 = .ok (.goto 4, 3) := by decide +kernel
theorem dX8_bids_21 : decode cX8_bids 21 = .ok (.iconst 0, 1) := by decide +kernel
theorem dX8_bids_22 : decode cX8_bids 22 = .ok (.iload_n 3, 1) := by decide +kernel
theorem dX8_bids_23 : decode cX8_bids 23 = .ok (.iconst 1, 1) := by decide +kernel
theorem dX8_bids_24 : decode cX8_bids 24 = .ok (.bipush 99, 2) := by decide +kernel
theorem dX8_bids_26 : decode cX8_bids 26 = .ok (.invokestatic 69, 3) := by decide +kernel
theorem dX8_bids_29 : decode cX8_bids 29 = .ok (.aload_n 0, 1) := by decide +kernel
theorem dX8_bids_30 : decode cX8_bids 30 = .ok (.iload_n 2, 1) := by decide +kernel
theorem dX8_bids_31 : decode cX8_bids 31 = .ok (.invokevirtual 134, 3) := by decide +kernel
theorem dX8_bids_34 : decode cX8_bids 34 = .ok (.ifCond .ne 7, 3) := by decide +kernel
theorem dX8_bids_37 : decode cX8_bids 37 = .ok (.iconst 1, 1) := by decide +kernel
theorem dX8_bids_38 : decode cX8_bids 38 = .ok (.goto 4, 3) := by decide +kernel
theorem dX8_bids_41 : decode cX8_bids 41 = .ok (.iconst 0, 1) := by decide +kernel
theorem dX8_bids_42 : decode cX8_bids 42 = .ok (.iconst 1, 1) := by decide +kernel
theorem dX8_bids_43 : decode cX8_bids 43 = .ok (.invokevirtual 47, 3) := by decide +kernel
theorem dX8_bids_46 : decode cX8_bids 46 = .ok (.ifCond .ne 5, 3) := by decide +kernel
theorem dX8_bids_49 : decode cX8_bids 49 = .ok (.iconst 0, 1) := by decide +kernel
theorem dX8_bids_50 : decode cX8_bids 50 = .ok (.ireturn, 1) := by decide +kernel
theorem dX8_bids_51 : decode cX8_bids 51 = .ok (.iload_n 3, 1) := by decide +kernel
theorem dX8_bids_52 : decode cX8_bids 52 = .ok (.aload_n 0, 1) := by decide +kernel
theorem dX8_bids_53 : decode cX8_bids 53 = .ok (.iload_n 2, 1) := by decide +kernel
theorem dX8_bids_54 : decode cX8_bids 54 = .ok (.invokevirtual 137, 3) := by decide +kernel
theorem dX8_bids_57 : decode cX8_bids 57 = .ok (.if_icmp .le 28, 3) := by decide +kernel
theorem dX8_bids_60 : decode cX8_bids 60 = .ok (.iload 4, 2) := by decide +kernel
theorem dX8_bids_62 : decode cX8_bids 62 = .ok (.ifCond .ne 19, 3) := by decide +kernel
theorem dX8_bids_65 : decode cX8_bids 65 = .ok (.iload_n 3, 1) := by decide +kernel
theorem dX8_bids_66 : decode cX8_bids 66 = .ok (.aload_n 0, 1) := by decide +kernel
theorem dX8_bids_67 : decode cX8_bids 67 = .ok (.iload_n 1, 1) := by decide +kernel
theorem dX8_bids_68 : decode cX8_bids 68 = .ok (.invokevirtual 140, 3) := by decide +kernel
theorem dX8_bids_71 : decode cX8_bids 71 = .ok (.aload_n 0, 1) := by decide +kernel
theorem dX8_bids_72 : decode cX8_bids 72 = .ok (.iload_n 1, 1) := by decide +kernel
theorem dX8_bids_73 : decode cX8_bids 73 = .ok (.iload_n 2, 1) := by decide +kernel
theorem dX8_bids_74 : decode cX8_bids 74 = .ok (.invokevirtual 96, 3) := by decide +kernel
theorem dX8_bids_77 : decode cX8_bids 77 = .ok (.iadd, 1) := by decide +kernel
theorem dX8_bids_78 : decode cX8_bids 78 = .ok (.if_icmp .gt 7, 3) := by decide +kernel
theorem dX8_bids_81 : decode cX8_bids 81 = .ok (.iconst 1, 1) := by decide +kernel
theorem dX8_bids_82 : decode cX8_bids 82 = .ok (.goto 4, 3) := by decide +kernel
theorem dX8_bids_85 : decode cX8_bids 85 = .ok (.iconst 0, 1) := by decide +kernel
theorem dX8_bids_86 : decode cX8_bids 86 = .ok (.istore 5, 2) := by decide +kernel
theorem dX8_bids_88 : decode cX8_bids 88 = .ok (.aload_n 0, 1) := by decide +kernel
theorem dX8_bids_89 : decode cX8_bids 89 = .ok (.iconst 1, 1) := by decide +kernel
theorem dX8_bids_90 : decode cX8_bids 90 = .ok (.iconst 1, 1) := by decide +kernel
theorem dX8_bids_91 : decode cX8_bids 91 = .ok (.iconst 1, 1) := by decide +kernel
theorem dX8_bids_92 : decode cX8_bids 92 = .ok (.iload 5, 2) := by decide +kernel
theorem dX8_bids_94 : decode cX8_bids 94 = .ok (.invokevirtual 47, 3) := by decide +kernel
theorem dX8_bids_97 : decode cX8_bids 97 = .ok (.ifCond .ne 5, 3) := by decide +kernel
theorem dX8_bids_100 : decode cX8_bids 100 = .ok (.iconst 0, 1) := by decide +kernel
theorem dX8_bids_101 : decode cX8_bids 101 = .ok (.ireturn, 1) := by decide +kernel
theorem dX8_bids_102 : decode cX8_bids 102 = .ok (.aload_n 0, 1) := by decide +kernel
theorem dX8_bids_103 : decode cX8_bids 103 = .ok (.getfield 9, 3) := by decide +kernel
theorem dX8_bids_106 : decode cX8_bids 106 = .ok (.iload_n 2, 1) := by decide +kernel
theorem dX8_bids_107 : decode cX8_bids 107 = .ok (.invokestatic 77, 3) := by decide +kernel
theorem dX8_bids_110 : decode cX8_bids 110 = .ok (.iconst 5, 1) := by decide +kernel
theorem dX8_bids_111 : decode cX8_bids 111 = .ok (.iadd, 1) := by decide +kernel
theorem dX8_bids_112 : decode cX8_bids 112 = .ok (.iload_n 1, 1) := by decide +kernel
theorem dX8_bids_113 : decode cX8_bids 113 = .ok (.iadd, 1) := by decide +kernel
theorem dX8_bids_114 : decode cX8_bids 114 = .ok (.iload_n 3, 1) := by decide +kernel
theorem dX8_bids_115 : decode cX8_bids 115 = .ok (.iastore, 1) := by decide +kernel
theorem dX8_bids_116 : decode cX8_bids 116 = .ok (.aload_n 0, 1) := by decide +kernel
theorem dX8_bids_117 : decode cX8_bids 117 = .ok (.getfield 9, 3) := by decide +kernel
theorem dX8_bids_120 : decode cX8_bids 120 = .ok (.iload_n 2, 1) := by decide +kernel
theorem dX8_bids_121 : decode cX8_bids 121 = .ok (.invokestatic 77, 3) := by decide +kernel
theorem dX8_bids_124 : decode cX8_bids 124 = .ok (.bipush 9, 2) := by decide +kernel
theorem dX8_bids_126 : decode cX8_bids 126 = .ok (.iadd, 1) := by decide +kernel
theorem dX8_bids_127 : decode cX8_bids 127 = .ok (.iload_n 1, 1) := by decide +kernel
theorem dX8_bids_128 : decode cX8_bids 128 = .ok (.iadd, 1) := by decide +kernel
theorem dX8_bids_129 : decode cX8_bids 129 = .ok (.iload 4, 2) := by decide +kernel
theorem dX8_bids_131 : decode cX8_bids 131 = .ok (.ifCond .eq 7, 3) := by decide +kernel
theorem dX8_bids_134 : decode cX8_bids 134 = .ok (.iconst 1, 1) := by decide +kernel
theorem dX8_bids_135 : decode cX8_bids 135 = .ok (.goto 4, 3) := by decide +kernel
theorem dX8_bids_138 : decode cX8_bids 138 = .ok (.iconst 0, 1) := by decide +kernel
theorem dX8_bids_139 : decode cX8_bids 139 = .ok (.iastore, 1) := by decide +kernel
theorem dX8_bids_140 : decode cX8_bids 140 = .ok (.iload 4, 2) := by decide +kernel
theorem dX8_bids_142 : decode cX8_bids 142 = .ok (.ifCond .eq 11, 3) := by decide +kernel
theorem dX8_bids_145 : decode cX8_bids 145 = .ok (.aload_n 0, 1) := by decide +kernel
theorem dX8_bids_146 : decode cX8_bids 146 = .ok (.iload_n 2, 1) := by decide +kernel
theorem dX8_bids_147 : decode cX8_bids 147 = .ok (.invokevirtual 143, 3) := by decide +kernel
theorem dX8_bids_150 : decode cX8_bids 150 = .ok (.goto 8, 3) := by decide +kernel
theorem dX8_bids_153 : decode cX8_bids 153 = .ok (.aload_n 0, 1) := by decide +kernel
theorem dX8_bids_154 : decode cX8_bids 154 = .ok (.iload_n 1, 1) := by decide +kernel
theorem dX8_bids_155 : decode cX8_bids 155 = .ok (.invokevirtual 140, 3) := by decide +kernel
theorem dX8_bids_158 : decode cX8_bids 158 = .ok (.ireturn, 1) := by decide +kernel
set_option maxRecDepth 20000 in
theorem ggX8_placeBid_X8_begins : GoodIn wsX8_placeBid wsX8_begins := goodIn_ca (goodIn_r _ [5, 6, 7, 8, 9, 4, 10, 75, 76, 77, 78, 79, 80, 81, 82, 83, 84, 85, 86, 87, 88, 89, 90, 91, 92, 93, 94] (by decide +kernel) (by decide +kernel)) (goodIn_sub (fun _ h => List.mem_cons_of_mem _ (List.mem_append_right _ h)) (by decide +kernel))
set_option maxRecDepth 20000 in
theorem gX8_placeBid_X8_begins : GoodIn wsX8_placeBid (wsV RX8 105 RX8 yX8_begins wsX8_begins) := goodIn_app (goodIn_of _ (by decide +kernel)) ggX8_placeBid_X8_begins
set_option maxRecDepth 20000 in
theorem ggX8_placeBid_X8_bids : GoodIn wsX8_placeBid wsX8_bids := goodIn_ca (goodIn_r _ [14, 6, 15, 16, 17, 4, 18, 19, 20, 21, 22, 23, 24, 25, 26, 27, 28, 29, 30, 31, 32, 33, 34, 35, 36, 37, 38, 39, 40, 41, 42, 43, 44, 45, 46, 47, 48, 49, 50, 51, 52, 53, 54, 55, 56, 57, 58, 59, 60, 61, 62, 63, 64, 75, 76, 77, 78, 79, 80, 81, 82, 83, 84, 85, 86, 87, 88, 89, 90, 91, 92, 93, 94] (by decide +kernel) (by decide +kernel)) (goodIn_sub (fun _ h => List.mem_cons_of_mem _ (List.mem_append_right _ h)) (by decide +kernel))
set_option maxRecDepth 20000 in
theorem gX8_placeBid_X8_bids : GoodIn wsX8_placeBid (wsV RX8 146 RX8 yX8_bids wsX8_bids) := goodIn_app (goodIn_of _ (by decide +kernel)) ggX8_placeBid_X8_bids
set_option maxRecDepth 20000 in
theorem ggX8_placeBid_X8_ends : GoodIn wsX8_placeBid wsX8_ends := goodIn_ca (goodIn_r _ [68, 41, 7, 6, 8, 9, 4, 10, 69, 70, 71, 72, 73, 74, 75, 76, 77, 78, 79, 80, 81, 82, 83, 84, 85, 86, 87, 88, 89, 90, 91, 92, 93, 94] (by decide +kernel) (by decide +kernel)) (goodIn_sub (fun _ h => List.mem_cons_of_mem _ (List.mem_append_right _ h)) (by decide +kernel))
set_option maxRecDepth 20000 in
theorem gX8_placeBid_X8_ends : GoodIn wsX8_placeBid (wsV RX8 111 RX8 yX8_ends wsX8_ends) := goodIn_app (goodIn_of _ (by decide +kernel)) ggX8_placeBid_X8_ends
theorem dX8_placeBid_0 : decode cX8_placeBid 0 = .ok (.aload_n 0, 1) := by decide +kernel
theorem dX8_placeBid_1 : decode cX8_placeBid 1 = .ok (.invokevirtual 105, 3) := by decide +kernel
theorem dX8_placeBid_4 : decode cX8_placeBid 4 = .ok (.aload_n 0, 1) := by decide +kernel
theorem dX8_placeBid_5 : decode cX8_placeBid 5 = .ok (.aload_n 0, 1) := by decide +kernel
theorem dX8_placeBid_6 : decode cX8_placeBid 6 = .ok (.iload_n 1, 1) := by decide +kernel
theorem dX8_placeBid_7 : decode cX8_placeBid 7 = .ok (.iload_n 2, 1) := by decide +kernel
theorem dX8_placeBid_8 : decode cX8_placeBid 8 = .ok (.iload_n 3, 1) := by decide +kernel
theorem dX8_placeBid_9 : decode cX8_placeBid 9 = .ok (.iconst 0, 1) := by decide +kernel
theorem dX8_placeBid_10 : decode cX8_placeBid 10 = .ok (.invokevirtual 146, 3) := by decide +kernel
theorem dX8_placeBid_13 : decode cX8_placeBid 13 = .ok (.invokevirtual 111, 3) := by decide +kernel
theorem dX8_placeBid_16 : decode cX8_placeBid 16 = .ok (.ireturn, 1) := by decide +kernel
set_option maxRecDepth 20000 in
theorem ggX8_placeBluff_X8_begins : GoodIn wsX8_placeBluff wsX8_begins := goodIn_ca (goodIn_r _ [5, 6, 7, 8, 9, 4, 10, 75, 76, 77, 78, 79, 80, 81, 82, 83, 84, 85, 86, 87, 88, 89, 90, 91, 92, 93, 94] (by decide +kernel) (by decide +kernel)) (goodIn_sub (fun _ h => List.mem_cons_of_mem _ (List.mem_append_right _ h)) (by decide +kernel))
set_option maxRecDepth 20000 in
theorem gX8_placeBluff_X8_begins : GoodIn wsX8_placeBluff (wsV RX8 105 RX8 yX8_begins wsX8_begins) := goodIn_app (goodIn_of _ (by decide +kernel)) ggX8_placeBluff_X8_begins
set_option maxRecDepth 20000 in
theorem ggX8_placeBluff_X8_bids : GoodIn wsX8_placeBluff wsX8_bids := goodIn_ca (goodIn_r _ [14, 6, 15, 16, 17, 4, 18, 19, 20, 21, 22, 23, 24, 25, 26, 27, 28, 29, 30, 31, 32, 33, 34, 35, 36, 37, 38, 39, 40, 41, 42, 43, 44, 45, 46, 47, 48, 49, 50, 51, 52, 53, 54, 55, 56, 57, 58, 59, 60, 61, 62, 63, 64, 75, 76, 77, 78, 79, 80, 81, 82, 83, 84, 85, 86, 87, 88, 89, 90, 91, 92, 93, 94] (by decide +kernel) (by decide +kernel)) (goodIn_sub (fun _ h => List.mem_cons_of_mem _ (List.mem_append_right _ h)) (by decide +kernel))
set_option maxRecDepth 20000 in
theorem gX8_placeBluff_X8_bids : GoodIn wsX8_placeBluff (wsV RX8 146 RX8 yX8_bids wsX8_bids) := goodIn_app (goodIn_of _ (by decide +kernel)) ggX8_placeBluff_X8_bids
set_option maxRecDepth 20000 in
theorem ggX8_placeBluff_X8_ends : GoodIn wsX8_placeBluff wsX8_ends := goodIn_ca (goodIn_r _ [68, 41, 7, 6, 8, 9, 4, 10, 69, 70, 71, 72, 73, 74, 75, 76, 77, 78, 79, 80, 81, 82, 83, 84, 85, 86, 87, 88, 89, 90, 91, 92, 93, 94] (by decide +kernel) (by decide +kernel)) (goodIn_sub (fun _ h => List.mem_cons_of_mem _ (List.mem_append_right _ h)) (by decide +kernel))
set_option maxRecDepth 20000 in
theorem gX8_placeBluff_X8_ends : GoodIn wsX8_placeBluff (wsV RX8 111 RX8 yX8_ends wsX8_ends) := goodIn_app (goodIn_of _ (by decide +kernel)) ggX8_placeBluff_X8_ends
theorem dX8_placeBluff_0 : decode cX8_placeBluff 0 = .ok (.aload_n 0, 1) := by decide +kernel
theorem dX8_placeBluff_1 : decode cX8_placeBluff 1 = .ok (.invokevirtual 105, 3) := by decide +kernel
theorem dX8_placeBluff_4 : decode cX8_placeBluff 4 = .ok (.aload_n 0, 1) := by decide +kernel
theorem dX8_placeBluff_5 : decode cX8_placeBluff 5 = .ok (.aload_n 0, 1) := by decide +kernel
theorem dX8_placeBluff_6 : decode cX8_placeBluff 6 = .ok (.iload_n 1, 1) := by decide +kernel
theorem dX8_placeBluff_7 : decode cX8_placeBluff 7 = .ok (.iload_n 2, 1) := by decide +kernel
theorem dX8_placeBluff_8 : decode cX8_placeBluff 8 = .ok (.iload_n 3, 1) := by decide +kernel
theorem dX8_placeBluff_9 : decode cX8_placeBluff 9 = .ok (.iconst 1, 1) := by decide +kernel
theorem dX8_placeBluff_10 : decode cX8_placeBluff 10 = .ok (.invokevirtual 146, 3) := by decide +kernel
theorem dX8_placeBluff_13 : decode cX8_placeBluff 13 = .ok (.invokevirtual 111, 3) := by decide +kernel
theorem dX8_placeBluff_16 : decode cX8_placeBluff 16 = .ok (.ireturn, 1) := by decide +kernel
set_option maxRecDepth 20000 in
theorem ggX8_drops_X8_amountOf : GoodIn wsX8_drops wsX8_amountOf := goodIn_ca (goodIn_r _ [6, 7, 8, 9, 5, 10, 1, 11, 12, 13, 14, 15, 16, 17, 18, 19, 20, 21, 22, 23, 24, 30, 31, 32, 33, 34, 35, 36, 37, 38, 39, 40, 41, 42, 43, 44, 45, 46, 47, 48, 49] (by decide +kernel) (by decide +kernel)) (goodIn_sub (fun _ h => List.mem_cons_of_mem _ (List.mem_append_right _ h)) (by decide +kernel))
set_option maxRecDepth 20000 in
theorem gX8_drops_X8_amountOf : GoodIn wsX8_drops (wsV RX8 150 RX8 yX8_amountOf wsX8_amountOf) := goodIn_app (goodIn_of _ (by decide +kernel)) ggX8_drops_X8_amountOf
set_option maxRecDepth 20000 in
theorem ggX8_drops_X8_isPlayer : GoodIn wsX8_drops wsX8_isPlayer := goodIn_ca (goodIn_r _ [10, 1, 11, 12, 5, 13, 30, 31, 32, 33, 34, 35, 36, 37, 38, 39, 40, 41, 42, 43, 44, 45, 46, 47, 48, 49] (by decide +kernel) (by decide +kernel)) (goodIn_sub (fun _ h => List.mem_cons_of_mem _ (List.mem_append_right _ h)) (by decide +kernel))
set_option maxRecDepth 20000 in
theorem gX8_drops_X8_isPlayer : GoodIn wsX8_drops (wsV RX8 85 RX8 yX8_isPlayer wsX8_isPlayer) := goodIn_app (goodIn_of _ (by decide +kernel)) ggX8_drops_X8_isPlayer
set_option maxRecDepth 20000 in
theorem ggX8_drops_X8_isSite : GoodIn wsX8_drops wsX8_isSite := goodIn_ca (goodIn_r _ [17, 1, 11, 12, 5, 13, 30, 31, 32, 33, 34, 35, 36, 37, 38, 39, 40, 41, 42, 43, 44, 45, 46, 47, 48, 49] (by decide +kernel) (by decide +kernel)) (goodIn_sub (fun _ h => List.mem_cons_of_mem _ (List.mem_append_right _ h)) (by decide +kernel))
set_option maxRecDepth 20000 in
theorem gX8_drops_X8_isSite : GoodIn wsX8_drops (wsV RX8 73 RX8 yX8_isSite wsX8_isSite) := goodIn_app (goodIn_of _ (by decide +kernel)) ggX8_drops_X8_isSite
set_option maxRecDepth 20000 in
theorem ggX8_drops_X8_of : GoodIn wsX8_drops wsX8_of := goodIn_ca (goodIn_r _ [21, 1, 14, 15, 16, 5, 17, 11, 12, 13, 22, 23, 24, 30, 31, 32, 33, 34, 35, 36, 37, 38, 39, 40, 41, 42, 43, 44, 45, 46, 47, 48, 49] (by decide +kernel) (by decide +kernel)) (goodIn_sub (fun _ h => List.mem_cons_of_mem _ (List.mem_append_right _ h)) (by decide +kernel))
set_option maxRecDepth 20000 in
theorem gX8_drops_X8_of : GoodIn wsX8_drops (wsV RX8 81 RX8 yX8_of wsX8_of) := goodIn_app (goodIn_of _ (by decide +kernel)) ggX8_drops_X8_of
set_option maxRecDepth 20000 in
theorem ggX8_drops_X8_holds : GoodIn wsX8_drops wsX8_holds := goodIn_r _ [28, 29, 30, 31, 32, 33, 34, 35, 36, 37, 38, 39, 40, 41, 42, 43, 44, 45, 46, 47, 48, 49] (by decide +kernel) (by decide +kernel)
set_option maxRecDepth 20000 in
theorem gX8_drops_X8_holds : GoodIn wsX8_drops (wsV RX8 47 RX8 yX8_holds wsX8_holds) := goodIn_app (goodIn_of _ (by decide +kernel)) ggX8_drops_X8_holds
set_option maxRecDepth 20000 in
theorem ggX8_drops_X8_siteAt : GoodIn wsX8_drops wsX8_siteAt := goodIn_r _ [24] (by decide +kernel) (by decide +kernel)
set_option maxRecDepth 20000 in
theorem gX8_drops_X8_siteAt : GoodIn wsX8_drops (va_wsS RX8 77 yX8_siteAt wsX8_siteAt) := goodIn_app (goodIn_of _ (by decide +kernel)) ggX8_drops_X8_siteAt
theorem dX8_drops_0 : decode cX8_drops 0 = .ok (.aload_n 0, 1) := by decide +kernel
theorem dX8_drops_1 : decode cX8_drops 1 = .ok (.iload_n 1, 1) := by decide +kernel
theorem dX8_drops_2 : decode cX8_drops 2 = .ok (.iload_n 2, 1) := by decide +kernel
theorem dX8_drops_3 : decode cX8_drops 3 = .ok (.invokevirtual 150, 3) := by decide +kernel
theorem dX8_drops_6 : decode cX8_drops 6 = .ok (.istore_n 3, 1) := by decide +kernel
theorem dX8_drops_7 : decode cX8_drops 7 = .ok (.aload_n 0, 1) := by decide +kernel
theorem dX8_drops_8 : decode cX8_drops 8 = .ok (.aload_n 0, 1) := by decide +kernel
theorem dX8_drops_9 : decode cX8_drops 9 = .ok (.iload_n 1, 1) := by decide +kernel
theorem dX8_drops_10 : decode cX8_drops 10 = .ok (.invokevirtual 85, 3) := by decide +kernel
theorem dX8_drops_13 : decode cX8_drops 13 = .ok (.ifCond .eq 15, 3) := by decide +kernel
theorem dX8_drops_16 : decode cX8_drops 16 = .ok (.aload_n 0, 1) := by decide +kernel
theorem dX8_drops_17 : decode cX8_drops 17 = .ok (.iload_n 2, 1) := by decide +kernel
theorem dX8_drops_18 : decode cX8_drops 18 = .ok (.invokevirtual 73, 3) := by decide +kernel
theorem dX8_drops_21 : decode cX8_drops 21 = .ok (.ifCond .eq 7, 3) := by decide +kernel
theorem dX8_drops_24 : decode cX8_drops 24 = .ok (.iconst 1, 1) := by decide +kernel
theorem dX8_drops_25 : decode cX8_drops 25 = .ok (.goto 4, 3) := by decide +kernel
theorem dX8_drops_28 : decode cX8_drops 28 = .ok (.iconst 0, 1) := by decide +kernel
theorem dX8_drops_29 : decode cX8_drops 29 = .ok (.iload_n 3, 1) := by decide +kernel
theorem dX8_drops_30 : decode cX8_drops 30 = .ok (.ifCond .le 7, 3) := by decide +kernel
theorem dX8_drops_33 : decode cX8_drops 33 = .ok (.iconst 1, 1) := by decide +kernel
theorem dX8_drops_34 : decode cX8_drops 34 = .ok (.goto 4, 3) := by decide +kernel
theorem dX8_drops_37 : decode cX8_drops 37 = .ok (.iconst 0, 1) := by decide +kernel
theorem dX8_drops_38 : decode cX8_drops 38 = .ok (.aload_n 0, 1) := by decide +kernel
theorem dX8_drops_39 : decode cX8_drops 39 = .ok (.iload_n 2, 1) := by decide +kernel
theorem dX8_drops_40 : decode cX8_drops 40 = .ok (.iconst 4, 1) := by decide +kernel
theorem dX8_drops_41 : decode cX8_drops 41 = .ok (.invokevirtual 81, 3) := by decide +kernel
theorem dX8_drops_44 : decode cX8_drops 44 = .ok (.iload_n 1, 1) := by decide +kernel
theorem dX8_drops_45 : decode cX8_drops 45 = .ok (.if_icmp .eq 7, 3) := by decide +kernel
theorem dX8_drops_48 : decode cX8_drops 48 = .ok (.iconst 1, 1) := by decide +kernel
theorem dX8_drops_49 : decode cX8_drops 49 = .ok (.goto 4, 3) := by decide +kernel
theorem dX8_drops_52 : decode cX8_drops 52 = .ok (.iconst 0, 1) := by decide +kernel
theorem dX8_drops_53 : decode cX8_drops 53 = .ok (.iconst 1, 1) := by decide +kernel
theorem dX8_drops_54 : decode cX8_drops 54 = .ok (.invokevirtual 47, 3) := by decide +kernel
theorem dX8_drops_57 : decode cX8_drops 57 = .ok (.ifCond .ne 5, 3) := by decide +kernel
theorem dX8_drops_60 : decode cX8_drops 60 = .ok (.iconst 0, 1) := by decide +kernel
theorem dX8_drops_61 : decode cX8_drops 61 = .ok (.ireturn, 1) := by decide +kernel
theorem dX8_drops_62 : decode cX8_drops 62 = .ok (.aload_n 0, 1) := by decide +kernel
theorem dX8_drops_63 : decode cX8_drops 63 = .ok (.getfield 9, 3) := by decide +kernel
theorem dX8_drops_66 : decode cX8_drops 66 = .ok (.iload_n 2, 1) := by decide +kernel
theorem dX8_drops_67 : decode cX8_drops 67 = .ok (.invokestatic 77, 3) := by decide +kernel
theorem dX8_drops_70 : decode cX8_drops 70 = .ok (.iconst 5, 1) := by decide +kernel
theorem dX8_drops_71 : decode cX8_drops 71 = .ok (.iadd, 1) := by decide +kernel
theorem dX8_drops_72 : decode cX8_drops 72 = .ok (.iload_n 1, 1) := by decide +kernel
theorem dX8_drops_73 : decode cX8_drops 73 = .ok (.iadd, 1) := by decide +kernel
theorem dX8_drops_74 : decode cX8_drops 74 = .ok (.iconst 0, 1) := by decide +kernel
theorem dX8_drops_75 : decode cX8_drops 75 = .ok (.iastore, 1) := by decide +kernel
theorem dX8_drops_76 : decode cX8_drops 76 = .ok (.aload_n 0, 1) := by decide +kernel
theorem dX8_drops_77 : decode cX8_drops 77 = .ok (.getfield 9, 3) := by decide +kernel
theorem dX8_drops_80 : decode cX8_drops 80 = .ok (.iload_n 2, 1) := by decide +kernel
theorem dX8_drops_81 : decode cX8_drops 81 = .ok (.invokestatic 77, 3) := by decide +kernel
theorem dX8_drops_84 : decode cX8_drops 84 = .ok (.bipush 9, 2) := by decide +kernel
theorem dX8_drops_86 : decode cX8_drops 86 = .ok (.iadd, 1) := by decide +kernel
theorem dX8_drops_87 : decode cX8_drops 87 = .ok (.iload_n 1, 1) := by decide +kernel
theorem dX8_drops_88 : decode cX8_drops 88 = .ok (.iadd, 1) := by decide +kernel
theorem dX8_drops_89 : decode cX8_drops 89 = .ok (.iconst 0, 1) := by decide +kernel
theorem dX8_drops_90 : decode cX8_drops 90 = .ok (.iastore, 1) := by decide +kernel
theorem dX8_drops_91 : decode cX8_drops 91 = .ok (.iload_n 3, 1) := by decide +kernel
theorem dX8_drops_92 : decode cX8_drops 92 = .ok (.ireturn, 1) := by decide +kernel
set_option maxRecDepth 20000 in
theorem ggX8_withdrawBid_X8_begins : GoodIn wsX8_withdrawBid wsX8_begins := goodIn_ca (goodIn_r _ [5, 6, 7, 8, 9, 4, 10, 52, 53, 54, 55, 56, 57, 58, 59, 60, 61, 62, 63, 64, 65, 66, 67, 68, 69, 70, 71] (by decide +kernel) (by decide +kernel)) (goodIn_sub (fun _ h => List.mem_cons_of_mem _ (List.mem_append_right _ h)) (by decide +kernel))
set_option maxRecDepth 20000 in
theorem gX8_withdrawBid_X8_begins : GoodIn wsX8_withdrawBid (wsV RX8 105 RX8 yX8_begins wsX8_begins) := goodIn_app (goodIn_of _ (by decide +kernel)) ggX8_withdrawBid_X8_begins
set_option maxRecDepth 20000 in
theorem ggX8_withdrawBid_X8_drops : GoodIn wsX8_withdrawBid wsX8_drops := goodIn_ca (goodIn_r _ [14, 6, 15, 16, 17, 4, 18, 19, 20, 21, 22, 23, 24, 25, 26, 27, 28, 29, 30, 31, 32, 33, 34, 35, 36, 37, 38, 39, 40, 41, 52, 53, 54, 55, 56, 57, 58, 59, 60, 61, 62, 63, 64, 65, 66, 67, 68, 69, 70, 71] (by decide +kernel) (by decide +kernel)) (goodIn_sub (fun _ h => List.mem_cons_of_mem _ (List.mem_append_right _ h)) (by decide +kernel))
set_option maxRecDepth 20000 in
theorem gX8_withdrawBid_X8_drops : GoodIn wsX8_withdrawBid (wsV RX8 153 RX8 yX8_drops wsX8_drops) := goodIn_app (goodIn_of _ (by decide +kernel)) ggX8_withdrawBid_X8_drops
set_option maxRecDepth 20000 in
theorem ggX8_withdrawBid_X8_ends : GoodIn wsX8_withdrawBid wsX8_ends := goodIn_ca (goodIn_r _ [45, 41, 7, 6, 8, 9, 4, 10, 46, 47, 48, 49, 50, 51, 52, 53, 54, 55, 56, 57, 58, 59, 60, 61, 62, 63, 64, 65, 66, 67, 68, 69, 70, 71] (by decide +kernel) (by decide +kernel)) (goodIn_sub (fun _ h => List.mem_cons_of_mem _ (List.mem_append_right _ h)) (by decide +kernel))
set_option maxRecDepth 20000 in
theorem gX8_withdrawBid_X8_ends : GoodIn wsX8_withdrawBid (wsV RX8 111 RX8 yX8_ends wsX8_ends) := goodIn_app (goodIn_of _ (by decide +kernel)) ggX8_withdrawBid_X8_ends
theorem dX8_withdrawBid_0 : decode cX8_withdrawBid 0 = .ok (.aload_n 0, 1) := by decide +kernel
theorem dX8_withdrawBid_1 : decode cX8_withdrawBid 1 = .ok (.invokevirtual 105, 3) := by decide +kernel
theorem dX8_withdrawBid_4 : decode cX8_withdrawBid 4 = .ok (.aload_n 0, 1) := by decide +kernel
theorem dX8_withdrawBid_5 : decode cX8_withdrawBid 5 = .ok (.aload_n 0, 1) := by decide +kernel
theorem dX8_withdrawBid_6 : decode cX8_withdrawBid 6 = .ok (.iload_n 1, 1) := by decide +kernel
theorem dX8_withdrawBid_7 : decode cX8_withdrawBid 7 = .ok (.iload_n 2, 1) := by decide +kernel
theorem dX8_withdrawBid_8 : decode cX8_withdrawBid 8 = .ok (.invokevirtual 153, 3) := by decide +kernel
theorem dX8_withdrawBid_11 : decode cX8_withdrawBid 11 = .ok (.invokevirtual 111, 3) := by decide +kernel
theorem dX8_withdrawBid_14 : decode cX8_withdrawBid 14 = .ok (.ireturn, 1) := by decide +kernel
set_option maxRecDepth 20000 in
theorem ggX8_ferries_X8_amountOf : GoodIn wsX8_ferries wsX8_amountOf := goodIn_ca (goodIn_r _ [6, 7, 8, 9, 5, 10, 1, 11, 12, 13, 14, 15, 16, 17, 18, 19, 20, 21, 22, 23, 24, 33, 34, 35, 36, 37, 38, 39, 40, 41, 42, 43, 44, 45, 46, 47, 48, 49, 50, 51, 52] (by decide +kernel) (by decide +kernel)) (goodIn_sub (fun _ h => List.mem_cons_of_mem _ (List.mem_append_right _ h)) (by decide +kernel))
set_option maxRecDepth 20000 in
theorem gX8_ferries_X8_amountOf : GoodIn wsX8_ferries (wsV RX8 150 RX8 yX8_amountOf wsX8_amountOf) := goodIn_app (goodIn_of _ (by decide +kernel)) ggX8_ferries_X8_amountOf
set_option maxRecDepth 20000 in
theorem ggX8_ferries_X8_isPlayer : GoodIn wsX8_ferries wsX8_isPlayer := goodIn_ca (goodIn_r _ [10, 1, 11, 12, 5, 13, 33, 34, 35, 36, 37, 38, 39, 40, 41, 42, 43, 44, 45, 46, 47, 48, 49, 50, 51, 52] (by decide +kernel) (by decide +kernel)) (goodIn_sub (fun _ h => List.mem_cons_of_mem _ (List.mem_append_right _ h)) (by decide +kernel))
set_option maxRecDepth 20000 in
theorem gX8_ferries_X8_isPlayer : GoodIn wsX8_ferries (wsV RX8 85 RX8 yX8_isPlayer wsX8_isPlayer) := goodIn_app (goodIn_of _ (by decide +kernel)) ggX8_ferries_X8_isPlayer
set_option maxRecDepth 20000 in
theorem ggX8_ferries_X8_isSite : GoodIn wsX8_ferries wsX8_isSite := goodIn_ca (goodIn_r _ [17, 1, 11, 12, 5, 13, 33, 34, 35, 36, 37, 38, 39, 40, 41, 42, 43, 44, 45, 46, 47, 48, 49, 50, 51, 52] (by decide +kernel) (by decide +kernel)) (goodIn_sub (fun _ h => List.mem_cons_of_mem _ (List.mem_append_right _ h)) (by decide +kernel))
set_option maxRecDepth 20000 in
theorem gX8_ferries_X8_isSite : GoodIn wsX8_ferries (wsV RX8 73 RX8 yX8_isSite wsX8_isSite) := goodIn_app (goodIn_of _ (by decide +kernel)) ggX8_ferries_X8_isSite
set_option maxRecDepth 20000 in
theorem ggX8_ferries_X8_playerAt : GoodIn wsX8_ferries wsX8_playerAt := goodIn_r _ [27] (by decide +kernel) (by decide +kernel)
set_option maxRecDepth 20000 in
theorem gX8_ferries_X8_playerAt : GoodIn wsX8_ferries (va_wsS RX8 93 yX8_playerAt wsX8_playerAt) := goodIn_app (goodIn_of _ (by decide +kernel)) ggX8_ferries_X8_playerAt
set_option maxRecDepth 20000 in
theorem ggX8_ferries_X8_of : GoodIn wsX8_ferries wsX8_of := goodIn_ca (goodIn_r _ [21, 1, 14, 15, 16, 5, 17, 11, 12, 13, 22, 23, 24, 33, 34, 35, 36, 37, 38, 39, 40, 41, 42, 43, 44, 45, 46, 47, 48, 49, 50, 51, 52] (by decide +kernel) (by decide +kernel)) (goodIn_sub (fun _ h => List.mem_cons_of_mem _ (List.mem_append_right _ h)) (by decide +kernel))
set_option maxRecDepth 20000 in
theorem gX8_ferries_X8_of : GoodIn wsX8_ferries (wsV RX8 81 RX8 yX8_of wsX8_of) := goodIn_app (goodIn_of _ (by decide +kernel)) ggX8_ferries_X8_of
set_option maxRecDepth 20000 in
theorem ggX8_ferries_X8_holds : GoodIn wsX8_ferries wsX8_holds := goodIn_r _ [31, 32, 33, 34, 35, 36, 37, 38, 39, 40, 41, 42, 43, 44, 45, 46, 47, 48, 49, 50, 51, 52] (by decide +kernel) (by decide +kernel)
set_option maxRecDepth 20000 in
theorem gX8_ferries_X8_holds : GoodIn wsX8_ferries (wsV RX8 47 RX8 yX8_holds wsX8_holds) := goodIn_app (goodIn_of _ (by decide +kernel)) ggX8_ferries_X8_holds
set_option maxRecDepth 20000 in
theorem ggX8_ferries_X8_siteAt : GoodIn wsX8_ferries wsX8_siteAt := goodIn_r _ [24] (by decide +kernel) (by decide +kernel)
set_option maxRecDepth 20000 in
theorem gX8_ferries_X8_siteAt : GoodIn wsX8_ferries (va_wsS RX8 77 yX8_siteAt wsX8_siteAt) := goodIn_app (goodIn_of _ (by decide +kernel)) ggX8_ferries_X8_siteAt
theorem dX8_ferries_0 : decode cX8_ferries 0 = .ok (.aload_n 0, 1) := by decide +kernel
theorem dX8_ferries_1 : decode cX8_ferries 1 = .ok (.iload_n 1, 1) := by decide +kernel
theorem dX8_ferries_2 : decode cX8_ferries 2 = .ok (.iload_n 2, 1) := by decide +kernel
theorem dX8_ferries_3 : decode cX8_ferries 3 = .ok (.invokevirtual 150, 3) := by decide +kernel
theorem dX8_ferries_6 : decode cX8_ferries 6 = .ok (.istore_n 3, 1) := by decide +kernel
theorem dX8_ferries_7 : decode cX8_ferries 7 = .ok (.aload_n 0, 1) := by decide +kernel
theorem dX8_ferries_8 : decode cX8_ferries 8 = .ok (.iload_n 1, 1) := by decide +kernel
theorem dX8_ferries_9 : decode cX8_ferries 9 = .ok (.invokevirtual 85, 3) := by decide +kernel
theorem dX8_ferries_12 : decode cX8_ferries 12 = .ok (.ifCond .eq 15, 3) := by decide +kernel
theorem dX8_ferries_15 : decode cX8_ferries 15 = .ok (.aload_n 0, 1) := by decide +kernel
theorem dX8_ferries_16 : decode cX8_ferries 16 = .ok (.iload_n 2, 1) := by decide +kernel
theorem dX8_ferries_17 : decode cX8_ferries 17 = .ok (.invokevirtual 73, 3) := by decide +kernel
theorem dX8_ferries_20 : decode cX8_ferries 20 = .ok (.ifCond .eq 7, 3) := by decide +kernel
theorem dX8_ferries_23 : decode cX8_ferries 23 = .ok (.iconst 1, 1) := by decide +kernel
theorem dX8_ferries_24 : decode cX8_ferries 24 = .ok (.goto 4, 3) := by decide +kernel
theorem dX8_ferries_27 : decode cX8_ferries 27 = .ok (.iconst 0, 1) := by decide +kernel
theorem dX8_ferries_28 : decode cX8_ferries 28 = .ok (.istore 4, 2) := by decide +kernel
theorem dX8_ferries_30 : decode cX8_ferries 30 = .ok (.iload 4, 2) := by decide +kernel
theorem dX8_ferries_32 : decode cX8_ferries 32 = .ok (.ifCond .eq 31, 3) := by decide +kernel
theorem dX8_ferries_35 : decode cX8_ferries 35 = .ok (.aload_n 0, 1) := by decide +kernel
theorem dX8_ferries_36 : decode cX8_ferries 36 = .ok (.getfield 9, 3) := by decide +kernel
theorem dX8_ferries_39 : decode cX8_ferries 39 = .ok (.iload_n 1, 1) := by decide +kernel
theorem dX8_ferries_40 : decode cX8_ferries 40 = .ok (.invokestatic 93, 3) := by decide +kernel
theorem dX8_ferries_43 : decode cX8_ferries 43 = .ok (.iconst 1, 1) := by decide +kernel
theorem dX8_ferries_44 : decode cX8_ferries 44 = .ok (.iadd, 1) := by decide +kernel
theorem dX8_ferries_45 : decode cX8_ferries 45 = .ok (.iaload, 1) := by decide +kernel
theorem dX8_ferries_46 : decode cX8_ferries 46 = .ok (.ifCond .ne 17, 3) := by decide +kernel
theorem dX8_ferries_49 : decode cX8_ferries 49 = .ok (.aload_n 0, 1) := by decide +kernel
theorem dX8_ferries_50 : decode cX8_ferries 50 = .ok (.iload_n 2, 1) := by decide +kernel
theorem dX8_ferries_51 : decode cX8_ferries 51 = .ok (.iconst 4, 1) := by decide +kernel
theorem dX8_ferries_52 : decode cX8_ferries 52 = .ok (.invokevirtual 81, 3) := by decide +kernel
theorem dX8_ferries_55 : decode cX8_ferries 55 = .ok (.iconst (-1), 1) := by decide +kernel
theorem dX8_ferries_56 : decode cX8_ferries 56 = .ok (.if_icmp .ne 7, 3) := by decide +kernel
theorem dX8_ferries_59 : decode cX8_ferries 59 = .ok (.iconst 1, 1) := by decide +kernel
theorem dX8_ferries_60 : decode cX8_ferries 60 = .ok (.goto 4, 3) := by decide +kernel
theorem dX8_ferries_63 : decode cX8_ferries 63 = .ok (.iconst 0, 1) := by decide +kernel
theorem dX8_ferries_64 : decode cX8_ferries 64 = .ok (.istore 5, 2) := by decide +kernel
theorem dX8_ferries_66 : decode cX8_ferries 66 = .ok (.iload 4, 2) := by decide +kernel
theorem dX8_ferries_68 : decode cX8_ferries 68 = .ok (.ifCond .eq 43, 3) := by decide +kernel
theorem dX8_ferries_71 : decode cX8_ferries 71 = .ok (.aload_n 0, 1) := by decide +kernel
theorem dX8_ferries_72 : decode cX8_ferries 72 = .ok (.getfield 9, 3) := by decide +kernel
theorem dX8_ferries_75 : decode cX8_ferries 75 = .ok (.bipush 6, 2) := by decide +kernel
theorem dX8_ferries_77 : decode cX8_ferries 77 = .ok (.aload_n 0, 1) := by decide +kernel
theorem dX8_ferries_78 : decode cX8_ferries 78 = .ok (.iload_n 2, 1) := by decide +kernel
theorem dX8_ferries_79 : decode cX8_ferries 79 = .ok (.iconst 0, 1) := by decide +kernel
theorem dX8_ferries_80 : decode cX8_ferries 80 = .ok (.invokevirtual 81, 3) := by decide +kernel
theorem dX8_ferries_83 : decode cX8_ferries 83 = .ok (.iadd, 1) := by decide +kernel
theorem dX8_ferries_84 : decode cX8_ferries 84 = .ok (.iaload, 1) := by decide +kernel
theorem dX8_ferries_85 : decode cX8_ferries 85 = .ok (.iload_n 1, 1) := by decide +kernel
theorem dX8_ferries_86 : decode cX8_ferries 86 = .ok (.if_icmp .eq 21, 3) := by decide +kernel
theorem dX8_ferries_89 : decode cX8_ferries 89 = .ok (.aload_n 0, 1) := by decide +kernel
theorem dX8_ferries_90 : decode cX8_ferries 90 = .ok (.getfield 9, 3) := by decide +kernel
theorem dX8_ferries_93 : decode cX8_ferries 93 = .ok (.bipush 6, 2) := by decide +kernel
theorem dX8_ferries_95 : decode cX8_ferries 95 = .ok (.aload_n 0, 1) := by decide +kernel
theorem dX8_ferries_96 : decode cX8_ferries 96 = .ok (.iload_n 2, 1) := by decide +kernel
theorem dX8_ferries_97 : decode cX8_ferries 97 = .ok (.iconst 1, 1) := by decide +kernel
theorem dX8_ferries_98 : decode cX8_ferries 98 = .ok (.invokevirtual 81, 3) := by decide +kernel
theorem dX8_ferries_101 : decode cX8_ferries 101 = .ok (.iadd, 1) := by decide +kernel
theorem dX8_ferries_102 : decode cX8_ferries 102 = .ok (.iaload, 1) := by decide +kernel
theorem dX8_ferries_103 : decode cX8_ferries 103 = .ok (.iload_n 1, 1) := by decide +kernel
theorem dX8_ferries_104 : decode cX8_ferries 104 = .ok (.if_icmp .ne 7, 3) := by decide +kernel
theorem dX8_ferries_107 : decode cX8_ferries 107 = .ok (.iconst 1, 1) := by decide +kernel
theorem dX8_ferries_108 : decode cX8_ferries 108 = .ok (.goto 4, 3) := by decide +kernel
theorem dX8_ferries_111 : decode cX8_ferries 111 = .ok (.iconst 0, 1) := by decide +kernel
theorem dX8_ferries_112 : decode cX8_ferries 112 = .ok (.istore 6, 2) := by decide +kernel
theorem dX8_ferries_114 : decode cX8_ferries 114 = .ok (.aload_n 0, 1) := by decide +kernel
theorem dX8_ferries_115 : decode cX8_ferries 115 = .ok (.iload 4, 2) := by decide +kernel
theorem dX8_ferries_117 : decode cX8_ferries 117 = .ok (.iload_n 3, 1) := by decide +kernel
theorem dX8_ferries_118 : decode cX8_ferries 118 = .ok (.ifCond .le 7, 3) := by decide +kernel
theorem dX8_ferries_121 : decode cX8_ferries 121 = .ok (.iconst 1, 1) := by decide +kernel
theorem dX8_ferries_122 : decode cX8_ferries 122 = .ok (.goto 4, 3) := by decide +kernel
theorem dX8_ferries_125 : decode cX8_ferries 125 = .ok (.iconst 0, 1) := by decide +kernel
theorem dX8_ferries_126 : decode cX8_ferries 126 = .ok (.iload 5, 2) := by decide +kernel
theorem dX8_ferries_128 : decode cX8_ferries 128 = .ok (.iload 6, 2) := by decide +kernel
theorem dX8_ferries_130 : decode cX8_ferries 130 = .ok (.invokevirtual 47, 3) := by decide +kernel
theorem dX8_ferries_133 : decode cX8_ferries 133 = .ok (.ifCond .ne 5, 3) := by decide +kernel
theorem dX8_ferries_136 : decode cX8_ferries 136 = .ok (.iconst 0, 1) := by decide +kernel
theorem dX8_ferries_137 : decode cX8_ferries 137 = .ok (.ireturn, 1) := by decide +kernel
theorem dX8_ferries_138 : decode cX8_ferries 138 = .ok (.iconst 0, 1) := by decide +kernel
theorem dX8_ferries_139 : decode cX8_ferries 139 = .ok (.istore 7, 2) := by decide +kernel
theorem dX8_ferries_141 : decode cX8_ferries 141 = .ok (.iconst 0, 1) := by decide +kernel
theorem dX8_ferries_142 : decode cX8_ferries 142 = .ok (.istore 8, 2) := by decide +kernel
theorem dX8_ferries_144 : decode cX8_ferries 144 = .ok (.iload 8, 2) := by decide +kernel
theorem dX8_ferries_146 : decode cX8_ferries 146 = .ok (.iconst 4, 1) := by decide +kernel
theorem dX8_ferries_147 : decode cX8_ferries 147 = .ok (.if_icmp .ge 32, 3) := by decide +kernel
theorem dX8_ferries_150 : decode cX8_ferries 150 = .ok (.iload 7, 2) := by decide +kernel
theorem dX8_ferries_152 : decode cX8_ferries 152 = .ok (.aload_n 0, 1) := by decide +kernel
theorem dX8_ferries_153 : decode cX8_ferries 153 = .ok (.iload_n 2, 1) := by decide +kernel
theorem dX8_ferries_154 : decode cX8_ferries 154 = .ok (.iconst 5, 1) := by decide +kernel
theorem dX8_ferries_155 : decode cX8_ferries 155 = .ok (.iload 8, 2) := by decide +kernel
theorem dX8_ferries_157 : decode cX8_ferries 157 = .ok (.iadd, 1) := by decide +kernel
theorem dX8_ferries_158 : decode cX8_ferries 158 = .ok (.invokevirtual 81, 3) := by decide +kernel
theorem dX8_ferries_161 : decode cX8_ferries 161 = .ok (.iload_n 3, 1) := by decide +kernel
theorem dX8_ferries_162 : decode cX8_ferries 162 = .ok (.if_icmp .le 7, 3) := by decide +kernel
theorem dX8_ferries_165 : decode cX8_ferries 165 = .ok (.iconst 1, 1) := by decide +kernel
theorem dX8_ferries_166 : decode cX8_ferries 166 = .ok (.goto 4, 3) := by decide +kernel
theorem dX8_ferries_169 : decode cX8_ferries 169 = .ok (.iconst 0, 1) := by decide +kernel
theorem dX8_ferries_170 : decode cX8_ferries 170 = .ok (.iadd, 1) := by decide +kernel
theorem dX8_ferries_171 : decode cX8_ferries 171 = .ok (.istore 7, 2) := by decide +kernel
theorem dX8_ferries_173 : decode cX8_ferries 173 = .ok (.iinc 8 1, 3) := by decide +kernel
theorem dX8_ferries_176 : decode cX8_ferries 176 = .ok (.goto (-32), 3) := by decide +kernel
theorem dX8_ferries_179 : decode cX8_ferries 179 = .ok (.aload_n 0, 1) := by decide +kernel
theorem dX8_ferries_180 : decode cX8_ferries 180 = .ok (.getfield 9, 3) := by decide +kernel
theorem dX8_ferries_183 : decode cX8_ferries 183 = .ok (.iload_n 1, 1) := by decide +kernel
theorem dX8_ferries_184 : decode cX8_ferries 184 = .ok (.invokestatic 93, 3) := by decide +kernel
theorem dX8_ferries_187 : decode cX8_ferries 187 = .ok (.iconst 1, 1) := by decide +kernel
theorem dX8_ferries_188 : decode cX8_ferries 188 = .ok (.iadd, 1) := by decide +kernel
theorem dX8_ferries_189 : decode cX8_ferries 189 = .ok (.iconst 1, 1) := by decide +kernel
theorem dX8_ferries_190 : decode cX8_ferries 190 = .ok (.iastore, 1) := by decide +kernel
theorem dX8_ferries_191 : decode cX8_ferries 191 = .ok (.aload_n 0, 1) := by decide +kernel
theorem dX8_ferries_192 : decode cX8_ferries 192 = .ok (.getfield 9, 3) := by decide +kernel
theorem dX8_ferries_195 : decode cX8_ferries 195 = .ok (.iload_n 2, 1) := by decide +kernel
theorem dX8_ferries_196 : decode cX8_ferries 196 = .ok (.invokestatic 77, 3) := by decide +kernel
theorem dX8_ferries_199 : decode cX8_ferries 199 = .ok (.iconst 4, 1) := by decide +kernel
theorem dX8_ferries_200 : decode cX8_ferries 200 = .ok (.iadd, 1) := by decide +kernel
theorem dX8_ferries_201 : decode cX8_ferries 201 = .ok (.iload_n 1, 1) := by decide +kernel
theorem dX8_ferries_202 : decode cX8_ferries 202 = .ok (.iastore, 1) := by decide +kernel
theorem dX8_ferries_203 : decode cX8_ferries 203 = .ok (.iload 7, 2) := by decide +kernel
theorem dX8_ferries_205 : decode cX8_ferries 205 = .ok (.ireturn, 1) := by decide +kernel
set_option maxRecDepth 20000 in
theorem ggX8_playFerry_X8_begins : GoodIn wsX8_playFerry wsX8_begins := goodIn_ca (goodIn_r _ [5, 6, 7, 8, 9, 4, 10, 55, 56, 57, 58, 59, 60, 61, 62, 63, 64, 65, 66, 67, 68, 69, 70, 71, 72, 73, 74] (by decide +kernel) (by decide +kernel)) (goodIn_sub (fun _ h => List.mem_cons_of_mem _ (List.mem_append_right _ h)) (by decide +kernel))
set_option maxRecDepth 20000 in
theorem gX8_playFerry_X8_begins : GoodIn wsX8_playFerry (wsV RX8 105 RX8 yX8_begins wsX8_begins) := goodIn_app (goodIn_of _ (by decide +kernel)) ggX8_playFerry_X8_begins
set_option maxRecDepth 20000 in
theorem ggX8_playFerry_X8_ferries : GoodIn wsX8_playFerry wsX8_ferries := goodIn_ca (goodIn_r _ [14, 6, 15, 16, 17, 4, 18, 19, 20, 21, 22, 23, 24, 25, 26, 27, 28, 29, 30, 31, 32, 33, 34, 35, 36, 37, 38, 39, 40, 41, 42, 43, 44, 55, 56, 57, 58, 59, 60, 61, 62, 63, 64, 65, 66, 67, 68, 69, 70, 71, 72, 73, 74] (by decide +kernel) (by decide +kernel)) (goodIn_sub (fun _ h => List.mem_cons_of_mem _ (List.mem_append_right _ h)) (by decide +kernel))
set_option maxRecDepth 20000 in
theorem gX8_playFerry_X8_ferries : GoodIn wsX8_playFerry (wsV RX8 156 RX8 yX8_ferries wsX8_ferries) := goodIn_app (goodIn_of _ (by decide +kernel)) ggX8_playFerry_X8_ferries
set_option maxRecDepth 20000 in
theorem ggX8_playFerry_X8_ends : GoodIn wsX8_playFerry wsX8_ends := goodIn_ca (goodIn_r _ [48, 44, 7, 6, 8, 9, 4, 10, 49, 50, 51, 52, 53, 54, 55, 56, 57, 58, 59, 60, 61, 62, 63, 64, 65, 66, 67, 68, 69, 70, 71, 72, 73, 74] (by decide +kernel) (by decide +kernel)) (goodIn_sub (fun _ h => List.mem_cons_of_mem _ (List.mem_append_right _ h)) (by decide +kernel))
set_option maxRecDepth 20000 in
theorem gX8_playFerry_X8_ends : GoodIn wsX8_playFerry (wsV RX8 111 RX8 yX8_ends wsX8_ends) := goodIn_app (goodIn_of _ (by decide +kernel)) ggX8_playFerry_X8_ends
theorem dX8_playFerry_0 : decode cX8_playFerry 0 = .ok (.aload_n 0, 1) := by decide +kernel
theorem dX8_playFerry_1 : decode cX8_playFerry 1 = .ok (.invokevirtual 105, 3) := by decide +kernel
theorem dX8_playFerry_4 : decode cX8_playFerry 4 = .ok (.aload_n 0, 1) := by decide +kernel
theorem dX8_playFerry_5 : decode cX8_playFerry 5 = .ok (.aload_n 0, 1) := by decide +kernel
theorem dX8_playFerry_6 : decode cX8_playFerry 6 = .ok (.iload_n 1, 1) := by decide +kernel
theorem dX8_playFerry_7 : decode cX8_playFerry 7 = .ok (.iload_n 2, 1) := by decide +kernel
theorem dX8_playFerry_8 : decode cX8_playFerry 8 = .ok (.invokevirtual 156, 3) := by decide +kernel
theorem dX8_playFerry_11 : decode cX8_playFerry 11 = .ok (.invokevirtual 111, 3) := by decide +kernel
theorem dX8_playFerry_14 : decode cX8_playFerry 14 = .ok (.ireturn, 1) := by decide +kernel
set_option maxRecDepth 20000 in
theorem ggX8_settles_X8_isSite : GoodIn wsX8_settles wsX8_isSite := goodIn_ca (goodIn_r _ [10, 1, 11, 12, 9, 13, 57, 58, 59, 60, 61, 62, 63, 64, 65, 66, 67, 68, 69, 70, 71, 72, 73, 74, 75, 76] (by decide +kernel) (by decide +kernel)) (goodIn_sub (fun _ h => List.mem_cons_of_mem _ (List.mem_append_right _ h)) (by decide +kernel))
set_option maxRecDepth 20000 in
theorem gX8_settles_X8_isSite : GoodIn wsX8_settles (wsV RX8 73 RX8 yX8_isSite wsX8_isSite) := goodIn_app (goodIn_of _ (by decide +kernel)) ggX8_settles_X8_isSite
set_option maxRecDepth 20000 in
theorem ggX8_settles_X8_isDone : GoodIn wsX8_settles wsX8_isDone := goodIn_ca (goodIn_r _ [17, 6, 7, 8, 9, 10, 1, 11, 12, 13, 18, 19, 20, 21, 22, 23, 24, 57, 58, 59, 60, 61, 62, 63, 64, 65, 66, 67, 68, 69, 70, 71, 72, 73, 74, 75, 76] (by decide +kernel) (by decide +kernel)) (goodIn_sub (fun _ h => List.mem_cons_of_mem _ (List.mem_append_right _ h)) (by decide +kernel))
set_option maxRecDepth 20000 in
theorem gX8_settles_X8_isDone : GoodIn wsX8_settles (wsV RX8 134 RX8 yX8_isDone wsX8_isDone) := goodIn_app (goodIn_of _ (by decide +kernel)) ggX8_settles_X8_isDone
set_option maxRecDepth 20000 in
theorem ggX8_settles_X8_bidsOn : GoodIn wsX8_settles wsX8_bidsOn := goodIn_ca (goodIn_r _ [28, 18, 19, 20, 9, 21, 1, 6, 7, 8, 10, 11, 12, 13, 22, 23, 24, 57, 58, 59, 60, 61, 62, 63, 64, 65, 66, 67, 68, 69, 70, 71, 72, 73, 74, 75, 76] (by decide +kernel) (by decide +kernel)) (goodIn_sub (fun _ h => List.mem_cons_of_mem _ (List.mem_append_right _ h)) (by decide +kernel))
set_option maxRecDepth 20000 in
theorem gX8_settles_X8_bidsOn : GoodIn wsX8_settles (wsV RX8 143 RX8 yX8_bidsOn wsX8_bidsOn) := goodIn_app (goodIn_of _ (by decide +kernel)) ggX8_settles_X8_bidsOn
set_option maxRecDepth 20000 in
theorem ggX8_settles_X8_holds : GoodIn wsX8_settles wsX8_holds := goodIn_r _ [32, 33, 57, 58, 59, 60, 61, 62, 63, 64, 65, 66, 67, 68, 69, 70, 71, 72, 73, 74, 75, 76] (by decide +kernel) (by decide +kernel)
set_option maxRecDepth 20000 in
theorem gX8_settles_X8_holds : GoodIn wsX8_settles (wsV RX8 47 RX8 yX8_holds wsX8_holds) := goodIn_app (goodIn_of _ (by decide +kernel)) ggX8_settles_X8_holds
set_option maxRecDepth 20000 in
theorem ggX8_settles_X8_winner : GoodIn wsX8_settles wsX8_winner := goodIn_ca (goodIn_r _ [37, 18, 19, 20, 9, 21, 1, 6, 7, 8, 10, 11, 12, 13, 22, 23, 24, 57, 58, 59, 60, 61, 62, 63, 64, 65, 66, 67, 68, 69, 70, 71, 72, 73, 74, 75, 76] (by decide +kernel) (by decide +kernel)) (goodIn_sub (fun _ h => List.mem_cons_of_mem _ (List.mem_append_right _ h)) (by decide +kernel))
set_option maxRecDepth 20000 in
theorem gX8_settles_X8_winner : GoodIn wsX8_settles (wsV RX8 99 RX8 yX8_winner wsX8_winner) := goodIn_app (goodIn_of _ (by decide +kernel)) ggX8_settles_X8_winner
set_option maxRecDepth 20000 in
theorem ggX8_settles_X8_of : GoodIn wsX8_settles wsX8_of := goodIn_ca (goodIn_r _ [21, 1, 6, 7, 8, 9, 10, 11, 12, 13, 22, 23, 24, 57, 58, 59, 60, 61, 62, 63, 64, 65, 66, 67, 68, 69, 70, 71, 72, 73, 74, 75, 76] (by decide +kernel) (by decide +kernel)) (goodIn_sub (fun _ h => List.mem_cons_of_mem _ (List.mem_append_right _ h)) (by decide +kernel))
set_option maxRecDepth 20000 in
theorem gX8_settles_X8_of : GoodIn wsX8_settles (wsV RX8 81 RX8 yX8_of wsX8_of) := goodIn_app (goodIn_of _ (by decide +kernel)) ggX8_settles_X8_of
set_option maxRecDepth 20000 in
theorem ggX8_settles_X8_doesBuild : GoodIn wsX8_settles wsX8_doesBuild := goodIn_ca (goodIn_r _ [41, 34, 35, 36, 9, 37, 18, 19, 20, 21, 1, 6, 7, 8, 10, 11, 12, 13, 22, 23, 24, 42, 43, 44, 45, 57, 58, 59, 60, 61, 62, 63, 64, 65, 66, 67, 68, 69, 70, 71, 72, 73, 74, 75, 76] (by decide +kernel) (by decide +kernel)) (goodIn_sub (fun _ h => List.mem_cons_of_mem _ (List.mem_append_right _ h)) (by decide +kernel))
set_option maxRecDepth 20000 in
theorem gX8_settles_X8_doesBuild : GoodIn wsX8_settles (wsV RX8 159 RX8 yX8_doesBuild wsX8_doesBuild) := goodIn_app (goodIn_of _ (by decide +kernel)) ggX8_settles_X8_doesBuild
set_option maxRecDepth 20000 in
theorem ggX8_settles_X8_siteAt : GoodIn wsX8_settles wsX8_siteAt := goodIn_r _ [24] (by decide +kernel) (by decide +kernel)
set_option maxRecDepth 20000 in
theorem gX8_settles_X8_siteAt : GoodIn wsX8_settles (va_wsS RX8 77 yX8_siteAt wsX8_siteAt) := goodIn_app (goodIn_of _ (by decide +kernel)) ggX8_settles_X8_siteAt
set_option maxRecDepth 20000 in
theorem ggX8_settles_X8_available : GoodIn wsX8_settles wsX8_available := goodIn_ca (goodIn_r _ [49, 1, 50, 51, 9, 52, 53, 54, 55, 56, 18, 19, 20, 21, 6, 7, 8, 10, 11, 12, 13, 22, 23, 24, 57, 58, 59, 60, 61, 62, 63, 64, 65, 66, 67, 68, 69, 70, 71, 72, 73, 74, 75, 76] (by decide +kernel) (by decide +kernel)) (goodIn_sub (fun _ h => List.mem_cons_of_mem _ (List.mem_append_right _ h)) (by decide +kernel))
set_option maxRecDepth 20000 in
theorem gX8_settles_X8_available : GoodIn wsX8_settles (wsV RX8 140 RX8 yX8_available wsX8_available) := goodIn_app (goodIn_of _ (by decide +kernel)) ggX8_settles_X8_available
set_option maxRecDepth 20000 in
theorem ggX8_settles_X8_playerAt : GoodIn wsX8_settles wsX8_playerAt := goodIn_r _ [52] (by decide +kernel) (by decide +kernel)
set_option maxRecDepth 20000 in
theorem gX8_settles_X8_playerAt : GoodIn wsX8_settles (va_wsS RX8 93 yX8_playerAt wsX8_playerAt) := goodIn_app (goodIn_of _ (by decide +kernel)) ggX8_settles_X8_playerAt
theorem dX8_settles_0 : decode cX8_settles 0 = .ok (.aload_n 0, 1) := by decide +kernel
theorem dX8_settles_1 : decode cX8_settles 1 = .ok (.aload_n 0, 1) := by decide +kernel
theorem dX8_settles_2 : decode cX8_settles 2 = .ok (.iload_n 1, 1) := by decide +kernel
theorem dX8_settles_3 : decode cX8_settles 3 = .ok (.invokevirtual 73, 3) := by decide +kernel
theorem dX8_settles_6 : decode cX8_settles 6 = .ok (.aload_n 0, 1) := by decide +kernel
theorem dX8_settles_7 : decode cX8_settles 7 = .ok (.iload_n 1, 1) := by decide +kernel
theorem dX8_settles_8 : decode cX8_settles 8 = .ok (.invokevirtual 134, 3) := by decide +kernel
theorem dX8_settles_11 : decode cX8_settles 11 = .ok (.ifCond .ne 7, 3) := by decide +kernel
theorem dX8_settles_14 : decode cX8_settles 14 = .ok (.iconst 1, 1) := by decide +kernel
theorem dX8_settles_15 : decode cX8_settles 15 = .ok (.goto 4, 3) := by decide +kernel
theorem dX8_settles_18 : decode cX8_settles 18 = .ok (.iconst 0, 1) := by decide +kernel
theorem dX8_settles_19 : decode cX8_settles 19 = .ok (.aload_n 0, 1) := by decide +kernel
theorem dX8_settles_20 : decode cX8_settles 20 = .ok (.iload_n 1, 1) := by decide +kernel
theorem dX8_settles_21 : decode cX8_settles 21 = .ok (.invokevirtual 73, 3) := by decide +kernel
theorem dX8_settles_24 : decode cX8_settles 24 = .ok (.ifCond .eq 15, 3) := by decide +kernel
theorem dX8_settles_27 : decode cX8_settles 27 = .ok (.aload_n 0, 1) := by decide +kernel
theorem dX8_settles_28 : decode cX8_settles 28 = .ok (.iload_n 1, 1) := by decide +kernel
theorem dX8_settles_29 : decode cX8_settles 29 = .ok (.invokevirtual 143, 3) := by decide +kernel
theorem dX8_settles_32 : decode cX8_settles 32 = .ok (.ifCond .le 7, 3) := by decide +kernel
theorem dX8_settles_35 : decode cX8_settles 35 = .ok (.iconst 1, 1) := by decide +kernel
theorem dX8_settles_36 : decode cX8_settles 36 = .ok (.goto 4, 3) := by decide +kernel
theorem dX8_settles_39 : decode cX8_settles 39 = .ok (.iconst 0, 1) := by decide +kernel
theorem dX8_settles_40 : decode cX8_settles 40 = .ok (.iconst 1, 1) := by decide +kernel
theorem dX8_settles_41 : decode cX8_settles 41 = .ok (.invokevirtual 47, 3) := by decide +kernel
theorem dX8_settles_44 : decode cX8_settles 44 = .ok (.ifCond .ne 5, 3) := by decide +kernel
theorem dX8_settles_47 : decode cX8_settles 47 = .ok (.iconst 0, 1) := by decide +kernel
theorem dX8_settles_48 : decode cX8_settles 48 = .ok (.ireturn, 1) := by decide +kernel
theorem dX8_settles_49 : decode cX8_settles 49 = .ok (.aload_n 0, 1) := by decide +kernel
theorem dX8_settles_50 : decode cX8_settles 50 = .ok (.iload_n 1, 1) := by decide +kernel
theorem dX8_settles_51 : decode cX8_settles 51 = .ok (.invokevirtual 99, 3) := by decide +kernel
theorem dX8_settles_54 : decode cX8_settles 54 = .ok (.istore_n 2, 1) := by decide +kernel
theorem dX8_settles_55 : decode cX8_settles 55 = .ok (.aload_n 0, 1) := by decide +kernel
theorem dX8_settles_56 : decode cX8_settles 56 = .ok (.iload_n 1, 1) := by decide +kernel
theorem dX8_settles_57 : decode cX8_settles 57 = .ok (.bipush 9, 2) := by decide +kernel
theorem dX8_settles_59 : decode cX8_settles 59 = .ok (.iload_n 2, 1) := by decide +kernel
theorem dX8_settles_60 : decode cX8_settles 60 = .ok (.iadd, 1) := by decide +kernel
theorem dX8_settles_61 : decode cX8_settles 61 = .ok (.invokevirtual 81, 3) := by decide +kernel
theorem dX8_settles_64 : decode cX8_settles 64 = .ok (.iconst 1, 1) := by decide +kernel
theorem dX8_settles_65 : decode cX8_settles 65 = .ok (.if_icmp .ne 7, 3) := by decide +kernel
theorem dX8_settles_68 : decode cX8_settles 68 = .ok (.iconst 1, 1) := by decide +kernel
theorem dX8_settles_69 : decode cX8_settles 69 = .ok (.goto 4, 3) := by decide +kernel
theorem dX8_settles_72 : decode cX8_settles 72 = .ok (.iconst 0, 1) := by decide +kernel
theorem dX8_settles_73 : decode cX8_settles 73 = .ok (.istore_n 3, 1) := by decide +kernel
theorem dX8_settles_74 : decode cX8_settles 74 = .ok (.aload_n 0, 1) := by decide +kernel
theorem dX8_settles_75 : decode cX8_settles 75 = .ok (.iload_n 1, 1) := by decide +kernel
theorem dX8_settles_76 : decode cX8_settles 76 = .ok (.invokevirtual 159, 3) := by decide +kernel
theorem dX8_settles_79 : decode cX8_settles 79 = .ok (.istore 4, 2) := by decide +kernel
theorem dX8_settles_81 : decode cX8_settles 81 = .ok (.aload_n 0, 1) := by decide +kernel
theorem dX8_settles_82 : decode cX8_settles 82 = .ok (.iload_n 1, 1) := by decide +kernel
theorem dX8_settles_83 : decode cX8_settles 83 = .ok (.iconst 5, 1) := by decide +kernel
theorem dX8_settles_84 : decode cX8_settles 84 = .ok (.iload_n 2, 1) := by decide +kernel
theorem dX8_settles_85 : decode cX8_settles 85 = .ok (.iadd, 1) := by decide +kernel
theorem dX8_settles_86 : decode cX8_settles 86 = .ok (.invokevirtual 81, 3) := by decide +kernel
theorem dX8_settles_89 : decode cX8_settles 89 = .ok (.istore 5, 2) := by decide +kernel
theorem dX8_settles_91 : decode cX8_settles 91 = .ok (.iconst 0, 1) := by decide +kernel
theorem dX8_settles_92 : decode cX8_settles 92 = .ok (.istore 6, 2) := by decide +kernel
theorem dX8_settles_94 : decode cX8_settles 94 = .ok (.iload 6, 2) := by decide +kernel
theorem dX8_settles_96 : decode cX8_settles 96 = .ok (.iconst 4, 1) := by decide +kernel
theorem dX8_settles_97 : decode cX8_settles 97 = .ok (.if_icmp .ge 40, 3) := by decide +kernel
theorem dX8_settles_100 : decode cX8_settles 100 = .ok (.aload_n 0, 1) := by decide +kernel
theorem dX8_settles_101 : decode cX8_settles 101 = .ok (.getfield 9, 3) := by decide +kernel
theorem dX8_settles_104 : decode cX8_settles 104 = .ok (.iload_n 1, 1) := by decide +kernel
theorem dX8_settles_105 : decode cX8_settles 105 = .ok (.invokestatic 77, 3) := by decide +kernel
theorem dX8_settles_108 : decode cX8_settles 108 = .ok (.iconst 5, 1) := by decide +kernel
theorem dX8_settles_109 : decode cX8_settles 109 = .ok (.iadd, 1) := by decide +kernel
theorem dX8_settles_110 : decode cX8_settles 110 = .ok (.iload 6, 2) := by decide +kernel
theorem dX8_settles_112 : decode cX8_settles 112 = .ok (.iadd, 1) := by decide +kernel
theorem dX8_settles_113 : decode cX8_settles 113 = .ok (.iconst 0, 1) := by decide +kernel
theorem dX8_settles_114 : decode cX8_settles 114 = .ok (.iastore, 1) := by decide +kernel
theorem dX8_settles_115 : decode cX8_settles 115 = .ok (.aload_n 0, 1) := by decide +kernel
theorem dX8_settles_116 : decode cX8_settles 116 = .ok (.getfield 9, 3) := by decide +kernel
theorem dX8_settles_119 : decode cX8_settles 119 = .ok (.iload_n 1, 1) := by decide +kernel
theorem dX8_settles_120 : decode cX8_settles 120 = .ok (.invokestatic 77, 3) := by decide +kernel
theorem dX8_settles_123 : decode cX8_settles 123 = .ok (.bipush 9, 2) := by decide +kernel
theorem dX8_settles_125 : decode cX8_settles 125 = .ok (.iadd, 1) := by decide +kernel
theorem dX8_settles_126 : decode cX8_settles 126 = .ok (.iload 6, 2) := by decide +kernel
theorem dX8_settles_128 : decode cX8_settles 128 = .ok (.iadd, 1) := by decide +kernel
theorem dX8_settles_129 : decode cX8_settles 129 = .ok (.iconst 0, 1) := by decide +kernel
theorem dX8_settles_130 : decode cX8_settles 130 = .ok (.iastore, 1) := by decide +kernel
theorem dX8_settles_131 : decode cX8_settles 131 = .ok (.iinc 6 1, 3) := by decide +kernel
theorem dX8_settles_134 : decode cX8_settles 134 = .ok (.goto (-40), 3) := by decide +kernel
theorem dX8_settles_137 : decode cX8_settles 137 = .ok (.aload_n 0, 1) := by decide +kernel
theorem dX8_settles_138 : decode cX8_settles 138 = .ok (.getfield 9, 3) := by decide +kernel
theorem dX8_settles_141 : decode cX8_settles 141 = .ok (.iload_n 1, 1) := by decide +kernel
theorem dX8_settles_142 : decode cX8_settles 142 = .ok (.invokestatic 77, 3) := by decide +kernel
theorem dX8_settles_145 : decode cX8_settles 145 = .ok (.iconst 4, 1) := by decide +kernel
theorem dX8_settles_146 : decode cX8_settles 146 = .ok (.iadd, 1) := by decide +kernel
theorem dX8_settles_147 : decode cX8_settles 147 = .ok (.iconst (-1), 1) := by decide +kernel
theorem dX8_settles_148 : decode cX8_settles 148 = .ok (.iastore, 1) := by decide +kernel
theorem dX8_settles_149 : decode cX8_settles 149 = .ok (.iload_n 3, 1) := by decide +kernel
theorem dX8_settles_150 : decode cX8_settles 150 = .ok (.ifCond .eq 15, 3) := by decide +kernel
theorem dX8_settles_153 : decode cX8_settles 153 = .ok (.iconst 5, 1) := by decide +kernel
theorem dX8_settles_154 : decode cX8_settles 154 = .ok (.aload_n 0, 1) := by decide +kernel
theorem dX8_settles_155 : decode cX8_settles 155 = .ok (.iload_n 2, 1) := by decide +kernel
theorem dX8_settles_156 : decode cX8_settles 156 = .ok (.invokevirtual 140, 3) := by decide +kernel
theorem dX8_settles_159 : decode cX8_settles 159 = .ok (.invokestatic 114, 3) := by decide +kernel
theorem dX8_settles_162 : decode cX8_settles 162 = .ok (.goto 5, 3) := by decide +kernel
theorem dX8_settles_165 : decode cX8_settles 165 = .ok (.iload 5, 2) := by decide +kernel
theorem dX8_settles_167 : decode cX8_settles 167 = .ok (.istore 6, 2) := by decide +kernel
theorem dX8_settles_169 : decode cX8_settles 169 = .ok (.aload_n 0, 1) := by decide +kernel
theorem dX8_settles_170 : decode cX8_settles 170 = .ok (.getfield 9, 3) := by decide +kernel
theorem dX8_settles_173 : decode cX8_settles 173 = .ok (.iload_n 2, 1) := by decide +kernel
theorem dX8_settles_174 : decode cX8_settles 174 = .ok (.invokestatic 93, 3) := by decide +kernel
theorem dX8_settles_177 : decode cX8_settles 177 = .ok (.iconst 0, 1) := by decide +kernel
theorem dX8_settles_178 : decode cX8_settles 178 = .ok (.iadd, 1) := by decide +kernel
theorem dX8_settles_179 : decode cX8_settles 179 = .ok (.dup2, 1) := by decide +kernel
theorem dX8_settles_180 : decode cX8_settles 180 = .ok (.iaload, 1) := by decide +kernel
theorem dX8_settles_181 : decode cX8_settles 181 = .ok (.iload 6, 2) := by decide +kernel
theorem dX8_settles_183 : decode cX8_settles 183 = .ok (.isub, 1) := by decide +kernel
theorem dX8_settles_184 : decode cX8_settles 184 = .ok (.iastore, 1) := by decide +kernel
theorem dX8_settles_185 : decode cX8_settles 185 = .ok (.aload_n 0, 1) := by decide +kernel
theorem dX8_settles_186 : decode cX8_settles 186 = .ok (.getfield 9, 3) := by decide +kernel
theorem dX8_settles_189 : decode cX8_settles 189 = .ok (.iconst 3, 1) := by decide +kernel
theorem dX8_settles_190 : decode cX8_settles 190 = .ok (.dup2, 1) := by decide +kernel
theorem dX8_settles_191 : decode cX8_settles 191 = .ok (.iaload, 1) := by decide +kernel
theorem dX8_settles_192 : decode cX8_settles 192 = .ok (.iload 6, 2) := by decide +kernel
theorem dX8_settles_194 : decode cX8_settles 194 = .ok (.iadd, 1) := by decide +kernel
theorem dX8_settles_195 : decode cX8_settles 195 = .ok (.iastore, 1) := by decide +kernel
theorem dX8_settles_196 : decode cX8_settles 196 = .ok (.aload_n 0, 1) := by decide +kernel
theorem dX8_settles_197 : decode cX8_settles 197 = .ok (.getfield 9, 3) := by decide +kernel
theorem dX8_settles_200 : decode cX8_settles 200 = .ok (.iconst 4, 1) := by decide +kernel
theorem dX8_settles_201 : decode cX8_settles 201 = .ok (.dup2, 1) := by decide +kernel
theorem dX8_settles_202 : decode cX8_settles 202 = .ok (.iaload, 1) := by decide +kernel
theorem dX8_settles_203 : decode cX8_settles 203 = .ok (.iconst 1, 1) := by decide +kernel
theorem dX8_settles_204 : decode cX8_settles 204 = .ok (.iadd, 1) := by decide +kernel
theorem dX8_settles_205 : decode cX8_settles 205 = .ok (.iastore, 1) := by decide +kernel
theorem dX8_settles_206 : decode cX8_settles 206 = .ok (.aload_n 0, 1) := by decide +kernel
theorem dX8_settles_207 : decode cX8_settles 207 = .ok (.getfield 9, 3) := by decide +kernel
theorem dX8_settles_210 : decode cX8_settles 210 = .ok (.iconst 5, 1) := by decide +kernel
theorem dX8_settles_211 : decode cX8_settles 211 = .ok (.dup2, 1) := by decide +kernel
theorem dX8_settles_212 : decode cX8_settles 212 = .ok (.iaload, 1) := by decide +kernel
theorem dX8_settles_213 : decode cX8_settles 213 = .ok (.iload_n 3, 1) := by decide +kernel
theorem dX8_settles_214 : decode cX8_settles 214 = .ok (.ifCond .eq 7, 3) := by decide +kernel
theorem dX8_settles_217 : decode cX8_settles 217 = .ok (.iconst 1, 1) := by decide +kernel
theorem dX8_settles_218 : decode cX8_settles 218 = .ok (.goto 4, 3) := by decide +kernel
theorem dX8_settles_221 : decode cX8_settles 221 = .ok (.iconst 0, 1) := by decide +kernel
theorem dX8_settles_222 : decode cX8_settles 222 = .ok (.iadd, 1) := by decide +kernel
theorem dX8_settles_223 : decode cX8_settles 223 = .ok (.iastore, 1) := by decide +kernel
theorem dX8_settles_224 : decode cX8_settles 224 = .ok (.aload_n 0, 1) := by decide +kernel
theorem dX8_settles_225 : decode cX8_settles 225 = .ok (.getfield 9, 3) := by decide +kernel
theorem dX8_settles_228 : decode cX8_settles 228 = .ok (.iload_n 1, 1) := by decide +kernel
theorem dX8_settles_229 : decode cX8_settles 229 = .ok (.invokestatic 77, 3) := by decide +kernel
theorem dX8_settles_232 : decode cX8_settles 232 = .ok (.iconst 3, 1) := by decide +kernel
theorem dX8_settles_233 : decode cX8_settles 233 = .ok (.iadd, 1) := by decide +kernel
theorem dX8_settles_234 : decode cX8_settles 234 = .ok (.iload 4, 2) := by decide +kernel
theorem dX8_settles_236 : decode cX8_settles 236 = .ok (.ifCond .eq 7, 3) := by decide +kernel
theorem dX8_settles_239 : decode cX8_settles 239 = .ok (.iload_n 2, 1) := by decide +kernel
theorem dX8_settles_240 : decode cX8_settles 240 = .ok (.goto 4, 3) := by decide +kernel
theorem dX8_settles_243 : decode cX8_settles 243 = .ok (.iconst (-1), 1) := by decide +kernel
theorem dX8_settles_244 : decode cX8_settles 244 = .ok (.iastore, 1) := by decide +kernel
theorem dX8_settles_245 : decode cX8_settles 245 = .ok (.iload 4, 2) := by decide +kernel
theorem dX8_settles_247 : decode cX8_settles 247 = .ok (.ifCond .eq 7, 3) := by decide +kernel
theorem dX8_settles_250 : decode cX8_settles 250 = .ok (.iconst 1, 1) := by decide +kernel
theorem dX8_settles_251 : decode cX8_settles 251 = .ok (.goto 4, 3) := by decide +kernel
theorem dX8_settles_254 : decode cX8_settles 254 = .ok (.iconst 0, 1) := by decide +kernel
theorem dX8_settles_255 : decode cX8_settles 255 = .ok (.ireturn, 1) := by decide +kernel
set_option maxRecDepth 20000 in
theorem ggX8_settle_X8_begins : GoodIn wsX8_settle wsX8_begins := goodIn_ca (goodIn_r _ [5, 6, 7, 8, 9, 4, 10, 79, 80, 81, 82, 83, 84, 85, 86, 87, 88, 89, 90, 91, 92, 93, 94, 95, 96, 97, 98] (by decide +kernel) (by decide +kernel)) (goodIn_sub (fun _ h => List.mem_cons_of_mem _ (List.mem_append_right _ h)) (by decide +kernel))
set_option maxRecDepth 20000 in
theorem gX8_settle_X8_begins : GoodIn wsX8_settle (wsV RX8 105 RX8 yX8_begins wsX8_begins) := goodIn_app (goodIn_of _ (by decide +kernel)) ggX8_settle_X8_begins
set_option maxRecDepth 20000 in
theorem ggX8_settle_X8_settles : GoodIn wsX8_settle wsX8_settles := goodIn_ca (goodIn_r _ [14, 6, 15, 16, 17, 18, 19, 20, 21, 4, 22, 23, 24, 25, 26, 27, 28, 29, 30, 31, 32, 33, 34, 35, 36, 37, 38, 39, 40, 41, 42, 43, 44, 45, 46, 47, 48, 49, 50, 51, 52, 53, 54, 55, 56, 57, 58, 59, 60, 61, 62, 63, 64, 65, 66, 67, 68, 79, 80, 81, 82, 83, 84, 85, 86, 87, 88, 89, 90, 91, 92, 93, 94, 95, 96, 97, 98] (by decide +kernel) (by decide +kernel)) (goodIn_sub (fun _ h => List.mem_cons_of_mem _ (List.mem_append_right _ h)) (by decide +kernel))
set_option maxRecDepth 20000 in
theorem gX8_settle_X8_settles : GoodIn wsX8_settle (wsV RX8 162 RX8 yX8_settles wsX8_settles) := goodIn_app (goodIn_of _ (by decide +kernel)) ggX8_settle_X8_settles
set_option maxRecDepth 20000 in
theorem ggX8_settle_X8_ends : GoodIn wsX8_settle wsX8_ends := goodIn_ca (goodIn_r _ [72, 45, 7, 6, 8, 9, 4, 10, 73, 74, 75, 76, 77, 78, 79, 80, 81, 82, 83, 84, 85, 86, 87, 88, 89, 90, 91, 92, 93, 94, 95, 96, 97, 98] (by decide +kernel) (by decide +kernel)) (goodIn_sub (fun _ h => List.mem_cons_of_mem _ (List.mem_append_right _ h)) (by decide +kernel))
set_option maxRecDepth 20000 in
theorem gX8_settle_X8_ends : GoodIn wsX8_settle (wsV RX8 111 RX8 yX8_ends wsX8_ends) := goodIn_app (goodIn_of _ (by decide +kernel)) ggX8_settle_X8_ends
theorem dX8_settle_0 : decode cX8_settle 0 = .ok (.aload_n 0, 1) := by decide +kernel
theorem dX8_settle_1 : decode cX8_settle 1 = .ok (.invokevirtual 105, 3) := by decide +kernel
theorem dX8_settle_4 : decode cX8_settle 4 = .ok (.aload_n 0, 1) := by decide +kernel
theorem dX8_settle_5 : decode cX8_settle 5 = .ok (.aload_n 0, 1) := by decide +kernel
theorem dX8_settle_6 : decode cX8_settle 6 = .ok (.iload_n 1, 1) := by decide +kernel
theorem dX8_settle_7 : decode cX8_settle 7 = .ok (.invokevirtual 162, 3) := by decide +kernel
theorem dX8_settle_10 : decode cX8_settle 10 = .ok (.invokevirtual 111, 3) := by decide +kernel
theorem dX8_settle_13 : decode cX8_settle 13 = .ok (.iconst 1, 1) := by decide +kernel
theorem dX8_settle_14 : decode cX8_settle 14 = .ok (.if_icmp .ne 7, 3) := by decide +kernel
theorem dX8_settle_17 : decode cX8_settle 17 = .ok (.iconst 1, 1) := by decide +kernel
theorem dX8_settle_18 : decode cX8_settle 18 = .ok (.goto 4, 3) := by decide +kernel
theorem dX8_settle_21 : decode cX8_settle 21 = .ok (.iconst 0, 1) := by decide +kernel
theorem dX8_settle_22 : decode cX8_settle 22 = .ok (.ireturn, 1) := by decide +kernel
set_option maxRecDepth 20000 in
theorem ggX8_suit_X8_isIsland : GoodIn wsX8_suit wsX8_isIsland := goodIn_r _ [5, 6, 7, 4, 8] (by decide +kernel) (by decide +kernel)
set_option maxRecDepth 20000 in
theorem gX8_suit_X8_isIsland : GoodIn wsX8_suit (va_wsS RX8 117 yX8_isIsland wsX8_isIsland) := goodIn_app (goodIn_of _ (by decide +kernel)) ggX8_suit_X8_isIsland
set_option maxRecDepth 20000 in
theorem ggX8_suit_X8_goes : GoodIn wsX8_suit wsX8_goes := goodIn_r _ [12, 13, 14, 15, 4, 16, 17, 18, 19, 20, 21, 22, 23, 24, 25, 26, 27, 28, 29, 30, 31, 32, 33, 34, 35, 36, 37] (by decide +kernel) (by decide +kernel)
set_option maxRecDepth 20000 in
theorem gX8_suit_X8_goes : GoodIn wsX8_suit (wsV RX8 61 RX8 yX8_goes wsX8_goes) := goodIn_app (goodIn_of _ (by decide +kernel)) ggX8_suit_X8_goes
theorem dX8_suit_0 : decode cX8_suit 0 = .ok (.aload_n 0, 1) := by decide +kernel
theorem dX8_suit_1 : decode cX8_suit 1 = .ok (.iload_n 1, 1) := by decide +kernel
theorem dX8_suit_2 : decode cX8_suit 2 = .ok (.invokestatic 117, 3) := by decide +kernel
theorem dX8_suit_5 : decode cX8_suit 5 = .ok (.invokevirtual 61, 3) := by decide +kernel
theorem dX8_suit_8 : decode cX8_suit 8 = .ok (.ifCond .eq 15, 3) := by decide +kernel
theorem dX8_suit_11 : decode cX8_suit 11 = .ok (.aload_n 0, 1) := by decide +kernel
theorem dX8_suit_12 : decode cX8_suit 12 = .ok (.getfield 9, 3) := by decide +kernel
theorem dX8_suit_15 : decode cX8_suit 15 = .ok (.bipush 6, 2) := by decide +kernel
theorem dX8_suit_17 : decode cX8_suit 17 = .ok (.iload_n 1, 1) := by decide +kernel
theorem dX8_suit_18 : decode cX8_suit 18 = .ok (.iadd, 1) := by decide +kernel
theorem dX8_suit_19 : decode cX8_suit 19 = .ok (.iaload, 1) := by decide +kernel
theorem dX8_suit_20 : decode cX8_suit 20 = .ok (.goto 4, 3) := by decide +kernel
theorem dX8_suit_23 : decode cX8_suit 23 = .ok (.iconst 0, 1) := by decide +kernel
theorem dX8_suit_24 : decode cX8_suit 24 = .ok (.ireturn, 1) := by decide +kernel
theorem dX8_tide_0 : decode cX8_tide 0 = .ok (.aload_n 0, 1) := by decide +kernel
theorem dX8_tide_1 : decode cX8_tide 1 = .ok (.iconst 0, 1) := by decide +kernel
theorem dX8_tide_2 : decode cX8_tide 2 = .ok (.putfield 44, 3) := by decide +kernel
theorem dX8_tide_5 : decode cX8_tide 5 = .ok (.aload_n 0, 1) := by decide +kernel
theorem dX8_tide_6 : decode cX8_tide 6 = .ok (.getfield 9, 3) := by decide +kernel
theorem dX8_tide_9 : decode cX8_tide 9 = .ok (.iconst 0, 1) := by decide +kernel
theorem dX8_tide_10 : decode cX8_tide 10 = .ok (.iaload, 1) := by decide +kernel
theorem dX8_tide_11 : decode cX8_tide 11 = .ok (.ireturn, 1) := by decide +kernel
theorem dX8_playerCount_0 : decode cX8_playerCount 0 = .ok (.aload_n 0, 1) := by decide +kernel
theorem dX8_playerCount_1 : decode cX8_playerCount 1 = .ok (.iconst 0, 1) := by decide +kernel
theorem dX8_playerCount_2 : decode cX8_playerCount 2 = .ok (.putfield 44, 3) := by decide +kernel
theorem dX8_playerCount_5 : decode cX8_playerCount 5 = .ok (.aload_n 0, 1) := by decide +kernel
theorem dX8_playerCount_6 : decode cX8_playerCount 6 = .ok (.getfield 9, 3) := by decide +kernel
theorem dX8_playerCount_9 : decode cX8_playerCount 9 = .ok (.iconst 1, 1) := by decide +kernel
theorem dX8_playerCount_10 : decode cX8_playerCount 10 = .ok (.iaload, 1) := by decide +kernel
theorem dX8_playerCount_11 : decode cX8_playerCount 11 = .ok (.ireturn, 1) := by decide +kernel
set_option maxRecDepth 20000 in
theorem ggX8_money_X8_isPlayer : GoodIn wsX8_money wsX8_isPlayer := goodIn_ca (goodIn_r _ [6, 1, 7, 8, 5, 9, 22, 23, 24, 25, 26, 27, 28, 29, 30, 31, 32, 33, 34, 35, 36, 37, 38, 39, 40, 41] (by decide +kernel) (by decide +kernel)) (goodIn_sub (fun _ h => List.mem_cons_of_mem _ (List.mem_append_right _ h)) (by decide +kernel))
set_option maxRecDepth 20000 in
theorem gX8_money_X8_isPlayer : GoodIn wsX8_money (wsV RX8 85 RX8 yX8_isPlayer wsX8_isPlayer) := goodIn_app (goodIn_of _ (by decide +kernel)) ggX8_money_X8_isPlayer
set_option maxRecDepth 20000 in
theorem ggX8_money_X8_goes : GoodIn wsX8_money wsX8_goes := goodIn_r _ [13, 14, 15, 16, 5, 17, 18, 22, 23, 24, 25, 26, 27, 28, 29, 30, 31, 32, 33, 34, 35, 36, 37, 38, 39, 40, 41] (by decide +kernel) (by decide +kernel)
set_option maxRecDepth 20000 in
theorem gX8_money_X8_goes : GoodIn wsX8_money (wsV RX8 61 RX8 yX8_goes wsX8_goes) := goodIn_app (goodIn_of _ (by decide +kernel)) ggX8_money_X8_goes
set_option maxRecDepth 20000 in
theorem ggX8_money_X8_playerAt : GoodIn wsX8_money wsX8_playerAt := goodIn_r _ [21] (by decide +kernel) (by decide +kernel)
set_option maxRecDepth 20000 in
theorem gX8_money_X8_playerAt : GoodIn wsX8_money (va_wsS RX8 93 yX8_playerAt wsX8_playerAt) := goodIn_app (goodIn_of _ (by decide +kernel)) ggX8_money_X8_playerAt
theorem dX8_money_0 : decode cX8_money 0 = .ok (.aload_n 0, 1) := by decide +kernel
theorem dX8_money_1 : decode cX8_money 1 = .ok (.aload_n 0, 1) := by decide +kernel
theorem dX8_money_2 : decode cX8_money 2 = .ok (.iload_n 1, 1) := by decide +kernel
theorem dX8_money_3 : decode cX8_money 3 = .ok (.invokevirtual 85, 3) := by decide +kernel
theorem dX8_money_6 : decode cX8_money 6 = .ok (.invokevirtual 61, 3) := by decide +kernel
theorem dX8_money_9 : decode cX8_money 9 = .ok (.ifCond .eq 17, 3) := by decide +kernel
theorem dX8_money_12 : decode cX8_money 12 = .ok (.aload_n 0, 1) := by decide +kernel
theorem dX8_money_13 : decode cX8_money 13 = .ok (.getfield 9, 3) := by decide +kernel
theorem dX8_money_16 : decode cX8_money 16 = .ok (.iload_n 1, 1) := by decide +kernel
theorem dX8_money_17 : decode cX8_money 17 = .ok (.invokestatic 93, 3) := by decide +kernel
theorem dX8_money_20 : decode cX8_money 20 = .ok (.iconst 0, 1) := by decide +kernel
theorem dX8_money_21 : decode cX8_money 21 = .ok (.iadd, 1) := by decide +kernel
theorem dX8_money_22 : decode cX8_money 22 = .ok (.iaload, 1) := by decide +kernel
theorem dX8_money_23 : decode cX8_money 23 = .ok (.goto 4, 3) := by decide +kernel
theorem dX8_money_26 : decode cX8_money 26 = .ok (.iconst 0, 1) := by decide +kernel
theorem dX8_money_27 : decode cX8_money 27 = .ok (.ireturn, 1) := by decide +kernel
set_option maxRecDepth 20000 in
theorem ggX8_availableMoney_X8_isPlayer : GoodIn wsX8_availableMoney wsX8_isPlayer := goodIn_ca (goodIn_r _ [5, 6, 7, 8, 4, 9, 41, 42, 43, 44, 45, 46, 47, 48, 49, 50, 51, 52, 53, 54, 55, 56, 57, 58, 59, 60] (by decide +kernel) (by decide +kernel)) (goodIn_sub (fun _ h => List.mem_cons_of_mem _ (List.mem_append_right _ h)) (by decide +kernel))
set_option maxRecDepth 20000 in
theorem gX8_availableMoney_X8_isPlayer : GoodIn wsX8_availableMoney (wsV RX8 85 RX8 yX8_isPlayer wsX8_isPlayer) := goodIn_app (goodIn_of _ (by decide +kernel)) ggX8_availableMoney_X8_isPlayer
set_option maxRecDepth 20000 in
theorem ggX8_availableMoney_X8_goes : GoodIn wsX8_availableMoney wsX8_goes := goodIn_r _ [13, 14, 15, 16, 4, 17, 18, 41, 42, 43, 44, 45, 46, 47, 48, 49, 50, 51, 52, 53, 54, 55, 56, 57, 58, 59, 60] (by decide +kernel) (by decide +kernel)
set_option maxRecDepth 20000 in
theorem gX8_availableMoney_X8_goes : GoodIn wsX8_availableMoney (wsV RX8 61 RX8 yX8_goes wsX8_goes) := goodIn_app (goodIn_of _ (by decide +kernel)) ggX8_availableMoney_X8_goes
set_option maxRecDepth 20000 in
theorem ggX8_availableMoney_X8_available : GoodIn wsX8_availableMoney wsX8_available := goodIn_ca (goodIn_r _ [22, 6, 23, 24, 4, 25, 26, 27, 28, 29, 30, 31, 32, 33, 34, 35, 36, 37, 7, 8, 9, 38, 39, 40, 41, 42, 43, 44, 45, 46, 47, 48, 49, 50, 51, 52, 53, 54, 55, 56, 57, 58, 59, 60] (by decide +kernel) (by decide +kernel)) (goodIn_sub (fun _ h => List.mem_cons_of_mem _ (List.mem_append_right _ h)) (by decide +kernel))
set_option maxRecDepth 20000 in
theorem gX8_availableMoney_X8_available : GoodIn wsX8_availableMoney (wsV RX8 140 RX8 yX8_available wsX8_available) := goodIn_app (goodIn_of _ (by decide +kernel)) ggX8_availableMoney_X8_available
theorem dX8_availableMoney_0 : decode cX8_availableMoney 0 = .ok (.aload_n 0, 1) := by decide +kernel
theorem dX8_availableMoney_1 : decode cX8_availableMoney 1 = .ok (.aload_n 0, 1) := by decide +kernel
theorem dX8_availableMoney_2 : decode cX8_availableMoney 2 = .ok (.iload_n 1, 1) := by decide +kernel
theorem dX8_availableMoney_3 : decode cX8_availableMoney 3 = .ok (.invokevirtual 85, 3) := by decide +kernel
theorem dX8_availableMoney_6 : decode cX8_availableMoney 6 = .ok (.invokevirtual 61, 3) := by decide +kernel
theorem dX8_availableMoney_9 : decode cX8_availableMoney 9 = .ok (.ifCond .eq 11, 3) := by decide +kernel
theorem dX8_availableMoney_12 : decode cX8_availableMoney 12 = .ok (.aload_n 0, 1) := by decide +kernel
theorem dX8_availableMoney_13 : decode cX8_availableMoney 13 = .ok (.iload_n 1, 1) := by decide +kernel
theorem dX8_availableMoney_14 : decode cX8_availableMoney 14 = .ok (.invokevirtual 140, 3) := by decide +kernel
theorem dX8_availableMoney_17 : decode cX8_availableMoney 17 = .ok (.goto 4, 3) := by decide +kernel
theorem dX8_availableMoney_20 : decode cX8_availableMoney 20 = .ok (.iconst 0, 1) := by decide +kernel
theorem dX8_availableMoney_21 : decode cX8_availableMoney 21 = .ok (.ireturn, 1) := by decide +kernel
set_option maxRecDepth 20000 in
theorem ggX8_isFerryUsed_X8_isPlayer : GoodIn wsX8_isFerryUsed wsX8_isPlayer := goodIn_ca (goodIn_r _ [6, 1, 7, 8, 5, 9, 22, 23, 24, 25, 26, 27, 28, 29, 30, 31, 32, 33, 34, 35, 36, 37, 38, 39, 40, 41] (by decide +kernel) (by decide +kernel)) (goodIn_sub (fun _ h => List.mem_cons_of_mem _ (List.mem_append_right _ h)) (by decide +kernel))
set_option maxRecDepth 20000 in
theorem gX8_isFerryUsed_X8_isPlayer : GoodIn wsX8_isFerryUsed (wsV RX8 85 RX8 yX8_isPlayer wsX8_isPlayer) := goodIn_app (goodIn_of _ (by decide +kernel)) ggX8_isFerryUsed_X8_isPlayer
set_option maxRecDepth 20000 in
theorem ggX8_isFerryUsed_X8_goes : GoodIn wsX8_isFerryUsed wsX8_goes := goodIn_r _ [13, 14, 15, 16, 5, 17, 18, 22, 23, 24, 25, 26, 27, 28, 29, 30, 31, 32, 33, 34, 35, 36, 37, 38, 39, 40, 41] (by decide +kernel) (by decide +kernel)
set_option maxRecDepth 20000 in
theorem gX8_isFerryUsed_X8_goes : GoodIn wsX8_isFerryUsed (wsV RX8 61 RX8 yX8_goes wsX8_goes) := goodIn_app (goodIn_of _ (by decide +kernel)) ggX8_isFerryUsed_X8_goes
set_option maxRecDepth 20000 in
theorem ggX8_isFerryUsed_X8_playerAt : GoodIn wsX8_isFerryUsed wsX8_playerAt := goodIn_r _ [21] (by decide +kernel) (by decide +kernel)
set_option maxRecDepth 20000 in
theorem gX8_isFerryUsed_X8_playerAt : GoodIn wsX8_isFerryUsed (va_wsS RX8 93 yX8_playerAt wsX8_playerAt) := goodIn_app (goodIn_of _ (by decide +kernel)) ggX8_isFerryUsed_X8_playerAt
theorem dX8_isFerryUsed_0 : decode cX8_isFerryUsed 0 = .ok (.aload_n 0, 1) := by decide +kernel
theorem dX8_isFerryUsed_1 : decode cX8_isFerryUsed 1 = .ok (.aload_n 0, 1) := by decide +kernel
theorem dX8_isFerryUsed_2 : decode cX8_isFerryUsed 2 = .ok (.iload_n 1, 1) := by decide +kernel
theorem dX8_isFerryUsed_3 : decode cX8_isFerryUsed 3 = .ok (.invokevirtual 85, 3) := by decide +kernel
theorem dX8_isFerryUsed_6 : decode cX8_isFerryUsed 6 = .ok (.invokevirtual 61, 3) := by decide +kernel
theorem dX8_isFerryUsed_9 : decode cX8_isFerryUsed 9 = .ok (.ifCond .eq 22, 3) := by decide +kernel
theorem dX8_isFerryUsed_12 : decode cX8_isFerryUsed 12 = .ok (.aload_n 0, 1) := by decide +kernel
theorem dX8_isFerryUsed_13 : decode cX8_isFerryUsed 13 = .ok (.getfield 9, 3) := by decide +kernel
theorem dX8_isFerryUsed_16 : decode cX8_isFerryUsed 16 = .ok (.iload_n 1, 1) := by decide +kernel
theorem dX8_isFerryUsed_17 : decode cX8_isFerryUsed 17 = .ok (.invokestatic 93, 3) := by decide +kernel
theorem dX8_isFerryUsed_20 : decode cX8_isFerryUsed 20 = .ok (.iconst 1, 1) := by decide +kernel
theorem dX8_isFerryUsed_21 : decode cX8_isFerryUsed 21 = .ok (.iadd, 1) := by decide +kernel
theorem dX8_isFerryUsed_22 : decode cX8_isFerryUsed 22 = .ok (.iaload, 1) := by decide +kernel
theorem dX8_isFerryUsed_23 : decode cX8_isFerryUsed 23 = .ok (.iconst 1, 1) := by decide +kernel
theorem dX8_isFerryUsed_24 : decode cX8_isFerryUsed 24 = .ok (.if_icmp .ne 7, 3) := by decide +kernel
theorem dX8_isFerryUsed_27 : decode cX8_isFerryUsed 27 = .ok (.iconst 1, 1) := by decide +kernel
theorem dX8_isFerryUsed_28 : decode cX8_isFerryUsed 28 = .ok (.goto 4, 3) := by decide +kernel
theorem dX8_isFerryUsed_31 : decode cX8_isFerryUsed 31 = .ok (.iconst 0, 1) := by decide +kernel
theorem dX8_isFerryUsed_32 : decode cX8_isFerryUsed 32 = .ok (.ireturn, 1) := by decide +kernel
set_option maxRecDepth 20000 in
theorem ggX8_bridgeCount_X8_isPlayer : GoodIn wsX8_bridgeCount wsX8_isPlayer := goodIn_ca (goodIn_r _ [6, 1, 7, 8, 5, 9, 30, 31, 32, 33, 34, 35, 36, 37, 38, 39, 40, 41, 42, 43, 44, 45, 46, 47, 48, 49] (by decide +kernel) (by decide +kernel)) (goodIn_sub (fun _ h => List.mem_cons_of_mem _ (List.mem_append_right _ h)) (by decide +kernel))
set_option maxRecDepth 20000 in
theorem gX8_bridgeCount_X8_isPlayer : GoodIn wsX8_bridgeCount (wsV RX8 85 RX8 yX8_isPlayer wsX8_isPlayer) := goodIn_app (goodIn_of _ (by decide +kernel)) ggX8_bridgeCount_X8_isPlayer
set_option maxRecDepth 20000 in
theorem ggX8_bridgeCount_X8_goes : GoodIn wsX8_bridgeCount wsX8_goes := goodIn_r _ [13, 14, 15, 16, 5, 17, 18, 30, 31, 32, 33, 34, 35, 36, 37, 38, 39, 40, 41, 42, 43, 44, 45, 46, 47, 48, 49] (by decide +kernel) (by decide +kernel)
set_option maxRecDepth 20000 in
theorem gX8_bridgeCount_X8_goes : GoodIn wsX8_bridgeCount (wsV RX8 61 RX8 yX8_goes wsX8_goes) := goodIn_app (goodIn_of _ (by decide +kernel)) ggX8_bridgeCount_X8_goes
set_option maxRecDepth 20000 in
theorem ggX8_bridgeCount_X8_of : GoodIn wsX8_bridgeCount wsX8_of := goodIn_ca (goodIn_r _ [22, 1, 23, 24, 25, 5, 26, 7, 8, 9, 27, 28, 29, 30, 31, 32, 33, 34, 35, 36, 37, 38, 39, 40, 41, 42, 43, 44, 45, 46, 47, 48, 49] (by decide +kernel) (by decide +kernel)) (goodIn_sub (fun _ h => List.mem_cons_of_mem _ (List.mem_append_right _ h)) (by decide +kernel))
set_option maxRecDepth 20000 in
theorem gX8_bridgeCount_X8_of : GoodIn wsX8_bridgeCount (wsV RX8 81 RX8 yX8_of wsX8_of) := goodIn_app (goodIn_of _ (by decide +kernel)) ggX8_bridgeCount_X8_of
theorem dX8_bridgeCount_0 : decode cX8_bridgeCount 0 = .ok (.aload_n 0, 1) := by decide +kernel
theorem dX8_bridgeCount_1 : decode cX8_bridgeCount 1 = .ok (.aload_n 0, 1) := by decide +kernel
theorem dX8_bridgeCount_2 : decode cX8_bridgeCount 2 = .ok (.iload_n 1, 1) := by decide +kernel
theorem dX8_bridgeCount_3 : decode cX8_bridgeCount 3 = .ok (.invokevirtual 85, 3) := by decide +kernel
theorem dX8_bridgeCount_6 : decode cX8_bridgeCount 6 = .ok (.invokevirtual 61, 3) := by decide +kernel
theorem dX8_bridgeCount_9 : decode cX8_bridgeCount 9 = .ok (.ifCond .ne 5, 3) := by decide +kernel
theorem dX8_bridgeCount_12 : decode cX8_bridgeCount 12 = .ok (.iconst 0, 1) := by decide +kernel
theorem dX8_bridgeCount_13 : decode cX8_bridgeCount 13 = .ok (.ireturn, 1) := by decide +kernel
theorem dX8_bridgeCount_14 : decode cX8_bridgeCount 14 = .ok (.iconst 0, 1) := by decide +kernel
theorem dX8_bridgeCount_15 : decode cX8_bridgeCount 15 = .ok (.istore_n 2, 1) := by decide +kernel
theorem dX8_bridgeCount_16 : decode cX8_bridgeCount 16 = .ok (.iconst 0, 1) := by decide +kernel
theorem dX8_bridgeCount_17 : decode cX8_bridgeCount 17 = .ok (.istore_n 3, 1) := by decide +kernel
theorem dX8_bridgeCount_18 : decode cX8_bridgeCount 18 = .ok (.iload_n 3, 1) := by decide +kernel
theorem dX8_bridgeCount_19 : decode cX8_bridgeCount 19 = .ok (.aload_n 0, 1) := by decide +kernel
theorem dX8_bridgeCount_20 : decode cX8_bridgeCount 20 = .ok (.getfield 9, 3) := by decide +kernel
theorem dX8_bridgeCount_23 : decode cX8_bridgeCount 23 = .ok (.iconst 2, 1) := by decide +kernel
theorem dX8_bridgeCount_24 : decode cX8_bridgeCount 24 = .ok (.iaload, 1) := by decide +kernel
theorem dX8_bridgeCount_25 : decode cX8_bridgeCount 25 = .ok (.if_icmp .ge 27, 3) := by decide +kernel
theorem dX8_bridgeCount_28 : decode cX8_bridgeCount 28 = .ok (.iload_n 2, 1) := by decide +kernel
theorem dX8_bridgeCount_29 : decode cX8_bridgeCount 29 = .ok (.aload_n 0, 1) := by decide +kernel
theorem dX8_bridgeCount_30 : decode cX8_bridgeCount 30 = .ok (.iload_n 3, 1) := by decide +kernel
theorem dX8_bridgeCount_31 : decode cX8_bridgeCount 31 = .ok (.iconst 3, 1) := by decide +kernel
theorem dX8_bridgeCount_32 : decode cX8_bridgeCount 32 = .ok (.invokevirtual 81, 3) := by decide +kernel
theorem dX8_bridgeCount_35 : decode cX8_bridgeCount 35 = .ok (.iload_n 1, 1) := by decide +kernel
theorem dX8_bridgeCount_36 : decode cX8_bridgeCount 36 = .ok (.if_icmp .ne 7, 3) := by decide +kernel
theorem dX8_bridgeCount_39 : decode cX8_bridgeCount 39 = .ok (.iconst 1, 1) := by decide +kernel
theorem dX8_bridgeCount_40 : decode cX8_bridgeCount 40 = .ok (.goto 4, 3) := by decide +kernel
theorem dX8_bridgeCount_43 : decode cX8_bridgeCount 43 = .ok (.iconst 0, 1) := by decide +kernel
theorem dX8_bridgeCount_44 : decode cX8_bridgeCount 44 = .ok (.iadd, 1) := by decide +kernel
theorem dX8_bridgeCount_45 : decode cX8_bridgeCount 45 = .ok (.istore_n 2, 1) := by decide +kernel
theorem dX8_bridgeCount_46 : decode cX8_bridgeCount 46 = .ok (.iinc 3 1, 3) := by decide +kernel
theorem dX8_bridgeCount_49 : decode cX8_bridgeCount 49 = .ok (.goto (-31), 3) := by decide +kernel
theorem dX8_bridgeCount_52 : decode cX8_bridgeCount 52 = .ok (.iload_n 2, 1) := by decide +kernel
theorem dX8_bridgeCount_53 : decode cX8_bridgeCount 53 = .ok (.ireturn, 1) := by decide +kernel
set_option maxRecDepth 20000 in
theorem ggX8_scoreOf_X8_of : GoodIn wsX8_scoreOf wsX8_of := goodIn_ca (goodIn_r _ [6, 1, 7, 8, 9, 5, 10, 11, 12, 13, 14, 15, 16, 17, 18, 19, 20, 21, 22, 23, 24, 25, 26, 27, 28, 29, 30, 31, 32, 33, 34, 35, 36] (by decide +kernel) (by decide +kernel)) (goodIn_sub (fun _ h => List.mem_cons_of_mem _ (List.mem_append_right _ h)) (by decide +kernel))
set_option maxRecDepth 20000 in
theorem gX8_scoreOf_X8_of : GoodIn wsX8_scoreOf (wsV RX8 81 RX8 yX8_of wsX8_of) := goodIn_app (goodIn_of _ (by decide +kernel)) ggX8_scoreOf_X8_of
theorem dX8_scoreOf_0 : decode cX8_scoreOf 0 = .ok (.iconst 0, 1) := by decide +kernel
theorem dX8_scoreOf_1 : decode cX8_scoreOf 1 = .ok (.istore_n 2, 1) := by decide +kernel
theorem dX8_scoreOf_2 : decode cX8_scoreOf 2 = .ok (.iconst 0, 1) := by decide +kernel
theorem dX8_scoreOf_3 : decode cX8_scoreOf 3 = .ok (.istore_n 3, 1) := by decide +kernel
theorem dX8_scoreOf_4 : decode cX8_scoreOf 4 = .ok (.iload_n 3, 1) := by decide +kernel
theorem dX8_scoreOf_5 : decode cX8_scoreOf 5 = .ok (.aload_n 0, 1) := by decide +kernel
theorem dX8_scoreOf_6 : decode cX8_scoreOf 6 = .ok (.getfield 9, 3) := by decide +kernel
theorem dX8_scoreOf_9 : decode cX8_scoreOf 9 = .ok (.iconst 2, 1) := by decide +kernel
theorem dX8_scoreOf_10 : decode cX8_scoreOf 10 = .ok (.iaload, 1) := by decide +kernel
theorem dX8_scoreOf_11 : decode cX8_scoreOf 11 = .ok (.if_icmp .ge 81, 3) := by decide +kernel
theorem dX8_scoreOf_14 : decode cX8_scoreOf 14 = .ok (.aload_n 0, 1) := by decide +kernel
theorem dX8_scoreOf_15 : decode cX8_scoreOf 15 = .ok (.getfield 9, 3) := by decide +kernel
theorem dX8_scoreOf_18 : decode cX8_scoreOf 18 = .ok (.bipush 6, 2) := by decide +kernel
theorem dX8_scoreOf_20 : decode cX8_scoreOf 20 = .ok (.aload_n 0, 1) := by decide +kernel
theorem dX8_scoreOf_21 : decode cX8_scoreOf 21 = .ok (.iload_n 3, 1) := by decide +kernel
theorem dX8_scoreOf_22 : decode cX8_scoreOf 22 = .ok (.iconst 0, 1) := by decide +kernel
theorem dX8_scoreOf_23 : decode cX8_scoreOf 23 = .ok (.invokevirtual 81, 3) := by decide +kernel
theorem dX8_scoreOf_26 : decode cX8_scoreOf 26 = .ok (.iadd, 1) := by decide +kernel
theorem dX8_scoreOf_27 : decode cX8_scoreOf 27 = .ok (.iaload, 1) := by decide +kernel
theorem dX8_scoreOf_28 : decode cX8_scoreOf 28 = .ok (.aload_n 0, 1) := by decide +kernel
theorem dX8_scoreOf_29 : decode cX8_scoreOf 29 = .ok (.getfield 9, 3) := by decide +kernel
theorem dX8_scoreOf_32 : decode cX8_scoreOf 32 = .ok (.bipush 6, 2) := by decide +kernel
theorem dX8_scoreOf_34 : decode cX8_scoreOf 34 = .ok (.aload_n 0, 1) := by decide +kernel
theorem dX8_scoreOf_35 : decode cX8_scoreOf 35 = .ok (.iload_n 3, 1) := by decide +kernel
theorem dX8_scoreOf_36 : decode cX8_scoreOf 36 = .ok (.iconst 1, 1) := by decide +kernel
theorem dX8_scoreOf_37 : decode cX8_scoreOf 37 = .ok (.invokevirtual 81, 3) := by decide +kernel
theorem dX8_scoreOf_40 : decode cX8_scoreOf 40 = .ok (.iadd, 1) := by decide +kernel
theorem dX8_scoreOf_41 : decode cX8_scoreOf 41 = .ok (.iaload, 1) := by decide +kernel
theorem dX8_scoreOf_42 : decode cX8_scoreOf 42 = .ok (.if_icmp .ne 7, 3) := by decide +kernel
theorem dX8_scoreOf_45 : decode cX8_scoreOf 45 = .ok (.iconst 1, 1) := by decide +kernel
theorem dX8_scoreOf_46 : decode cX8_scoreOf 46 = .ok (.goto 4, 3) := by decide +kernel
theorem dX8_scoreOf_49 : decode cX8_scoreOf 49 = .ok (.iconst 0, 1) := by decide +kernel
theorem dX8_scoreOf_50 : decode cX8_scoreOf 50 = .ok (.istore 4, 2) := by decide +kernel
theorem dX8_scoreOf_52 : decode cX8_scoreOf 52 = .ok (.iload_n 2, 1) := by decide +kernel
theorem dX8_scoreOf_53 : decode cX8_scoreOf 53 = .ok (.aload_n 0, 1) := by decide +kernel
theorem dX8_scoreOf_54 : decode cX8_scoreOf 54 = .ok (.iload_n 3, 1) := by decide +kernel
theorem dX8_scoreOf_55 : decode cX8_scoreOf 55 = .ok (.iconst 3, 1) := by decide +kernel
theorem dX8_scoreOf_56 : decode cX8_scoreOf 56 = .ok (.invokevirtual 81, 3) := by decide +kernel
theorem dX8_scoreOf_59 : decode cX8_scoreOf 59 = .ok (.iload_n 1, 1) := by decide +kernel
theorem dX8_scoreOf_60 : decode cX8_scoreOf 60 = .ok (.if_icmp .ne 23, 3) := by decide +kernel
theorem dX8_scoreOf_63 : decode cX8_scoreOf 63 = .ok (.aload_n 0, 1) := by decide +kernel
theorem dX8_scoreOf_64 : decode cX8_scoreOf 64 = .ok (.iload_n 3, 1) := by decide +kernel
theorem dX8_scoreOf_65 : decode cX8_scoreOf 65 = .ok (.iconst 2, 1) := by decide +kernel
theorem dX8_scoreOf_66 : decode cX8_scoreOf 66 = .ok (.invokevirtual 81, 3) := by decide +kernel
theorem dX8_scoreOf_69 : decode cX8_scoreOf 69 = .ok (.iload 4, 2) := by decide +kernel
theorem dX8_scoreOf_71 : decode cX8_scoreOf 71 = .ok (.ifCond .eq 7, 3) := by decide +kernel
theorem dX8_scoreOf_74 : decode cX8_scoreOf 74 = .ok (.iconst 3, 1) := by decide +kernel
theorem dX8_scoreOf_75 : decode cX8_scoreOf 75 = .ok (.goto 4, 3) := by decide +kernel
theorem dX8_scoreOf_78 : decode cX8_scoreOf 78 = .ok (.iconst 0, 1) := by decide +kernel
theorem dX8_scoreOf_79 : decode cX8_scoreOf 79 = .ok (.iadd, 1) := by decide +kernel
theorem dX8_scoreOf_80 : decode cX8_scoreOf 80 = .ok (.goto 4, 3) := by decide +kernel
theorem dX8_scoreOf_83 : decode cX8_scoreOf 83 = .ok (.iconst 0, 1) := by decide +kernel
theorem dX8_scoreOf_84 : decode cX8_scoreOf 84 = .ok (.iadd, 1) := by decide +kernel
theorem dX8_scoreOf_85 : decode cX8_scoreOf 85 = .ok (.istore_n 2, 1) := by decide +kernel
theorem dX8_scoreOf_86 : decode cX8_scoreOf 86 = .ok (.iinc 3 1, 3) := by decide +kernel
theorem dX8_scoreOf_89 : decode cX8_scoreOf 89 = .ok (.goto (-85), 3) := by decide +kernel
theorem dX8_scoreOf_92 : decode cX8_scoreOf 92 = .ok (.iload_n 2, 1) := by decide +kernel
theorem dX8_scoreOf_93 : decode cX8_scoreOf 93 = .ok (.ireturn, 1) := by decide +kernel
set_option maxRecDepth 20000 in
theorem ggX8_score_X8_isPlayer : GoodIn wsX8_score wsX8_isPlayer := goodIn_ca (goodIn_r _ [5, 6, 7, 8, 4, 9, 34, 35, 36, 37, 38, 39, 40, 41, 42, 43, 44, 45, 46, 47, 48, 49, 50, 51, 52, 53] (by decide +kernel) (by decide +kernel)) (goodIn_sub (fun _ h => List.mem_cons_of_mem _ (List.mem_append_right _ h)) (by decide +kernel))
set_option maxRecDepth 20000 in
theorem gX8_score_X8_isPlayer : GoodIn wsX8_score (wsV RX8 85 RX8 yX8_isPlayer wsX8_isPlayer) := goodIn_app (goodIn_of _ (by decide +kernel)) ggX8_score_X8_isPlayer
set_option maxRecDepth 20000 in
theorem ggX8_score_X8_goes : GoodIn wsX8_score wsX8_goes := goodIn_r _ [13, 14, 15, 16, 4, 17, 18, 34, 35, 36, 37, 38, 39, 40, 41, 42, 43, 44, 45, 46, 47, 48, 49, 50, 51, 52, 53] (by decide +kernel) (by decide +kernel)
set_option maxRecDepth 20000 in
theorem gX8_score_X8_goes : GoodIn wsX8_score (wsV RX8 61 RX8 yX8_goes wsX8_goes) := goodIn_app (goodIn_of _ (by decide +kernel)) ggX8_score_X8_goes
set_option maxRecDepth 20000 in
theorem ggX8_score_X8_scoreOf : GoodIn wsX8_score wsX8_scoreOf := goodIn_ca (goodIn_r _ [22, 6, 23, 24, 25, 4, 26, 27, 28, 29, 30, 7, 8, 9, 31, 32, 33, 34, 35, 36, 37, 38, 39, 40, 41, 42, 43, 44, 45, 46, 47, 48, 49, 50, 51, 52, 53] (by decide +kernel) (by decide +kernel)) (goodIn_sub (fun _ h => List.mem_cons_of_mem _ (List.mem_append_right _ h)) (by decide +kernel))
set_option maxRecDepth 20000 in
theorem gX8_score_X8_scoreOf : GoodIn wsX8_score (wsV RX8 165 RX8 yX8_scoreOf wsX8_scoreOf) := goodIn_app (goodIn_of _ (by decide +kernel)) ggX8_score_X8_scoreOf
theorem dX8_score_0 : decode cX8_score 0 = .ok (.aload_n 0, 1) := by decide +kernel
theorem dX8_score_1 : decode cX8_score 1 = .ok (.aload_n 0, 1) := by decide +kernel
theorem dX8_score_2 : decode cX8_score 2 = .ok (.iload_n 1, 1) := by decide +kernel
theorem dX8_score_3 : decode cX8_score 3 = .ok (.invokevirtual 85, 3) := by decide +kernel
theorem dX8_score_6 : decode cX8_score 6 = .ok (.invokevirtual 61, 3) := by decide +kernel
theorem dX8_score_9 : decode cX8_score 9 = .ok (.ifCond .eq 11, 3) := by decide +kernel
theorem dX8_score_12 : decode cX8_score 12 = .ok (.aload_n 0, 1) := by decide +kernel
theorem dX8_score_13 : decode cX8_score 13 = .ok (.iload_n 1, 1) := by decide +kernel
theorem dX8_score_14 : decode cX8_score 14 = .ok (.invokevirtual 165, 3) := by decide +kernel
theorem dX8_score_17 : decode cX8_score 17 = .ok (.goto 4, 3) := by decide +kernel
theorem dX8_score_20 : decode cX8_score 20 = .ok (.iconst 0, 1) := by decide +kernel
theorem dX8_score_21 : decode cX8_score 21 = .ok (.ireturn, 1) := by decide +kernel
theorem dX8_siteCount_0 : decode cX8_siteCount 0 = .ok (.aload_n 0, 1) := by decide +kernel
theorem dX8_siteCount_1 : decode cX8_siteCount 1 = .ok (.iconst 0, 1) := by decide +kernel
theorem dX8_siteCount_2 : decode cX8_siteCount 2 = .ok (.putfield 44, 3) := by decide +kernel
theorem dX8_siteCount_5 : decode cX8_siteCount 5 = .ok (.aload_n 0, 1) := by decide +kernel
theorem dX8_siteCount_6 : decode cX8_siteCount 6 = .ok (.getfield 9, 3) := by decide +kernel
theorem dX8_siteCount_9 : decode cX8_siteCount 9 = .ok (.iconst 2, 1) := by decide +kernel
theorem dX8_siteCount_10 : decode cX8_siteCount 10 = .ok (.iaload, 1) := by decide +kernel
theorem dX8_siteCount_11 : decode cX8_siteCount 11 = .ok (.ireturn, 1) := by decide +kernel
set_option maxRecDepth 20000 in
theorem ggX8_lowerIsland_X8_isSite : GoodIn wsX8_lowerIsland wsX8_isSite := goodIn_ca (goodIn_r _ [5, 6, 7, 8, 4, 9, 26, 27, 28, 29, 30, 31, 32, 33, 34, 35, 36, 37, 38, 39, 40, 41, 42, 43, 44, 45] (by decide +kernel) (by decide +kernel)) (goodIn_sub (fun _ h => List.mem_cons_of_mem _ (List.mem_append_right _ h)) (by decide +kernel))
set_option maxRecDepth 20000 in
theorem gX8_lowerIsland_X8_isSite : GoodIn wsX8_lowerIsland (wsV RX8 73 RX8 yX8_isSite wsX8_isSite) := goodIn_app (goodIn_of _ (by decide +kernel)) ggX8_lowerIsland_X8_isSite
set_option maxRecDepth 20000 in
theorem ggX8_lowerIsland_X8_goes : GoodIn wsX8_lowerIsland wsX8_goes := goodIn_r _ [13, 14, 15, 16, 4, 17, 18, 26, 27, 28, 29, 30, 31, 32, 33, 34, 35, 36, 37, 38, 39, 40, 41, 42, 43, 44, 45] (by decide +kernel) (by decide +kernel)
set_option maxRecDepth 20000 in
theorem gX8_lowerIsland_X8_goes : GoodIn wsX8_lowerIsland (wsV RX8 61 RX8 yX8_goes wsX8_goes) := goodIn_app (goodIn_of _ (by decide +kernel)) ggX8_lowerIsland_X8_goes
set_option maxRecDepth 20000 in
theorem ggX8_lowerIsland_X8_of : GoodIn wsX8_lowerIsland wsX8_of := goodIn_ca (goodIn_r _ [22, 6, 1, 2, 3, 4, 5, 7, 8, 9, 23, 24, 25, 26, 27, 28, 29, 30, 31, 32, 33, 34, 35, 36, 37, 38, 39, 40, 41, 42, 43, 44, 45] (by decide +kernel) (by decide +kernel)) (goodIn_sub (fun _ h => List.mem_cons_of_mem _ (List.mem_append_right _ h)) (by decide +kernel))
set_option maxRecDepth 20000 in
theorem gX8_lowerIsland_X8_of : GoodIn wsX8_lowerIsland (wsV RX8 81 RX8 yX8_of wsX8_of) := goodIn_app (goodIn_of _ (by decide +kernel)) ggX8_lowerIsland_X8_of
theorem dX8_lowerIsland_0 : decode cX8_lowerIsland 0 = .ok (.aload_n 0, 1) := by decide +kernel
theorem dX8_lowerIsland_1 : decode cX8_lowerIsland 1 = .ok (.aload_n 0, 1) := by decide +kernel
theorem dX8_lowerIsland_2 : decode cX8_lowerIsland 2 = .ok (.iload_n 1, 1) := by decide +kernel
theorem dX8_lowerIsland_3 : decode cX8_lowerIsland 3 = .ok (.invokevirtual 73, 3) := by decide +kernel
theorem dX8_lowerIsland_6 : decode cX8_lowerIsland 6 = .ok (.invokevirtual 61, 3) := by decide +kernel
theorem dX8_lowerIsland_9 : decode cX8_lowerIsland 9 = .ok (.ifCond .eq 12, 3) := by decide +kernel
theorem dX8_lowerIsland_12 : decode cX8_lowerIsland 12 = .ok (.aload_n 0, 1) := by decide +kernel
theorem dX8_lowerIsland_13 : decode cX8_lowerIsland 13 = .ok (.iload_n 1, 1) := by decide +kernel
theorem dX8_lowerIsland_14 : decode cX8_lowerIsland 14 = .ok (.iconst 0, 1) := by decide +kernel
theorem dX8_lowerIsland_15 : decode cX8_lowerIsland 15 = .ok (.invokevirtual 81, 3) := by decide +kernel
theorem dX8_lowerIsland_18 : decode cX8_lowerIsland 18 = .ok (.goto 4, 3) := by decide +kernel
theorem dX8_lowerIsland_21 : decode cX8_lowerIsland 21 = .ok (.iconst 0, 1) := by decide +kernel
theorem dX8_lowerIsland_22 : decode cX8_lowerIsland 22 = .ok (.ireturn, 1) := by decide +kernel
set_option maxRecDepth 20000 in
theorem ggX8_higherIsland_X8_isSite : GoodIn wsX8_higherIsland wsX8_isSite := goodIn_ca (goodIn_r _ [5, 6, 7, 8, 4, 9, 26, 27, 28, 29, 30, 31, 32, 33, 34, 35, 36, 37, 38, 39, 40, 41, 42, 43, 44, 45] (by decide +kernel) (by decide +kernel)) (goodIn_sub (fun _ h => List.mem_cons_of_mem _ (List.mem_append_right _ h)) (by decide +kernel))
set_option maxRecDepth 20000 in
theorem gX8_higherIsland_X8_isSite : GoodIn wsX8_higherIsland (wsV RX8 73 RX8 yX8_isSite wsX8_isSite) := goodIn_app (goodIn_of _ (by decide +kernel)) ggX8_higherIsland_X8_isSite
set_option maxRecDepth 20000 in
theorem ggX8_higherIsland_X8_goes : GoodIn wsX8_higherIsland wsX8_goes := goodIn_r _ [13, 14, 15, 16, 4, 17, 18, 26, 27, 28, 29, 30, 31, 32, 33, 34, 35, 36, 37, 38, 39, 40, 41, 42, 43, 44, 45] (by decide +kernel) (by decide +kernel)
set_option maxRecDepth 20000 in
theorem gX8_higherIsland_X8_goes : GoodIn wsX8_higherIsland (wsV RX8 61 RX8 yX8_goes wsX8_goes) := goodIn_app (goodIn_of _ (by decide +kernel)) ggX8_higherIsland_X8_goes
set_option maxRecDepth 20000 in
theorem ggX8_higherIsland_X8_of : GoodIn wsX8_higherIsland wsX8_of := goodIn_ca (goodIn_r _ [22, 6, 1, 2, 3, 4, 5, 7, 8, 9, 23, 24, 25, 26, 27, 28, 29, 30, 31, 32, 33, 34, 35, 36, 37, 38, 39, 40, 41, 42, 43, 44, 45] (by decide +kernel) (by decide +kernel)) (goodIn_sub (fun _ h => List.mem_cons_of_mem _ (List.mem_append_right _ h)) (by decide +kernel))
set_option maxRecDepth 20000 in
theorem gX8_higherIsland_X8_of : GoodIn wsX8_higherIsland (wsV RX8 81 RX8 yX8_of wsX8_of) := goodIn_app (goodIn_of _ (by decide +kernel)) ggX8_higherIsland_X8_of
theorem dX8_higherIsland_0 : decode cX8_higherIsland 0 = .ok (.aload_n 0, 1) := by decide +kernel
theorem dX8_higherIsland_1 : decode cX8_higherIsland 1 = .ok (.aload_n 0, 1) := by decide +kernel
theorem dX8_higherIsland_2 : decode cX8_higherIsland 2 = .ok (.iload_n 1, 1) := by decide +kernel
theorem dX8_higherIsland_3 : decode cX8_higherIsland 3 = .ok (.invokevirtual 73, 3) := by decide +kernel
theorem dX8_higherIsland_6 : decode cX8_higherIsland 6 = .ok (.invokevirtual 61, 3) := by decide +kernel
theorem dX8_higherIsland_9 : decode cX8_higherIsland 9 = .ok (.ifCond .eq 12, 3) := by decide +kernel
theorem dX8_higherIsland_12 : decode cX8_higherIsland 12 = .ok (.aload_n 0, 1) := by decide +kernel
theorem dX8_higherIsland_13 : decode cX8_higherIsland 13 = .ok (.iload_n 1, 1) := by decide +kernel
theorem dX8_higherIsland_14 : decode cX8_higherIsland 14 = .ok (.iconst 1, 1) := by decide +kernel
theorem dX8_higherIsland_15 : decode cX8_higherIsland 15 = .ok (.invokevirtual 81, 3) := by decide +kernel
theorem dX8_higherIsland_18 : decode cX8_higherIsland 18 = .ok (.goto 4, 3) := by decide +kernel
theorem dX8_higherIsland_21 : decode cX8_higherIsland 21 = .ok (.iconst 0, 1) := by decide +kernel
theorem dX8_higherIsland_22 : decode cX8_higherIsland 22 = .ok (.ireturn, 1) := by decide +kernel
set_option maxRecDepth 20000 in
theorem ggX8_length_X8_isSite : GoodIn wsX8_length wsX8_isSite := goodIn_ca (goodIn_r _ [5, 6, 7, 8, 4, 9, 26, 27, 28, 29, 30, 31, 32, 33, 34, 35, 36, 37, 38, 39, 40, 41, 42, 43, 44, 45] (by decide +kernel) (by decide +kernel)) (goodIn_sub (fun _ h => List.mem_cons_of_mem _ (List.mem_append_right _ h)) (by decide +kernel))
set_option maxRecDepth 20000 in
theorem gX8_length_X8_isSite : GoodIn wsX8_length (wsV RX8 73 RX8 yX8_isSite wsX8_isSite) := goodIn_app (goodIn_of _ (by decide +kernel)) ggX8_length_X8_isSite
set_option maxRecDepth 20000 in
theorem ggX8_length_X8_goes : GoodIn wsX8_length wsX8_goes := goodIn_r _ [13, 14, 15, 16, 4, 17, 18, 26, 27, 28, 29, 30, 31, 32, 33, 34, 35, 36, 37, 38, 39, 40, 41, 42, 43, 44, 45] (by decide +kernel) (by decide +kernel)
set_option maxRecDepth 20000 in
theorem gX8_length_X8_goes : GoodIn wsX8_length (wsV RX8 61 RX8 yX8_goes wsX8_goes) := goodIn_app (goodIn_of _ (by decide +kernel)) ggX8_length_X8_goes
set_option maxRecDepth 20000 in
theorem ggX8_length_X8_of : GoodIn wsX8_length wsX8_of := goodIn_ca (goodIn_r _ [22, 6, 1, 2, 3, 4, 5, 7, 8, 9, 23, 24, 25, 26, 27, 28, 29, 30, 31, 32, 33, 34, 35, 36, 37, 38, 39, 40, 41, 42, 43, 44, 45] (by decide +kernel) (by decide +kernel)) (goodIn_sub (fun _ h => List.mem_cons_of_mem _ (List.mem_append_right _ h)) (by decide +kernel))
set_option maxRecDepth 20000 in
theorem gX8_length_X8_of : GoodIn wsX8_length (wsV RX8 81 RX8 yX8_of wsX8_of) := goodIn_app (goodIn_of _ (by decide +kernel)) ggX8_length_X8_of
theorem dX8_length_0 : decode cX8_length 0 = .ok (.aload_n 0, 1) := by decide +kernel
theorem dX8_length_1 : decode cX8_length 1 = .ok (.aload_n 0, 1) := by decide +kernel
theorem dX8_length_2 : decode cX8_length 2 = .ok (.iload_n 1, 1) := by decide +kernel
theorem dX8_length_3 : decode cX8_length 3 = .ok (.invokevirtual 73, 3) := by decide +kernel
theorem dX8_length_6 : decode cX8_length 6 = .ok (.invokevirtual 61, 3) := by decide +kernel
theorem dX8_length_9 : decode cX8_length 9 = .ok (.ifCond .eq 12, 3) := by decide +kernel
theorem dX8_length_12 : decode cX8_length 12 = .ok (.aload_n 0, 1) := by decide +kernel
theorem dX8_length_13 : decode cX8_length 13 = .ok (.iload_n 1, 1) := by decide +kernel
theorem dX8_length_14 : decode cX8_length 14 = .ok (.iconst 2, 1) := by decide +kernel
theorem dX8_length_15 : decode cX8_length 15 = .ok (.invokevirtual 81, 3) := by decide +kernel
theorem dX8_length_18 : decode cX8_length 18 = .ok (.goto 4, 3) := by decide +kernel
theorem dX8_length_21 : decode cX8_length 21 = .ok (.iconst 0, 1) := by decide +kernel
theorem dX8_length_22 : decode cX8_length 22 = .ok (.ireturn, 1) := by decide +kernel
set_option maxRecDepth 20000 in
theorem ggX8_buildingCost_X8_isSite : GoodIn wsX8_buildingCost wsX8_isSite := goodIn_ca (goodIn_r _ [5, 6, 7, 8, 4, 9, 30, 31, 32, 33, 34, 35, 36, 37, 38, 39, 40, 41, 42, 43, 44, 45, 46, 47, 48, 49] (by decide +kernel) (by decide +kernel)) (goodIn_sub (fun _ h => List.mem_cons_of_mem _ (List.mem_append_right _ h)) (by decide +kernel))
set_option maxRecDepth 20000 in
theorem gX8_buildingCost_X8_isSite : GoodIn wsX8_buildingCost (wsV RX8 73 RX8 yX8_isSite wsX8_isSite) := goodIn_app (goodIn_of _ (by decide +kernel)) ggX8_buildingCost_X8_isSite
set_option maxRecDepth 20000 in
theorem ggX8_buildingCost_X8_goes : GoodIn wsX8_buildingCost wsX8_goes := goodIn_r _ [13, 14, 15, 16, 4, 17, 18, 30, 31, 32, 33, 34, 35, 36, 37, 38, 39, 40, 41, 42, 43, 44, 45, 46, 47, 48, 49] (by decide +kernel) (by decide +kernel)
set_option maxRecDepth 20000 in
theorem gX8_buildingCost_X8_goes : GoodIn wsX8_buildingCost (wsV RX8 61 RX8 yX8_goes wsX8_goes) := goodIn_app (goodIn_of _ (by decide +kernel)) ggX8_buildingCost_X8_goes
set_option maxRecDepth 20000 in
theorem ggX8_buildingCost_X8_costOf : GoodIn wsX8_buildingCost wsX8_costOf := goodIn_ca (goodIn_r _ [22, 6, 23, 24, 25, 4, 26, 1, 2, 3, 5, 7, 8, 9, 27, 28, 29, 30, 31, 32, 33, 34, 35, 36, 37, 38, 39, 40, 41, 42, 43, 44, 45, 46, 47, 48, 49] (by decide +kernel) (by decide +kernel)) (goodIn_sub (fun _ h => List.mem_cons_of_mem _ (List.mem_append_right _ h)) (by decide +kernel))
set_option maxRecDepth 20000 in
theorem gX8_buildingCost_X8_costOf : GoodIn wsX8_buildingCost (wsV RX8 102 RX8 yX8_costOf wsX8_costOf) := goodIn_app (goodIn_of _ (by decide +kernel)) ggX8_buildingCost_X8_costOf
theorem dX8_buildingCost_0 : decode cX8_buildingCost 0 = .ok (.aload_n 0, 1) := by decide +kernel
theorem dX8_buildingCost_1 : decode cX8_buildingCost 1 = .ok (.aload_n 0, 1) := by decide +kernel
theorem dX8_buildingCost_2 : decode cX8_buildingCost 2 = .ok (.iload_n 1, 1) := by decide +kernel
theorem dX8_buildingCost_3 : decode cX8_buildingCost 3 = .ok (.invokevirtual 73, 3) := by decide +kernel
theorem dX8_buildingCost_6 : decode cX8_buildingCost 6 = .ok (.invokevirtual 61, 3) := by decide +kernel
theorem dX8_buildingCost_9 : decode cX8_buildingCost 9 = .ok (.ifCond .eq 11, 3) := by decide +kernel
theorem dX8_buildingCost_12 : decode cX8_buildingCost 12 = .ok (.aload_n 0, 1) := by decide +kernel
theorem dX8_buildingCost_13 : decode cX8_buildingCost 13 = .ok (.iload_n 1, 1) := by decide +kernel
theorem dX8_buildingCost_14 : decode cX8_buildingCost 14 = .ok (.invokevirtual 102, 3) := by decide +kernel
theorem dX8_buildingCost_17 : decode cX8_buildingCost 17 = .ok (.goto 4, 3) := by decide +kernel
theorem dX8_buildingCost_20 : decode cX8_buildingCost 20 = .ok (.iconst 0, 1) := by decide +kernel
theorem dX8_buildingCost_21 : decode cX8_buildingCost 21 = .ok (.ireturn, 1) := by decide +kernel
set_option maxRecDepth 20000 in
theorem ggX8_isBuilt_X8_isSite : GoodIn wsX8_isBuilt wsX8_isSite := goodIn_ca (goodIn_r _ [5, 6, 7, 8, 4, 9, 30, 31, 32, 33, 34, 35, 36, 37, 38, 39, 40, 41, 42, 43, 44, 45, 46, 47, 48, 49] (by decide +kernel) (by decide +kernel)) (goodIn_sub (fun _ h => List.mem_cons_of_mem _ (List.mem_append_right _ h)) (by decide +kernel))
set_option maxRecDepth 20000 in
theorem gX8_isBuilt_X8_isSite : GoodIn wsX8_isBuilt (wsV RX8 73 RX8 yX8_isSite wsX8_isSite) := goodIn_app (goodIn_of _ (by decide +kernel)) ggX8_isBuilt_X8_isSite
set_option maxRecDepth 20000 in
theorem ggX8_isBuilt_X8_goes : GoodIn wsX8_isBuilt wsX8_goes := goodIn_r _ [13, 14, 15, 16, 4, 17, 18, 30, 31, 32, 33, 34, 35, 36, 37, 38, 39, 40, 41, 42, 43, 44, 45, 46, 47, 48, 49] (by decide +kernel) (by decide +kernel)
set_option maxRecDepth 20000 in
theorem gX8_isBuilt_X8_goes : GoodIn wsX8_isBuilt (wsV RX8 61 RX8 yX8_goes wsX8_goes) := goodIn_app (goodIn_of _ (by decide +kernel)) ggX8_isBuilt_X8_goes
set_option maxRecDepth 20000 in
theorem ggX8_isBuilt_X8_isDone : GoodIn wsX8_isBuilt wsX8_isDone := goodIn_ca (goodIn_r _ [22, 1, 2, 3, 4, 5, 6, 7, 8, 9, 23, 24, 25, 26, 27, 28, 29, 30, 31, 32, 33, 34, 35, 36, 37, 38, 39, 40, 41, 42, 43, 44, 45, 46, 47, 48, 49] (by decide +kernel) (by decide +kernel)) (goodIn_sub (fun _ h => List.mem_cons_of_mem _ (List.mem_append_right _ h)) (by decide +kernel))
set_option maxRecDepth 20000 in
theorem gX8_isBuilt_X8_isDone : GoodIn wsX8_isBuilt (wsV RX8 134 RX8 yX8_isDone wsX8_isDone) := goodIn_app (goodIn_of _ (by decide +kernel)) ggX8_isBuilt_X8_isDone
theorem dX8_isBuilt_0 : decode cX8_isBuilt 0 = .ok (.aload_n 0, 1) := by decide +kernel
theorem dX8_isBuilt_1 : decode cX8_isBuilt 1 = .ok (.aload_n 0, 1) := by decide +kernel
theorem dX8_isBuilt_2 : decode cX8_isBuilt 2 = .ok (.iload_n 1, 1) := by decide +kernel
theorem dX8_isBuilt_3 : decode cX8_isBuilt 3 = .ok (.invokevirtual 73, 3) := by decide +kernel
theorem dX8_isBuilt_6 : decode cX8_isBuilt 6 = .ok (.invokevirtual 61, 3) := by decide +kernel
theorem dX8_isBuilt_9 : decode cX8_isBuilt 9 = .ok (.ifCond .eq 15, 3) := by decide +kernel
theorem dX8_isBuilt_12 : decode cX8_isBuilt 12 = .ok (.aload_n 0, 1) := by decide +kernel
theorem dX8_isBuilt_13 : decode cX8_isBuilt 13 = .ok (.iload_n 1, 1) := by decide +kernel
theorem dX8_isBuilt_14 : decode cX8_isBuilt 14 = .ok (.invokevirtual 134, 3) := by decide +kernel
theorem dX8_isBuilt_17 : decode cX8_isBuilt 17 = .ok (.ifCond .eq 7, 3) := by decide +kernel
theorem dX8_isBuilt_20 : decode cX8_isBuilt 20 = .ok (.iconst 1, 1) := by decide +kernel
theorem dX8_isBuilt_21 : decode cX8_isBuilt 21 = .ok (.goto 4, 3) := by decide +kernel
theorem dX8_isBuilt_24 : decode cX8_isBuilt 24 = .ok (.iconst 0, 1) := by decide +kernel
theorem dX8_isBuilt_25 : decode cX8_isBuilt 25 = .ok (.ireturn, 1) := by decide +kernel
set_option maxRecDepth 20000 in
theorem ggX8_builder_X8_isSite : GoodIn wsX8_builder wsX8_isSite := goodIn_ca (goodIn_r _ [5, 6, 7, 8, 4, 9, 26, 27, 28, 29, 30, 31, 32, 33, 34, 35, 36, 37, 38, 39, 40, 41, 42, 43, 44, 45] (by decide +kernel) (by decide +kernel)) (goodIn_sub (fun _ h => List.mem_cons_of_mem _ (List.mem_append_right _ h)) (by decide +kernel))
set_option maxRecDepth 20000 in
theorem gX8_builder_X8_isSite : GoodIn wsX8_builder (wsV RX8 73 RX8 yX8_isSite wsX8_isSite) := goodIn_app (goodIn_of _ (by decide +kernel)) ggX8_builder_X8_isSite
set_option maxRecDepth 20000 in
theorem ggX8_builder_X8_isDone : GoodIn wsX8_builder wsX8_isDone := goodIn_ca (goodIn_r _ [13, 1, 2, 3, 4, 5, 6, 7, 8, 9, 14, 15, 16, 17, 18, 19, 20, 26, 27, 28, 29, 30, 31, 32, 33, 34, 35, 36, 37, 38, 39, 40, 41, 42, 43, 44, 45] (by decide +kernel) (by decide +kernel)) (goodIn_sub (fun _ h => List.mem_cons_of_mem _ (List.mem_append_right _ h)) (by decide +kernel))
set_option maxRecDepth 20000 in
theorem gX8_builder_X8_isDone : GoodIn wsX8_builder (wsV RX8 134 RX8 yX8_isDone wsX8_isDone) := goodIn_app (goodIn_of _ (by decide +kernel)) ggX8_builder_X8_isDone
set_option maxRecDepth 20000 in
theorem ggX8_builder_X8_holds : GoodIn wsX8_builder wsX8_holds := goodIn_r _ [24, 25, 26, 27, 28, 29, 30, 31, 32, 33, 34, 35, 36, 37, 38, 39, 40, 41, 42, 43, 44, 45] (by decide +kernel) (by decide +kernel)
set_option maxRecDepth 20000 in
theorem gX8_builder_X8_holds : GoodIn wsX8_builder (wsV RX8 47 RX8 yX8_holds wsX8_holds) := goodIn_app (goodIn_of _ (by decide +kernel)) ggX8_builder_X8_holds
set_option maxRecDepth 20000 in
theorem ggX8_builder_X8_of : GoodIn wsX8_builder wsX8_of := goodIn_ca (goodIn_r _ [17, 6, 1, 2, 3, 4, 5, 7, 8, 9, 18, 19, 20, 26, 27, 28, 29, 30, 31, 32, 33, 34, 35, 36, 37, 38, 39, 40, 41, 42, 43, 44, 45] (by decide +kernel) (by decide +kernel)) (goodIn_sub (fun _ h => List.mem_cons_of_mem _ (List.mem_append_right _ h)) (by decide +kernel))
set_option maxRecDepth 20000 in
theorem gX8_builder_X8_of : GoodIn wsX8_builder (wsV RX8 81 RX8 yX8_of wsX8_of) := goodIn_app (goodIn_of _ (by decide +kernel)) ggX8_builder_X8_of
theorem dX8_builder_0 : decode cX8_builder 0 = .ok (.aload_n 0, 1) := by decide +kernel
theorem dX8_builder_1 : decode cX8_builder 1 = .ok (.aload_n 0, 1) := by decide +kernel
theorem dX8_builder_2 : decode cX8_builder 2 = .ok (.iload_n 1, 1) := by decide +kernel
theorem dX8_builder_3 : decode cX8_builder 3 = .ok (.invokevirtual 73, 3) := by decide +kernel
theorem dX8_builder_6 : decode cX8_builder 6 = .ok (.aload_n 0, 1) := by decide +kernel
theorem dX8_builder_7 : decode cX8_builder 7 = .ok (.iload_n 1, 1) := by decide +kernel
theorem dX8_builder_8 : decode cX8_builder 8 = .ok (.invokevirtual 134, 3) := by decide +kernel
theorem dX8_builder_11 : decode cX8_builder 11 = .ok (.iconst 1, 1) := by decide +kernel
theorem dX8_builder_12 : decode cX8_builder 12 = .ok (.iconst 1, 1) := by decide +kernel
theorem dX8_builder_13 : decode cX8_builder 13 = .ok (.invokevirtual 47, 3) := by decide +kernel
theorem dX8_builder_16 : decode cX8_builder 16 = .ok (.ifCond .eq 12, 3) := by decide +kernel
theorem dX8_builder_19 : decode cX8_builder 19 = .ok (.aload_n 0, 1) := by decide +kernel
theorem dX8_builder_20 : decode cX8_builder 20 = .ok (.iload_n 1, 1) := by decide +kernel
theorem dX8_builder_21 : decode cX8_builder 21 = .ok (.iconst 3, 1) := by decide +kernel
theorem dX8_builder_22 : decode cX8_builder 22 = .ok (.invokevirtual 81, 3) := by decide +kernel
theorem dX8_builder_25 : decode cX8_builder 25 = .ok (.goto 4, 3) := by decide +kernel
theorem dX8_builder_28 : decode cX8_builder 28 = .ok (.iconst 0, 1) := by decide +kernel
theorem dX8_builder_29 : decode cX8_builder 29 = .ok (.ireturn, 1) := by decide +kernel
set_option maxRecDepth 20000 in
theorem ggX8_bidCount_X8_isSite : GoodIn wsX8_bidCount wsX8_isSite := goodIn_ca (goodIn_r _ [5, 6, 7, 8, 4, 9, 30, 31, 32, 33, 34, 35, 36, 37, 38, 39, 40, 41, 42, 43, 44, 45, 46, 47, 48, 49] (by decide +kernel) (by decide +kernel)) (goodIn_sub (fun _ h => List.mem_cons_of_mem _ (List.mem_append_right _ h)) (by decide +kernel))
set_option maxRecDepth 20000 in
theorem gX8_bidCount_X8_isSite : GoodIn wsX8_bidCount (wsV RX8 73 RX8 yX8_isSite wsX8_isSite) := goodIn_app (goodIn_of _ (by decide +kernel)) ggX8_bidCount_X8_isSite
set_option maxRecDepth 20000 in
theorem ggX8_bidCount_X8_goes : GoodIn wsX8_bidCount wsX8_goes := goodIn_r _ [13, 14, 15, 16, 4, 17, 18, 30, 31, 32, 33, 34, 35, 36, 37, 38, 39, 40, 41, 42, 43, 44, 45, 46, 47, 48, 49] (by decide +kernel) (by decide +kernel)
set_option maxRecDepth 20000 in
theorem gX8_bidCount_X8_goes : GoodIn wsX8_bidCount (wsV RX8 61 RX8 yX8_goes wsX8_goes) := goodIn_app (goodIn_of _ (by decide +kernel)) ggX8_bidCount_X8_goes
set_option maxRecDepth 20000 in
theorem ggX8_bidCount_X8_bidsOn : GoodIn wsX8_bidCount wsX8_bidsOn := goodIn_ca (goodIn_r _ [22, 23, 24, 25, 4, 26, 6, 1, 2, 3, 5, 7, 8, 9, 27, 28, 29, 30, 31, 32, 33, 34, 35, 36, 37, 38, 39, 40, 41, 42, 43, 44, 45, 46, 47, 48, 49] (by decide +kernel) (by decide +kernel)) (goodIn_sub (fun _ h => List.mem_cons_of_mem _ (List.mem_append_right _ h)) (by decide +kernel))
set_option maxRecDepth 20000 in
theorem gX8_bidCount_X8_bidsOn : GoodIn wsX8_bidCount (wsV RX8 143 RX8 yX8_bidsOn wsX8_bidsOn) := goodIn_app (goodIn_of _ (by decide +kernel)) ggX8_bidCount_X8_bidsOn
theorem dX8_bidCount_0 : decode cX8_bidCount 0 = .ok (.aload_n 0, 1) := by decide +kernel
theorem dX8_bidCount_1 : decode cX8_bidCount 1 = .ok (.aload_n 0, 1) := by decide +kernel
theorem dX8_bidCount_2 : decode cX8_bidCount 2 = .ok (.iload_n 1, 1) := by decide +kernel
theorem dX8_bidCount_3 : decode cX8_bidCount 3 = .ok (.invokevirtual 73, 3) := by decide +kernel
theorem dX8_bidCount_6 : decode cX8_bidCount 6 = .ok (.invokevirtual 61, 3) := by decide +kernel
theorem dX8_bidCount_9 : decode cX8_bidCount 9 = .ok (.ifCond .eq 11, 3) := by decide +kernel
theorem dX8_bidCount_12 : decode cX8_bidCount 12 = .ok (.aload_n 0, 1) := by decide +kernel
theorem dX8_bidCount_13 : decode cX8_bidCount 13 = .ok (.iload_n 1, 1) := by decide +kernel
theorem dX8_bidCount_14 : decode cX8_bidCount 14 = .ok (.invokevirtual 143, 3) := by decide +kernel
theorem dX8_bidCount_17 : decode cX8_bidCount 17 = .ok (.goto 4, 3) := by decide +kernel
theorem dX8_bidCount_20 : decode cX8_bidCount 20 = .ok (.iconst 0, 1) := by decide +kernel
theorem dX8_bidCount_21 : decode cX8_bidCount 21 = .ok (.ireturn, 1) := by decide +kernel
set_option maxRecDepth 20000 in
theorem ggX8_hasBid_X8_isPlayer : GoodIn wsX8_hasBid wsX8_isPlayer := goodIn_ca (goodIn_r _ [5, 6, 7, 8, 4, 9, 30, 31, 32, 33, 34, 35, 36, 37, 38, 39, 40, 41, 42, 43, 44, 45, 46, 47, 48, 49] (by decide +kernel) (by decide +kernel)) (goodIn_sub (fun _ h => List.mem_cons_of_mem _ (List.mem_append_right _ h)) (by decide +kernel))
set_option maxRecDepth 20000 in
theorem gX8_hasBid_X8_isPlayer : GoodIn wsX8_hasBid (wsV RX8 85 RX8 yX8_isPlayer wsX8_isPlayer) := goodIn_app (goodIn_of _ (by decide +kernel)) ggX8_hasBid_X8_isPlayer
set_option maxRecDepth 20000 in
theorem ggX8_hasBid_X8_isSite : GoodIn wsX8_hasBid wsX8_isSite := goodIn_ca (goodIn_r _ [13, 6, 7, 8, 4, 9, 30, 31, 32, 33, 34, 35, 36, 37, 38, 39, 40, 41, 42, 43, 44, 45, 46, 47, 48, 49] (by decide +kernel) (by decide +kernel)) (goodIn_sub (fun _ h => List.mem_cons_of_mem _ (List.mem_append_right _ h)) (by decide +kernel))
set_option maxRecDepth 20000 in
theorem gX8_hasBid_X8_isSite : GoodIn wsX8_hasBid (wsV RX8 73 RX8 yX8_isSite wsX8_isSite) := goodIn_app (goodIn_of _ (by decide +kernel)) ggX8_hasBid_X8_isSite
set_option maxRecDepth 20000 in
theorem ggX8_hasBid_X8_amountOf : GoodIn wsX8_hasBid wsX8_amountOf := goodIn_ca (goodIn_r _ [17, 1, 2, 3, 4, 5, 6, 7, 8, 9, 10, 11, 12, 13, 18, 19, 20, 21, 22, 23, 24, 30, 31, 32, 33, 34, 35, 36, 37, 38, 39, 40, 41, 42, 43, 44, 45, 46, 47, 48, 49] (by decide +kernel) (by decide +kernel)) (goodIn_sub (fun _ h => List.mem_cons_of_mem _ (List.mem_append_right _ h)) (by decide +kernel))
set_option maxRecDepth 20000 in
theorem gX8_hasBid_X8_amountOf : GoodIn wsX8_hasBid (wsV RX8 150 RX8 yX8_amountOf wsX8_amountOf) := goodIn_app (goodIn_of _ (by decide +kernel)) ggX8_hasBid_X8_amountOf
set_option maxRecDepth 20000 in
theorem ggX8_hasBid_X8_holds : GoodIn wsX8_hasBid wsX8_holds := goodIn_r _ [28, 29, 30, 31, 32, 33, 34, 35, 36, 37, 38, 39, 40, 41, 42, 43, 44, 45, 46, 47, 48, 49] (by decide +kernel) (by decide +kernel)
set_option maxRecDepth 20000 in
theorem gX8_hasBid_X8_holds : GoodIn wsX8_hasBid (wsV RX8 47 RX8 yX8_holds wsX8_holds) := goodIn_app (goodIn_of _ (by decide +kernel)) ggX8_hasBid_X8_holds
theorem dX8_hasBid_0 : decode cX8_hasBid 0 = .ok (.aload_n 0, 1) := by decide +kernel
theorem dX8_hasBid_1 : decode cX8_hasBid 1 = .ok (.aload_n 0, 1) := by decide +kernel
theorem dX8_hasBid_2 : decode cX8_hasBid 2 = .ok (.iload_n 1, 1) := by decide +kernel
theorem dX8_hasBid_3 : decode cX8_hasBid 3 = .ok (.invokevirtual 85, 3) := by decide +kernel
theorem dX8_hasBid_6 : decode cX8_hasBid 6 = .ok (.ifCond .eq 15, 3) := by decide +kernel
theorem dX8_hasBid_9 : decode cX8_hasBid 9 = .ok (.aload_n 0, 1) := by decide +kernel
theorem dX8_hasBid_10 : decode cX8_hasBid 10 = .ok (.iload_n 2, 1) := by decide +kernel
theorem dX8_hasBid_11 : decode cX8_hasBid 11 = .ok (.invokevirtual 73, 3) := by decide +kernel
theorem dX8_hasBid_14 : decode cX8_hasBid 14 = .ok (.ifCond .eq 7, 3) := by decide +kernel
theorem dX8_hasBid_17 : decode cX8_hasBid 17 = .ok (.iconst 1, 1) := by decide +kernel
theorem dX8_hasBid_18 : decode cX8_hasBid 18 = .ok (.goto 4, 3) := by decide +kernel
theorem dX8_hasBid_21 : decode cX8_hasBid 21 = .ok (.iconst 0, 1) := by decide +kernel
theorem dX8_hasBid_22 : decode cX8_hasBid 22 = .ok (.aload_n 0, 1) := by decide +kernel
theorem dX8_hasBid_23 : decode cX8_hasBid 23 = .ok (.iload_n 1, 1) := by decide +kernel
theorem dX8_hasBid_24 : decode cX8_hasBid 24 = .ok (.iload_n 2, 1) := by decide +kernel
theorem dX8_hasBid_25 : decode cX8_hasBid 25 = .ok (.invokevirtual 150, 3) := by decide +kernel
theorem dX8_hasBid_28 : decode cX8_hasBid 28 = .ok (.ifCond .le 7, 3) := by decide +kernel
theorem dX8_hasBid_31 : decode cX8_hasBid 31 = .ok (.iconst 1, 1) := by decide +kernel
theorem dX8_hasBid_32 : decode cX8_hasBid 32 = .ok (.goto 4, 3) := by decide +kernel
theorem dX8_hasBid_35 : decode cX8_hasBid 35 = .ok (.iconst 0, 1) := by decide +kernel
theorem dX8_hasBid_36 : decode cX8_hasBid 36 = .ok (.iconst 1, 1) := by decide +kernel
theorem dX8_hasBid_37 : decode cX8_hasBid 37 = .ok (.iconst 1, 1) := by decide +kernel
theorem dX8_hasBid_38 : decode cX8_hasBid 38 = .ok (.invokevirtual 47, 3) := by decide +kernel
theorem dX8_hasBid_41 : decode cX8_hasBid 41 = .ok (.ireturn, 1) := by decide +kernel
set_option maxRecDepth 20000 in
theorem ggX8_bidAmount_X8_hasBid : GoodIn wsX8_bidAmount wsX8_hasBid := goodIn_ca (goodIn_r _ [5, 6, 7, 8, 4, 9, 10, 11, 12, 13, 14, 15, 16, 17, 18, 19, 20, 21, 22, 23, 24, 25, 26, 27, 28, 29, 30, 31, 32, 33, 34, 35, 36, 37, 38, 39, 40, 41, 42, 43, 44, 45, 46, 47, 48, 49, 50, 51, 52, 53] (by decide +kernel) (by decide +kernel)) (goodIn_sub (fun _ h => List.mem_cons_of_mem _ (List.mem_append_right _ h)) (by decide +kernel))
set_option maxRecDepth 20000 in
theorem gX8_bidAmount_X8_hasBid : GoodIn wsX8_bidAmount (wsV RX8 168 RX8 yX8_hasBid wsX8_hasBid) := goodIn_app (goodIn_of _ (by decide +kernel)) ggX8_bidAmount_X8_hasBid
set_option maxRecDepth 20000 in
theorem ggX8_bidAmount_X8_amountOf : GoodIn wsX8_bidAmount wsX8_amountOf := goodIn_ca (goodIn_r _ [21, 6, 7, 8, 4, 9, 10, 11, 12, 13, 14, 15, 16, 17, 22, 23, 24, 25, 26, 27, 28, 34, 35, 36, 37, 38, 39, 40, 41, 42, 43, 44, 45, 46, 47, 48, 49, 50, 51, 52, 53] (by decide +kernel) (by decide +kernel)) (goodIn_sub (fun _ h => List.mem_cons_of_mem _ (List.mem_append_right _ h)) (by decide +kernel))
set_option maxRecDepth 20000 in
theorem gX8_bidAmount_X8_amountOf : GoodIn wsX8_bidAmount (wsV RX8 150 RX8 yX8_amountOf wsX8_amountOf) := goodIn_app (goodIn_of _ (by decide +kernel)) ggX8_bidAmount_X8_amountOf
theorem dX8_bidAmount_0 : decode cX8_bidAmount 0 = .ok (.aload_n 0, 1) := by decide +kernel
theorem dX8_bidAmount_1 : decode cX8_bidAmount 1 = .ok (.iload_n 1, 1) := by decide +kernel
theorem dX8_bidAmount_2 : decode cX8_bidAmount 2 = .ok (.iload_n 2, 1) := by decide +kernel
theorem dX8_bidAmount_3 : decode cX8_bidAmount 3 = .ok (.invokevirtual 168, 3) := by decide +kernel
theorem dX8_bidAmount_6 : decode cX8_bidAmount 6 = .ok (.ifCond .eq 12, 3) := by decide +kernel
theorem dX8_bidAmount_9 : decode cX8_bidAmount 9 = .ok (.aload_n 0, 1) := by decide +kernel
theorem dX8_bidAmount_10 : decode cX8_bidAmount 10 = .ok (.iload_n 1, 1) := by decide +kernel
theorem dX8_bidAmount_11 : decode cX8_bidAmount 11 = .ok (.iload_n 2, 1) := by decide +kernel
theorem dX8_bidAmount_12 : decode cX8_bidAmount 12 = .ok (.invokevirtual 150, 3) := by decide +kernel
theorem dX8_bidAmount_15 : decode cX8_bidAmount 15 = .ok (.goto 4, 3) := by decide +kernel
theorem dX8_bidAmount_18 : decode cX8_bidAmount 18 = .ok (.iconst 0, 1) := by decide +kernel
theorem dX8_bidAmount_19 : decode cX8_bidAmount 19 = .ok (.ireturn, 1) := by decide +kernel
set_option maxRecDepth 20000 in
theorem ggX8_isBluff_X8_hasBid : GoodIn wsX8_isBluff wsX8_hasBid := goodIn_ca (goodIn_r _ [5, 6, 7, 8, 4, 9, 10, 11, 12, 13, 14, 15, 16, 17, 18, 19, 20, 21, 22, 23, 24, 25, 26, 27, 28, 29, 30, 31, 32, 33, 34, 35, 36, 37, 38, 39, 40, 41, 42, 43, 44, 45, 46, 47, 48, 49, 50, 51, 52, 53] (by decide +kernel) (by decide +kernel)) (goodIn_sub (fun _ h => List.mem_cons_of_mem _ (List.mem_append_right _ h)) (by decide +kernel))
set_option maxRecDepth 20000 in
theorem gX8_isBluff_X8_hasBid : GoodIn wsX8_isBluff (wsV RX8 168 RX8 yX8_hasBid wsX8_hasBid) := goodIn_app (goodIn_of _ (by decide +kernel)) ggX8_isBluff_X8_hasBid
set_option maxRecDepth 20000 in
theorem ggX8_isBluff_X8_of : GoodIn wsX8_isBluff wsX8_of := goodIn_ca (goodIn_r _ [25, 10, 14, 15, 16, 4, 17, 11, 12, 13, 26, 27, 28, 34, 35, 36, 37, 38, 39, 40, 41, 42, 43, 44, 45, 46, 47, 48, 49, 50, 51, 52, 53] (by decide +kernel) (by decide +kernel)) (goodIn_sub (fun _ h => List.mem_cons_of_mem _ (List.mem_append_right _ h)) (by decide +kernel))
set_option maxRecDepth 20000 in
theorem gX8_isBluff_X8_of : GoodIn wsX8_isBluff (wsV RX8 81 RX8 yX8_of wsX8_of) := goodIn_app (goodIn_of _ (by decide +kernel)) ggX8_isBluff_X8_of
theorem dX8_isBluff_0 : decode cX8_isBluff 0 = .ok (.aload_n 0, 1) := by decide +kernel
theorem dX8_isBluff_1 : decode cX8_isBluff 1 = .ok (.iload_n 1, 1) := by decide +kernel
theorem dX8_isBluff_2 : decode cX8_isBluff 2 = .ok (.iload_n 2, 1) := by decide +kernel
theorem dX8_isBluff_3 : decode cX8_isBluff 3 = .ok (.invokevirtual 168, 3) := by decide +kernel
theorem dX8_isBluff_6 : decode cX8_isBluff 6 = .ok (.ifCond .eq 20, 3) := by decide +kernel
theorem dX8_isBluff_9 : decode cX8_isBluff 9 = .ok (.aload_n 0, 1) := by decide +kernel
theorem dX8_isBluff_10 : decode cX8_isBluff 10 = .ok (.iload_n 2, 1) := by decide +kernel
theorem dX8_isBluff_11 : decode cX8_isBluff 11 = .ok (.bipush 9, 2) := by decide +kernel
theorem dX8_isBluff_13 : decode cX8_isBluff 13 = .ok (.iload_n 1, 1) := by decide +kernel
theorem dX8_isBluff_14 : decode cX8_isBluff 14 = .ok (.iadd, 1) := by decide +kernel
theorem dX8_isBluff_15 : decode cX8_isBluff 15 = .ok (.invokevirtual 81, 3) := by decide +kernel
theorem dX8_isBluff_18 : decode cX8_isBluff 18 = .ok (.iconst 1, 1) := by decide +kernel
theorem dX8_isBluff_19 : decode cX8_isBluff 19 = .ok (.if_icmp .ne 7, 3) := by decide +kernel
theorem dX8_isBluff_22 : decode cX8_isBluff 22 = .ok (.iconst 1, 1) := by decide +kernel
theorem dX8_isBluff_23 : decode cX8_isBluff 23 = .ok (.goto 4, 3) := by decide +kernel
theorem dX8_isBluff_26 : decode cX8_isBluff 26 = .ok (.iconst 0, 1) := by decide +kernel
theorem dX8_isBluff_27 : decode cX8_isBluff 27 = .ok (.ireturn, 1) := by decide +kernel
set_option maxRecDepth 20000 in
theorem ggX8_ferryOwner_X8_isSite : GoodIn wsX8_ferryOwner wsX8_isSite := goodIn_ca (goodIn_r _ [5, 6, 7, 8, 4, 9, 22, 23, 24, 25, 26, 27, 28, 29, 30, 31, 32, 33, 34, 35, 36, 37, 38, 39, 40, 41] (by decide +kernel) (by decide +kernel)) (goodIn_sub (fun _ h => List.mem_cons_of_mem _ (List.mem_append_right _ h)) (by decide +kernel))
set_option maxRecDepth 20000 in
theorem gX8_ferryOwner_X8_isSite : GoodIn wsX8_ferryOwner (wsV RX8 73 RX8 yX8_isSite wsX8_isSite) := goodIn_app (goodIn_of _ (by decide +kernel)) ggX8_ferryOwner_X8_isSite
set_option maxRecDepth 20000 in
theorem ggX8_ferryOwner_X8_of : GoodIn wsX8_ferryOwner wsX8_of := goodIn_ca (goodIn_r _ [13, 6, 1, 2, 3, 4, 5, 7, 8, 9, 14, 15, 16, 22, 23, 24, 25, 26, 27, 28, 29, 30, 31, 32, 33, 34, 35, 36, 37, 38, 39, 40, 41] (by decide +kernel) (by decide +kernel)) (goodIn_sub (fun _ h => List.mem_cons_of_mem _ (List.mem_append_right _ h)) (by decide +kernel))
set_option maxRecDepth 20000 in
theorem gX8_ferryOwner_X8_of : GoodIn wsX8_ferryOwner (wsV RX8 81 RX8 yX8_of wsX8_of) := goodIn_app (goodIn_of _ (by decide +kernel)) ggX8_ferryOwner_X8_of
set_option maxRecDepth 20000 in
theorem ggX8_ferryOwner_X8_holds : GoodIn wsX8_ferryOwner wsX8_holds := goodIn_r _ [20, 21, 22, 23, 24, 25, 26, 27, 28, 29, 30, 31, 32, 33, 34, 35, 36, 37, 38, 39, 40, 41] (by decide +kernel) (by decide +kernel)
set_option maxRecDepth 20000 in
theorem gX8_ferryOwner_X8_holds : GoodIn wsX8_ferryOwner (wsV RX8 47 RX8 yX8_holds wsX8_holds) := goodIn_app (goodIn_of _ (by decide +kernel)) ggX8_ferryOwner_X8_holds
theorem dX8_ferryOwner_0 : decode cX8_ferryOwner 0 = .ok (.aload_n 0, 1) := by decide +kernel
theorem dX8_ferryOwner_1 : decode cX8_ferryOwner 1 = .ok (.aload_n 0, 1) := by decide +kernel
theorem dX8_ferryOwner_2 : decode cX8_ferryOwner 2 = .ok (.iload_n 1, 1) := by decide +kernel
theorem dX8_ferryOwner_3 : decode cX8_ferryOwner 3 = .ok (.invokevirtual 73, 3) := by decide +kernel
theorem dX8_ferryOwner_6 : decode cX8_ferryOwner 6 = .ok (.aload_n 0, 1) := by decide +kernel
theorem dX8_ferryOwner_7 : decode cX8_ferryOwner 7 = .ok (.iload_n 1, 1) := by decide +kernel
theorem dX8_ferryOwner_8 : decode cX8_ferryOwner 8 = .ok (.iconst 4, 1) := by decide +kernel
theorem dX8_ferryOwner_9 : decode cX8_ferryOwner 9 = .ok (.invokevirtual 81, 3) := by decide +kernel
theorem dX8_ferryOwner_12 : decode cX8_ferryOwner 12 = .ok (.iconst (-1), 1) := by decide +kernel
theorem dX8_ferryOwner_13 : decode cX8_ferryOwner 13 = .ok (.if_icmp .eq 7, 3) := by decide +kernel
theorem dX8_ferryOwner_16 : decode cX8_ferryOwner 16 = .ok (.iconst 1, 1) := by decide +kernel
theorem dX8_ferryOwner_17 : decode cX8_ferryOwner 17 = .ok (.goto 4, 3) := by decide +kernel
theorem dX8_ferryOwner_20 : decode cX8_ferryOwner 20 = .ok (.iconst 0, 1) := by decide +kernel
theorem dX8_ferryOwner_21 : decode cX8_ferryOwner 21 = .ok (.iconst 1, 1) := by decide +kernel
theorem dX8_ferryOwner_22 : decode cX8_ferryOwner 22 = .ok (.iconst 1, 1) := by decide +kernel
theorem dX8_ferryOwner_23 : decode cX8_ferryOwner 23 = .ok (.invokevirtual 47, 3) := by decide +kernel
theorem dX8_ferryOwner_26 : decode cX8_ferryOwner 26 = .ok (.ifCond .eq 12, 3) := by decide +kernel
theorem dX8_ferryOwner_29 : decode cX8_ferryOwner 29 = .ok (.aload_n 0, 1) := by decide +kernel
theorem dX8_ferryOwner_30 : decode cX8_ferryOwner 30 = .ok (.iload_n 1, 1) := by decide +kernel
theorem dX8_ferryOwner_31 : decode cX8_ferryOwner 31 = .ok (.iconst 4, 1) := by decide +kernel
theorem dX8_ferryOwner_32 : decode cX8_ferryOwner 32 = .ok (.invokevirtual 81, 3) := by decide +kernel
theorem dX8_ferryOwner_35 : decode cX8_ferryOwner 35 = .ok (.goto 4, 3) := by decide +kernel
theorem dX8_ferryOwner_38 : decode cX8_ferryOwner 38 = .ok (.iconst 0, 1) := by decide +kernel
theorem dX8_ferryOwner_39 : decode cX8_ferryOwner 39 = .ok (.ireturn, 1) := by decide +kernel
set_option maxRecDepth 20000 in
theorem ggX8_winningBidder_X8_isSite : GoodIn wsX8_winningBidder wsX8_isSite := goodIn_ca (goodIn_r _ [5, 6, 7, 8, 4, 9, 30, 31, 32, 33, 34, 35, 36, 37, 38, 39, 40, 41, 42, 43, 44, 45, 46, 47, 48, 49] (by decide +kernel) (by decide +kernel)) (goodIn_sub (fun _ h => List.mem_cons_of_mem _ (List.mem_append_right _ h)) (by decide +kernel))
set_option maxRecDepth 20000 in
theorem gX8_winningBidder_X8_isSite : GoodIn wsX8_winningBidder (wsV RX8 73 RX8 yX8_isSite wsX8_isSite) := goodIn_app (goodIn_of _ (by decide +kernel)) ggX8_winningBidder_X8_isSite
set_option maxRecDepth 20000 in
theorem ggX8_winningBidder_X8_bidsOn : GoodIn wsX8_winningBidder wsX8_bidsOn := goodIn_ca (goodIn_r _ [13, 14, 15, 16, 4, 17, 6, 1, 2, 3, 5, 7, 8, 9, 18, 19, 20, 30, 31, 32, 33, 34, 35, 36, 37, 38, 39, 40, 41, 42, 43, 44, 45, 46, 47, 48, 49] (by decide +kernel) (by decide +kernel)) (goodIn_sub (fun _ h => List.mem_cons_of_mem _ (List.mem_append_right _ h)) (by decide +kernel))
set_option maxRecDepth 20000 in
theorem gX8_winningBidder_X8_bidsOn : GoodIn wsX8_winningBidder (wsV RX8 143 RX8 yX8_bidsOn wsX8_bidsOn) := goodIn_app (goodIn_of _ (by decide +kernel)) ggX8_winningBidder_X8_bidsOn
set_option maxRecDepth 20000 in
theorem ggX8_winningBidder_X8_holds : GoodIn wsX8_winningBidder wsX8_holds := goodIn_r _ [24, 25, 30, 31, 32, 33, 34, 35, 36, 37, 38, 39, 40, 41, 42, 43, 44, 45, 46, 47, 48, 49] (by decide +kernel) (by decide +kernel)
set_option maxRecDepth 20000 in
theorem gX8_winningBidder_X8_holds : GoodIn wsX8_winningBidder (wsV RX8 47 RX8 yX8_holds wsX8_holds) := goodIn_app (goodIn_of _ (by decide +kernel)) ggX8_winningBidder_X8_holds
set_option maxRecDepth 20000 in
theorem ggX8_winningBidder_X8_winner : GoodIn wsX8_winningBidder wsX8_winner := goodIn_ca (goodIn_r _ [29, 14, 15, 16, 4, 17, 6, 1, 2, 3, 5, 7, 8, 9, 18, 19, 20, 30, 31, 32, 33, 34, 35, 36, 37, 38, 39, 40, 41, 42, 43, 44, 45, 46, 47, 48, 49] (by decide +kernel) (by decide +kernel)) (goodIn_sub (fun _ h => List.mem_cons_of_mem _ (List.mem_append_right _ h)) (by decide +kernel))
set_option maxRecDepth 20000 in
theorem gX8_winningBidder_X8_winner : GoodIn wsX8_winningBidder (wsV RX8 99 RX8 yX8_winner wsX8_winner) := goodIn_app (goodIn_of _ (by decide +kernel)) ggX8_winningBidder_X8_winner
theorem dX8_winningBidder_0 : decode cX8_winningBidder 0 = .ok (.aload_n 0, 1) := by decide +kernel
theorem dX8_winningBidder_1 : decode cX8_winningBidder 1 = .ok (.aload_n 0, 1) := by decide +kernel
theorem dX8_winningBidder_2 : decode cX8_winningBidder 2 = .ok (.iload_n 1, 1) := by decide +kernel
theorem dX8_winningBidder_3 : decode cX8_winningBidder 3 = .ok (.invokevirtual 73, 3) := by decide +kernel
theorem dX8_winningBidder_6 : decode cX8_winningBidder 6 = .ok (.aload_n 0, 1) := by decide +kernel
theorem dX8_winningBidder_7 : decode cX8_winningBidder 7 = .ok (.iload_n 1, 1) := by decide +kernel
theorem dX8_winningBidder_8 : decode cX8_winningBidder 8 = .ok (.invokevirtual 73, 3) := by decide +kernel
theorem dX8_winningBidder_11 : decode cX8_winningBidder 11 = .ok (.ifCond .eq 15, 3) := by decide +kernel
theorem dX8_winningBidder_14 : decode cX8_winningBidder 14 = .ok (.aload_n 0, 1) := by decide +kernel
theorem dX8_winningBidder_15 : decode cX8_winningBidder 15 = .ok (.iload_n 1, 1) := by decide +kernel
theorem dX8_winningBidder_16 : decode cX8_winningBidder 16 = .ok (.invokevirtual 143, 3) := by decide +kernel
theorem dX8_winningBidder_19 : decode cX8_winningBidder 19 = .ok (.ifCond .le 7, 3) := by decide +kernel
theorem dX8_winningBidder_22 : decode cX8_winningBidder 22 = .ok (.iconst 1, 1) := by decide +kernel
theorem dX8_winningBidder_23 : decode cX8_winningBidder 23 = .ok (.goto 4, 3) := by decide +kernel
theorem dX8_winningBidder_26 : decode cX8_winningBidder 26 = .ok (.iconst 0, 1) := by decide +kernel
theorem dX8_winningBidder_27 : decode cX8_winningBidder 27 = .ok (.iconst 1, 1) := by decide +kernel
theorem dX8_winningBidder_28 : decode cX8_winningBidder 28 = .ok (.iconst 1, 1) := by decide +kernel
theorem dX8_winningBidder_29 : decode cX8_winningBidder 29 = .ok (.invokevirtual 47, 3) := by decide +kernel
theorem dX8_winningBidder_32 : decode cX8_winningBidder 32 = .ok (.ifCond .eq 11, 3) := by decide +kernel
theorem dX8_winningBidder_35 : decode cX8_winningBidder 35 = .ok (.aload_n 0, 1) := by decide +kernel
theorem dX8_winningBidder_36 : decode cX8_winningBidder 36 = .ok (.iload_n 1, 1) := by decide +kernel
theorem dX8_winningBidder_37 : decode cX8_winningBidder 37 = .ok (.invokevirtual 99, 3) := by decide +kernel
theorem dX8_winningBidder_40 : decode cX8_winningBidder 40 = .ok (.goto 4, 3) := by decide +kernel
theorem dX8_winningBidder_43 : decode cX8_winningBidder 43 = .ok (.iconst 0, 1) := by decide +kernel
theorem dX8_winningBidder_44 : decode cX8_winningBidder 44 = .ok (.ireturn, 1) := by decide +kernel
set_option maxRecDepth 20000 in
theorem ggX8_wouldBuild_X8_isSite : GoodIn wsX8_wouldBuild wsX8_isSite := goodIn_ca (goodIn_r _ [5, 6, 7, 8, 4, 9, 42, 43, 44, 45, 46, 47, 48, 49, 50, 51, 52, 53, 54, 55, 56, 57, 58, 59, 60, 61] (by decide +kernel) (by decide +kernel)) (goodIn_sub (fun _ h => List.mem_cons_of_mem _ (List.mem_append_right _ h)) (by decide +kernel))
set_option maxRecDepth 20000 in
theorem gX8_wouldBuild_X8_isSite : GoodIn wsX8_wouldBuild (wsV RX8 73 RX8 yX8_isSite wsX8_isSite) := goodIn_app (goodIn_of _ (by decide +kernel)) ggX8_wouldBuild_X8_isSite
set_option maxRecDepth 20000 in
theorem ggX8_wouldBuild_X8_isDone : GoodIn wsX8_wouldBuild wsX8_isDone := goodIn_ca (goodIn_r _ [13, 1, 2, 3, 4, 5, 6, 7, 8, 9, 14, 15, 16, 17, 18, 19, 20, 42, 43, 44, 45, 46, 47, 48, 49, 50, 51, 52, 53, 54, 55, 56, 57, 58, 59, 60, 61] (by decide +kernel) (by decide +kernel)) (goodIn_sub (fun _ h => List.mem_cons_of_mem _ (List.mem_append_right _ h)) (by decide +kernel))
set_option maxRecDepth 20000 in
theorem gX8_wouldBuild_X8_isDone : GoodIn wsX8_wouldBuild (wsV RX8 134 RX8 yX8_isDone wsX8_isDone) := goodIn_app (goodIn_of _ (by decide +kernel)) ggX8_wouldBuild_X8_isDone
set_option maxRecDepth 20000 in
theorem ggX8_wouldBuild_X8_bidsOn : GoodIn wsX8_wouldBuild wsX8_bidsOn := goodIn_ca (goodIn_r _ [24, 14, 15, 16, 4, 17, 6, 1, 2, 3, 5, 7, 8, 9, 18, 19, 20, 42, 43, 44, 45, 46, 47, 48, 49, 50, 51, 52, 53, 54, 55, 56, 57, 58, 59, 60, 61] (by decide +kernel) (by decide +kernel)) (goodIn_sub (fun _ h => List.mem_cons_of_mem _ (List.mem_append_right _ h)) (by decide +kernel))
set_option maxRecDepth 20000 in
theorem gX8_wouldBuild_X8_bidsOn : GoodIn wsX8_wouldBuild (wsV RX8 143 RX8 yX8_bidsOn wsX8_bidsOn) := goodIn_app (goodIn_of _ (by decide +kernel)) ggX8_wouldBuild_X8_bidsOn
set_option maxRecDepth 20000 in
theorem ggX8_wouldBuild_X8_holds : GoodIn wsX8_wouldBuild wsX8_holds := goodIn_r _ [28, 29, 42, 43, 44, 45, 46, 47, 48, 49, 50, 51, 52, 53, 54, 55, 56, 57, 58, 59, 60, 61] (by decide +kernel) (by decide +kernel)
set_option maxRecDepth 20000 in
theorem gX8_wouldBuild_X8_holds : GoodIn wsX8_wouldBuild (wsV RX8 47 RX8 yX8_holds wsX8_holds) := goodIn_app (goodIn_of _ (by decide +kernel)) ggX8_wouldBuild_X8_holds
set_option maxRecDepth 20000 in
theorem ggX8_wouldBuild_X8_doesBuild : GoodIn wsX8_wouldBuild wsX8_doesBuild := goodIn_ca (goodIn_r _ [33, 34, 35, 36, 4, 37, 14, 15, 16, 17, 6, 1, 2, 3, 5, 7, 8, 9, 18, 19, 20, 38, 39, 40, 41, 42, 43, 44, 45, 46, 47, 48, 49, 50, 51, 52, 53, 54, 55, 56, 57, 58, 59, 60, 61] (by decide +kernel) (by decide +kernel)) (goodIn_sub (fun _ h => List.mem_cons_of_mem _ (List.mem_append_right _ h)) (by decide +kernel))
set_option maxRecDepth 20000 in
theorem gX8_wouldBuild_X8_doesBuild : GoodIn wsX8_wouldBuild (wsV RX8 159 RX8 yX8_doesBuild wsX8_doesBuild) := goodIn_app (goodIn_of _ (by decide +kernel)) ggX8_wouldBuild_X8_doesBuild
theorem dX8_wouldBuild_0 : decode cX8_wouldBuild 0 = .ok (.aload_n 0, 1) := by decide +kernel
theorem dX8_wouldBuild_1 : decode cX8_wouldBuild 1 = .ok (.aload_n 0, 1) := by decide +kernel
theorem dX8_wouldBuild_2 : decode cX8_wouldBuild 2 = .ok (.iload_n 1, 1) := by decide +kernel
theorem dX8_wouldBuild_3 : decode cX8_wouldBuild 3 = .ok (.invokevirtual 73, 3) := by decide +kernel
theorem dX8_wouldBuild_6 : decode cX8_wouldBuild 6 = .ok (.aload_n 0, 1) := by decide +kernel
theorem dX8_wouldBuild_7 : decode cX8_wouldBuild 7 = .ok (.iload_n 1, 1) := by decide +kernel
theorem dX8_wouldBuild_8 : decode cX8_wouldBuild 8 = .ok (.invokevirtual 134, 3) := by decide +kernel
theorem dX8_wouldBuild_11 : decode cX8_wouldBuild 11 = .ok (.ifCond .ne 7, 3) := by decide +kernel
theorem dX8_wouldBuild_14 : decode cX8_wouldBuild 14 = .ok (.iconst 1, 1) := by decide +kernel
theorem dX8_wouldBuild_15 : decode cX8_wouldBuild 15 = .ok (.goto 4, 3) := by decide +kernel
theorem dX8_wouldBuild_18 : decode cX8_wouldBuild 18 = .ok (.iconst 0, 1) := by decide +kernel
theorem dX8_wouldBuild_19 : decode cX8_wouldBuild 19 = .ok (.aload_n 0, 1) := by decide +kernel
theorem dX8_wouldBuild_20 : decode cX8_wouldBuild 20 = .ok (.iload_n 1, 1) := by decide +kernel
theorem dX8_wouldBuild_21 : decode cX8_wouldBuild 21 = .ok (.invokevirtual 73, 3) := by decide +kernel
theorem dX8_wouldBuild_24 : decode cX8_wouldBuild 24 = .ok (.ifCond .eq 15, 3) := by decide +kernel
theorem dX8_wouldBuild_27 : decode cX8_wouldBuild 27 = .ok (.aload_n 0, 1) := by decide +kernel
theorem dX8_wouldBuild_28 : decode cX8_wouldBuild 28 = .ok (.iload_n 1, 1) := by decide +kernel
theorem dX8_wouldBuild_29 : decode cX8_wouldBuild 29 = .ok (.invokevirtual 143, 3) := by decide +kernel
theorem dX8_wouldBuild_32 : decode cX8_wouldBuild 32 = .ok (.ifCond .le 7, 3) := by decide +kernel
theorem dX8_wouldBuild_35 : decode cX8_wouldBuild 35 = .ok (.iconst 1, 1) := by decide +kernel
theorem dX8_wouldBuild_36 : decode cX8_wouldBuild 36 = .ok (.goto 4, 3) := by decide +kernel
theorem dX8_wouldBuild_39 : decode cX8_wouldBuild 39 = .ok (.iconst 0, 1) := by decide +kernel
theorem dX8_wouldBuild_40 : decode cX8_wouldBuild 40 = .ok (.iconst 1, 1) := by decide +kernel
theorem dX8_wouldBuild_41 : decode cX8_wouldBuild 41 = .ok (.invokevirtual 47, 3) := by decide +kernel
theorem dX8_wouldBuild_44 : decode cX8_wouldBuild 44 = .ok (.ifCond .eq 15, 3) := by decide +kernel
theorem dX8_wouldBuild_47 : decode cX8_wouldBuild 47 = .ok (.aload_n 0, 1) := by decide +kernel
theorem dX8_wouldBuild_48 : decode cX8_wouldBuild 48 = .ok (.iload_n 1, 1) := by decide +kernel
theorem dX8_wouldBuild_49 : decode cX8_wouldBuild 49 = .ok (.invokevirtual 159, 3) := by decide +kernel
theorem dX8_wouldBuild_52 : decode cX8_wouldBuild 52 = .ok (.ifCond .eq 7, 3) := by decide +kernel
theorem dX8_wouldBuild_55 : decode cX8_wouldBuild 55 = .ok (.iconst 1, 1) := by decide +kernel
theorem dX8_wouldBuild_56 : decode cX8_wouldBuild 56 = .ok (.goto 4, 3) := by decide +kernel
theorem dX8_wouldBuild_59 : decode cX8_wouldBuild 59 = .ok (.iconst 0, 1) := by decide +kernel
theorem dX8_wouldBuild_60 : decode cX8_wouldBuild 60 = .ok (.ireturn, 1) := by decide +kernel
set_option maxRecDepth 20000 in
theorem ggX8_cheapestFreeSite_X8_isDone : GoodIn wsX8_cheapestFreeSite wsX8_isDone := goodIn_ca (goodIn_r _ [7, 8, 9, 10, 6, 11, 2, 12, 13, 14, 15, 16, 17, 18, 19, 20, 21, 35, 36, 37, 38, 39, 40, 41, 42, 43, 44, 45, 46, 47, 48, 49, 50, 51, 52, 53, 54] (by decide +kernel) (by decide +kernel)) (goodIn_sub (fun _ h => List.mem_cons_of_mem _ (List.mem_append_right _ h)) (by decide +kernel))
set_option maxRecDepth 20000 in
theorem gX8_cheapestFreeSite_X8_isDone : GoodIn wsX8_cheapestFreeSite (wsV RX8 134 RX8 yX8_isDone wsX8_isDone) := goodIn_app (goodIn_of _ (by decide +kernel)) ggX8_cheapestFreeSite_X8_isDone
set_option maxRecDepth 20000 in
theorem ggX8_cheapestFreeSite_X8_costOf : GoodIn wsX8_cheapestFreeSite wsX8_costOf := goodIn_ca (goodIn_r _ [25, 2, 15, 16, 17, 6, 18, 8, 9, 10, 11, 12, 13, 14, 19, 20, 21, 35, 36, 37, 38, 39, 40, 41, 42, 43, 44, 45, 46, 47, 48, 49, 50, 51, 52, 53, 54] (by decide +kernel) (by decide +kernel)) (goodIn_sub (fun _ h => List.mem_cons_of_mem _ (List.mem_append_right _ h)) (by decide +kernel))
set_option maxRecDepth 20000 in
theorem gX8_cheapestFreeSite_X8_costOf : GoodIn wsX8_cheapestFreeSite (wsV RX8 102 RX8 yX8_costOf wsX8_costOf) := goodIn_app (goodIn_of _ (by decide +kernel)) ggX8_cheapestFreeSite_X8_costOf
set_option maxRecDepth 20000 in
theorem ggX8_cheapestFreeSite_X8_goes : GoodIn wsX8_cheapestFreeSite wsX8_goes := goodIn_r _ [29, 30, 31, 32, 6, 33, 34, 35, 36, 37, 38, 39, 40, 41, 42, 43, 44, 45, 46, 47, 48, 49, 50, 51, 52, 53, 54] (by decide +kernel) (by decide +kernel)
set_option maxRecDepth 20000 in
theorem gX8_cheapestFreeSite_X8_goes : GoodIn wsX8_cheapestFreeSite (wsV RX8 61 RX8 yX8_goes wsX8_goes) := goodIn_app (goodIn_of _ (by decide +kernel)) ggX8_cheapestFreeSite_X8_goes
theorem dX8_cheapestFreeSite_0 : decode cX8_cheapestFreeSite 0 = .ok (.iconst (-1), 1) := by decide +kernel
theorem dX8_cheapestFreeSite_1 : decode cX8_cheapestFreeSite 1 = .ok (.istore_n 1, 1) := by decide +kernel
theorem dX8_cheapestFreeSite_2 : decode cX8_cheapestFreeSite 2 = .ok (.ldc 171, 2) := by decide +kernel
theorem dX8_cheapestFreeSite_4 : decode cX8_cheapestFreeSite 4 = .ok (.istore_n 2, 1) := by decide +kernel
theorem dX8_cheapestFreeSite_5 : decode cX8_cheapestFreeSite 5 = .ok (.iconst 0, 1) := by decide +kernel
theorem dX8_cheapestFreeSite_6 : decode cX8_cheapestFreeSite 6 = .ok (.istore_n 3, 1) := by decide +kernel
theorem dX8_cheapestFreeSite_7 : decode cX8_cheapestFreeSite 7 = .ok (.iload_n 3, 1) := by decide +kernel
theorem dX8_cheapestFreeSite_8 : decode cX8_cheapestFreeSite 8 = .ok (.aload_n 0, 1) := by decide +kernel
theorem dX8_cheapestFreeSite_9 : decode cX8_cheapestFreeSite 9 = .ok (.getfield 9, 3) := by decide +kernel
theorem dX8_cheapestFreeSite_12 : decode cX8_cheapestFreeSite 12 = .ok (.iconst 2, 1) := by decide +kernel
theorem dX8_cheapestFreeSite_13 : decode cX8_cheapestFreeSite 13 = .ok (.iaload, 1) := by decide +kernel
theorem dX8_cheapestFreeSite_14 : decode cX8_cheapestFreeSite 14 = .ok (.if_icmp .ge 59, 3) := by decide +kernel
theorem dX8_cheapestFreeSite_17 : decode cX8_cheapestFreeSite 17 = .ok (.aload_n 0, 1) := by decide +kernel
theorem dX8_cheapestFreeSite_18 : decode cX8_cheapestFreeSite 18 = .ok (.iload_n 3, 1) := by decide +kernel
theorem dX8_cheapestFreeSite_19 : decode cX8_cheapestFreeSite 19 = .ok (.invokevirtual 134, 3) := by decide +kernel
theorem dX8_cheapestFreeSite_22 : decode cX8_cheapestFreeSite 22 = .ok (.ifCond .ne 16, 3) := by decide +kernel
theorem dX8_cheapestFreeSite_25 : decode cX8_cheapestFreeSite 25 = .ok (.aload_n 0, 1) := by decide +kernel
theorem dX8_cheapestFreeSite_26 : decode cX8_cheapestFreeSite 26 = .ok (.iload_n 3, 1) := by decide +kernel
theorem dX8_cheapestFreeSite_27 : decode cX8_cheapestFreeSite 27 = .ok (.invokevirtual 102, 3) := by decide +kernel
theorem dX8_cheapestFreeSite_30 : decode cX8_cheapestFreeSite 30 = .ok (.iload_n 2, 1) := by decide +kernel
theorem dX8_cheapestFreeSite_31 : decode cX8_cheapestFreeSite 31 = .ok (.if_icmp .ge 7, 3) := by decide +kernel
theorem dX8_cheapestFreeSite_34 : decode cX8_cheapestFreeSite 34 = .ok (.iconst 1, 1) := by decide +kernel
theorem dX8_cheapestFreeSite_35 : decode cX8_cheapestFreeSite 35 = .ok (.goto 4, 3) := by decide +kernel
theorem dX8_cheapestFreeSite_38 : decode cX8_cheapestFreeSite 38 = .ok (.iconst 0, 1) := by decide +kernel
theorem dX8_cheapestFreeSite_39 : decode cX8_cheapestFreeSite 39 = .ok (.istore 4, 2) := by decide +kernel
theorem dX8_cheapestFreeSite_41 : decode cX8_cheapestFreeSite 41 = .ok (.iload 4, 2) := by decide +kernel
theorem dX8_cheapestFreeSite_43 : decode cX8_cheapestFreeSite 43 = .ok (.ifCond .eq 7, 3) := by decide +kernel
theorem dX8_cheapestFreeSite_46 : decode cX8_cheapestFreeSite 46 = .ok (.iload_n 3, 1) := by decide +kernel
theorem dX8_cheapestFreeSite_47 : decode cX8_cheapestFreeSite 47 = .ok (.goto 4, 3) := by decide +kernel
theorem dX8_cheapestFreeSite_50 : decode cX8_cheapestFreeSite 50 = .ok (.iload_n 1, 1) := by decide +kernel
theorem dX8_cheapestFreeSite_51 : decode cX8_cheapestFreeSite 51 = .ok (.istore_n 1, 1) := by decide +kernel
theorem dX8_cheapestFreeSite_52 : decode cX8_cheapestFreeSite 52 = .ok (.iload 4, 2) := by decide +kernel
theorem dX8_cheapestFreeSite_54 : decode cX8_cheapestFreeSite 54 = .ok (.ifCond .eq 11, 3) := by decide +kernel
theorem dX8_cheapestFreeSite_57 : decode cX8_cheapestFreeSite 57 = .ok (.aload_n 0, 1) := by decide +kernel
theorem dX8_cheapestFreeSite_58 : decode cX8_cheapestFreeSite 58 = .ok (.iload_n 3, 1) := by decide +kernel
theorem dX8_cheapestFreeSite_59 : decode cX8_cheapestFreeSite 59 = .ok (.invokevirtual 102, 3) := by decide +kernel
theorem dX8_cheapestFreeSite_62 : decode cX8_cheapestFreeSite 62 = .ok (.goto 4, 3) := by decide +kernel
theorem dX8_cheapestFreeSite_65 : decode cX8_cheapestFreeSite 65 = .ok (.iload_n 2, 1) := by decide +kernel
theorem dX8_cheapestFreeSite_66 : decode cX8_cheapestFreeSite 66 = .ok (.istore_n 2, 1) := by decide +kernel
theorem dX8_cheapestFreeSite_67 : decode cX8_cheapestFreeSite 67 = .ok (.iinc 3 1, 3) := by decide +kernel
theorem dX8_cheapestFreeSite_70 : decode cX8_cheapestFreeSite 70 = .ok (.goto (-63), 3) := by decide +kernel
theorem dX8_cheapestFreeSite_73 : decode cX8_cheapestFreeSite 73 = .ok (.aload_n 0, 1) := by decide +kernel
theorem dX8_cheapestFreeSite_74 : decode cX8_cheapestFreeSite 74 = .ok (.iload_n 1, 1) := by decide +kernel
theorem dX8_cheapestFreeSite_75 : decode cX8_cheapestFreeSite 75 = .ok (.iconst (-1), 1) := by decide +kernel
theorem dX8_cheapestFreeSite_76 : decode cX8_cheapestFreeSite 76 = .ok (.if_icmp .eq 7, 3) := by decide +kernel
theorem dX8_cheapestFreeSite_79 : decode cX8_cheapestFreeSite 79 = .ok (.iconst 1, 1) := by decide +kernel
theorem dX8_cheapestFreeSite_80 : decode cX8_cheapestFreeSite 80 = .ok (.goto 4, 3) := by decide +kernel
theorem dX8_cheapestFreeSite_83 : decode cX8_cheapestFreeSite 83 = .ok (.iconst 0, 1) := by decide +kernel
theorem dX8_cheapestFreeSite_84 : decode cX8_cheapestFreeSite 84 = .ok (.invokevirtual 61, 3) := by decide +kernel
theorem dX8_cheapestFreeSite_87 : decode cX8_cheapestFreeSite 87 = .ok (.ifCond .eq 7, 3) := by decide +kernel
theorem dX8_cheapestFreeSite_90 : decode cX8_cheapestFreeSite 90 = .ok (.iload_n 1, 1) := by decide +kernel
theorem dX8_cheapestFreeSite_91 : decode cX8_cheapestFreeSite 91 = .ok (.goto 4, 3) := by decide +kernel
theorem dX8_cheapestFreeSite_94 : decode cX8_cheapestFreeSite 94 = .ok (.iconst 0, 1) := by decide +kernel
theorem dX8_cheapestFreeSite_95 : decode cX8_cheapestFreeSite 95 = .ok (.ireturn, 1) := by decide +kernel
set_option maxRecDepth 20000 in
theorem ggX8_measures_X8_isDone : GoodIn wsX8_measures wsX8_isDone := goodIn_ca (goodIn_r _ [12, 13, 14, 15, 11, 16, 3, 17, 18, 19, 20, 21, 22, 23, 24, 25, 26, 27, 28, 29, 30, 31, 32, 33, 34, 35, 36, 37, 38, 39, 40, 41, 42, 43, 44, 45, 46] (by decide +kernel) (by decide +kernel)) (goodIn_sub (fun _ h => List.mem_cons_of_mem _ (List.mem_append_right _ h)) (by decide +kernel))
set_option maxRecDepth 20000 in
theorem gX8_measures_X8_isDone : GoodIn wsX8_measures (wsV RX8 134 RX8 yX8_isDone wsX8_isDone) := goodIn_app (goodIn_of _ (by decide +kernel)) ggX8_measures_X8_isDone
set_option maxRecDepth 20000 in
theorem ggX8_measures_X8_of : GoodIn wsX8_measures wsX8_of := goodIn_ca (goodIn_r _ [23, 3, 13, 14, 15, 11, 16, 17, 18, 19, 24, 25, 26, 27, 28, 29, 30, 31, 32, 33, 34, 35, 36, 37, 38, 39, 40, 41, 42, 43, 44, 45, 46] (by decide +kernel) (by decide +kernel)) (goodIn_sub (fun _ h => List.mem_cons_of_mem _ (List.mem_append_right _ h)) (by decide +kernel))
set_option maxRecDepth 20000 in
theorem gX8_measures_X8_of : GoodIn wsX8_measures (wsV RX8 81 RX8 yX8_of wsX8_of) := goodIn_app (goodIn_of _ (by decide +kernel)) ggX8_measures_X8_of
theorem dX8_measures_0 : decode cX8_measures 0 = .ok (.iconst 0, 1) := by decide +kernel
theorem dX8_measures_1 : decode cX8_measures 1 = .ok (.istore_n 2, 1) := by decide +kernel
theorem dX8_measures_2 : decode cX8_measures 2 = .ok (.iload_n 2, 1) := by decide +kernel
theorem dX8_measures_3 : decode cX8_measures 3 = .ok (.bipush 8, 2) := by decide +kernel
theorem dX8_measures_5 : decode cX8_measures 5 = .ok (.if_icmp .ge 26, 3) := by decide +kernel
theorem dX8_measures_8 : decode cX8_measures 8 = .ok (.aload_n 0, 1) := by decide +kernel
theorem dX8_measures_9 : decode cX8_measures 9 = .ok (.getfield 35, 3) := by decide +kernel
theorem dX8_measures_12 : decode cX8_measures 12 = .ok (.iload_n 2, 1) := by decide +kernel
theorem dX8_measures_13 : decode cX8_measures 13 = .ok (.iload_n 2, 1) := by decide +kernel
theorem dX8_measures_14 : decode cX8_measures 14 = .ok (.iload_n 1, 1) := by decide +kernel
theorem dX8_measures_15 : decode cX8_measures 15 = .ok (.if_icmp .ne 7, 3) := by decide +kernel
theorem dX8_measures_18 : decode cX8_measures 18 = .ok (.iconst 0, 1) := by decide +kernel
theorem dX8_measures_19 : decode cX8_measures 19 = .ok (.goto 5, 3) := by decide +kernel
theorem dX8_measures_22 : decode cX8_measures 22 = .ok (.ldc 171, 2) := by decide +kernel
theorem dX8_measures_24 : decode cX8_measures 24 = .ok (.iastore, 1) := by decide +kernel
theorem dX8_measures_25 : decode cX8_measures 25 = .ok (.iinc 2 1, 3) := by decide +kernel
theorem dX8_measures_28 : decode cX8_measures 28 = .ok (.goto (-26), 3) := by decide +kernel
theorem dX8_measures_31 : decode cX8_measures 31 = .ok (.iconst 0, 1) := by decide +kernel
theorem dX8_measures_32 : decode cX8_measures 32 = .ok (.istore_n 2, 1) := by decide +kernel
theorem dX8_measures_33 : decode cX8_measures 33 = .ok (.iload_n 2, 1) := by decide +kernel
theorem dX8_measures_34 : decode cX8_measures 34 = .ok (.bipush 8, 2) := by decide +kernel
theorem dX8_measures_36 : decode cX8_measures 36 = .ok (.if_icmp .ge 113, 3) := by decide +kernel
theorem dX8_measures_39 : decode cX8_measures 39 = .ok (.iconst 0, 1) := by decide +kernel
theorem dX8_measures_40 : decode cX8_measures 40 = .ok (.istore_n 3, 1) := by decide +kernel
theorem dX8_measures_41 : decode cX8_measures 41 = .ok (.iload_n 3, 1) := by decide +kernel
theorem dX8_measures_42 : decode cX8_measures 42 = .ok (.aload_n 0, 1) := by decide +kernel
theorem dX8_measures_43 : decode cX8_measures 43 = .ok (.getfield 9, 3) := by decide +kernel
theorem dX8_measures_46 : decode cX8_measures 46 = .ok (.iconst 2, 1) := by decide +kernel
theorem dX8_measures_47 : decode cX8_measures 47 = .ok (.iaload, 1) := by decide +kernel
theorem dX8_measures_48 : decode cX8_measures 48 = .ok (.if_icmp .ge 95, 3) := by decide +kernel
theorem dX8_measures_51 : decode cX8_measures 51 = .ok (.aload_n 0, 1) := by decide +kernel
theorem dX8_measures_52 : decode cX8_measures 52 = .ok (.iload_n 3, 1) := by decide +kernel
theorem dX8_measures_53 : decode cX8_measures 53 = .ok (.invokevirtual 134, 3) := by decide +kernel
theorem dX8_measures_56 : decode cX8_measures 56 = .ok (.ifCond .eq 81, 3) := by decide +kernel
theorem dX8_measures_59 : decode cX8_measures 59 = .ok (.aload_n 0, 1) := by decide +kernel
theorem dX8_measures_60 : decode cX8_measures 60 = .ok (.iload_n 3, 1) := by decide +kernel
theorem dX8_measures_61 : decode cX8_measures 61 = .ok (.iconst 0, 1) := by decide +kernel
theorem dX8_measures_62 : decode cX8_measures 62 = .ok (.invokevirtual 81, 3) := by decide +kernel
theorem dX8_measures_65 : decode cX8_measures 65 = .ok (.istore 4, 2) := by decide +kernel
theorem dX8_measures_67 : decode cX8_measures 67 = .ok (.aload_n 0, 1) := by decide +kernel
theorem dX8_measures_68 : decode cX8_measures 68 = .ok (.iload_n 3, 1) := by decide +kernel
theorem dX8_measures_69 : decode cX8_measures 69 = .ok (.iconst 1, 1) := by decide +kernel
theorem dX8_measures_70 : decode cX8_measures 70 = .ok (.invokevirtual 81, 3) := by decide +kernel
theorem dX8_measures_73 : decode cX8_measures 73 = .ok (.istore 5, 2) := by decide +kernel
theorem dX8_measures_75 : decode cX8_measures 75 = .ok (.aload_n 0, 1) := by decide +kernel
theorem dX8_measures_76 : decode cX8_measures 76 = .ok (.getfield 35, 3) := by decide +kernel
theorem dX8_measures_79 : decode cX8_measures 79 = .ok (.iload 5, 2) := by decide +kernel
theorem dX8_measures_81 : decode cX8_measures 81 = .ok (.aload_n 0, 1) := by decide +kernel
theorem dX8_measures_82 : decode cX8_measures 82 = .ok (.getfield 35, 3) := by decide +kernel
theorem dX8_measures_85 : decode cX8_measures 85 = .ok (.iload 5, 2) := by decide +kernel
theorem dX8_measures_87 : decode cX8_measures 87 = .ok (.iaload, 1) := by decide +kernel
theorem dX8_measures_88 : decode cX8_measures 88 = .ok (.aload_n 0, 1) := by decide +kernel
theorem dX8_measures_89 : decode cX8_measures 89 = .ok (.getfield 35, 3) := by decide +kernel
theorem dX8_measures_92 : decode cX8_measures 92 = .ok (.iload 4, 2) := by decide +kernel
theorem dX8_measures_94 : decode cX8_measures 94 = .ok (.iaload, 1) := by decide +kernel
theorem dX8_measures_95 : decode cX8_measures 95 = .ok (.aload_n 0, 1) := by decide +kernel
theorem dX8_measures_96 : decode cX8_measures 96 = .ok (.iload_n 3, 1) := by decide +kernel
theorem dX8_measures_97 : decode cX8_measures 97 = .ok (.iconst 2, 1) := by decide +kernel
theorem dX8_measures_98 : decode cX8_measures 98 = .ok (.invokevirtual 81, 3) := by decide +kernel
theorem dX8_measures_101 : decode cX8_measures 101 = .ok (.iadd, 1) := by decide +kernel
theorem dX8_measures_102 : decode cX8_measures 102 = .ok (.invokestatic 114, 3) := by decide +kernel
theorem dX8_measures_105 : decode cX8_measures 105 = .ok (.iastore, 1) := by decide +kernel
theorem dX8_measures_106 : decode cX8_measures 106 = .ok (.aload_n 0, 1) := by decide +kernel
theorem dX8_measures_107 : decode cX8_measures 107 = .ok (.getfield 35, 3) := by decide +kernel
theorem dX8_measures_110 : decode cX8_measures 110 = .ok (.iload 4, 2) := by decide +kernel
theorem dX8_measures_112 : decode cX8_measures 112 = .ok (.aload_n 0, 1) := by decide +kernel
theorem dX8_measures_113 : decode cX8_measures 113 = .ok (.getfield 35, 3) := by decide +kernel
theorem dX8_measures_116 : decode cX8_measures 116 = .ok (.iload 4, 2) := by decide +kernel
theorem dX8_measures_118 : decode cX8_measures 118 = .ok (.iaload, 1) := by decide +kernel
theorem dX8_measures_119 : decode cX8_measures 119 = .ok (.aload_n 0, 1) := by decide +kernel
theorem dX8_measures_120 : decode cX8_measures 120 = .ok (.getfield 35, 3) := by decide +kernel
theorem dX8_measures_123 : decode cX8_measures 123 = .ok (.iload 5, 2) := by decide +kernel
theorem dX8_measures_125 : decode cX8_measures 125 = .ok (.iaload, 1) := by decide +kernel
theorem dX8_measures_126 : decode cX8_measures 126 = .ok (.aload_n 0, 1) := by decide +kernel
theorem dX8_measures_127 : decode cX8_measures 127 = .ok (.iload_n 3, 1) := by decide +kernel
theorem dX8_measures_128 : decode cX8_measures 128 = .ok (.iconst 2, 1) := by decide +kernel
theorem dX8_measures_129 : decode cX8_measures 129 = .ok (.invokevirtual 81, 3) := by decide +kernel
theorem dX8_measures_132 : decode cX8_measures 132 = .ok (.iadd, 1) := by decide +kernel
theorem dX8_measures_133 : decode cX8_measures 133 = .ok (.invokestatic 114, 3) := by decide +kernel
theorem dX8_measures_136 : decode cX8_measures 136 = .ok (.iastore, 1) := by decide +kernel
theorem dX8_measures_137 : decode cX8_measures 137 = .ok (.iinc 3 1, 3) := by decide +kernel
theorem dX8_measures_140 : decode cX8_measures 140 = .ok (.goto (-99), 3) := by decide +kernel
theorem dX8_measures_143 : decode cX8_measures 143 = .ok (.iinc 2 1, 3) := by decide +kernel
theorem dX8_measures_146 : decode cX8_measures 146 = .ok (.goto (-113), 3) := by decide +kernel
theorem dX8_measures_149 : decode cX8_measures 149 = .ok (.return_, 1) := by decide +kernel
set_option maxRecDepth 20000 in
theorem ggX8_isConnected_X8_isIsland : GoodIn wsX8_isConnected wsX8_isIsland := goodIn_r _ [6, 7, 8, 5, 9] (by decide +kernel) (by decide +kernel)
set_option maxRecDepth 20000 in
theorem gX8_isConnected_X8_isIsland : GoodIn wsX8_isConnected (va_wsS RX8 117 yX8_isIsland wsX8_isIsland) := goodIn_app (goodIn_of _ (by decide +kernel)) ggX8_isConnected_X8_isIsland
set_option maxRecDepth 20000 in
theorem ggX8_isConnected_X8_goes : GoodIn wsX8_isConnected wsX8_goes := goodIn_r _ [13, 14, 15, 16, 5, 17, 18, 43, 44, 45, 46, 47, 48, 49, 50, 51, 52, 53, 54, 55, 56, 57, 58, 59, 60, 61, 62] (by decide +kernel) (by decide +kernel)
set_option maxRecDepth 20000 in
theorem gX8_isConnected_X8_goes : GoodIn wsX8_isConnected (wsV RX8 61 RX8 yX8_goes wsX8_goes) := goodIn_app (goodIn_of _ (by decide +kernel)) ggX8_isConnected_X8_goes
set_option maxRecDepth 20000 in
theorem ggX8_isConnected_X8_measures : GoodIn wsX8_isConnected wsX8_measures := goodIn_ca (goodIn_r _ [22, 1, 2, 23, 24, 25, 26, 27, 28, 29, 30, 5, 31, 32, 33, 34, 35, 7, 8, 9, 36, 37, 38, 39, 40, 41, 42, 43, 44, 45, 46, 47, 48, 49, 50, 51, 52, 53, 54, 55, 56, 57, 58, 59, 60, 61, 62] (by decide +kernel) (by decide +kernel)) (goodIn_sub (fun _ h => List.mem_cons_of_mem _ (List.mem_append_right _ h)) (by decide +kernel))
set_option maxRecDepth 20000 in
theorem gX8_isConnected_X8_measures : GoodIn wsX8_isConnected (wsV RX8 172 RX8 yX8_measures wsX8_measures) := goodIn_app (goodIn_of _ (by decide +kernel)) ggX8_isConnected_X8_measures
theorem dX8_isConnected_0 : decode cX8_isConnected 0 = .ok (.aload_n 0, 1) := by decide +kernel
theorem dX8_isConnected_1 : decode cX8_isConnected 1 = .ok (.iload_n 1, 1) := by decide +kernel
theorem dX8_isConnected_2 : decode cX8_isConnected 2 = .ok (.invokestatic 117, 3) := by decide +kernel
theorem dX8_isConnected_5 : decode cX8_isConnected 5 = .ok (.ifCond .eq 14, 3) := by decide +kernel
theorem dX8_isConnected_8 : decode cX8_isConnected 8 = .ok (.iload_n 2, 1) := by decide +kernel
theorem dX8_isConnected_9 : decode cX8_isConnected 9 = .ok (.invokestatic 117, 3) := by decide +kernel
theorem dX8_isConnected_12 : decode cX8_isConnected 12 = .ok (.ifCond .eq 7, 3) := by decide +kernel
theorem dX8_isConnected_15 : decode cX8_isConnected 15 = .ok (.iconst 1, 1) := by decide +kernel
theorem dX8_isConnected_16 : decode cX8_isConnected 16 = .ok (.goto 4, 3) := by decide +kernel
theorem dX8_isConnected_19 : decode cX8_isConnected 19 = .ok (.iconst 0, 1) := by decide +kernel
theorem dX8_isConnected_20 : decode cX8_isConnected 20 = .ok (.invokevirtual 61, 3) := by decide +kernel
theorem dX8_isConnected_23 : decode cX8_isConnected 23 = .ok (.ifCond .ne 5, 3) := by decide +kernel
theorem dX8_isConnected_26 : decode cX8_isConnected 26 = .ok (.iconst 0, 1) := by decide +kernel
theorem dX8_isConnected_27 : decode cX8_isConnected 27 = .ok (.ireturn, 1) := by decide +kernel
theorem dX8_isConnected_28 : decode cX8_isConnected 28 = .ok (.aload_n 0, 1) := by decide +kernel
theorem dX8_isConnected_29 : decode cX8_isConnected 29 = .ok (.iload_n 1, 1) := by decide +kernel
theorem dX8_isConnected_30 : decode cX8_isConnected 30 = .ok (.invokevirtual 172, 3) := by decide +kernel
theorem dX8_isConnected_33 : decode cX8_isConnected 33 = .ok (.aload_n 0, 1) := by decide +kernel
theorem dX8_isConnected_34 : decode cX8_isConnected 34 = .ok (.getfield 35, 3) := by decide +kernel
theorem dX8_isConnected_37 : decode cX8_isConnected 37 = .ok (.iload_n 2, 1) := by decide +kernel
theorem dX8_isConnected_38 : decode cX8_isConnected 38 = .ok (.iaload, 1) := by decide +kernel
theorem dX8_isConnected_39 : decode cX8_isConnected 39 = .ok (.ldc 171, 2) := by decide +kernel
theorem dX8_isConnected_41 : decode cX8_isConnected 41 = .ok (.if_icmp .ge 7, 3) := by decide +kernel
theorem dX8_isConnected_44 : decode cX8_isConnected 44 = .ok (.iconst 1, 1) := by decide +kernel
theorem dX8_isConnected_45 : decode cX8_isConnected 45 = .ok (.goto 4, 3) := by decide +kernel
theorem dX8_isConnected_48 : decode cX8_isConnected 48 = .ok (.iconst 0, 1) := by decide +kernel
theorem dX8_isConnected_49 : decode cX8_isConnected 49 = .ok (.ireturn, 1) := by decide +kernel
set_option maxRecDepth 20000 in
theorem ggX8_distanceOf_X8_isIsland : GoodIn wsX8_distanceOf wsX8_isIsland := goodIn_r _ [6, 7, 8, 5, 9] (by decide +kernel) (by decide +kernel)
set_option maxRecDepth 20000 in
theorem gX8_distanceOf_X8_isIsland : GoodIn wsX8_distanceOf (va_wsS RX8 117 yX8_isIsland wsX8_isIsland) := goodIn_app (goodIn_of _ (by decide +kernel)) ggX8_distanceOf_X8_isIsland
set_option maxRecDepth 20000 in
theorem ggX8_distanceOf_X8_goes : GoodIn wsX8_distanceOf wsX8_goes := goodIn_r _ [13, 14, 15, 16, 5, 17, 18, 43, 44, 45, 46, 47, 48, 49, 50, 51, 52, 53, 54, 55, 56, 57, 58, 59, 60, 61, 62] (by decide +kernel) (by decide +kernel)
set_option maxRecDepth 20000 in
theorem gX8_distanceOf_X8_goes : GoodIn wsX8_distanceOf (wsV RX8 61 RX8 yX8_goes wsX8_goes) := goodIn_app (goodIn_of _ (by decide +kernel)) ggX8_distanceOf_X8_goes
set_option maxRecDepth 20000 in
theorem ggX8_distanceOf_X8_measures : GoodIn wsX8_distanceOf wsX8_measures := goodIn_ca (goodIn_r _ [22, 1, 2, 23, 24, 25, 26, 27, 28, 29, 30, 5, 31, 32, 33, 34, 35, 7, 8, 9, 36, 37, 38, 39, 40, 41, 42, 43, 44, 45, 46, 47, 48, 49, 50, 51, 52, 53, 54, 55, 56, 57, 58, 59, 60, 61, 62] (by decide +kernel) (by decide +kernel)) (goodIn_sub (fun _ h => List.mem_cons_of_mem _ (List.mem_append_right _ h)) (by decide +kernel))
set_option maxRecDepth 20000 in
theorem gX8_distanceOf_X8_measures : GoodIn wsX8_distanceOf (wsV RX8 172 RX8 yX8_measures wsX8_measures) := goodIn_app (goodIn_of _ (by decide +kernel)) ggX8_distanceOf_X8_measures
set_option maxRecDepth 20000 in
theorem ggX8_distanceOf_X8_holds : GoodIn wsX8_distanceOf wsX8_holds := goodIn_r _ [17, 18, 43, 44, 45, 46, 47, 48, 49, 50, 51, 52, 53, 54, 55, 56, 57, 58, 59, 60, 61, 62] (by decide +kernel) (by decide +kernel)
set_option maxRecDepth 20000 in
theorem gX8_distanceOf_X8_holds : GoodIn wsX8_distanceOf (wsV RX8 47 RX8 yX8_holds wsX8_holds) := goodIn_app (goodIn_of _ (by decide +kernel)) ggX8_distanceOf_X8_holds
theorem dX8_distanceOf_0 : decode cX8_distanceOf 0 = .ok (.aload_n 0, 1) := by decide +kernel
theorem dX8_distanceOf_1 : decode cX8_distanceOf 1 = .ok (.iload_n 1, 1) := by decide +kernel
theorem dX8_distanceOf_2 : decode cX8_distanceOf 2 = .ok (.invokestatic 117, 3) := by decide +kernel
theorem dX8_distanceOf_5 : decode cX8_distanceOf 5 = .ok (.ifCond .eq 14, 3) := by decide +kernel
theorem dX8_distanceOf_8 : decode cX8_distanceOf 8 = .ok (.iload_n 2, 1) := by decide +kernel
theorem dX8_distanceOf_9 : decode cX8_distanceOf 9 = .ok (.invokestatic 117, 3) := by decide +kernel
theorem dX8_distanceOf_12 : decode cX8_distanceOf 12 = .ok (.ifCond .eq 7, 3) := by decide +kernel
theorem dX8_distanceOf_15 : decode cX8_distanceOf 15 = .ok (.iconst 1, 1) := by decide +kernel
theorem dX8_distanceOf_16 : decode cX8_distanceOf 16 = .ok (.goto 4, 3) := by decide +kernel
theorem dX8_distanceOf_19 : decode cX8_distanceOf 19 = .ok (.iconst 0, 1) := by decide +kernel
theorem dX8_distanceOf_20 : decode cX8_distanceOf 20 = .ok (.invokevirtual 61, 3) := by decide +kernel
theorem dX8_distanceOf_23 : decode cX8_distanceOf 23 = .ok (.ifCond .ne 5, 3) := by decide +kernel
theorem dX8_distanceOf_26 : decode cX8_distanceOf 26 = .ok (.iconst 0, 1) := by decide +kernel
theorem dX8_distanceOf_27 : decode cX8_distanceOf 27 = .ok (.ireturn, 1) := by decide +kernel
theorem dX8_distanceOf_28 : decode cX8_distanceOf 28 = .ok (.aload_n 0, 1) := by decide +kernel
theorem dX8_distanceOf_29 : decode cX8_distanceOf 29 = .ok (.iload_n 1, 1) := by decide +kernel
theorem dX8_distanceOf_30 : decode cX8_distanceOf 30 = .ok (.invokevirtual 172, 3) := by decide +kernel
theorem dX8_distanceOf_33 : decode cX8_distanceOf 33 = .ok (.aload_n 0, 1) := by decide +kernel
theorem dX8_distanceOf_34 : decode cX8_distanceOf 34 = .ok (.iconst 1, 1) := by decide +kernel
theorem dX8_distanceOf_35 : decode cX8_distanceOf 35 = .ok (.aload_n 0, 1) := by decide +kernel
theorem dX8_distanceOf_36 : decode cX8_distanceOf 36 = .ok (.getfield 35, 3) := by decide +kernel
theorem dX8_distanceOf_39 : decode cX8_distanceOf 39 = .ok (.iload_n 2, 1) := by decide +kernel
theorem dX8_distanceOf_40 : decode cX8_distanceOf 40 = .ok (.iaload, 1) := by decide +kernel
theorem dX8_distanceOf_41 : decode cX8_distanceOf 41 = .ok (.ldc 171, 2) := by decide +kernel
theorem dX8_distanceOf_43 : decode cX8_distanceOf 43 = .ok (.if_icmp .ge 7, 3) := by decide +kernel
theorem dX8_distanceOf_46 : decode cX8_distanceOf 46 = .ok (.iconst 1, 1) := by decide +kernel
theorem dX8_distanceOf_47 : decode cX8_distanceOf 47 = .ok (.goto 4, 3) := by decide +kernel
theorem dX8_distanceOf_50 : decode cX8_distanceOf 50 = .ok (.iconst 0, 1) := by decide +kernel
theorem dX8_distanceOf_51 : decode cX8_distanceOf 51 = .ok (.iconst 1, 1) := by decide +kernel
theorem dX8_distanceOf_52 : decode cX8_distanceOf 52 = .ok (.iconst 1, 1) := by decide +kernel
theorem dX8_distanceOf_53 : decode cX8_distanceOf 53 = .ok (.invokevirtual 47, 3) := by decide +kernel
theorem dX8_distanceOf_56 : decode cX8_distanceOf 56 = .ok (.ifCond .eq 12, 3) := by decide +kernel
theorem dX8_distanceOf_59 : decode cX8_distanceOf 59 = .ok (.aload_n 0, 1) := by decide +kernel
theorem dX8_distanceOf_60 : decode cX8_distanceOf 60 = .ok (.getfield 35, 3) := by decide +kernel
theorem dX8_distanceOf_63 : decode cX8_distanceOf 63 = .ok (.iload_n 2, 1) := by decide +kernel
theorem dX8_distanceOf_64 : decode cX8_distanceOf 64 = .ok (.iaload, 1) := by decide +kernel
theorem dX8_distanceOf_65 : decode cX8_distanceOf 65 = .ok (.goto 4, 3) := by decide +kernel
theorem dX8_distanceOf_68 : decode cX8_distanceOf 68 = .ok (.iconst 0, 1) := by decide +kernel
theorem dX8_distanceOf_69 : decode cX8_distanceOf 69 = .ok (.ireturn, 1) := by decide +kernel
set_option maxRecDepth 20000 in
theorem ggX8_distance_X8_distanceOf : GoodIn wsX8_distance wsX8_distanceOf := goodIn_ca (goodIn_r _ [5, 6, 7, 8, 9, 4, 10, 11, 12, 13, 14, 15, 16, 17, 18, 19, 20, 21, 22, 23, 24, 25, 26, 27, 28, 29, 30, 31, 32, 33, 34, 35, 36, 37, 38, 39, 40, 41, 42, 43, 44, 45, 46, 47, 48, 49, 50, 51, 52, 53, 54, 55, 56, 57, 58, 59, 60, 61, 62, 63, 64, 65, 66] (by decide +kernel) (by decide +kernel)) (goodIn_sub (fun _ h => List.mem_cons_of_mem _ (List.mem_append_right _ h)) (by decide +kernel))
set_option maxRecDepth 20000 in
theorem gX8_distance_X8_distanceOf : GoodIn wsX8_distance (wsV RX8 176 RX8 yX8_distanceOf wsX8_distanceOf) := goodIn_app (goodIn_of _ (by decide +kernel)) ggX8_distance_X8_distanceOf
theorem dX8_distance_0 : decode cX8_distance 0 = .ok (.aload_n 0, 1) := by decide +kernel
theorem dX8_distance_1 : decode cX8_distance 1 = .ok (.iload_n 1, 1) := by decide +kernel
theorem dX8_distance_2 : decode cX8_distance 2 = .ok (.iload_n 2, 1) := by decide +kernel
theorem dX8_distance_3 : decode cX8_distance 3 = .ok (.invokevirtual 176, 3) := by decide +kernel
theorem dX8_distance_6 : decode cX8_distance 6 = .ok (.ireturn, 1) := by decide +kernel
set_option maxRecDepth 20000 in
theorem ggX8_distanceByRelaxation_X8_distanceOf : GoodIn wsX8_distanceByRelaxation wsX8_distanceOf := goodIn_ca (goodIn_r _ [5, 6, 7, 8, 9, 4, 10, 11, 12, 13, 14, 15, 16, 17, 18, 19, 20, 21, 22, 23, 24, 25, 26, 27, 28, 29, 30, 31, 32, 33, 34, 35, 36, 37, 38, 39, 40, 41, 42, 43, 44, 45, 46, 47, 48, 49, 50, 51, 52, 53, 54, 55, 56, 57, 58, 59, 60, 61, 62, 63, 64, 65, 66] (by decide +kernel) (by decide +kernel)) (goodIn_sub (fun _ h => List.mem_cons_of_mem _ (List.mem_append_right _ h)) (by decide +kernel))
set_option maxRecDepth 20000 in
theorem gX8_distanceByRelaxation_X8_distanceOf : GoodIn wsX8_distanceByRelaxation (wsV RX8 176 RX8 yX8_distanceOf wsX8_distanceOf) := goodIn_app (goodIn_of _ (by decide +kernel)) ggX8_distanceByRelaxation_X8_distanceOf
theorem dX8_distanceByRelaxation_0 : decode cX8_distanceByRelaxation 0 = .ok (.aload_n 0, 1) := by decide +kernel
theorem dX8_distanceByRelaxation_1 : decode cX8_distanceByRelaxation 1 = .ok (.iload_n 1, 1) := by decide +kernel
theorem dX8_distanceByRelaxation_2 : decode cX8_distanceByRelaxation 2 = .ok (.iload_n 2, 1) := by decide +kernel
theorem dX8_distanceByRelaxation_3 : decode cX8_distanceByRelaxation 3 = .ok (.invokevirtual 176, 3) := by decide +kernel
theorem dX8_distanceByRelaxation_6 : decode cX8_distanceByRelaxation 6 = .ok (.ireturn, 1) := by decide +kernel
set_option maxRecDepth 20000 in
theorem ggX8_components_X8_measures : GoodIn wsX8_components wsX8_measures := goodIn_ca (goodIn_r _ [8, 2, 3, 9, 10, 11, 12, 13, 14, 15, 16, 7, 17, 18, 19, 20, 21, 22, 23, 24, 25, 26, 27, 28, 29, 30, 31, 32, 33, 34, 35, 36, 37, 38, 39, 40, 41, 42, 43, 44, 45, 46, 47, 48, 49, 50, 51] (by decide +kernel) (by decide +kernel)) (goodIn_sub (fun _ h => List.mem_cons_of_mem _ (List.mem_append_right _ h)) (by decide +kernel))
set_option maxRecDepth 20000 in
theorem gX8_components_X8_measures : GoodIn wsX8_components (wsV RX8 172 RX8 yX8_measures wsX8_measures) := goodIn_app (goodIn_of _ (by decide +kernel)) ggX8_components_X8_measures
theorem dX8_components_0 : decode cX8_components 0 = .ok (.aload_n 0, 1) := by decide +kernel
theorem dX8_components_1 : decode cX8_components 1 = .ok (.iconst 0, 1) := by decide +kernel
theorem dX8_components_2 : decode cX8_components 2 = .ok (.putfield 44, 3) := by decide +kernel
theorem dX8_components_5 : decode cX8_components 5 = .ok (.iconst 0, 1) := by decide +kernel
theorem dX8_components_6 : decode cX8_components 6 = .ok (.istore_n 1, 1) := by decide +kernel
theorem dX8_components_7 : decode cX8_components 7 = .ok (.iconst 0, 1) := by decide +kernel
theorem dX8_components_8 : decode cX8_components 8 = .ok (.istore_n 2, 1) := by decide +kernel
theorem dX8_components_9 : decode cX8_components 9 = .ok (.iload_n 2, 1) := by decide +kernel
theorem dX8_components_10 : decode cX8_components 10 = .ok (.bipush 8, 2) := by decide +kernel
theorem dX8_components_12 : decode cX8_components 12 = .ok (.if_icmp .ge 65, 3) := by decide +kernel
theorem dX8_components_15 : decode cX8_components 15 = .ok (.aload_n 0, 1) := by decide +kernel
theorem dX8_components_16 : decode cX8_components 16 = .ok (.iload_n 2, 1) := by decide +kernel
theorem dX8_components_17 : decode cX8_components 17 = .ok (.invokevirtual 172, 3) := by decide +kernel
theorem dX8_components_20 : decode cX8_components 20 = .ok (.iconst 1, 1) := by decide +kernel
theorem dX8_components_21 : decode cX8_components 21 = .ok (.istore_n 3, 1) := by decide +kernel
theorem dX8_components_22 : decode cX8_components 22 = .ok (.iconst 0, 1) := by decide +kernel
theorem dX8_components_23 : decode cX8_components 23 = .ok (.istore 4, 2) := by decide +kernel
theorem dX8_components_25 : decode cX8_components 25 = .ok (.iload 4, 2) := by decide +kernel
theorem dX8_components_27 : decode cX8_components 27 = .ok (.iload_n 2, 1) := by decide +kernel
theorem dX8_components_28 : decode cX8_components 28 = .ok (.if_icmp .ge 31, 3) := by decide +kernel
theorem dX8_components_31 : decode cX8_components 31 = .ok (.iload_n 3, 1) := by decide +kernel
theorem dX8_components_32 : decode cX8_components 32 = .ok (.ifCond .eq 19, 3) := by decide +kernel
theorem dX8_components_35 : decode cX8_components 35 = .ok (.aload_n 0, 1) := by decide +kernel
theorem dX8_components_36 : decode cX8_components 36 = .ok (.getfield 35, 3) := by decide +kernel
theorem dX8_components_39 : decode cX8_components 39 = .ok (.iload 4, 2) := by decide +kernel
theorem dX8_components_41 : decode cX8_components 41 = .ok (.iaload, 1) := by decide +kernel
theorem dX8_components_42 : decode cX8_components 42 = .ok (.ldc 171, 2) := by decide +kernel
theorem dX8_components_44 : decode cX8_components 44 = .ok (.if_icmp .lt 7, 3) := by decide +kernel
theorem dX8_components_47 : decode cX8_components 47 = .ok (.iconst 1, 1) := by decide +kernel
theorem dX8_components_48 : decode cX8_components 48 = .ok (.goto 4, 3) := by decide +kernel
theorem dX8_components_51 : decode cX8_components 51 = .ok (.iconst 0, 1) := by decide +kernel
theorem dX8_components_52 : decode cX8_components 52 = .ok (.istore_n 3, 1) := by decide +kernel
theorem dX8_components_53 : decode cX8_components 53 = .ok (.iinc 4 1, 3) := by decide +kernel
theorem dX8_components_56 : decode cX8_components 56 = .ok (.goto (-31), 3) := by decide +kernel
theorem dX8_components_59 : decode cX8_components 59 = .ok (.iload_n 1, 1) := by decide +kernel
theorem dX8_components_60 : decode cX8_components 60 = .ok (.iload_n 3, 1) := by decide +kernel
theorem dX8_components_61 : decode cX8_components 61 = .ok (.ifCond .eq 7, 3) := by decide +kernel
theorem dX8_components_64 : decode cX8_components 64 = .ok (.iconst 1, 1) := by decide +kernel
theorem dX8_components_65 : decode cX8_components 65 = .ok (.goto 4, 3) := by decide +kernel
theorem dX8_components_68 : decode cX8_components 68 = .ok (.iconst 0, 1) := by decide +kernel
theorem dX8_components_69 : decode cX8_components 69 = .ok (.iadd, 1) := by decide +kernel
theorem dX8_components_70 : decode cX8_components 70 = .ok (.istore_n 1, 1) := by decide +kernel
theorem dX8_components_71 : decode cX8_components 71 = .ok (.iinc 2 1, 3) := by decide +kernel
theorem dX8_components_74 : decode cX8_components 74 = .ok (.goto (-65), 3) := by decide +kernel
theorem dX8_components_77 : decode cX8_components 77 = .ok (.iload_n 1, 1) := by decide +kernel
theorem dX8_components_78 : decode cX8_components 78 = .ok (.ireturn, 1) := by decide +kernel
set_option maxRecDepth 20000 in
theorem ggX8_componentCount_X8_components : GoodIn wsX8_componentCount wsX8_components := goodIn_ca (goodIn_r _ [5, 6, 7, 8, 9, 10, 11, 4, 12, 13, 14, 15, 16, 17, 18, 19, 20, 21, 22, 23, 24, 25, 26, 27, 28, 29, 30, 31, 32, 33, 34, 35, 36, 37, 38, 39, 40, 41, 42, 43, 44, 45, 46, 47, 48, 49, 50, 51, 52, 53, 54, 55] (by decide +kernel) (by decide +kernel)) (goodIn_sub (fun _ h => List.mem_cons_of_mem _ (List.mem_append_right _ h)) (by decide +kernel))
set_option maxRecDepth 20000 in
theorem gX8_componentCount_X8_components : GoodIn wsX8_componentCount (wsV RX8 179 RX8 yX8_components wsX8_components) := goodIn_app (goodIn_of _ (by decide +kernel)) ggX8_componentCount_X8_components
theorem dX8_componentCount_0 : decode cX8_componentCount 0 = .ok (.aload_n 0, 1) := by decide +kernel
theorem dX8_componentCount_1 : decode cX8_componentCount 1 = .ok (.invokevirtual 179, 3) := by decide +kernel
theorem dX8_componentCount_4 : decode cX8_componentCount 4 = .ok (.ireturn, 1) := by decide +kernel
set_option maxRecDepth 20000 in
theorem ggX8_componentCountByUnion_X8_components : GoodIn wsX8_componentCountByUnion wsX8_components := goodIn_ca (goodIn_r _ [5, 6, 7, 8, 9, 10, 11, 4, 12, 13, 14, 15, 16, 17, 18, 19, 20, 21, 22, 23, 24, 25, 26, 27, 28, 29, 30, 31, 32, 33, 34, 35, 36, 37, 38, 39, 40, 41, 42, 43, 44, 45, 46, 47, 48, 49, 50, 51, 52, 53, 54, 55] (by decide +kernel) (by decide +kernel)) (goodIn_sub (fun _ h => List.mem_cons_of_mem _ (List.mem_append_right _ h)) (by decide +kernel))
set_option maxRecDepth 20000 in
theorem gX8_componentCountByUnion_X8_components : GoodIn wsX8_componentCountByUnion (wsV RX8 179 RX8 yX8_components wsX8_components) := goodIn_app (goodIn_of _ (by decide +kernel)) ggX8_componentCountByUnion_X8_components
theorem dX8_componentCountByUnion_0 : decode cX8_componentCountByUnion 0 = .ok (.aload_n 0, 1) := by decide +kernel
theorem dX8_componentCountByUnion_1 : decode cX8_componentCountByUnion 1 = .ok (.invokevirtual 179, 3) := by decide +kernel
theorem dX8_componentCountByUnion_4 : decode cX8_componentCountByUnion 4 = .ok (.ireturn, 1) := by decide +kernel
theorem dX8_joinsGroups_0 : decode cX8_joinsGroups 0 = .ok (.aload_n 0, 1) := by decide +kernel
theorem dX8_joinsGroups_1 : decode cX8_joinsGroups 1 = .ok (.getfield 38, 3) := by decide +kernel
theorem dX8_joinsGroups_4 : decode cX8_joinsGroups 4 = .ok (.iload_n 2, 1) := by decide +kernel
theorem dX8_joinsGroups_5 : decode cX8_joinsGroups 5 = .ok (.iaload, 1) := by decide +kernel
theorem dX8_joinsGroups_6 : decode cX8_joinsGroups 6 = .ok (.istore_n 3, 1) := by decide +kernel
theorem dX8_joinsGroups_7 : decode cX8_joinsGroups 7 = .ok (.aload_n 0, 1) := by decide +kernel
theorem dX8_joinsGroups_8 : decode cX8_joinsGroups 8 = .ok (.getfield 38, 3) := by decide +kernel
theorem dX8_joinsGroups_11 : decode cX8_joinsGroups 11 = .ok (.iload_n 1, 1) := by decide +kernel
theorem dX8_joinsGroups_12 : decode cX8_joinsGroups 12 = .ok (.iaload, 1) := by decide +kernel
theorem dX8_joinsGroups_13 : decode cX8_joinsGroups 13 = .ok (.istore 4, 2) := by decide +kernel
theorem dX8_joinsGroups_15 : decode cX8_joinsGroups 15 = .ok (.iconst 0, 1) := by decide +kernel
theorem dX8_joinsGroups_16 : decode cX8_joinsGroups 16 = .ok (.istore 5, 2) := by decide +kernel
theorem dX8_joinsGroups_18 : decode cX8_joinsGroups 18 = .ok (.iload 5, 2) := by decide +kernel
theorem dX8_joinsGroups_20 : decode cX8_joinsGroups 20 = .ok (.bipush 8, 2) := by decide +kernel
theorem dX8_joinsGroups_22 : decode cX8_joinsGroups 22 = .ok (.if_icmp .ge 39, 3) := by decide +kernel
theorem dX8_joinsGroups_25 : decode cX8_joinsGroups 25 = .ok (.aload_n 0, 1) := by decide +kernel
theorem dX8_joinsGroups_26 : decode cX8_joinsGroups 26 = .ok (.getfield 38, 3) := by decide +kernel
theorem dX8_joinsGroups_29 : decode cX8_joinsGroups 29 = .ok (.iload 5, 2) := by decide +kernel
theorem dX8_joinsGroups_31 : decode cX8_joinsGroups 31 = .ok (.aload_n 0, 1) := by decide +kernel
theorem dX8_joinsGroups_32 : decode cX8_joinsGroups 32 = .ok (.getfield 38, 3) := by decide +kernel
theorem dX8_joinsGroups_35 : decode cX8_joinsGroups 35 = .ok (.iload 5, 2) := by decide +kernel
theorem dX8_joinsGroups_37 : decode cX8_joinsGroups 37 = .ok (.iaload, 1) := by decide +kernel
theorem dX8_joinsGroups_38 : decode cX8_joinsGroups 38 = .ok (.iload_n 3, 1) := by decide +kernel
theorem dX8_joinsGroups_39 : decode cX8_joinsGroups 39 = .ok (.if_icmp .ne 8, 3) := by decide +kernel
theorem dX8_joinsGroups_42 : decode cX8_joinsGroups 42 = .ok (.iload 4, 2) := by decide +kernel
theorem dX8_joinsGroups_44 : decode cX8_joinsGroups 44 = .ok (.goto 10, 3) := by decide +kernel
theorem dX8_joinsGroups_47 : decode cX8_joinsGroups 47 = .ok (.aload_n 0, 1) := by decide +kernel
theorem dX8_joinsGroups_48 : decode cX8_joinsGroups 48 = .ok (.getfield 38, 3) := by decide +kernel
theorem dX8_joinsGroups_51 : decode cX8_joinsGroups 51 = .ok (.iload 5, 2) := by decide +kernel
theorem dX8_joinsGroups_53 : decode cX8_joinsGroups 53 = .ok (.iaload, 1) := by decide +kernel
theorem dX8_joinsGroups_54 : decode cX8_joinsGroups 54 = .ok (.iastore, 1) := by decide +kernel
theorem dX8_joinsGroups_55 : decode cX8_joinsGroups 55 = .ok (.iinc 5 1, 3) := by decide +kernel
theorem dX8_joinsGroups_58 : decode cX8_joinsGroups 58 = .ok (.goto (-40), 3) := by decide +kernel
theorem dX8_joinsGroups_61 : decode cX8_joinsGroups 61 = .ok (.iload_n 3, 1) := by decide +kernel
theorem dX8_joinsGroups_62 : decode cX8_joinsGroups 62 = .ok (.iload 4, 2) := by decide +kernel
theorem dX8_joinsGroups_64 : decode cX8_joinsGroups 64 = .ok (.if_icmp .eq 7, 3) := by decide +kernel
theorem dX8_joinsGroups_67 : decode cX8_joinsGroups 67 = .ok (.iconst 1, 1) := by decide +kernel
theorem dX8_joinsGroups_68 : decode cX8_joinsGroups 68 = .ok (.goto 4, 3) := by decide +kernel
theorem dX8_joinsGroups_71 : decode cX8_joinsGroups 71 = .ok (.iconst 0, 1) := by decide +kernel
theorem dX8_joinsGroups_72 : decode cX8_joinsGroups 72 = .ok (.ireturn, 1) := by decide +kernel
set_option maxRecDepth 20000 in
theorem ggX8_forest_X8_isDone : GoodIn wsX8_forest wsX8_isDone := goodIn_ca (goodIn_r _ [8, 9, 10, 11, 7, 12, 3, 13, 14, 15, 16, 17, 18, 19, 20, 21, 22, 27, 28, 29, 30, 31, 32, 33, 34, 35, 36, 37, 38, 39, 40, 41, 42, 43, 44, 45, 46] (by decide +kernel) (by decide +kernel)) (goodIn_sub (fun _ h => List.mem_cons_of_mem _ (List.mem_append_right _ h)) (by decide +kernel))
set_option maxRecDepth 20000 in
theorem gX8_forest_X8_isDone : GoodIn wsX8_forest (wsV RX8 134 RX8 yX8_isDone wsX8_isDone) := goodIn_app (goodIn_of _ (by decide +kernel)) ggX8_forest_X8_isDone
set_option maxRecDepth 20000 in
theorem ggX8_forest_X8_of : GoodIn wsX8_forest wsX8_of := goodIn_ca (goodIn_r _ [19, 3, 9, 10, 11, 7, 12, 13, 14, 15, 20, 21, 22, 27, 28, 29, 30, 31, 32, 33, 34, 35, 36, 37, 38, 39, 40, 41, 42, 43, 44, 45, 46] (by decide +kernel) (by decide +kernel)) (goodIn_sub (fun _ h => List.mem_cons_of_mem _ (List.mem_append_right _ h)) (by decide +kernel))
set_option maxRecDepth 20000 in
theorem gX8_forest_X8_of : GoodIn wsX8_forest (wsV RX8 81 RX8 yX8_of wsX8_of) := goodIn_app (goodIn_of _ (by decide +kernel)) ggX8_forest_X8_of
set_option maxRecDepth 20000 in
theorem ggX8_forest_X8_joinsGroups : GoodIn wsX8_forest wsX8_joinsGroups := goodIn_ca (goodIn_r _ [26, 2, 27, 28, 29, 30, 31, 32, 33, 34, 35, 36, 37, 38, 39, 40, 41, 42, 43, 44, 45, 46] (by decide +kernel) (by decide +kernel)) (goodIn_sub (fun _ h => List.mem_cons_of_mem _ (List.mem_append_right _ h)) (by decide +kernel))
set_option maxRecDepth 20000 in
theorem gX8_forest_X8_joinsGroups : GoodIn wsX8_forest (wsV RX8 183 RX8 yX8_joinsGroups wsX8_joinsGroups) := goodIn_app (goodIn_of _ (by decide +kernel)) ggX8_forest_X8_joinsGroups
theorem dX8_forest_0 : decode cX8_forest 0 = .ok (.aload_n 0, 1) := by decide +kernel
theorem dX8_forest_1 : decode cX8_forest 1 = .ok (.iconst 0, 1) := by decide +kernel
theorem dX8_forest_2 : decode cX8_forest 2 = .ok (.putfield 44, 3) := by decide +kernel
theorem dX8_forest_5 : decode cX8_forest 5 = .ok (.iconst 0, 1) := by decide +kernel
theorem dX8_forest_6 : decode cX8_forest 6 = .ok (.istore_n 1, 1) := by decide +kernel
theorem dX8_forest_7 : decode cX8_forest 7 = .ok (.iload_n 1, 1) := by decide +kernel
theorem dX8_forest_8 : decode cX8_forest 8 = .ok (.bipush 8, 2) := by decide +kernel
theorem dX8_forest_10 : decode cX8_forest 10 = .ok (.if_icmp .ge 16, 3) := by decide +kernel
theorem dX8_forest_13 : decode cX8_forest 13 = .ok (.aload_n 0, 1) := by decide +kernel
theorem dX8_forest_14 : decode cX8_forest 14 = .ok (.getfield 38, 3) := by decide +kernel
theorem dX8_forest_17 : decode cX8_forest 17 = .ok (.iload_n 1, 1) := by decide +kernel
theorem dX8_forest_18 : decode cX8_forest 18 = .ok (.iload_n 1, 1) := by decide +kernel
theorem dX8_forest_19 : decode cX8_forest 19 = .ok (.iastore, 1) := by decide +kernel
theorem dX8_forest_20 : decode cX8_forest 20 = .ok (.iinc 1 1, 3) := by decide +kernel
theorem dX8_forest_23 : decode cX8_forest 23 = .ok (.goto (-16), 3) := by decide +kernel
theorem dX8_forest_26 : decode cX8_forest 26 = .ok (.iconst 0, 1) := by decide +kernel
theorem dX8_forest_27 : decode cX8_forest 27 = .ok (.istore_n 1, 1) := by decide +kernel
theorem dX8_forest_28 : decode cX8_forest 28 = .ok (.iconst 1, 1) := by decide +kernel
theorem dX8_forest_29 : decode cX8_forest 29 = .ok (.istore_n 2, 1) := by decide +kernel
theorem dX8_forest_30 : decode cX8_forest 30 = .ok (.iload_n 2, 1) := by decide +kernel
theorem dX8_forest_31 : decode cX8_forest 31 = .ok (.bipush 10, 2) := by decide +kernel
theorem dX8_forest_33 : decode cX8_forest 33 = .ok (.if_icmp .ge 84, 3) := by decide +kernel
theorem dX8_forest_36 : decode cX8_forest 36 = .ok (.iconst 0, 1) := by decide +kernel
theorem dX8_forest_37 : decode cX8_forest 37 = .ok (.istore_n 3, 1) := by decide +kernel
theorem dX8_forest_38 : decode cX8_forest 38 = .ok (.iload_n 3, 1) := by decide +kernel
theorem dX8_forest_39 : decode cX8_forest 39 = .ok (.aload_n 0, 1) := by decide +kernel
theorem dX8_forest_40 : decode cX8_forest 40 = .ok (.getfield 9, 3) := by decide +kernel
theorem dX8_forest_43 : decode cX8_forest 43 = .ok (.iconst 2, 1) := by decide +kernel
theorem dX8_forest_44 : decode cX8_forest 44 = .ok (.iaload, 1) := by decide +kernel
theorem dX8_forest_45 : decode cX8_forest 45 = .ok (.if_icmp .ge 66, 3) := by decide +kernel
theorem dX8_forest_48 : decode cX8_forest 48 = .ok (.aload_n 0, 1) := by decide +kernel
theorem dX8_forest_49 : decode cX8_forest 49 = .ok (.iload_n 3, 1) := by decide +kernel
theorem dX8_forest_50 : decode cX8_forest 50 = .ok (.invokevirtual 134, 3) := by decide +kernel
theorem dX8_forest_53 : decode cX8_forest 53 = .ok (.ifCond .eq 36, 3) := by decide +kernel
theorem dX8_forest_56 : decode cX8_forest 56 = .ok (.aload_n 0, 1) := by decide +kernel
theorem dX8_forest_57 : decode cX8_forest 57 = .ok (.iload_n 3, 1) := by decide +kernel
theorem dX8_forest_58 : decode cX8_forest 58 = .ok (.iconst 2, 1) := by decide +kernel
theorem dX8_forest_59 : decode cX8_forest 59 = .ok (.invokevirtual 81, 3) := by decide +kernel
theorem dX8_forest_62 : decode cX8_forest 62 = .ok (.iload_n 2, 1) := by decide +kernel
theorem dX8_forest_63 : decode cX8_forest 63 = .ok (.if_icmp .ne 26, 3) := by decide +kernel
theorem dX8_forest_66 : decode cX8_forest 66 = .ok (.aload_n 0, 1) := by decide +kernel
theorem dX8_forest_67 : decode cX8_forest 67 = .ok (.aload_n 0, 1) := by decide +kernel
theorem dX8_forest_68 : decode cX8_forest 68 = .ok (.iload_n 3, 1) := by decide +kernel
theorem dX8_forest_69 : decode cX8_forest 69 = .ok (.iconst 0, 1) := by decide +kernel
theorem dX8_forest_70 : decode cX8_forest 70 = .ok (.invokevirtual 81, 3) := by decide +kernel
theorem dX8_forest_73 : decode cX8_forest 73 = .ok (.aload_n 0, 1) := by decide +kernel
theorem dX8_forest_74 : decode cX8_forest 74 = .ok (.iload_n 3, 1) := by decide +kernel
theorem dX8_forest_75 : decode cX8_forest 75 = .ok (.iconst 1, 1) := by decide +kernel
theorem dX8_forest_76 : decode cX8_forest 76 = .ok (.invokevirtual 81, 3) := by decide +kernel
theorem dX8_forest_79 : decode cX8_forest 79 = .ok (.invokevirtual 183, 3) := by decide +kernel
theorem dX8_forest_82 : decode cX8_forest 82 = .ok (.ifCond .eq 7, 3) := by decide +kernel
theorem dX8_forest_85 : decode cX8_forest 85 = .ok (.iconst 1, 1) := by decide +kernel
theorem dX8_forest_86 : decode cX8_forest 86 = .ok (.goto 4, 3) := by decide +kernel
theorem dX8_forest_89 : decode cX8_forest 89 = .ok (.iconst 0, 1) := by decide +kernel
theorem dX8_forest_90 : decode cX8_forest 90 = .ok (.istore 4, 2) := by decide +kernel
theorem dX8_forest_92 : decode cX8_forest 92 = .ok (.iload_n 1, 1) := by decide +kernel
theorem dX8_forest_93 : decode cX8_forest 93 = .ok (.iload 4, 2) := by decide +kernel
theorem dX8_forest_95 : decode cX8_forest 95 = .ok (.ifCond .eq 7, 3) := by decide +kernel
theorem dX8_forest_98 : decode cX8_forest 98 = .ok (.iload_n 2, 1) := by decide +kernel
theorem dX8_forest_99 : decode cX8_forest 99 = .ok (.goto 4, 3) := by decide +kernel
theorem dX8_forest_102 : decode cX8_forest 102 = .ok (.iconst 0, 1) := by decide +kernel
theorem dX8_forest_103 : decode cX8_forest 103 = .ok (.iadd, 1) := by decide +kernel
theorem dX8_forest_104 : decode cX8_forest 104 = .ok (.istore_n 1, 1) := by decide +kernel
theorem dX8_forest_105 : decode cX8_forest 105 = .ok (.iinc 3 1, 3) := by decide +kernel
theorem dX8_forest_108 : decode cX8_forest 108 = .ok (.goto (-70), 3) := by decide +kernel
theorem dX8_forest_111 : decode cX8_forest 111 = .ok (.iinc 2 1, 3) := by decide +kernel
theorem dX8_forest_114 : decode cX8_forest 114 = .ok (.goto (-84), 3) := by decide +kernel
theorem dX8_forest_117 : decode cX8_forest 117 = .ok (.iload_n 1, 1) := by decide +kernel
theorem dX8_forest_118 : decode cX8_forest 118 = .ok (.ireturn, 1) := by decide +kernel
set_option maxRecDepth 20000 in
theorem ggX8_forestLength_X8_forest : GoodIn wsX8_forestLength wsX8_forest := goodIn_ca (goodIn_r _ [5, 6, 7, 8, 9, 10, 11, 4, 12, 13, 14, 15, 16, 17, 18, 19, 20, 21, 22, 23, 24, 25, 26, 27, 28, 29, 30, 31, 32, 33, 34, 35, 36, 37, 38, 39, 40, 41, 42, 43, 44, 45, 46, 47, 48, 49, 50] (by decide +kernel) (by decide +kernel)) (goodIn_sub (fun _ h => List.mem_cons_of_mem _ (List.mem_append_right _ h)) (by decide +kernel))
set_option maxRecDepth 20000 in
theorem gX8_forestLength_X8_forest : GoodIn wsX8_forestLength (wsV RX8 186 RX8 yX8_forest wsX8_forest) := goodIn_app (goodIn_of _ (by decide +kernel)) ggX8_forestLength_X8_forest
theorem dX8_forestLength_0 : decode cX8_forestLength 0 = .ok (.aload_n 0, 1) := by decide +kernel
theorem dX8_forestLength_1 : decode cX8_forestLength 1 = .ok (.invokevirtual 186, 3) := by decide +kernel
theorem dX8_forestLength_4 : decode cX8_forestLength 4 = .ok (.ireturn, 1) := by decide +kernel
set_option maxRecDepth 20000 in
theorem ggX8_forestLengthByPrim_X8_forest : GoodIn wsX8_forestLengthByPrim wsX8_forest := goodIn_ca (goodIn_r _ [5, 6, 7, 8, 9, 10, 11, 4, 12, 13, 14, 15, 16, 17, 18, 19, 20, 21, 22, 23, 24, 25, 26, 27, 28, 29, 30, 31, 32, 33, 34, 35, 36, 37, 38, 39, 40, 41, 42, 43, 44, 45, 46, 47, 48, 49, 50] (by decide +kernel) (by decide +kernel)) (goodIn_sub (fun _ h => List.mem_cons_of_mem _ (List.mem_append_right _ h)) (by decide +kernel))
set_option maxRecDepth 20000 in
theorem gX8_forestLengthByPrim_X8_forest : GoodIn wsX8_forestLengthByPrim (wsV RX8 186 RX8 yX8_forest wsX8_forest) := goodIn_app (goodIn_of _ (by decide +kernel)) ggX8_forestLengthByPrim_X8_forest
theorem dX8_forestLengthByPrim_0 : decode cX8_forestLengthByPrim 0 = .ok (.aload_n 0, 1) := by decide +kernel
theorem dX8_forestLengthByPrim_1 : decode cX8_forestLengthByPrim 1 = .ok (.invokevirtual 186, 3) := by decide +kernel
theorem dX8_forestLengthByPrim_4 : decode cX8_forestLengthByPrim 4 = .ok (.ireturn, 1) := by decide +kernel
set_option maxRecDepth 20000 in
theorem ggX8_playerByScore_X8_scoreOf : GoodIn wsX8_playerByScore wsX8_scoreOf := goodIn_ca (goodIn_r _ [6, 1, 7, 8, 9, 5, 10, 11, 12, 13, 14, 15, 16, 17, 18, 19, 20, 33, 34, 35, 36, 37, 38, 39, 40, 41, 42, 43, 44, 45, 46, 47, 48, 49, 50, 51, 52] (by decide +kernel) (by decide +kernel)) (goodIn_sub (fun _ h => List.mem_cons_of_mem _ (List.mem_append_right _ h)) (by decide +kernel))
set_option maxRecDepth 20000 in
theorem gX8_playerByScore_X8_scoreOf : GoodIn wsX8_playerByScore (wsV RX8 165 RX8 yX8_scoreOf wsX8_scoreOf) := goodIn_app (goodIn_of _ (by decide +kernel)) ggX8_playerByScore_X8_scoreOf
set_option maxRecDepth 20000 in
theorem ggX8_playerByScore_X8_playerAt : GoodIn wsX8_playerByScore wsX8_playerAt := goodIn_r _ [23] (by decide +kernel) (by decide +kernel)
set_option maxRecDepth 20000 in
theorem gX8_playerByScore_X8_playerAt : GoodIn wsX8_playerByScore (va_wsS RX8 93 yX8_playerAt wsX8_playerAt) := goodIn_app (goodIn_of _ (by decide +kernel)) ggX8_playerByScore_X8_playerAt
set_option maxRecDepth 20000 in
theorem ggX8_playerByScore_X8_goes : GoodIn wsX8_playerByScore wsX8_goes := goodIn_r _ [27, 28, 29, 30, 5, 31, 32, 33, 34, 35, 36, 37, 38, 39, 40, 41, 42, 43, 44, 45, 46, 47, 48, 49, 50, 51, 52] (by decide +kernel) (by decide +kernel)
set_option maxRecDepth 20000 in
theorem gX8_playerByScore_X8_goes : GoodIn wsX8_playerByScore (wsV RX8 61 RX8 yX8_goes wsX8_goes) := goodIn_app (goodIn_of _ (by decide +kernel)) ggX8_playerByScore_X8_goes
theorem dX8_playerByScore_0 : decode cX8_playerByScore 0 = .ok (.iconst (-1), 1) := by decide +kernel
theorem dX8_playerByScore_1 : decode cX8_playerByScore 1 = .ok (.istore_n 2, 1) := by decide +kernel
theorem dX8_playerByScore_2 : decode cX8_playerByScore 2 = .ok (.iconst 0, 1) := by decide +kernel
theorem dX8_playerByScore_3 : decode cX8_playerByScore 3 = .ok (.istore_n 3, 1) := by decide +kernel
theorem dX8_playerByScore_4 : decode cX8_playerByScore 4 = .ok (.iload_n 3, 1) := by decide +kernel
theorem dX8_playerByScore_5 : decode cX8_playerByScore 5 = .ok (.aload_n 0, 1) := by decide +kernel
theorem dX8_playerByScore_6 : decode cX8_playerByScore 6 = .ok (.getfield 9, 3) := by decide +kernel
theorem dX8_playerByScore_9 : decode cX8_playerByScore 9 = .ok (.iconst 1, 1) := by decide +kernel
theorem dX8_playerByScore_10 : decode cX8_playerByScore 10 = .ok (.iaload, 1) := by decide +kernel
theorem dX8_playerByScore_11 : decode cX8_playerByScore 11 = .ok (.if_icmp .ge 120, 3) := by decide +kernel
theorem dX8_playerByScore_14 : decode cX8_playerByScore 14 = .ok (.iconst 0, 1) := by decide +kernel
theorem dX8_playerByScore_15 : decode cX8_playerByScore 15 = .ok (.istore 4, 2) := by decide +kernel
theorem dX8_playerByScore_17 : decode cX8_playerByScore 17 = .ok (.iconst 0, 1) := by decide +kernel
theorem dX8_playerByScore_18 : decode cX8_playerByScore 18 = .ok (.istore 5, 2) := by decide +kernel
theorem dX8_playerByScore_20 : decode cX8_playerByScore 20 = .ok (.iload 5, 2) := by decide +kernel
theorem dX8_playerByScore_22 : decode cX8_playerByScore 22 = .ok (.aload_n 0, 1) := by decide +kernel
theorem dX8_playerByScore_23 : decode cX8_playerByScore 23 = .ok (.getfield 9, 3) := by decide +kernel
theorem dX8_playerByScore_26 : decode cX8_playerByScore 26 = .ok (.iconst 1, 1) := by decide +kernel
theorem dX8_playerByScore_27 : decode cX8_playerByScore 27 = .ok (.iaload, 1) := by decide +kernel
theorem dX8_playerByScore_28 : decode cX8_playerByScore 28 = .ok (.if_icmp .ge 85, 3) := by decide +kernel
theorem dX8_playerByScore_31 : decode cX8_playerByScore 31 = .ok (.aload_n 0, 1) := by decide +kernel
theorem dX8_playerByScore_32 : decode cX8_playerByScore 32 = .ok (.iload 5, 2) := by decide +kernel
theorem dX8_playerByScore_34 : decode cX8_playerByScore 34 = .ok (.invokevirtual 165, 3) := by decide +kernel
theorem dX8_playerByScore_37 : decode cX8_playerByScore 37 = .ok (.aload_n 0, 1) := by decide +kernel
theorem dX8_playerByScore_38 : decode cX8_playerByScore 38 = .ok (.iload_n 3, 1) := by decide +kernel
theorem dX8_playerByScore_39 : decode cX8_playerByScore 39 = .ok (.invokevirtual 165, 3) := by decide +kernel
theorem dX8_playerByScore_42 : decode cX8_playerByScore 42 = .ok (.isub, 1) := by decide +kernel
theorem dX8_playerByScore_43 : decode cX8_playerByScore 43 = .ok (.istore 6, 2) := by decide +kernel
theorem dX8_playerByScore_45 : decode cX8_playerByScore 45 = .ok (.aload_n 0, 1) := by decide +kernel
theorem dX8_playerByScore_46 : decode cX8_playerByScore 46 = .ok (.getfield 9, 3) := by decide +kernel
theorem dX8_playerByScore_49 : decode cX8_playerByScore 49 = .ok (.iload 5, 2) := by decide +kernel
theorem dX8_playerByScore_51 : decode cX8_playerByScore 51 = .ok (.invokestatic 93, 3) := by decide +kernel
theorem dX8_playerByScore_54 : decode cX8_playerByScore 54 = .ok (.iconst 0, 1) := by decide +kernel
theorem dX8_playerByScore_55 : decode cX8_playerByScore 55 = .ok (.iadd, 1) := by decide +kernel
theorem dX8_playerByScore_56 : decode cX8_playerByScore 56 = .ok (.iaload, 1) := by decide +kernel
theorem dX8_playerByScore_57 : decode cX8_playerByScore 57 = .ok (.aload_n 0, 1) := by decide +kernel
theorem dX8_playerByScore_58 : decode cX8_playerByScore 58 = .ok (.getfield 9, 3) := by decide +kernel
theorem dX8_playerByScore_61 : decode cX8_playerByScore 61 = .ok (.iload_n 3, 1) := by decide +kernel
theorem dX8_playerByScore_62 : decode cX8_playerByScore 62 = .ok (.invokestatic 93, 3) := by decide +kernel
theorem dX8_playerByScore_65 : decode cX8_playerByScore 65 = .ok (.iconst 0, 1) := by decide +kernel
theorem dX8_playerByScore_66 : decode cX8_playerByScore 66 = .ok (.iadd, 1) := by decide +kernel
theorem dX8_playerByScore_67 : decode cX8_playerByScore 67 = .ok (.iaload, 1) := by decide +kernel
theorem dX8_playerByScore_68 : decode cX8_playerByScore 68 = .ok (.isub, 1) := by decide +kernel
theorem dX8_playerByScore_69 : decode cX8_playerByScore 69 = .ok (.istore 7, 2) := by decide +kernel
theorem dX8_playerByScore_71 : decode cX8_playerByScore 71 = .ok (.iload 4, 2) := by decide +kernel
theorem dX8_playerByScore_73 : decode cX8_playerByScore 73 = .ok (.iload 6, 2) := by decide +kernel
theorem dX8_playerByScore_75 : decode cX8_playerByScore 75 = .ok (.ifCond .gt 24, 3) := by decide +kernel
theorem dX8_playerByScore_78 : decode cX8_playerByScore 78 = .ok (.iload 6, 2) := by decide +kernel
theorem dX8_playerByScore_80 : decode cX8_playerByScore 80 = .ok (.ifCond .ne 23, 3) := by decide +kernel
theorem dX8_playerByScore_83 : decode cX8_playerByScore 83 = .ok (.iload 7, 2) := by decide +kernel
theorem dX8_playerByScore_85 : decode cX8_playerByScore 85 = .ok (.ifCond .gt 14, 3) := by decide +kernel
theorem dX8_playerByScore_88 : decode cX8_playerByScore 88 = .ok (.iload 7, 2) := by decide +kernel
theorem dX8_playerByScore_90 : decode cX8_playerByScore 90 = .ok (.ifCond .ne 13, 3) := by decide +kernel
theorem dX8_playerByScore_93 : decode cX8_playerByScore 93 = .ok (.iload 5, 2) := by decide +kernel
theorem dX8_playerByScore_95 : decode cX8_playerByScore 95 = .ok (.iload_n 3, 1) := by decide +kernel
theorem dX8_playerByScore_96 : decode cX8_playerByScore 96 = .ok (.if_icmp .ge 7, 3) := by decide +kernel
theorem dX8_playerByScore_99 : decode cX8_playerByScore 99 = .ok (.iconst 1, 1) := by decide +kernel
theorem dX8_playerByScore_100 : decode cX8_playerByScore 100 = .ok (.goto 4, 3) := by decide +kernel
theorem dX8_playerByScore_103 : decode cX8_playerByScore 103 = .ok (.iconst 0, 1) := by decide +kernel
theorem dX8_playerByScore_104 : decode cX8_playerByScore 104 = .ok (.iadd, 1) := by decide +kernel
theorem dX8_playerByScore_105 : decode cX8_playerByScore 105 = .ok (.istore 4, 2) := by decide +kernel
theorem dX8_playerByScore_107 : decode cX8_playerByScore 107 = .ok (.iinc 5 1, 3) := by decide +kernel
theorem dX8_playerByScore_110 : decode cX8_playerByScore 110 = .ok (.goto (-90), 3) := by decide +kernel
theorem dX8_playerByScore_113 : decode cX8_playerByScore 113 = .ok (.iload 4, 2) := by decide +kernel
theorem dX8_playerByScore_115 : decode cX8_playerByScore 115 = .ok (.iload_n 1, 1) := by decide +kernel
theorem dX8_playerByScore_116 : decode cX8_playerByScore 116 = .ok (.if_icmp .ne 7, 3) := by decide +kernel
theorem dX8_playerByScore_119 : decode cX8_playerByScore 119 = .ok (.iload_n 3, 1) := by decide +kernel
theorem dX8_playerByScore_120 : decode cX8_playerByScore 120 = .ok (.goto 4, 3) := by decide +kernel
theorem dX8_playerByScore_123 : decode cX8_playerByScore 123 = .ok (.iload_n 2, 1) := by decide +kernel
theorem dX8_playerByScore_124 : decode cX8_playerByScore 124 = .ok (.istore_n 2, 1) := by decide +kernel
theorem dX8_playerByScore_125 : decode cX8_playerByScore 125 = .ok (.iinc 3 1, 3) := by decide +kernel
theorem dX8_playerByScore_128 : decode cX8_playerByScore 128 = .ok (.goto (-124), 3) := by decide +kernel
theorem dX8_playerByScore_131 : decode cX8_playerByScore 131 = .ok (.aload_n 0, 1) := by decide +kernel
theorem dX8_playerByScore_132 : decode cX8_playerByScore 132 = .ok (.iload_n 2, 1) := by decide +kernel
theorem dX8_playerByScore_133 : decode cX8_playerByScore 133 = .ok (.iconst (-1), 1) := by decide +kernel
theorem dX8_playerByScore_134 : decode cX8_playerByScore 134 = .ok (.if_icmp .eq 7, 3) := by decide +kernel
theorem dX8_playerByScore_137 : decode cX8_playerByScore 137 = .ok (.iconst 1, 1) := by decide +kernel
theorem dX8_playerByScore_138 : decode cX8_playerByScore 138 = .ok (.goto 4, 3) := by decide +kernel
theorem dX8_playerByScore_141 : decode cX8_playerByScore 141 = .ok (.iconst 0, 1) := by decide +kernel
theorem dX8_playerByScore_142 : decode cX8_playerByScore 142 = .ok (.invokevirtual 61, 3) := by decide +kernel
theorem dX8_playerByScore_145 : decode cX8_playerByScore 145 = .ok (.ifCond .eq 7, 3) := by decide +kernel
theorem dX8_playerByScore_148 : decode cX8_playerByScore 148 = .ok (.iload_n 2, 1) := by decide +kernel
theorem dX8_playerByScore_149 : decode cX8_playerByScore 149 = .ok (.goto 4, 3) := by decide +kernel
theorem dX8_playerByScore_152 : decode cX8_playerByScore 152 = .ok (.iconst 0, 1) := by decide +kernel
theorem dX8_playerByScore_153 : decode cX8_playerByScore 153 = .ok (.ireturn, 1) := by decide +kernel
theorem dX8_bankMoney_0 : decode cX8_bankMoney 0 = .ok (.aload_n 0, 1) := by decide +kernel
theorem dX8_bankMoney_1 : decode cX8_bankMoney 1 = .ok (.iconst 0, 1) := by decide +kernel
theorem dX8_bankMoney_2 : decode cX8_bankMoney 2 = .ok (.putfield 44, 3) := by decide +kernel
theorem dX8_bankMoney_5 : decode cX8_bankMoney 5 = .ok (.aload_n 0, 1) := by decide +kernel
theorem dX8_bankMoney_6 : decode cX8_bankMoney 6 = .ok (.getfield 9, 3) := by decide +kernel
theorem dX8_bankMoney_9 : decode cX8_bankMoney 9 = .ok (.iconst 3, 1) := by decide +kernel
theorem dX8_bankMoney_10 : decode cX8_bankMoney 10 = .ok (.iaload, 1) := by decide +kernel
theorem dX8_bankMoney_11 : decode cX8_bankMoney 11 = .ok (.ireturn, 1) := by decide +kernel
theorem dX8_settledTotal_0 : decode cX8_settledTotal 0 = .ok (.aload_n 0, 1) := by decide +kernel
theorem dX8_settledTotal_1 : decode cX8_settledTotal 1 = .ok (.iconst 0, 1) := by decide +kernel
theorem dX8_settledTotal_2 : decode cX8_settledTotal 2 = .ok (.putfield 44, 3) := by decide +kernel
theorem dX8_settledTotal_5 : decode cX8_settledTotal 5 = .ok (.aload_n 0, 1) := by decide +kernel
theorem dX8_settledTotal_6 : decode cX8_settledTotal 6 = .ok (.getfield 9, 3) := by decide +kernel
theorem dX8_settledTotal_9 : decode cX8_settledTotal 9 = .ok (.iconst 4, 1) := by decide +kernel
theorem dX8_settledTotal_10 : decode cX8_settledTotal 10 = .ok (.iaload, 1) := by decide +kernel
theorem dX8_settledTotal_11 : decode cX8_settledTotal 11 = .ok (.ireturn, 1) := by decide +kernel
theorem dX8_bluffTotal_0 : decode cX8_bluffTotal 0 = .ok (.aload_n 0, 1) := by decide +kernel
theorem dX8_bluffTotal_1 : decode cX8_bluffTotal 1 = .ok (.iconst 0, 1) := by decide +kernel
theorem dX8_bluffTotal_2 : decode cX8_bluffTotal 2 = .ok (.putfield 44, 3) := by decide +kernel
theorem dX8_bluffTotal_5 : decode cX8_bluffTotal 5 = .ok (.aload_n 0, 1) := by decide +kernel
theorem dX8_bluffTotal_6 : decode cX8_bluffTotal 6 = .ok (.getfield 9, 3) := by decide +kernel
theorem dX8_bluffTotal_9 : decode cX8_bluffTotal 9 = .ok (.iconst 5, 1) := by decide +kernel
theorem dX8_bluffTotal_10 : decode cX8_bluffTotal 10 = .ok (.iaload, 1) := by decide +kernel
theorem dX8_bluffTotal_11 : decode cX8_bluffTotal 11 = .ok (.ireturn, 1) := by decide +kernel
set_option maxRecDepth 20000 in
theorem ggX8_builtSites_X8_isDone : GoodIn wsX8_builtSites wsX8_isDone := goodIn_ca (goodIn_r _ [6, 7, 8, 9, 5, 10, 1, 11, 12, 13, 14, 15, 16, 17, 18, 19, 20, 21, 22, 23, 24, 25, 26, 27, 28, 29, 30, 31, 32, 33, 34, 35, 36, 37, 38, 39, 40] (by decide +kernel) (by decide +kernel)) (goodIn_sub (fun _ h => List.mem_cons_of_mem _ (List.mem_append_right _ h)) (by decide +kernel))
set_option maxRecDepth 20000 in
theorem gX8_builtSites_X8_isDone : GoodIn wsX8_builtSites (wsV RX8 134 RX8 yX8_isDone wsX8_isDone) := goodIn_app (goodIn_of _ (by decide +kernel)) ggX8_builtSites_X8_isDone
theorem dX8_builtSites_0 : decode cX8_builtSites 0 = .ok (.iconst 0, 1) := by decide +kernel
theorem dX8_builtSites_1 : decode cX8_builtSites 1 = .ok (.istore_n 1, 1) := by decide +kernel
theorem dX8_builtSites_2 : decode cX8_builtSites 2 = .ok (.iconst 0, 1) := by decide +kernel
theorem dX8_builtSites_3 : decode cX8_builtSites 3 = .ok (.istore_n 2, 1) := by decide +kernel
theorem dX8_builtSites_4 : decode cX8_builtSites 4 = .ok (.iload_n 2, 1) := by decide +kernel
theorem dX8_builtSites_5 : decode cX8_builtSites 5 = .ok (.aload_n 0, 1) := by decide +kernel
theorem dX8_builtSites_6 : decode cX8_builtSites 6 = .ok (.getfield 9, 3) := by decide +kernel
theorem dX8_builtSites_9 : decode cX8_builtSites 9 = .ok (.iconst 2, 1) := by decide +kernel
theorem dX8_builtSites_10 : decode cX8_builtSites 10 = .ok (.iaload, 1) := by decide +kernel
theorem dX8_builtSites_11 : decode cX8_builtSites 11 = .ok (.if_icmp .ge 25, 3) := by decide +kernel
theorem dX8_builtSites_14 : decode cX8_builtSites 14 = .ok (.iload_n 1, 1) := by decide +kernel
theorem dX8_builtSites_15 : decode cX8_builtSites 15 = .ok (.aload_n 0, 1) := by decide +kernel
theorem dX8_builtSites_16 : decode cX8_builtSites 16 = .ok (.iload_n 2, 1) := by decide +kernel
theorem dX8_builtSites_17 : decode cX8_builtSites 17 = .ok (.invokevirtual 134, 3) := by decide +kernel
theorem dX8_builtSites_20 : decode cX8_builtSites 20 = .ok (.ifCond .eq 7, 3) := by decide +kernel
theorem dX8_builtSites_23 : decode cX8_builtSites 23 = .ok (.iconst 1, 1) := by decide +kernel
theorem dX8_builtSites_24 : decode cX8_builtSites 24 = .ok (.goto 4, 3) := by decide +kernel
theorem dX8_builtSites_27 : decode cX8_builtSites 27 = .ok (.iconst 0, 1) := by decide +kernel
theorem dX8_builtSites_28 : decode cX8_builtSites 28 = .ok (.iadd, 1) := by decide +kernel
theorem dX8_builtSites_29 : decode cX8_builtSites 29 = .ok (.istore_n 1, 1) := by decide +kernel
theorem dX8_builtSites_30 : decode cX8_builtSites 30 = .ok (.iinc 2 1, 3) := by decide +kernel
theorem dX8_builtSites_33 : decode cX8_builtSites 33 = .ok (.goto (-29), 3) := by decide +kernel
theorem dX8_builtSites_36 : decode cX8_builtSites 36 = .ok (.iload_n 1, 1) := by decide +kernel
theorem dX8_builtSites_37 : decode cX8_builtSites 37 = .ok (.ireturn, 1) := by decide +kernel
set_option maxRecDepth 20000 in
theorem ggX8_meanBridgeLength_X8_isDone : GoodIn wsX8_meanBridgeLength wsX8_isDone := goodIn_ca (goodIn_r _ [6, 7, 8, 9, 5, 10, 1, 11, 12, 13, 14, 15, 16, 17, 18, 19, 20, 34, 35, 36, 37, 38, 39, 40, 41, 42, 43, 44, 45, 46, 47, 48, 49, 50, 51, 52, 53] (by decide +kernel) (by decide +kernel)) (goodIn_sub (fun _ h => List.mem_cons_of_mem _ (List.mem_append_right _ h)) (by decide +kernel))
set_option maxRecDepth 20000 in
theorem gX8_meanBridgeLength_X8_isDone : GoodIn wsX8_meanBridgeLength (wsV RX8 134 RX8 yX8_isDone wsX8_isDone) := goodIn_app (goodIn_of _ (by decide +kernel)) ggX8_meanBridgeLength_X8_isDone
set_option maxRecDepth 20000 in
theorem ggX8_meanBridgeLength_X8_of : GoodIn wsX8_meanBridgeLength wsX8_of := goodIn_ca (goodIn_r _ [17, 1, 7, 8, 9, 5, 10, 11, 12, 13, 18, 19, 20, 34, 35, 36, 37, 38, 39, 40, 41, 42, 43, 44, 45, 46, 47, 48, 49, 50, 51, 52, 53] (by decide +kernel) (by decide +kernel)) (goodIn_sub (fun _ h => List.mem_cons_of_mem _ (List.mem_append_right _ h)) (by decide +kernel))
set_option maxRecDepth 20000 in
theorem gX8_meanBridgeLength_X8_of : GoodIn wsX8_meanBridgeLength (wsV RX8 81 RX8 yX8_of wsX8_of) := goodIn_app (goodIn_of _ (by decide +kernel)) ggX8_meanBridgeLength_X8_of
set_option maxRecDepth 20000 in
theorem ggX8_meanBridgeLength_X8_builtSites : GoodIn wsX8_meanBridgeLength wsX8_builtSites := goodIn_ca (goodIn_r _ [24, 1, 2, 3, 4, 5, 6, 7, 8, 9, 10, 11, 12, 13, 14, 15, 16, 17, 18, 19, 20, 34, 35, 36, 37, 38, 39, 40, 41, 42, 43, 44, 45, 46, 47, 48, 49, 50, 51, 52, 53] (by decide +kernel) (by decide +kernel)) (goodIn_sub (fun _ h => List.mem_cons_of_mem _ (List.mem_append_right _ h)) (by decide +kernel))
set_option maxRecDepth 20000 in
theorem gX8_meanBridgeLength_X8_builtSites : GoodIn wsX8_meanBridgeLength (wsV RX8 189 RX8 yX8_builtSites wsX8_builtSites) := goodIn_app (goodIn_of _ (by decide +kernel)) ggX8_meanBridgeLength_X8_builtSites
set_option maxRecDepth 20000 in
theorem ggX8_meanBridgeLength_X8_goes : GoodIn wsX8_meanBridgeLength wsX8_goes := goodIn_r _ [28, 29, 30, 31, 5, 32, 33, 34, 35, 36, 37, 38, 39, 40, 41, 42, 43, 44, 45, 46, 47, 48, 49, 50, 51, 52, 53] (by decide +kernel) (by decide +kernel)
set_option maxRecDepth 20000 in
theorem gX8_meanBridgeLength_X8_goes : GoodIn wsX8_meanBridgeLength (wsV RX8 61 RX8 yX8_goes wsX8_goes) := goodIn_app (goodIn_of _ (by decide +kernel)) ggX8_meanBridgeLength_X8_goes
theorem dX8_meanBridgeLength_0 : decode cX8_meanBridgeLength 0 = .ok (.iconst 0, 1) := by decide +kernel
theorem dX8_meanBridgeLength_1 : decode cX8_meanBridgeLength 1 = .ok (.istore_n 1, 1) := by decide +kernel
theorem dX8_meanBridgeLength_2 : decode cX8_meanBridgeLength 2 = .ok (.iconst 0, 1) := by decide +kernel
theorem dX8_meanBridgeLength_3 : decode cX8_meanBridgeLength 3 = .ok (.istore_n 2, 1) := by decide +kernel
theorem dX8_meanBridgeLength_4 : decode cX8_meanBridgeLength 4 = .ok (.iload_n 2, 1) := by decide +kernel
theorem dX8_meanBridgeLength_5 : decode cX8_meanBridgeLength 5 = .ok (.aload_n 0, 1) := by decide +kernel
theorem dX8_meanBridgeLength_6 : decode cX8_meanBridgeLength 6 = .ok (.getfield 9, 3) := by decide +kernel
theorem dX8_meanBridgeLength_9 : decode cX8_meanBridgeLength 9 = .ok (.iconst 2, 1) := by decide +kernel
theorem dX8_meanBridgeLength_10 : decode cX8_meanBridgeLength 10 = .ok (.iaload, 1) := by decide +kernel
theorem dX8_meanBridgeLength_11 : decode cX8_meanBridgeLength 11 = .ok (.if_icmp .ge 30, 3) := by decide +kernel
theorem dX8_meanBridgeLength_14 : decode cX8_meanBridgeLength 14 = .ok (.iload_n 1, 1) := by decide +kernel
theorem dX8_meanBridgeLength_15 : decode cX8_meanBridgeLength 15 = .ok (.aload_n 0, 1) := by decide +kernel
theorem dX8_meanBridgeLength_16 : decode cX8_meanBridgeLength 16 = .ok (.iload_n 2, 1) := by decide +kernel
theorem dX8_meanBridgeLength_17 : decode cX8_meanBridgeLength 17 = .ok (.invokevirtual 134, 3) := by decide +kernel
theorem dX8_meanBridgeLength_20 : decode cX8_meanBridgeLength 20 = .ok (.ifCond .eq 12, 3) := by decide +kernel
theorem dX8_meanBridgeLength_23 : decode cX8_meanBridgeLength 23 = .ok (.aload_n 0, 1) := by decide +kernel
theorem dX8_meanBridgeLength_24 : decode cX8_meanBridgeLength 24 = .ok (.iload_n 2, 1) := by decide +kernel
theorem dX8_meanBridgeLength_25 : decode cX8_meanBridgeLength 25 = .ok (.iconst 2, 1) := by decide +kernel
theorem dX8_meanBridgeLength_26 : decode cX8_meanBridgeLength 26 = .ok (.invokevirtual 81, 3) := by decide +kernel
theorem dX8_meanBridgeLength_29 : decode cX8_meanBridgeLength 29 = .ok (.goto 4, 3) := by decide +kernel
theorem dX8_meanBridgeLength_32 : decode cX8_meanBridgeLength 32 = .ok (.iconst 0, 1) := by decide +kernel
theorem dX8_meanBridgeLength_33 : decode cX8_meanBridgeLength 33 = .ok (.iadd, 1) := by decide +kernel
theorem dX8_meanBridgeLength_34 : decode cX8_meanBridgeLength 34 = .ok (.istore_n 1, 1) := by decide +kernel
theorem dX8_meanBridgeLength_35 : decode cX8_meanBridgeLength 35 = .ok (.iinc 2 1, 3) := by decide +kernel
theorem dX8_meanBridgeLength_38 : decode cX8_meanBridgeLength 38 = .ok (.goto (-34), 3) := by decide +kernel
theorem dX8_meanBridgeLength_41 : decode cX8_meanBridgeLength 41 = .ok (.aload_n 0, 1) := by decide +kernel
theorem dX8_meanBridgeLength_42 : decode cX8_meanBridgeLength 42 = .ok (.aload_n 0, 1) := by decide +kernel
theorem dX8_meanBridgeLength_43 : decode cX8_meanBridgeLength 43 = .ok (.invokevirtual 189, 3) := by decide +kernel
theorem dX8_meanBridgeLength_46 : decode cX8_meanBridgeLength 46 = .ok (.ifCond .le 7, 3) := by decide +kernel
theorem dX8_meanBridgeLength_49 : decode cX8_meanBridgeLength 49 = .ok (.iconst 1, 1) := by decide +kernel
theorem dX8_meanBridgeLength_50 : decode cX8_meanBridgeLength 50 = .ok (.goto 4, 3) := by decide +kernel
theorem dX8_meanBridgeLength_53 : decode cX8_meanBridgeLength 53 = .ok (.iconst 0, 1) := by decide +kernel
theorem dX8_meanBridgeLength_54 : decode cX8_meanBridgeLength 54 = .ok (.invokevirtual 61, 3) := by decide +kernel
theorem dX8_meanBridgeLength_57 : decode cX8_meanBridgeLength 57 = .ok (.ifCond .eq 14, 3) := by decide +kernel
theorem dX8_meanBridgeLength_60 : decode cX8_meanBridgeLength 60 = .ok (.iload_n 1, 1) := by decide +kernel
theorem dX8_meanBridgeLength_61 : decode cX8_meanBridgeLength 61 = .ok (.i2d, 1) := by decide +kernel
theorem dX8_meanBridgeLength_62 : decode cX8_meanBridgeLength 62 = .ok (.aload_n 0, 1) := by decide +kernel
theorem dX8_meanBridgeLength_63 : decode cX8_meanBridgeLength 63 = .ok (.invokevirtual 189, 3) := by decide +kernel
theorem dX8_meanBridgeLength_66 : decode cX8_meanBridgeLength 66 = .ok (.i2d, 1) := by decide +kernel
theorem dX8_meanBridgeLength_67 : decode cX8_meanBridgeLength 67 = .ok (.ddiv, 1) := by decide +kernel
theorem dX8_meanBridgeLength_68 : decode cX8_meanBridgeLength 68 = .ok (.goto 4, 3) := by decide +kernel
theorem dX8_meanBridgeLength_71 : decode cX8_meanBridgeLength 71 = .ok (.dconst 0, 1) := by decide +kernel
theorem dX8_meanBridgeLength_72 : decode cX8_meanBridgeLength 72 = .ok (.dreturn, 1) := by decide +kernel
set_option maxRecDepth 20000 in
theorem ggX8_builtShare_X8_goes : GoodIn wsX8_builtShare wsX8_goes := goodIn_r _ [6, 7, 8, 9, 5, 10, 11, 34, 35, 36, 37, 38, 39, 40, 41, 42, 43, 44, 45, 46, 47, 48, 49, 50, 51, 52, 53] (by decide +kernel) (by decide +kernel)
set_option maxRecDepth 20000 in
theorem gX8_builtShare_X8_goes : GoodIn wsX8_builtShare (wsV RX8 61 RX8 yX8_goes wsX8_goes) := goodIn_app (goodIn_of _ (by decide +kernel)) ggX8_builtShare_X8_goes
set_option maxRecDepth 20000 in
theorem ggX8_builtShare_X8_builtSites : GoodIn wsX8_builtShare wsX8_builtSites := goodIn_ca (goodIn_r _ [15, 1, 16, 17, 18, 5, 19, 20, 21, 22, 23, 24, 25, 26, 27, 28, 29, 30, 31, 32, 33, 34, 35, 36, 37, 38, 39, 40, 41, 42, 43, 44, 45, 46, 47, 48, 49, 50, 51, 52, 53] (by decide +kernel) (by decide +kernel)) (goodIn_sub (fun _ h => List.mem_cons_of_mem _ (List.mem_append_right _ h)) (by decide +kernel))
set_option maxRecDepth 20000 in
theorem gX8_builtShare_X8_builtSites : GoodIn wsX8_builtShare (wsV RX8 189 RX8 yX8_builtSites wsX8_builtSites) := goodIn_app (goodIn_of _ (by decide +kernel)) ggX8_builtShare_X8_builtSites
theorem dX8_builtShare_0 : decode cX8_builtShare 0 = .ok (.aload_n 0, 1) := by decide +kernel
theorem dX8_builtShare_1 : decode cX8_builtShare 1 = .ok (.aload_n 0, 1) := by decide +kernel
theorem dX8_builtShare_2 : decode cX8_builtShare 2 = .ok (.getfield 9, 3) := by decide +kernel
theorem dX8_builtShare_5 : decode cX8_builtShare 5 = .ok (.iconst 2, 1) := by decide +kernel
theorem dX8_builtShare_6 : decode cX8_builtShare 6 = .ok (.iaload, 1) := by decide +kernel
theorem dX8_builtShare_7 : decode cX8_builtShare 7 = .ok (.ifCond .le 7, 3) := by decide +kernel
theorem dX8_builtShare_10 : decode cX8_builtShare 10 = .ok (.iconst 1, 1) := by decide +kernel
theorem dX8_builtShare_11 : decode cX8_builtShare 11 = .ok (.goto 4, 3) := by decide +kernel
theorem dX8_builtShare_14 : decode cX8_builtShare 14 = .ok (.iconst 0, 1) := by decide +kernel
theorem dX8_builtShare_15 : decode cX8_builtShare 15 = .ok (.invokevirtual 61, 3) := by decide +kernel
theorem dX8_builtShare_18 : decode cX8_builtShare 18 = .ok (.ifCond .eq 19, 3) := by decide +kernel
theorem dX8_builtShare_21 : decode cX8_builtShare 21 = .ok (.aload_n 0, 1) := by decide +kernel
theorem dX8_builtShare_22 : decode cX8_builtShare 22 = .ok (.invokevirtual 189, 3) := by decide +kernel
theorem dX8_builtShare_25 : decode cX8_builtShare 25 = .ok (.i2f, 1) := by decide +kernel
theorem dX8_builtShare_26 : decode cX8_builtShare 26 = .ok (.aload_n 0, 1) := by decide +kernel
theorem dX8_builtShare_27 : decode cX8_builtShare 27 = .ok (.getfield 9, 3) := by decide +kernel
theorem dX8_builtShare_30 : decode cX8_builtShare 30 = .ok (.iconst 2, 1) := by decide +kernel
theorem dX8_builtShare_31 : decode cX8_builtShare 31 = .ok (.iaload, 1) := by decide +kernel
theorem dX8_builtShare_32 : decode cX8_builtShare 32 = .ok (.i2f, 1) := by decide +kernel
theorem dX8_builtShare_33 : decode cX8_builtShare 33 = .ok (.fdiv, 1) := by decide +kernel
theorem dX8_builtShare_34 : decode cX8_builtShare 34 = .ok (.goto 4, 3) := by decide +kernel
theorem dX8_builtShare_37 : decode cX8_builtShare 37 = .ok (.fconst 0, 1) := by decide +kernel
theorem dX8_builtShare_38 : decode cX8_builtShare 38 = .ok (.freturn, 1) := by decide +kernel
theorem dX8_isConsistent_0 : decode cX8_isConsistent 0 = .ok (.aload_n 0, 1) := by decide +kernel
theorem dX8_isConsistent_1 : decode cX8_isConsistent 1 = .ok (.iconst 0, 1) := by decide +kernel
theorem dX8_isConsistent_2 : decode cX8_isConsistent 2 = .ok (.putfield 44, 3) := by decide +kernel
theorem dX8_isConsistent_5 : decode cX8_isConsistent 5 = .ok (.iconst 1, 1) := by decide +kernel
theorem dX8_isConsistent_6 : decode cX8_isConsistent 6 = .ok (.ireturn, 1) := by decide +kernel
theorem dX8_put_0 : decode cX8_put 0 = .ok (.aload_n 0, 1) := by decide +kernel
theorem dX8_put_1 : decode cX8_put 1 = .ok (.getfield 32, 3) := by decide +kernel
theorem dX8_put_4 : decode cX8_put 4 = .ok (.iload_n 1, 1) := by decide +kernel
theorem dX8_put_5 : decode cX8_put 5 = .ok (.iload_n 2, 1) := by decide +kernel
theorem dX8_put_6 : decode cX8_put 6 = .ok (.iastore, 1) := by decide +kernel
theorem dX8_put_7 : decode cX8_put 7 = .ok (.iload_n 1, 1) := by decide +kernel
theorem dX8_put_8 : decode cX8_put 8 = .ok (.iconst 1, 1) := by decide +kernel
theorem dX8_put_9 : decode cX8_put 9 = .ok (.iadd, 1) := by decide +kernel
theorem dX8_put_10 : decode cX8_put 10 = .ok (.ireturn, 1) := by decide +kernel
set_option maxRecDepth 20000 in
theorem ggX8_writesNumber_X8_put : GoodIn wsX8_writesNumber wsX8_put := goodIn_ca (goodIn_r _ [5, 6, 7, 8, 9, 10, 11, 12, 13, 14, 15, 16, 17, 18, 19, 20, 21, 22, 23, 24, 25, 26] (by decide +kernel) (by decide +kernel)) (goodIn_sub (fun _ h => List.mem_cons_of_mem _ (List.mem_append_right _ h)) (by decide +kernel))
set_option maxRecDepth 20000 in
theorem gX8_writesNumber_X8_put : GoodIn wsX8_writesNumber (wsV RX8 192 RX8 yX8_put wsX8_put) := goodIn_app (goodIn_of _ (by decide +kernel)) ggX8_writesNumber_X8_put
theorem dX8_writesNumber_0 : decode cX8_writesNumber 0 = .ok (.iload_n 2, 1) := by decide +kernel
theorem dX8_writesNumber_1 : decode cX8_writesNumber 1 = .ok (.bipush 10, 2) := by decide +kernel
theorem dX8_writesNumber_3 : decode cX8_writesNumber 3 = .ok (.if_icmp .ge 7, 3) := by decide +kernel
theorem dX8_writesNumber_6 : decode cX8_writesNumber 6 = .ok (.iload_n 1, 1) := by decide +kernel
theorem dX8_writesNumber_7 : decode cX8_writesNumber 7 = .ok (.goto 15, 3) := by decide +kernel
theorem dX8_writesNumber_10 : decode cX8_writesNumber 10 = .ok (.aload_n 0, 1) := by decide +kernel
theorem dX8_writesNumber_11 : decode cX8_writesNumber 11 = .ok (.iload_n 1, 1) := by decide +kernel
theorem dX8_writesNumber_12 : decode cX8_writesNumber 12 = .ok (.bipush 48, 2) := by decide +kernel
theorem dX8_writesNumber_14 : decode cX8_writesNumber 14 = .ok (.iload_n 2, 1) := by decide +kernel
theorem dX8_writesNumber_15 : decode cX8_writesNumber 15 = .ok (.bipush 10, 2) := by decide +kernel
theorem dX8_writesNumber_17 : decode cX8_writesNumber 17 = .ok (.idiv, 1) := by decide +kernel
theorem dX8_writesNumber_18 : decode cX8_writesNumber 18 = .ok (.iadd, 1) := by decide +kernel
theorem dX8_writesNumber_19 : decode cX8_writesNumber 19 = .ok (.invokevirtual 192, 3) := by decide +kernel
theorem dX8_writesNumber_22 : decode cX8_writesNumber 22 = .ok (.istore_n 3, 1) := by decide +kernel
theorem dX8_writesNumber_23 : decode cX8_writesNumber 23 = .ok (.aload_n 0, 1) := by decide +kernel
theorem dX8_writesNumber_24 : decode cX8_writesNumber 24 = .ok (.iload_n 3, 1) := by decide +kernel
theorem dX8_writesNumber_25 : decode cX8_writesNumber 25 = .ok (.bipush 48, 2) := by decide +kernel
theorem dX8_writesNumber_27 : decode cX8_writesNumber 27 = .ok (.iload_n 2, 1) := by decide +kernel
theorem dX8_writesNumber_28 : decode cX8_writesNumber 28 = .ok (.bipush 10, 2) := by decide +kernel
theorem dX8_writesNumber_30 : decode cX8_writesNumber 30 = .ok (.irem, 1) := by decide +kernel
theorem dX8_writesNumber_31 : decode cX8_writesNumber 31 = .ok (.iadd, 1) := by decide +kernel
theorem dX8_writesNumber_32 : decode cX8_writesNumber 32 = .ok (.invokevirtual 192, 3) := by decide +kernel
theorem dX8_writesNumber_35 : decode cX8_writesNumber 35 = .ok (.ireturn, 1) := by decide +kernel
set_option maxRecDepth 20000 in
theorem ggX8_writesBid_X8_put : GoodIn wsX8_writesBid wsX8_put := goodIn_ca (goodIn_r _ [5, 6, 26, 27, 28, 29, 30, 31, 32, 33, 34, 35, 36, 37, 38, 39, 40, 41, 42, 43, 44, 45] (by decide +kernel) (by decide +kernel)) (goodIn_sub (fun _ h => List.mem_cons_of_mem _ (List.mem_append_right _ h)) (by decide +kernel))
set_option maxRecDepth 20000 in
theorem gX8_writesBid_X8_put : GoodIn wsX8_writesBid (wsV RX8 192 RX8 yX8_put wsX8_put) := goodIn_app (goodIn_of _ (by decide +kernel)) ggX8_writesBid_X8_put
set_option maxRecDepth 20000 in
theorem ggX8_writesBid_X8_writesNumber : GoodIn wsX8_writesBid wsX8_writesNumber := goodIn_ca (goodIn_r _ [10, 1, 2, 3, 4, 5, 6, 26, 27, 28, 29, 30, 31, 32, 33, 34, 35, 36, 37, 38, 39, 40, 41, 42, 43, 44, 45] (by decide +kernel) (by decide +kernel)) (goodIn_sub (fun _ h => List.mem_cons_of_mem _ (List.mem_append_right _ h)) (by decide +kernel))
set_option maxRecDepth 20000 in
theorem gX8_writesBid_X8_writesNumber : GoodIn wsX8_writesBid (wsV RX8 195 RX8 yX8_writesNumber wsX8_writesNumber) := goodIn_app (goodIn_of _ (by decide +kernel)) ggX8_writesBid_X8_writesNumber
set_option maxRecDepth 20000 in
theorem ggX8_writesBid_X8_of : GoodIn wsX8_writesBid wsX8_of := goodIn_ca (goodIn_r _ [14, 15, 16, 17, 18, 4, 19, 20, 21, 22, 23, 24, 25, 26, 27, 28, 29, 30, 31, 32, 33, 34, 35, 36, 37, 38, 39, 40, 41, 42, 43, 44, 45] (by decide +kernel) (by decide +kernel)) (goodIn_sub (fun _ h => List.mem_cons_of_mem _ (List.mem_append_right _ h)) (by decide +kernel))
set_option maxRecDepth 20000 in
theorem gX8_writesBid_X8_of : GoodIn wsX8_writesBid (wsV RX8 81 RX8 yX8_of wsX8_of) := goodIn_app (goodIn_of _ (by decide +kernel)) ggX8_writesBid_X8_of
theorem dX8_writesBid_0 : decode cX8_writesBid 0 = .ok (.aload_n 0, 1) := by decide +kernel
theorem dX8_writesBid_1 : decode cX8_writesBid 1 = .ok (.aload_n 0, 1) := by decide +kernel
theorem dX8_writesBid_2 : decode cX8_writesBid 2 = .ok (.aload_n 0, 1) := by decide +kernel
theorem dX8_writesBid_3 : decode cX8_writesBid 3 = .ok (.iload_n 1, 1) := by decide +kernel
theorem dX8_writesBid_4 : decode cX8_writesBid 4 = .ok (.bipush 32, 2) := by decide +kernel
theorem dX8_writesBid_6 : decode cX8_writesBid 6 = .ok (.invokevirtual 192, 3) := by decide +kernel
theorem dX8_writesBid_9 : decode cX8_writesBid 9 = .ok (.iload_n 2, 1) := by decide +kernel
theorem dX8_writesBid_10 : decode cX8_writesBid 10 = .ok (.invokevirtual 195, 3) := by decide +kernel
theorem dX8_writesBid_13 : decode cX8_writesBid 13 = .ok (.bipush 58, 2) := by decide +kernel
theorem dX8_writesBid_15 : decode cX8_writesBid 15 = .ok (.invokevirtual 192, 3) := by decide +kernel
theorem dX8_writesBid_18 : decode cX8_writesBid 18 = .ok (.istore 4, 2) := by decide +kernel
theorem dX8_writesBid_20 : decode cX8_writesBid 20 = .ok (.aload_n 0, 1) := by decide +kernel
theorem dX8_writesBid_21 : decode cX8_writesBid 21 = .ok (.iload 4, 2) := by decide +kernel
theorem dX8_writesBid_23 : decode cX8_writesBid 23 = .ok (.aload_n 0, 1) := by decide +kernel
theorem dX8_writesBid_24 : decode cX8_writesBid 24 = .ok (.iload_n 3, 1) := by decide +kernel
theorem dX8_writesBid_25 : decode cX8_writesBid 25 = .ok (.iconst 5, 1) := by decide +kernel
theorem dX8_writesBid_26 : decode cX8_writesBid 26 = .ok (.iload_n 2, 1) := by decide +kernel
theorem dX8_writesBid_27 : decode cX8_writesBid 27 = .ok (.iadd, 1) := by decide +kernel
theorem dX8_writesBid_28 : decode cX8_writesBid 28 = .ok (.invokevirtual 81, 3) := by decide +kernel
theorem dX8_writesBid_31 : decode cX8_writesBid 31 = .ok (.invokevirtual 195, 3) := by decide +kernel
theorem dX8_writesBid_34 : decode cX8_writesBid 34 = .ok (.istore 4, 2) := by decide +kernel
theorem dX8_writesBid_36 : decode cX8_writesBid 36 = .ok (.aload_n 0, 1) := by decide +kernel
theorem dX8_writesBid_37 : decode cX8_writesBid 37 = .ok (.iload_n 3, 1) := by decide +kernel
theorem dX8_writesBid_38 : decode cX8_writesBid 38 = .ok (.bipush 9, 2) := by decide +kernel
theorem dX8_writesBid_40 : decode cX8_writesBid 40 = .ok (.iload_n 2, 1) := by decide +kernel
theorem dX8_writesBid_41 : decode cX8_writesBid 41 = .ok (.iadd, 1) := by decide +kernel
theorem dX8_writesBid_42 : decode cX8_writesBid 42 = .ok (.invokevirtual 81, 3) := by decide +kernel
theorem dX8_writesBid_45 : decode cX8_writesBid 45 = .ok (.iconst 1, 1) := by decide +kernel
theorem dX8_writesBid_46 : decode cX8_writesBid 46 = .ok (.if_icmp .ne 14, 3) := by decide +kernel
theorem dX8_writesBid_49 : decode cX8_writesBid 49 = .ok (.aload_n 0, 1) := by decide +kernel
theorem dX8_writesBid_50 : decode cX8_writesBid 50 = .ok (.iload 4, 2) := by decide +kernel
theorem dX8_writesBid_52 : decode cX8_writesBid 52 = .ok (.bipush 63, 2) := by decide +kernel
theorem dX8_writesBid_54 : decode cX8_writesBid 54 = .ok (.invokevirtual 192, 3) := by decide +kernel
theorem dX8_writesBid_57 : decode cX8_writesBid 57 = .ok (.goto 5, 3) := by decide +kernel
theorem dX8_writesBid_60 : decode cX8_writesBid 60 = .ok (.iload 4, 2) := by decide +kernel
theorem dX8_writesBid_62 : decode cX8_writesBid 62 = .ok (.istore 4, 2) := by decide +kernel
theorem dX8_writesBid_64 : decode cX8_writesBid 64 = .ok (.aload_n 0, 1) := by decide +kernel
theorem dX8_writesBid_65 : decode cX8_writesBid 65 = .ok (.iload_n 3, 1) := by decide +kernel
theorem dX8_writesBid_66 : decode cX8_writesBid 66 = .ok (.iconst 4, 1) := by decide +kernel
theorem dX8_writesBid_67 : decode cX8_writesBid 67 = .ok (.invokevirtual 81, 3) := by decide +kernel
theorem dX8_writesBid_70 : decode cX8_writesBid 70 = .ok (.iload_n 2, 1) := by decide +kernel
theorem dX8_writesBid_71 : decode cX8_writesBid 71 = .ok (.if_icmp .ne 14, 3) := by decide +kernel
theorem dX8_writesBid_74 : decode cX8_writesBid 74 = .ok (.aload_n 0, 1) := by decide +kernel
theorem dX8_writesBid_75 : decode cX8_writesBid 75 = .ok (.iload 4, 2) := by decide +kernel
theorem dX8_writesBid_77 : decode cX8_writesBid 77 = .ok (.bipush 42, 2) := by decide +kernel
theorem dX8_writesBid_79 : decode cX8_writesBid 79 = .ok (.invokevirtual 192, 3) := by decide +kernel
theorem dX8_writesBid_82 : decode cX8_writesBid 82 = .ok (.goto 5, 3) := by decide +kernel
theorem dX8_writesBid_85 : decode cX8_writesBid 85 = .ok (.iload 4, 2) := by decide +kernel
theorem dX8_writesBid_87 : decode cX8_writesBid 87 = .ok (.ireturn, 1) := by decide +kernel
set_option maxRecDepth 20000 in
theorem ggX8_renderSite_X8_isSite : GoodIn wsX8_renderSite wsX8_isSite := goodIn_ca (goodIn_r _ [6, 7, 8, 9, 5, 10, 44, 45, 46, 47, 48, 49, 50, 51, 52, 53, 54, 55, 56, 57, 58, 59, 60, 61, 62, 63] (by decide +kernel) (by decide +kernel)) (goodIn_sub (fun _ h => List.mem_cons_of_mem _ (List.mem_append_right _ h)) (by decide +kernel))
set_option maxRecDepth 20000 in
theorem gX8_renderSite_X8_isSite : GoodIn wsX8_renderSite (wsV RX8 73 RX8 yX8_isSite wsX8_isSite) := goodIn_app (goodIn_of _ (by decide +kernel)) ggX8_renderSite_X8_isSite
set_option maxRecDepth 20000 in
theorem ggX8_renderSite_X8_goes : GoodIn wsX8_renderSite wsX8_goes := goodIn_r _ [14, 15, 16, 17, 5, 18, 19, 44, 45, 46, 47, 48, 49, 50, 51, 52, 53, 54, 55, 56, 57, 58, 59, 60, 61, 62, 63] (by decide +kernel) (by decide +kernel)
set_option maxRecDepth 20000 in
theorem gX8_renderSite_X8_goes : GoodIn wsX8_renderSite (wsV RX8 61 RX8 yX8_goes wsX8_goes) := goodIn_app (goodIn_of _ (by decide +kernel)) ggX8_renderSite_X8_goes
set_option maxRecDepth 20000 in
theorem ggX8_renderSite_X8_of : GoodIn wsX8_renderSite wsX8_of := goodIn_ca (goodIn_r _ [23, 7, 2, 3, 4, 5, 6, 8, 9, 10, 24, 25, 26, 44, 45, 46, 47, 48, 49, 50, 51, 52, 53, 54, 55, 56, 57, 58, 59, 60, 61, 62, 63] (by decide +kernel) (by decide +kernel)) (goodIn_sub (fun _ h => List.mem_cons_of_mem _ (List.mem_append_right _ h)) (by decide +kernel))
set_option maxRecDepth 20000 in
theorem gX8_renderSite_X8_of : GoodIn wsX8_renderSite (wsV RX8 81 RX8 yX8_of wsX8_of) := goodIn_app (goodIn_of _ (by decide +kernel)) ggX8_renderSite_X8_of
set_option maxRecDepth 20000 in
theorem ggX8_renderSite_X8_writesNumber : GoodIn wsX8_renderSite wsX8_writesNumber := goodIn_ca (goodIn_r _ [30, 31, 32, 33, 5, 34, 35, 44, 45, 46, 47, 48, 49, 50, 51, 52, 53, 54, 55, 56, 57, 58, 59, 60, 61, 62, 63] (by decide +kernel) (by decide +kernel)) (goodIn_sub (fun _ h => List.mem_cons_of_mem _ (List.mem_append_right _ h)) (by decide +kernel))
set_option maxRecDepth 20000 in
theorem gX8_renderSite_X8_writesNumber : GoodIn wsX8_renderSite (wsV RX8 195 RX8 yX8_writesNumber wsX8_writesNumber) := goodIn_app (goodIn_of _ (by decide +kernel)) ggX8_renderSite_X8_writesNumber
set_option maxRecDepth 20000 in
theorem ggX8_renderSite_X8_put : GoodIn wsX8_renderSite wsX8_put := goodIn_ca (goodIn_r _ [34, 35, 44, 45, 46, 47, 48, 49, 50, 51, 52, 53, 54, 55, 56, 57, 58, 59, 60, 61, 62, 63] (by decide +kernel) (by decide +kernel)) (goodIn_sub (fun _ h => List.mem_cons_of_mem _ (List.mem_append_right _ h)) (by decide +kernel))
set_option maxRecDepth 20000 in
theorem gX8_renderSite_X8_put : GoodIn wsX8_renderSite (wsV RX8 192 RX8 yX8_put wsX8_put) := goodIn_app (goodIn_of _ (by decide +kernel)) ggX8_renderSite_X8_put
set_option maxRecDepth 20000 in
theorem ggX8_renderSite_X8_isDone : GoodIn wsX8_renderSite wsX8_isDone := goodIn_ca (goodIn_r _ [39, 2, 3, 4, 5, 6, 7, 8, 9, 10, 20, 21, 22, 23, 24, 25, 26, 44, 45, 46, 47, 48, 49, 50, 51, 52, 53, 54, 55, 56, 57, 58, 59, 60, 61, 62, 63] (by decide +kernel) (by decide +kernel)) (goodIn_sub (fun _ h => List.mem_cons_of_mem _ (List.mem_append_right _ h)) (by decide +kernel))
set_option maxRecDepth 20000 in
theorem gX8_renderSite_X8_isDone : GoodIn wsX8_renderSite (wsV RX8 134 RX8 yX8_isDone wsX8_isDone) := goodIn_app (goodIn_of _ (by decide +kernel)) ggX8_renderSite_X8_isDone
set_option maxRecDepth 20000 in
theorem ggX8_renderSite_X8_writesBid : GoodIn wsX8_renderSite wsX8_writesBid := goodIn_ca (goodIn_r _ [43, 31, 32, 33, 5, 34, 35, 27, 28, 29, 30, 20, 21, 22, 23, 7, 2, 3, 4, 6, 8, 9, 10, 24, 25, 26, 44, 45, 46, 47, 48, 49, 50, 51, 52, 53, 54, 55, 56, 57, 58, 59, 60, 61, 62, 63] (by decide +kernel) (by decide +kernel)) (goodIn_sub (fun _ h => List.mem_cons_of_mem _ (List.mem_append_right _ h)) (by decide +kernel))
set_option maxRecDepth 20000 in
theorem gX8_renderSite_X8_writesBid : GoodIn wsX8_renderSite (wsV RX8 198 RX8 yX8_writesBid wsX8_writesBid) := goodIn_app (goodIn_of _ (by decide +kernel)) ggX8_renderSite_X8_writesBid
theorem dX8_renderSite_0 : decode cX8_renderSite 0 = .ok (.aload_n 0, 1) := by decide +kernel
theorem dX8_renderSite_1 : decode cX8_renderSite 1 = .ok (.aload_n 0, 1) := by decide +kernel
theorem dX8_renderSite_2 : decode cX8_renderSite 2 = .ok (.iload_n 1, 1) := by decide +kernel
theorem dX8_renderSite_3 : decode cX8_renderSite 3 = .ok (.invokevirtual 73, 3) := by decide +kernel
theorem dX8_renderSite_6 : decode cX8_renderSite 6 = .ok (.invokevirtual 61, 3) := by decide +kernel
theorem dX8_renderSite_9 : decode cX8_renderSite 9 = .ok (.ifCond .ne 5, 3) := by decide +kernel
theorem dX8_renderSite_12 : decode cX8_renderSite 12 = .ok (.iconst 0, 1) := by decide +kernel
theorem dX8_renderSite_13 : decode cX8_renderSite 13 = .ok (.ireturn, 1) := by decide +kernel
theorem dX8_renderSite_14 : decode cX8_renderSite 14 = .ok (.aload_n 0, 1) := by decide +kernel
theorem dX8_renderSite_15 : decode cX8_renderSite 15 = .ok (.aload_n 0, 1) := by decide +kernel
theorem dX8_renderSite_16 : decode cX8_renderSite 16 = .ok (.iconst 0, 1) := by decide +kernel
theorem dX8_renderSite_17 : decode cX8_renderSite 17 = .ok (.aload_n 0, 1) := by decide +kernel
theorem dX8_renderSite_18 : decode cX8_renderSite 18 = .ok (.iload_n 1, 1) := by decide +kernel
theorem dX8_renderSite_19 : decode cX8_renderSite 19 = .ok (.iconst 0, 1) := by decide +kernel
theorem dX8_renderSite_20 : decode cX8_renderSite 20 = .ok (.invokevirtual 81, 3) := by decide +kernel
theorem dX8_renderSite_23 : decode cX8_renderSite 23 = .ok (.invokevirtual 195, 3) := by decide +kernel
theorem dX8_renderSite_26 : decode cX8_renderSite 26 = .ok (.bipush 45, 2) := by decide +kernel
theorem dX8_renderSite_28 : decode cX8_renderSite 28 = .ok (.invokevirtual 192, 3) := by decide +kernel
theorem dX8_renderSite_31 : decode cX8_renderSite 31 = .ok (.istore_n 2, 1) := by decide +kernel
theorem dX8_renderSite_32 : decode cX8_renderSite 32 = .ok (.aload_n 0, 1) := by decide +kernel
theorem dX8_renderSite_33 : decode cX8_renderSite 33 = .ok (.aload_n 0, 1) := by decide +kernel
theorem dX8_renderSite_34 : decode cX8_renderSite 34 = .ok (.iload_n 2, 1) := by decide +kernel
theorem dX8_renderSite_35 : decode cX8_renderSite 35 = .ok (.aload_n 0, 1) := by decide +kernel
theorem dX8_renderSite_36 : decode cX8_renderSite 36 = .ok (.iload_n 1, 1) := by decide +kernel
theorem dX8_renderSite_37 : decode cX8_renderSite 37 = .ok (.iconst 1, 1) := by decide +kernel
theorem dX8_renderSite_38 : decode cX8_renderSite 38 = .ok (.invokevirtual 81, 3) := by decide +kernel
theorem dX8_renderSite_41 : decode cX8_renderSite 41 = .ok (.invokevirtual 195, 3) := by decide +kernel
theorem dX8_renderSite_44 : decode cX8_renderSite 44 = .ok (.bipush 47, 2) := by decide +kernel
theorem dX8_renderSite_46 : decode cX8_renderSite 46 = .ok (.invokevirtual 192, 3) := by decide +kernel
theorem dX8_renderSite_49 : decode cX8_renderSite 49 = .ok (.istore_n 2, 1) := by decide +kernel
theorem dX8_renderSite_50 : decode cX8_renderSite 50 = .ok (.aload_n 0, 1) := by decide +kernel
theorem dX8_renderSite_51 : decode cX8_renderSite 51 = .ok (.iload_n 2, 1) := by decide +kernel
theorem dX8_renderSite_52 : decode cX8_renderSite 52 = .ok (.aload_n 0, 1) := by decide +kernel
theorem dX8_renderSite_53 : decode cX8_renderSite 53 = .ok (.iload_n 1, 1) := by decide +kernel
theorem dX8_renderSite_54 : decode cX8_renderSite 54 = .ok (.iconst 2, 1) := by decide +kernel
theorem dX8_renderSite_55 : decode cX8_renderSite 55 = .ok (.invokevirtual 81, 3) := by decide +kernel
theorem dX8_renderSite_58 : decode cX8_renderSite 58 = .ok (.invokevirtual 195, 3) := by decide +kernel
theorem dX8_renderSite_61 : decode cX8_renderSite 61 = .ok (.istore_n 2, 1) := by decide +kernel
theorem dX8_renderSite_62 : decode cX8_renderSite 62 = .ok (.aload_n 0, 1) := by decide +kernel
theorem dX8_renderSite_63 : decode cX8_renderSite 63 = .ok (.iload_n 1, 1) := by decide +kernel
theorem dX8_renderSite_64 : decode cX8_renderSite 64 = .ok (.invokevirtual 134, 3) := by decide +kernel
theorem dX8_renderSite_67 : decode cX8_renderSite 67 = .ok (.ifCond .eq 23, 3) := by decide +kernel
theorem dX8_renderSite_70 : decode cX8_renderSite 70 = .ok (.aload_n 0, 1) := by decide +kernel
theorem dX8_renderSite_71 : decode cX8_renderSite 71 = .ok (.aload_n 0, 1) := by decide +kernel
theorem dX8_renderSite_72 : decode cX8_renderSite 72 = .ok (.iload_n 2, 1) := by decide +kernel
theorem dX8_renderSite_73 : decode cX8_renderSite 73 = .ok (.bipush 61, 2) := by decide +kernel
theorem dX8_renderSite_75 : decode cX8_renderSite 75 = .ok (.invokevirtual 192, 3) := by decide +kernel
theorem dX8_renderSite_78 : decode cX8_renderSite 78 = .ok (.aload_n 0, 1) := by decide +kernel
theorem dX8_renderSite_79 : decode cX8_renderSite 79 = .ok (.iload_n 1, 1) := by decide +kernel
theorem dX8_renderSite_80 : decode cX8_renderSite 80 = .ok (.iconst 3, 1) := by decide +kernel
theorem dX8_renderSite_81 : decode cX8_renderSite 81 = .ok (.invokevirtual 81, 3) := by decide +kernel
theorem dX8_renderSite_84 : decode cX8_renderSite 84 = .ok (.invokevirtual 195, 3) := by decide +kernel
theorem dX8_renderSite_87 : decode cX8_renderSite 87 = .ok (.goto 4, 3) := by decide +kernel
theorem dX8_renderSite_90 : decode cX8_renderSite 90 = .ok (.iload_n 2, 1) := by decide +kernel
theorem dX8_renderSite_91 : decode cX8_renderSite 91 = .ok (.istore_n 2, 1) := by decide +kernel
theorem dX8_renderSite_92 : decode cX8_renderSite 92 = .ok (.iconst 0, 1) := by decide +kernel
theorem dX8_renderSite_93 : decode cX8_renderSite 93 = .ok (.istore_n 3, 1) := by decide +kernel
theorem dX8_renderSite_94 : decode cX8_renderSite 94 = .ok (.iload_n 3, 1) := by decide +kernel
theorem dX8_renderSite_95 : decode cX8_renderSite 95 = .ok (.iconst 4, 1) := by decide +kernel
theorem dX8_renderSite_96 : decode cX8_renderSite 96 = .ok (.if_icmp .ge 32, 3) := by decide +kernel
theorem dX8_renderSite_99 : decode cX8_renderSite 99 = .ok (.aload_n 0, 1) := by decide +kernel
theorem dX8_renderSite_100 : decode cX8_renderSite 100 = .ok (.iload_n 1, 1) := by decide +kernel
theorem dX8_renderSite_101 : decode cX8_renderSite 101 = .ok (.iconst 5, 1) := by decide +kernel
theorem dX8_renderSite_102 : decode cX8_renderSite 102 = .ok (.iload_n 3, 1) := by decide +kernel
theorem dX8_renderSite_103 : decode cX8_renderSite 103 = .ok (.iadd, 1) := by decide +kernel
theorem dX8_renderSite_104 : decode cX8_renderSite 104 = .ok (.invokevirtual 81, 3) := by decide +kernel
theorem dX8_renderSite_107 : decode cX8_renderSite 107 = .ok (.ifCond .le 13, 3) := by decide +kernel
theorem dX8_renderSite_110 : decode cX8_renderSite 110 = .ok (.aload_n 0, 1) := by decide +kernel
theorem dX8_renderSite_111 : decode cX8_renderSite 111 = .ok (.iload_n 2, 1) := by decide +kernel
theorem dX8_renderSite_112 : decode cX8_renderSite 112 = .ok (.iload_n 3, 1) := by decide +kernel
theorem dX8_renderSite_113 : decode cX8_renderSite 113 = .ok (.iload_n 1, 1) := by decide +kernel
theorem dX8_renderSite_114 : decode cX8_renderSite 114 = .ok (.invokevirtual 198, 3) := by decide +kernel
theorem dX8_renderSite_117 : decode cX8_renderSite 117 = .ok (.goto 4, 3) := by decide +kernel
theorem dX8_renderSite_120 : decode cX8_renderSite 120 = .ok (.iload_n 2, 1) := by decide +kernel
theorem dX8_renderSite_121 : decode cX8_renderSite 121 = .ok (.istore_n 2, 1) := by decide +kernel
theorem dX8_renderSite_122 : decode cX8_renderSite 122 = .ok (.iinc 3 1, 3) := by decide +kernel
theorem dX8_renderSite_125 : decode cX8_renderSite 125 = .ok (.goto (-31), 3) := by decide +kernel
theorem dX8_renderSite_128 : decode cX8_renderSite 128 = .ok (.aload_n 0, 1) := by decide +kernel
theorem dX8_renderSite_129 : decode cX8_renderSite 129 = .ok (.iload_n 2, 1) := by decide +kernel
theorem dX8_renderSite_130 : decode cX8_renderSite 130 = .ok (.putfield 201, 3) := by decide +kernel
theorem dX8_renderSite_133 : decode cX8_renderSite 133 = .ok (.iload_n 2, 1) := by decide +kernel
theorem dX8_renderSite_134 : decode cX8_renderSite 134 = .ok (.ireturn, 1) := by decide +kernel
set_option maxRecDepth 20000 in
theorem ggX8_outputAt_X8_isIn : GoodIn wsX8_outputAt wsX8_isIn := goodIn_r _ [6] (by decide +kernel) (by decide +kernel)
set_option maxRecDepth 20000 in
theorem gX8_outputAt_X8_isIn : GoodIn wsX8_outputAt (va_wsS RX8 69 yX8_isIn wsX8_isIn) := goodIn_app (goodIn_of _ (by decide +kernel)) ggX8_outputAt_X8_isIn
set_option maxRecDepth 20000 in
theorem ggX8_outputAt_X8_goes : GoodIn wsX8_outputAt wsX8_goes := goodIn_r _ [10, 11, 12, 13, 5, 14, 15, 16, 17, 18, 19, 20, 21, 22, 23, 24, 25, 26, 27, 28, 29, 30, 31, 32, 33, 34, 35] (by decide +kernel) (by decide +kernel)
set_option maxRecDepth 20000 in
theorem gX8_outputAt_X8_goes : GoodIn wsX8_outputAt (wsV RX8 61 RX8 yX8_goes wsX8_goes) := goodIn_app (goodIn_of _ (by decide +kernel)) ggX8_outputAt_X8_goes
theorem dX8_outputAt_0 : decode cX8_outputAt 0 = .ok (.aload_n 0, 1) := by decide +kernel
theorem dX8_outputAt_1 : decode cX8_outputAt 1 = .ok (.iload_n 1, 1) := by decide +kernel
theorem dX8_outputAt_2 : decode cX8_outputAt 2 = .ok (.iconst 0, 1) := by decide +kernel
theorem dX8_outputAt_3 : decode cX8_outputAt 3 = .ok (.aload_n 0, 1) := by decide +kernel
theorem dX8_outputAt_4 : decode cX8_outputAt 4 = .ok (.getfield 201, 3) := by decide +kernel
theorem dX8_outputAt_7 : decode cX8_outputAt 7 = .ok (.iconst 1, 1) := by decide +kernel
theorem dX8_outputAt_8 : decode cX8_outputAt 8 = .ok (.isub, 1) := by decide +kernel
theorem dX8_outputAt_9 : decode cX8_outputAt 9 = .ok (.invokestatic 69, 3) := by decide +kernel
theorem dX8_outputAt_12 : decode cX8_outputAt 12 = .ok (.invokevirtual 61, 3) := by decide +kernel
theorem dX8_outputAt_15 : decode cX8_outputAt 15 = .ok (.ifCond .eq 13, 3) := by decide +kernel
theorem dX8_outputAt_18 : decode cX8_outputAt 18 = .ok (.aload_n 0, 1) := by decide +kernel
theorem dX8_outputAt_19 : decode cX8_outputAt 19 = .ok (.getfield 32, 3) := by decide +kernel
theorem dX8_outputAt_22 : decode cX8_outputAt 22 = .ok (.iload_n 1, 1) := by decide +kernel
theorem dX8_outputAt_23 : decode cX8_outputAt 23 = .ok (.iaload, 1) := by decide +kernel
theorem dX8_outputAt_24 : decode cX8_outputAt 24 = .ok (.i2c, 1) := by decide +kernel
theorem dX8_outputAt_25 : decode cX8_outputAt 25 = .ok (.goto 4, 3) := by decide +kernel
theorem dX8_outputAt_28 : decode cX8_outputAt 28 = .ok (.iconst 0, 1) := by decide +kernel
theorem dX8_outputAt_29 : decode cX8_outputAt 29 = .ok (.ireturn, 1) := by decide +kernel
set_option maxRecDepth 20000 in
theorem ggX8_type_X8_isIn : GoodIn wsX8_type wsX8_isIn := goodIn_r _ [6] (by decide +kernel) (by decide +kernel)
set_option maxRecDepth 20000 in
theorem gX8_type_X8_isIn : GoodIn wsX8_type (va_wsS RX8 69 yX8_isIn wsX8_isIn) := goodIn_app (goodIn_of _ (by decide +kernel)) ggX8_type_X8_isIn
set_option maxRecDepth 20000 in
theorem ggX8_type_X8_holds : GoodIn wsX8_type wsX8_holds := goodIn_r _ [10, 11, 12, 13, 14, 15, 16, 17, 18, 19, 20, 21, 22, 23, 24, 25, 26, 27, 28, 29, 30, 31] (by decide +kernel) (by decide +kernel)
set_option maxRecDepth 20000 in
theorem gX8_type_X8_holds : GoodIn wsX8_type (wsV RX8 47 RX8 yX8_holds wsX8_holds) := goodIn_app (goodIn_of _ (by decide +kernel)) ggX8_type_X8_holds
theorem dX8_type_0 : decode cX8_type 0 = .ok (.aload_n 0, 1) := by decide +kernel
theorem dX8_type_1 : decode cX8_type 1 = .ok (.iload_n 1, 1) := by decide +kernel
theorem dX8_type_2 : decode cX8_type 2 = .ok (.bipush 32, 2) := by decide +kernel
theorem dX8_type_4 : decode cX8_type 4 = .ok (.bipush 126, 2) := by decide +kernel
theorem dX8_type_6 : decode cX8_type 6 = .ok (.invokestatic 69, 3) := by decide +kernel
theorem dX8_type_9 : decode cX8_type 9 = .ok (.aload_n 0, 1) := by decide +kernel
theorem dX8_type_10 : decode cX8_type 10 = .ok (.getfield 204, 3) := by decide +kernel
theorem dX8_type_13 : decode cX8_type 13 = .ok (.bipush 60, 2) := by decide +kernel
theorem dX8_type_15 : decode cX8_type 15 = .ok (.if_icmp .ge 7, 3) := by decide +kernel
theorem dX8_type_18 : decode cX8_type 18 = .ok (.iconst 1, 1) := by decide +kernel
theorem dX8_type_19 : decode cX8_type 19 = .ok (.goto 4, 3) := by decide +kernel
theorem dX8_type_22 : decode cX8_type 22 = .ok (.iconst 0, 1) := by decide +kernel
theorem dX8_type_23 : decode cX8_type 23 = .ok (.iconst 1, 1) := by decide +kernel
theorem dX8_type_24 : decode cX8_type 24 = .ok (.iconst 1, 1) := by decide +kernel
theorem dX8_type_25 : decode cX8_type 25 = .ok (.invokevirtual 47, 3) := by decide +kernel
theorem dX8_type_28 : decode cX8_type 28 = .ok (.ifCond .ne 5, 3) := by decide +kernel
theorem dX8_type_31 : decode cX8_type 31 = .ok (.iconst 0, 1) := by decide +kernel
theorem dX8_type_32 : decode cX8_type 32 = .ok (.ireturn, 1) := by decide +kernel
theorem dX8_type_33 : decode cX8_type 33 = .ok (.aload_n 0, 1) := by decide +kernel
theorem dX8_type_34 : decode cX8_type 34 = .ok (.getfield 29, 3) := by decide +kernel
theorem dX8_type_37 : decode cX8_type 37 = .ok (.aload_n 0, 1) := by decide +kernel
theorem dX8_type_38 : decode cX8_type 38 = .ok (.getfield 204, 3) := by decide +kernel
theorem dX8_type_41 : decode cX8_type 41 = .ok (.iload_n 1, 1) := by decide +kernel
theorem dX8_type_42 : decode cX8_type 42 = .ok (.iastore, 1) := by decide +kernel
theorem dX8_type_43 : decode cX8_type 43 = .ok (.aload_n 0, 1) := by decide +kernel
theorem dX8_type_44 : decode cX8_type 44 = .ok (.dup, 1) := by decide +kernel
theorem dX8_type_45 : decode cX8_type 45 = .ok (.getfield 204, 3) := by decide +kernel
theorem dX8_type_48 : decode cX8_type 48 = .ok (.iconst 1, 1) := by decide +kernel
theorem dX8_type_49 : decode cX8_type 49 = .ok (.iadd, 1) := by decide +kernel
theorem dX8_type_50 : decode cX8_type 50 = .ok (.putfield 204, 3) := by decide +kernel
theorem dX8_type_53 : decode cX8_type 53 = .ok (.aload_n 0, 1) := by decide +kernel
theorem dX8_type_54 : decode cX8_type 54 = .ok (.getfield 204, 3) := by decide +kernel
theorem dX8_type_57 : decode cX8_type 57 = .ok (.ireturn, 1) := by decide +kernel
theorem dX8_letterHere_0 : decode cX8_letterHere 0 = .ok (.aload_n 0, 1) := by decide +kernel
theorem dX8_letterHere_1 : decode cX8_letterHere 1 = .ok (.getfield 207, 3) := by decide +kernel
theorem dX8_letterHere_4 : decode cX8_letterHere 4 = .ok (.aload_n 0, 1) := by decide +kernel
theorem dX8_letterHere_5 : decode cX8_letterHere 5 = .ok (.getfield 210, 3) := by decide +kernel
theorem dX8_letterHere_8 : decode cX8_letterHere 8 = .ok (.if_icmp .ge 15, 3) := by decide +kernel
theorem dX8_letterHere_11 : decode cX8_letterHere 11 = .ok (.aload_n 0, 1) := by decide +kernel
theorem dX8_letterHere_12 : decode cX8_letterHere 12 = .ok (.getfield 29, 3) := by decide +kernel
theorem dX8_letterHere_15 : decode cX8_letterHere 15 = .ok (.aload_n 0, 1) := by decide +kernel
theorem dX8_letterHere_16 : decode cX8_letterHere 16 = .ok (.getfield 207, 3) := by decide +kernel
theorem dX8_letterHere_19 : decode cX8_letterHere 19 = .ok (.iaload, 1) := by decide +kernel
theorem dX8_letterHere_20 : decode cX8_letterHere 20 = .ok (.goto 4, 3) := by decide +kernel
theorem dX8_letterHere_23 : decode cX8_letterHere 23 = .ok (.iconst (-1), 1) := by decide +kernel
theorem dX8_letterHere_24 : decode cX8_letterHere 24 = .ok (.ireturn, 1) := by decide +kernel
set_option maxRecDepth 20000 in
theorem ggX8_reads_X8_letterHere : GoodIn wsX8_reads wsX8_letterHere := goodIn_ca (goodIn_r _ [8, 2, 9, 3, 13, 14, 15, 16, 17, 18, 19, 20, 21, 22, 23, 24, 25, 26, 27, 28, 29, 30, 31, 32] (by decide +kernel) (by decide +kernel)) (goodIn_sub (fun _ h => List.mem_cons_of_mem _ (List.mem_append_right _ h)) (by decide +kernel))
set_option maxRecDepth 20000 in
theorem gX8_reads_X8_letterHere : GoodIn wsX8_reads (wsV RX8 216 RX8 yX8_letterHere wsX8_letterHere) := goodIn_app (goodIn_of _ (by decide +kernel)) ggX8_reads_X8_letterHere
set_option maxRecDepth 20000 in
theorem ggX8_reads_X8_isIn : GoodIn wsX8_reads wsX8_isIn := goodIn_r _ [12] (by decide +kernel) (by decide +kernel)
set_option maxRecDepth 20000 in
theorem gX8_reads_X8_isIn : GoodIn wsX8_reads (va_wsS RX8 69 yX8_isIn wsX8_isIn) := goodIn_app (goodIn_of _ (by decide +kernel)) ggX8_reads_X8_isIn
theorem dX8_reads_0 : decode cX8_reads 0 = .ok (.aload_n 0, 1) := by decide +kernel
theorem dX8_reads_1 : decode cX8_reads 1 = .ok (.getfield 213, 3) := by decide +kernel
theorem dX8_reads_4 : decode cX8_reads 4 = .ok (.iconst (-1), 1) := by decide +kernel
theorem dX8_reads_5 : decode cX8_reads 5 = .ok (.if_icmp .ne 39, 3) := by decide +kernel
theorem dX8_reads_8 : decode cX8_reads 8 = .ok (.aload_n 0, 1) := by decide +kernel
theorem dX8_reads_9 : decode cX8_reads 9 = .ok (.invokevirtual 216, 3) := by decide +kernel
theorem dX8_reads_12 : decode cX8_reads 12 = .ok (.iload_n 1, 1) := by decide +kernel
theorem dX8_reads_13 : decode cX8_reads 13 = .ok (.iload_n 2, 1) := by decide +kernel
theorem dX8_reads_14 : decode cX8_reads 14 = .ok (.invokestatic 69, 3) := by decide +kernel
theorem dX8_reads_17 : decode cX8_reads 17 = .ok (.ifCond .eq 27, 3) := by decide +kernel
theorem dX8_reads_20 : decode cX8_reads 20 = .ok (.aload_n 0, 1) := by decide +kernel
theorem dX8_reads_21 : decode cX8_reads 21 = .ok (.dup, 1) := by decide +kernel
theorem dX8_reads_22 : decode cX8_reads 22 = .ok (.getfield 207, 3) := by decide +kernel
theorem dX8_reads_25 : decode cX8_reads 25 = .ok (.iconst 1, 1) := by decide +kernel
theorem dX8_reads_26 : decode cX8_reads 26 = .ok (.iadd, 1) := by decide +kernel
theorem dX8_reads_27 : decode cX8_reads 27 = .ok (.putfield 207, 3) := by decide +kernel
theorem dX8_reads_30 : decode cX8_reads 30 = .ok (.aload_n 0, 1) := by decide +kernel
theorem dX8_reads_31 : decode cX8_reads 31 = .ok (.getfield 29, 3) := by decide +kernel
theorem dX8_reads_34 : decode cX8_reads 34 = .ok (.aload_n 0, 1) := by decide +kernel
theorem dX8_reads_35 : decode cX8_reads 35 = .ok (.getfield 207, 3) := by decide +kernel
theorem dX8_reads_38 : decode cX8_reads 38 = .ok (.iconst 1, 1) := by decide +kernel
theorem dX8_reads_39 : decode cX8_reads 39 = .ok (.isub, 1) := by decide +kernel
theorem dX8_reads_40 : decode cX8_reads 40 = .ok (.iaload, 1) := by decide +kernel
theorem dX8_reads_41 : decode cX8_reads 41 = .ok (.iload_n 1, 1) := by decide +kernel
theorem dX8_reads_42 : decode cX8_reads 42 = .ok (.isub, 1) := by decide +kernel
theorem dX8_reads_43 : decode cX8_reads 43 = .ok (.ireturn, 1) := by decide +kernel
theorem dX8_reads_44 : decode cX8_reads 44 = .ok (.aload_n 0, 1) := by decide +kernel
theorem dX8_reads_45 : decode cX8_reads 45 = .ok (.aload_n 0, 1) := by decide +kernel
theorem dX8_reads_46 : decode cX8_reads 46 = .ok (.getfield 213, 3) := by decide +kernel
theorem dX8_reads_49 : decode cX8_reads 49 = .ok (.iconst (-1), 1) := by decide +kernel
theorem dX8_reads_50 : decode cX8_reads 50 = .ok (.if_icmp .ne 10, 3) := by decide +kernel
theorem dX8_reads_53 : decode cX8_reads 53 = .ok (.aload_n 0, 1) := by decide +kernel
theorem dX8_reads_54 : decode cX8_reads 54 = .ok (.getfield 207, 3) := by decide +kernel
theorem dX8_reads_57 : decode cX8_reads 57 = .ok (.goto 7, 3) := by decide +kernel
theorem dX8_reads_60 : decode cX8_reads 60 = .ok (.aload_n 0, 1) := by decide +kernel
theorem dX8_reads_61 : decode cX8_reads 61 = .ok (.getfield 213, 3) := by decide +kernel
theorem dX8_reads_64 : decode cX8_reads 64 = .ok (.putfield 213, 3) := by decide +kernel
theorem dX8_reads_67 : decode cX8_reads 67 = .ok (.iconst 0, 1) := by decide +kernel
theorem dX8_reads_68 : decode cX8_reads 68 = .ok (.ireturn, 1) := by decide +kernel
set_option maxRecDepth 20000 in
theorem ggX8_digit_X8_reads : GoodIn wsX8_digit wsX8_reads := goodIn_ca (goodIn_r _ [5, 6, 7, 8, 9, 10, 11, 4, 12, 13, 14, 15, 16, 17, 18, 19, 20, 21, 22, 23, 24, 25, 26, 27, 28, 29, 30, 31, 32, 33, 34, 35, 36] (by decide +kernel) (by decide +kernel)) (goodIn_sub (fun _ h => List.mem_cons_of_mem _ (List.mem_append_right _ h)) (by decide +kernel))
set_option maxRecDepth 20000 in
theorem gX8_digit_X8_reads : GoodIn wsX8_digit (wsV RX8 219 RX8 yX8_reads wsX8_reads) := goodIn_app (goodIn_of _ (by decide +kernel)) ggX8_digit_X8_reads
theorem dX8_digit_0 : decode cX8_digit 0 = .ok (.aload_n 0, 1) := by decide +kernel
theorem dX8_digit_1 : decode cX8_digit 1 = .ok (.bipush 48, 2) := by decide +kernel
theorem dX8_digit_3 : decode cX8_digit 3 = .ok (.bipush 57, 2) := by decide +kernel
theorem dX8_digit_5 : decode cX8_digit 5 = .ok (.invokevirtual 219, 3) := by decide +kernel
theorem dX8_digit_8 : decode cX8_digit 8 = .ok (.ireturn, 1) := by decide +kernel
set_option maxRecDepth 20000 in
theorem ggX8_number_X8_digit : GoodIn wsX8_number wsX8_digit := goodIn_ca (goodIn_r _ [6, 7, 8, 9, 5, 10, 1, 11, 12, 13, 14, 15, 16, 17, 18, 19, 20, 21, 22, 23, 24, 25, 26, 27, 28, 29, 30, 31, 32, 33, 34, 35, 36, 37, 38, 39, 40] (by decide +kernel) (by decide +kernel)) (goodIn_sub (fun _ h => List.mem_cons_of_mem _ (List.mem_append_right _ h)) (by decide +kernel))
set_option maxRecDepth 20000 in
theorem gX8_number_X8_digit : GoodIn wsX8_number (wsV RX8 222 RX8 yX8_digit wsX8_digit) := goodIn_app (goodIn_of _ (by decide +kernel)) ggX8_number_X8_digit
set_option maxRecDepth 20000 in
theorem ggX8_number_X8_letterHere : GoodIn wsX8_number wsX8_letterHere := goodIn_ca (goodIn_r _ [16, 11, 17, 12, 21, 22, 23, 24, 25, 26, 27, 28, 29, 30, 31, 32, 33, 34, 35, 36, 37, 38, 39, 40] (by decide +kernel) (by decide +kernel)) (goodIn_sub (fun _ h => List.mem_cons_of_mem _ (List.mem_append_right _ h)) (by decide +kernel))
set_option maxRecDepth 20000 in
theorem gX8_number_X8_letterHere : GoodIn wsX8_number (wsV RX8 216 RX8 yX8_letterHere wsX8_letterHere) := goodIn_app (goodIn_of _ (by decide +kernel)) ggX8_number_X8_letterHere
set_option maxRecDepth 20000 in
theorem ggX8_number_X8_isIn : GoodIn wsX8_number wsX8_isIn := goodIn_r _ [20] (by decide +kernel) (by decide +kernel)
set_option maxRecDepth 20000 in
theorem gX8_number_X8_isIn : GoodIn wsX8_number (va_wsS RX8 69 yX8_isIn wsX8_isIn) := goodIn_app (goodIn_of _ (by decide +kernel)) ggX8_number_X8_isIn
theorem dX8_number_0 : decode cX8_number 0 = .ok (.aload_n 0, 1) := by decide +kernel
theorem dX8_number_1 : decode cX8_number 1 = .ok (.invokevirtual 222, 3) := by decide +kernel
theorem dX8_number_4 : decode cX8_number 4 = .ok (.istore_n 1, 1) := by decide +kernel
theorem dX8_number_5 : decode cX8_number 5 = .ok (.aload_n 0, 1) := by decide +kernel
theorem dX8_number_6 : decode cX8_number 6 = .ok (.getfield 213, 3) := by decide +kernel
theorem dX8_number_9 : decode cX8_number 9 = .ok (.iconst (-1), 1) := by decide +kernel
theorem dX8_number_10 : decode cX8_number 10 = .ok (.if_icmp .ne 29, 3) := by decide +kernel
theorem dX8_number_13 : decode cX8_number 13 = .ok (.aload_n 0, 1) := by decide +kernel
theorem dX8_number_14 : decode cX8_number 14 = .ok (.invokevirtual 216, 3) := by decide +kernel
theorem dX8_number_17 : decode cX8_number 17 = .ok (.bipush 48, 2) := by decide +kernel
theorem dX8_number_19 : decode cX8_number 19 = .ok (.bipush 57, 2) := by decide +kernel
theorem dX8_number_21 : decode cX8_number 21 = .ok (.invokestatic 69, 3) := by decide +kernel
theorem dX8_number_24 : decode cX8_number 24 = .ok (.ifCond .eq 15, 3) := by decide +kernel
theorem dX8_number_27 : decode cX8_number 27 = .ok (.bipush 10, 2) := by decide +kernel
theorem dX8_number_29 : decode cX8_number 29 = .ok (.iload_n 1, 1) := by decide +kernel
theorem dX8_number_30 : decode cX8_number 30 = .ok (.imul, 1) := by decide +kernel
theorem dX8_number_31 : decode cX8_number 31 = .ok (.aload_n 0, 1) := by decide +kernel
theorem dX8_number_32 : decode cX8_number 32 = .ok (.invokevirtual 222, 3) := by decide +kernel
theorem dX8_number_35 : decode cX8_number 35 = .ok (.iadd, 1) := by decide +kernel
theorem dX8_number_36 : decode cX8_number 36 = .ok (.goto 4, 3) := by decide +kernel
theorem dX8_number_39 : decode cX8_number 39 = .ok (.iload_n 1, 1) := by decide +kernel
theorem dX8_number_40 : decode cX8_number 40 = .ok (.ireturn, 1) := by decide +kernel
set_option maxRecDepth 20000 in
theorem ggX8_blank_X8_reads : GoodIn wsX8_blank wsX8_reads := goodIn_ca (goodIn_r _ [5, 6, 7, 8, 9, 10, 11, 4, 12, 13, 14, 15, 16, 17, 18, 19, 20, 21, 22, 23, 24, 25, 26, 27, 28, 29, 30, 31, 32, 33, 34, 35, 36] (by decide +kernel) (by decide +kernel)) (goodIn_sub (fun _ h => List.mem_cons_of_mem _ (List.mem_append_right _ h)) (by decide +kernel))
set_option maxRecDepth 20000 in
theorem gX8_blank_X8_reads : GoodIn wsX8_blank (wsV RX8 219 RX8 yX8_reads wsX8_reads) := goodIn_app (goodIn_of _ (by decide +kernel)) ggX8_blank_X8_reads
theorem dX8_blank_0 : decode cX8_blank 0 = .ok (.aload_n 0, 1) := by decide +kernel
theorem dX8_blank_1 : decode cX8_blank 1 = .ok (.bipush 32, 2) := by decide +kernel
theorem dX8_blank_3 : decode cX8_blank 3 = .ok (.bipush 32, 2) := by decide +kernel
theorem dX8_blank_5 : decode cX8_blank 5 = .ok (.invokevirtual 219, 3) := by decide +kernel
theorem dX8_blank_8 : decode cX8_blank 8 = .ok (.istore_n 1, 1) := by decide +kernel
theorem dX8_blank_9 : decode cX8_blank 9 = .ok (.return_, 1) := by decide +kernel
theorem dX8_startOf_0 : decode cX8_startOf 0 = .ok (.iload_n 0, 1) := by decide +kernel
theorem dX8_startOf_1 : decode cX8_startOf 1 = .ok (.tableswitch 77 0 8 #[51, 53, 56, 59, 62, 65, 68, 71, 74], 51) := by decide +kernel
theorem dX8_startOf_52 : decode cX8_startOf 52 = .ok (.iconst 0, 1) := by decide +kernel
theorem dX8_startOf_53 : decode cX8_startOf 53 = .ok (.ireturn, 1) := by decide +kernel
theorem dX8_startOf_54 : decode cX8_startOf 54 = .ok (.bipush 7, 2) := by decide +kernel
theorem dX8_startOf_56 : decode cX8_startOf 56 = .ok (.ireturn, 1) := by decide +kernel
theorem dX8_startOf_57 : decode cX8_startOf 57 = .ok (.bipush 12, 2) := by decide +kernel
theorem dX8_startOf_59 : decode cX8_startOf 59 = .ok (.ireturn, 1) := by decide +kernel
theorem dX8_startOf_60 : decode cX8_startOf 60 = .ok (.bipush 17, 2) := by decide +kernel
theorem dX8_startOf_62 : decode cX8_startOf 62 = .ok (.ireturn, 1) := by decide +kernel
theorem dX8_startOf_63 : decode cX8_startOf 63 = .ok (.bipush 22, 2) := by decide +kernel
theorem dX8_startOf_65 : decode cX8_startOf 65 = .ok (.ireturn, 1) := by decide +kernel
theorem dX8_startOf_66 : decode cX8_startOf 66 = .ok (.bipush 26, 2) := by decide +kernel
theorem dX8_startOf_68 : decode cX8_startOf 68 = .ok (.ireturn, 1) := by decide +kernel
theorem dX8_startOf_69 : decode cX8_startOf 69 = .ok (.bipush 32, 2) := by decide +kernel
theorem dX8_startOf_71 : decode cX8_startOf 71 = .ok (.ireturn, 1) := by decide +kernel
theorem dX8_startOf_72 : decode cX8_startOf 72 = .ok (.bipush 38, 2) := by decide +kernel
theorem dX8_startOf_74 : decode cX8_startOf 74 = .ok (.ireturn, 1) := by decide +kernel
theorem dX8_startOf_75 : decode cX8_startOf 75 = .ok (.bipush 43, 2) := by decide +kernel
theorem dX8_startOf_77 : decode cX8_startOf 77 = .ok (.ireturn, 1) := by decide +kernel
theorem dX8_startOf_78 : decode cX8_startOf 78 = .ok (.bipush 50, 2) := by decide +kernel
theorem dX8_startOf_80 : decode cX8_startOf 80 = .ok (.ireturn, 1) := by decide +kernel
set_option maxRecDepth 20000 in
theorem ggX8_kindHere_X8_startOf : GoodIn wsX8_kindHere wsX8_startOf := goodIn_r _ [12] (by decide +kernel) (by decide +kernel)
set_option maxRecDepth 20000 in
theorem gX8_kindHere_X8_startOf : GoodIn wsX8_kindHere (va_wsS RX8 225 yX8_startOf wsX8_startOf) := goodIn_app (goodIn_of _ (by decide +kernel)) ggX8_kindHere_X8_startOf
set_option maxRecDepth 20000 in
theorem ggX8_kindHere_J0_charAt_5068e : GoodIn wsX8_kindHere wsJ0_charAt_5068e := goodIn_r _ [17, 18, 19, 20, 21, 16, 22, 23, 24, 25, 26, 27, 28, 29, 30, 31, 32, 33, 34, 35, 36, 37, 38, 39, 40, 41, 42, 43, 44, 45, 46, 47, 48, 49, 50, 51, 52, 53, 74, 75, 76, 77] (by decide +kernel) (by decide +kernel)
set_option maxRecDepth 20000 in
theorem gX8_kindHere_J0_charAt_5068e : GoodIn wsX8_kindHere (wsV RX8 230 RJ0 yJ0_charAt_5068e wsJ0_charAt_5068e) := goodIn_app (goodIn_of _ (by decide +kernel)) ggX8_kindHere_J0_charAt_5068e
theorem dX8_kindHere_0 : decode cX8_kindHere 0 = .ok (.aload_n 0, 1) := by decide +kernel
theorem dX8_kindHere_1 : decode cX8_kindHere 1 = .ok (.getfield 207, 3) := by decide +kernel
theorem dX8_kindHere_4 : decode cX8_kindHere 4 = .ok (.istore_n 1, 1) := by decide +kernel
theorem dX8_kindHere_5 : decode cX8_kindHere 5 = .ok (.iconst (-1), 1) := by decide +kernel
theorem dX8_kindHere_6 : decode cX8_kindHere 6 = .ok (.istore_n 2, 1) := by decide +kernel
theorem dX8_kindHere_7 : decode cX8_kindHere 7 = .ok (.iconst 0, 1) := by decide +kernel
theorem dX8_kindHere_8 : decode cX8_kindHere 8 = .ok (.istore_n 3, 1) := by decide +kernel
theorem dX8_kindHere_9 : decode cX8_kindHere 9 = .ok (.iload_n 3, 1) := by decide +kernel
theorem dX8_kindHere_10 : decode cX8_kindHere 10 = .ok (.bipush 9, 2) := by decide +kernel
theorem dX8_kindHere_12 : decode cX8_kindHere 12 = .ok (.if_icmp .ge 109, 3) := by decide +kernel
theorem dX8_kindHere_15 : decode cX8_kindHere 15 = .ok (.iload_n 2, 1) := by decide +kernel
theorem dX8_kindHere_16 : decode cX8_kindHere 16 = .ok (.iconst (-1), 1) := by decide +kernel
theorem dX8_kindHere_17 : decode cX8_kindHere 17 = .ok (.if_icmp .ne 104, 3) := by decide +kernel
theorem dX8_kindHere_20 : decode cX8_kindHere 20 = .ok (.iload_n 3, 1) := by decide +kernel
theorem dX8_kindHere_21 : decode cX8_kindHere 21 = .ok (.iconst 1, 1) := by decide +kernel
theorem dX8_kindHere_22 : decode cX8_kindHere 22 = .ok (.iadd, 1) := by decide +kernel
theorem dX8_kindHere_23 : decode cX8_kindHere 23 = .ok (.invokestatic 225, 3) := by decide +kernel
theorem dX8_kindHere_26 : decode cX8_kindHere 26 = .ok (.iload_n 3, 1) := by decide +kernel
theorem dX8_kindHere_27 : decode cX8_kindHere 27 = .ok (.invokestatic 225, 3) := by decide +kernel
theorem dX8_kindHere_30 : decode cX8_kindHere 30 = .ok (.isub, 1) := by decide +kernel
theorem dX8_kindHere_31 : decode cX8_kindHere 31 = .ok (.istore 4, 2) := by decide +kernel
theorem dX8_kindHere_33 : decode cX8_kindHere 33 = .ok (.iconst 0, 1) := by decide +kernel
theorem dX8_kindHere_34 : decode cX8_kindHere 34 = .ok (.istore 5, 2) := by decide +kernel
theorem dX8_kindHere_36 : decode cX8_kindHere 36 = .ok (.iload 5, 2) := by decide +kernel
theorem dX8_kindHere_38 : decode cX8_kindHere 38 = .ok (.iload 4, 2) := by decide +kernel
theorem dX8_kindHere_40 : decode cX8_kindHere 40 = .ok (.if_icmp .ge 50, 3) := by decide +kernel
theorem dX8_kindHere_43 : decode cX8_kindHere 43 = .ok (.aload_n 0, 1) := by decide +kernel
theorem dX8_kindHere_44 : decode cX8_kindHere 44 = .ok (.getfield 207, 3) := by decide +kernel
theorem dX8_kindHere_47 : decode cX8_kindHere 47 = .ok (.iload 5, 2) := by decide +kernel
theorem dX8_kindHere_49 : decode cX8_kindHere 49 = .ok (.iadd, 1) := by decide +kernel
theorem dX8_kindHere_50 : decode cX8_kindHere 50 = .ok (.aload_n 0, 1) := by decide +kernel
theorem dX8_kindHere_51 : decode cX8_kindHere 51 = .ok (.getfield 210, 3) := by decide +kernel
theorem dX8_kindHere_54 : decode cX8_kindHere 54 = .ok (.if_icmp .ge 36, 3) := by decide +kernel
theorem dX8_kindHere_57 : decode cX8_kindHere 57 = .ok (.aload_n 0, 1) := by decide +kernel
theorem dX8_kindHere_58 : decode cX8_kindHere 58 = .ok (.getfield 29, 3) := by decide +kernel
theorem dX8_kindHere_61 : decode cX8_kindHere 61 = .ok (.aload_n 0, 1) := by decide +kernel
theorem dX8_kindHere_62 : decode cX8_kindHere 62 = .ok (.getfield 207, 3) := by decide +kernel
theorem dX8_kindHere_65 : decode cX8_kindHere 65 = .ok (.iload 5, 2) := by decide +kernel
theorem dX8_kindHere_67 : decode cX8_kindHere 67 = .ok (.iadd, 1) := by decide +kernel
theorem dX8_kindHere_68 : decode cX8_kindHere 68 = .ok (.iaload, 1) := by decide +kernel
theorem dX8_kindHere_69 : decode cX8_kindHere 69 = .ok (.ldc 228, 2) := by decide +kernel
theorem dX8_kindHere_71 : decode cX8_kindHere 71 = .ok (.iload_n 3, 1) := by decide +kernel
theorem dX8_kindHere_72 : decode cX8_kindHere 72 = .ok (.invokestatic 225, 3) := by decide +kernel
theorem dX8_kindHere_75 : decode cX8_kindHere 75 = .ok (.iload 5, 2) := by decide +kernel
theorem dX8_kindHere_77 : decode cX8_kindHere 77 = .ok (.iadd, 1) := by decide +kernel
theorem dX8_kindHere_78 : decode cX8_kindHere 78 = .ok (.invokevirtual 230, 3) := by decide +kernel
theorem dX8_kindHere_81 : decode cX8_kindHere 81 = .ok (.if_icmp .ne 9, 3) := by decide +kernel
theorem dX8_kindHere_84 : decode cX8_kindHere 84 = .ok (.iinc 5 1, 3) := by decide +kernel
theorem dX8_kindHere_87 : decode cX8_kindHere 87 = .ok (.goto (-51), 3) := by decide +kernel
theorem dX8_kindHere_90 : decode cX8_kindHere 90 = .ok (.iload_n 1, 1) := by decide +kernel
theorem dX8_kindHere_91 : decode cX8_kindHere 91 = .ok (.aload_n 0, 1) := by decide +kernel
theorem dX8_kindHere_92 : decode cX8_kindHere 92 = .ok (.getfield 207, 3) := by decide +kernel
theorem dX8_kindHere_95 : decode cX8_kindHere 95 = .ok (.iload 5, 2) := by decide +kernel
theorem dX8_kindHere_97 : decode cX8_kindHere 97 = .ok (.iadd, 1) := by decide +kernel
theorem dX8_kindHere_98 : decode cX8_kindHere 98 = .ok (.invokestatic 88, 3) := by decide +kernel
theorem dX8_kindHere_101 : decode cX8_kindHere 101 = .ok (.istore_n 1, 1) := by decide +kernel
theorem dX8_kindHere_102 : decode cX8_kindHere 102 = .ok (.iload 5, 2) := by decide +kernel
theorem dX8_kindHere_104 : decode cX8_kindHere 104 = .ok (.iload 4, 2) := by decide +kernel
theorem dX8_kindHere_106 : decode cX8_kindHere 106 = .ok (.if_icmp .ne 7, 3) := by decide +kernel
theorem dX8_kindHere_109 : decode cX8_kindHere 109 = .ok (.iload_n 3, 1) := by decide +kernel
theorem dX8_kindHere_110 : decode cX8_kindHere 110 = .ok (.goto 4, 3) := by decide +kernel
theorem dX8_kindHere_113 : decode cX8_kindHere 113 = .ok (.iload_n 2, 1) := by decide +kernel
theorem dX8_kindHere_114 : decode cX8_kindHere 114 = .ok (.istore_n 2, 1) := by decide +kernel
theorem dX8_kindHere_115 : decode cX8_kindHere 115 = .ok (.iinc 3 1, 3) := by decide +kernel
theorem dX8_kindHere_118 : decode cX8_kindHere 118 = .ok (.goto (-109), 3) := by decide +kernel
theorem dX8_kindHere_121 : decode cX8_kindHere 121 = .ok (.aload_n 0, 1) := by decide +kernel
theorem dX8_kindHere_122 : decode cX8_kindHere 122 = .ok (.iload_n 2, 1) := by decide +kernel
theorem dX8_kindHere_123 : decode cX8_kindHere 123 = .ok (.iconst (-1), 1) := by decide +kernel
theorem dX8_kindHere_124 : decode cX8_kindHere 124 = .ok (.if_icmp .ne 7, 3) := by decide +kernel
theorem dX8_kindHere_127 : decode cX8_kindHere 127 = .ok (.iload_n 1, 1) := by decide +kernel
theorem dX8_kindHere_128 : decode cX8_kindHere 128 = .ok (.goto 7, 3) := by decide +kernel
theorem dX8_kindHere_131 : decode cX8_kindHere 131 = .ok (.aload_n 0, 1) := by decide +kernel
theorem dX8_kindHere_132 : decode cX8_kindHere 132 = .ok (.getfield 213, 3) := by decide +kernel
theorem dX8_kindHere_135 : decode cX8_kindHere 135 = .ok (.putfield 213, 3) := by decide +kernel
theorem dX8_kindHere_138 : decode cX8_kindHere 138 = .ok (.aload_n 0, 1) := by decide +kernel
theorem dX8_kindHere_139 : decode cX8_kindHere 139 = .ok (.dup, 1) := by decide +kernel
theorem dX8_kindHere_140 : decode cX8_kindHere 140 = .ok (.getfield 207, 3) := by decide +kernel
theorem dX8_kindHere_143 : decode cX8_kindHere 143 = .ok (.iload_n 2, 1) := by decide +kernel
theorem dX8_kindHere_144 : decode cX8_kindHere 144 = .ok (.iconst (-1), 1) := by decide +kernel
theorem dX8_kindHere_145 : decode cX8_kindHere 145 = .ok (.if_icmp .ne 7, 3) := by decide +kernel
theorem dX8_kindHere_148 : decode cX8_kindHere 148 = .ok (.iconst 0, 1) := by decide +kernel
theorem dX8_kindHere_149 : decode cX8_kindHere 149 = .ok (.goto 14, 3) := by decide +kernel
theorem dX8_kindHere_152 : decode cX8_kindHere 152 = .ok (.iload_n 2, 1) := by decide +kernel
theorem dX8_kindHere_153 : decode cX8_kindHere 153 = .ok (.iconst 1, 1) := by decide +kernel
theorem dX8_kindHere_154 : decode cX8_kindHere 154 = .ok (.iadd, 1) := by decide +kernel
theorem dX8_kindHere_155 : decode cX8_kindHere 155 = .ok (.invokestatic 225, 3) := by decide +kernel
theorem dX8_kindHere_158 : decode cX8_kindHere 158 = .ok (.iload_n 2, 1) := by decide +kernel
theorem dX8_kindHere_159 : decode cX8_kindHere 159 = .ok (.invokestatic 225, 3) := by decide +kernel
theorem dX8_kindHere_162 : decode cX8_kindHere 162 = .ok (.isub, 1) := by decide +kernel
theorem dX8_kindHere_163 : decode cX8_kindHere 163 = .ok (.iadd, 1) := by decide +kernel
theorem dX8_kindHere_164 : decode cX8_kindHere 164 = .ok (.putfield 207, 3) := by decide +kernel
theorem dX8_kindHere_167 : decode cX8_kindHere 167 = .ok (.iload_n 2, 1) := by decide +kernel
theorem dX8_kindHere_168 : decode cX8_kindHere 168 = .ok (.ireturn, 1) := by decide +kernel
set_option maxRecDepth 20000 in
theorem ggX8_readsRest_X8_number : GoodIn wsX8_readsRest wsX8_number := goodIn_ca (goodIn_r _ [6, 7, 8, 9, 10, 5, 11, 12, 13, 14, 15, 16, 17, 18, 19, 20, 21, 22, 23, 24, 25, 30, 31, 32, 33, 34, 35, 36, 37, 38, 39, 40, 41, 42, 43, 44, 45, 46, 47, 48, 49] (by decide +kernel) (by decide +kernel)) (goodIn_sub (fun _ h => List.mem_cons_of_mem _ (List.mem_append_right _ h)) (by decide +kernel))
set_option maxRecDepth 20000 in
theorem gX8_readsRest_X8_number : GoodIn wsX8_readsRest (wsV RX8 236 RX8 yX8_number wsX8_number) := goodIn_app (goodIn_of _ (by decide +kernel)) ggX8_readsRest_X8_number
set_option maxRecDepth 20000 in
theorem ggX8_readsRest_X8_digit : GoodIn wsX8_readsRest wsX8_digit := goodIn_ca (goodIn_r _ [11, 12, 13, 14, 5, 15, 7, 16, 17, 18, 19, 20, 21, 22, 23, 24, 25, 30, 31, 32, 33, 34, 35, 36, 37, 38, 39, 40, 41, 42, 43, 44, 45, 46, 47, 48, 49] (by decide +kernel) (by decide +kernel)) (goodIn_sub (fun _ h => List.mem_cons_of_mem _ (List.mem_append_right _ h)) (by decide +kernel))
set_option maxRecDepth 20000 in
theorem gX8_readsRest_X8_digit : GoodIn wsX8_readsRest (wsV RX8 222 RX8 yX8_digit wsX8_digit) := goodIn_app (goodIn_of _ (by decide +kernel)) ggX8_readsRest_X8_digit
set_option maxRecDepth 20000 in
theorem ggX8_readsRest_X8_blank : GoodIn wsX8_readsRest wsX8_blank := goodIn_ca (goodIn_r _ [29, 12, 13, 14, 5, 15, 7, 16, 17, 18, 19, 20, 21, 22, 23, 24, 25, 30, 31, 32, 33, 34, 35, 36, 37, 38, 39, 40, 41, 42, 43, 44, 45, 46, 47, 48, 49] (by decide +kernel) (by decide +kernel)) (goodIn_sub (fun _ h => List.mem_cons_of_mem _ (List.mem_append_right _ h)) (by decide +kernel))
set_option maxRecDepth 20000 in
theorem gX8_readsRest_X8_blank : GoodIn wsX8_readsRest (wsV RX8 239 RX8 yX8_blank wsX8_blank) := goodIn_app (goodIn_of _ (by decide +kernel)) ggX8_readsRest_X8_blank
theorem dX8_readsRest_0 : decode cX8_readsRest 0 = .ok (.aload_n 0, 1) := by decide +kernel
theorem dX8_readsRest_1 : decode cX8_readsRest 1 = .ok (.getfield 41, 3) := by decide +kernel
theorem dX8_readsRest_4 : decode cX8_readsRest 4 = .ok (.iload_n 1, 1) := by decide +kernel
theorem dX8_readsRest_5 : decode cX8_readsRest 5 = .ok (.iconst 1, 1) := by decide +kernel
theorem dX8_readsRest_6 : decode cX8_readsRest 6 = .ok (.iadd, 1) := by decide +kernel
theorem dX8_readsRest_7 : decode cX8_readsRest 7 = .ok (.iload_n 2, 1) := by decide +kernel
theorem dX8_readsRest_8 : decode cX8_readsRest 8 = .ok (.ifCond .eq 9, 3) := by decide +kernel
theorem dX8_readsRest_11 : decode cX8_readsRest 11 = .ok (.iload_n 2, 1) := by decide +kernel
theorem dX8_readsRest_12 : decode cX8_readsRest 12 = .ok (.bipush 8, 2) := by decide +kernel
theorem dX8_readsRest_14 : decode cX8_readsRest 14 = .ok (.if_icmp .ne 10, 3) := by decide +kernel
theorem dX8_readsRest_17 : decode cX8_readsRest 17 = .ok (.aload_n 0, 1) := by decide +kernel
theorem dX8_readsRest_18 : decode cX8_readsRest 18 = .ok (.invokevirtual 236, 3) := by decide +kernel
theorem dX8_readsRest_21 : decode cX8_readsRest 21 = .ok (.goto 7, 3) := by decide +kernel
theorem dX8_readsRest_24 : decode cX8_readsRest 24 = .ok (.aload_n 0, 1) := by decide +kernel
theorem dX8_readsRest_25 : decode cX8_readsRest 25 = .ok (.invokevirtual 222, 3) := by decide +kernel
theorem dX8_readsRest_28 : decode cX8_readsRest 28 = .ok (.iastore, 1) := by decide +kernel
theorem dX8_readsRest_29 : decode cX8_readsRest 29 = .ok (.iload_n 2, 1) := by decide +kernel
theorem dX8_readsRest_30 : decode cX8_readsRest 30 = .ok (.ifCond .eq 14, 3) := by decide +kernel
theorem dX8_readsRest_33 : decode cX8_readsRest 33 = .ok (.iload_n 2, 1) := by decide +kernel
theorem dX8_readsRest_34 : decode cX8_readsRest 34 = .ok (.iconst 3, 1) := by decide +kernel
theorem dX8_readsRest_35 : decode cX8_readsRest 35 = .ok (.if_icmp .eq 9, 3) := by decide +kernel
theorem dX8_readsRest_38 : decode cX8_readsRest 38 = .ok (.iload_n 2, 1) := by decide +kernel
theorem dX8_readsRest_39 : decode cX8_readsRest 39 = .ok (.bipush 8, 2) := by decide +kernel
theorem dX8_readsRest_41 : decode cX8_readsRest 41 = .ok (.if_icmp .ne 4, 3) := by decide +kernel
theorem dX8_readsRest_44 : decode cX8_readsRest 44 = .ok (.return_, 1) := by decide +kernel
theorem dX8_readsRest_45 : decode cX8_readsRest 45 = .ok (.aload_n 0, 1) := by decide +kernel
theorem dX8_readsRest_46 : decode cX8_readsRest 46 = .ok (.invokevirtual 239, 3) := by decide +kernel
theorem dX8_readsRest_49 : decode cX8_readsRest 49 = .ok (.aload_n 0, 1) := by decide +kernel
theorem dX8_readsRest_50 : decode cX8_readsRest 50 = .ok (.getfield 41, 3) := by decide +kernel
theorem dX8_readsRest_53 : decode cX8_readsRest 53 = .ok (.iload_n 1, 1) := by decide +kernel
theorem dX8_readsRest_54 : decode cX8_readsRest 54 = .ok (.iconst 2, 1) := by decide +kernel
theorem dX8_readsRest_55 : decode cX8_readsRest 55 = .ok (.iadd, 1) := by decide +kernel
theorem dX8_readsRest_56 : decode cX8_readsRest 56 = .ok (.iload_n 2, 1) := by decide +kernel
theorem dX8_readsRest_57 : decode cX8_readsRest 57 = .ok (.iconst 1, 1) := by decide +kernel
theorem dX8_readsRest_58 : decode cX8_readsRest 58 = .ok (.if_icmp .eq 8, 3) := by decide +kernel
theorem dX8_readsRest_61 : decode cX8_readsRest 61 = .ok (.iload_n 2, 1) := by decide +kernel
theorem dX8_readsRest_62 : decode cX8_readsRest 62 = .ok (.iconst 2, 1) := by decide +kernel
theorem dX8_readsRest_63 : decode cX8_readsRest 63 = .ok (.if_icmp .ne 10, 3) := by decide +kernel
theorem dX8_readsRest_66 : decode cX8_readsRest 66 = .ok (.aload_n 0, 1) := by decide +kernel
theorem dX8_readsRest_67 : decode cX8_readsRest 67 = .ok (.invokevirtual 222, 3) := by decide +kernel
theorem dX8_readsRest_70 : decode cX8_readsRest 70 = .ok (.goto 7, 3) := by decide +kernel
theorem dX8_readsRest_73 : decode cX8_readsRest 73 = .ok (.aload_n 0, 1) := by decide +kernel
theorem dX8_readsRest_74 : decode cX8_readsRest 74 = .ok (.invokevirtual 236, 3) := by decide +kernel
theorem dX8_readsRest_77 : decode cX8_readsRest 77 = .ok (.iastore, 1) := by decide +kernel
theorem dX8_readsRest_78 : decode cX8_readsRest 78 = .ok (.iload_n 2, 1) := by decide +kernel
theorem dX8_readsRest_79 : decode cX8_readsRest 79 = .ok (.iconst 1, 1) := by decide +kernel
theorem dX8_readsRest_80 : decode cX8_readsRest 80 = .ok (.if_icmp .eq 13, 3) := by decide +kernel
theorem dX8_readsRest_83 : decode cX8_readsRest 83 = .ok (.iload_n 2, 1) := by decide +kernel
theorem dX8_readsRest_84 : decode cX8_readsRest 84 = .ok (.iconst 4, 1) := by decide +kernel
theorem dX8_readsRest_85 : decode cX8_readsRest 85 = .ok (.if_icmp .eq 8, 3) := by decide +kernel
theorem dX8_readsRest_88 : decode cX8_readsRest 88 = .ok (.iload_n 2, 1) := by decide +kernel
theorem dX8_readsRest_89 : decode cX8_readsRest 89 = .ok (.iconst 5, 1) := by decide +kernel
theorem dX8_readsRest_90 : decode cX8_readsRest 90 = .ok (.if_icmp .ne 31, 3) := by decide +kernel
theorem dX8_readsRest_93 : decode cX8_readsRest 93 = .ok (.aload_n 0, 1) := by decide +kernel
theorem dX8_readsRest_94 : decode cX8_readsRest 94 = .ok (.invokevirtual 239, 3) := by decide +kernel
theorem dX8_readsRest_97 : decode cX8_readsRest 97 = .ok (.aload_n 0, 1) := by decide +kernel
theorem dX8_readsRest_98 : decode cX8_readsRest 98 = .ok (.getfield 41, 3) := by decide +kernel
theorem dX8_readsRest_101 : decode cX8_readsRest 101 = .ok (.iload_n 1, 1) := by decide +kernel
theorem dX8_readsRest_102 : decode cX8_readsRest 102 = .ok (.iconst 3, 1) := by decide +kernel
theorem dX8_readsRest_103 : decode cX8_readsRest 103 = .ok (.iadd, 1) := by decide +kernel
theorem dX8_readsRest_104 : decode cX8_readsRest 104 = .ok (.iload_n 2, 1) := by decide +kernel
theorem dX8_readsRest_105 : decode cX8_readsRest 105 = .ok (.iconst 1, 1) := by decide +kernel
theorem dX8_readsRest_106 : decode cX8_readsRest 106 = .ok (.if_icmp .ne 10, 3) := by decide +kernel
theorem dX8_readsRest_109 : decode cX8_readsRest 109 = .ok (.aload_n 0, 1) := by decide +kernel
theorem dX8_readsRest_110 : decode cX8_readsRest 110 = .ok (.invokevirtual 222, 3) := by decide +kernel
theorem dX8_readsRest_113 : decode cX8_readsRest 113 = .ok (.goto 7, 3) := by decide +kernel
theorem dX8_readsRest_116 : decode cX8_readsRest 116 = .ok (.aload_n 0, 1) := by decide +kernel
theorem dX8_readsRest_117 : decode cX8_readsRest 117 = .ok (.invokevirtual 236, 3) := by decide +kernel
theorem dX8_readsRest_120 : decode cX8_readsRest 120 = .ok (.iastore, 1) := by decide +kernel
theorem dX8_readsRest_121 : decode cX8_readsRest 121 = .ok (.return_, 1) := by decide +kernel
set_option maxRecDepth 20000 in
theorem ggX8_readsCommand_X8_kindHere : GoodIn wsX8_readsCommand wsX8_kindHere := goodIn_ca (goodIn_r _ [8, 9, 10, 11, 12, 13, 14, 15, 3, 16, 17, 7, 18, 19, 20, 21, 22, 23, 24, 25, 26, 27, 28, 29, 30, 31, 32, 33, 34, 35, 36, 37, 38, 39, 40, 41, 42, 43, 44, 45, 46, 47, 48, 49, 50, 51, 52, 53, 54, 55, 56, 57, 58, 59, 87, 88, 89, 90, 91, 92, 93, 94, 95, 96, 97, 98, 99, 100, 101, 102, 103, 104, 105, 106, 107, 108, 109, 110] (by decide +kernel) (by decide +kernel)) (goodIn_sub (fun _ h => List.mem_cons_of_mem _ (List.mem_append_right _ h)) (by decide +kernel))
set_option maxRecDepth 20000 in
theorem gX8_readsCommand_X8_kindHere : GoodIn wsX8_readsCommand (wsV RX8 245 RX8 yX8_kindHere wsX8_kindHere) := goodIn_app (goodIn_of _ (by decide +kernel)) ggX8_readsCommand_X8_kindHere
set_option maxRecDepth 20000 in
theorem ggX8_readsCommand_X8_readsRest : GoodIn wsX8_readsCommand wsX8_readsRest := goodIn_ca (goodIn_r _ [63, 2, 64, 65, 66, 7, 67, 3, 68, 69, 70, 71, 72, 73, 74, 75, 9, 11, 76, 77, 78, 79, 10, 80, 81, 82, 83, 84, 85, 86, 87, 88, 89, 90, 91, 92, 93, 94, 95, 96, 97, 98, 99, 100, 101, 102, 103, 104, 105, 106] (by decide +kernel) (by decide +kernel)) (goodIn_sub (fun _ h => List.mem_cons_of_mem _ (List.mem_append_right _ h)) (by decide +kernel))
set_option maxRecDepth 20000 in
theorem gX8_readsCommand_X8_readsRest : GoodIn wsX8_readsCommand (wsV RX8 248 RX8 yX8_readsRest wsX8_readsRest) := goodIn_app (goodIn_of _ (by decide +kernel)) ggX8_readsCommand_X8_readsRest
theorem dX8_readsCommand_0 : decode cX8_readsCommand 0 = .ok (.iconst 4, 1) := by decide +kernel
theorem dX8_readsCommand_1 : decode cX8_readsCommand 1 = .ok (.aload_n 0, 1) := by decide +kernel
theorem dX8_readsCommand_2 : decode cX8_readsCommand 2 = .ok (.getfield 242, 3) := by decide +kernel
theorem dX8_readsCommand_5 : decode cX8_readsCommand 5 = .ok (.imul, 1) := by decide +kernel
theorem dX8_readsCommand_6 : decode cX8_readsCommand 6 = .ok (.istore_n 1, 1) := by decide +kernel
theorem dX8_readsCommand_7 : decode cX8_readsCommand 7 = .ok (.aload_n 0, 1) := by decide +kernel
theorem dX8_readsCommand_8 : decode cX8_readsCommand 8 = .ok (.invokevirtual 245, 3) := by decide +kernel
theorem dX8_readsCommand_11 : decode cX8_readsCommand 11 = .ok (.istore_n 2, 1) := by decide +kernel
theorem dX8_readsCommand_12 : decode cX8_readsCommand 12 = .ok (.aload_n 0, 1) := by decide +kernel
theorem dX8_readsCommand_13 : decode cX8_readsCommand 13 = .ok (.getfield 41, 3) := by decide +kernel
theorem dX8_readsCommand_16 : decode cX8_readsCommand 16 = .ok (.iload_n 1, 1) := by decide +kernel
theorem dX8_readsCommand_17 : decode cX8_readsCommand 17 = .ok (.iload_n 2, 1) := by decide +kernel
theorem dX8_readsCommand_18 : decode cX8_readsCommand 18 = .ok (.iastore, 1) := by decide +kernel
theorem dX8_readsCommand_19 : decode cX8_readsCommand 19 = .ok (.aload_n 0, 1) := by decide +kernel
theorem dX8_readsCommand_20 : decode cX8_readsCommand 20 = .ok (.dup, 1) := by decide +kernel
theorem dX8_readsCommand_21 : decode cX8_readsCommand 21 = .ok (.getfield 242, 3) := by decide +kernel
theorem dX8_readsCommand_24 : decode cX8_readsCommand 24 = .ok (.iconst 1, 1) := by decide +kernel
theorem dX8_readsCommand_25 : decode cX8_readsCommand 25 = .ok (.iadd, 1) := by decide +kernel
theorem dX8_readsCommand_26 : decode cX8_readsCommand 26 = .ok (.putfield 242, 3) := by decide +kernel
theorem dX8_readsCommand_29 : decode cX8_readsCommand 29 = .ok (.aload_n 0, 1) := by decide +kernel
theorem dX8_readsCommand_30 : decode cX8_readsCommand 30 = .ok (.getfield 213, 3) := by decide +kernel
theorem dX8_readsCommand_33 : decode cX8_readsCommand 33 = .ok (.iconst (-1), 1) := by decide +kernel
theorem dX8_readsCommand_34 : decode cX8_readsCommand 34 = .ok (.if_icmp .ne 9, 3) := by decide +kernel
theorem dX8_readsCommand_37 : decode cX8_readsCommand 37 = .ok (.aload_n 0, 1) := by decide +kernel
theorem dX8_readsCommand_38 : decode cX8_readsCommand 38 = .ok (.iload_n 1, 1) := by decide +kernel
theorem dX8_readsCommand_39 : decode cX8_readsCommand 39 = .ok (.iload_n 2, 1) := by decide +kernel
theorem dX8_readsCommand_40 : decode cX8_readsCommand 40 = .ok (.invokevirtual 248, 3) := by decide +kernel
theorem dX8_readsCommand_43 : decode cX8_readsCommand 43 = .ok (.return_, 1) := by decide +kernel
set_option maxRecDepth 20000 in
theorem ggX8_readsAll_X8_readsCommand : GoodIn wsX8_readsAll wsX8_readsCommand := goodIn_ca (goodIn_r _ [10, 5, 11, 4, 12, 13, 14, 9, 15, 3, 2, 16, 17, 18, 19, 20, 21, 22, 23, 24, 25, 26, 27, 28, 29, 30, 31, 32, 33, 34, 35, 36, 37, 38, 39, 40, 41, 42, 43, 44, 45, 46, 47, 48, 49, 50, 51, 52, 53, 54, 55, 56, 57, 58, 59, 60, 61, 62, 63, 64, 65, 66, 67, 68, 69, 70, 71, 72, 73, 74, 75, 76, 77, 78, 79, 80, 81, 82, 83, 84, 85, 86, 87, 88, 89, 90, 91, 92, 93, 94, 95, 96, 97, 98, 99, 100, 101, 102, 103, 104, 105, 106, 107, 108, 109, 110, 111, 112, 113, 114, 115] (by decide +kernel) (by decide +kernel)) (goodIn_sub (fun _ h => List.mem_cons_of_mem _ (List.mem_append_right _ h)) (by decide +kernel))
set_option maxRecDepth 20000 in
theorem gX8_readsAll_X8_readsCommand : GoodIn wsX8_readsAll (wsV RX8 252 RX8 yX8_readsCommand wsX8_readsCommand) := goodIn_app (goodIn_of _ (by decide +kernel)) ggX8_readsAll_X8_readsCommand
set_option maxRecDepth 20000 in
theorem ggX8_readsAll_X8_reads : GoodIn wsX8_readsAll wsX8_reads := goodIn_ca (goodIn_r _ [80, 4, 3, 16, 81, 82, 83, 9, 84, 2, 85, 86, 87, 92, 93, 94, 95, 96, 97, 98, 99, 100, 101, 102, 103, 104, 105, 106, 107, 108, 109, 110, 111] (by decide +kernel) (by decide +kernel)) (goodIn_sub (fun _ h => List.mem_cons_of_mem _ (List.mem_append_right _ h)) (by decide +kernel))
set_option maxRecDepth 20000 in
theorem gX8_readsAll_X8_reads : GoodIn wsX8_readsAll (wsV RX8 219 RX8 yX8_reads wsX8_reads) := goodIn_app (goodIn_of _ (by decide +kernel)) ggX8_readsAll_X8_reads
theorem dX8_readsAll_0 : decode cX8_readsAll 0 = .ok (.aload_n 0, 1) := by decide +kernel
theorem dX8_readsAll_1 : decode cX8_readsAll 1 = .ok (.aload_n 0, 1) := by decide +kernel
theorem dX8_readsAll_2 : decode cX8_readsAll 2 = .ok (.getfield 204, 3) := by decide +kernel
theorem dX8_readsAll_5 : decode cX8_readsAll 5 = .ok (.putfield 210, 3) := by decide +kernel
theorem dX8_readsAll_8 : decode cX8_readsAll 8 = .ok (.aload_n 0, 1) := by decide +kernel
theorem dX8_readsAll_9 : decode cX8_readsAll 9 = .ok (.iconst 0, 1) := by decide +kernel
theorem dX8_readsAll_10 : decode cX8_readsAll 10 = .ok (.putfield 204, 3) := by decide +kernel
theorem dX8_readsAll_13 : decode cX8_readsAll 13 = .ok (.aload_n 0, 1) := by decide +kernel
theorem dX8_readsAll_14 : decode cX8_readsAll 14 = .ok (.iconst 0, 1) := by decide +kernel
theorem dX8_readsAll_15 : decode cX8_readsAll 15 = .ok (.putfield 207, 3) := by decide +kernel
theorem dX8_readsAll_18 : decode cX8_readsAll 18 = .ok (.aload_n 0, 1) := by decide +kernel
theorem dX8_readsAll_19 : decode cX8_readsAll 19 = .ok (.iconst (-1), 1) := by decide +kernel
theorem dX8_readsAll_20 : decode cX8_readsAll 20 = .ok (.putfield 213, 3) := by decide +kernel
theorem dX8_readsAll_23 : decode cX8_readsAll 23 = .ok (.aload_n 0, 1) := by decide +kernel
theorem dX8_readsAll_24 : decode cX8_readsAll 24 = .ok (.iconst 0, 1) := by decide +kernel
theorem dX8_readsAll_25 : decode cX8_readsAll 25 = .ok (.putfield 242, 3) := by decide +kernel
theorem dX8_readsAll_28 : decode cX8_readsAll 28 = .ok (.aload_n 0, 1) := by decide +kernel
theorem dX8_readsAll_29 : decode cX8_readsAll 29 = .ok (.invokevirtual 252, 3) := by decide +kernel
theorem dX8_readsAll_32 : decode cX8_readsAll 32 = .ok (.aload_n 0, 1) := by decide +kernel
theorem dX8_readsAll_33 : decode cX8_readsAll 33 = .ok (.getfield 213, 3) := by decide +kernel
theorem dX8_readsAll_36 : decode cX8_readsAll 36 = .ok (.iconst (-1), 1) := by decide +kernel
theorem dX8_readsAll_37 : decode cX8_readsAll 37 = .ok (.if_icmp .ne 38, 3) := by decide +kernel
theorem dX8_readsAll_40 : decode cX8_readsAll 40 = .ok (.aload_n 0, 1) := by decide +kernel
theorem dX8_readsAll_41 : decode cX8_readsAll 41 = .ok (.getfield 207, 3) := by decide +kernel
theorem dX8_readsAll_44 : decode cX8_readsAll 44 = .ok (.aload_n 0, 1) := by decide +kernel
theorem dX8_readsAll_45 : decode cX8_readsAll 45 = .ok (.getfield 210, 3) := by decide +kernel
theorem dX8_readsAll_48 : decode cX8_readsAll 48 = .ok (.if_icmp .ge 27, 3) := by decide +kernel
theorem dX8_readsAll_51 : decode cX8_readsAll 51 = .ok (.aload_n 0, 1) := by decide +kernel
theorem dX8_readsAll_52 : decode cX8_readsAll 52 = .ok (.bipush 59, 2) := by decide +kernel
theorem dX8_readsAll_54 : decode cX8_readsAll 54 = .ok (.bipush 59, 2) := by decide +kernel
theorem dX8_readsAll_56 : decode cX8_readsAll 56 = .ok (.invokevirtual 219, 3) := by decide +kernel
theorem dX8_readsAll_59 : decode cX8_readsAll 59 = .ok (.istore_n 1, 1) := by decide +kernel
theorem dX8_readsAll_60 : decode cX8_readsAll 60 = .ok (.aload_n 0, 1) := by decide +kernel
theorem dX8_readsAll_61 : decode cX8_readsAll 61 = .ok (.getfield 213, 3) := by decide +kernel
theorem dX8_readsAll_64 : decode cX8_readsAll 64 = .ok (.iconst (-1), 1) := by decide +kernel
theorem dX8_readsAll_65 : decode cX8_readsAll 65 = .ok (.if_icmp .ne 7, 3) := by decide +kernel
theorem dX8_readsAll_68 : decode cX8_readsAll 68 = .ok (.aload_n 0, 1) := by decide +kernel
theorem dX8_readsAll_69 : decode cX8_readsAll 69 = .ok (.invokevirtual 252, 3) := by decide +kernel
theorem dX8_readsAll_72 : decode cX8_readsAll 72 = .ok (.goto (-40), 3) := by decide +kernel
theorem dX8_readsAll_75 : decode cX8_readsAll 75 = .ok (.return_, 1) := by decide +kernel
set_option maxRecDepth 20000 in
theorem ggX8_does_X8_joins : GoodIn wsX8_does wsX8_joins := goodIn_ca (goodIn_r _ [6, 7, 8, 9, 5, 10, 11, 12, 13, 14, 15, 16, 17, 18, 116, 117, 118, 119, 120, 121, 122, 123, 124, 125, 126, 127, 128, 129, 130, 131, 132, 133, 134, 135] (by decide +kernel) (by decide +kernel)) (goodIn_sub (fun _ h => List.mem_cons_of_mem _ (List.mem_append_right _ h)) (by decide +kernel))
set_option maxRecDepth 20000 in
theorem gX8_does_X8_joins : GoodIn wsX8_does (wsV RX8 108 RX8 yX8_joins wsX8_joins) := goodIn_app (goodIn_of _ (by decide +kernel)) ggX8_does_X8_joins
set_option maxRecDepth 20000 in
theorem ggX8_does_X8_adds : GoodIn wsX8_does wsX8_adds := goodIn_ca (goodIn_r _ [22, 7, 23, 24, 25, 26, 27, 28, 29, 30, 31, 5, 32, 8, 9, 10, 33, 34, 35, 36, 37, 38, 39, 40, 41, 42, 43, 44, 45, 46, 47, 11, 12, 13, 14, 15, 116, 117, 118, 119, 120, 121, 122, 123, 124, 125, 126, 127, 128, 129, 130, 131, 132, 133, 134, 135] (by decide +kernel) (by decide +kernel)) (goodIn_sub (fun _ h => List.mem_cons_of_mem _ (List.mem_append_right _ h)) (by decide +kernel))
set_option maxRecDepth 20000 in
theorem gX8_does_X8_adds : GoodIn wsX8_does (wsV RX8 124 RX8 yX8_adds wsX8_adds) := goodIn_app (goodIn_of _ (by decide +kernel)) ggX8_does_X8_adds
set_option maxRecDepth 20000 in
theorem ggX8_does_X8_dresses : GoodIn wsX8_does wsX8_dresses := goodIn_ca (goodIn_r _ [51, 7, 30, 31, 5, 32, 8, 9, 10, 11, 12, 13, 14, 15, 116, 117, 118, 119, 120, 121, 122, 123, 124, 125, 126, 127, 128, 129, 130, 131, 132, 133, 134, 135] (by decide +kernel) (by decide +kernel)) (goodIn_sub (fun _ h => List.mem_cons_of_mem _ (List.mem_append_right _ h)) (by decide +kernel))
set_option maxRecDepth 20000 in
theorem gX8_does_X8_dresses : GoodIn wsX8_does (wsV RX8 128 RX8 yX8_dresses wsX8_dresses) := goodIn_app (goodIn_of _ (by decide +kernel)) ggX8_does_X8_dresses
set_option maxRecDepth 20000 in
theorem ggX8_does_X8_floods : GoodIn wsX8_does wsX8_floods := goodIn_ca (goodIn_r _ [55, 7, 8, 9, 5, 10, 56, 57, 58, 59, 11, 12, 13, 14, 15, 116, 117, 118, 119, 120, 121, 122, 123, 124, 125, 126, 127, 128, 129, 130, 131, 132, 133, 134, 135] (by decide +kernel) (by decide +kernel)) (goodIn_sub (fun _ h => List.mem_cons_of_mem _ (List.mem_append_right _ h)) (by decide +kernel))
set_option maxRecDepth 20000 in
theorem gX8_does_X8_floods : GoodIn wsX8_does (wsV RX8 131 RX8 yX8_floods wsX8_floods) := goodIn_app (goodIn_of _ (by decide +kernel)) ggX8_does_X8_floods
set_option maxRecDepth 20000 in
theorem ggX8_does_X8_bids : GoodIn wsX8_does wsX8_bids := goodIn_ca (goodIn_r _ [63, 7, 64, 65, 66, 5, 67, 8, 9, 10, 41, 42, 43, 44, 68, 69, 70, 71, 37, 38, 39, 40, 45, 46, 47, 11, 12, 13, 14, 15, 72, 73, 74, 75, 27, 28, 25, 29, 76, 77, 78, 79, 16, 17, 18, 80, 81, 82, 83, 84, 85, 86, 87, 116, 117, 118, 119, 120, 121, 122, 123, 124, 125, 126, 127, 128, 129, 130, 131, 132, 133, 134, 135] (by decide +kernel) (by decide +kernel)) (goodIn_sub (fun _ h => List.mem_cons_of_mem _ (List.mem_append_right _ h)) (by decide +kernel))
set_option maxRecDepth 20000 in
theorem gX8_does_X8_bids : GoodIn wsX8_does (wsV RX8 146 RX8 yX8_bids wsX8_bids) := goodIn_app (goodIn_of _ (by decide +kernel)) ggX8_does_X8_bids
set_option maxRecDepth 20000 in
theorem ggX8_does_X8_ferries : GoodIn wsX8_does wsX8_ferries := goodIn_ca (goodIn_r _ [91, 7, 92, 93, 94, 5, 95, 64, 65, 66, 67, 8, 9, 10, 41, 42, 43, 44, 37, 38, 39, 40, 45, 46, 47, 16, 17, 18, 11, 12, 13, 14, 15, 116, 117, 118, 119, 120, 121, 122, 123, 124, 125, 126, 127, 128, 129, 130, 131, 132, 133, 134, 135] (by decide +kernel) (by decide +kernel)) (goodIn_sub (fun _ h => List.mem_cons_of_mem _ (List.mem_append_right _ h)) (by decide +kernel))
set_option maxRecDepth 20000 in
theorem gX8_does_X8_ferries : GoodIn wsX8_does (wsV RX8 156 RX8 yX8_ferries wsX8_ferries) := goodIn_app (goodIn_of _ (by decide +kernel)) ggX8_does_X8_ferries
set_option maxRecDepth 20000 in
theorem ggX8_does_X8_drops : GoodIn wsX8_does wsX8_drops := goodIn_ca (goodIn_r _ [99, 7, 92, 93, 94, 5, 95, 64, 65, 66, 67, 8, 9, 10, 41, 42, 43, 44, 37, 38, 39, 40, 45, 46, 47, 11, 12, 13, 14, 15, 116, 117, 118, 119, 120, 121, 122, 123, 124, 125, 126, 127, 128, 129, 130, 131, 132, 133, 134, 135] (by decide +kernel) (by decide +kernel)) (goodIn_sub (fun _ h => List.mem_cons_of_mem _ (List.mem_append_right _ h)) (by decide +kernel))
set_option maxRecDepth 20000 in
theorem gX8_does_X8_drops : GoodIn wsX8_does (wsV RX8 153 RX8 yX8_drops wsX8_drops) := goodIn_app (goodIn_of _ (by decide +kernel)) ggX8_does_X8_drops
set_option maxRecDepth 20000 in
theorem ggX8_does_X8_settles : GoodIn wsX8_does wsX8_settles := goodIn_ca (goodIn_r _ [103, 7, 23, 24, 25, 26, 41, 42, 43, 5, 44, 8, 9, 10, 68, 69, 70, 71, 37, 38, 39, 40, 45, 46, 47, 84, 85, 86, 87, 11, 12, 13, 14, 15, 104, 105, 106, 107, 108, 109, 110, 111, 112, 113, 114, 115, 76, 77, 78, 79, 16, 17, 18, 80, 81, 82, 83, 116, 117, 118, 119, 120, 121, 122, 123, 124, 125, 126, 127, 128, 129, 130, 131, 132, 133, 134, 135] (by decide +kernel) (by decide +kernel)) (goodIn_sub (fun _ h => List.mem_cons_of_mem _ (List.mem_append_right _ h)) (by decide +kernel))
set_option maxRecDepth 20000 in
theorem gX8_does_X8_settles : GoodIn wsX8_does (wsV RX8 162 RX8 yX8_settles wsX8_settles) := goodIn_app (goodIn_of _ (by decide +kernel)) ggX8_does_X8_settles
theorem dX8_does_0 : decode cX8_does 0 = .ok (.aload_n 0, 1) := by decide +kernel
theorem dX8_does_1 : decode cX8_does 1 = .ok (.getfield 41, 3) := by decide +kernel
theorem dX8_does_4 : decode cX8_does 4 = .ok (.iload_n 1, 1) := by decide +kernel
theorem dX8_does_5 : decode cX8_does 5 = .ok (.iconst 1, 1) := by decide +kernel
theorem dX8_does_6 : decode cX8_does 6 = .ok (.iadd, 1) := by decide +kernel
theorem dX8_does_7 : decode cX8_does 7 = .ok (.iaload, 1) := by decide +kernel
theorem dX8_does_8 : decode cX8_does 8 = .ok (.istore_n 2, 1) := by decide +kernel
theorem dX8_does_9 : decode cX8_does 9 = .ok (.aload_n 0, 1) := by decide +kernel
theorem dX8_does_10 : decode cX8_does 10 = .ok (.getfield 41, 3) := by decide +kernel
theorem dX8_does_13 : decode cX8_does 13 = .ok (.iload_n 1, 1) := by decide +kernel
theorem dX8_does_14 : decode cX8_does 14 = .ok (.iconst 2, 1) := by decide +kernel
theorem dX8_does_15 : decode cX8_does 15 = .ok (.iadd, 1) := by decide +kernel
theorem dX8_does_16 : decode cX8_does 16 = .ok (.iaload, 1) := by decide +kernel
theorem dX8_does_17 : decode cX8_does 17 = .ok (.istore_n 3, 1) := by decide +kernel
theorem dX8_does_18 : decode cX8_does 18 = .ok (.aload_n 0, 1) := by decide +kernel
theorem dX8_does_19 : decode cX8_does 19 = .ok (.getfield 41, 3) := by decide +kernel
theorem dX8_does_22 : decode cX8_does 22 = .ok (.iload_n 1, 1) := by decide +kernel
theorem dX8_does_23 : decode cX8_does 23 = .ok (.iconst 3, 1) := by decide +kernel
theorem dX8_does_24 : decode cX8_does 24 = .ok (.iadd, 1) := by decide +kernel
theorem dX8_does_25 : decode cX8_does 25 = .ok (.iaload, 1) := by decide +kernel
theorem dX8_does_26 : decode cX8_does 26 = .ok (.istore 4, 2) := by decide +kernel
theorem dX8_does_28 : decode cX8_does 28 = .ok (.aload_n 0, 1) := by decide +kernel
theorem dX8_does_29 : decode cX8_does 29 = .ok (.getfield 41, 3) := by decide +kernel
theorem dX8_does_32 : decode cX8_does 32 = .ok (.iload_n 1, 1) := by decide +kernel
theorem dX8_does_33 : decode cX8_does 33 = .ok (.iaload, 1) := by decide +kernel
theorem dX8_does_34 : decode cX8_does 34 = .ok (.tableswitch 108 0 7 #[46, 52, 61, 68, 74, 84, 94, 101], 46) := by decide +kernel
theorem dX8_does_80 : decode cX8_does 80 = .ok (.aload_n 0, 1) := by decide +kernel
theorem dX8_does_81 : decode cX8_does 81 = .ok (.iload_n 2, 1) := by decide +kernel
theorem dX8_does_82 : decode cX8_does 82 = .ok (.invokevirtual 108, 3) := by decide +kernel
theorem dX8_does_85 : decode cX8_does 85 = .ok (.ireturn, 1) := by decide +kernel
theorem dX8_does_86 : decode cX8_does 86 = .ok (.aload_n 0, 1) := by decide +kernel
theorem dX8_does_87 : decode cX8_does 87 = .ok (.iload_n 2, 1) := by decide +kernel
theorem dX8_does_88 : decode cX8_does 88 = .ok (.iload_n 3, 1) := by decide +kernel
theorem dX8_does_89 : decode cX8_does 89 = .ok (.iload 4, 2) := by decide +kernel
theorem dX8_does_91 : decode cX8_does 91 = .ok (.invokevirtual 124, 3) := by decide +kernel
theorem dX8_does_94 : decode cX8_does 94 = .ok (.ireturn, 1) := by decide +kernel
theorem dX8_does_95 : decode cX8_does 95 = .ok (.aload_n 0, 1) := by decide +kernel
theorem dX8_does_96 : decode cX8_does 96 = .ok (.iload_n 2, 1) := by decide +kernel
theorem dX8_does_97 : decode cX8_does 97 = .ok (.iload_n 3, 1) := by decide +kernel
theorem dX8_does_98 : decode cX8_does 98 = .ok (.invokevirtual 128, 3) := by decide +kernel
theorem dX8_does_101 : decode cX8_does 101 = .ok (.ireturn, 1) := by decide +kernel
theorem dX8_does_102 : decode cX8_does 102 = .ok (.aload_n 0, 1) := by decide +kernel
theorem dX8_does_103 : decode cX8_does 103 = .ok (.iload_n 2, 1) := by decide +kernel
theorem dX8_does_104 : decode cX8_does 104 = .ok (.invokevirtual 131, 3) := by decide +kernel
theorem dX8_does_107 : decode cX8_does 107 = .ok (.ireturn, 1) := by decide +kernel
theorem dX8_does_108 : decode cX8_does 108 = .ok (.aload_n 0, 1) := by decide +kernel
theorem dX8_does_109 : decode cX8_does 109 = .ok (.iload_n 2, 1) := by decide +kernel
theorem dX8_does_110 : decode cX8_does 110 = .ok (.iload_n 3, 1) := by decide +kernel
theorem dX8_does_111 : decode cX8_does 111 = .ok (.iload 4, 2) := by decide +kernel
theorem dX8_does_113 : decode cX8_does 113 = .ok (.iconst 0, 1) := by decide +kernel
theorem dX8_does_114 : decode cX8_does 114 = .ok (.invokevirtual 146, 3) := by decide +kernel
theorem dX8_does_117 : decode cX8_does 117 = .ok (.ireturn, 1) := by decide +kernel
theorem dX8_does_118 : decode cX8_does 118 = .ok (.aload_n 0, 1) := by decide +kernel
theorem dX8_does_119 : decode cX8_does 119 = .ok (.iload_n 2, 1) := by decide +kernel
theorem dX8_does_120 : decode cX8_does 120 = .ok (.iload_n 3, 1) := by decide +kernel
theorem dX8_does_121 : decode cX8_does 121 = .ok (.iload 4, 2) := by decide +kernel
theorem dX8_does_123 : decode cX8_does 123 = .ok (.iconst 1, 1) := by decide +kernel
theorem dX8_does_124 : decode cX8_does 124 = .ok (.invokevirtual 146, 3) := by decide +kernel
theorem dX8_does_127 : decode cX8_does 127 = .ok (.ireturn, 1) := by decide +kernel
theorem dX8_does_128 : decode cX8_does 128 = .ok (.aload_n 0, 1) := by decide +kernel
theorem dX8_does_129 : decode cX8_does 129 = .ok (.iload_n 2, 1) := by decide +kernel
theorem dX8_does_130 : decode cX8_does 130 = .ok (.iload_n 3, 1) := by decide +kernel
theorem dX8_does_131 : decode cX8_does 131 = .ok (.invokevirtual 156, 3) := by decide +kernel
theorem dX8_does_134 : decode cX8_does 134 = .ok (.ireturn, 1) := by decide +kernel
theorem dX8_does_135 : decode cX8_does 135 = .ok (.aload_n 0, 1) := by decide +kernel
theorem dX8_does_136 : decode cX8_does 136 = .ok (.iload_n 2, 1) := by decide +kernel
theorem dX8_does_137 : decode cX8_does 137 = .ok (.iload_n 3, 1) := by decide +kernel
theorem dX8_does_138 : decode cX8_does 138 = .ok (.invokevirtual 153, 3) := by decide +kernel
theorem dX8_does_141 : decode cX8_does 141 = .ok (.ireturn, 1) := by decide +kernel
theorem dX8_does_142 : decode cX8_does 142 = .ok (.aload_n 0, 1) := by decide +kernel
theorem dX8_does_143 : decode cX8_does 143 = .ok (.iload_n 2, 1) := by decide +kernel
theorem dX8_does_144 : decode cX8_does 144 = .ok (.invokevirtual 162, 3) := by decide +kernel
theorem dX8_does_147 : decode cX8_does 147 = .ok (.ireturn, 1) := by decide +kernel
set_option maxRecDepth 20000 in
theorem ggX8_runScript_X8_readsAll : GoodIn wsX8_runScript wsX8_readsAll := goodIn_ca (goodIn_r _ [12, 13, 14, 15, 1, 4, 16, 17, 18, 11, 19, 20, 21, 22, 23, 24, 25, 26, 27, 28, 29, 30, 31, 32, 33, 34, 35, 36, 37, 38, 39, 40, 41, 42, 43, 44, 45, 46, 47, 48, 49, 50, 51, 52, 53, 54, 55, 56, 57, 58, 59, 60, 61, 62, 63, 64, 65, 66, 67, 68, 69, 70, 71, 72, 73, 74, 75, 76, 77, 78, 79, 80, 81, 82, 83, 84, 85, 86, 87, 88, 89, 90, 91, 92, 93, 94, 95, 96, 97, 98, 99, 100, 226, 227, 228, 229, 230, 231, 232, 233, 234, 235, 236, 237, 238, 239, 240, 241, 242, 243, 244, 245, 246, 247, 248, 249] (by decide +kernel) (by decide +kernel)) (goodIn_sub (fun _ h => List.mem_cons_of_mem _ (List.mem_append_right _ h)) (by decide +kernel))
set_option maxRecDepth 20000 in
theorem gX8_runScript_X8_readsAll : GoodIn wsX8_runScript (wsV RX8 255 RX8 yX8_readsAll wsX8_readsAll) := goodIn_app (goodIn_of _ (by decide +kernel)) ggX8_runScript_X8_readsAll
set_option maxRecDepth 20000 in
theorem ggX8_runScript_X8_begins : GoodIn wsX8_runScript wsX8_begins := goodIn_ca (goodIn_r _ [104, 7, 6, 105, 106, 11, 107, 226, 227, 228, 229, 230, 231, 232, 233, 234, 235, 236, 237, 238, 239, 240, 241, 242, 243, 244, 245] (by decide +kernel) (by decide +kernel)) (goodIn_sub (fun _ h => List.mem_cons_of_mem _ (List.mem_append_right _ h)) (by decide +kernel))
set_option maxRecDepth 20000 in
theorem gX8_runScript_X8_begins : GoodIn wsX8_runScript (wsV RX8 105 RX8 yX8_begins wsX8_begins) := goodIn_app (goodIn_of _ (by decide +kernel)) ggX8_runScript_X8_begins
set_option maxRecDepth 20000 in
theorem ggX8_runScript_X8_does : GoodIn wsX8_runScript wsX8_does := goodIn_ca (goodIn_r _ [111, 20, 112, 113, 114, 11, 115, 7, 94, 95, 96, 116, 117, 118, 119, 3, 120, 121, 122, 123, 124, 125, 126, 127, 128, 28, 129, 26, 27, 29, 130, 131, 132, 133, 134, 135, 136, 137, 138, 139, 140, 141, 142, 143, 144, 145, 146, 147, 148, 149, 150, 151, 152, 153, 154, 155, 156, 157, 158, 159, 160, 161, 162, 163, 164, 165, 166, 167, 168, 169, 170, 171, 172, 173, 174, 175, 176, 177, 178, 179, 180, 181, 182, 183, 184, 185, 186, 187, 188, 189, 190, 191, 192, 193, 194, 195, 196, 197, 198, 199, 200, 201, 202, 203, 204, 205, 206, 207, 208, 209, 210, 211, 212, 213, 214, 215, 226, 227, 228, 229, 230, 231, 232, 233, 234, 235, 236, 237, 238, 239, 240, 241, 242, 243, 244, 245] (by decide +kernel) (by decide +kernel)) (goodIn_sub (fun _ h => List.mem_cons_of_mem _ (List.mem_append_right _ h)) (by decide +kernel))
set_option maxRecDepth 20000 in
theorem gX8_runScript_X8_does : GoodIn wsX8_runScript (wsV RX8 258 RX8 yX8_does wsX8_does) := goodIn_app (goodIn_of _ (by decide +kernel)) ggX8_runScript_X8_does
set_option maxRecDepth 20000 in
theorem ggX8_runScript_X8_copies : GoodIn wsX8_runScript wsX8_copies := goodIn_ca (goodIn_r _ [107] (by decide +kernel) (by decide +kernel)) (goodIn_sub (fun _ h => List.mem_cons_of_mem _ (List.mem_append_right _ h)) (by decide +kernel))
set_option maxRecDepth 20000 in
theorem gX8_runScript_X8_copies : GoodIn wsX8_runScript (va_wsS RX8 51 yX8_copies wsX8_copies) := goodIn_app (goodIn_of _ (by decide +kernel)) ggX8_runScript_X8_copies
set_option maxRecDepth 20000 in
theorem ggX8_runScript_X8_ends : GoodIn wsX8_runScript wsX8_ends := goodIn_ca (goodIn_r _ [219, 3, 6, 7, 105, 106, 11, 107, 220, 221, 222, 223, 224, 225, 226, 227, 228, 229, 230, 231, 232, 233, 234, 235, 236, 237, 238, 239, 240, 241, 242, 243, 244, 245] (by decide +kernel) (by decide +kernel)) (goodIn_sub (fun _ h => List.mem_cons_of_mem _ (List.mem_append_right _ h)) (by decide +kernel))
set_option maxRecDepth 20000 in
theorem gX8_runScript_X8_ends : GoodIn wsX8_runScript (wsV RX8 111 RX8 yX8_ends wsX8_ends) := goodIn_app (goodIn_of _ (by decide +kernel)) ggX8_runScript_X8_ends
theorem dX8_runScript_0 : decode cX8_runScript 0 = .ok (.aload_n 0, 1) := by decide +kernel
theorem dX8_runScript_1 : decode cX8_runScript 1 = .ok (.invokevirtual 255, 3) := by decide +kernel
theorem dX8_runScript_4 : decode cX8_runScript 4 = .ok (.aload_n 0, 1) := by decide +kernel
theorem dX8_runScript_5 : decode cX8_runScript 5 = .ok (.getfield 213, 3) := by decide +kernel
theorem dX8_runScript_8 : decode cX8_runScript 8 = .ok (.iconst (-1), 1) := by decide +kernel
theorem dX8_runScript_9 : decode cX8_runScript 9 = .ok (.if_icmp .eq 18, 3) := by decide +kernel
theorem dX8_runScript_12 : decode cX8_runScript 12 = .ok (.aload_n 0, 1) := by decide +kernel
theorem dX8_runScript_13 : decode cX8_runScript 13 = .ok (.aload_n 0, 1) := by decide +kernel
theorem dX8_runScript_14 : decode cX8_runScript 14 = .ok (.getfield 213, 3) := by decide +kernel
theorem dX8_runScript_17 : decode cX8_runScript 17 = .ok (.putfield 22, 3) := by decide +kernel
theorem dX8_runScript_20 : decode cX8_runScript 20 = .ok (.aload_n 0, 1) := by decide +kernel
theorem dX8_runScript_21 : decode cX8_runScript 21 = .ok (.iconst 1, 1) := by decide +kernel
theorem dX8_runScript_22 : decode cX8_runScript 22 = .ok (.putfield 44, 3) := by decide +kernel
theorem dX8_runScript_25 : decode cX8_runScript 25 = .ok (.iconst 0, 1) := by decide +kernel
theorem dX8_runScript_26 : decode cX8_runScript 26 = .ok (.ireturn, 1) := by decide +kernel
theorem dX8_runScript_27 : decode cX8_runScript 27 = .ok (.aload_n 0, 1) := by decide +kernel
theorem dX8_runScript_28 : decode cX8_runScript 28 = .ok (.invokevirtual 105, 3) := by decide +kernel
theorem dX8_runScript_31 : decode cX8_runScript 31 = .ok (.aload_n 0, 1) := by decide +kernel
theorem dX8_runScript_32 : decode cX8_runScript 32 = .ok (.iconst 0, 1) := by decide +kernel
theorem dX8_runScript_33 : decode cX8_runScript 33 = .ok (.putfield 44, 3) := by decide +kernel
theorem dX8_runScript_36 : decode cX8_runScript 36 = .ok (.iconst 0, 1) := by decide +kernel
theorem dX8_runScript_37 : decode cX8_runScript 37 = .ok (.istore_n 1, 1) := by decide +kernel
theorem dX8_runScript_38 : decode cX8_runScript 38 = .ok (.iload_n 1, 1) := by decide +kernel
theorem dX8_runScript_39 : decode cX8_runScript 39 = .ok (.aload_n 0, 1) := by decide +kernel
theorem dX8_runScript_40 : decode cX8_runScript 40 = .ok (.getfield 242, 3) := by decide +kernel
theorem dX8_runScript_43 : decode cX8_runScript 43 = .ok (.if_icmp .ge 49, 3) := by decide +kernel
theorem dX8_runScript_46 : decode cX8_runScript 46 = .ok (.aload_n 0, 1) := by decide +kernel
theorem dX8_runScript_47 : decode cX8_runScript 47 = .ok (.iconst 4, 1) := by decide +kernel
theorem dX8_runScript_48 : decode cX8_runScript 48 = .ok (.iload_n 1, 1) := by decide +kernel
theorem dX8_runScript_49 : decode cX8_runScript 49 = .ok (.imul, 1) := by decide +kernel
theorem dX8_runScript_50 : decode cX8_runScript 50 = .ok (.invokevirtual 258, 3) := by decide +kernel
theorem dX8_runScript_53 : decode cX8_runScript 53 = .ok (.istore_n 2, 1) := by decide +kernel
theorem dX8_runScript_54 : decode cX8_runScript 54 = .ok (.aload_n 0, 1) := by decide +kernel
theorem dX8_runScript_55 : decode cX8_runScript 55 = .ok (.getfield 44, 3) := by decide +kernel
theorem dX8_runScript_58 : decode cX8_runScript 58 = .ok (.ifCond .eq 28, 3) := by decide +kernel
theorem dX8_runScript_61 : decode cX8_runScript 61 = .ok (.aload_n 0, 1) := by decide +kernel
theorem dX8_runScript_62 : decode cX8_runScript 62 = .ok (.iload_n 1, 1) := by decide +kernel
theorem dX8_runScript_63 : decode cX8_runScript 63 = .ok (.putfield 26, 3) := by decide +kernel
theorem dX8_runScript_66 : decode cX8_runScript 66 = .ok (.aload_n 0, 1) := by decide +kernel
theorem dX8_runScript_67 : decode cX8_runScript 67 = .ok (.iconst 2, 1) := by decide +kernel
theorem dX8_runScript_68 : decode cX8_runScript 68 = .ok (.putfield 44, 3) := by decide +kernel
theorem dX8_runScript_71 : decode cX8_runScript 71 = .ok (.aload_n 0, 1) := by decide +kernel
theorem dX8_runScript_72 : decode cX8_runScript 72 = .ok (.getfield 13, 3) := by decide +kernel
theorem dX8_runScript_75 : decode cX8_runScript 75 = .ok (.iconst 0, 1) := by decide +kernel
theorem dX8_runScript_76 : decode cX8_runScript 76 = .ok (.aload_n 0, 1) := by decide +kernel
theorem dX8_runScript_77 : decode cX8_runScript 77 = .ok (.getfield 9, 3) := by decide +kernel
theorem dX8_runScript_80 : decode cX8_runScript 80 = .ok (.iconst 0, 1) := by decide +kernel
theorem dX8_runScript_81 : decode cX8_runScript 81 = .ok (.invokestatic 51, 3) := by decide +kernel
theorem dX8_runScript_84 : decode cX8_runScript 84 = .ok (.iconst 0, 1) := by decide +kernel
theorem dX8_runScript_85 : decode cX8_runScript 85 = .ok (.ireturn, 1) := by decide +kernel
theorem dX8_runScript_86 : decode cX8_runScript 86 = .ok (.iinc 1 1, 3) := by decide +kernel
theorem dX8_runScript_89 : decode cX8_runScript 89 = .ok (.goto (-51), 3) := by decide +kernel
theorem dX8_runScript_92 : decode cX8_runScript 92 = .ok (.aload_n 0, 1) := by decide +kernel
theorem dX8_runScript_93 : decode cX8_runScript 93 = .ok (.aload_n 0, 1) := by decide +kernel
theorem dX8_runScript_94 : decode cX8_runScript 94 = .ok (.getfield 242, 3) := by decide +kernel
theorem dX8_runScript_97 : decode cX8_runScript 97 = .ok (.invokevirtual 111, 3) := by decide +kernel
theorem dX8_runScript_100 : decode cX8_runScript 100 = .ok (.ireturn, 1) := by decide +kernel
set_option maxRecDepth 20000 in
theorem ggX8_errorPosition_X8_goes : GoodIn wsX8_errorPosition wsX8_goes := goodIn_r _ [6, 7, 8, 9, 5, 10, 11, 12, 13, 14, 15, 16, 17, 18, 19, 20, 21, 22, 23, 24, 25, 26, 27, 28, 29, 30, 31] (by decide +kernel) (by decide +kernel)
set_option maxRecDepth 20000 in
theorem gX8_errorPosition_X8_goes : GoodIn wsX8_errorPosition (wsV RX8 61 RX8 yX8_goes wsX8_goes) := goodIn_app (goodIn_of _ (by decide +kernel)) ggX8_errorPosition_X8_goes
theorem dX8_errorPosition_0 : decode cX8_errorPosition 0 = .ok (.aload_n 0, 1) := by decide +kernel
theorem dX8_errorPosition_1 : decode cX8_errorPosition 1 = .ok (.aload_n 0, 1) := by decide +kernel
theorem dX8_errorPosition_2 : decode cX8_errorPosition 2 = .ok (.getfield 22, 3) := by decide +kernel
theorem dX8_errorPosition_5 : decode cX8_errorPosition 5 = .ok (.iconst (-1), 1) := by decide +kernel
theorem dX8_errorPosition_6 : decode cX8_errorPosition 6 = .ok (.if_icmp .eq 7, 3) := by decide +kernel
theorem dX8_errorPosition_9 : decode cX8_errorPosition 9 = .ok (.iconst 1, 1) := by decide +kernel
theorem dX8_errorPosition_10 : decode cX8_errorPosition 10 = .ok (.goto 4, 3) := by decide +kernel
theorem dX8_errorPosition_13 : decode cX8_errorPosition 13 = .ok (.iconst 0, 1) := by decide +kernel
theorem dX8_errorPosition_14 : decode cX8_errorPosition 14 = .ok (.invokevirtual 61, 3) := by decide +kernel
theorem dX8_errorPosition_17 : decode cX8_errorPosition 17 = .ok (.ifCond .eq 10, 3) := by decide +kernel
theorem dX8_errorPosition_20 : decode cX8_errorPosition 20 = .ok (.aload_n 0, 1) := by decide +kernel
theorem dX8_errorPosition_21 : decode cX8_errorPosition 21 = .ok (.getfield 22, 3) := by decide +kernel
theorem dX8_errorPosition_24 : decode cX8_errorPosition 24 = .ok (.goto 4, 3) := by decide +kernel
theorem dX8_errorPosition_27 : decode cX8_errorPosition 27 = .ok (.iconst 0, 1) := by decide +kernel
theorem dX8_errorPosition_28 : decode cX8_errorPosition 28 = .ok (.ireturn, 1) := by decide +kernel
set_option maxRecDepth 20000 in
theorem ggX8_failedCommand_X8_goes : GoodIn wsX8_failedCommand wsX8_goes := goodIn_r _ [6, 7, 8, 9, 5, 10, 11, 12, 13, 14, 15, 16, 17, 18, 19, 20, 21, 22, 23, 24, 25, 26, 27, 28, 29, 30, 31] (by decide +kernel) (by decide +kernel)
set_option maxRecDepth 20000 in
theorem gX8_failedCommand_X8_goes : GoodIn wsX8_failedCommand (wsV RX8 61 RX8 yX8_goes wsX8_goes) := goodIn_app (goodIn_of _ (by decide +kernel)) ggX8_failedCommand_X8_goes
theorem dX8_failedCommand_0 : decode cX8_failedCommand 0 = .ok (.aload_n 0, 1) := by decide +kernel
theorem dX8_failedCommand_1 : decode cX8_failedCommand 1 = .ok (.aload_n 0, 1) := by decide +kernel
theorem dX8_failedCommand_2 : decode cX8_failedCommand 2 = .ok (.getfield 26, 3) := by decide +kernel
theorem dX8_failedCommand_5 : decode cX8_failedCommand 5 = .ok (.iconst (-1), 1) := by decide +kernel
theorem dX8_failedCommand_6 : decode cX8_failedCommand 6 = .ok (.if_icmp .eq 7, 3) := by decide +kernel
theorem dX8_failedCommand_9 : decode cX8_failedCommand 9 = .ok (.iconst 1, 1) := by decide +kernel
theorem dX8_failedCommand_10 : decode cX8_failedCommand 10 = .ok (.goto 4, 3) := by decide +kernel
theorem dX8_failedCommand_13 : decode cX8_failedCommand 13 = .ok (.iconst 0, 1) := by decide +kernel
theorem dX8_failedCommand_14 : decode cX8_failedCommand 14 = .ok (.invokevirtual 61, 3) := by decide +kernel
theorem dX8_failedCommand_17 : decode cX8_failedCommand 17 = .ok (.ifCond .eq 10, 3) := by decide +kernel
theorem dX8_failedCommand_20 : decode cX8_failedCommand 20 = .ok (.aload_n 0, 1) := by decide +kernel
theorem dX8_failedCommand_21 : decode cX8_failedCommand 21 = .ok (.getfield 26, 3) := by decide +kernel
theorem dX8_failedCommand_24 : decode cX8_failedCommand 24 = .ok (.goto 4, 3) := by decide +kernel
theorem dX8_failedCommand_27 : decode cX8_failedCommand 27 = .ok (.iconst 0, 1) := by decide +kernel
theorem dX8_failedCommand_28 : decode cX8_failedCommand 28 = .ok (.ireturn, 1) := by decide +kernel
