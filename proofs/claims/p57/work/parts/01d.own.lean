theorem dX1_init_0 : decode cX1_init 0 = .ok (.aload_n 0, 1) := by decide +kernel
theorem dX1_init_1 : decode cX1_init 1 = .ok (.invokespecial 3, 3) := by decide +kernel
theorem dX1_init_4 : decode cX1_init 4 = .ok (.aload_n 0, 1) := by decide +kernel
theorem dX1_init_5 : decode cX1_init 5 = .ok (.bipush 8, 2) := by decide +kernel
theorem dX1_init_7 : decode cX1_init 7 = .ok (.newarray .int, 2) := by decide +kernel
theorem dX1_init_9 : decode cX1_init 9 = .ok (.putfield 9, 3) := by decide +kernel
theorem dX1_init_12 : decode cX1_init 12 = .ok (.aload_n 0, 1) := by decide +kernel
theorem dX1_init_13 : decode cX1_init 13 = .ok (.iconst 0, 1) := by decide +kernel
theorem dX1_init_14 : decode cX1_init 14 = .ok (.putfield 15, 3) := by decide +kernel
theorem dX1_init_17 : decode cX1_init 17 = .ok (.aload_n 0, 1) := by decide +kernel
theorem dX1_init_18 : decode cX1_init 18 = .ok (.iconst 0, 1) := by decide +kernel
theorem dX1_init_19 : decode cX1_init 19 = .ok (.putfield 19, 3) := by decide +kernel
theorem dX1_init_22 : decode cX1_init 22 = .ok (.aload_n 0, 1) := by decide +kernel
theorem dX1_init_23 : decode cX1_init 23 = .ok (.iconst 4, 1) := by decide +kernel
theorem dX1_init_24 : decode cX1_init 24 = .ok (.newarray .int, 2) := by decide +kernel
theorem dX1_init_26 : decode cX1_init 26 = .ok (.putfield 22, 3) := by decide +kernel
theorem dX1_init_29 : decode cX1_init 29 = .ok (.aload_n 0, 1) := by decide +kernel
theorem dX1_init_30 : decode cX1_init 30 = .ok (.iconst 0, 1) := by decide +kernel
theorem dX1_init_31 : decode cX1_init 31 = .ok (.putfield 25, 3) := by decide +kernel
theorem dX1_init_34 : decode cX1_init 34 = .ok (.aload_n 0, 1) := by decide +kernel
theorem dX1_init_35 : decode cX1_init 35 = .ok (.iconst 0, 1) := by decide +kernel
theorem dX1_init_36 : decode cX1_init 36 = .ok (.putfield 28, 3) := by decide +kernel
theorem dX1_init_39 : decode cX1_init 39 = .ok (.aload_n 0, 1) := by decide +kernel
theorem dX1_init_40 : decode cX1_init 40 = .ok (.bipush 12, 2) := by decide +kernel
theorem dX1_init_42 : decode cX1_init 42 = .ok (.newarray .int, 2) := by decide +kernel
theorem dX1_init_44 : decode cX1_init 44 = .ok (.putfield 31, 3) := by decide +kernel
theorem dX1_init_47 : decode cX1_init 47 = .ok (.aload_n 0, 1) := by decide +kernel
theorem dX1_init_48 : decode cX1_init 48 = .ok (.bipush 12, 2) := by decide +kernel
theorem dX1_init_50 : decode cX1_init 50 = .ok (.newarray .int, 2) := by decide +kernel
theorem dX1_init_52 : decode cX1_init 52 = .ok (.putfield 34, 3) := by decide +kernel
theorem dX1_init_55 : decode cX1_init 55 = .ok (.aload_n 0, 1) := by decide +kernel
theorem dX1_init_56 : decode cX1_init 56 = .ok (.bipush 12, 2) := by decide +kernel
theorem dX1_init_58 : decode cX1_init 58 = .ok (.newarray .int, 2) := by decide +kernel
theorem dX1_init_60 : decode cX1_init 60 = .ok (.putfield 37, 3) := by decide +kernel
theorem dX1_init_63 : decode cX1_init 63 = .ok (.aload_n 0, 1) := by decide +kernel
theorem dX1_init_64 : decode cX1_init 64 = .ok (.bipush 12, 2) := by decide +kernel
theorem dX1_init_66 : decode cX1_init 66 = .ok (.newarray .int, 2) := by decide +kernel
theorem dX1_init_68 : decode cX1_init 68 = .ok (.putfield 40, 3) := by decide +kernel
theorem dX1_init_71 : decode cX1_init 71 = .ok (.aload_n 0, 1) := by decide +kernel
theorem dX1_init_72 : decode cX1_init 72 = .ok (.bipush 12, 2) := by decide +kernel
theorem dX1_init_74 : decode cX1_init 74 = .ok (.newarray .int, 2) := by decide +kernel
theorem dX1_init_76 : decode cX1_init 76 = .ok (.putfield 43, 3) := by decide +kernel
theorem dX1_init_79 : decode cX1_init 79 = .ok (.aload_n 0, 1) := by decide +kernel
theorem dX1_init_80 : decode cX1_init 80 = .ok (.bipush 48, 2) := by decide +kernel
theorem dX1_init_82 : decode cX1_init 82 = .ok (.newarray .int, 2) := by decide +kernel
theorem dX1_init_84 : decode cX1_init 84 = .ok (.putfield 46, 3) := by decide +kernel
theorem dX1_init_87 : decode cX1_init 87 = .ok (.aload_n 0, 1) := by decide +kernel
theorem dX1_init_88 : decode cX1_init 88 = .ok (.iconst 0, 1) := by decide +kernel
theorem dX1_init_89 : decode cX1_init 89 = .ok (.putfield 49, 3) := by decide +kernel
theorem dX1_init_92 : decode cX1_init 92 = .ok (.aload_n 0, 1) := by decide +kernel
theorem dX1_init_93 : decode cX1_init 93 = .ok (.iconst 0, 1) := by decide +kernel
theorem dX1_init_94 : decode cX1_init 94 = .ok (.putfield 52, 3) := by decide +kernel
theorem dX1_init_97 : decode cX1_init 97 = .ok (.aload_n 0, 1) := by decide +kernel
theorem dX1_init_98 : decode cX1_init 98 = .ok (.iconst 0, 1) := by decide +kernel
theorem dX1_init_99 : decode cX1_init 99 = .ok (.putfield 55, 3) := by decide +kernel
theorem dX1_init_102 : decode cX1_init 102 = .ok (.aload_n 0, 1) := by decide +kernel
theorem dX1_init_103 : decode cX1_init 103 = .ok (.iconst 0, 1) := by decide +kernel
theorem dX1_init_104 : decode cX1_init 104 = .ok (.putfield 58, 3) := by decide +kernel
theorem dX1_init_107 : decode cX1_init 107 = .ok (.iconst 0, 1) := by decide +kernel
theorem dX1_init_108 : decode cX1_init 108 = .ok (.istore_n 1, 1) := by decide +kernel
theorem dX1_init_109 : decode cX1_init 109 = .ok (.iload_n 1, 1) := by decide +kernel
theorem dX1_init_110 : decode cX1_init 110 = .ok (.bipush 8, 2) := by decide +kernel
theorem dX1_init_112 : decode cX1_init 112 = .ok (.if_icmp .ge 18, 3) := by decide +kernel
theorem dX1_init_115 : decode cX1_init 115 = .ok (.aload_n 0, 1) := by decide +kernel
theorem dX1_init_116 : decode cX1_init 116 = .ok (.getfield 9, 3) := by decide +kernel
theorem dX1_init_119 : decode cX1_init 119 = .ok (.iload_n 1, 1) := by decide +kernel
theorem dX1_init_120 : decode cX1_init 120 = .ok (.iload_n 1, 1) := by decide +kernel
theorem dX1_init_121 : decode cX1_init 121 = .ok (.iconst 4, 1) := by decide +kernel
theorem dX1_init_122 : decode cX1_init 122 = .ok (.irem, 1) := by decide +kernel
theorem dX1_init_123 : decode cX1_init 123 = .ok (.iastore, 1) := by decide +kernel
theorem dX1_init_124 : decode cX1_init 124 = .ok (.iinc 1 1, 3) := by decide +kernel
theorem dX1_init_127 : decode cX1_init 127 = .ok (.goto (-18), 3) := by decide +kernel
theorem dX1_init_130 : decode cX1_init 130 = .ok (.return_, 1) := by decide +kernel
theorem dX1_copyFrom_0 : decode cX1_copyFrom 0 = .ok (.aload_n 1, 1) := by decide +kernel
theorem dX1_copyFrom_1 : decode cX1_copyFrom 1 = .ok (.getfield 9, 3) := by decide +kernel
theorem dX1_copyFrom_4 : decode cX1_copyFrom 4 = .ok (.iconst 0, 1) := by decide +kernel
theorem dX1_copyFrom_5 : decode cX1_copyFrom 5 = .ok (.aload_n 0, 1) := by decide +kernel
theorem dX1_copyFrom_6 : decode cX1_copyFrom 6 = .ok (.getfield 9, 3) := by decide +kernel
theorem dX1_copyFrom_9 : decode cX1_copyFrom 9 = .ok (.iconst 0, 1) := by decide +kernel
theorem dX1_copyFrom_10 : decode cX1_copyFrom 10 = .ok (.bipush 8, 2) := by decide +kernel
theorem dX1_copyFrom_12 : decode cX1_copyFrom 12 = .ok (.invokestatic 61, 3) := by decide +kernel
theorem dX1_copyFrom_15 : decode cX1_copyFrom 15 = .ok (.aload_n 0, 1) := by decide +kernel
theorem dX1_copyFrom_16 : decode cX1_copyFrom 16 = .ok (.aload_n 1, 1) := by decide +kernel
theorem dX1_copyFrom_17 : decode cX1_copyFrom 17 = .ok (.getfield 15, 3) := by decide +kernel
theorem dX1_copyFrom_20 : decode cX1_copyFrom 20 = .ok (.putfield 15, 3) := by decide +kernel
theorem dX1_copyFrom_23 : decode cX1_copyFrom 23 = .ok (.aload_n 0, 1) := by decide +kernel
theorem dX1_copyFrom_24 : decode cX1_copyFrom 24 = .ok (.aload_n 1, 1) := by decide +kernel
theorem dX1_copyFrom_25 : decode cX1_copyFrom 25 = .ok (.getfield 19, 3) := by decide +kernel
theorem dX1_copyFrom_28 : decode cX1_copyFrom 28 = .ok (.putfield 19, 3) := by decide +kernel
theorem dX1_copyFrom_31 : decode cX1_copyFrom 31 = .ok (.aload_n 1, 1) := by decide +kernel
theorem dX1_copyFrom_32 : decode cX1_copyFrom 32 = .ok (.getfield 22, 3) := by decide +kernel
theorem dX1_copyFrom_35 : decode cX1_copyFrom 35 = .ok (.iconst 0, 1) := by decide +kernel
theorem dX1_copyFrom_36 : decode cX1_copyFrom 36 = .ok (.aload_n 0, 1) := by decide +kernel
theorem dX1_copyFrom_37 : decode cX1_copyFrom 37 = .ok (.getfield 22, 3) := by decide +kernel
theorem dX1_copyFrom_40 : decode cX1_copyFrom 40 = .ok (.iconst 0, 1) := by decide +kernel
theorem dX1_copyFrom_41 : decode cX1_copyFrom 41 = .ok (.iconst 4, 1) := by decide +kernel
theorem dX1_copyFrom_42 : decode cX1_copyFrom 42 = .ok (.invokestatic 61, 3) := by decide +kernel
theorem dX1_copyFrom_45 : decode cX1_copyFrom 45 = .ok (.aload_n 0, 1) := by decide +kernel
theorem dX1_copyFrom_46 : decode cX1_copyFrom 46 = .ok (.aload_n 1, 1) := by decide +kernel
theorem dX1_copyFrom_47 : decode cX1_copyFrom 47 = .ok (.getfield 25, 3) := by decide +kernel
theorem dX1_copyFrom_50 : decode cX1_copyFrom 50 = .ok (.putfield 25, 3) := by decide +kernel
theorem dX1_copyFrom_53 : decode cX1_copyFrom 53 = .ok (.aload_n 0, 1) := by decide +kernel
theorem dX1_copyFrom_54 : decode cX1_copyFrom 54 = .ok (.aload_n 1, 1) := by decide +kernel
theorem dX1_copyFrom_55 : decode cX1_copyFrom 55 = .ok (.getfield 28, 3) := by decide +kernel
theorem dX1_copyFrom_58 : decode cX1_copyFrom 58 = .ok (.putfield 28, 3) := by decide +kernel
theorem dX1_copyFrom_61 : decode cX1_copyFrom 61 = .ok (.aload_n 1, 1) := by decide +kernel
theorem dX1_copyFrom_62 : decode cX1_copyFrom 62 = .ok (.getfield 31, 3) := by decide +kernel
theorem dX1_copyFrom_65 : decode cX1_copyFrom 65 = .ok (.iconst 0, 1) := by decide +kernel
theorem dX1_copyFrom_66 : decode cX1_copyFrom 66 = .ok (.aload_n 0, 1) := by decide +kernel
theorem dX1_copyFrom_67 : decode cX1_copyFrom 67 = .ok (.getfield 31, 3) := by decide +kernel
theorem dX1_copyFrom_70 : decode cX1_copyFrom 70 = .ok (.iconst 0, 1) := by decide +kernel
theorem dX1_copyFrom_71 : decode cX1_copyFrom 71 = .ok (.bipush 12, 2) := by decide +kernel
theorem dX1_copyFrom_73 : decode cX1_copyFrom 73 = .ok (.invokestatic 61, 3) := by decide +kernel
theorem dX1_copyFrom_76 : decode cX1_copyFrom 76 = .ok (.aload_n 1, 1) := by decide +kernel
theorem dX1_copyFrom_77 : decode cX1_copyFrom 77 = .ok (.getfield 34, 3) := by decide +kernel
theorem dX1_copyFrom_80 : decode cX1_copyFrom 80 = .ok (.iconst 0, 1) := by decide +kernel
theorem dX1_copyFrom_81 : decode cX1_copyFrom 81 = .ok (.aload_n 0, 1) := by decide +kernel
theorem dX1_copyFrom_82 : decode cX1_copyFrom 82 = .ok (.getfield 34, 3) := by decide +kernel
theorem dX1_copyFrom_85 : decode cX1_copyFrom 85 = .ok (.iconst 0, 1) := by decide +kernel
theorem dX1_copyFrom_86 : decode cX1_copyFrom 86 = .ok (.bipush 12, 2) := by decide +kernel
theorem dX1_copyFrom_88 : decode cX1_copyFrom 88 = .ok (.invokestatic 61, 3) := by decide +kernel
theorem dX1_copyFrom_91 : decode cX1_copyFrom 91 = .ok (.aload_n 1, 1) := by decide +kernel
theorem dX1_copyFrom_92 : decode cX1_copyFrom 92 = .ok (.getfield 37, 3) := by decide +kernel
theorem dX1_copyFrom_95 : decode cX1_copyFrom 95 = .ok (.iconst 0, 1) := by decide +kernel
theorem dX1_copyFrom_96 : decode cX1_copyFrom 96 = .ok (.aload_n 0, 1) := by decide +kernel
theorem dX1_copyFrom_97 : decode cX1_copyFrom 97 = .ok (.getfield 37, 3) := by decide +kernel
theorem dX1_copyFrom_100 : decode cX1_copyFrom 100 = .ok (.iconst 0, 1) := by decide +kernel
theorem dX1_copyFrom_101 : decode cX1_copyFrom 101 = .ok (.bipush 12, 2) := by decide +kernel
theorem dX1_copyFrom_103 : decode cX1_copyFrom 103 = .ok (.invokestatic 61, 3) := by decide +kernel
theorem dX1_copyFrom_106 : decode cX1_copyFrom 106 = .ok (.aload_n 1, 1) := by decide +kernel
theorem dX1_copyFrom_107 : decode cX1_copyFrom 107 = .ok (.getfield 40, 3) := by decide +kernel
theorem dX1_copyFrom_110 : decode cX1_copyFrom 110 = .ok (.iconst 0, 1) := by decide +kernel
theorem dX1_copyFrom_111 : decode cX1_copyFrom 111 = .ok (.aload_n 0, 1) := by decide +kernel
theorem dX1_copyFrom_112 : decode cX1_copyFrom 112 = .ok (.getfield 40, 3) := by decide +kernel
theorem dX1_copyFrom_115 : decode cX1_copyFrom 115 = .ok (.iconst 0, 1) := by decide +kernel
theorem dX1_copyFrom_116 : decode cX1_copyFrom 116 = .ok (.bipush 12, 2) := by decide +kernel
theorem dX1_copyFrom_118 : decode cX1_copyFrom 118 = .ok (.invokestatic 61, 3) := by decide +kernel
theorem dX1_copyFrom_121 : decode cX1_copyFrom 121 = .ok (.aload_n 1, 1) := by decide +kernel
theorem dX1_copyFrom_122 : decode cX1_copyFrom 122 = .ok (.getfield 43, 3) := by decide +kernel
theorem dX1_copyFrom_125 : decode cX1_copyFrom 125 = .ok (.iconst 0, 1) := by decide +kernel
theorem dX1_copyFrom_126 : decode cX1_copyFrom 126 = .ok (.aload_n 0, 1) := by decide +kernel
theorem dX1_copyFrom_127 : decode cX1_copyFrom 127 = .ok (.getfield 43, 3) := by decide +kernel
theorem dX1_copyFrom_130 : decode cX1_copyFrom 130 = .ok (.iconst 0, 1) := by decide +kernel
theorem dX1_copyFrom_131 : decode cX1_copyFrom 131 = .ok (.bipush 12, 2) := by decide +kernel
theorem dX1_copyFrom_133 : decode cX1_copyFrom 133 = .ok (.invokestatic 61, 3) := by decide +kernel
theorem dX1_copyFrom_136 : decode cX1_copyFrom 136 = .ok (.aload_n 1, 1) := by decide +kernel
theorem dX1_copyFrom_137 : decode cX1_copyFrom 137 = .ok (.getfield 46, 3) := by decide +kernel
theorem dX1_copyFrom_140 : decode cX1_copyFrom 140 = .ok (.iconst 0, 1) := by decide +kernel
theorem dX1_copyFrom_141 : decode cX1_copyFrom 141 = .ok (.aload_n 0, 1) := by decide +kernel
theorem dX1_copyFrom_142 : decode cX1_copyFrom 142 = .ok (.getfield 46, 3) := by decide +kernel
theorem dX1_copyFrom_145 : decode cX1_copyFrom 145 = .ok (.iconst 0, 1) := by decide +kernel
theorem dX1_copyFrom_146 : decode cX1_copyFrom 146 = .ok (.bipush 48, 2) := by decide +kernel
theorem dX1_copyFrom_148 : decode cX1_copyFrom 148 = .ok (.invokestatic 61, 3) := by decide +kernel
theorem dX1_copyFrom_151 : decode cX1_copyFrom 151 = .ok (.aload_n 0, 1) := by decide +kernel
theorem dX1_copyFrom_152 : decode cX1_copyFrom 152 = .ok (.aload_n 1, 1) := by decide +kernel
theorem dX1_copyFrom_153 : decode cX1_copyFrom 153 = .ok (.getfield 49, 3) := by decide +kernel
theorem dX1_copyFrom_156 : decode cX1_copyFrom 156 = .ok (.putfield 49, 3) := by decide +kernel
theorem dX1_copyFrom_159 : decode cX1_copyFrom 159 = .ok (.aload_n 0, 1) := by decide +kernel
theorem dX1_copyFrom_160 : decode cX1_copyFrom 160 = .ok (.aload_n 1, 1) := by decide +kernel
theorem dX1_copyFrom_161 : decode cX1_copyFrom 161 = .ok (.getfield 52, 3) := by decide +kernel
theorem dX1_copyFrom_164 : decode cX1_copyFrom 164 = .ok (.putfield 52, 3) := by decide +kernel
theorem dX1_copyFrom_167 : decode cX1_copyFrom 167 = .ok (.aload_n 0, 1) := by decide +kernel
theorem dX1_copyFrom_168 : decode cX1_copyFrom 168 = .ok (.aload_n 1, 1) := by decide +kernel
theorem dX1_copyFrom_169 : decode cX1_copyFrom 169 = .ok (.getfield 55, 3) := by decide +kernel
theorem dX1_copyFrom_172 : decode cX1_copyFrom 172 = .ok (.putfield 55, 3) := by decide +kernel
theorem dX1_copyFrom_175 : decode cX1_copyFrom 175 = .ok (.aload_n 0, 1) := by decide +kernel
theorem dX1_copyFrom_176 : decode cX1_copyFrom 176 = .ok (.aload_n 1, 1) := by decide +kernel
theorem dX1_copyFrom_177 : decode cX1_copyFrom 177 = .ok (.getfield 58, 3) := by decide +kernel
theorem dX1_copyFrom_180 : decode cX1_copyFrom 180 = .ok (.putfield 58, 3) := by decide +kernel
theorem dX1_copyFrom_183 : decode cX1_copyFrom 183 = .ok (.return_, 1) := by decide +kernel
set_option maxRecDepth 20000 in
theorem ggX1_judge_Jx29ce0_ordinal_8abf5 : GoodIn wsX1_judge wsJx29ce0_ordinal_8abf5 := goodIn_r _ [7, 8] (by decide +kernel) (by decide +kernel)
set_option maxRecDepth 20000 in
theorem gX1_judge_Jx29ce0_ordinal_8abf5_u72X5 : GoodIn wsX1_judge (va_wsU RX1 72 RX5 "java/lang/Enum" ⟨"BridgeAuction$Verb", "ordinal", "()I"⟩ yJx29ce0_ordinal_8abf5 wsJx29ce0_ordinal_8abf5) := goodIn_app (goodIn_of _ (by decide +kernel)) ggX1_judge_Jx29ce0_ordinal_8abf5
set_option maxRecDepth 20000 in
theorem ggX1_judge_X1_judgePlayer : GoodIn wsX1_judge wsX1_judgePlayer := goodIn_r _ [13, 14, 15, 16, 17, 121, 122, 123, 124, 125, 126, 127, 128, 129, 130, 131, 132, 133, 134, 135, 136] (by decide +kernel) (by decide +kernel)
set_option maxRecDepth 20000 in
theorem gX1_judge_X1_judgePlayer : GoodIn wsX1_judge (wsV RX1 78 RX1 yX1_judgePlayer wsX1_judgePlayer) := goodIn_app (goodIn_of _ (by decide +kernel)) ggX1_judge_X1_judgePlayer
set_option maxRecDepth 20000 in
theorem ggX1_judge_X1_judgeSite : GoodIn wsX1_judge wsX1_judgeSite := goodIn_ca (goodIn_r _ [21, 22, 14, 23, 24, 25, 26, 27, 28, 29, 30, 31, 16, 17, 32, 33, 12, 34, 35, 36, 37, 38, 39, 40, 121, 122, 123, 124, 125, 126, 127, 128, 129, 130, 131, 132, 133, 134, 135, 136] (by decide +kernel) (by decide +kernel)) (goodIn_sub (fun _ h => List.mem_cons_of_mem _ (List.mem_append_right _ h)) (by decide +kernel))
set_option maxRecDepth 20000 in
theorem gX1_judge_X1_judgeSite : GoodIn wsX1_judge (wsV RX1 82 RX1 yX1_judgeSite wsX1_judgeSite) := goodIn_app (goodIn_of _ (by decide +kernel)) ggX1_judge_X1_judgeSite
set_option maxRecDepth 20000 in
theorem ggX1_judge_X1_judgeSuit : GoodIn wsX1_judge wsX1_judgeSuit := goodIn_r _ [44, 22, 14, 17, 32, 33, 12, 34] (by decide +kernel) (by decide +kernel)
set_option maxRecDepth 20000 in
theorem gX1_judge_X1_judgeSuit : GoodIn wsX1_judge (wsV RX1 86 RX1 yX1_judgeSuit wsX1_judgeSuit) := goodIn_app (goodIn_of _ (by decide +kernel)) ggX1_judge_X1_judgeSuit
set_option maxRecDepth 20000 in
theorem ggX1_judge_X1_judgeTide : GoodIn wsX1_judge wsX1_judgeTide := goodIn_r _ [47, 14, 17] (by decide +kernel) (by decide +kernel)
set_option maxRecDepth 20000 in
theorem gX1_judge_X1_judgeTide : GoodIn wsX1_judge (va_wsS RX1 90 yX1_judgeTide wsX1_judgeTide) := goodIn_app (goodIn_of _ (by decide +kernel)) ggX1_judge_X1_judgeTide
set_option maxRecDepth 20000 in
theorem ggX1_judge_X1_judgeBid : GoodIn wsX1_judge wsX1_judgeBid := goodIn_ca (goodIn_r _ [51, 17, 30, 52, 53, 54, 12, 55, 22, 14, 16, 56, 57, 58, 59, 15, 60, 61, 62, 63, 31, 64, 65, 66, 67, 68, 69, 70, 71, 72, 73, 74, 75, 76, 77, 78, 79, 25, 80, 81, 82, 83, 84, 85, 86, 87, 88, 89, 90, 91, 92, 27, 28, 29, 121, 122, 123, 124, 125, 126, 127, 128, 129, 130, 131, 132, 133, 134, 135, 136] (by decide +kernel) (by decide +kernel)) (goodIn_sub (fun _ h => List.mem_cons_of_mem _ (List.mem_append_right _ h)) (by decide +kernel))
set_option maxRecDepth 20000 in
theorem gX1_judge_X1_judgeBid : GoodIn wsX1_judge (wsV RX1 93 RX1 yX1_judgeBid wsX1_judgeBid) := goodIn_app (goodIn_of _ (by decide +kernel)) ggX1_judge_X1_judgeBid
set_option maxRecDepth 20000 in
theorem ggX1_judge_X1_judgeBluff : GoodIn wsX1_judge wsX1_judgeBluff := goodIn_ca (goodIn_r _ [55, 22, 14, 16, 30, 17, 56, 57, 58, 12, 59, 15, 60, 61, 62, 63, 31, 64, 65, 66, 67, 68, 69, 70, 71, 72, 73, 74, 75, 76, 77, 78, 79, 25, 80, 81, 82, 83, 121, 122, 123, 124, 125, 126, 127, 128, 129, 130, 131, 132, 133, 134, 135, 136] (by decide +kernel) (by decide +kernel)) (goodIn_sub (fun _ h => List.mem_cons_of_mem _ (List.mem_append_right _ h)) (by decide +kernel))
set_option maxRecDepth 20000 in
theorem gX1_judge_X1_judgeBluff : GoodIn wsX1_judge (wsV RX1 96 RX1 yX1_judgeBluff wsX1_judgeBluff) := goodIn_app (goodIn_of _ (by decide +kernel)) ggX1_judge_X1_judgeBluff
set_option maxRecDepth 20000 in
theorem ggX1_judge_X1_judgeFerry : GoodIn wsX1_judge wsX1_judgeFerry := goodIn_ca (goodIn_r _ [96, 22, 97, 98, 16, 99, 39, 40, 17, 30, 56, 57, 58, 12, 59, 15, 60, 61, 62, 63, 31, 100, 101, 102, 103, 77, 81, 82, 83, 104, 105, 106, 107, 108, 121, 122, 123, 124, 125, 126, 127, 128, 129, 130, 131, 132, 133, 134, 135, 136] (by decide +kernel) (by decide +kernel)) (goodIn_sub (fun _ h => List.mem_cons_of_mem _ (List.mem_append_right _ h)) (by decide +kernel))
set_option maxRecDepth 20000 in
theorem gX1_judge_X1_judgeFerry : GoodIn wsX1_judge (wsV RX1 99 RX1 yX1_judgeFerry wsX1_judgeFerry) := goodIn_app (goodIn_of _ (by decide +kernel)) ggX1_judge_X1_judgeFerry
set_option maxRecDepth 20000 in
theorem ggX1_judge_X1_judgeDrop : GoodIn wsX1_judge wsX1_judgeDrop := goodIn_ca (goodIn_r _ [112, 22, 97, 98, 16, 17, 56, 57, 58, 12, 59, 15, 60, 61, 62, 63, 31, 100, 101, 102, 103, 77, 81, 82, 83, 121, 122, 123, 124, 125, 126, 127, 128, 129, 130, 131, 132, 133, 134, 135, 136] (by decide +kernel) (by decide +kernel)) (goodIn_sub (fun _ h => List.mem_cons_of_mem _ (List.mem_append_right _ h)) (by decide +kernel))
set_option maxRecDepth 20000 in
theorem gX1_judge_X1_judgeDrop : GoodIn wsX1_judge (wsV RX1 102 RX1 yX1_judgeDrop wsX1_judgeDrop) := goodIn_app (goodIn_of _ (by decide +kernel)) ggX1_judge_X1_judgeDrop
set_option maxRecDepth 20000 in
theorem ggX1_judge_X1_judgeSettling : GoodIn wsX1_judge wsX1_judgeSettling := goodIn_ca (goodIn_r _ [116, 22, 16, 97, 17, 60, 61, 62, 12, 63, 31, 64, 65, 66, 67, 68, 117, 118, 119, 120, 98, 15, 73, 74, 75, 76, 77, 78, 79, 25, 80, 81, 82, 83, 121, 122, 123, 124, 125, 126, 127, 128, 129, 130, 131, 132, 133, 134, 135, 136] (by decide +kernel) (by decide +kernel)) (goodIn_sub (fun _ h => List.mem_cons_of_mem _ (List.mem_append_right _ h)) (by decide +kernel))
set_option maxRecDepth 20000 in
theorem gX1_judge_X1_judgeSettling : GoodIn wsX1_judge (wsV RX1 105 RX1 yX1_judgeSettling wsX1_judgeSettling) := goodIn_app (goodIn_of _ (by decide +kernel)) ggX1_judge_X1_judgeSettling
theorem dX1_judge_0 : decode cX1_judge 0 = .ok (.getstatic 67, 3) := by decide +kernel
theorem dX1_judge_3 : decode cX1_judge 3 = .ok (.aload_n 1, 1) := by decide +kernel
theorem dX1_judge_4 : decode cX1_judge 4 = .ok (.invokevirtual 72, 3) := by decide +kernel
theorem dX1_judge_7 : decode cX1_judge 7 = .ok (.iaload, 1) := by decide +kernel
theorem dX1_judge_8 : decode cX1_judge 8 = .ok (.tableswitch 107 1 8 #[48, 54, 63, 70, 75, 84, 93, 100], 48) := by decide +kernel
theorem dX1_judge_56 : decode cX1_judge 56 = .ok (.aload_n 0, 1) := by decide +kernel
theorem dX1_judge_57 : decode cX1_judge 57 = .ok (.iload_n 2, 1) := by decide +kernel
theorem dX1_judge_58 : decode cX1_judge 58 = .ok (.invokevirtual 78, 3) := by decide +kernel
theorem dX1_judge_61 : decode cX1_judge 61 = .ok (.areturn, 1) := by decide +kernel
theorem dX1_judge_62 : decode cX1_judge 62 = .ok (.aload_n 0, 1) := by decide +kernel
theorem dX1_judge_63 : decode cX1_judge 63 = .ok (.iload_n 2, 1) := by decide +kernel
theorem dX1_judge_64 : decode cX1_judge 64 = .ok (.iload_n 3, 1) := by decide +kernel
theorem dX1_judge_65 : decode cX1_judge 65 = .ok (.iload 4, 2) := by decide +kernel
theorem dX1_judge_67 : decode cX1_judge 67 = .ok (.invokevirtual 82, 3) := by decide +kernel
theorem dX1_judge_70 : decode cX1_judge 70 = .ok (.areturn, 1) := by decide +kernel
theorem dX1_judge_71 : decode cX1_judge 71 = .ok (.aload_n 0, 1) := by decide +kernel
theorem dX1_judge_72 : decode cX1_judge 72 = .ok (.iload_n 2, 1) := by decide +kernel
theorem dX1_judge_73 : decode cX1_judge 73 = .ok (.iload_n 3, 1) := by decide +kernel
theorem dX1_judge_74 : decode cX1_judge 74 = .ok (.invokevirtual 86, 3) := by decide +kernel
theorem dX1_judge_77 : decode cX1_judge 77 = .ok (.areturn, 1) := by decide +kernel
theorem dX1_judge_78 : decode cX1_judge 78 = .ok (.iload_n 2, 1) := by decide +kernel
theorem dX1_judge_79 : decode cX1_judge 79 = .ok (.invokestatic 90, 3) := by decide +kernel
theorem dX1_judge_82 : decode cX1_judge 82 = .ok (.areturn, 1) := by decide +kernel
theorem dX1_judge_83 : decode cX1_judge 83 = .ok (.aload_n 0, 1) := by decide +kernel
theorem dX1_judge_84 : decode cX1_judge 84 = .ok (.iload_n 2, 1) := by decide +kernel
theorem dX1_judge_85 : decode cX1_judge 85 = .ok (.iload_n 3, 1) := by decide +kernel
theorem dX1_judge_86 : decode cX1_judge 86 = .ok (.iload 4, 2) := by decide +kernel
theorem dX1_judge_88 : decode cX1_judge 88 = .ok (.invokevirtual 93, 3) := by decide +kernel
theorem dX1_judge_91 : decode cX1_judge 91 = .ok (.areturn, 1) := by decide +kernel
theorem dX1_judge_92 : decode cX1_judge 92 = .ok (.aload_n 0, 1) := by decide +kernel
theorem dX1_judge_93 : decode cX1_judge 93 = .ok (.iload_n 2, 1) := by decide +kernel
theorem dX1_judge_94 : decode cX1_judge 94 = .ok (.iload_n 3, 1) := by decide +kernel
theorem dX1_judge_95 : decode cX1_judge 95 = .ok (.iload 4, 2) := by decide +kernel
theorem dX1_judge_97 : decode cX1_judge 97 = .ok (.invokevirtual 96, 3) := by decide +kernel
theorem dX1_judge_100 : decode cX1_judge 100 = .ok (.areturn, 1) := by decide +kernel
theorem dX1_judge_101 : decode cX1_judge 101 = .ok (.aload_n 0, 1) := by decide +kernel
theorem dX1_judge_102 : decode cX1_judge 102 = .ok (.iload_n 2, 1) := by decide +kernel
theorem dX1_judge_103 : decode cX1_judge 103 = .ok (.iload_n 3, 1) := by decide +kernel
theorem dX1_judge_104 : decode cX1_judge 104 = .ok (.invokevirtual 99, 3) := by decide +kernel
theorem dX1_judge_107 : decode cX1_judge 107 = .ok (.areturn, 1) := by decide +kernel
theorem dX1_judge_108 : decode cX1_judge 108 = .ok (.aload_n 0, 1) := by decide +kernel
theorem dX1_judge_109 : decode cX1_judge 109 = .ok (.iload_n 2, 1) := by decide +kernel
theorem dX1_judge_110 : decode cX1_judge 110 = .ok (.iload_n 3, 1) := by decide +kernel
theorem dX1_judge_111 : decode cX1_judge 111 = .ok (.invokevirtual 102, 3) := by decide +kernel
theorem dX1_judge_114 : decode cX1_judge 114 = .ok (.areturn, 1) := by decide +kernel
theorem dX1_judge_115 : decode cX1_judge 115 = .ok (.aload_n 0, 1) := by decide +kernel
theorem dX1_judge_116 : decode cX1_judge 116 = .ok (.iload_n 2, 1) := by decide +kernel
theorem dX1_judge_117 : decode cX1_judge 117 = .ok (.invokevirtual 105, 3) := by decide +kernel
theorem dX1_judge_120 : decode cX1_judge 120 = .ok (.areturn, 1) := by decide +kernel
theorem dX1_judgePlayer_0 : decode cX1_judgePlayer 0 = .ok (.iload_n 1, 1) := by decide +kernel
theorem dX1_judgePlayer_1 : decode cX1_judgePlayer 1 = .ok (.ifCond .lt 9, 3) := by decide +kernel
theorem dX1_judgePlayer_4 : decode cX1_judgePlayer 4 = .ok (.iload_n 1, 1) := by decide +kernel
theorem dX1_judgePlayer_5 : decode cX1_judgePlayer 5 = .ok (.bipush 99, 2) := by decide +kernel
theorem dX1_judgePlayer_7 : decode cX1_judgePlayer 7 = .ok (.if_icmp .le 7, 3) := by decide +kernel
theorem dX1_judgePlayer_10 : decode cX1_judgePlayer 10 = .ok (.getstatic 108, 3) := by decide +kernel
theorem dX1_judgePlayer_13 : decode cX1_judgePlayer 13 = .ok (.areturn, 1) := by decide +kernel
theorem dX1_judgePlayer_14 : decode cX1_judgePlayer 14 = .ok (.aload_n 0, 1) := by decide +kernel
theorem dX1_judgePlayer_15 : decode cX1_judgePlayer 15 = .ok (.getfield 19, 3) := by decide +kernel
theorem dX1_judgePlayer_18 : decode cX1_judgePlayer 18 = .ok (.iconst 4, 1) := by decide +kernel
theorem dX1_judgePlayer_19 : decode cX1_judgePlayer 19 = .ok (.if_icmp .ne 9, 3) := by decide +kernel
theorem dX1_judgePlayer_22 : decode cX1_judgePlayer 22 = .ok (.getstatic 114, 3) := by decide +kernel
theorem dX1_judgePlayer_25 : decode cX1_judgePlayer 25 = .ok (.goto 6, 3) := by decide +kernel
theorem dX1_judgePlayer_28 : decode cX1_judgePlayer 28 = .ok (.getstatic 117, 3) := by decide +kernel
theorem dX1_judgePlayer_31 : decode cX1_judgePlayer 31 = .ok (.areturn, 1) := by decide +kernel
set_option maxRecDepth 20000 in
theorem ggX1_judgeSite_X1_isIsland : GoodIn wsX1_judgeSite wsX1_isIsland := goodIn_r _ [17] (by decide +kernel) (by decide +kernel)
set_option maxRecDepth 20000 in
theorem gX1_judgeSite_X1_isIsland : GoodIn wsX1_judgeSite (va_wsS RX1 120 yX1_isIsland wsX1_isIsland) := goodIn_app (goodIn_of _ (by decide +kernel)) ggX1_judgeSite_X1_isIsland
set_option maxRecDepth 20000 in
theorem ggX1_judgeSite_X1_hasSiteBetween : GoodIn wsX1_judgeSite wsX1_hasSiteBetween := goodIn_ca (goodIn_r _ [21, 11, 22, 23, 24, 25, 26, 27, 28, 29, 30, 31, 32, 33, 34, 35, 36, 37, 38, 39] (by decide +kernel) (by decide +kernel)) (goodIn_sub (fun _ h => List.mem_cons_of_mem _ (List.mem_append_right _ h)) (by decide +kernel))
set_option maxRecDepth 20000 in
theorem gX1_judgeSite_X1_hasSiteBetween : GoodIn wsX1_judgeSite (wsV RX1 136 RX1 yX1_hasSiteBetween wsX1_hasSiteBetween) := goodIn_app (goodIn_of _ (by decide +kernel)) ggX1_judgeSite_X1_hasSiteBetween
theorem dX1_judgeSite_0 : decode cX1_judgeSite 0 = .ok (.iload_n 1, 1) := by decide +kernel
theorem dX1_judgeSite_1 : decode cX1_judgeSite 1 = .ok (.invokestatic 120, 3) := by decide +kernel
theorem dX1_judgeSite_4 : decode cX1_judgeSite 4 = .ok (.ifCond .eq 10, 3) := by decide +kernel
theorem dX1_judgeSite_7 : decode cX1_judgeSite 7 = .ok (.iload_n 2, 1) := by decide +kernel
theorem dX1_judgeSite_8 : decode cX1_judgeSite 8 = .ok (.invokestatic 120, 3) := by decide +kernel
theorem dX1_judgeSite_11 : decode cX1_judgeSite 11 = .ok (.ifCond .ne 7, 3) := by decide +kernel
theorem dX1_judgeSite_14 : decode cX1_judgeSite 14 = .ok (.getstatic 124, 3) := by decide +kernel
theorem dX1_judgeSite_17 : decode cX1_judgeSite 17 = .ok (.areturn, 1) := by decide +kernel
theorem dX1_judgeSite_18 : decode cX1_judgeSite 18 = .ok (.iload_n 1, 1) := by decide +kernel
theorem dX1_judgeSite_19 : decode cX1_judgeSite 19 = .ok (.iload_n 2, 1) := by decide +kernel
theorem dX1_judgeSite_20 : decode cX1_judgeSite 20 = .ok (.if_icmp .eq 14, 3) := by decide +kernel
theorem dX1_judgeSite_23 : decode cX1_judgeSite 23 = .ok (.iload_n 3, 1) := by decide +kernel
theorem dX1_judgeSite_24 : decode cX1_judgeSite 24 = .ok (.iconst 1, 1) := by decide +kernel
theorem dX1_judgeSite_25 : decode cX1_judgeSite 25 = .ok (.if_icmp .lt 9, 3) := by decide +kernel
theorem dX1_judgeSite_28 : decode cX1_judgeSite 28 = .ok (.iload_n 3, 1) := by decide +kernel
theorem dX1_judgeSite_29 : decode cX1_judgeSite 29 = .ok (.bipush 9, 2) := by decide +kernel
theorem dX1_judgeSite_31 : decode cX1_judgeSite 31 = .ok (.if_icmp .le 7, 3) := by decide +kernel
theorem dX1_judgeSite_34 : decode cX1_judgeSite 34 = .ok (.getstatic 108, 3) := by decide +kernel
theorem dX1_judgeSite_37 : decode cX1_judgeSite 37 = .ok (.areturn, 1) := by decide +kernel
theorem dX1_judgeSite_38 : decode cX1_judgeSite 38 = .ok (.aload_n 0, 1) := by decide +kernel
theorem dX1_judgeSite_39 : decode cX1_judgeSite 39 = .ok (.iload_n 1, 1) := by decide +kernel
theorem dX1_judgeSite_40 : decode cX1_judgeSite 40 = .ok (.iload_n 2, 1) := by decide +kernel
theorem dX1_judgeSite_41 : decode cX1_judgeSite 41 = .ok (.invokestatic 127, 3) := by decide +kernel
theorem dX1_judgeSite_44 : decode cX1_judgeSite 44 = .ok (.iload_n 1, 1) := by decide +kernel
theorem dX1_judgeSite_45 : decode cX1_judgeSite 45 = .ok (.iload_n 2, 1) := by decide +kernel
theorem dX1_judgeSite_46 : decode cX1_judgeSite 46 = .ok (.invokestatic 133, 3) := by decide +kernel
theorem dX1_judgeSite_49 : decode cX1_judgeSite 49 = .ok (.invokevirtual 136, 3) := by decide +kernel
theorem dX1_judgeSite_52 : decode cX1_judgeSite 52 = .ok (.ifCond .eq 7, 3) := by decide +kernel
theorem dX1_judgeSite_55 : decode cX1_judgeSite 55 = .ok (.getstatic 140, 3) := by decide +kernel
theorem dX1_judgeSite_58 : decode cX1_judgeSite 58 = .ok (.areturn, 1) := by decide +kernel
theorem dX1_judgeSite_59 : decode cX1_judgeSite 59 = .ok (.aload_n 0, 1) := by decide +kernel
theorem dX1_judgeSite_60 : decode cX1_judgeSite 60 = .ok (.getfield 28, 3) := by decide +kernel
theorem dX1_judgeSite_63 : decode cX1_judgeSite 63 = .ok (.bipush 12, 2) := by decide +kernel
theorem dX1_judgeSite_65 : decode cX1_judgeSite 65 = .ok (.if_icmp .ne 9, 3) := by decide +kernel
theorem dX1_judgeSite_68 : decode cX1_judgeSite 68 = .ok (.getstatic 114, 3) := by decide +kernel
theorem dX1_judgeSite_71 : decode cX1_judgeSite 71 = .ok (.goto 6, 3) := by decide +kernel
theorem dX1_judgeSite_74 : decode cX1_judgeSite 74 = .ok (.getstatic 117, 3) := by decide +kernel
theorem dX1_judgeSite_77 : decode cX1_judgeSite 77 = .ok (.areturn, 1) := by decide +kernel
set_option maxRecDepth 20000 in
theorem ggX1_judgeSuit_X1_isIsland : GoodIn wsX1_judgeSuit wsX1_isIsland := goodIn_r _ [7] (by decide +kernel) (by decide +kernel)
set_option maxRecDepth 20000 in
theorem gX1_judgeSuit_X1_isIsland : GoodIn wsX1_judgeSuit (va_wsS RX1 120 yX1_isIsland wsX1_isIsland) := goodIn_app (goodIn_of _ (by decide +kernel)) ggX1_judgeSuit_X1_isIsland
theorem dX1_judgeSuit_0 : decode cX1_judgeSuit 0 = .ok (.iload_n 1, 1) := by decide +kernel
theorem dX1_judgeSuit_1 : decode cX1_judgeSuit 1 = .ok (.invokestatic 120, 3) := by decide +kernel
theorem dX1_judgeSuit_4 : decode cX1_judgeSuit 4 = .ok (.ifCond .ne 7, 3) := by decide +kernel
theorem dX1_judgeSuit_7 : decode cX1_judgeSuit 7 = .ok (.getstatic 124, 3) := by decide +kernel
theorem dX1_judgeSuit_10 : decode cX1_judgeSuit 10 = .ok (.areturn, 1) := by decide +kernel
theorem dX1_judgeSuit_11 : decode cX1_judgeSuit 11 = .ok (.iload_n 2, 1) := by decide +kernel
theorem dX1_judgeSuit_12 : decode cX1_judgeSuit 12 = .ok (.ifCond .lt 8, 3) := by decide +kernel
theorem dX1_judgeSuit_15 : decode cX1_judgeSuit 15 = .ok (.iload_n 2, 1) := by decide +kernel
theorem dX1_judgeSuit_16 : decode cX1_judgeSuit 16 = .ok (.iconst 4, 1) := by decide +kernel
theorem dX1_judgeSuit_17 : decode cX1_judgeSuit 17 = .ok (.if_icmp .lt 9, 3) := by decide +kernel
theorem dX1_judgeSuit_20 : decode cX1_judgeSuit 20 = .ok (.getstatic 108, 3) := by decide +kernel
theorem dX1_judgeSuit_23 : decode cX1_judgeSuit 23 = .ok (.goto 6, 3) := by decide +kernel
theorem dX1_judgeSuit_26 : decode cX1_judgeSuit 26 = .ok (.getstatic 117, 3) := by decide +kernel
theorem dX1_judgeSuit_29 : decode cX1_judgeSuit 29 = .ok (.areturn, 1) := by decide +kernel
theorem dX1_judgeTide_0 : decode cX1_judgeTide 0 = .ok (.iload_n 0, 1) := by decide +kernel
theorem dX1_judgeTide_1 : decode cX1_judgeTide 1 = .ok (.ifCond .lt 9, 3) := by decide +kernel
theorem dX1_judgeTide_4 : decode cX1_judgeTide 4 = .ok (.iload_n 0, 1) := by decide +kernel
theorem dX1_judgeTide_5 : decode cX1_judgeTide 5 = .ok (.bipush 9, 2) := by decide +kernel
theorem dX1_judgeTide_7 : decode cX1_judgeTide 7 = .ok (.if_icmp .le 9, 3) := by decide +kernel
theorem dX1_judgeTide_10 : decode cX1_judgeTide 10 = .ok (.getstatic 108, 3) := by decide +kernel
theorem dX1_judgeTide_13 : decode cX1_judgeTide 13 = .ok (.goto 6, 3) := by decide +kernel
theorem dX1_judgeTide_16 : decode cX1_judgeTide 16 = .ok (.getstatic 117, 3) := by decide +kernel
theorem dX1_judgeTide_19 : decode cX1_judgeTide 19 = .ok (.areturn, 1) := by decide +kernel
set_option maxRecDepth 20000 in
theorem ggX1_judgeBluff_X1_isPlayer : GoodIn wsX1_judgeBluff wsX1_isPlayer := goodIn_r _ [10, 11, 38, 39, 40, 41, 42, 43, 44, 45, 46, 47, 48, 49, 50, 51, 52, 53] (by decide +kernel) (by decide +kernel)
set_option maxRecDepth 20000 in
theorem gX1_judgeBluff_X1_isPlayer : GoodIn wsX1_judgeBluff (wsV RX1 143 RX1 yX1_isPlayer wsX1_isPlayer) := goodIn_app (goodIn_of _ (by decide +kernel)) ggX1_judgeBluff_X1_isPlayer
set_option maxRecDepth 20000 in
theorem ggX1_judgeBluff_X1_isSite : GoodIn wsX1_judgeBluff wsX1_isSite := goodIn_r _ [15, 16, 38, 39, 40, 41, 42, 43, 44, 45, 46, 47, 48, 49, 50, 51, 52, 53] (by decide +kernel) (by decide +kernel)
set_option maxRecDepth 20000 in
theorem gX1_judgeBluff_X1_isSite : GoodIn wsX1_judgeBluff (wsV RX1 146 RX1 yX1_isSite wsX1_isSite) := goodIn_app (goodIn_of _ (by decide +kernel)) ggX1_judgeBluff_X1_isSite
set_option maxRecDepth 20000 in
theorem ggX1_judgeBluff_X1_hasBridge : GoodIn wsX1_judgeBluff wsX1_hasBridge := goodIn_ca (goodIn_r _ [20, 21, 38, 39, 40, 41, 42, 43, 44, 45, 46, 47, 48, 49, 50, 51, 52, 53] (by decide +kernel) (by decide +kernel)) (goodIn_sub (fun _ h => List.mem_cons_of_mem _ (List.mem_append_right _ h)) (by decide +kernel))
set_option maxRecDepth 20000 in
theorem gX1_judgeBluff_X1_hasBridge : GoodIn wsX1_judgeBluff (wsV RX1 149 RX1 yX1_hasBridge wsX1_hasBridge) := goodIn_app (goodIn_of _ (by decide +kernel)) ggX1_judgeBluff_X1_hasBridge
set_option maxRecDepth 20000 in
theorem ggX1_judgeBluff_X1_bidsAbove : GoodIn wsX1_judgeBluff wsX1_bidsAbove := goodIn_ca (goodIn_r _ [25, 11, 26, 27, 28, 9, 29, 30, 31, 32, 33, 34, 35, 36, 37, 38, 39, 40, 41, 42, 43, 44, 45, 46, 47, 48, 49, 50, 51, 52, 53] (by decide +kernel) (by decide +kernel)) (goodIn_sub (fun _ h => List.mem_cons_of_mem _ (List.mem_append_right _ h)) (by decide +kernel))
set_option maxRecDepth 20000 in
theorem gX1_judgeBluff_X1_bidsAbove : GoodIn wsX1_judgeBluff (wsV RX1 152 RX1 yX1_bidsAbove wsX1_bidsAbove) := goodIn_app (goodIn_of _ (by decide +kernel)) ggX1_judgeBluff_X1_bidsAbove
theorem dX1_judgeBluff_0 : decode cX1_judgeBluff 0 = .ok (.aload_n 0, 1) := by decide +kernel
theorem dX1_judgeBluff_1 : decode cX1_judgeBluff 1 = .ok (.iload_n 1, 1) := by decide +kernel
theorem dX1_judgeBluff_2 : decode cX1_judgeBluff 2 = .ok (.invokevirtual 143, 3) := by decide +kernel
theorem dX1_judgeBluff_5 : decode cX1_judgeBluff 5 = .ok (.ifCond .eq 11, 3) := by decide +kernel
theorem dX1_judgeBluff_8 : decode cX1_judgeBluff 8 = .ok (.aload_n 0, 1) := by decide +kernel
theorem dX1_judgeBluff_9 : decode cX1_judgeBluff 9 = .ok (.iload_n 2, 1) := by decide +kernel
theorem dX1_judgeBluff_10 : decode cX1_judgeBluff 10 = .ok (.invokevirtual 146, 3) := by decide +kernel
theorem dX1_judgeBluff_13 : decode cX1_judgeBluff 13 = .ok (.ifCond .ne 7, 3) := by decide +kernel
theorem dX1_judgeBluff_16 : decode cX1_judgeBluff 16 = .ok (.getstatic 124, 3) := by decide +kernel
theorem dX1_judgeBluff_19 : decode cX1_judgeBluff 19 = .ok (.areturn, 1) := by decide +kernel
theorem dX1_judgeBluff_20 : decode cX1_judgeBluff 20 = .ok (.iload_n 3, 1) := by decide +kernel
theorem dX1_judgeBluff_21 : decode cX1_judgeBluff 21 = .ok (.iconst 1, 1) := by decide +kernel
theorem dX1_judgeBluff_22 : decode cX1_judgeBluff 22 = .ok (.if_icmp .lt 9, 3) := by decide +kernel
theorem dX1_judgeBluff_25 : decode cX1_judgeBluff 25 = .ok (.iload_n 3, 1) := by decide +kernel
theorem dX1_judgeBluff_26 : decode cX1_judgeBluff 26 = .ok (.bipush 99, 2) := by decide +kernel
theorem dX1_judgeBluff_28 : decode cX1_judgeBluff 28 = .ok (.if_icmp .le 7, 3) := by decide +kernel
theorem dX1_judgeBluff_31 : decode cX1_judgeBluff 31 = .ok (.getstatic 108, 3) := by decide +kernel
theorem dX1_judgeBluff_34 : decode cX1_judgeBluff 34 = .ok (.areturn, 1) := by decide +kernel
theorem dX1_judgeBluff_35 : decode cX1_judgeBluff 35 = .ok (.aload_n 0, 1) := by decide +kernel
theorem dX1_judgeBluff_36 : decode cX1_judgeBluff 36 = .ok (.iload_n 2, 1) := by decide +kernel
theorem dX1_judgeBluff_37 : decode cX1_judgeBluff 37 = .ok (.invokevirtual 149, 3) := by decide +kernel
theorem dX1_judgeBluff_40 : decode cX1_judgeBluff 40 = .ok (.ifCond .eq 7, 3) := by decide +kernel
theorem dX1_judgeBluff_43 : decode cX1_judgeBluff 43 = .ok (.getstatic 114, 3) := by decide +kernel
theorem dX1_judgeBluff_46 : decode cX1_judgeBluff 46 = .ok (.areturn, 1) := by decide +kernel
theorem dX1_judgeBluff_47 : decode cX1_judgeBluff 47 = .ok (.aload_n 0, 1) := by decide +kernel
theorem dX1_judgeBluff_48 : decode cX1_judgeBluff 48 = .ok (.iload_n 2, 1) := by decide +kernel
theorem dX1_judgeBluff_49 : decode cX1_judgeBluff 49 = .ok (.iload_n 3, 1) := by decide +kernel
theorem dX1_judgeBluff_50 : decode cX1_judgeBluff 50 = .ok (.iconst 1, 1) := by decide +kernel
theorem dX1_judgeBluff_51 : decode cX1_judgeBluff 51 = .ok (.isub, 1) := by decide +kernel
theorem dX1_judgeBluff_52 : decode cX1_judgeBluff 52 = .ok (.invokevirtual 152, 3) := by decide +kernel
theorem dX1_judgeBluff_55 : decode cX1_judgeBluff 55 = .ok (.ifCond .le 9, 3) := by decide +kernel
theorem dX1_judgeBluff_58 : decode cX1_judgeBluff 58 = .ok (.getstatic 140, 3) := by decide +kernel
theorem dX1_judgeBluff_61 : decode cX1_judgeBluff 61 = .ok (.goto 6, 3) := by decide +kernel
theorem dX1_judgeBluff_64 : decode cX1_judgeBluff 64 = .ok (.getstatic 117, 3) := by decide +kernel
theorem dX1_judgeBluff_67 : decode cX1_judgeBluff 67 = .ok (.areturn, 1) := by decide +kernel
set_option maxRecDepth 20000 in
theorem ggX1_judgeBid_X1_judgeBluff : GoodIn wsX1_judgeBid wsX1_judgeBluff := goodIn_ca (goodIn_r _ [7, 8, 9, 10, 2, 1, 11, 12, 13, 6, 14, 15, 16, 17, 18, 19, 20, 21, 22, 23, 24, 25, 26, 27, 28, 29, 30, 31, 32, 33, 34, 35, 36, 37, 38, 39, 40, 41, 54, 55, 56, 57, 58, 59, 60, 61, 62, 63, 64, 65, 66, 67, 68, 69] (by decide +kernel) (by decide +kernel)) (goodIn_sub (fun _ h => List.mem_cons_of_mem _ (List.mem_append_right _ h)) (by decide +kernel))
set_option maxRecDepth 20000 in
theorem gX1_judgeBid_X1_judgeBluff : GoodIn wsX1_judgeBid (wsV RX1 96 RX1 yX1_judgeBluff wsX1_judgeBluff) := goodIn_app (goodIn_of _ (by decide +kernel)) ggX1_judgeBid_X1_judgeBluff
set_option maxRecDepth 20000 in
theorem ggX1_judgeBid_X1_availableTo : GoodIn wsX1_judgeBid wsX1_availableTo := goodIn_ca (goodIn_r _ [45, 46, 20, 47, 48, 49, 6, 50, 34, 51, 52, 37, 53, 39, 40, 41, 54, 55, 56, 57, 58, 59, 60, 61, 62, 63, 64, 65, 66, 67, 68, 69] (by decide +kernel) (by decide +kernel)) (goodIn_sub (fun _ h => List.mem_cons_of_mem _ (List.mem_append_right _ h)) (by decide +kernel))
set_option maxRecDepth 20000 in
theorem gX1_judgeBid_X1_availableTo : GoodIn wsX1_judgeBid (wsV RX1 155 RX1 yX1_availableTo wsX1_availableTo) := goodIn_app (goodIn_of _ (by decide +kernel)) ggX1_judgeBid_X1_availableTo
set_option maxRecDepth 20000 in
theorem ggX1_judgeBid_X1_reservedBy : GoodIn wsX1_judgeBid wsX1_reservedBy := goodIn_ca (goodIn_r _ [50, 34, 51, 52, 37, 53, 39, 40, 6, 41, 54, 55, 56, 57, 58, 59, 60, 61, 62, 63, 64, 65, 66, 67, 68, 69] (by decide +kernel) (by decide +kernel)) (goodIn_sub (fun _ h => List.mem_cons_of_mem _ (List.mem_append_right _ h)) (by decide +kernel))
set_option maxRecDepth 20000 in
theorem gX1_judgeBid_X1_reservedBy : GoodIn wsX1_judgeBid (wsV RX1 159 RX1 yX1_reservedBy wsX1_reservedBy) := goodIn_app (goodIn_of _ (by decide +kernel)) ggX1_judgeBid_X1_reservedBy
theorem dX1_judgeBid_0 : decode cX1_judgeBid 0 = .ok (.aload_n 0, 1) := by decide +kernel
theorem dX1_judgeBid_1 : decode cX1_judgeBid 1 = .ok (.iload_n 1, 1) := by decide +kernel
theorem dX1_judgeBid_2 : decode cX1_judgeBid 2 = .ok (.iload_n 2, 1) := by decide +kernel
theorem dX1_judgeBid_3 : decode cX1_judgeBid 3 = .ok (.iload_n 3, 1) := by decide +kernel
theorem dX1_judgeBid_4 : decode cX1_judgeBid 4 = .ok (.invokevirtual 96, 3) := by decide +kernel
theorem dX1_judgeBid_7 : decode cX1_judgeBid 7 = .ok (.astore 4, 2) := by decide +kernel
theorem dX1_judgeBid_9 : decode cX1_judgeBid 9 = .ok (.aload 4, 2) := by decide +kernel
theorem dX1_judgeBid_11 : decode cX1_judgeBid 11 = .ok (.getstatic 117, 3) := by decide +kernel
theorem dX1_judgeBid_14 : decode cX1_judgeBid 14 = .ok (.if_acmp .eq 6, 3) := by decide +kernel
theorem dX1_judgeBid_17 : decode cX1_judgeBid 17 = .ok (.aload 4, 2) := by decide +kernel
theorem dX1_judgeBid_19 : decode cX1_judgeBid 19 = .ok (.areturn, 1) := by decide +kernel
theorem dX1_judgeBid_20 : decode cX1_judgeBid 20 = .ok (.aload_n 0, 1) := by decide +kernel
theorem dX1_judgeBid_21 : decode cX1_judgeBid 21 = .ok (.iload_n 1, 1) := by decide +kernel
theorem dX1_judgeBid_22 : decode cX1_judgeBid 22 = .ok (.invokevirtual 155, 3) := by decide +kernel
theorem dX1_judgeBid_25 : decode cX1_judgeBid 25 = .ok (.aload_n 0, 1) := by decide +kernel
theorem dX1_judgeBid_26 : decode cX1_judgeBid 26 = .ok (.iload_n 1, 1) := by decide +kernel
theorem dX1_judgeBid_27 : decode cX1_judgeBid 27 = .ok (.iload_n 2, 1) := by decide +kernel
theorem dX1_judgeBid_28 : decode cX1_judgeBid 28 = .ok (.invokevirtual 159, 3) := by decide +kernel
theorem dX1_judgeBid_31 : decode cX1_judgeBid 31 = .ok (.iadd, 1) := by decide +kernel
theorem dX1_judgeBid_32 : decode cX1_judgeBid 32 = .ok (.istore 5, 2) := by decide +kernel
theorem dX1_judgeBid_34 : decode cX1_judgeBid 34 = .ok (.iload_n 3, 1) := by decide +kernel
theorem dX1_judgeBid_35 : decode cX1_judgeBid 35 = .ok (.iload 5, 2) := by decide +kernel
theorem dX1_judgeBid_37 : decode cX1_judgeBid 37 = .ok (.if_icmp .le 9, 3) := by decide +kernel
theorem dX1_judgeBid_40 : decode cX1_judgeBid 40 = .ok (.getstatic 140, 3) := by decide +kernel
theorem dX1_judgeBid_43 : decode cX1_judgeBid 43 = .ok (.goto 6, 3) := by decide +kernel
theorem dX1_judgeBid_46 : decode cX1_judgeBid 46 = .ok (.getstatic 117, 3) := by decide +kernel
theorem dX1_judgeBid_49 : decode cX1_judgeBid 49 = .ok (.areturn, 1) := by decide +kernel
set_option maxRecDepth 20000 in
theorem ggX1_judgeDrop_X1_isPlayer : GoodIn wsX1_judgeDrop wsX1_isPlayer := goodIn_r _ [10, 11, 25, 26, 27, 28, 29, 30, 31, 32, 33, 34, 35, 36, 37, 38, 39, 40] (by decide +kernel) (by decide +kernel)
set_option maxRecDepth 20000 in
theorem gX1_judgeDrop_X1_isPlayer : GoodIn wsX1_judgeDrop (wsV RX1 143 RX1 yX1_isPlayer wsX1_isPlayer) := goodIn_app (goodIn_of _ (by decide +kernel)) ggX1_judgeDrop_X1_isPlayer
set_option maxRecDepth 20000 in
theorem ggX1_judgeDrop_X1_isSite : GoodIn wsX1_judgeDrop wsX1_isSite := goodIn_r _ [15, 16, 25, 26, 27, 28, 29, 30, 31, 32, 33, 34, 35, 36, 37, 38, 39, 40] (by decide +kernel) (by decide +kernel)
set_option maxRecDepth 20000 in
theorem gX1_judgeDrop_X1_isSite : GoodIn wsX1_judgeDrop (wsV RX1 146 RX1 yX1_isSite wsX1_isSite) := goodIn_app (goodIn_of _ (by decide +kernel)) ggX1_judgeDrop_X1_isSite
set_option maxRecDepth 20000 in
theorem ggX1_judgeDrop_X1_hasBid : GoodIn wsX1_judgeDrop wsX1_hasBid := goodIn_ca (goodIn_r _ [20, 21, 22, 23, 9, 24, 25, 26, 27, 28, 29, 30, 31, 32, 33, 34, 35, 36, 37, 38, 39, 40] (by decide +kernel) (by decide +kernel)) (goodIn_sub (fun _ h => List.mem_cons_of_mem _ (List.mem_append_right _ h)) (by decide +kernel))
set_option maxRecDepth 20000 in
theorem gX1_judgeDrop_X1_hasBid : GoodIn wsX1_judgeDrop (wsV RX1 162 RX1 yX1_hasBid wsX1_hasBid) := goodIn_app (goodIn_of _ (by decide +kernel)) ggX1_judgeDrop_X1_hasBid
theorem dX1_judgeDrop_0 : decode cX1_judgeDrop 0 = .ok (.aload_n 0, 1) := by decide +kernel
theorem dX1_judgeDrop_1 : decode cX1_judgeDrop 1 = .ok (.iload_n 1, 1) := by decide +kernel
theorem dX1_judgeDrop_2 : decode cX1_judgeDrop 2 = .ok (.invokevirtual 143, 3) := by decide +kernel
theorem dX1_judgeDrop_5 : decode cX1_judgeDrop 5 = .ok (.ifCond .eq 11, 3) := by decide +kernel
theorem dX1_judgeDrop_8 : decode cX1_judgeDrop 8 = .ok (.aload_n 0, 1) := by decide +kernel
theorem dX1_judgeDrop_9 : decode cX1_judgeDrop 9 = .ok (.iload_n 2, 1) := by decide +kernel
theorem dX1_judgeDrop_10 : decode cX1_judgeDrop 10 = .ok (.invokevirtual 146, 3) := by decide +kernel
theorem dX1_judgeDrop_13 : decode cX1_judgeDrop 13 = .ok (.ifCond .ne 7, 3) := by decide +kernel
theorem dX1_judgeDrop_16 : decode cX1_judgeDrop 16 = .ok (.getstatic 124, 3) := by decide +kernel
theorem dX1_judgeDrop_19 : decode cX1_judgeDrop 19 = .ok (.areturn, 1) := by decide +kernel
theorem dX1_judgeDrop_20 : decode cX1_judgeDrop 20 = .ok (.aload_n 0, 1) := by decide +kernel
theorem dX1_judgeDrop_21 : decode cX1_judgeDrop 21 = .ok (.iload_n 1, 1) := by decide +kernel
theorem dX1_judgeDrop_22 : decode cX1_judgeDrop 22 = .ok (.iload_n 2, 1) := by decide +kernel
theorem dX1_judgeDrop_23 : decode cX1_judgeDrop 23 = .ok (.invokevirtual 162, 3) := by decide +kernel
theorem dX1_judgeDrop_26 : decode cX1_judgeDrop 26 = .ok (.ifCond .ne 7, 3) := by decide +kernel
theorem dX1_judgeDrop_29 : decode cX1_judgeDrop 29 = .ok (.getstatic 165, 3) := by decide +kernel
theorem dX1_judgeDrop_32 : decode cX1_judgeDrop 32 = .ok (.areturn, 1) := by decide +kernel
theorem dX1_judgeDrop_33 : decode cX1_judgeDrop 33 = .ok (.aload_n 0, 1) := by decide +kernel
theorem dX1_judgeDrop_34 : decode cX1_judgeDrop 34 = .ok (.getfield 43, 3) := by decide +kernel
theorem dX1_judgeDrop_37 : decode cX1_judgeDrop 37 = .ok (.iload_n 2, 1) := by decide +kernel
theorem dX1_judgeDrop_38 : decode cX1_judgeDrop 38 = .ok (.iaload, 1) := by decide +kernel
theorem dX1_judgeDrop_39 : decode cX1_judgeDrop 39 = .ok (.iload_n 1, 1) := by decide +kernel
theorem dX1_judgeDrop_40 : decode cX1_judgeDrop 40 = .ok (.if_icmp .ne 9, 3) := by decide +kernel
theorem dX1_judgeDrop_43 : decode cX1_judgeDrop 43 = .ok (.getstatic 114, 3) := by decide +kernel
theorem dX1_judgeDrop_46 : decode cX1_judgeDrop 46 = .ok (.goto 6, 3) := by decide +kernel
theorem dX1_judgeDrop_49 : decode cX1_judgeDrop 49 = .ok (.getstatic 117, 3) := by decide +kernel
theorem dX1_judgeDrop_52 : decode cX1_judgeDrop 52 = .ok (.areturn, 1) := by decide +kernel
set_option maxRecDepth 20000 in
theorem ggX1_judgeFerry_X1_isPlayer : GoodIn wsX1_judgeFerry wsX1_isPlayer := goodIn_r _ [14, 15, 34, 35, 36, 37, 38, 39, 40, 41, 42, 43, 44, 45, 46, 47, 48, 49] (by decide +kernel) (by decide +kernel)
set_option maxRecDepth 20000 in
theorem gX1_judgeFerry_X1_isPlayer : GoodIn wsX1_judgeFerry (wsV RX1 143 RX1 yX1_isPlayer wsX1_isPlayer) := goodIn_app (goodIn_of _ (by decide +kernel)) ggX1_judgeFerry_X1_isPlayer
set_option maxRecDepth 20000 in
theorem ggX1_judgeFerry_X1_isSite : GoodIn wsX1_judgeFerry wsX1_isSite := goodIn_r _ [19, 20, 34, 35, 36, 37, 38, 39, 40, 41, 42, 43, 44, 45, 46, 47, 48, 49] (by decide +kernel) (by decide +kernel)
set_option maxRecDepth 20000 in
theorem gX1_judgeFerry_X1_isSite : GoodIn wsX1_judgeFerry (wsV RX1 146 RX1 yX1_isSite wsX1_isSite) := goodIn_app (goodIn_of _ (by decide +kernel)) ggX1_judgeFerry_X1_isSite
set_option maxRecDepth 20000 in
theorem ggX1_judgeFerry_X1_hasBid : GoodIn wsX1_judgeFerry wsX1_hasBid := goodIn_ca (goodIn_r _ [24, 25, 26, 27, 13, 28, 34, 35, 36, 37, 38, 39, 40, 41, 42, 43, 44, 45, 46, 47, 48, 49] (by decide +kernel) (by decide +kernel)) (goodIn_sub (fun _ h => List.mem_cons_of_mem _ (List.mem_append_right _ h)) (by decide +kernel))
set_option maxRecDepth 20000 in
theorem gX1_judgeFerry_X1_hasBid : GoodIn wsX1_judgeFerry (wsV RX1 162 RX1 yX1_hasBid wsX1_hasBid) := goodIn_app (goodIn_of _ (by decide +kernel)) ggX1_judgeFerry_X1_hasBid
set_option maxRecDepth 20000 in
theorem ggX1_judgeFerry_X1_hasUsedFerry : GoodIn wsX1_judgeFerry wsX1_hasUsedFerry := goodIn_r _ [32, 33, 34, 35, 36, 37, 38, 39, 40, 41, 42, 43, 44, 45, 46, 47, 48, 49] (by decide +kernel) (by decide +kernel)
set_option maxRecDepth 20000 in
theorem gX1_judgeFerry_X1_hasUsedFerry : GoodIn wsX1_judgeFerry (wsV RX1 168 RX1 yX1_hasUsedFerry wsX1_hasUsedFerry) := goodIn_app (goodIn_of _ (by decide +kernel)) ggX1_judgeFerry_X1_hasUsedFerry
theorem dX1_judgeFerry_0 : decode cX1_judgeFerry 0 = .ok (.aload_n 0, 1) := by decide +kernel
theorem dX1_judgeFerry_1 : decode cX1_judgeFerry 1 = .ok (.iload_n 1, 1) := by decide +kernel
theorem dX1_judgeFerry_2 : decode cX1_judgeFerry 2 = .ok (.invokevirtual 143, 3) := by decide +kernel
theorem dX1_judgeFerry_5 : decode cX1_judgeFerry 5 = .ok (.ifCond .eq 11, 3) := by decide +kernel
theorem dX1_judgeFerry_8 : decode cX1_judgeFerry 8 = .ok (.aload_n 0, 1) := by decide +kernel
theorem dX1_judgeFerry_9 : decode cX1_judgeFerry 9 = .ok (.iload_n 2, 1) := by decide +kernel
theorem dX1_judgeFerry_10 : decode cX1_judgeFerry 10 = .ok (.invokevirtual 146, 3) := by decide +kernel
theorem dX1_judgeFerry_13 : decode cX1_judgeFerry 13 = .ok (.ifCond .ne 7, 3) := by decide +kernel
theorem dX1_judgeFerry_16 : decode cX1_judgeFerry 16 = .ok (.getstatic 124, 3) := by decide +kernel
theorem dX1_judgeFerry_19 : decode cX1_judgeFerry 19 = .ok (.areturn, 1) := by decide +kernel
theorem dX1_judgeFerry_20 : decode cX1_judgeFerry 20 = .ok (.aload_n 0, 1) := by decide +kernel
theorem dX1_judgeFerry_21 : decode cX1_judgeFerry 21 = .ok (.iload_n 1, 1) := by decide +kernel
theorem dX1_judgeFerry_22 : decode cX1_judgeFerry 22 = .ok (.iload_n 2, 1) := by decide +kernel
theorem dX1_judgeFerry_23 : decode cX1_judgeFerry 23 = .ok (.invokevirtual 162, 3) := by decide +kernel
theorem dX1_judgeFerry_26 : decode cX1_judgeFerry 26 = .ok (.ifCond .ne 7, 3) := by decide +kernel
theorem dX1_judgeFerry_29 : decode cX1_judgeFerry 29 = .ok (.getstatic 165, 3) := by decide +kernel
theorem dX1_judgeFerry_32 : decode cX1_judgeFerry 32 = .ok (.areturn, 1) := by decide +kernel
theorem dX1_judgeFerry_33 : decode cX1_judgeFerry 33 = .ok (.aload_n 0, 1) := by decide +kernel
theorem dX1_judgeFerry_34 : decode cX1_judgeFerry 34 = .ok (.iload_n 1, 1) := by decide +kernel
theorem dX1_judgeFerry_35 : decode cX1_judgeFerry 35 = .ok (.invokevirtual 168, 3) := by decide +kernel
theorem dX1_judgeFerry_38 : decode cX1_judgeFerry 38 = .ok (.ifCond .ne 13, 3) := by decide +kernel
theorem dX1_judgeFerry_41 : decode cX1_judgeFerry 41 = .ok (.aload_n 0, 1) := by decide +kernel
theorem dX1_judgeFerry_42 : decode cX1_judgeFerry 42 = .ok (.getfield 43, 3) := by decide +kernel
theorem dX1_judgeFerry_45 : decode cX1_judgeFerry 45 = .ok (.iload_n 2, 1) := by decide +kernel
theorem dX1_judgeFerry_46 : decode cX1_judgeFerry 46 = .ok (.iaload, 1) := by decide +kernel
theorem dX1_judgeFerry_47 : decode cX1_judgeFerry 47 = .ok (.iconst (-1), 1) := by decide +kernel
theorem dX1_judgeFerry_48 : decode cX1_judgeFerry 48 = .ok (.if_icmp .eq 7, 3) := by decide +kernel
theorem dX1_judgeFerry_51 : decode cX1_judgeFerry 51 = .ok (.getstatic 114, 3) := by decide +kernel
theorem dX1_judgeFerry_54 : decode cX1_judgeFerry 54 = .ok (.areturn, 1) := by decide +kernel
theorem dX1_judgeFerry_55 : decode cX1_judgeFerry 55 = .ok (.aload_n 0, 1) := by decide +kernel
theorem dX1_judgeFerry_56 : decode cX1_judgeFerry 56 = .ok (.getfield 9, 3) := by decide +kernel
theorem dX1_judgeFerry_59 : decode cX1_judgeFerry 59 = .ok (.aload_n 0, 1) := by decide +kernel
theorem dX1_judgeFerry_60 : decode cX1_judgeFerry 60 = .ok (.getfield 31, 3) := by decide +kernel
theorem dX1_judgeFerry_63 : decode cX1_judgeFerry 63 = .ok (.iload_n 2, 1) := by decide +kernel
theorem dX1_judgeFerry_64 : decode cX1_judgeFerry 64 = .ok (.iaload, 1) := by decide +kernel
theorem dX1_judgeFerry_65 : decode cX1_judgeFerry 65 = .ok (.iaload, 1) := by decide +kernel
theorem dX1_judgeFerry_66 : decode cX1_judgeFerry 66 = .ok (.iload_n 1, 1) := by decide +kernel
theorem dX1_judgeFerry_67 : decode cX1_judgeFerry 67 = .ok (.if_icmp .eq 18, 3) := by decide +kernel
theorem dX1_judgeFerry_70 : decode cX1_judgeFerry 70 = .ok (.aload_n 0, 1) := by decide +kernel
theorem dX1_judgeFerry_71 : decode cX1_judgeFerry 71 = .ok (.getfield 9, 3) := by decide +kernel
theorem dX1_judgeFerry_74 : decode cX1_judgeFerry 74 = .ok (.aload_n 0, 1) := by decide +kernel
theorem dX1_judgeFerry_75 : decode cX1_judgeFerry 75 = .ok (.getfield 34, 3) := by decide +kernel
theorem dX1_judgeFerry_78 : decode cX1_judgeFerry 78 = .ok (.iload_n 2, 1) := by decide +kernel
theorem dX1_judgeFerry_79 : decode cX1_judgeFerry 79 = .ok (.iaload, 1) := by decide +kernel
theorem dX1_judgeFerry_80 : decode cX1_judgeFerry 80 = .ok (.iaload, 1) := by decide +kernel
theorem dX1_judgeFerry_81 : decode cX1_judgeFerry 81 = .ok (.iload_n 1, 1) := by decide +kernel
theorem dX1_judgeFerry_82 : decode cX1_judgeFerry 82 = .ok (.if_icmp .ne 7, 3) := by decide +kernel
theorem dX1_judgeFerry_85 : decode cX1_judgeFerry 85 = .ok (.iconst 1, 1) := by decide +kernel
theorem dX1_judgeFerry_86 : decode cX1_judgeFerry 86 = .ok (.goto 4, 3) := by decide +kernel
theorem dX1_judgeFerry_89 : decode cX1_judgeFerry 89 = .ok (.iconst 0, 1) := by decide +kernel
theorem dX1_judgeFerry_90 : decode cX1_judgeFerry 90 = .ok (.istore_n 3, 1) := by decide +kernel
theorem dX1_judgeFerry_91 : decode cX1_judgeFerry 91 = .ok (.iload_n 3, 1) := by decide +kernel
theorem dX1_judgeFerry_92 : decode cX1_judgeFerry 92 = .ok (.ifCond .eq 9, 3) := by decide +kernel
theorem dX1_judgeFerry_95 : decode cX1_judgeFerry 95 = .ok (.getstatic 117, 3) := by decide +kernel
theorem dX1_judgeFerry_98 : decode cX1_judgeFerry 98 = .ok (.goto 6, 3) := by decide +kernel
theorem dX1_judgeFerry_101 : decode cX1_judgeFerry 101 = .ok (.getstatic 140, 3) := by decide +kernel
theorem dX1_judgeFerry_104 : decode cX1_judgeFerry 104 = .ok (.areturn, 1) := by decide +kernel
set_option maxRecDepth 20000 in
theorem ggX1_judgeSettling_X1_isSite : GoodIn wsX1_judgeSettling wsX1_isSite := goodIn_r _ [9, 10, 34, 35, 36, 37, 38, 39, 40, 41, 42, 43, 44, 45, 46, 47, 48, 49] (by decide +kernel) (by decide +kernel)
set_option maxRecDepth 20000 in
theorem gX1_judgeSettling_X1_isSite : GoodIn wsX1_judgeSettling (wsV RX1 146 RX1 yX1_isSite wsX1_isSite) := goodIn_app (goodIn_of _ (by decide +kernel)) ggX1_judgeSettling_X1_isSite
set_option maxRecDepth 20000 in
theorem ggX1_judgeSettling_X1_hasBridge : GoodIn wsX1_judgeSettling wsX1_hasBridge := goodIn_ca (goodIn_r _ [14, 15, 34, 35, 36, 37, 38, 39, 40, 41, 42, 43, 44, 45, 46, 47, 48, 49] (by decide +kernel) (by decide +kernel)) (goodIn_sub (fun _ h => List.mem_cons_of_mem _ (List.mem_append_right _ h)) (by decide +kernel))
set_option maxRecDepth 20000 in
theorem gX1_judgeSettling_X1_hasBridge : GoodIn wsX1_judgeSettling (wsV RX1 149 RX1 yX1_hasBridge wsX1_hasBridge) := goodIn_app (goodIn_of _ (by decide +kernel)) ggX1_judgeSettling_X1_hasBridge
set_option maxRecDepth 20000 in
theorem ggX1_judgeSettling_X1_winnerOf : GoodIn wsX1_judgeSettling wsX1_winnerOf := goodIn_ca (goodIn_r _ [19, 20, 21, 22, 23, 24, 8, 25, 26, 27, 28, 29, 30, 31, 32, 33, 34, 35, 36, 37, 38, 39, 40, 41, 42, 43, 44, 45, 46, 47, 48, 49] (by decide +kernel) (by decide +kernel)) (goodIn_sub (fun _ h => List.mem_cons_of_mem _ (List.mem_append_right _ h)) (by decide +kernel))
set_option maxRecDepth 20000 in
theorem gX1_judgeSettling_X1_winnerOf : GoodIn wsX1_judgeSettling (wsV RX1 171 RX1 yX1_winnerOf wsX1_winnerOf) := goodIn_app (goodIn_of _ (by decide +kernel)) ggX1_judgeSettling_X1_winnerOf
theorem dX1_judgeSettling_0 : decode cX1_judgeSettling 0 = .ok (.aload_n 0, 1) := by decide +kernel
theorem dX1_judgeSettling_1 : decode cX1_judgeSettling 1 = .ok (.iload_n 1, 1) := by decide +kernel
theorem dX1_judgeSettling_2 : decode cX1_judgeSettling 2 = .ok (.invokevirtual 146, 3) := by decide +kernel
theorem dX1_judgeSettling_5 : decode cX1_judgeSettling 5 = .ok (.ifCond .ne 7, 3) := by decide +kernel
theorem dX1_judgeSettling_8 : decode cX1_judgeSettling 8 = .ok (.getstatic 124, 3) := by decide +kernel
theorem dX1_judgeSettling_11 : decode cX1_judgeSettling 11 = .ok (.areturn, 1) := by decide +kernel
theorem dX1_judgeSettling_12 : decode cX1_judgeSettling 12 = .ok (.aload_n 0, 1) := by decide +kernel
theorem dX1_judgeSettling_13 : decode cX1_judgeSettling 13 = .ok (.iload_n 1, 1) := by decide +kernel
theorem dX1_judgeSettling_14 : decode cX1_judgeSettling 14 = .ok (.invokevirtual 149, 3) := by decide +kernel
theorem dX1_judgeSettling_17 : decode cX1_judgeSettling 17 = .ok (.ifCond .eq 7, 3) := by decide +kernel
theorem dX1_judgeSettling_20 : decode cX1_judgeSettling 20 = .ok (.getstatic 114, 3) := by decide +kernel
theorem dX1_judgeSettling_23 : decode cX1_judgeSettling 23 = .ok (.areturn, 1) := by decide +kernel
theorem dX1_judgeSettling_24 : decode cX1_judgeSettling 24 = .ok (.aload_n 0, 1) := by decide +kernel
theorem dX1_judgeSettling_25 : decode cX1_judgeSettling 25 = .ok (.iload_n 1, 1) := by decide +kernel
theorem dX1_judgeSettling_26 : decode cX1_judgeSettling 26 = .ok (.invokevirtual 171, 3) := by decide +kernel
theorem dX1_judgeSettling_29 : decode cX1_judgeSettling 29 = .ok (.iconst (-1), 1) := by decide +kernel
theorem dX1_judgeSettling_30 : decode cX1_judgeSettling 30 = .ok (.if_icmp .ne 9, 3) := by decide +kernel
theorem dX1_judgeSettling_33 : decode cX1_judgeSettling 33 = .ok (.getstatic 165, 3) := by decide +kernel
theorem dX1_judgeSettling_36 : decode cX1_judgeSettling 36 = .ok (.goto 6, 3) := by decide +kernel
theorem dX1_judgeSettling_39 : decode cX1_judgeSettling 39 = .ok (.getstatic 117, 3) := by decide +kernel
theorem dX1_judgeSettling_42 : decode cX1_judgeSettling 42 = .ok (.areturn, 1) := by decide +kernel
set_option maxRecDepth 20000 in
theorem ggX1_play_Jx29ce0_ordinal_8abf5 : GoodIn wsX1_play wsJx29ce0_ordinal_8abf5 := goodIn_r _ [8, 9] (by decide +kernel) (by decide +kernel)
set_option maxRecDepth 20000 in
theorem gX1_play_Jx29ce0_ordinal_8abf5_u72X5 : GoodIn wsX1_play (va_wsU RX1 72 RX5 "java/lang/Enum" ⟨"BridgeAuction$Verb", "ordinal", "()I"⟩ yJx29ce0_ordinal_8abf5 wsJx29ce0_ordinal_8abf5) := goodIn_app (goodIn_of _ (by decide +kernel)) ggX1_play_Jx29ce0_ordinal_8abf5
set_option maxRecDepth 20000 in
theorem ggX1_play_X1_join : GoodIn wsX1_play wsX1_join := goodIn_ca (goodIn_r _ [14, 15, 16, 17, 107, 108, 109, 110, 111, 112, 113, 114, 115, 116, 117, 118, 119, 120, 121, 122] (by decide +kernel) (by decide +kernel)) (goodIn_sub (fun _ h => List.mem_cons_of_mem _ (List.mem_append_right _ h)) (by decide +kernel))
set_option maxRecDepth 20000 in
theorem gX1_play_X1_join : GoodIn wsX1_play (wsV RX1 174 RX1 yX1_join wsX1_join) := goodIn_app (goodIn_of _ (by decide +kernel)) ggX1_play_X1_join
set_option maxRecDepth 20000 in
theorem ggX1_play_X1_open : GoodIn wsX1_play wsX1_open := goodIn_ca (goodIn_r _ [21, 22, 23, 24, 25, 26, 27, 28, 29, 30, 31, 32, 33, 34, 107, 108, 109, 110, 111, 112, 113, 114, 115, 116, 117, 118, 119, 120, 121, 122] (by decide +kernel) (by decide +kernel)) (goodIn_sub (fun _ h => List.mem_cons_of_mem _ (List.mem_append_right _ h)) (by decide +kernel))
set_option maxRecDepth 20000 in
theorem gX1_play_X1_open : GoodIn wsX1_play (wsV RX1 177 RX1 yX1_open wsX1_open) := goodIn_app (goodIn_of _ (by decide +kernel)) ggX1_play_X1_open
set_option maxRecDepth 20000 in
theorem ggX1_play_X1_giveSuit : GoodIn wsX1_play wsX1_giveSuit := goodIn_ca (goodIn_r _ [38, 39, 107, 108, 109, 110, 111, 112, 113, 114, 115, 116, 117, 118, 119, 120, 121, 122] (by decide +kernel) (by decide +kernel)) (goodIn_sub (fun _ h => List.mem_cons_of_mem _ (List.mem_append_right _ h)) (by decide +kernel))
set_option maxRecDepth 20000 in
theorem gX1_play_X1_giveSuit : GoodIn wsX1_play (wsV RX1 181 RX1 yX1_giveSuit wsX1_giveSuit) := goodIn_app (goodIn_of _ (by decide +kernel)) ggX1_play_X1_giveSuit
set_option maxRecDepth 20000 in
theorem ggX1_play_X1_moveTide : GoodIn wsX1_play wsX1_moveTide := goodIn_r _ [43, 44, 107, 108, 109, 110, 111, 112, 113, 114, 115, 116, 117, 118, 119, 120, 121, 122] (by decide +kernel) (by decide +kernel)
set_option maxRecDepth 20000 in
theorem gX1_play_X1_moveTide : GoodIn wsX1_play (wsV RX1 184 RX1 yX1_moveTide wsX1_moveTide) := goodIn_app (goodIn_of _ (by decide +kernel)) ggX1_play_X1_moveTide
set_option maxRecDepth 20000 in
theorem ggX1_play_X1_slot : GoodIn wsX1_play wsX1_slot := goodIn_r _ [47] (by decide +kernel) (by decide +kernel)
set_option maxRecDepth 20000 in
theorem gX1_play_X1_slot : GoodIn wsX1_play (va_wsS RX1 187 yX1_slot wsX1_slot) := goodIn_app (goodIn_of _ (by decide +kernel)) ggX1_play_X1_slot
set_option maxRecDepth 20000 in
theorem ggX1_play_X1_availableTo : GoodIn wsX1_play wsX1_availableTo := goodIn_ca (goodIn_r _ [51, 16, 22, 52, 53, 54, 13, 55, 2, 29, 30, 26, 31, 45, 46, 47, 107, 108, 109, 110, 111, 112, 113, 114, 115, 116, 117, 118, 119, 120, 121, 122] (by decide +kernel) (by decide +kernel)) (goodIn_sub (fun _ h => List.mem_cons_of_mem _ (List.mem_append_right _ h)) (by decide +kernel))
set_option maxRecDepth 20000 in
theorem gX1_play_X1_availableTo : GoodIn wsX1_play (wsV RX1 155 RX1 yX1_availableTo wsX1_availableTo) := goodIn_app (goodIn_of _ (by decide +kernel)) ggX1_play_X1_availableTo
set_option maxRecDepth 20000 in
theorem ggX1_play_X1_bidsAbove : GoodIn wsX1_play wsX1_bidsAbove := goodIn_ca (goodIn_r _ [59, 15, 60, 61, 62, 13, 63, 2, 64, 65, 26, 66, 45, 46, 47, 107, 108, 109, 110, 111, 112, 113, 114, 115, 116, 117, 118, 119, 120, 121, 122] (by decide +kernel) (by decide +kernel)) (goodIn_sub (fun _ h => List.mem_cons_of_mem _ (List.mem_append_right _ h)) (by decide +kernel))
set_option maxRecDepth 20000 in
theorem gX1_play_X1_bidsAbove : GoodIn wsX1_play (wsV RX1 152 RX1 yX1_bidsAbove wsX1_bidsAbove) := goodIn_app (goodIn_of _ (by decide +kernel)) ggX1_play_X1_bidsAbove
set_option maxRecDepth 20000 in
theorem ggX1_play_X1_sendFerry : GoodIn wsX1_play wsX1_sendFerry := goodIn_ca (goodIn_r _ [70, 34, 71, 60, 61, 62, 13, 63, 2, 64, 65, 26, 66, 45, 46, 47, 56, 57, 58, 59, 15, 107, 108, 109, 110, 111, 112, 113, 114, 115, 116, 117, 118, 119, 120, 121, 122] (by decide +kernel) (by decide +kernel)) (goodIn_sub (fun _ h => List.mem_cons_of_mem _ (List.mem_append_right _ h)) (by decide +kernel))
set_option maxRecDepth 20000 in
theorem gX1_play_X1_sendFerry : GoodIn wsX1_play (wsV RX1 190 RX1 yX1_sendFerry wsX1_sendFerry) := goodIn_app (goodIn_of _ (by decide +kernel)) ggX1_play_X1_sendFerry
set_option maxRecDepth 20000 in
theorem ggX1_play_X1_drop : GoodIn wsX1_play wsX1_drop := goodIn_ca (goodIn_r _ [75, 2, 60, 61, 62, 13, 63, 64, 65, 26, 66, 45, 46, 47, 107, 108, 109, 110, 111, 112, 113, 114, 115, 116, 117, 118, 119, 120, 121, 122] (by decide +kernel) (by decide +kernel)) (goodIn_sub (fun _ h => List.mem_cons_of_mem _ (List.mem_append_right _ h)) (by decide +kernel))
set_option maxRecDepth 20000 in
theorem gX1_play_X1_drop : GoodIn wsX1_play (wsV RX1 193 RX1 yX1_drop wsX1_drop) := goodIn_app (goodIn_of _ (by decide +kernel)) ggX1_play_X1_drop
set_option maxRecDepth 20000 in
theorem ggX1_play_X1_close : GoodIn wsX1_play wsX1_close := goodIn_ca (goodIn_r _ [79, 80, 81, 24, 25, 26, 27, 33, 82, 83, 84, 13, 85, 34, 15, 60, 61, 62, 63, 2, 64, 65, 66, 45, 46, 47, 86, 87, 88, 89, 90, 91, 92, 93, 52, 53, 54, 55, 29, 30, 31, 94, 95, 96, 97, 32, 44, 98, 99, 100, 101, 48, 49, 50, 51, 16, 22, 102, 103, 104, 105, 106, 107, 108, 109, 110, 111, 112, 113, 114, 115, 116, 117, 118, 119, 120, 121, 122] (by decide +kernel) (by decide +kernel)) (goodIn_sub (fun _ h => List.mem_cons_of_mem _ (List.mem_append_right _ h)) (by decide +kernel))
set_option maxRecDepth 20000 in
theorem gX1_play_X1_close : GoodIn wsX1_play (wsV RX1 196 RX1 yX1_close wsX1_close) := goodIn_app (goodIn_of _ (by decide +kernel)) ggX1_play_X1_close
theorem dX1_play_0 : decode cX1_play 0 = .ok (.getstatic 67, 3) := by decide +kernel
theorem dX1_play_3 : decode cX1_play 3 = .ok (.aload_n 1, 1) := by decide +kernel
theorem dX1_play_4 : decode cX1_play 4 = .ok (.invokevirtual 72, 3) := by decide +kernel
theorem dX1_play_7 : decode cX1_play 7 = .ok (.iaload, 1) := by decide +kernel
theorem dX1_play_8 : decode cX1_play 8 = .ok (.tableswitch 128 1 8 #[48, 54, 63, 70, 76, 94, 114, 121], 48) := by decide +kernel
theorem dX1_play_56 : decode cX1_play 56 = .ok (.aload_n 0, 1) := by decide +kernel
theorem dX1_play_57 : decode cX1_play 57 = .ok (.iload_n 2, 1) := by decide +kernel
theorem dX1_play_58 : decode cX1_play 58 = .ok (.invokevirtual 174, 3) := by decide +kernel
theorem dX1_play_61 : decode cX1_play 61 = .ok (.ireturn, 1) := by decide +kernel
theorem dX1_play_62 : decode cX1_play 62 = .ok (.aload_n 0, 1) := by decide +kernel
theorem dX1_play_63 : decode cX1_play 63 = .ok (.iload_n 2, 1) := by decide +kernel
theorem dX1_play_64 : decode cX1_play 64 = .ok (.iload_n 3, 1) := by decide +kernel
theorem dX1_play_65 : decode cX1_play 65 = .ok (.iload 4, 2) := by decide +kernel
theorem dX1_play_67 : decode cX1_play 67 = .ok (.invokevirtual 177, 3) := by decide +kernel
theorem dX1_play_70 : decode cX1_play 70 = .ok (.ireturn, 1) := by decide +kernel
theorem dX1_play_71 : decode cX1_play 71 = .ok (.aload_n 0, 1) := by decide +kernel
theorem dX1_play_72 : decode cX1_play 72 = .ok (.iload_n 2, 1) := by decide +kernel
theorem dX1_play_73 : decode cX1_play 73 = .ok (.iload_n 3, 1) := by decide +kernel
theorem dX1_play_74 : decode cX1_play 74 = .ok (.invokevirtual 181, 3) := by decide +kernel
theorem dX1_play_77 : decode cX1_play 77 = .ok (.ireturn, 1) := by decide +kernel
theorem dX1_play_78 : decode cX1_play 78 = .ok (.aload_n 0, 1) := by decide +kernel
theorem dX1_play_79 : decode cX1_play 79 = .ok (.iload_n 2, 1) := by decide +kernel
theorem dX1_play_80 : decode cX1_play 80 = .ok (.invokevirtual 184, 3) := by decide +kernel
theorem dX1_play_83 : decode cX1_play 83 = .ok (.ireturn, 1) := by decide +kernel
theorem dX1_play_84 : decode cX1_play 84 = .ok (.aload_n 0, 1) := by decide +kernel
theorem dX1_play_85 : decode cX1_play 85 = .ok (.getfield 46, 3) := by decide +kernel
theorem dX1_play_88 : decode cX1_play 88 = .ok (.iload_n 2, 1) := by decide +kernel
theorem dX1_play_89 : decode cX1_play 89 = .ok (.iload_n 3, 1) := by decide +kernel
theorem dX1_play_90 : decode cX1_play 90 = .ok (.invokestatic 187, 3) := by decide +kernel
theorem dX1_play_93 : decode cX1_play 93 = .ok (.iload 4, 2) := by decide +kernel
theorem dX1_play_95 : decode cX1_play 95 = .ok (.iastore, 1) := by decide +kernel
theorem dX1_play_96 : decode cX1_play 96 = .ok (.aload_n 0, 1) := by decide +kernel
theorem dX1_play_97 : decode cX1_play 97 = .ok (.iload_n 2, 1) := by decide +kernel
theorem dX1_play_98 : decode cX1_play 98 = .ok (.invokevirtual 155, 3) := by decide +kernel
theorem dX1_play_101 : decode cX1_play 101 = .ok (.ireturn, 1) := by decide +kernel
theorem dX1_play_102 : decode cX1_play 102 = .ok (.aload_n 0, 1) := by decide +kernel
theorem dX1_play_103 : decode cX1_play 103 = .ok (.getfield 46, 3) := by decide +kernel
theorem dX1_play_106 : decode cX1_play 106 = .ok (.iload_n 2, 1) := by decide +kernel
theorem dX1_play_107 : decode cX1_play 107 = .ok (.iload_n 3, 1) := by decide +kernel
theorem dX1_play_108 : decode cX1_play 108 = .ok (.invokestatic 187, 3) := by decide +kernel
theorem dX1_play_111 : decode cX1_play 111 = .ok (.iload 4, 2) := by decide +kernel
theorem dX1_play_113 : decode cX1_play 113 = .ok (.ineg, 1) := by decide +kernel
theorem dX1_play_114 : decode cX1_play 114 = .ok (.iastore, 1) := by decide +kernel
theorem dX1_play_115 : decode cX1_play 115 = .ok (.aload_n 0, 1) := by decide +kernel
theorem dX1_play_116 : decode cX1_play 116 = .ok (.iload_n 3, 1) := by decide +kernel
theorem dX1_play_117 : decode cX1_play 117 = .ok (.iconst 0, 1) := by decide +kernel
theorem dX1_play_118 : decode cX1_play 118 = .ok (.invokevirtual 152, 3) := by decide +kernel
theorem dX1_play_121 : decode cX1_play 121 = .ok (.ireturn, 1) := by decide +kernel
theorem dX1_play_122 : decode cX1_play 122 = .ok (.aload_n 0, 1) := by decide +kernel
theorem dX1_play_123 : decode cX1_play 123 = .ok (.iload_n 2, 1) := by decide +kernel
theorem dX1_play_124 : decode cX1_play 124 = .ok (.iload_n 3, 1) := by decide +kernel
theorem dX1_play_125 : decode cX1_play 125 = .ok (.invokevirtual 190, 3) := by decide +kernel
theorem dX1_play_128 : decode cX1_play 128 = .ok (.ireturn, 1) := by decide +kernel
theorem dX1_play_129 : decode cX1_play 129 = .ok (.aload_n 0, 1) := by decide +kernel
theorem dX1_play_130 : decode cX1_play 130 = .ok (.iload_n 2, 1) := by decide +kernel
theorem dX1_play_131 : decode cX1_play 131 = .ok (.iload_n 3, 1) := by decide +kernel
theorem dX1_play_132 : decode cX1_play 132 = .ok (.invokevirtual 193, 3) := by decide +kernel
theorem dX1_play_135 : decode cX1_play 135 = .ok (.ireturn, 1) := by decide +kernel
theorem dX1_play_136 : decode cX1_play 136 = .ok (.aload_n 0, 1) := by decide +kernel
theorem dX1_play_137 : decode cX1_play 137 = .ok (.iload_n 2, 1) := by decide +kernel
theorem dX1_play_138 : decode cX1_play 138 = .ok (.invokevirtual 196, 3) := by decide +kernel
theorem dX1_play_141 : decode cX1_play 141 = .ok (.ifCond .eq 7, 3) := by decide +kernel
theorem dX1_play_144 : decode cX1_play 144 = .ok (.iconst 1, 1) := by decide +kernel
theorem dX1_play_145 : decode cX1_play 145 = .ok (.goto 4, 3) := by decide +kernel
theorem dX1_play_148 : decode cX1_play 148 = .ok (.iconst 0, 1) := by decide +kernel
theorem dX1_play_149 : decode cX1_play 149 = .ok (.ireturn, 1) := by decide +kernel
theorem dX1_join_0 : decode cX1_join 0 = .ok (.aload_n 0, 1) := by decide +kernel
theorem dX1_join_1 : decode cX1_join 1 = .ok (.getfield 19, 3) := by decide +kernel
theorem dX1_join_4 : decode cX1_join 4 = .ok (.istore_n 2, 1) := by decide +kernel
theorem dX1_join_5 : decode cX1_join 5 = .ok (.aload_n 0, 1) := by decide +kernel
theorem dX1_join_6 : decode cX1_join 6 = .ok (.getfield 22, 3) := by decide +kernel
theorem dX1_join_9 : decode cX1_join 9 = .ok (.iload_n 2, 1) := by decide +kernel
theorem dX1_join_10 : decode cX1_join 10 = .ok (.iload_n 1, 1) := by decide +kernel
theorem dX1_join_11 : decode cX1_join 11 = .ok (.iastore, 1) := by decide +kernel
theorem dX1_join_12 : decode cX1_join 12 = .ok (.aload_n 0, 1) := by decide +kernel
theorem dX1_join_13 : decode cX1_join 13 = .ok (.dup, 1) := by decide +kernel
theorem dX1_join_14 : decode cX1_join 14 = .ok (.getfield 49, 3) := by decide +kernel
theorem dX1_join_17 : decode cX1_join 17 = .ok (.iload_n 1, 1) := by decide +kernel
theorem dX1_join_18 : decode cX1_join 18 = .ok (.iadd, 1) := by decide +kernel
theorem dX1_join_19 : decode cX1_join 19 = .ok (.putfield 49, 3) := by decide +kernel
theorem dX1_join_22 : decode cX1_join 22 = .ok (.aload_n 0, 1) := by decide +kernel
theorem dX1_join_23 : decode cX1_join 23 = .ok (.dup, 1) := by decide +kernel
theorem dX1_join_24 : decode cX1_join 24 = .ok (.getfield 19, 3) := by decide +kernel
theorem dX1_join_27 : decode cX1_join 27 = .ok (.iconst 1, 1) := by decide +kernel
theorem dX1_join_28 : decode cX1_join 28 = .ok (.iadd, 1) := by decide +kernel
theorem dX1_join_29 : decode cX1_join 29 = .ok (.putfield 19, 3) := by decide +kernel
theorem dX1_join_32 : decode cX1_join 32 = .ok (.iload_n 2, 1) := by decide +kernel
theorem dX1_join_33 : decode cX1_join 33 = .ok (.ireturn, 1) := by decide +kernel
theorem dX1_open_0 : decode cX1_open 0 = .ok (.aload_n 0, 1) := by decide +kernel
theorem dX1_open_1 : decode cX1_open 1 = .ok (.getfield 28, 3) := by decide +kernel
theorem dX1_open_4 : decode cX1_open 4 = .ok (.istore 4, 2) := by decide +kernel
theorem dX1_open_6 : decode cX1_open 6 = .ok (.aload_n 0, 1) := by decide +kernel
theorem dX1_open_7 : decode cX1_open 7 = .ok (.getfield 31, 3) := by decide +kernel
theorem dX1_open_10 : decode cX1_open 10 = .ok (.iload 4, 2) := by decide +kernel
theorem dX1_open_12 : decode cX1_open 12 = .ok (.iload_n 1, 1) := by decide +kernel
theorem dX1_open_13 : decode cX1_open 13 = .ok (.iload_n 2, 1) := by decide +kernel
theorem dX1_open_14 : decode cX1_open 14 = .ok (.invokestatic 127, 3) := by decide +kernel
theorem dX1_open_17 : decode cX1_open 17 = .ok (.iastore, 1) := by decide +kernel
theorem dX1_open_18 : decode cX1_open 18 = .ok (.aload_n 0, 1) := by decide +kernel
theorem dX1_open_19 : decode cX1_open 19 = .ok (.getfield 34, 3) := by decide +kernel
theorem dX1_open_22 : decode cX1_open 22 = .ok (.iload 4, 2) := by decide +kernel
theorem dX1_open_24 : decode cX1_open 24 = .ok (.iload_n 1, 1) := by decide +kernel
theorem dX1_open_25 : decode cX1_open 25 = .ok (.iload_n 2, 1) := by decide +kernel
theorem dX1_open_26 : decode cX1_open 26 = .ok (.invokestatic 133, 3) := by decide +kernel
theorem dX1_open_29 : decode cX1_open 29 = .ok (.iastore, 1) := by decide +kernel
theorem dX1_open_30 : decode cX1_open 30 = .ok (.aload_n 0, 1) := by decide +kernel
theorem dX1_open_31 : decode cX1_open 31 = .ok (.getfield 37, 3) := by decide +kernel
theorem dX1_open_34 : decode cX1_open 34 = .ok (.iload 4, 2) := by decide +kernel
theorem dX1_open_36 : decode cX1_open 36 = .ok (.iload_n 3, 1) := by decide +kernel
theorem dX1_open_37 : decode cX1_open 37 = .ok (.iastore, 1) := by decide +kernel
theorem dX1_open_38 : decode cX1_open 38 = .ok (.aload_n 0, 1) := by decide +kernel
theorem dX1_open_39 : decode cX1_open 39 = .ok (.getfield 40, 3) := by decide +kernel
theorem dX1_open_42 : decode cX1_open 42 = .ok (.iload 4, 2) := by decide +kernel
theorem dX1_open_44 : decode cX1_open 44 = .ok (.iconst (-1), 1) := by decide +kernel
theorem dX1_open_45 : decode cX1_open 45 = .ok (.iastore, 1) := by decide +kernel
theorem dX1_open_46 : decode cX1_open 46 = .ok (.aload_n 0, 1) := by decide +kernel
theorem dX1_open_47 : decode cX1_open 47 = .ok (.getfield 43, 3) := by decide +kernel
theorem dX1_open_50 : decode cX1_open 50 = .ok (.iload 4, 2) := by decide +kernel
theorem dX1_open_52 : decode cX1_open 52 = .ok (.iconst (-1), 1) := by decide +kernel
theorem dX1_open_53 : decode cX1_open 53 = .ok (.iastore, 1) := by decide +kernel
theorem dX1_open_54 : decode cX1_open 54 = .ok (.aload_n 0, 1) := by decide +kernel
theorem dX1_open_55 : decode cX1_open 55 = .ok (.dup, 1) := by decide +kernel
theorem dX1_open_56 : decode cX1_open 56 = .ok (.getfield 28, 3) := by decide +kernel
theorem dX1_open_59 : decode cX1_open 59 = .ok (.iconst 1, 1) := by decide +kernel
theorem dX1_open_60 : decode cX1_open 60 = .ok (.iadd, 1) := by decide +kernel
theorem dX1_open_61 : decode cX1_open 61 = .ok (.putfield 28, 3) := by decide +kernel
theorem dX1_open_64 : decode cX1_open 64 = .ok (.iload 4, 2) := by decide +kernel
theorem dX1_open_66 : decode cX1_open 66 = .ok (.ireturn, 1) := by decide +kernel
theorem dX1_giveSuit_0 : decode cX1_giveSuit 0 = .ok (.aload_n 0, 1) := by decide +kernel
theorem dX1_giveSuit_1 : decode cX1_giveSuit 1 = .ok (.getfield 9, 3) := by decide +kernel
theorem dX1_giveSuit_4 : decode cX1_giveSuit 4 = .ok (.iload_n 1, 1) := by decide +kernel
theorem dX1_giveSuit_5 : decode cX1_giveSuit 5 = .ok (.iaload, 1) := by decide +kernel
theorem dX1_giveSuit_6 : decode cX1_giveSuit 6 = .ok (.istore_n 3, 1) := by decide +kernel
theorem dX1_giveSuit_7 : decode cX1_giveSuit 7 = .ok (.aload_n 0, 1) := by decide +kernel
theorem dX1_giveSuit_8 : decode cX1_giveSuit 8 = .ok (.getfield 9, 3) := by decide +kernel
theorem dX1_giveSuit_11 : decode cX1_giveSuit 11 = .ok (.iload_n 1, 1) := by decide +kernel
theorem dX1_giveSuit_12 : decode cX1_giveSuit 12 = .ok (.iload_n 2, 1) := by decide +kernel
theorem dX1_giveSuit_13 : decode cX1_giveSuit 13 = .ok (.iastore, 1) := by decide +kernel
theorem dX1_giveSuit_14 : decode cX1_giveSuit 14 = .ok (.iload_n 3, 1) := by decide +kernel
theorem dX1_giveSuit_15 : decode cX1_giveSuit 15 = .ok (.ireturn, 1) := by decide +kernel
theorem dX1_moveTide_0 : decode cX1_moveTide 0 = .ok (.aload_n 0, 1) := by decide +kernel
theorem dX1_moveTide_1 : decode cX1_moveTide 1 = .ok (.getfield 15, 3) := by decide +kernel
theorem dX1_moveTide_4 : decode cX1_moveTide 4 = .ok (.istore_n 2, 1) := by decide +kernel
theorem dX1_moveTide_5 : decode cX1_moveTide 5 = .ok (.aload_n 0, 1) := by decide +kernel
theorem dX1_moveTide_6 : decode cX1_moveTide 6 = .ok (.iload_n 1, 1) := by decide +kernel
theorem dX1_moveTide_7 : decode cX1_moveTide 7 = .ok (.putfield 15, 3) := by decide +kernel
theorem dX1_moveTide_10 : decode cX1_moveTide 10 = .ok (.iload_n 2, 1) := by decide +kernel
theorem dX1_moveTide_11 : decode cX1_moveTide 11 = .ok (.ireturn, 1) := by decide +kernel
set_option maxRecDepth 20000 in
theorem ggX1_sendFerry_X1_amountOf : GoodIn wsX1_sendFerry wsX1_amountOf := goodIn_ca (goodIn_r _ [7, 8, 9, 10, 11, 12, 13, 14, 6, 15, 21, 22, 23, 24, 25, 26, 27, 28, 29, 30, 31, 32, 33, 34, 35, 36] (by decide +kernel) (by decide +kernel)) (goodIn_sub (fun _ h => List.mem_cons_of_mem _ (List.mem_append_right _ h)) (by decide +kernel))
set_option maxRecDepth 20000 in
theorem gX1_sendFerry_X1_amountOf : GoodIn wsX1_sendFerry (wsV RX1 199 RX1 yX1_amountOf wsX1_amountOf) := goodIn_app (goodIn_of _ (by decide +kernel)) ggX1_sendFerry_X1_amountOf
set_option maxRecDepth 20000 in
theorem ggX1_sendFerry_X1_bidsAbove : GoodIn wsX1_sendFerry wsX1_bidsAbove := goodIn_ca (goodIn_r _ [19, 20, 3, 4, 5, 6, 7, 8, 9, 10, 11, 12, 13, 14, 15, 21, 22, 23, 24, 25, 26, 27, 28, 29, 30, 31, 32, 33, 34, 35, 36] (by decide +kernel) (by decide +kernel)) (goodIn_sub (fun _ h => List.mem_cons_of_mem _ (List.mem_append_right _ h)) (by decide +kernel))
set_option maxRecDepth 20000 in
theorem gX1_sendFerry_X1_bidsAbove : GoodIn wsX1_sendFerry (wsV RX1 152 RX1 yX1_bidsAbove wsX1_bidsAbove) := goodIn_app (goodIn_of _ (by decide +kernel)) ggX1_sendFerry_X1_bidsAbove
theorem dX1_sendFerry_0 : decode cX1_sendFerry 0 = .ok (.aload_n 0, 1) := by decide +kernel
theorem dX1_sendFerry_1 : decode cX1_sendFerry 1 = .ok (.getfield 43, 3) := by decide +kernel
theorem dX1_sendFerry_4 : decode cX1_sendFerry 4 = .ok (.iload_n 2, 1) := by decide +kernel
theorem dX1_sendFerry_5 : decode cX1_sendFerry 5 = .ok (.iload_n 1, 1) := by decide +kernel
theorem dX1_sendFerry_6 : decode cX1_sendFerry 6 = .ok (.iastore, 1) := by decide +kernel
theorem dX1_sendFerry_7 : decode cX1_sendFerry 7 = .ok (.aload_n 0, 1) := by decide +kernel
theorem dX1_sendFerry_8 : decode cX1_sendFerry 8 = .ok (.dup, 1) := by decide +kernel
theorem dX1_sendFerry_9 : decode cX1_sendFerry 9 = .ok (.getfield 25, 3) := by decide +kernel
theorem dX1_sendFerry_12 : decode cX1_sendFerry 12 = .ok (.iconst 1, 1) := by decide +kernel
theorem dX1_sendFerry_13 : decode cX1_sendFerry 13 = .ok (.iload_n 1, 1) := by decide +kernel
theorem dX1_sendFerry_14 : decode cX1_sendFerry 14 = .ok (.ishl, 1) := by decide +kernel
theorem dX1_sendFerry_15 : decode cX1_sendFerry 15 = .ok (.ior, 1) := by decide +kernel
theorem dX1_sendFerry_16 : decode cX1_sendFerry 16 = .ok (.putfield 25, 3) := by decide +kernel
theorem dX1_sendFerry_19 : decode cX1_sendFerry 19 = .ok (.aload_n 0, 1) := by decide +kernel
theorem dX1_sendFerry_20 : decode cX1_sendFerry 20 = .ok (.iload_n 2, 1) := by decide +kernel
theorem dX1_sendFerry_21 : decode cX1_sendFerry 21 = .ok (.aload_n 0, 1) := by decide +kernel
theorem dX1_sendFerry_22 : decode cX1_sendFerry 22 = .ok (.iload_n 1, 1) := by decide +kernel
theorem dX1_sendFerry_23 : decode cX1_sendFerry 23 = .ok (.iload_n 2, 1) := by decide +kernel
theorem dX1_sendFerry_24 : decode cX1_sendFerry 24 = .ok (.invokevirtual 199, 3) := by decide +kernel
theorem dX1_sendFerry_27 : decode cX1_sendFerry 27 = .ok (.invokevirtual 152, 3) := by decide +kernel
theorem dX1_sendFerry_30 : decode cX1_sendFerry 30 = .ok (.ireturn, 1) := by decide +kernel
set_option maxRecDepth 20000 in
theorem ggX1_drop_X1_amountOf : GoodIn wsX1_drop wsX1_amountOf := goodIn_ca (goodIn_r _ [6, 1, 7, 8, 9, 10, 11, 12, 5, 13, 14, 15, 16, 17, 18, 19, 20, 21, 22, 23, 24, 25, 26, 27, 28, 29] (by decide +kernel) (by decide +kernel)) (goodIn_sub (fun _ h => List.mem_cons_of_mem _ (List.mem_append_right _ h)) (by decide +kernel))
set_option maxRecDepth 20000 in
theorem gX1_drop_X1_amountOf : GoodIn wsX1_drop (wsV RX1 199 RX1 yX1_amountOf wsX1_amountOf) := goodIn_app (goodIn_of _ (by decide +kernel)) ggX1_drop_X1_amountOf
set_option maxRecDepth 20000 in
theorem ggX1_drop_X1_slot : GoodIn wsX1_drop wsX1_slot := goodIn_r _ [13] (by decide +kernel) (by decide +kernel)
set_option maxRecDepth 20000 in
theorem gX1_drop_X1_slot : GoodIn wsX1_drop (va_wsS RX1 187 yX1_slot wsX1_slot) := goodIn_app (goodIn_of _ (by decide +kernel)) ggX1_drop_X1_slot
theorem dX1_drop_0 : decode cX1_drop 0 = .ok (.aload_n 0, 1) := by decide +kernel
theorem dX1_drop_1 : decode cX1_drop 1 = .ok (.iload_n 1, 1) := by decide +kernel
theorem dX1_drop_2 : decode cX1_drop 2 = .ok (.iload_n 2, 1) := by decide +kernel
theorem dX1_drop_3 : decode cX1_drop 3 = .ok (.invokevirtual 199, 3) := by decide +kernel
theorem dX1_drop_6 : decode cX1_drop 6 = .ok (.istore_n 3, 1) := by decide +kernel
theorem dX1_drop_7 : decode cX1_drop 7 = .ok (.aload_n 0, 1) := by decide +kernel
theorem dX1_drop_8 : decode cX1_drop 8 = .ok (.getfield 46, 3) := by decide +kernel
theorem dX1_drop_11 : decode cX1_drop 11 = .ok (.iload_n 1, 1) := by decide +kernel
theorem dX1_drop_12 : decode cX1_drop 12 = .ok (.iload_n 2, 1) := by decide +kernel
theorem dX1_drop_13 : decode cX1_drop 13 = .ok (.invokestatic 187, 3) := by decide +kernel
theorem dX1_drop_16 : decode cX1_drop 16 = .ok (.iconst 0, 1) := by decide +kernel
theorem dX1_drop_17 : decode cX1_drop 17 = .ok (.iastore, 1) := by decide +kernel
theorem dX1_drop_18 : decode cX1_drop 18 = .ok (.iload_n 3, 1) := by decide +kernel
theorem dX1_drop_19 : decode cX1_drop 19 = .ok (.ireturn, 1) := by decide +kernel
set_option maxRecDepth 20000 in
theorem ggX1_close_X1_winnerOf : GoodIn wsX1_close wsX1_winnerOf := goodIn_ca (goodIn_r _ [12, 13, 14, 15, 16, 17, 11, 18, 19, 20, 21, 5, 22, 23, 24, 25, 62, 63, 64, 65, 66, 67, 68, 69, 70, 71, 72, 73, 74, 75, 76, 77] (by decide +kernel) (by decide +kernel)) (goodIn_sub (fun _ h => List.mem_cons_of_mem _ (List.mem_append_right _ h)) (by decide +kernel))
set_option maxRecDepth 20000 in
theorem gX1_close_X1_winnerOf : GoodIn wsX1_close (wsV RX1 171 RX1 yX1_winnerOf wsX1_winnerOf) := goodIn_app (goodIn_of _ (by decide +kernel)) ggX1_close_X1_winnerOf
set_option maxRecDepth 20000 in
theorem ggX1_close_X1_hasBluff : GoodIn wsX1_close wsX1_hasBluff := goodIn_ca (goodIn_r _ [29, 19, 23, 24, 11, 25, 62, 63, 64, 65, 66, 67, 68, 69, 70, 71, 72, 73, 74, 75, 76, 77] (by decide +kernel) (by decide +kernel)) (goodIn_sub (fun _ h => List.mem_cons_of_mem _ (List.mem_append_right _ h)) (by decide +kernel))
set_option maxRecDepth 20000 in
theorem gX1_close_X1_hasBluff : GoodIn wsX1_close (wsV RX1 202 RX1 yX1_hasBluff wsX1_hasBluff) := goodIn_app (goodIn_of _ (by decide +kernel)) ggX1_close_X1_hasBluff
set_option maxRecDepth 20000 in
theorem ggX1_close_X1_buildsWith : GoodIn wsX1_close wsX1_buildsWith := goodIn_ca (goodIn_r _ [33, 34, 35, 36, 11, 37, 19, 38, 39, 5, 40, 23, 24, 25, 41, 42, 43, 44, 45, 46, 62, 63, 64, 65, 66, 67, 68, 69, 70, 71, 72, 73, 74, 75, 76, 77] (by decide +kernel) (by decide +kernel)) (goodIn_sub (fun _ h => List.mem_cons_of_mem _ (List.mem_append_right _ h)) (by decide +kernel))
set_option maxRecDepth 20000 in
theorem gX1_close_X1_buildsWith : GoodIn wsX1_close (wsV RX1 205 RX1 yX1_buildsWith wsX1_buildsWith) := goodIn_app (goodIn_of _ (by decide +kernel)) ggX1_close_X1_buildsWith
set_option maxRecDepth 20000 in
theorem ggX1_close_X1_amountOf : GoodIn wsX1_close wsX1_amountOf := goodIn_ca (goodIn_r _ [18, 19, 20, 21, 5, 22, 23, 24, 11, 25, 62, 63, 64, 65, 66, 67, 68, 69, 70, 71, 72, 73, 74, 75, 76, 77] (by decide +kernel) (by decide +kernel)) (goodIn_sub (fun _ h => List.mem_cons_of_mem _ (List.mem_append_right _ h)) (by decide +kernel))
set_option maxRecDepth 20000 in
theorem gX1_close_X1_amountOf : GoodIn wsX1_close (wsV RX1 199 RX1 yX1_amountOf wsX1_amountOf) := goodIn_app (goodIn_of _ (by decide +kernel)) ggX1_close_X1_amountOf
set_option maxRecDepth 20000 in
theorem ggX1_close_X1_clearBids : GoodIn wsX1_close wsX1_clearBids := goodIn_ca (goodIn_r _ [50, 19, 13, 23, 24, 11, 25, 62, 63, 64, 65, 66, 67, 68, 69, 70, 71, 72, 73, 74, 75, 76, 77] (by decide +kernel) (by decide +kernel)) (goodIn_sub (fun _ h => List.mem_cons_of_mem _ (List.mem_append_right _ h)) (by decide +kernel))
set_option maxRecDepth 20000 in
theorem gX1_close_X1_clearBids : GoodIn wsX1_close (wsV RX1 208 RX1 yX1_clearBids wsX1_clearBids) := goodIn_app (goodIn_of _ (by decide +kernel)) ggX1_close_X1_clearBids
set_option maxRecDepth 20000 in
theorem ggX1_close_X1_availableTo : GoodIn wsX1_close wsX1_availableTo := goodIn_ca (goodIn_r _ [54, 55, 56, 34, 35, 36, 11, 37, 19, 38, 39, 5, 40, 23, 24, 25, 62, 63, 64, 65, 66, 67, 68, 69, 70, 71, 72, 73, 74, 75, 76, 77] (by decide +kernel) (by decide +kernel)) (goodIn_sub (fun _ h => List.mem_cons_of_mem _ (List.mem_append_right _ h)) (by decide +kernel))
set_option maxRecDepth 20000 in
theorem gX1_close_X1_availableTo : GoodIn wsX1_close (wsV RX1 155 RX1 yX1_availableTo wsX1_availableTo) := goodIn_app (goodIn_of _ (by decide +kernel)) ggX1_close_X1_availableTo
set_option maxRecDepth 20000 in
theorem ggX1_close_X1_pay : GoodIn wsX1_close wsX1_pay := goodIn_ca (goodIn_r _ [60, 55, 61, 62, 63, 64, 65, 66, 67, 68, 69, 70, 71, 72, 73, 74, 75, 76, 77] (by decide +kernel) (by decide +kernel)) (goodIn_sub (fun _ h => List.mem_cons_of_mem _ (List.mem_append_right _ h)) (by decide +kernel))
set_option maxRecDepth 20000 in
theorem gX1_close_X1_pay : GoodIn wsX1_close (wsV RX1 212 RX1 yX1_pay wsX1_pay) := goodIn_app (goodIn_of _ (by decide +kernel)) ggX1_close_X1_pay
theorem dX1_close_0 : decode cX1_close 0 = .ok (.aload_n 0, 1) := by decide +kernel
theorem dX1_close_1 : decode cX1_close 1 = .ok (.iload_n 1, 1) := by decide +kernel
theorem dX1_close_2 : decode cX1_close 2 = .ok (.invokevirtual 171, 3) := by decide +kernel
theorem dX1_close_5 : decode cX1_close 5 = .ok (.istore_n 2, 1) := by decide +kernel
theorem dX1_close_6 : decode cX1_close 6 = .ok (.aload_n 0, 1) := by decide +kernel
theorem dX1_close_7 : decode cX1_close 7 = .ok (.iload_n 2, 1) := by decide +kernel
theorem dX1_close_8 : decode cX1_close 8 = .ok (.iload_n 1, 1) := by decide +kernel
theorem dX1_close_9 : decode cX1_close 9 = .ok (.invokevirtual 202, 3) := by decide +kernel
theorem dX1_close_12 : decode cX1_close 12 = .ok (.istore_n 3, 1) := by decide +kernel
theorem dX1_close_13 : decode cX1_close 13 = .ok (.aload_n 0, 1) := by decide +kernel
theorem dX1_close_14 : decode cX1_close 14 = .ok (.iload_n 2, 1) := by decide +kernel
theorem dX1_close_15 : decode cX1_close 15 = .ok (.iload_n 1, 1) := by decide +kernel
theorem dX1_close_16 : decode cX1_close 16 = .ok (.invokevirtual 205, 3) := by decide +kernel
theorem dX1_close_19 : decode cX1_close 19 = .ok (.istore 4, 2) := by decide +kernel
theorem dX1_close_21 : decode cX1_close 21 = .ok (.aload_n 0, 1) := by decide +kernel
theorem dX1_close_22 : decode cX1_close 22 = .ok (.iload_n 2, 1) := by decide +kernel
theorem dX1_close_23 : decode cX1_close 23 = .ok (.iload_n 1, 1) := by decide +kernel
theorem dX1_close_24 : decode cX1_close 24 = .ok (.invokevirtual 199, 3) := by decide +kernel
theorem dX1_close_27 : decode cX1_close 27 = .ok (.istore 5, 2) := by decide +kernel
theorem dX1_close_29 : decode cX1_close 29 = .ok (.aload_n 0, 1) := by decide +kernel
theorem dX1_close_30 : decode cX1_close 30 = .ok (.iload_n 1, 1) := by decide +kernel
theorem dX1_close_31 : decode cX1_close 31 = .ok (.invokevirtual 208, 3) := by decide +kernel
theorem dX1_close_34 : decode cX1_close 34 = .ok (.aload_n 0, 1) := by decide +kernel
theorem dX1_close_35 : decode cX1_close 35 = .ok (.dup, 1) := by decide +kernel
theorem dX1_close_36 : decode cX1_close 36 = .ok (.getfield 55, 3) := by decide +kernel
theorem dX1_close_39 : decode cX1_close 39 = .ok (.iconst 1, 1) := by decide +kernel
theorem dX1_close_40 : decode cX1_close 40 = .ok (.iadd, 1) := by decide +kernel
theorem dX1_close_41 : decode cX1_close 41 = .ok (.putfield 55, 3) := by decide +kernel
theorem dX1_close_44 : decode cX1_close 44 = .ok (.iload_n 3, 1) := by decide +kernel
theorem dX1_close_45 : decode cX1_close 45 = .ok (.ifCond .eq 30, 3) := by decide +kernel
theorem dX1_close_48 : decode cX1_close 48 = .ok (.aload_n 0, 1) := by decide +kernel
theorem dX1_close_49 : decode cX1_close 49 = .ok (.dup, 1) := by decide +kernel
theorem dX1_close_50 : decode cX1_close 50 = .ok (.getfield 58, 3) := by decide +kernel
theorem dX1_close_53 : decode cX1_close 53 = .ok (.iconst 1, 1) := by decide +kernel
theorem dX1_close_54 : decode cX1_close 54 = .ok (.iadd, 1) := by decide +kernel
theorem dX1_close_55 : decode cX1_close 55 = .ok (.putfield 58, 3) := by decide +kernel
theorem dX1_close_58 : decode cX1_close 58 = .ok (.aload_n 0, 1) := by decide +kernel
theorem dX1_close_59 : decode cX1_close 59 = .ok (.iload_n 2, 1) := by decide +kernel
theorem dX1_close_60 : decode cX1_close 60 = .ok (.iconst 5, 1) := by decide +kernel
theorem dX1_close_61 : decode cX1_close 61 = .ok (.aload_n 0, 1) := by decide +kernel
theorem dX1_close_62 : decode cX1_close 62 = .ok (.iload_n 2, 1) := by decide +kernel
theorem dX1_close_63 : decode cX1_close 63 = .ok (.invokevirtual 155, 3) := by decide +kernel
theorem dX1_close_66 : decode cX1_close 66 = .ok (.invokestatic 127, 3) := by decide +kernel
theorem dX1_close_69 : decode cX1_close 69 = .ok (.invokevirtual 212, 3) := by decide +kernel
theorem dX1_close_72 : decode cX1_close 72 = .ok (.goto 10, 3) := by decide +kernel
theorem dX1_close_75 : decode cX1_close 75 = .ok (.aload_n 0, 1) := by decide +kernel
theorem dX1_close_76 : decode cX1_close 76 = .ok (.iload_n 2, 1) := by decide +kernel
theorem dX1_close_77 : decode cX1_close 77 = .ok (.iload 5, 2) := by decide +kernel
theorem dX1_close_79 : decode cX1_close 79 = .ok (.invokevirtual 212, 3) := by decide +kernel
theorem dX1_close_82 : decode cX1_close 82 = .ok (.iload 4, 2) := by decide +kernel
theorem dX1_close_84 : decode cX1_close 84 = .ok (.ifCond .eq 10, 3) := by decide +kernel
theorem dX1_close_87 : decode cX1_close 87 = .ok (.aload_n 0, 1) := by decide +kernel
theorem dX1_close_88 : decode cX1_close 88 = .ok (.getfield 40, 3) := by decide +kernel
theorem dX1_close_91 : decode cX1_close 91 = .ok (.iload_n 1, 1) := by decide +kernel
theorem dX1_close_92 : decode cX1_close 92 = .ok (.iload_n 2, 1) := by decide +kernel
theorem dX1_close_93 : decode cX1_close 93 = .ok (.iastore, 1) := by decide +kernel
theorem dX1_close_94 : decode cX1_close 94 = .ok (.iload 4, 2) := by decide +kernel
theorem dX1_close_96 : decode cX1_close 96 = .ok (.ireturn, 1) := by decide +kernel
set_option maxRecDepth 20000 in
theorem ggX1_clearBids_X1_slot : GoodIn wsX1_clearBids wsX1_slot := goodIn_r _ [6] (by decide +kernel) (by decide +kernel)
set_option maxRecDepth 20000 in
theorem gX1_clearBids_X1_slot : GoodIn wsX1_clearBids (va_wsS RX1 187 yX1_slot wsX1_slot) := goodIn_app (goodIn_of _ (by decide +kernel)) ggX1_clearBids_X1_slot
theorem dX1_clearBids_0 : decode cX1_clearBids 0 = .ok (.iconst 0, 1) := by decide +kernel
theorem dX1_clearBids_1 : decode cX1_clearBids 1 = .ok (.istore_n 2, 1) := by decide +kernel
theorem dX1_clearBids_2 : decode cX1_clearBids 2 = .ok (.iload_n 2, 1) := by decide +kernel
theorem dX1_clearBids_3 : decode cX1_clearBids 3 = .ok (.iconst 4, 1) := by decide +kernel
theorem dX1_clearBids_4 : decode cX1_clearBids 4 = .ok (.if_icmp .ge 20, 3) := by decide +kernel
theorem dX1_clearBids_7 : decode cX1_clearBids 7 = .ok (.aload_n 0, 1) := by decide +kernel
theorem dX1_clearBids_8 : decode cX1_clearBids 8 = .ok (.getfield 46, 3) := by decide +kernel
theorem dX1_clearBids_11 : decode cX1_clearBids 11 = .ok (.iload_n 2, 1) := by decide +kernel
theorem dX1_clearBids_12 : decode cX1_clearBids 12 = .ok (.iload_n 1, 1) := by decide +kernel
theorem dX1_clearBids_13 : decode cX1_clearBids 13 = .ok (.invokestatic 187, 3) := by decide +kernel
theorem dX1_clearBids_16 : decode cX1_clearBids 16 = .ok (.iconst 0, 1) := by decide +kernel
theorem dX1_clearBids_17 : decode cX1_clearBids 17 = .ok (.iastore, 1) := by decide +kernel
theorem dX1_clearBids_18 : decode cX1_clearBids 18 = .ok (.iinc 2 1, 3) := by decide +kernel
theorem dX1_clearBids_21 : decode cX1_clearBids 21 = .ok (.goto (-19), 3) := by decide +kernel
theorem dX1_clearBids_24 : decode cX1_clearBids 24 = .ok (.aload_n 0, 1) := by decide +kernel
theorem dX1_clearBids_25 : decode cX1_clearBids 25 = .ok (.getfield 43, 3) := by decide +kernel
theorem dX1_clearBids_28 : decode cX1_clearBids 28 = .ok (.iload_n 1, 1) := by decide +kernel
theorem dX1_clearBids_29 : decode cX1_clearBids 29 = .ok (.iconst (-1), 1) := by decide +kernel
theorem dX1_clearBids_30 : decode cX1_clearBids 30 = .ok (.iastore, 1) := by decide +kernel
theorem dX1_clearBids_31 : decode cX1_clearBids 31 = .ok (.return_, 1) := by decide +kernel
theorem dX1_pay_0 : decode cX1_pay 0 = .ok (.aload_n 0, 1) := by decide +kernel
theorem dX1_pay_1 : decode cX1_pay 1 = .ok (.getfield 22, 3) := by decide +kernel
theorem dX1_pay_4 : decode cX1_pay 4 = .ok (.iload_n 1, 1) := by decide +kernel
theorem dX1_pay_5 : decode cX1_pay 5 = .ok (.dup2, 1) := by decide +kernel
theorem dX1_pay_6 : decode cX1_pay 6 = .ok (.iaload, 1) := by decide +kernel
theorem dX1_pay_7 : decode cX1_pay 7 = .ok (.iload_n 2, 1) := by decide +kernel
theorem dX1_pay_8 : decode cX1_pay 8 = .ok (.isub, 1) := by decide +kernel
theorem dX1_pay_9 : decode cX1_pay 9 = .ok (.iastore, 1) := by decide +kernel
theorem dX1_pay_10 : decode cX1_pay 10 = .ok (.aload_n 0, 1) := by decide +kernel
theorem dX1_pay_11 : decode cX1_pay 11 = .ok (.dup, 1) := by decide +kernel
theorem dX1_pay_12 : decode cX1_pay 12 = .ok (.getfield 52, 3) := by decide +kernel
theorem dX1_pay_15 : decode cX1_pay 15 = .ok (.iload_n 2, 1) := by decide +kernel
theorem dX1_pay_16 : decode cX1_pay 16 = .ok (.iadd, 1) := by decide +kernel
theorem dX1_pay_17 : decode cX1_pay 17 = .ok (.putfield 52, 3) := by decide +kernel
theorem dX1_pay_20 : decode cX1_pay 20 = .ok (.return_, 1) := by decide +kernel
theorem dX1_isIsland_0 : decode cX1_isIsland 0 = .ok (.iload_n 0, 1) := by decide +kernel
theorem dX1_isIsland_1 : decode cX1_isIsland 1 = .ok (.ifCond .lt 13, 3) := by decide +kernel
theorem dX1_isIsland_4 : decode cX1_isIsland 4 = .ok (.iload_n 0, 1) := by decide +kernel
theorem dX1_isIsland_5 : decode cX1_isIsland 5 = .ok (.bipush 8, 2) := by decide +kernel
theorem dX1_isIsland_7 : decode cX1_isIsland 7 = .ok (.if_icmp .ge 7, 3) := by decide +kernel
theorem dX1_isIsland_10 : decode cX1_isIsland 10 = .ok (.iconst 1, 1) := by decide +kernel
theorem dX1_isIsland_11 : decode cX1_isIsland 11 = .ok (.goto 4, 3) := by decide +kernel
theorem dX1_isIsland_14 : decode cX1_isIsland 14 = .ok (.iconst 0, 1) := by decide +kernel
theorem dX1_isIsland_15 : decode cX1_isIsland 15 = .ok (.ireturn, 1) := by decide +kernel
theorem dX1_isSite_0 : decode cX1_isSite 0 = .ok (.iload_n 1, 1) := by decide +kernel
theorem dX1_isSite_1 : decode cX1_isSite 1 = .ok (.ifCond .lt 15, 3) := by decide +kernel
theorem dX1_isSite_4 : decode cX1_isSite 4 = .ok (.iload_n 1, 1) := by decide +kernel
theorem dX1_isSite_5 : decode cX1_isSite 5 = .ok (.aload_n 0, 1) := by decide +kernel
theorem dX1_isSite_6 : decode cX1_isSite 6 = .ok (.getfield 28, 3) := by decide +kernel
theorem dX1_isSite_9 : decode cX1_isSite 9 = .ok (.if_icmp .ge 7, 3) := by decide +kernel
theorem dX1_isSite_12 : decode cX1_isSite 12 = .ok (.iconst 1, 1) := by decide +kernel
theorem dX1_isSite_13 : decode cX1_isSite 13 = .ok (.goto 4, 3) := by decide +kernel
theorem dX1_isSite_16 : decode cX1_isSite 16 = .ok (.iconst 0, 1) := by decide +kernel
theorem dX1_isSite_17 : decode cX1_isSite 17 = .ok (.ireturn, 1) := by decide +kernel
theorem dX1_hasSiteBetween_0 : decode cX1_hasSiteBetween 0 = .ok (.iconst 0, 1) := by decide +kernel
theorem dX1_hasSiteBetween_1 : decode cX1_hasSiteBetween 1 = .ok (.istore_n 3, 1) := by decide +kernel
theorem dX1_hasSiteBetween_2 : decode cX1_hasSiteBetween 2 = .ok (.iload_n 3, 1) := by decide +kernel
theorem dX1_hasSiteBetween_3 : decode cX1_hasSiteBetween 3 = .ok (.aload_n 0, 1) := by decide +kernel
theorem dX1_hasSiteBetween_4 : decode cX1_hasSiteBetween 4 = .ok (.getfield 28, 3) := by decide +kernel
theorem dX1_hasSiteBetween_7 : decode cX1_hasSiteBetween 7 = .ok (.if_icmp .ge 31, 3) := by decide +kernel
theorem dX1_hasSiteBetween_10 : decode cX1_hasSiteBetween 10 = .ok (.aload_n 0, 1) := by decide +kernel
theorem dX1_hasSiteBetween_11 : decode cX1_hasSiteBetween 11 = .ok (.getfield 31, 3) := by decide +kernel
theorem dX1_hasSiteBetween_14 : decode cX1_hasSiteBetween 14 = .ok (.iload_n 3, 1) := by decide +kernel
theorem dX1_hasSiteBetween_15 : decode cX1_hasSiteBetween 15 = .ok (.iaload, 1) := by decide +kernel
theorem dX1_hasSiteBetween_16 : decode cX1_hasSiteBetween 16 = .ok (.iload_n 1, 1) := by decide +kernel
theorem dX1_hasSiteBetween_17 : decode cX1_hasSiteBetween 17 = .ok (.if_icmp .ne 15, 3) := by decide +kernel
theorem dX1_hasSiteBetween_20 : decode cX1_hasSiteBetween 20 = .ok (.aload_n 0, 1) := by decide +kernel
theorem dX1_hasSiteBetween_21 : decode cX1_hasSiteBetween 21 = .ok (.getfield 34, 3) := by decide +kernel
theorem dX1_hasSiteBetween_24 : decode cX1_hasSiteBetween 24 = .ok (.iload_n 3, 1) := by decide +kernel
theorem dX1_hasSiteBetween_25 : decode cX1_hasSiteBetween 25 = .ok (.iaload, 1) := by decide +kernel
theorem dX1_hasSiteBetween_26 : decode cX1_hasSiteBetween 26 = .ok (.iload_n 2, 1) := by decide +kernel
theorem dX1_hasSiteBetween_27 : decode cX1_hasSiteBetween 27 = .ok (.if_icmp .ne 5, 3) := by decide +kernel
theorem dX1_hasSiteBetween_30 : decode cX1_hasSiteBetween 30 = .ok (.iconst 1, 1) := by decide +kernel
theorem dX1_hasSiteBetween_31 : decode cX1_hasSiteBetween 31 = .ok (.ireturn, 1) := by decide +kernel
theorem dX1_hasSiteBetween_32 : decode cX1_hasSiteBetween 32 = .ok (.iinc 3 1, 3) := by decide +kernel
theorem dX1_hasSiteBetween_35 : decode cX1_hasSiteBetween 35 = .ok (.goto (-33), 3) := by decide +kernel
theorem dX1_hasSiteBetween_38 : decode cX1_hasSiteBetween 38 = .ok (.iconst 0, 1) := by decide +kernel
theorem dX1_hasSiteBetween_39 : decode cX1_hasSiteBetween 39 = .ok (.ireturn, 1) := by decide +kernel
theorem dX1_costOf_0 : decode cX1_costOf 0 = .ok (.aload_n 0, 1) := by decide +kernel
theorem dX1_costOf_1 : decode cX1_costOf 1 = .ok (.getfield 37, 3) := by decide +kernel
theorem dX1_costOf_4 : decode cX1_costOf 4 = .ok (.iload_n 1, 1) := by decide +kernel
theorem dX1_costOf_5 : decode cX1_costOf 5 = .ok (.iaload, 1) := by decide +kernel
theorem dX1_costOf_6 : decode cX1_costOf 6 = .ok (.aload_n 0, 1) := by decide +kernel
theorem dX1_costOf_7 : decode cX1_costOf 7 = .ok (.getfield 15, 3) := by decide +kernel
theorem dX1_costOf_10 : decode cX1_costOf 10 = .ok (.iadd, 1) := by decide +kernel
theorem dX1_costOf_11 : decode cX1_costOf 11 = .ok (.ireturn, 1) := by decide +kernel
theorem dX1_hasBridge_0 : decode cX1_hasBridge 0 = .ok (.aload_n 0, 1) := by decide +kernel
theorem dX1_hasBridge_1 : decode cX1_hasBridge 1 = .ok (.getfield 40, 3) := by decide +kernel
theorem dX1_hasBridge_4 : decode cX1_hasBridge 4 = .ok (.iload_n 1, 1) := by decide +kernel
theorem dX1_hasBridge_5 : decode cX1_hasBridge 5 = .ok (.iaload, 1) := by decide +kernel
theorem dX1_hasBridge_6 : decode cX1_hasBridge 6 = .ok (.iconst (-1), 1) := by decide +kernel
theorem dX1_hasBridge_7 : decode cX1_hasBridge 7 = .ok (.if_icmp .eq 7, 3) := by decide +kernel
theorem dX1_hasBridge_10 : decode cX1_hasBridge 10 = .ok (.iconst 1, 1) := by decide +kernel
theorem dX1_hasBridge_11 : decode cX1_hasBridge 11 = .ok (.goto 4, 3) := by decide +kernel
theorem dX1_hasBridge_14 : decode cX1_hasBridge 14 = .ok (.iconst 0, 1) := by decide +kernel
theorem dX1_hasBridge_15 : decode cX1_hasBridge 15 = .ok (.ireturn, 1) := by decide +kernel
set_option maxRecDepth 20000 in
theorem ggX1_bridges_X1_hasBridge : GoodIn wsX1_bridges wsX1_hasBridge := goodIn_ca (goodIn_r _ [6, 7, 8, 9, 10, 11, 12, 13, 14, 15, 16, 17, 18, 19, 20, 21, 22, 23] (by decide +kernel) (by decide +kernel)) (goodIn_sub (fun _ h => List.mem_cons_of_mem _ (List.mem_append_right _ h)) (by decide +kernel))
set_option maxRecDepth 20000 in
theorem gX1_bridges_X1_hasBridge : GoodIn wsX1_bridges (wsV RX1 149 RX1 yX1_hasBridge wsX1_hasBridge) := goodIn_app (goodIn_of _ (by decide +kernel)) ggX1_bridges_X1_hasBridge
theorem dX1_bridges_0 : decode cX1_bridges 0 = .ok (.iconst 0, 1) := by decide +kernel
theorem dX1_bridges_1 : decode cX1_bridges 1 = .ok (.istore_n 1, 1) := by decide +kernel
theorem dX1_bridges_2 : decode cX1_bridges 2 = .ok (.iconst 0, 1) := by decide +kernel
theorem dX1_bridges_3 : decode cX1_bridges 3 = .ok (.istore_n 2, 1) := by decide +kernel
theorem dX1_bridges_4 : decode cX1_bridges 4 = .ok (.iload_n 2, 1) := by decide +kernel
theorem dX1_bridges_5 : decode cX1_bridges 5 = .ok (.aload_n 0, 1) := by decide +kernel
theorem dX1_bridges_6 : decode cX1_bridges 6 = .ok (.getfield 28, 3) := by decide +kernel
theorem dX1_bridges_9 : decode cX1_bridges 9 = .ok (.if_icmp .ge 25, 3) := by decide +kernel
theorem dX1_bridges_12 : decode cX1_bridges 12 = .ok (.iload_n 1, 1) := by decide +kernel
theorem dX1_bridges_13 : decode cX1_bridges 13 = .ok (.aload_n 0, 1) := by decide +kernel
theorem dX1_bridges_14 : decode cX1_bridges 14 = .ok (.iload_n 2, 1) := by decide +kernel
theorem dX1_bridges_15 : decode cX1_bridges 15 = .ok (.invokevirtual 149, 3) := by decide +kernel
theorem dX1_bridges_18 : decode cX1_bridges 18 = .ok (.ifCond .eq 7, 3) := by decide +kernel
theorem dX1_bridges_21 : decode cX1_bridges 21 = .ok (.iconst 1, 1) := by decide +kernel
theorem dX1_bridges_22 : decode cX1_bridges 22 = .ok (.goto 4, 3) := by decide +kernel
theorem dX1_bridges_25 : decode cX1_bridges 25 = .ok (.iconst 0, 1) := by decide +kernel
theorem dX1_bridges_26 : decode cX1_bridges 26 = .ok (.iadd, 1) := by decide +kernel
theorem dX1_bridges_27 : decode cX1_bridges 27 = .ok (.istore_n 1, 1) := by decide +kernel
theorem dX1_bridges_28 : decode cX1_bridges 28 = .ok (.iinc 2 1, 3) := by decide +kernel
theorem dX1_bridges_31 : decode cX1_bridges 31 = .ok (.goto (-27), 3) := by decide +kernel
theorem dX1_bridges_34 : decode cX1_bridges 34 = .ok (.iload_n 1, 1) := by decide +kernel
theorem dX1_bridges_35 : decode cX1_bridges 35 = .ok (.ireturn, 1) := by decide +kernel
set_option maxRecDepth 20000 in
theorem ggX1_bridgeLengths_X1_hasBridge : GoodIn wsX1_bridgeLengths wsX1_hasBridge := goodIn_ca (goodIn_r _ [7, 8, 9, 10, 11, 12, 13, 14, 15, 16, 17, 18, 19, 20, 21, 22, 23, 24] (by decide +kernel) (by decide +kernel)) (goodIn_sub (fun _ h => List.mem_cons_of_mem _ (List.mem_append_right _ h)) (by decide +kernel))
set_option maxRecDepth 20000 in
theorem gX1_bridgeLengths_X1_hasBridge : GoodIn wsX1_bridgeLengths (wsV RX1 149 RX1 yX1_hasBridge wsX1_hasBridge) := goodIn_app (goodIn_of _ (by decide +kernel)) ggX1_bridgeLengths_X1_hasBridge
theorem dX1_bridgeLengths_0 : decode cX1_bridgeLengths 0 = .ok (.iconst 0, 1) := by decide +kernel
theorem dX1_bridgeLengths_1 : decode cX1_bridgeLengths 1 = .ok (.istore_n 1, 1) := by decide +kernel
theorem dX1_bridgeLengths_2 : decode cX1_bridgeLengths 2 = .ok (.iconst 0, 1) := by decide +kernel
theorem dX1_bridgeLengths_3 : decode cX1_bridgeLengths 3 = .ok (.istore_n 2, 1) := by decide +kernel
theorem dX1_bridgeLengths_4 : decode cX1_bridgeLengths 4 = .ok (.iload_n 2, 1) := by decide +kernel
theorem dX1_bridgeLengths_5 : decode cX1_bridgeLengths 5 = .ok (.aload_n 0, 1) := by decide +kernel
theorem dX1_bridgeLengths_6 : decode cX1_bridgeLengths 6 = .ok (.getfield 28, 3) := by decide +kernel
theorem dX1_bridgeLengths_9 : decode cX1_bridgeLengths 9 = .ok (.if_icmp .ge 30, 3) := by decide +kernel
theorem dX1_bridgeLengths_12 : decode cX1_bridgeLengths 12 = .ok (.iload_n 1, 1) := by decide +kernel
theorem dX1_bridgeLengths_13 : decode cX1_bridgeLengths 13 = .ok (.aload_n 0, 1) := by decide +kernel
theorem dX1_bridgeLengths_14 : decode cX1_bridgeLengths 14 = .ok (.iload_n 2, 1) := by decide +kernel
theorem dX1_bridgeLengths_15 : decode cX1_bridgeLengths 15 = .ok (.invokevirtual 149, 3) := by decide +kernel
theorem dX1_bridgeLengths_18 : decode cX1_bridgeLengths 18 = .ok (.ifCond .eq 12, 3) := by decide +kernel
theorem dX1_bridgeLengths_21 : decode cX1_bridgeLengths 21 = .ok (.aload_n 0, 1) := by decide +kernel
theorem dX1_bridgeLengths_22 : decode cX1_bridgeLengths 22 = .ok (.getfield 37, 3) := by decide +kernel
theorem dX1_bridgeLengths_25 : decode cX1_bridgeLengths 25 = .ok (.iload_n 2, 1) := by decide +kernel
theorem dX1_bridgeLengths_26 : decode cX1_bridgeLengths 26 = .ok (.iaload, 1) := by decide +kernel
theorem dX1_bridgeLengths_27 : decode cX1_bridgeLengths 27 = .ok (.goto 4, 3) := by decide +kernel
theorem dX1_bridgeLengths_30 : decode cX1_bridgeLengths 30 = .ok (.iconst 0, 1) := by decide +kernel
theorem dX1_bridgeLengths_31 : decode cX1_bridgeLengths 31 = .ok (.iadd, 1) := by decide +kernel
theorem dX1_bridgeLengths_32 : decode cX1_bridgeLengths 32 = .ok (.istore_n 1, 1) := by decide +kernel
theorem dX1_bridgeLengths_33 : decode cX1_bridgeLengths 33 = .ok (.iinc 2 1, 3) := by decide +kernel
theorem dX1_bridgeLengths_36 : decode cX1_bridgeLengths 36 = .ok (.goto (-32), 3) := by decide +kernel
theorem dX1_bridgeLengths_39 : decode cX1_bridgeLengths 39 = .ok (.iload_n 1, 1) := by decide +kernel
theorem dX1_bridgeLengths_40 : decode cX1_bridgeLengths 40 = .ok (.ireturn, 1) := by decide +kernel
set_option maxRecDepth 20000 in
theorem ggX1_cheapestWithoutBridge_X1_hasBridge : GoodIn wsX1_cheapestWithoutBridge wsX1_hasBridge := goodIn_ca (goodIn_r _ [6, 7, 14, 15, 16, 17, 18, 19, 20, 21, 22, 23, 24, 25, 26, 27, 28, 29] (by decide +kernel) (by decide +kernel)) (goodIn_sub (fun _ h => List.mem_cons_of_mem _ (List.mem_append_right _ h)) (by decide +kernel))
set_option maxRecDepth 20000 in
theorem gX1_cheapestWithoutBridge_X1_hasBridge : GoodIn wsX1_cheapestWithoutBridge (wsV RX1 149 RX1 yX1_hasBridge wsX1_hasBridge) := goodIn_app (goodIn_of _ (by decide +kernel)) ggX1_cheapestWithoutBridge_X1_hasBridge
set_option maxRecDepth 20000 in
theorem ggX1_cheapestWithoutBridge_X1_costOf : GoodIn wsX1_cheapestWithoutBridge wsX1_costOf := goodIn_ca (goodIn_r _ [11, 12, 13, 14, 15, 16, 17, 18, 19, 20, 21, 22, 23, 24, 25, 26, 27, 28, 29] (by decide +kernel) (by decide +kernel)) (goodIn_sub (fun _ h => List.mem_cons_of_mem _ (List.mem_append_right _ h)) (by decide +kernel))
set_option maxRecDepth 20000 in
theorem gX1_cheapestWithoutBridge_X1_costOf : GoodIn wsX1_cheapestWithoutBridge (wsV RX1 216 RX1 yX1_costOf wsX1_costOf) := goodIn_app (goodIn_of _ (by decide +kernel)) ggX1_cheapestWithoutBridge_X1_costOf
theorem dX1_cheapestWithoutBridge_0 : decode cX1_cheapestWithoutBridge 0 = .ok (.iconst (-1), 1) := by decide +kernel
theorem dX1_cheapestWithoutBridge_1 : decode cX1_cheapestWithoutBridge 1 = .ok (.istore_n 1, 1) := by decide +kernel
theorem dX1_cheapestWithoutBridge_2 : decode cX1_cheapestWithoutBridge 2 = .ok (.iconst 0, 1) := by decide +kernel
theorem dX1_cheapestWithoutBridge_3 : decode cX1_cheapestWithoutBridge 3 = .ok (.istore_n 2, 1) := by decide +kernel
theorem dX1_cheapestWithoutBridge_4 : decode cX1_cheapestWithoutBridge 4 = .ok (.iload_n 2, 1) := by decide +kernel
theorem dX1_cheapestWithoutBridge_5 : decode cX1_cheapestWithoutBridge 5 = .ok (.aload_n 0, 1) := by decide +kernel
theorem dX1_cheapestWithoutBridge_6 : decode cX1_cheapestWithoutBridge 6 = .ok (.getfield 28, 3) := by decide +kernel
theorem dX1_cheapestWithoutBridge_9 : decode cX1_cheapestWithoutBridge 9 = .ok (.if_icmp .ge 37, 3) := by decide +kernel
theorem dX1_cheapestWithoutBridge_12 : decode cX1_cheapestWithoutBridge 12 = .ok (.aload_n 0, 1) := by decide +kernel
theorem dX1_cheapestWithoutBridge_13 : decode cX1_cheapestWithoutBridge 13 = .ok (.iload_n 2, 1) := by decide +kernel
theorem dX1_cheapestWithoutBridge_14 : decode cX1_cheapestWithoutBridge 14 = .ok (.invokevirtual 149, 3) := by decide +kernel
theorem dX1_cheapestWithoutBridge_17 : decode cX1_cheapestWithoutBridge 17 = .ok (.ifCond .ne 23, 3) := by decide +kernel
theorem dX1_cheapestWithoutBridge_20 : decode cX1_cheapestWithoutBridge 20 = .ok (.iload_n 1, 1) := by decide +kernel
theorem dX1_cheapestWithoutBridge_21 : decode cX1_cheapestWithoutBridge 21 = .ok (.iconst (-1), 1) := by decide +kernel
theorem dX1_cheapestWithoutBridge_22 : decode cX1_cheapestWithoutBridge 22 = .ok (.if_icmp .eq 16, 3) := by decide +kernel
theorem dX1_cheapestWithoutBridge_25 : decode cX1_cheapestWithoutBridge 25 = .ok (.aload_n 0, 1) := by decide +kernel
theorem dX1_cheapestWithoutBridge_26 : decode cX1_cheapestWithoutBridge 26 = .ok (.iload_n 2, 1) := by decide +kernel
theorem dX1_cheapestWithoutBridge_27 : decode cX1_cheapestWithoutBridge 27 = .ok (.invokevirtual 216, 3) := by decide +kernel
theorem dX1_cheapestWithoutBridge_30 : decode cX1_cheapestWithoutBridge 30 = .ok (.aload_n 0, 1) := by decide +kernel
theorem dX1_cheapestWithoutBridge_31 : decode cX1_cheapestWithoutBridge 31 = .ok (.iload_n 1, 1) := by decide +kernel
theorem dX1_cheapestWithoutBridge_32 : decode cX1_cheapestWithoutBridge 32 = .ok (.invokevirtual 216, 3) := by decide +kernel
theorem dX1_cheapestWithoutBridge_35 : decode cX1_cheapestWithoutBridge 35 = .ok (.if_icmp .ge 5, 3) := by decide +kernel
theorem dX1_cheapestWithoutBridge_38 : decode cX1_cheapestWithoutBridge 38 = .ok (.iload_n 2, 1) := by decide +kernel
theorem dX1_cheapestWithoutBridge_39 : decode cX1_cheapestWithoutBridge 39 = .ok (.istore_n 1, 1) := by decide +kernel
theorem dX1_cheapestWithoutBridge_40 : decode cX1_cheapestWithoutBridge 40 = .ok (.iinc 2 1, 3) := by decide +kernel
theorem dX1_cheapestWithoutBridge_43 : decode cX1_cheapestWithoutBridge 43 = .ok (.goto (-39), 3) := by decide +kernel
theorem dX1_cheapestWithoutBridge_46 : decode cX1_cheapestWithoutBridge 46 = .ok (.iload_n 1, 1) := by decide +kernel
theorem dX1_cheapestWithoutBridge_47 : decode cX1_cheapestWithoutBridge 47 = .ok (.ireturn, 1) := by decide +kernel
set_option maxRecDepth 20000 in
theorem ggX1_bridgedFrom_X1_hasBridge : GoodIn wsX1_bridgedFrom wsX1_hasBridge := goodIn_ca (goodIn_r _ [7, 8, 9, 10, 11, 12, 13, 14, 15, 16, 17, 18, 19, 20, 21, 22, 23, 24] (by decide +kernel) (by decide +kernel)) (goodIn_sub (fun _ h => List.mem_cons_of_mem _ (List.mem_append_right _ h)) (by decide +kernel))
set_option maxRecDepth 20000 in
theorem gX1_bridgedFrom_X1_hasBridge : GoodIn wsX1_bridgedFrom (wsV RX1 149 RX1 yX1_hasBridge wsX1_hasBridge) := goodIn_app (goodIn_of _ (by decide +kernel)) ggX1_bridgedFrom_X1_hasBridge
theorem dX1_bridgedFrom_0 : decode cX1_bridgedFrom 0 = .ok (.aload_n 0, 1) := by decide +kernel
theorem dX1_bridgedFrom_1 : decode cX1_bridgedFrom 1 = .ok (.iload_n 2, 1) := by decide +kernel
theorem dX1_bridgedFrom_2 : decode cX1_bridgedFrom 2 = .ok (.invokevirtual 149, 3) := by decide +kernel
theorem dX1_bridgedFrom_5 : decode cX1_bridgedFrom 5 = .ok (.ifCond .ne 5, 3) := by decide +kernel
theorem dX1_bridgedFrom_8 : decode cX1_bridgedFrom 8 = .ok (.iconst (-1), 1) := by decide +kernel
theorem dX1_bridgedFrom_9 : decode cX1_bridgedFrom 9 = .ok (.ireturn, 1) := by decide +kernel
theorem dX1_bridgedFrom_10 : decode cX1_bridgedFrom 10 = .ok (.aload_n 0, 1) := by decide +kernel
theorem dX1_bridgedFrom_11 : decode cX1_bridgedFrom 11 = .ok (.getfield 31, 3) := by decide +kernel
theorem dX1_bridgedFrom_14 : decode cX1_bridgedFrom 14 = .ok (.iload_n 2, 1) := by decide +kernel
theorem dX1_bridgedFrom_15 : decode cX1_bridgedFrom 15 = .ok (.iaload, 1) := by decide +kernel
theorem dX1_bridgedFrom_16 : decode cX1_bridgedFrom 16 = .ok (.iload_n 1, 1) := by decide +kernel
theorem dX1_bridgedFrom_17 : decode cX1_bridgedFrom 17 = .ok (.if_icmp .ne 10, 3) := by decide +kernel
theorem dX1_bridgedFrom_20 : decode cX1_bridgedFrom 20 = .ok (.aload_n 0, 1) := by decide +kernel
theorem dX1_bridgedFrom_21 : decode cX1_bridgedFrom 21 = .ok (.getfield 34, 3) := by decide +kernel
theorem dX1_bridgedFrom_24 : decode cX1_bridgedFrom 24 = .ok (.iload_n 2, 1) := by decide +kernel
theorem dX1_bridgedFrom_25 : decode cX1_bridgedFrom 25 = .ok (.iaload, 1) := by decide +kernel
theorem dX1_bridgedFrom_26 : decode cX1_bridgedFrom 26 = .ok (.ireturn, 1) := by decide +kernel
theorem dX1_bridgedFrom_27 : decode cX1_bridgedFrom 27 = .ok (.aload_n 0, 1) := by decide +kernel
theorem dX1_bridgedFrom_28 : decode cX1_bridgedFrom 28 = .ok (.getfield 34, 3) := by decide +kernel
theorem dX1_bridgedFrom_31 : decode cX1_bridgedFrom 31 = .ok (.iload_n 2, 1) := by decide +kernel
theorem dX1_bridgedFrom_32 : decode cX1_bridgedFrom 32 = .ok (.iaload, 1) := by decide +kernel
theorem dX1_bridgedFrom_33 : decode cX1_bridgedFrom 33 = .ok (.iload_n 1, 1) := by decide +kernel
theorem dX1_bridgedFrom_34 : decode cX1_bridgedFrom 34 = .ok (.if_icmp .ne 12, 3) := by decide +kernel
theorem dX1_bridgedFrom_37 : decode cX1_bridgedFrom 37 = .ok (.aload_n 0, 1) := by decide +kernel
theorem dX1_bridgedFrom_38 : decode cX1_bridgedFrom 38 = .ok (.getfield 31, 3) := by decide +kernel
theorem dX1_bridgedFrom_41 : decode cX1_bridgedFrom 41 = .ok (.iload_n 2, 1) := by decide +kernel
theorem dX1_bridgedFrom_42 : decode cX1_bridgedFrom 42 = .ok (.iaload, 1) := by decide +kernel
theorem dX1_bridgedFrom_43 : decode cX1_bridgedFrom 43 = .ok (.goto 4, 3) := by decide +kernel
theorem dX1_bridgedFrom_46 : decode cX1_bridgedFrom 46 = .ok (.iconst (-1), 1) := by decide +kernel
theorem dX1_bridgedFrom_47 : decode cX1_bridgedFrom 47 = .ok (.ireturn, 1) := by decide +kernel
theorem dX1_slot_0 : decode cX1_slot 0 = .ok (.iload_n 1, 1) := by decide +kernel
theorem dX1_slot_1 : decode cX1_slot 1 = .ok (.iconst 4, 1) := by decide +kernel
theorem dX1_slot_2 : decode cX1_slot 2 = .ok (.imul, 1) := by decide +kernel
theorem dX1_slot_3 : decode cX1_slot 3 = .ok (.iload_n 0, 1) := by decide +kernel
theorem dX1_slot_4 : decode cX1_slot 4 = .ok (.iadd, 1) := by decide +kernel
theorem dX1_slot_5 : decode cX1_slot 5 = .ok (.ireturn, 1) := by decide +kernel
set_option maxRecDepth 20000 in
theorem ggX1_hasBid_X1_slot : GoodIn wsX1_hasBid wsX1_slot := goodIn_r _ [5] (by decide +kernel) (by decide +kernel)
set_option maxRecDepth 20000 in
theorem gX1_hasBid_X1_slot : GoodIn wsX1_hasBid (va_wsS RX1 187 yX1_slot wsX1_slot) := goodIn_app (goodIn_of _ (by decide +kernel)) ggX1_hasBid_X1_slot
theorem dX1_hasBid_0 : decode cX1_hasBid 0 = .ok (.aload_n 0, 1) := by decide +kernel
theorem dX1_hasBid_1 : decode cX1_hasBid 1 = .ok (.getfield 46, 3) := by decide +kernel
theorem dX1_hasBid_4 : decode cX1_hasBid 4 = .ok (.iload_n 1, 1) := by decide +kernel
theorem dX1_hasBid_5 : decode cX1_hasBid 5 = .ok (.iload_n 2, 1) := by decide +kernel
theorem dX1_hasBid_6 : decode cX1_hasBid 6 = .ok (.invokestatic 187, 3) := by decide +kernel
theorem dX1_hasBid_9 : decode cX1_hasBid 9 = .ok (.iaload, 1) := by decide +kernel
theorem dX1_hasBid_10 : decode cX1_hasBid 10 = .ok (.ifCond .eq 7, 3) := by decide +kernel
theorem dX1_hasBid_13 : decode cX1_hasBid 13 = .ok (.iconst 1, 1) := by decide +kernel
theorem dX1_hasBid_14 : decode cX1_hasBid 14 = .ok (.goto 4, 3) := by decide +kernel
theorem dX1_hasBid_17 : decode cX1_hasBid 17 = .ok (.iconst 0, 1) := by decide +kernel
theorem dX1_hasBid_18 : decode cX1_hasBid 18 = .ok (.ireturn, 1) := by decide +kernel
set_option maxRecDepth 20000 in
theorem ggX1_hasBluff_X1_slot : GoodIn wsX1_hasBluff wsX1_slot := goodIn_r _ [5] (by decide +kernel) (by decide +kernel)
set_option maxRecDepth 20000 in
theorem gX1_hasBluff_X1_slot : GoodIn wsX1_hasBluff (va_wsS RX1 187 yX1_slot wsX1_slot) := goodIn_app (goodIn_of _ (by decide +kernel)) ggX1_hasBluff_X1_slot
theorem dX1_hasBluff_0 : decode cX1_hasBluff 0 = .ok (.aload_n 0, 1) := by decide +kernel
theorem dX1_hasBluff_1 : decode cX1_hasBluff 1 = .ok (.getfield 46, 3) := by decide +kernel
theorem dX1_hasBluff_4 : decode cX1_hasBluff 4 = .ok (.iload_n 1, 1) := by decide +kernel
theorem dX1_hasBluff_5 : decode cX1_hasBluff 5 = .ok (.iload_n 2, 1) := by decide +kernel
theorem dX1_hasBluff_6 : decode cX1_hasBluff 6 = .ok (.invokestatic 187, 3) := by decide +kernel
theorem dX1_hasBluff_9 : decode cX1_hasBluff 9 = .ok (.iaload, 1) := by decide +kernel
theorem dX1_hasBluff_10 : decode cX1_hasBluff 10 = .ok (.ifCond .ge 7, 3) := by decide +kernel
theorem dX1_hasBluff_13 : decode cX1_hasBluff 13 = .ok (.iconst 1, 1) := by decide +kernel
theorem dX1_hasBluff_14 : decode cX1_hasBluff 14 = .ok (.goto 4, 3) := by decide +kernel
theorem dX1_hasBluff_17 : decode cX1_hasBluff 17 = .ok (.iconst 0, 1) := by decide +kernel
theorem dX1_hasBluff_18 : decode cX1_hasBluff 18 = .ok (.ireturn, 1) := by decide +kernel
set_option maxRecDepth 20000 in
theorem ggX1_amountOf_X1_slot : GoodIn wsX1_amountOf wsX1_slot := goodIn_r _ [9] (by decide +kernel) (by decide +kernel)
set_option maxRecDepth 20000 in
theorem gX1_amountOf_X1_slot : GoodIn wsX1_amountOf (va_wsS RX1 187 yX1_slot wsX1_slot) := goodIn_app (goodIn_of _ (by decide +kernel)) ggX1_amountOf_X1_slot
theorem dX1_amountOf_0 : decode cX1_amountOf 0 = .ok (.aload_n 0, 1) := by decide +kernel
theorem dX1_amountOf_1 : decode cX1_amountOf 1 = .ok (.getfield 46, 3) := by decide +kernel
theorem dX1_amountOf_4 : decode cX1_amountOf 4 = .ok (.iload_n 1, 1) := by decide +kernel
theorem dX1_amountOf_5 : decode cX1_amountOf 5 = .ok (.iload_n 2, 1) := by decide +kernel
theorem dX1_amountOf_6 : decode cX1_amountOf 6 = .ok (.invokestatic 187, 3) := by decide +kernel
theorem dX1_amountOf_9 : decode cX1_amountOf 9 = .ok (.iaload, 1) := by decide +kernel
theorem dX1_amountOf_10 : decode cX1_amountOf 10 = .ok (.invokestatic 219, 3) := by decide +kernel
theorem dX1_amountOf_13 : decode cX1_amountOf 13 = .ok (.ireturn, 1) := by decide +kernel
set_option maxRecDepth 20000 in
theorem ggX1_reservedBy_X1_slot : GoodIn wsX1_reservedBy wsX1_slot := goodIn_r _ [9] (by decide +kernel) (by decide +kernel)
set_option maxRecDepth 20000 in
theorem gX1_reservedBy_X1_slot : GoodIn wsX1_reservedBy (va_wsS RX1 187 yX1_slot wsX1_slot) := goodIn_app (goodIn_of _ (by decide +kernel)) ggX1_reservedBy_X1_slot
theorem dX1_reservedBy_0 : decode cX1_reservedBy 0 = .ok (.aload_n 0, 1) := by decide +kernel
theorem dX1_reservedBy_1 : decode cX1_reservedBy 1 = .ok (.getfield 46, 3) := by decide +kernel
theorem dX1_reservedBy_4 : decode cX1_reservedBy 4 = .ok (.iload_n 1, 1) := by decide +kernel
theorem dX1_reservedBy_5 : decode cX1_reservedBy 5 = .ok (.iload_n 2, 1) := by decide +kernel
theorem dX1_reservedBy_6 : decode cX1_reservedBy 6 = .ok (.invokestatic 187, 3) := by decide +kernel
theorem dX1_reservedBy_9 : decode cX1_reservedBy 9 = .ok (.iaload, 1) := by decide +kernel
theorem dX1_reservedBy_10 : decode cX1_reservedBy 10 = .ok (.iconst 0, 1) := by decide +kernel
theorem dX1_reservedBy_11 : decode cX1_reservedBy 11 = .ok (.invokestatic 133, 3) := by decide +kernel
theorem dX1_reservedBy_14 : decode cX1_reservedBy 14 = .ok (.ireturn, 1) := by decide +kernel
set_option maxRecDepth 20000 in
theorem ggX1_bidsAbove_X1_amountOf : GoodIn wsX1_bidsAbove wsX1_amountOf := goodIn_ca (goodIn_r _ [6, 7, 8, 9, 10, 11, 12, 13, 5, 14, 15, 16, 17, 18, 19, 20, 21, 22, 23, 24, 25, 26, 27, 28, 29, 30] (by decide +kernel) (by decide +kernel)) (goodIn_sub (fun _ h => List.mem_cons_of_mem _ (List.mem_append_right _ h)) (by decide +kernel))
set_option maxRecDepth 20000 in
theorem gX1_bidsAbove_X1_amountOf : GoodIn wsX1_bidsAbove (wsV RX1 199 RX1 yX1_amountOf wsX1_amountOf) := goodIn_app (goodIn_of _ (by decide +kernel)) ggX1_bidsAbove_X1_amountOf
theorem dX1_bidsAbove_0 : decode cX1_bidsAbove 0 = .ok (.iconst 0, 1) := by decide +kernel
theorem dX1_bidsAbove_1 : decode cX1_bidsAbove 1 = .ok (.istore_n 3, 1) := by decide +kernel
theorem dX1_bidsAbove_2 : decode cX1_bidsAbove 2 = .ok (.iconst 0, 1) := by decide +kernel
theorem dX1_bidsAbove_3 : decode cX1_bidsAbove 3 = .ok (.istore 4, 2) := by decide +kernel
theorem dX1_bidsAbove_5 : decode cX1_bidsAbove 5 = .ok (.iload 4, 2) := by decide +kernel
theorem dX1_bidsAbove_7 : decode cX1_bidsAbove 7 = .ok (.aload_n 0, 1) := by decide +kernel
theorem dX1_bidsAbove_8 : decode cX1_bidsAbove 8 = .ok (.getfield 19, 3) := by decide +kernel
theorem dX1_bidsAbove_11 : decode cX1_bidsAbove 11 = .ok (.if_icmp .ge 28, 3) := by decide +kernel
theorem dX1_bidsAbove_14 : decode cX1_bidsAbove 14 = .ok (.iload_n 3, 1) := by decide +kernel
theorem dX1_bidsAbove_15 : decode cX1_bidsAbove 15 = .ok (.aload_n 0, 1) := by decide +kernel
theorem dX1_bidsAbove_16 : decode cX1_bidsAbove 16 = .ok (.iload 4, 2) := by decide +kernel
theorem dX1_bidsAbove_18 : decode cX1_bidsAbove 18 = .ok (.iload_n 1, 1) := by decide +kernel
theorem dX1_bidsAbove_19 : decode cX1_bidsAbove 19 = .ok (.invokevirtual 199, 3) := by decide +kernel
theorem dX1_bidsAbove_22 : decode cX1_bidsAbove 22 = .ok (.iload_n 2, 1) := by decide +kernel
theorem dX1_bidsAbove_23 : decode cX1_bidsAbove 23 = .ok (.if_icmp .le 7, 3) := by decide +kernel
theorem dX1_bidsAbove_26 : decode cX1_bidsAbove 26 = .ok (.iconst 1, 1) := by decide +kernel
theorem dX1_bidsAbove_27 : decode cX1_bidsAbove 27 = .ok (.goto 4, 3) := by decide +kernel
theorem dX1_bidsAbove_30 : decode cX1_bidsAbove 30 = .ok (.iconst 0, 1) := by decide +kernel
theorem dX1_bidsAbove_31 : decode cX1_bidsAbove 31 = .ok (.iadd, 1) := by decide +kernel
theorem dX1_bidsAbove_32 : decode cX1_bidsAbove 32 = .ok (.istore_n 3, 1) := by decide +kernel
theorem dX1_bidsAbove_33 : decode cX1_bidsAbove 33 = .ok (.iinc 4 1, 3) := by decide +kernel
theorem dX1_bidsAbove_36 : decode cX1_bidsAbove 36 = .ok (.goto (-31), 3) := by decide +kernel
theorem dX1_bidsAbove_39 : decode cX1_bidsAbove 39 = .ok (.iload_n 3, 1) := by decide +kernel
theorem dX1_bidsAbove_40 : decode cX1_bidsAbove 40 = .ok (.ireturn, 1) := by decide +kernel
set_option maxRecDepth 20000 in
theorem ggX1_winnerOf_X1_amountOf : GoodIn wsX1_winnerOf wsX1_amountOf := goodIn_ca (goodIn_r _ [7, 8, 9, 10, 11, 12, 13, 14, 6, 15, 16, 17, 18, 19, 20, 21, 22, 23, 24, 25, 26, 27, 28, 29, 30, 31] (by decide +kernel) (by decide +kernel)) (goodIn_sub (fun _ h => List.mem_cons_of_mem _ (List.mem_append_right _ h)) (by decide +kernel))
set_option maxRecDepth 20000 in
theorem gX1_winnerOf_X1_amountOf : GoodIn wsX1_winnerOf (wsV RX1 199 RX1 yX1_amountOf wsX1_amountOf) := goodIn_app (goodIn_of _ (by decide +kernel)) ggX1_winnerOf_X1_amountOf
theorem dX1_winnerOf_0 : decode cX1_winnerOf 0 = .ok (.aload_n 0, 1) := by decide +kernel
theorem dX1_winnerOf_1 : decode cX1_winnerOf 1 = .ok (.getfield 43, 3) := by decide +kernel
theorem dX1_winnerOf_4 : decode cX1_winnerOf 4 = .ok (.iload_n 1, 1) := by decide +kernel
theorem dX1_winnerOf_5 : decode cX1_winnerOf 5 = .ok (.iaload, 1) := by decide +kernel
theorem dX1_winnerOf_6 : decode cX1_winnerOf 6 = .ok (.iconst (-1), 1) := by decide +kernel
theorem dX1_winnerOf_7 : decode cX1_winnerOf 7 = .ok (.if_icmp .eq 10, 3) := by decide +kernel
theorem dX1_winnerOf_10 : decode cX1_winnerOf 10 = .ok (.aload_n 0, 1) := by decide +kernel
theorem dX1_winnerOf_11 : decode cX1_winnerOf 11 = .ok (.getfield 43, 3) := by decide +kernel
theorem dX1_winnerOf_14 : decode cX1_winnerOf 14 = .ok (.iload_n 1, 1) := by decide +kernel
theorem dX1_winnerOf_15 : decode cX1_winnerOf 15 = .ok (.iaload, 1) := by decide +kernel
theorem dX1_winnerOf_16 : decode cX1_winnerOf 16 = .ok (.ireturn, 1) := by decide +kernel
theorem dX1_winnerOf_17 : decode cX1_winnerOf 17 = .ok (.iconst (-1), 1) := by decide +kernel
theorem dX1_winnerOf_18 : decode cX1_winnerOf 18 = .ok (.istore_n 2, 1) := by decide +kernel
theorem dX1_winnerOf_19 : decode cX1_winnerOf 19 = .ok (.iconst 0, 1) := by decide +kernel
theorem dX1_winnerOf_20 : decode cX1_winnerOf 20 = .ok (.istore_n 3, 1) := by decide +kernel
theorem dX1_winnerOf_21 : decode cX1_winnerOf 21 = .ok (.iconst 0, 1) := by decide +kernel
theorem dX1_winnerOf_22 : decode cX1_winnerOf 22 = .ok (.istore 4, 2) := by decide +kernel
theorem dX1_winnerOf_24 : decode cX1_winnerOf 24 = .ok (.iload 4, 2) := by decide +kernel
theorem dX1_winnerOf_26 : decode cX1_winnerOf 26 = .ok (.aload_n 0, 1) := by decide +kernel
theorem dX1_winnerOf_27 : decode cX1_winnerOf 27 = .ok (.getfield 19, 3) := by decide +kernel
theorem dX1_winnerOf_30 : decode cX1_winnerOf 30 = .ok (.if_icmp .ge 31, 3) := by decide +kernel
theorem dX1_winnerOf_33 : decode cX1_winnerOf 33 = .ok (.aload_n 0, 1) := by decide +kernel
theorem dX1_winnerOf_34 : decode cX1_winnerOf 34 = .ok (.iload 4, 2) := by decide +kernel
theorem dX1_winnerOf_36 : decode cX1_winnerOf 36 = .ok (.iload_n 1, 1) := by decide +kernel
theorem dX1_winnerOf_37 : decode cX1_winnerOf 37 = .ok (.invokevirtual 199, 3) := by decide +kernel
theorem dX1_winnerOf_40 : decode cX1_winnerOf 40 = .ok (.iload_n 3, 1) := by decide +kernel
theorem dX1_winnerOf_41 : decode cX1_winnerOf 41 = .ok (.if_icmp .le 14, 3) := by decide +kernel
theorem dX1_winnerOf_44 : decode cX1_winnerOf 44 = .ok (.iload 4, 2) := by decide +kernel
theorem dX1_winnerOf_46 : decode cX1_winnerOf 46 = .ok (.istore_n 2, 1) := by decide +kernel
theorem dX1_winnerOf_47 : decode cX1_winnerOf 47 = .ok (.aload_n 0, 1) := by decide +kernel
theorem dX1_winnerOf_48 : decode cX1_winnerOf 48 = .ok (.iload 4, 2) := by decide +kernel
theorem dX1_winnerOf_50 : decode cX1_winnerOf 50 = .ok (.iload_n 1, 1) := by decide +kernel
theorem dX1_winnerOf_51 : decode cX1_winnerOf 51 = .ok (.invokevirtual 199, 3) := by decide +kernel
theorem dX1_winnerOf_54 : decode cX1_winnerOf 54 = .ok (.istore_n 3, 1) := by decide +kernel
theorem dX1_winnerOf_55 : decode cX1_winnerOf 55 = .ok (.iinc 4 1, 3) := by decide +kernel
theorem dX1_winnerOf_58 : decode cX1_winnerOf 58 = .ok (.goto (-34), 3) := by decide +kernel
theorem dX1_winnerOf_61 : decode cX1_winnerOf 61 = .ok (.iload_n 2, 1) := by decide +kernel
theorem dX1_winnerOf_62 : decode cX1_winnerOf 62 = .ok (.ireturn, 1) := by decide +kernel
set_option maxRecDepth 20000 in
theorem ggX1_buildsWith_X1_reservedBy : GoodIn wsX1_buildsWith wsX1_reservedBy := goodIn_ca (goodIn_r _ [5, 6, 7, 8, 9, 10, 11, 12, 4, 13, 20, 21, 22, 23, 24, 25, 26, 27, 28, 29, 30, 31, 32, 33, 34, 35] (by decide +kernel) (by decide +kernel)) (goodIn_sub (fun _ h => List.mem_cons_of_mem _ (List.mem_append_right _ h)) (by decide +kernel))
set_option maxRecDepth 20000 in
theorem gX1_buildsWith_X1_reservedBy : GoodIn wsX1_buildsWith (wsV RX1 159 RX1 yX1_reservedBy wsX1_reservedBy) := goodIn_app (goodIn_of _ (by decide +kernel)) ggX1_buildsWith_X1_reservedBy
set_option maxRecDepth 20000 in
theorem ggX1_buildsWith_X1_costOf : GoodIn wsX1_buildsWith wsX1_costOf := goodIn_ca (goodIn_r _ [17, 18, 19, 20, 21, 22, 23, 24, 25, 26, 27, 28, 29, 30, 31, 32, 33, 34, 35] (by decide +kernel) (by decide +kernel)) (goodIn_sub (fun _ h => List.mem_cons_of_mem _ (List.mem_append_right _ h)) (by decide +kernel))
set_option maxRecDepth 20000 in
theorem gX1_buildsWith_X1_costOf : GoodIn wsX1_buildsWith (wsV RX1 216 RX1 yX1_costOf wsX1_costOf) := goodIn_app (goodIn_of _ (by decide +kernel)) ggX1_buildsWith_X1_costOf
theorem dX1_buildsWith_0 : decode cX1_buildsWith 0 = .ok (.aload_n 0, 1) := by decide +kernel
theorem dX1_buildsWith_1 : decode cX1_buildsWith 1 = .ok (.iload_n 1, 1) := by decide +kernel
theorem dX1_buildsWith_2 : decode cX1_buildsWith 2 = .ok (.iload_n 2, 1) := by decide +kernel
theorem dX1_buildsWith_3 : decode cX1_buildsWith 3 = .ok (.invokevirtual 159, 3) := by decide +kernel
theorem dX1_buildsWith_6 : decode cX1_buildsWith 6 = .ok (.aload_n 0, 1) := by decide +kernel
theorem dX1_buildsWith_7 : decode cX1_buildsWith 7 = .ok (.iload_n 2, 1) := by decide +kernel
theorem dX1_buildsWith_8 : decode cX1_buildsWith 8 = .ok (.invokevirtual 216, 3) := by decide +kernel
theorem dX1_buildsWith_11 : decode cX1_buildsWith 11 = .ok (.if_icmp .lt 7, 3) := by decide +kernel
theorem dX1_buildsWith_14 : decode cX1_buildsWith 14 = .ok (.iconst 1, 1) := by decide +kernel
theorem dX1_buildsWith_15 : decode cX1_buildsWith 15 = .ok (.goto 4, 3) := by decide +kernel
theorem dX1_buildsWith_18 : decode cX1_buildsWith 18 = .ok (.iconst 0, 1) := by decide +kernel
theorem dX1_buildsWith_19 : decode cX1_buildsWith 19 = .ok (.ireturn, 1) := by decide +kernel
theorem dX1_isPlayer_0 : decode cX1_isPlayer 0 = .ok (.iload_n 1, 1) := by decide +kernel
theorem dX1_isPlayer_1 : decode cX1_isPlayer 1 = .ok (.ifCond .lt 15, 3) := by decide +kernel
theorem dX1_isPlayer_4 : decode cX1_isPlayer 4 = .ok (.iload_n 1, 1) := by decide +kernel
theorem dX1_isPlayer_5 : decode cX1_isPlayer 5 = .ok (.aload_n 0, 1) := by decide +kernel
theorem dX1_isPlayer_6 : decode cX1_isPlayer 6 = .ok (.getfield 19, 3) := by decide +kernel
theorem dX1_isPlayer_9 : decode cX1_isPlayer 9 = .ok (.if_icmp .ge 7, 3) := by decide +kernel
theorem dX1_isPlayer_12 : decode cX1_isPlayer 12 = .ok (.iconst 1, 1) := by decide +kernel
theorem dX1_isPlayer_13 : decode cX1_isPlayer 13 = .ok (.goto 4, 3) := by decide +kernel
theorem dX1_isPlayer_16 : decode cX1_isPlayer 16 = .ok (.iconst 0, 1) := by decide +kernel
theorem dX1_isPlayer_17 : decode cX1_isPlayer 17 = .ok (.ireturn, 1) := by decide +kernel
theorem dX1_hasUsedFerry_0 : decode cX1_hasUsedFerry 0 = .ok (.aload_n 0, 1) := by decide +kernel
theorem dX1_hasUsedFerry_1 : decode cX1_hasUsedFerry 1 = .ok (.getfield 25, 3) := by decide +kernel
theorem dX1_hasUsedFerry_4 : decode cX1_hasUsedFerry 4 = .ok (.iconst 1, 1) := by decide +kernel
theorem dX1_hasUsedFerry_5 : decode cX1_hasUsedFerry 5 = .ok (.iload_n 1, 1) := by decide +kernel
theorem dX1_hasUsedFerry_6 : decode cX1_hasUsedFerry 6 = .ok (.ishl, 1) := by decide +kernel
theorem dX1_hasUsedFerry_7 : decode cX1_hasUsedFerry 7 = .ok (.iand, 1) := by decide +kernel
theorem dX1_hasUsedFerry_8 : decode cX1_hasUsedFerry 8 = .ok (.ifCond .eq 7, 3) := by decide +kernel
theorem dX1_hasUsedFerry_11 : decode cX1_hasUsedFerry 11 = .ok (.iconst 1, 1) := by decide +kernel
theorem dX1_hasUsedFerry_12 : decode cX1_hasUsedFerry 12 = .ok (.goto 4, 3) := by decide +kernel
theorem dX1_hasUsedFerry_15 : decode cX1_hasUsedFerry 15 = .ok (.iconst 0, 1) := by decide +kernel
theorem dX1_hasUsedFerry_16 : decode cX1_hasUsedFerry 16 = .ok (.ireturn, 1) := by decide +kernel
set_option maxRecDepth 20000 in
theorem ggX1_availableTo_X1_reservedBy : GoodIn wsX1_availableTo wsX1_reservedBy := goodIn_ca (goodIn_r _ [7, 8, 9, 10, 11, 12, 13, 14, 6, 15, 16, 17, 18, 19, 20, 21, 22, 23, 24, 25, 26, 27, 28, 29, 30, 31] (by decide +kernel) (by decide +kernel)) (goodIn_sub (fun _ h => List.mem_cons_of_mem _ (List.mem_append_right _ h)) (by decide +kernel))
set_option maxRecDepth 20000 in
theorem gX1_availableTo_X1_reservedBy : GoodIn wsX1_availableTo (wsV RX1 159 RX1 yX1_reservedBy wsX1_reservedBy) := goodIn_app (goodIn_of _ (by decide +kernel)) ggX1_availableTo_X1_reservedBy
theorem dX1_availableTo_0 : decode cX1_availableTo 0 = .ok (.aload_n 0, 1) := by decide +kernel
theorem dX1_availableTo_1 : decode cX1_availableTo 1 = .ok (.getfield 22, 3) := by decide +kernel
theorem dX1_availableTo_4 : decode cX1_availableTo 4 = .ok (.iload_n 1, 1) := by decide +kernel
theorem dX1_availableTo_5 : decode cX1_availableTo 5 = .ok (.iaload, 1) := by decide +kernel
theorem dX1_availableTo_6 : decode cX1_availableTo 6 = .ok (.istore_n 2, 1) := by decide +kernel
theorem dX1_availableTo_7 : decode cX1_availableTo 7 = .ok (.iconst 0, 1) := by decide +kernel
theorem dX1_availableTo_8 : decode cX1_availableTo 8 = .ok (.istore_n 3, 1) := by decide +kernel
theorem dX1_availableTo_9 : decode cX1_availableTo 9 = .ok (.iload_n 3, 1) := by decide +kernel
theorem dX1_availableTo_10 : decode cX1_availableTo 10 = .ok (.aload_n 0, 1) := by decide +kernel
theorem dX1_availableTo_11 : decode cX1_availableTo 11 = .ok (.getfield 28, 3) := by decide +kernel
theorem dX1_availableTo_14 : decode cX1_availableTo 14 = .ok (.if_icmp .ge 18, 3) := by decide +kernel
theorem dX1_availableTo_17 : decode cX1_availableTo 17 = .ok (.iload_n 2, 1) := by decide +kernel
theorem dX1_availableTo_18 : decode cX1_availableTo 18 = .ok (.aload_n 0, 1) := by decide +kernel
theorem dX1_availableTo_19 : decode cX1_availableTo 19 = .ok (.iload_n 1, 1) := by decide +kernel
theorem dX1_availableTo_20 : decode cX1_availableTo 20 = .ok (.iload_n 3, 1) := by decide +kernel
theorem dX1_availableTo_21 : decode cX1_availableTo 21 = .ok (.invokevirtual 159, 3) := by decide +kernel
theorem dX1_availableTo_24 : decode cX1_availableTo 24 = .ok (.isub, 1) := by decide +kernel
theorem dX1_availableTo_25 : decode cX1_availableTo 25 = .ok (.istore_n 2, 1) := by decide +kernel
theorem dX1_availableTo_26 : decode cX1_availableTo 26 = .ok (.iinc 3 1, 3) := by decide +kernel
theorem dX1_availableTo_29 : decode cX1_availableTo 29 = .ok (.goto (-20), 3) := by decide +kernel
theorem dX1_availableTo_32 : decode cX1_availableTo 32 = .ok (.iload_n 2, 1) := by decide +kernel
theorem dX1_availableTo_33 : decode cX1_availableTo 33 = .ok (.ireturn, 1) := by decide +kernel
theorem dX1_bridgesOf_0 : decode cX1_bridgesOf 0 = .ok (.iconst 0, 1) := by decide +kernel
theorem dX1_bridgesOf_1 : decode cX1_bridgesOf 1 = .ok (.istore_n 2, 1) := by decide +kernel
theorem dX1_bridgesOf_2 : decode cX1_bridgesOf 2 = .ok (.iconst 0, 1) := by decide +kernel
theorem dX1_bridgesOf_3 : decode cX1_bridgesOf 3 = .ok (.istore_n 3, 1) := by decide +kernel
theorem dX1_bridgesOf_4 : decode cX1_bridgesOf 4 = .ok (.iload_n 3, 1) := by decide +kernel
theorem dX1_bridgesOf_5 : decode cX1_bridgesOf 5 = .ok (.aload_n 0, 1) := by decide +kernel
theorem dX1_bridgesOf_6 : decode cX1_bridgesOf 6 = .ok (.getfield 28, 3) := by decide +kernel
theorem dX1_bridgesOf_9 : decode cX1_bridgesOf 9 = .ok (.if_icmp .ge 27, 3) := by decide +kernel
theorem dX1_bridgesOf_12 : decode cX1_bridgesOf 12 = .ok (.iload_n 2, 1) := by decide +kernel
theorem dX1_bridgesOf_13 : decode cX1_bridgesOf 13 = .ok (.aload_n 0, 1) := by decide +kernel
theorem dX1_bridgesOf_14 : decode cX1_bridgesOf 14 = .ok (.getfield 40, 3) := by decide +kernel
theorem dX1_bridgesOf_17 : decode cX1_bridgesOf 17 = .ok (.iload_n 3, 1) := by decide +kernel
theorem dX1_bridgesOf_18 : decode cX1_bridgesOf 18 = .ok (.iaload, 1) := by decide +kernel
theorem dX1_bridgesOf_19 : decode cX1_bridgesOf 19 = .ok (.iload_n 1, 1) := by decide +kernel
theorem dX1_bridgesOf_20 : decode cX1_bridgesOf 20 = .ok (.if_icmp .ne 7, 3) := by decide +kernel
theorem dX1_bridgesOf_23 : decode cX1_bridgesOf 23 = .ok (.iconst 1, 1) := by decide +kernel
theorem dX1_bridgesOf_24 : decode cX1_bridgesOf 24 = .ok (.goto 4, 3) := by decide +kernel
theorem dX1_bridgesOf_27 : decode cX1_bridgesOf 27 = .ok (.iconst 0, 1) := by decide +kernel
theorem dX1_bridgesOf_28 : decode cX1_bridgesOf 28 = .ok (.iadd, 1) := by decide +kernel
theorem dX1_bridgesOf_29 : decode cX1_bridgesOf 29 = .ok (.istore_n 2, 1) := by decide +kernel
theorem dX1_bridgesOf_30 : decode cX1_bridgesOf 30 = .ok (.iinc 3 1, 3) := by decide +kernel
theorem dX1_bridgesOf_33 : decode cX1_bridgesOf 33 = .ok (.goto (-29), 3) := by decide +kernel
theorem dX1_bridgesOf_36 : decode cX1_bridgesOf 36 = .ok (.iload_n 2, 1) := by decide +kernel
theorem dX1_bridgesOf_37 : decode cX1_bridgesOf 37 = .ok (.ireturn, 1) := by decide +kernel
theorem dX1_scoreOf_0 : decode cX1_scoreOf 0 = .ok (.iconst 0, 1) := by decide +kernel
theorem dX1_scoreOf_1 : decode cX1_scoreOf 1 = .ok (.istore_n 2, 1) := by decide +kernel
theorem dX1_scoreOf_2 : decode cX1_scoreOf 2 = .ok (.iconst 0, 1) := by decide +kernel
theorem dX1_scoreOf_3 : decode cX1_scoreOf 3 = .ok (.istore_n 3, 1) := by decide +kernel
theorem dX1_scoreOf_4 : decode cX1_scoreOf 4 = .ok (.iload_n 3, 1) := by decide +kernel
theorem dX1_scoreOf_5 : decode cX1_scoreOf 5 = .ok (.aload_n 0, 1) := by decide +kernel
theorem dX1_scoreOf_6 : decode cX1_scoreOf 6 = .ok (.getfield 28, 3) := by decide +kernel
theorem dX1_scoreOf_9 : decode cX1_scoreOf 9 = .ok (.if_icmp .ge 61, 3) := by decide +kernel
theorem dX1_scoreOf_12 : decode cX1_scoreOf 12 = .ok (.aload_n 0, 1) := by decide +kernel
theorem dX1_scoreOf_13 : decode cX1_scoreOf 13 = .ok (.getfield 40, 3) := by decide +kernel
theorem dX1_scoreOf_16 : decode cX1_scoreOf 16 = .ok (.iload_n 3, 1) := by decide +kernel
theorem dX1_scoreOf_17 : decode cX1_scoreOf 17 = .ok (.iaload, 1) := by decide +kernel
theorem dX1_scoreOf_18 : decode cX1_scoreOf 18 = .ok (.iload_n 1, 1) := by decide +kernel
theorem dX1_scoreOf_19 : decode cX1_scoreOf 19 = .ok (.if_icmp .ne 45, 3) := by decide +kernel
theorem dX1_scoreOf_22 : decode cX1_scoreOf 22 = .ok (.iload_n 2, 1) := by decide +kernel
theorem dX1_scoreOf_23 : decode cX1_scoreOf 23 = .ok (.aload_n 0, 1) := by decide +kernel
theorem dX1_scoreOf_24 : decode cX1_scoreOf 24 = .ok (.getfield 37, 3) := by decide +kernel
theorem dX1_scoreOf_27 : decode cX1_scoreOf 27 = .ok (.iload_n 3, 1) := by decide +kernel
theorem dX1_scoreOf_28 : decode cX1_scoreOf 28 = .ok (.iaload, 1) := by decide +kernel
theorem dX1_scoreOf_29 : decode cX1_scoreOf 29 = .ok (.iadd, 1) := by decide +kernel
theorem dX1_scoreOf_30 : decode cX1_scoreOf 30 = .ok (.istore_n 2, 1) := by decide +kernel
theorem dX1_scoreOf_31 : decode cX1_scoreOf 31 = .ok (.iload_n 2, 1) := by decide +kernel
theorem dX1_scoreOf_32 : decode cX1_scoreOf 32 = .ok (.aload_n 0, 1) := by decide +kernel
theorem dX1_scoreOf_33 : decode cX1_scoreOf 33 = .ok (.getfield 9, 3) := by decide +kernel
theorem dX1_scoreOf_36 : decode cX1_scoreOf 36 = .ok (.aload_n 0, 1) := by decide +kernel
theorem dX1_scoreOf_37 : decode cX1_scoreOf 37 = .ok (.getfield 31, 3) := by decide +kernel
theorem dX1_scoreOf_40 : decode cX1_scoreOf 40 = .ok (.iload_n 3, 1) := by decide +kernel
theorem dX1_scoreOf_41 : decode cX1_scoreOf 41 = .ok (.iaload, 1) := by decide +kernel
theorem dX1_scoreOf_42 : decode cX1_scoreOf 42 = .ok (.iaload, 1) := by decide +kernel
theorem dX1_scoreOf_43 : decode cX1_scoreOf 43 = .ok (.aload_n 0, 1) := by decide +kernel
theorem dX1_scoreOf_44 : decode cX1_scoreOf 44 = .ok (.getfield 9, 3) := by decide +kernel
theorem dX1_scoreOf_47 : decode cX1_scoreOf 47 = .ok (.aload_n 0, 1) := by decide +kernel
theorem dX1_scoreOf_48 : decode cX1_scoreOf 48 = .ok (.getfield 34, 3) := by decide +kernel
theorem dX1_scoreOf_51 : decode cX1_scoreOf 51 = .ok (.iload_n 3, 1) := by decide +kernel
theorem dX1_scoreOf_52 : decode cX1_scoreOf 52 = .ok (.iaload, 1) := by decide +kernel
theorem dX1_scoreOf_53 : decode cX1_scoreOf 53 = .ok (.iaload, 1) := by decide +kernel
theorem dX1_scoreOf_54 : decode cX1_scoreOf 54 = .ok (.if_icmp .ne 7, 3) := by decide +kernel
theorem dX1_scoreOf_57 : decode cX1_scoreOf 57 = .ok (.iconst 3, 1) := by decide +kernel
theorem dX1_scoreOf_58 : decode cX1_scoreOf 58 = .ok (.goto 4, 3) := by decide +kernel
theorem dX1_scoreOf_61 : decode cX1_scoreOf 61 = .ok (.iconst 0, 1) := by decide +kernel
theorem dX1_scoreOf_62 : decode cX1_scoreOf 62 = .ok (.iadd, 1) := by decide +kernel
theorem dX1_scoreOf_63 : decode cX1_scoreOf 63 = .ok (.istore_n 2, 1) := by decide +kernel
theorem dX1_scoreOf_64 : decode cX1_scoreOf 64 = .ok (.iinc 3 1, 3) := by decide +kernel
theorem dX1_scoreOf_67 : decode cX1_scoreOf 67 = .ok (.goto (-63), 3) := by decide +kernel
theorem dX1_scoreOf_70 : decode cX1_scoreOf 70 = .ok (.iload_n 2, 1) := by decide +kernel
theorem dX1_scoreOf_71 : decode cX1_scoreOf 71 = .ok (.ireturn, 1) := by decide +kernel
set_option maxRecDepth 20000 in
theorem ggX1_playerAtRank_X1_rankOf : GoodIn wsX1_playerAtRank wsX1_rankOf := goodIn_ca (goodIn_r _ [6, 1, 7, 8, 9, 5, 10, 11, 12, 13, 14, 15, 16, 17, 18, 19, 20, 21, 22, 23, 24, 25, 26, 27, 28, 29, 30, 31, 32, 33, 34, 35, 36, 37, 38, 39, 40, 41] (by decide +kernel) (by decide +kernel)) (goodIn_sub (fun _ h => List.mem_cons_of_mem _ (List.mem_append_right _ h)) (by decide +kernel))
set_option maxRecDepth 20000 in
theorem gX1_playerAtRank_X1_rankOf : GoodIn wsX1_playerAtRank (wsV RX1 222 RX1 yX1_rankOf wsX1_rankOf) := goodIn_app (goodIn_of _ (by decide +kernel)) ggX1_playerAtRank_X1_rankOf
theorem dX1_playerAtRank_0 : decode cX1_playerAtRank 0 = .ok (.iconst 0, 1) := by decide +kernel
theorem dX1_playerAtRank_1 : decode cX1_playerAtRank 1 = .ok (.istore_n 2, 1) := by decide +kernel
theorem dX1_playerAtRank_2 : decode cX1_playerAtRank 2 = .ok (.iload_n 2, 1) := by decide +kernel
theorem dX1_playerAtRank_3 : decode cX1_playerAtRank 3 = .ok (.aload_n 0, 1) := by decide +kernel
theorem dX1_playerAtRank_4 : decode cX1_playerAtRank 4 = .ok (.getfield 19, 3) := by decide +kernel
theorem dX1_playerAtRank_7 : decode cX1_playerAtRank 7 = .ok (.if_icmp .ge 20, 3) := by decide +kernel
theorem dX1_playerAtRank_10 : decode cX1_playerAtRank 10 = .ok (.aload_n 0, 1) := by decide +kernel
theorem dX1_playerAtRank_11 : decode cX1_playerAtRank 11 = .ok (.iload_n 2, 1) := by decide +kernel
theorem dX1_playerAtRank_12 : decode cX1_playerAtRank 12 = .ok (.invokevirtual 222, 3) := by decide +kernel
theorem dX1_playerAtRank_15 : decode cX1_playerAtRank 15 = .ok (.iload_n 1, 1) := by decide +kernel
theorem dX1_playerAtRank_16 : decode cX1_playerAtRank 16 = .ok (.if_icmp .ne 5, 3) := by decide +kernel
theorem dX1_playerAtRank_19 : decode cX1_playerAtRank 19 = .ok (.iload_n 2, 1) := by decide +kernel
theorem dX1_playerAtRank_20 : decode cX1_playerAtRank 20 = .ok (.ireturn, 1) := by decide +kernel
theorem dX1_playerAtRank_21 : decode cX1_playerAtRank 21 = .ok (.iinc 2 1, 3) := by decide +kernel
theorem dX1_playerAtRank_24 : decode cX1_playerAtRank 24 = .ok (.goto (-22), 3) := by decide +kernel
theorem dX1_playerAtRank_27 : decode cX1_playerAtRank 27 = .ok (.iconst (-1), 1) := by decide +kernel
theorem dX1_playerAtRank_28 : decode cX1_playerAtRank 28 = .ok (.ireturn, 1) := by decide +kernel
set_option maxRecDepth 20000 in
theorem ggX1_rankOf_X1_isAhead : GoodIn wsX1_rankOf wsX1_isAhead := goodIn_ca (goodIn_r _ [6, 7, 8, 9, 10, 5, 11, 12, 13, 14, 15, 16, 17, 18, 19, 20, 21, 22, 23, 24, 25, 26, 27, 28, 29, 30, 31, 32, 33, 34, 35, 36, 37] (by decide +kernel) (by decide +kernel)) (goodIn_sub (fun _ h => List.mem_cons_of_mem _ (List.mem_append_right _ h)) (by decide +kernel))
set_option maxRecDepth 20000 in
theorem gX1_rankOf_X1_isAhead : GoodIn wsX1_rankOf (wsV RX1 225 RX1 yX1_isAhead wsX1_isAhead) := goodIn_app (goodIn_of _ (by decide +kernel)) ggX1_rankOf_X1_isAhead
theorem dX1_rankOf_0 : decode cX1_rankOf 0 = .ok (.iconst 0, 1) := by decide +kernel
theorem dX1_rankOf_1 : decode cX1_rankOf 1 = .ok (.istore_n 2, 1) := by decide +kernel
theorem dX1_rankOf_2 : decode cX1_rankOf 2 = .ok (.iconst 0, 1) := by decide +kernel
theorem dX1_rankOf_3 : decode cX1_rankOf 3 = .ok (.istore_n 3, 1) := by decide +kernel
theorem dX1_rankOf_4 : decode cX1_rankOf 4 = .ok (.iload_n 3, 1) := by decide +kernel
theorem dX1_rankOf_5 : decode cX1_rankOf 5 = .ok (.aload_n 0, 1) := by decide +kernel
theorem dX1_rankOf_6 : decode cX1_rankOf 6 = .ok (.getfield 19, 3) := by decide +kernel
theorem dX1_rankOf_9 : decode cX1_rankOf 9 = .ok (.if_icmp .ge 26, 3) := by decide +kernel
theorem dX1_rankOf_12 : decode cX1_rankOf 12 = .ok (.iload_n 2, 1) := by decide +kernel
theorem dX1_rankOf_13 : decode cX1_rankOf 13 = .ok (.aload_n 0, 1) := by decide +kernel
theorem dX1_rankOf_14 : decode cX1_rankOf 14 = .ok (.iload_n 3, 1) := by decide +kernel
theorem dX1_rankOf_15 : decode cX1_rankOf 15 = .ok (.iload_n 1, 1) := by decide +kernel
theorem dX1_rankOf_16 : decode cX1_rankOf 16 = .ok (.invokevirtual 225, 3) := by decide +kernel
theorem dX1_rankOf_19 : decode cX1_rankOf 19 = .ok (.ifCond .eq 7, 3) := by decide +kernel
theorem dX1_rankOf_22 : decode cX1_rankOf 22 = .ok (.iconst 1, 1) := by decide +kernel
theorem dX1_rankOf_23 : decode cX1_rankOf 23 = .ok (.goto 4, 3) := by decide +kernel
theorem dX1_rankOf_26 : decode cX1_rankOf 26 = .ok (.iconst 0, 1) := by decide +kernel
theorem dX1_rankOf_27 : decode cX1_rankOf 27 = .ok (.iadd, 1) := by decide +kernel
theorem dX1_rankOf_28 : decode cX1_rankOf 28 = .ok (.istore_n 2, 1) := by decide +kernel
theorem dX1_rankOf_29 : decode cX1_rankOf 29 = .ok (.iinc 3 1, 3) := by decide +kernel
theorem dX1_rankOf_32 : decode cX1_rankOf 32 = .ok (.goto (-28), 3) := by decide +kernel
theorem dX1_rankOf_35 : decode cX1_rankOf 35 = .ok (.iload_n 2, 1) := by decide +kernel
theorem dX1_rankOf_36 : decode cX1_rankOf 36 = .ok (.ireturn, 1) := by decide +kernel
set_option maxRecDepth 20000 in
theorem ggX1_isAhead_X1_scoreOf : GoodIn wsX1_isAhead wsX1_scoreOf := goodIn_ca (goodIn_r _ [6, 7, 8, 9, 10, 11, 12, 17, 18, 19, 20, 21, 22, 23, 24, 25, 26, 27, 28, 29, 30, 31, 32] (by decide +kernel) (by decide +kernel)) (goodIn_sub (fun _ h => List.mem_cons_of_mem _ (List.mem_append_right _ h)) (by decide +kernel))
set_option maxRecDepth 20000 in
theorem gX1_isAhead_X1_scoreOf : GoodIn wsX1_isAhead (wsV RX1 228 RX1 yX1_scoreOf wsX1_scoreOf) := goodIn_app (goodIn_of _ (by decide +kernel)) ggX1_isAhead_X1_scoreOf
set_option maxRecDepth 20000 in
theorem ggX1_isAhead_J6_compare_7cf53 : GoodIn wsX1_isAhead wsJ6_compare_7cf53 := goodIn_r _ [16] (by decide +kernel) (by decide +kernel)
set_option maxRecDepth 20000 in
theorem gX1_isAhead_J6_compare_7cf53 : GoodIn wsX1_isAhead (va_wsS RX1 231 yJ6_compare_7cf53 wsJ6_compare_7cf53) := goodIn_app (goodIn_of _ (by decide +kernel)) ggX1_isAhead_J6_compare_7cf53
theorem dX1_isAhead_0 : decode cX1_isAhead 0 = .ok (.aload_n 0, 1) := by decide +kernel
theorem dX1_isAhead_1 : decode cX1_isAhead 1 = .ok (.iload_n 1, 1) := by decide +kernel
theorem dX1_isAhead_2 : decode cX1_isAhead 2 = .ok (.invokevirtual 228, 3) := by decide +kernel
theorem dX1_isAhead_5 : decode cX1_isAhead 5 = .ok (.aload_n 0, 1) := by decide +kernel
theorem dX1_isAhead_6 : decode cX1_isAhead 6 = .ok (.iload_n 2, 1) := by decide +kernel
theorem dX1_isAhead_7 : decode cX1_isAhead 7 = .ok (.invokevirtual 228, 3) := by decide +kernel
theorem dX1_isAhead_10 : decode cX1_isAhead 10 = .ok (.invokestatic 231, 3) := by decide +kernel
theorem dX1_isAhead_13 : decode cX1_isAhead 13 = .ok (.istore_n 3, 1) := by decide +kernel
theorem dX1_isAhead_14 : decode cX1_isAhead 14 = .ok (.iload_n 3, 1) := by decide +kernel
theorem dX1_isAhead_15 : decode cX1_isAhead 15 = .ok (.ifCond .eq 13, 3) := by decide +kernel
theorem dX1_isAhead_18 : decode cX1_isAhead 18 = .ok (.iload_n 3, 1) := by decide +kernel
theorem dX1_isAhead_19 : decode cX1_isAhead 19 = .ok (.ifCond .le 7, 3) := by decide +kernel
theorem dX1_isAhead_22 : decode cX1_isAhead 22 = .ok (.iconst 1, 1) := by decide +kernel
theorem dX1_isAhead_23 : decode cX1_isAhead 23 = .ok (.goto 4, 3) := by decide +kernel
theorem dX1_isAhead_26 : decode cX1_isAhead 26 = .ok (.iconst 0, 1) := by decide +kernel
theorem dX1_isAhead_27 : decode cX1_isAhead 27 = .ok (.ireturn, 1) := by decide +kernel
theorem dX1_isAhead_28 : decode cX1_isAhead 28 = .ok (.aload_n 0, 1) := by decide +kernel
theorem dX1_isAhead_29 : decode cX1_isAhead 29 = .ok (.getfield 22, 3) := by decide +kernel
theorem dX1_isAhead_32 : decode cX1_isAhead 32 = .ok (.iload_n 1, 1) := by decide +kernel
theorem dX1_isAhead_33 : decode cX1_isAhead 33 = .ok (.iaload, 1) := by decide +kernel
theorem dX1_isAhead_34 : decode cX1_isAhead 34 = .ok (.aload_n 0, 1) := by decide +kernel
theorem dX1_isAhead_35 : decode cX1_isAhead 35 = .ok (.getfield 22, 3) := by decide +kernel
theorem dX1_isAhead_38 : decode cX1_isAhead 38 = .ok (.iload_n 2, 1) := by decide +kernel
theorem dX1_isAhead_39 : decode cX1_isAhead 39 = .ok (.iaload, 1) := by decide +kernel
theorem dX1_isAhead_40 : decode cX1_isAhead 40 = .ok (.invokestatic 231, 3) := by decide +kernel
theorem dX1_isAhead_43 : decode cX1_isAhead 43 = .ok (.istore 4, 2) := by decide +kernel
theorem dX1_isAhead_45 : decode cX1_isAhead 45 = .ok (.iload 4, 2) := by decide +kernel
theorem dX1_isAhead_47 : decode cX1_isAhead 47 = .ok (.ifCond .eq 16, 3) := by decide +kernel
theorem dX1_isAhead_50 : decode cX1_isAhead 50 = .ok (.iload 4, 2) := by decide +kernel
theorem dX1_isAhead_52 : decode cX1_isAhead 52 = .ok (.ifCond .le 7, 3) := by decide +kernel
theorem dX1_isAhead_55 : decode cX1_isAhead 55 = .ok (.iconst 1, 1) := by decide +kernel
theorem dX1_isAhead_56 : decode cX1_isAhead 56 = .ok (.goto 17, 3) := by decide +kernel
theorem dX1_isAhead_59 : decode cX1_isAhead 59 = .ok (.iconst 0, 1) := by decide +kernel
theorem dX1_isAhead_60 : decode cX1_isAhead 60 = .ok (.goto 13, 3) := by decide +kernel
theorem dX1_isAhead_63 : decode cX1_isAhead 63 = .ok (.iload_n 1, 1) := by decide +kernel
theorem dX1_isAhead_64 : decode cX1_isAhead 64 = .ok (.iload_n 2, 1) := by decide +kernel
theorem dX1_isAhead_65 : decode cX1_isAhead 65 = .ok (.if_icmp .ge 7, 3) := by decide +kernel
theorem dX1_isAhead_68 : decode cX1_isAhead 68 = .ok (.iconst 1, 1) := by decide +kernel
theorem dX1_isAhead_69 : decode cX1_isAhead 69 = .ok (.goto 4, 3) := by decide +kernel
theorem dX1_isAhead_72 : decode cX1_isAhead 72 = .ok (.iconst 0, 1) := by decide +kernel
theorem dX1_isAhead_73 : decode cX1_isAhead 73 = .ok (.ireturn, 1) := by decide +kernel
set_option maxRecDepth 20000 in
theorem ggX1_isEveryPlayerSolvent_X1_availableTo : GoodIn wsX1_isEveryPlayerSolvent wsX1_availableTo := goodIn_ca (goodIn_r _ [6, 7, 8, 9, 10, 11, 5, 12, 13, 14, 15, 16, 17, 18, 19, 20, 21, 22, 23, 24, 25, 26, 27, 28, 29, 30, 31, 32, 33, 34, 35, 36] (by decide +kernel) (by decide +kernel)) (goodIn_sub (fun _ h => List.mem_cons_of_mem _ (List.mem_append_right _ h)) (by decide +kernel))
set_option maxRecDepth 20000 in
theorem gX1_isEveryPlayerSolvent_X1_availableTo : GoodIn wsX1_isEveryPlayerSolvent (wsV RX1 155 RX1 yX1_availableTo wsX1_availableTo) := goodIn_app (goodIn_of _ (by decide +kernel)) ggX1_isEveryPlayerSolvent_X1_availableTo
theorem dX1_isEveryPlayerSolvent_0 : decode cX1_isEveryPlayerSolvent 0 = .ok (.iconst 0, 1) := by decide +kernel
theorem dX1_isEveryPlayerSolvent_1 : decode cX1_isEveryPlayerSolvent 1 = .ok (.istore_n 1, 1) := by decide +kernel
theorem dX1_isEveryPlayerSolvent_2 : decode cX1_isEveryPlayerSolvent 2 = .ok (.iload_n 1, 1) := by decide +kernel
theorem dX1_isEveryPlayerSolvent_3 : decode cX1_isEveryPlayerSolvent 3 = .ok (.aload_n 0, 1) := by decide +kernel
theorem dX1_isEveryPlayerSolvent_4 : decode cX1_isEveryPlayerSolvent 4 = .ok (.getfield 19, 3) := by decide +kernel
theorem dX1_isEveryPlayerSolvent_7 : decode cX1_isEveryPlayerSolvent 7 = .ok (.if_icmp .ge 19, 3) := by decide +kernel
theorem dX1_isEveryPlayerSolvent_10 : decode cX1_isEveryPlayerSolvent 10 = .ok (.aload_n 0, 1) := by decide +kernel
theorem dX1_isEveryPlayerSolvent_11 : decode cX1_isEveryPlayerSolvent 11 = .ok (.iload_n 1, 1) := by decide +kernel
theorem dX1_isEveryPlayerSolvent_12 : decode cX1_isEveryPlayerSolvent 12 = .ok (.invokevirtual 155, 3) := by decide +kernel
theorem dX1_isEveryPlayerSolvent_15 : decode cX1_isEveryPlayerSolvent 15 = .ok (.ifCond .ge 5, 3) := by decide +kernel
theorem dX1_isEveryPlayerSolvent_18 : decode cX1_isEveryPlayerSolvent 18 = .ok (.iconst 0, 1) := by decide +kernel
theorem dX1_isEveryPlayerSolvent_19 : decode cX1_isEveryPlayerSolvent 19 = .ok (.ireturn, 1) := by decide +kernel
theorem dX1_isEveryPlayerSolvent_20 : decode cX1_isEveryPlayerSolvent 20 = .ok (.iinc 1 1, 3) := by decide +kernel
theorem dX1_isEveryPlayerSolvent_23 : decode cX1_isEveryPlayerSolvent 23 = .ok (.goto (-21), 3) := by decide +kernel
theorem dX1_isEveryPlayerSolvent_26 : decode cX1_isEveryPlayerSolvent 26 = .ok (.iconst 1, 1) := by decide +kernel
theorem dX1_isEveryPlayerSolvent_27 : decode cX1_isEveryPlayerSolvent 27 = .ok (.ireturn, 1) := by decide +kernel
theorem dX1_isMoneyKept_0 : decode cX1_isMoneyKept 0 = .ok (.aload_n 0, 1) := by decide +kernel
theorem dX1_isMoneyKept_1 : decode cX1_isMoneyKept 1 = .ok (.getfield 52, 3) := by decide +kernel
theorem dX1_isMoneyKept_4 : decode cX1_isMoneyKept 4 = .ok (.istore_n 1, 1) := by decide +kernel
theorem dX1_isMoneyKept_5 : decode cX1_isMoneyKept 5 = .ok (.iconst 0, 1) := by decide +kernel
theorem dX1_isMoneyKept_6 : decode cX1_isMoneyKept 6 = .ok (.istore_n 2, 1) := by decide +kernel
theorem dX1_isMoneyKept_7 : decode cX1_isMoneyKept 7 = .ok (.iload_n 2, 1) := by decide +kernel
theorem dX1_isMoneyKept_8 : decode cX1_isMoneyKept 8 = .ok (.aload_n 0, 1) := by decide +kernel
theorem dX1_isMoneyKept_9 : decode cX1_isMoneyKept 9 = .ok (.getfield 19, 3) := by decide +kernel
theorem dX1_isMoneyKept_12 : decode cX1_isMoneyKept 12 = .ok (.if_icmp .ge 18, 3) := by decide +kernel
theorem dX1_isMoneyKept_15 : decode cX1_isMoneyKept 15 = .ok (.iload_n 1, 1) := by decide +kernel
theorem dX1_isMoneyKept_16 : decode cX1_isMoneyKept 16 = .ok (.aload_n 0, 1) := by decide +kernel
theorem dX1_isMoneyKept_17 : decode cX1_isMoneyKept 17 = .ok (.getfield 22, 3) := by decide +kernel
theorem dX1_isMoneyKept_20 : decode cX1_isMoneyKept 20 = .ok (.iload_n 2, 1) := by decide +kernel
theorem dX1_isMoneyKept_21 : decode cX1_isMoneyKept 21 = .ok (.iaload, 1) := by decide +kernel
theorem dX1_isMoneyKept_22 : decode cX1_isMoneyKept 22 = .ok (.iadd, 1) := by decide +kernel
theorem dX1_isMoneyKept_23 : decode cX1_isMoneyKept 23 = .ok (.istore_n 1, 1) := by decide +kernel
theorem dX1_isMoneyKept_24 : decode cX1_isMoneyKept 24 = .ok (.iinc 2 1, 3) := by decide +kernel
theorem dX1_isMoneyKept_27 : decode cX1_isMoneyKept 27 = .ok (.goto (-20), 3) := by decide +kernel
theorem dX1_isMoneyKept_30 : decode cX1_isMoneyKept 30 = .ok (.iload_n 1, 1) := by decide +kernel
theorem dX1_isMoneyKept_31 : decode cX1_isMoneyKept 31 = .ok (.aload_n 0, 1) := by decide +kernel
theorem dX1_isMoneyKept_32 : decode cX1_isMoneyKept 32 = .ok (.getfield 49, 3) := by decide +kernel
theorem dX1_isMoneyKept_35 : decode cX1_isMoneyKept 35 = .ok (.if_icmp .ne 7, 3) := by decide +kernel
theorem dX1_isMoneyKept_38 : decode cX1_isMoneyKept 38 = .ok (.iconst 1, 1) := by decide +kernel
theorem dX1_isMoneyKept_39 : decode cX1_isMoneyKept 39 = .ok (.goto 4, 3) := by decide +kernel
theorem dX1_isMoneyKept_42 : decode cX1_isMoneyKept 42 = .ok (.iconst 0, 1) := by decide +kernel
theorem dX1_isMoneyKept_43 : decode cX1_isMoneyKept 43 = .ok (.ireturn, 1) := by decide +kernel
set_option maxRecDepth 20000 in
theorem ggX1_describe_J4_append_bf812 : GoodIn wsX1_describe wsJ4_append_bf812 := goodIn_r _ [10, 11, 12, 13, 14, 15, 16, 17, 18, 19, 20, 21, 22, 23, 24, 25, 26, 27, 28, 29, 30, 31, 32, 33, 34, 35, 36, 37, 38, 39, 40, 41, 42, 43, 44, 45, 46, 47, 48, 49, 50, 51, 52, 53, 54, 55, 56, 57, 58, 59, 60, 61, 62, 63, 64, 65, 66, 67, 68, 69, 70, 71, 72, 73, 74, 75, 76, 77, 78, 79, 80, 81, 82, 83, 84, 85, 86, 87, 88, 89, 90, 91, 92, 93, 94, 95, 96, 97, 98, 99, 100, 101, 102, 103, 104, 105, 202, 203, 204, 205] (by decide +kernel) (by decide +kernel)
set_option maxRecDepth 20000 in
theorem gX1_describe_J4_append_bf812 : GoodIn wsX1_describe (wsV RX1 236 RJ4 yJ4_append_bf812 wsJ4_append_bf812) := goodIn_app (goodIn_of _ (by decide +kernel)) ggX1_describe_J4_append_bf812
set_option maxRecDepth 20000 in
theorem ggX1_describe_J4_append_cf468 : GoodIn wsX1_describe wsJ4_append_cf468 := goodIn_r _ [109, 110, 111, 13, 112, 15, 113, 17, 18, 23, 24, 25, 26, 27, 28, 29, 30, 31, 32, 33, 34, 35, 36, 37, 38, 39, 40, 41, 42, 43, 44, 45, 46, 47, 48, 49, 50, 51, 52, 53, 54, 55, 56, 57, 58, 59, 60, 61, 62, 63, 64, 65, 66, 67, 68, 69, 70, 114, 115, 116, 117, 118, 119, 120, 121, 122, 123, 124, 78, 125, 126, 127, 128, 129, 130, 131, 132, 133, 134, 135, 136, 137, 138, 84, 85, 86, 139, 140, 89, 141, 91, 142, 143, 94, 144, 101, 102, 103, 80, 104, 105, 145, 146, 147, 148, 149, 150, 151, 152, 153, 154, 155, 156, 202, 203, 204, 205] (by decide +kernel) (by decide +kernel)
set_option maxRecDepth 20000 in
theorem gX1_describe_J4_append_cf468 : GoodIn wsX1_describe (wsV RX1 242 RJ4 yJ4_append_cf468 wsJ4_append_cf468) := goodIn_app (goodIn_of _ (by decide +kernel)) ggX1_describe_J4_append_cf468
set_option maxRecDepth 20000 in
theorem ggX1_describe_X1_hasBridge : GoodIn wsX1_describe wsX1_hasBridge := goodIn_ca (goodIn_r _ [161, 4, 186, 187, 188, 189, 190, 191, 192, 193, 194, 195, 196, 197, 198, 199, 200, 201] (by decide +kernel) (by decide +kernel)) (goodIn_sub (fun _ h => List.mem_cons_of_mem _ (List.mem_append_right _ h)) (by decide +kernel))
set_option maxRecDepth 20000 in
theorem gX1_describe_X1_hasBridge : GoodIn wsX1_describe (wsV RX1 149 RX1 yX1_hasBridge wsX1_hasBridge) := goodIn_app (goodIn_of _ (by decide +kernel)) ggX1_describe_X1_hasBridge
set_option maxRecDepth 20000 in
theorem ggX1_describe_X1_hasBid : GoodIn wsX1_describe wsX1_hasBid := goodIn_ca (goodIn_r _ [165, 166, 167, 168, 160, 169, 186, 187, 188, 189, 190, 191, 192, 193, 194, 195, 196, 197, 198, 199, 200, 201] (by decide +kernel) (by decide +kernel)) (goodIn_sub (fun _ h => List.mem_cons_of_mem _ (List.mem_append_right _ h)) (by decide +kernel))
set_option maxRecDepth 20000 in
theorem gX1_describe_X1_hasBid : GoodIn wsX1_describe (wsV RX1 162 RX1 yX1_hasBid wsX1_hasBid) := goodIn_app (goodIn_of _ (by decide +kernel)) ggX1_describe_X1_hasBid
set_option maxRecDepth 20000 in
theorem ggX1_describe_X1_describeBid : GoodIn wsX1_describe wsX1_describeBid := goodIn_ca (goodIn_r _ [173, 174, 106, 107, 108, 9, 109, 110, 111, 13, 112, 15, 113, 17, 18, 23, 24, 25, 26, 27, 28, 29, 30, 31, 32, 33, 34, 35, 36, 37, 38, 39, 40, 41, 42, 43, 44, 45, 46, 47, 48, 49, 50, 51, 52, 53, 54, 55, 56, 57, 58, 59, 60, 61, 62, 63, 64, 65, 66, 67, 68, 69, 70, 114, 115, 116, 117, 118, 119, 120, 121, 122, 123, 124, 78, 125, 126, 127, 128, 129, 130, 131, 132, 133, 134, 135, 136, 137, 138, 84, 85, 86, 139, 140, 89, 141, 91, 142, 143, 94, 144, 101, 102, 103, 80, 104, 105, 145, 146, 147, 148, 149, 150, 151, 152, 153, 154, 155, 156, 6, 7, 8, 10, 11, 12, 14, 16, 19, 20, 21, 22, 71, 72, 73, 74, 75, 76, 77, 79, 81, 82, 83, 87, 88, 90, 92, 93, 95, 96, 97, 98, 99, 100, 175, 176, 177, 160, 178, 166, 179, 180, 181, 167, 168, 169, 182, 183, 184, 185, 186, 187, 188, 189, 190, 191, 192, 193, 194, 195, 196, 197, 198, 199, 200, 201, 202, 203, 204, 205] (by decide +kernel) (by decide +kernel)) (goodIn_sub (fun _ h => List.mem_cons_of_mem _ (List.mem_append_right _ h)) (by decide +kernel))
set_option maxRecDepth 20000 in
theorem gX1_describe_X1_describeBid : GoodIn wsX1_describe (wsV RX1 245 RX1 yX1_describeBid wsX1_describeBid) := goodIn_app (goodIn_of _ (by decide +kernel)) ggX1_describe_X1_describeBid
theorem dX1_describe_0 : decode cX1_describe 0 = .ok (.aload_n 2, 1) := by decide +kernel
theorem dX1_describe_1 : decode cX1_describe 1 = .ok (.aload_n 0, 1) := by decide +kernel
theorem dX1_describe_2 : decode cX1_describe 2 = .ok (.getfield 31, 3) := by decide +kernel
theorem dX1_describe_5 : decode cX1_describe 5 = .ok (.iload_n 1, 1) := by decide +kernel
theorem dX1_describe_6 : decode cX1_describe 6 = .ok (.iaload, 1) := by decide +kernel
theorem dX1_describe_7 : decode cX1_describe 7 = .ok (.invokevirtual 236, 3) := by decide +kernel
theorem dX1_describe_10 : decode cX1_describe 10 = .ok (.bipush 45, 2) := by decide +kernel
theorem dX1_describe_12 : decode cX1_describe 12 = .ok (.invokevirtual 242, 3) := by decide +kernel
theorem dX1_describe_15 : decode cX1_describe 15 = .ok (.aload_n 0, 1) := by decide +kernel
theorem dX1_describe_16 : decode cX1_describe 16 = .ok (.getfield 34, 3) := by decide +kernel
theorem dX1_describe_19 : decode cX1_describe 19 = .ok (.iload_n 1, 1) := by decide +kernel
theorem dX1_describe_20 : decode cX1_describe 20 = .ok (.iaload, 1) := by decide +kernel
theorem dX1_describe_21 : decode cX1_describe 21 = .ok (.invokevirtual 236, 3) := by decide +kernel
theorem dX1_describe_24 : decode cX1_describe 24 = .ok (.bipush 47, 2) := by decide +kernel
theorem dX1_describe_26 : decode cX1_describe 26 = .ok (.invokevirtual 242, 3) := by decide +kernel
theorem dX1_describe_29 : decode cX1_describe 29 = .ok (.aload_n 0, 1) := by decide +kernel
theorem dX1_describe_30 : decode cX1_describe 30 = .ok (.getfield 37, 3) := by decide +kernel
theorem dX1_describe_33 : decode cX1_describe 33 = .ok (.iload_n 1, 1) := by decide +kernel
theorem dX1_describe_34 : decode cX1_describe 34 = .ok (.iaload, 1) := by decide +kernel
theorem dX1_describe_35 : decode cX1_describe 35 = .ok (.invokevirtual 236, 3) := by decide +kernel
theorem dX1_describe_38 : decode cX1_describe 38 = .ok (.pop, 1) := by decide +kernel
theorem dX1_describe_39 : decode cX1_describe 39 = .ok (.aload_n 0, 1) := by decide +kernel
theorem dX1_describe_40 : decode cX1_describe 40 = .ok (.iload_n 1, 1) := by decide +kernel
theorem dX1_describe_41 : decode cX1_describe 41 = .ok (.invokevirtual 149, 3) := by decide +kernel
theorem dX1_describe_44 : decode cX1_describe 44 = .ok (.ifCond .eq 20, 3) := by decide +kernel
theorem dX1_describe_47 : decode cX1_describe 47 = .ok (.aload_n 2, 1) := by decide +kernel
theorem dX1_describe_48 : decode cX1_describe 48 = .ok (.bipush 61, 2) := by decide +kernel
theorem dX1_describe_50 : decode cX1_describe 50 = .ok (.invokevirtual 242, 3) := by decide +kernel
theorem dX1_describe_53 : decode cX1_describe 53 = .ok (.aload_n 0, 1) := by decide +kernel
theorem dX1_describe_54 : decode cX1_describe 54 = .ok (.getfield 40, 3) := by decide +kernel
theorem dX1_describe_57 : decode cX1_describe 57 = .ok (.iload_n 1, 1) := by decide +kernel
theorem dX1_describe_58 : decode cX1_describe 58 = .ok (.iaload, 1) := by decide +kernel
theorem dX1_describe_59 : decode cX1_describe 59 = .ok (.invokevirtual 236, 3) := by decide +kernel
theorem dX1_describe_62 : decode cX1_describe 62 = .ok (.pop, 1) := by decide +kernel
theorem dX1_describe_63 : decode cX1_describe 63 = .ok (.return_, 1) := by decide +kernel
theorem dX1_describe_64 : decode cX1_describe 64 = .ok (.iconst 0, 1) := by decide +kernel
theorem dX1_describe_65 : decode cX1_describe 65 = .ok (.istore_n 3, 1) := by decide +kernel
theorem dX1_describe_66 : decode cX1_describe 66 = .ok (.iload_n 3, 1) := by decide +kernel
theorem dX1_describe_67 : decode cX1_describe 67 = .ok (.aload_n 0, 1) := by decide +kernel
theorem dX1_describe_68 : decode cX1_describe 68 = .ok (.getfield 19, 3) := by decide +kernel
theorem dX1_describe_71 : decode cX1_describe 71 = .ok (.if_icmp .ge 25, 3) := by decide +kernel
theorem dX1_describe_74 : decode cX1_describe 74 = .ok (.aload_n 0, 1) := by decide +kernel
theorem dX1_describe_75 : decode cX1_describe 75 = .ok (.iload_n 3, 1) := by decide +kernel
theorem dX1_describe_76 : decode cX1_describe 76 = .ok (.iload_n 1, 1) := by decide +kernel
theorem dX1_describe_77 : decode cX1_describe 77 = .ok (.invokevirtual 162, 3) := by decide +kernel
theorem dX1_describe_80 : decode cX1_describe 80 = .ok (.ifCond .eq 10, 3) := by decide +kernel
theorem dX1_describe_83 : decode cX1_describe 83 = .ok (.aload_n 0, 1) := by decide +kernel
theorem dX1_describe_84 : decode cX1_describe 84 = .ok (.iload_n 3, 1) := by decide +kernel
theorem dX1_describe_85 : decode cX1_describe 85 = .ok (.iload_n 1, 1) := by decide +kernel
theorem dX1_describe_86 : decode cX1_describe 86 = .ok (.aload_n 2, 1) := by decide +kernel
theorem dX1_describe_87 : decode cX1_describe 87 = .ok (.invokevirtual 245, 3) := by decide +kernel
theorem dX1_describe_90 : decode cX1_describe 90 = .ok (.iinc 3 1, 3) := by decide +kernel
theorem dX1_describe_93 : decode cX1_describe 93 = .ok (.goto (-27), 3) := by decide +kernel
theorem dX1_describe_96 : decode cX1_describe 96 = .ok (.return_, 1) := by decide +kernel
set_option maxRecDepth 20000 in
theorem ggX1_describeBid_J4_append_cf468 : GoodIn wsX1_describeBid wsJ4_append_cf468 := goodIn_r _ [6, 7, 8, 9, 10, 11, 12, 13, 14, 15, 16, 17, 18, 19, 20, 21, 22, 23, 24, 25, 26, 27, 28, 29, 30, 31, 32, 33, 34, 35, 36, 37, 38, 39, 40, 41, 42, 43, 44, 45, 46, 47, 48, 49, 50, 51, 52, 53, 54, 55, 56, 57, 58, 59, 60, 61, 62, 63, 64, 65, 66, 67, 68, 69, 70, 71, 72, 73, 74, 75, 76, 77, 78, 79, 80, 81, 82, 83, 84, 85, 86, 87, 88, 89, 90, 91, 92, 93, 94, 95, 96, 97, 98, 99, 100, 101, 102, 103, 104, 105, 106, 107, 108, 109, 110, 111, 112, 113, 114, 115, 116, 117, 118, 185, 186, 187, 188] (by decide +kernel) (by decide +kernel)
set_option maxRecDepth 20000 in
theorem gX1_describeBid_J4_append_cf468 : GoodIn wsX1_describeBid (wsV RX1 242 RJ4 yJ4_append_cf468 wsJ4_append_cf468) := goodIn_app (goodIn_of _ (by decide +kernel)) ggX1_describeBid_J4_append_cf468
set_option maxRecDepth 20000 in
theorem ggX1_describeBid_J4_append_bf812 : GoodIn wsX1_describeBid wsJ4_append_bf812 := goodIn_r _ [122, 123, 124, 9, 125, 11, 126, 13, 14, 127, 128, 129, 130, 15, 16, 17, 18, 19, 20, 21, 22, 23, 24, 25, 26, 27, 28, 29, 30, 31, 32, 33, 34, 35, 36, 37, 38, 39, 40, 41, 42, 43, 44, 45, 46, 47, 48, 49, 50, 51, 52, 53, 54, 55, 56, 57, 58, 59, 60, 61, 62, 131, 132, 133, 134, 135, 136, 137, 74, 138, 104, 139, 140, 141, 89, 90, 91, 142, 143, 94, 144, 96, 145, 146, 99, 147, 148, 149, 150, 151, 152, 101, 102, 103, 105, 106, 185, 186, 187, 188] (by decide +kernel) (by decide +kernel)
set_option maxRecDepth 20000 in
theorem gX1_describeBid_J4_append_bf812 : GoodIn wsX1_describeBid (wsV RX1 236 RJ4 yJ4_append_bf812 wsJ4_append_bf812) := goodIn_app (goodIn_of _ (by decide +kernel)) ggX1_describeBid_J4_append_bf812
set_option maxRecDepth 20000 in
theorem ggX1_describeBid_X1_amountOf : GoodIn wsX1_describeBid wsX1_amountOf := goodIn_ca (goodIn_r _ [157, 158, 159, 160, 33, 161, 162, 163, 156, 164, 169, 170, 171, 172, 173, 174, 175, 176, 177, 178, 179, 180, 181, 182, 183, 184] (by decide +kernel) (by decide +kernel)) (goodIn_sub (fun _ h => List.mem_cons_of_mem _ (List.mem_append_right _ h)) (by decide +kernel))
set_option maxRecDepth 20000 in
theorem gX1_describeBid_X1_amountOf : GoodIn wsX1_describeBid (wsV RX1 199 RX1 yX1_amountOf wsX1_amountOf) := goodIn_app (goodIn_of _ (by decide +kernel)) ggX1_describeBid_X1_amountOf
set_option maxRecDepth 20000 in
theorem ggX1_describeBid_X1_hasBluff : GoodIn wsX1_describeBid wsX1_hasBluff := goodIn_ca (goodIn_r _ [168, 158, 162, 163, 156, 164, 169, 170, 171, 172, 173, 174, 175, 176, 177, 178, 179, 180, 181, 182, 183, 184] (by decide +kernel) (by decide +kernel)) (goodIn_sub (fun _ h => List.mem_cons_of_mem _ (List.mem_append_right _ h)) (by decide +kernel))
set_option maxRecDepth 20000 in
theorem gX1_describeBid_X1_hasBluff : GoodIn wsX1_describeBid (wsV RX1 202 RX1 yX1_hasBluff wsX1_hasBluff) := goodIn_app (goodIn_of _ (by decide +kernel)) ggX1_describeBid_X1_hasBluff
theorem dX1_describeBid_0 : decode cX1_describeBid 0 = .ok (.aload_n 3, 1) := by decide +kernel
theorem dX1_describeBid_1 : decode cX1_describeBid 1 = .ok (.bipush 32, 2) := by decide +kernel
theorem dX1_describeBid_3 : decode cX1_describeBid 3 = .ok (.invokevirtual 242, 3) := by decide +kernel
theorem dX1_describeBid_6 : decode cX1_describeBid 6 = .ok (.iload_n 1, 1) := by decide +kernel
theorem dX1_describeBid_7 : decode cX1_describeBid 7 = .ok (.invokevirtual 236, 3) := by decide +kernel
theorem dX1_describeBid_10 : decode cX1_describeBid 10 = .ok (.bipush 58, 2) := by decide +kernel
theorem dX1_describeBid_12 : decode cX1_describeBid 12 = .ok (.invokevirtual 242, 3) := by decide +kernel
theorem dX1_describeBid_15 : decode cX1_describeBid 15 = .ok (.aload_n 0, 1) := by decide +kernel
theorem dX1_describeBid_16 : decode cX1_describeBid 16 = .ok (.iload_n 1, 1) := by decide +kernel
theorem dX1_describeBid_17 : decode cX1_describeBid 17 = .ok (.iload_n 2, 1) := by decide +kernel
theorem dX1_describeBid_18 : decode cX1_describeBid 18 = .ok (.invokevirtual 199, 3) := by decide +kernel
theorem dX1_describeBid_21 : decode cX1_describeBid 21 = .ok (.invokevirtual 236, 3) := by decide +kernel
theorem dX1_describeBid_24 : decode cX1_describeBid 24 = .ok (.pop, 1) := by decide +kernel
theorem dX1_describeBid_25 : decode cX1_describeBid 25 = .ok (.aload_n 0, 1) := by decide +kernel
theorem dX1_describeBid_26 : decode cX1_describeBid 26 = .ok (.iload_n 1, 1) := by decide +kernel
theorem dX1_describeBid_27 : decode cX1_describeBid 27 = .ok (.iload_n 2, 1) := by decide +kernel
theorem dX1_describeBid_28 : decode cX1_describeBid 28 = .ok (.invokevirtual 202, 3) := by decide +kernel
theorem dX1_describeBid_31 : decode cX1_describeBid 31 = .ok (.ifCond .eq 10, 3) := by decide +kernel
theorem dX1_describeBid_34 : decode cX1_describeBid 34 = .ok (.aload_n 3, 1) := by decide +kernel
theorem dX1_describeBid_35 : decode cX1_describeBid 35 = .ok (.bipush 63, 2) := by decide +kernel
theorem dX1_describeBid_37 : decode cX1_describeBid 37 = .ok (.invokevirtual 242, 3) := by decide +kernel
theorem dX1_describeBid_40 : decode cX1_describeBid 40 = .ok (.pop, 1) := by decide +kernel
theorem dX1_describeBid_41 : decode cX1_describeBid 41 = .ok (.aload_n 0, 1) := by decide +kernel
theorem dX1_describeBid_42 : decode cX1_describeBid 42 = .ok (.getfield 43, 3) := by decide +kernel
theorem dX1_describeBid_45 : decode cX1_describeBid 45 = .ok (.iload_n 2, 1) := by decide +kernel
theorem dX1_describeBid_46 : decode cX1_describeBid 46 = .ok (.iaload, 1) := by decide +kernel
theorem dX1_describeBid_47 : decode cX1_describeBid 47 = .ok (.iload_n 1, 1) := by decide +kernel
theorem dX1_describeBid_48 : decode cX1_describeBid 48 = .ok (.if_icmp .ne 10, 3) := by decide +kernel
theorem dX1_describeBid_51 : decode cX1_describeBid 51 = .ok (.aload_n 3, 1) := by decide +kernel
theorem dX1_describeBid_52 : decode cX1_describeBid 52 = .ok (.bipush 42, 2) := by decide +kernel
theorem dX1_describeBid_54 : decode cX1_describeBid 54 = .ok (.invokevirtual 242, 3) := by decide +kernel
theorem dX1_describeBid_57 : decode cX1_describeBid 57 = .ok (.pop, 1) := by decide +kernel
theorem dX1_describeBid_58 : decode cX1_describeBid 58 = .ok (.return_, 1) := by decide +kernel
theorem dX2_init_0 : decode cX2_init 0 = .ok (.aload_n 0, 1) := by decide +kernel
theorem dX2_init_1 : decode cX2_init 1 = .ok (.invokespecial 3, 3) := by decide +kernel
theorem dX2_init_4 : decode cX2_init 4 = .ok (.aload_n 0, 1) := by decide +kernel
theorem dX2_init_5 : decode cX2_init 5 = .ok (.bipush 8, 2) := by decide +kernel
theorem dX2_init_7 : decode cX2_init 7 = .ok (.newarray .int, 2) := by decide +kernel
theorem dX2_init_9 : decode cX2_init 9 = .ok (.putfield 9, 3) := by decide +kernel
theorem dX2_init_12 : decode cX2_init 12 = .ok (.aload_n 0, 1) := by decide +kernel
theorem dX2_init_13 : decode cX2_init 13 = .ok (.bipush 8, 2) := by decide +kernel
theorem dX2_init_15 : decode cX2_init 15 = .ok (.newarray .int, 2) := by decide +kernel
theorem dX2_init_17 : decode cX2_init 17 = .ok (.putfield 15, 3) := by decide +kernel
theorem dX2_init_20 : decode cX2_init 20 = .ok (.aload_n 0, 1) := by decide +kernel
theorem dX2_init_21 : decode cX2_init 21 = .ok (.bipush 8, 2) := by decide +kernel
theorem dX2_init_23 : decode cX2_init 23 = .ok (.newarray .int, 2) := by decide +kernel
theorem dX2_init_25 : decode cX2_init 25 = .ok (.putfield 18, 3) := by decide +kernel
theorem dX2_init_28 : decode cX2_init 28 = .ok (.return_, 1) := by decide +kernel
set_option maxRecDepth 20000 in
theorem ggX2_searchNearest_J7_fill_53178 : GoodIn wsX2_searchNearest wsJ7_fill_53178 := goodIn_r _ [5] (by decide +kernel) (by decide +kernel)
set_option maxRecDepth 20000 in
theorem gX2_searchNearest_J7_fill_53178 : GoodIn wsX2_searchNearest (va_wsS RX2 21 yJ7_fill_53178 wsJ7_fill_53178) := goodIn_app (goodIn_of _ (by decide +kernel)) ggX2_searchNearest_J7_fill_53178
set_option maxRecDepth 20000 in
theorem ggX2_searchNearest_X2_nearestOpen : GoodIn wsX2_searchNearest wsX2_nearestOpen := goodIn_ca (goodIn_r _ [10, 1, 11, 12, 9, 13, 34, 35, 36] (by decide +kernel) (by decide +kernel)) (goodIn_sub (fun _ h => List.mem_cons_of_mem _ (List.mem_append_right _ h)) (by decide +kernel))
set_option maxRecDepth 20000 in
theorem gX2_searchNearest_X2_nearestOpen : GoodIn wsX2_searchNearest (wsV RX2 27 RX2 yX2_nearestOpen wsX2_nearestOpen) := goodIn_app (goodIn_of _ (by decide +kernel)) ggX2_searchNearest_X2_nearestOpen
set_option maxRecDepth 20000 in
theorem ggX2_searchNearest_X2_lookFurther : GoodIn wsX2_searchNearest wsX2_lookFurther := goodIn_ca (goodIn_r _ [17, 1, 18, 19, 20, 21, 22, 23, 24, 25, 26, 27, 28, 29, 30, 31, 32, 33, 37, 38, 39, 40, 41, 42, 43, 44, 45, 46, 47, 48, 49, 50, 51, 52, 34, 35, 36] (by decide +kernel) (by decide +kernel)) (goodIn_sub (fun _ h => List.mem_cons_of_mem _ (List.mem_append_right _ h)) (by decide +kernel))
set_option maxRecDepth 20000 in
theorem gX2_searchNearest_X2_lookFurther : GoodIn wsX2_searchNearest (wsV RX2 31 RX2 yX2_lookFurther wsX2_lookFurther) := goodIn_app (goodIn_of _ (by decide +kernel)) ggX2_searchNearest_X2_lookFurther
theorem dX2_searchNearest_0 : decode cX2_searchNearest 0 = .ok (.aload_n 0, 1) := by decide +kernel
theorem dX2_searchNearest_1 : decode cX2_searchNearest 1 = .ok (.getfield 9, 3) := by decide +kernel
theorem dX2_searchNearest_4 : decode cX2_searchNearest 4 = .ok (.sipush 1000, 3) := by decide +kernel
theorem dX2_searchNearest_7 : decode cX2_searchNearest 7 = .ok (.invokestatic 21, 3) := by decide +kernel
theorem dX2_searchNearest_10 : decode cX2_searchNearest 10 = .ok (.aload_n 0, 1) := by decide +kernel
theorem dX2_searchNearest_11 : decode cX2_searchNearest 11 = .ok (.getfield 9, 3) := by decide +kernel
theorem dX2_searchNearest_14 : decode cX2_searchNearest 14 = .ok (.iload_n 2, 1) := by decide +kernel
theorem dX2_searchNearest_15 : decode cX2_searchNearest 15 = .ok (.iconst 0, 1) := by decide +kernel
theorem dX2_searchNearest_16 : decode cX2_searchNearest 16 = .ok (.iastore, 1) := by decide +kernel
theorem dX2_searchNearest_17 : decode cX2_searchNearest 17 = .ok (.iconst 0, 1) := by decide +kernel
theorem dX2_searchNearest_18 : decode cX2_searchNearest 18 = .ok (.istore_n 3, 1) := by decide +kernel
theorem dX2_searchNearest_19 : decode cX2_searchNearest 19 = .ok (.iconst 0, 1) := by decide +kernel
theorem dX2_searchNearest_20 : decode cX2_searchNearest 20 = .ok (.istore 4, 2) := by decide +kernel
theorem dX2_searchNearest_22 : decode cX2_searchNearest 22 = .ok (.iload 4, 2) := by decide +kernel
theorem dX2_searchNearest_24 : decode cX2_searchNearest 24 = .ok (.bipush 8, 2) := by decide +kernel
theorem dX2_searchNearest_26 : decode cX2_searchNearest 26 = .ok (.if_icmp .ge 37, 3) := by decide +kernel
theorem dX2_searchNearest_29 : decode cX2_searchNearest 29 = .ok (.aload_n 0, 1) := by decide +kernel
theorem dX2_searchNearest_30 : decode cX2_searchNearest 30 = .ok (.iload_n 3, 1) := by decide +kernel
theorem dX2_searchNearest_31 : decode cX2_searchNearest 31 = .ok (.invokevirtual 27, 3) := by decide +kernel
theorem dX2_searchNearest_34 : decode cX2_searchNearest 34 = .ok (.istore 5, 2) := by decide +kernel
theorem dX2_searchNearest_36 : decode cX2_searchNearest 36 = .ok (.iload 5, 2) := by decide +kernel
theorem dX2_searchNearest_38 : decode cX2_searchNearest 38 = .ok (.iconst (-1), 1) := by decide +kernel
theorem dX2_searchNearest_39 : decode cX2_searchNearest 39 = .ok (.if_icmp .ne 4, 3) := by decide +kernel
theorem dX2_searchNearest_42 : decode cX2_searchNearest 42 = .ok (.return_, 1) := by decide +kernel
theorem dX2_searchNearest_43 : decode cX2_searchNearest 43 = .ok (.iload_n 3, 1) := by decide +kernel
theorem dX2_searchNearest_44 : decode cX2_searchNearest 44 = .ok (.iconst 1, 1) := by decide +kernel
theorem dX2_searchNearest_45 : decode cX2_searchNearest 45 = .ok (.iload 5, 2) := by decide +kernel
theorem dX2_searchNearest_47 : decode cX2_searchNearest 47 = .ok (.ishl, 1) := by decide +kernel
theorem dX2_searchNearest_48 : decode cX2_searchNearest 48 = .ok (.ior, 1) := by decide +kernel
theorem dX2_searchNearest_49 : decode cX2_searchNearest 49 = .ok (.istore_n 3, 1) := by decide +kernel
theorem dX2_searchNearest_50 : decode cX2_searchNearest 50 = .ok (.aload_n 0, 1) := by decide +kernel
theorem dX2_searchNearest_51 : decode cX2_searchNearest 51 = .ok (.aload_n 1, 1) := by decide +kernel
theorem dX2_searchNearest_52 : decode cX2_searchNearest 52 = .ok (.iload 5, 2) := by decide +kernel
theorem dX2_searchNearest_54 : decode cX2_searchNearest 54 = .ok (.invokevirtual 31, 3) := by decide +kernel
theorem dX2_searchNearest_57 : decode cX2_searchNearest 57 = .ok (.iinc 4 1, 3) := by decide +kernel
theorem dX2_searchNearest_60 : decode cX2_searchNearest 60 = .ok (.goto (-38), 3) := by decide +kernel
theorem dX2_searchNearest_63 : decode cX2_searchNearest 63 = .ok (.return_, 1) := by decide +kernel
set_option maxRecDepth 20000 in
theorem ggX2_nearestOpen_X2_contains : GoodIn wsX2_nearestOpen wsX2_contains := goodIn_r _ [5] (by decide +kernel) (by decide +kernel)
set_option maxRecDepth 20000 in
theorem gX2_nearestOpen_X2_contains : GoodIn wsX2_nearestOpen (va_wsS RX2 35 yX2_contains wsX2_contains) := goodIn_app (goodIn_of _ (by decide +kernel)) ggX2_nearestOpen_X2_contains
theorem dX2_nearestOpen_0 : decode cX2_nearestOpen 0 = .ok (.iconst (-1), 1) := by decide +kernel
theorem dX2_nearestOpen_1 : decode cX2_nearestOpen 1 = .ok (.istore_n 2, 1) := by decide +kernel
theorem dX2_nearestOpen_2 : decode cX2_nearestOpen 2 = .ok (.sipush 1000, 3) := by decide +kernel
theorem dX2_nearestOpen_5 : decode cX2_nearestOpen 5 = .ok (.istore_n 3, 1) := by decide +kernel
theorem dX2_nearestOpen_6 : decode cX2_nearestOpen 6 = .ok (.iconst 0, 1) := by decide +kernel
theorem dX2_nearestOpen_7 : decode cX2_nearestOpen 7 = .ok (.istore 4, 2) := by decide +kernel
theorem dX2_nearestOpen_9 : decode cX2_nearestOpen 9 = .ok (.iload 4, 2) := by decide +kernel
theorem dX2_nearestOpen_11 : decode cX2_nearestOpen 11 = .ok (.bipush 8, 2) := by decide +kernel
theorem dX2_nearestOpen_13 : decode cX2_nearestOpen 13 = .ok (.if_icmp .ge 40, 3) := by decide +kernel
theorem dX2_nearestOpen_16 : decode cX2_nearestOpen 16 = .ok (.iload_n 1, 1) := by decide +kernel
theorem dX2_nearestOpen_17 : decode cX2_nearestOpen 17 = .ok (.iload 4, 2) := by decide +kernel
theorem dX2_nearestOpen_19 : decode cX2_nearestOpen 19 = .ok (.invokestatic 35, 3) := by decide +kernel
theorem dX2_nearestOpen_22 : decode cX2_nearestOpen 22 = .ok (.ifCond .ne 25, 3) := by decide +kernel
theorem dX2_nearestOpen_25 : decode cX2_nearestOpen 25 = .ok (.aload_n 0, 1) := by decide +kernel
theorem dX2_nearestOpen_26 : decode cX2_nearestOpen 26 = .ok (.getfield 9, 3) := by decide +kernel
theorem dX2_nearestOpen_29 : decode cX2_nearestOpen 29 = .ok (.iload 4, 2) := by decide +kernel
theorem dX2_nearestOpen_31 : decode cX2_nearestOpen 31 = .ok (.iaload, 1) := by decide +kernel
theorem dX2_nearestOpen_32 : decode cX2_nearestOpen 32 = .ok (.iload_n 3, 1) := by decide +kernel
theorem dX2_nearestOpen_33 : decode cX2_nearestOpen 33 = .ok (.if_icmp .ge 14, 3) := by decide +kernel
theorem dX2_nearestOpen_36 : decode cX2_nearestOpen 36 = .ok (.iload 4, 2) := by decide +kernel
theorem dX2_nearestOpen_38 : decode cX2_nearestOpen 38 = .ok (.istore_n 2, 1) := by decide +kernel
theorem dX2_nearestOpen_39 : decode cX2_nearestOpen 39 = .ok (.aload_n 0, 1) := by decide +kernel
theorem dX2_nearestOpen_40 : decode cX2_nearestOpen 40 = .ok (.getfield 9, 3) := by decide +kernel
theorem dX2_nearestOpen_43 : decode cX2_nearestOpen 43 = .ok (.iload 4, 2) := by decide +kernel
theorem dX2_nearestOpen_45 : decode cX2_nearestOpen 45 = .ok (.iaload, 1) := by decide +kernel
theorem dX2_nearestOpen_46 : decode cX2_nearestOpen 46 = .ok (.istore_n 3, 1) := by decide +kernel
theorem dX2_nearestOpen_47 : decode cX2_nearestOpen 47 = .ok (.iinc 4 1, 3) := by decide +kernel
theorem dX2_nearestOpen_50 : decode cX2_nearestOpen 50 = .ok (.goto (-41), 3) := by decide +kernel
theorem dX2_nearestOpen_53 : decode cX2_nearestOpen 53 = .ok (.iload_n 2, 1) := by decide +kernel
theorem dX2_nearestOpen_54 : decode cX2_nearestOpen 54 = .ok (.ireturn, 1) := by decide +kernel
set_option maxRecDepth 20000 in
theorem ggX2_lookFurther_X1_bridgedFrom : GoodIn wsX2_lookFurther wsX1_bridgedFrom := goodIn_ca (goodIn_r _ [10, 11, 12, 13, 14, 15, 9, 16, 17, 18, 19, 20, 21, 22, 23, 24, 25, 26, 27, 28, 29, 30, 31, 32, 33] (by decide +kernel) (by decide +kernel)) (goodIn_sub (fun _ h => List.mem_cons_of_mem _ (List.mem_append_right _ h)) (by decide +kernel))
set_option maxRecDepth 20000 in
theorem gX2_lookFurther_X1_bridgedFrom : GoodIn wsX2_lookFurther (wsV RX2 45 RX1 yX1_bridgedFrom wsX1_bridgedFrom) := goodIn_app (goodIn_of _ (by decide +kernel)) ggX2_lookFurther_X1_bridgedFrom
theorem dX2_lookFurther_0 : decode cX2_lookFurther 0 = .ok (.iconst 0, 1) := by decide +kernel
theorem dX2_lookFurther_1 : decode cX2_lookFurther 1 = .ok (.istore_n 3, 1) := by decide +kernel
theorem dX2_lookFurther_2 : decode cX2_lookFurther 2 = .ok (.iload_n 3, 1) := by decide +kernel
theorem dX2_lookFurther_3 : decode cX2_lookFurther 3 = .ok (.aload_n 1, 1) := by decide +kernel
theorem dX2_lookFurther_4 : decode cX2_lookFurther 4 = .ok (.getfield 39, 3) := by decide +kernel
theorem dX2_lookFurther_7 : decode cX2_lookFurther 7 = .ok (.if_icmp .ge 53, 3) := by decide +kernel
theorem dX2_lookFurther_10 : decode cX2_lookFurther 10 = .ok (.aload_n 1, 1) := by decide +kernel
theorem dX2_lookFurther_11 : decode cX2_lookFurther 11 = .ok (.iload_n 2, 1) := by decide +kernel
theorem dX2_lookFurther_12 : decode cX2_lookFurther 12 = .ok (.iload_n 3, 1) := by decide +kernel
theorem dX2_lookFurther_13 : decode cX2_lookFurther 13 = .ok (.invokevirtual 45, 3) := by decide +kernel
theorem dX2_lookFurther_16 : decode cX2_lookFurther 16 = .ok (.istore 4, 2) := by decide +kernel
theorem dX2_lookFurther_18 : decode cX2_lookFurther 18 = .ok (.iload 4, 2) := by decide +kernel
theorem dX2_lookFurther_20 : decode cX2_lookFurther 20 = .ok (.iconst (-1), 1) := by decide +kernel
theorem dX2_lookFurther_21 : decode cX2_lookFurther 21 = .ok (.if_icmp .eq 33, 3) := by decide +kernel
theorem dX2_lookFurther_24 : decode cX2_lookFurther 24 = .ok (.aload_n 0, 1) := by decide +kernel
theorem dX2_lookFurther_25 : decode cX2_lookFurther 25 = .ok (.getfield 9, 3) := by decide +kernel
theorem dX2_lookFurther_28 : decode cX2_lookFurther 28 = .ok (.iload 4, 2) := by decide +kernel
theorem dX2_lookFurther_30 : decode cX2_lookFurther 30 = .ok (.aload_n 0, 1) := by decide +kernel
theorem dX2_lookFurther_31 : decode cX2_lookFurther 31 = .ok (.getfield 9, 3) := by decide +kernel
theorem dX2_lookFurther_34 : decode cX2_lookFurther 34 = .ok (.iload 4, 2) := by decide +kernel
theorem dX2_lookFurther_36 : decode cX2_lookFurther 36 = .ok (.iaload, 1) := by decide +kernel
theorem dX2_lookFurther_37 : decode cX2_lookFurther 37 = .ok (.aload_n 0, 1) := by decide +kernel
theorem dX2_lookFurther_38 : decode cX2_lookFurther 38 = .ok (.getfield 9, 3) := by decide +kernel
theorem dX2_lookFurther_41 : decode cX2_lookFurther 41 = .ok (.iload_n 2, 1) := by decide +kernel
theorem dX2_lookFurther_42 : decode cX2_lookFurther 42 = .ok (.iaload, 1) := by decide +kernel
theorem dX2_lookFurther_43 : decode cX2_lookFurther 43 = .ok (.aload_n 1, 1) := by decide +kernel
theorem dX2_lookFurther_44 : decode cX2_lookFurther 44 = .ok (.getfield 49, 3) := by decide +kernel
theorem dX2_lookFurther_47 : decode cX2_lookFurther 47 = .ok (.iload_n 3, 1) := by decide +kernel
theorem dX2_lookFurther_48 : decode cX2_lookFurther 48 = .ok (.iaload, 1) := by decide +kernel
theorem dX2_lookFurther_49 : decode cX2_lookFurther 49 = .ok (.iadd, 1) := by decide +kernel
theorem dX2_lookFurther_50 : decode cX2_lookFurther 50 = .ok (.invokestatic 52, 3) := by decide +kernel
theorem dX2_lookFurther_53 : decode cX2_lookFurther 53 = .ok (.iastore, 1) := by decide +kernel
theorem dX2_lookFurther_54 : decode cX2_lookFurther 54 = .ok (.iinc 3 1, 3) := by decide +kernel
theorem dX2_lookFurther_57 : decode cX2_lookFurther 57 = .ok (.goto (-55), 3) := by decide +kernel
theorem dX2_lookFurther_60 : decode cX2_lookFurther 60 = .ok (.return_, 1) := by decide +kernel
set_option maxRecDepth 20000 in
theorem ggX2_relaxFrom_J7_fill_53178 : GoodIn wsX2_relaxFrom wsJ7_fill_53178 := goodIn_r _ [5] (by decide +kernel) (by decide +kernel)
set_option maxRecDepth 20000 in
theorem gX2_relaxFrom_J7_fill_53178 : GoodIn wsX2_relaxFrom (va_wsS RX2 21 yJ7_fill_53178 wsJ7_fill_53178) := goodIn_app (goodIn_of _ (by decide +kernel)) ggX2_relaxFrom_J7_fill_53178
set_option maxRecDepth 20000 in
theorem ggX2_relaxFrom_X2_relaxAll : GoodIn wsX2_relaxFrom wsX2_relaxAll := goodIn_ca (goodIn_r _ [10, 1, 11, 12, 13, 14, 15, 16, 17, 18, 19, 20, 24, 25, 26, 27, 28, 29, 30, 31, 32, 33, 34, 35, 36, 37, 38, 39, 21, 22, 23] (by decide +kernel) (by decide +kernel)) (goodIn_sub (fun _ h => List.mem_cons_of_mem _ (List.mem_append_right _ h)) (by decide +kernel))
set_option maxRecDepth 20000 in
theorem gX2_relaxFrom_X2_relaxAll : GoodIn wsX2_relaxFrom (wsV RX2 57 RX2 yX2_relaxAll wsX2_relaxAll) := goodIn_app (goodIn_of _ (by decide +kernel)) ggX2_relaxFrom_X2_relaxAll
theorem dX2_relaxFrom_0 : decode cX2_relaxFrom 0 = .ok (.aload_n 0, 1) := by decide +kernel
theorem dX2_relaxFrom_1 : decode cX2_relaxFrom 1 = .ok (.getfield 15, 3) := by decide +kernel
theorem dX2_relaxFrom_4 : decode cX2_relaxFrom 4 = .ok (.sipush 1000, 3) := by decide +kernel
theorem dX2_relaxFrom_7 : decode cX2_relaxFrom 7 = .ok (.invokestatic 21, 3) := by decide +kernel
theorem dX2_relaxFrom_10 : decode cX2_relaxFrom 10 = .ok (.aload_n 0, 1) := by decide +kernel
theorem dX2_relaxFrom_11 : decode cX2_relaxFrom 11 = .ok (.getfield 15, 3) := by decide +kernel
theorem dX2_relaxFrom_14 : decode cX2_relaxFrom 14 = .ok (.iload_n 2, 1) := by decide +kernel
theorem dX2_relaxFrom_15 : decode cX2_relaxFrom 15 = .ok (.iconst 0, 1) := by decide +kernel
theorem dX2_relaxFrom_16 : decode cX2_relaxFrom 16 = .ok (.iastore, 1) := by decide +kernel
theorem dX2_relaxFrom_17 : decode cX2_relaxFrom 17 = .ok (.iconst 1, 1) := by decide +kernel
theorem dX2_relaxFrom_18 : decode cX2_relaxFrom 18 = .ok (.istore_n 3, 1) := by decide +kernel
theorem dX2_relaxFrom_19 : decode cX2_relaxFrom 19 = .ok (.iload_n 3, 1) := by decide +kernel
theorem dX2_relaxFrom_20 : decode cX2_relaxFrom 20 = .ok (.bipush 8, 2) := by decide +kernel
theorem dX2_relaxFrom_22 : decode cX2_relaxFrom 22 = .ok (.if_icmp .ge 14, 3) := by decide +kernel
theorem dX2_relaxFrom_25 : decode cX2_relaxFrom 25 = .ok (.aload_n 0, 1) := by decide +kernel
theorem dX2_relaxFrom_26 : decode cX2_relaxFrom 26 = .ok (.aload_n 1, 1) := by decide +kernel
theorem dX2_relaxFrom_27 : decode cX2_relaxFrom 27 = .ok (.invokevirtual 57, 3) := by decide +kernel
theorem dX2_relaxFrom_30 : decode cX2_relaxFrom 30 = .ok (.iinc 3 1, 3) := by decide +kernel
theorem dX2_relaxFrom_33 : decode cX2_relaxFrom 33 = .ok (.goto (-14), 3) := by decide +kernel
theorem dX2_relaxFrom_36 : decode cX2_relaxFrom 36 = .ok (.return_, 1) := by decide +kernel
set_option maxRecDepth 20000 in
theorem ggX2_relaxAll_X1_hasBridge : GoodIn wsX2_relaxAll wsX1_hasBridge := goodIn_ca (goodIn_r _ [10, 11, 12, 13, 14, 15, 16, 17, 18, 19, 20, 21, 22, 23, 24, 25, 26, 27] (by decide +kernel) (by decide +kernel)) (goodIn_sub (fun _ h => List.mem_cons_of_mem _ (List.mem_append_right _ h)) (by decide +kernel))
set_option maxRecDepth 20000 in
theorem gX2_relaxAll_X1_hasBridge : GoodIn wsX2_relaxAll (wsV RX2 61 RX1 yX1_hasBridge wsX1_hasBridge) := goodIn_app (goodIn_of _ (by decide +kernel)) ggX2_relaxAll_X1_hasBridge
theorem dX2_relaxAll_0 : decode cX2_relaxAll 0 = .ok (.iconst 0, 1) := by decide +kernel
theorem dX2_relaxAll_1 : decode cX2_relaxAll 1 = .ok (.istore_n 2, 1) := by decide +kernel
theorem dX2_relaxAll_2 : decode cX2_relaxAll 2 = .ok (.iload_n 2, 1) := by decide +kernel
theorem dX2_relaxAll_3 : decode cX2_relaxAll 3 = .ok (.aload_n 1, 1) := by decide +kernel
theorem dX2_relaxAll_4 : decode cX2_relaxAll 4 = .ok (.getfield 39, 3) := by decide +kernel
theorem dX2_relaxAll_7 : decode cX2_relaxAll 7 = .ok (.if_icmp .ge 91, 3) := by decide +kernel
theorem dX2_relaxAll_10 : decode cX2_relaxAll 10 = .ok (.aload_n 1, 1) := by decide +kernel
theorem dX2_relaxAll_11 : decode cX2_relaxAll 11 = .ok (.iload_n 2, 1) := by decide +kernel
theorem dX2_relaxAll_12 : decode cX2_relaxAll 12 = .ok (.invokevirtual 61, 3) := by decide +kernel
theorem dX2_relaxAll_15 : decode cX2_relaxAll 15 = .ok (.ifCond .eq 77, 3) := by decide +kernel
theorem dX2_relaxAll_18 : decode cX2_relaxAll 18 = .ok (.aload_n 1, 1) := by decide +kernel
theorem dX2_relaxAll_19 : decode cX2_relaxAll 19 = .ok (.getfield 65, 3) := by decide +kernel
theorem dX2_relaxAll_22 : decode cX2_relaxAll 22 = .ok (.iload_n 2, 1) := by decide +kernel
theorem dX2_relaxAll_23 : decode cX2_relaxAll 23 = .ok (.iaload, 1) := by decide +kernel
theorem dX2_relaxAll_24 : decode cX2_relaxAll 24 = .ok (.istore_n 3, 1) := by decide +kernel
theorem dX2_relaxAll_25 : decode cX2_relaxAll 25 = .ok (.aload_n 1, 1) := by decide +kernel
theorem dX2_relaxAll_26 : decode cX2_relaxAll 26 = .ok (.getfield 68, 3) := by decide +kernel
theorem dX2_relaxAll_29 : decode cX2_relaxAll 29 = .ok (.iload_n 2, 1) := by decide +kernel
theorem dX2_relaxAll_30 : decode cX2_relaxAll 30 = .ok (.iaload, 1) := by decide +kernel
theorem dX2_relaxAll_31 : decode cX2_relaxAll 31 = .ok (.istore 4, 2) := by decide +kernel
theorem dX2_relaxAll_33 : decode cX2_relaxAll 33 = .ok (.aload_n 0, 1) := by decide +kernel
theorem dX2_relaxAll_34 : decode cX2_relaxAll 34 = .ok (.getfield 15, 3) := by decide +kernel
theorem dX2_relaxAll_37 : decode cX2_relaxAll 37 = .ok (.iload 4, 2) := by decide +kernel
theorem dX2_relaxAll_39 : decode cX2_relaxAll 39 = .ok (.aload_n 0, 1) := by decide +kernel
theorem dX2_relaxAll_40 : decode cX2_relaxAll 40 = .ok (.getfield 15, 3) := by decide +kernel
theorem dX2_relaxAll_43 : decode cX2_relaxAll 43 = .ok (.iload 4, 2) := by decide +kernel
theorem dX2_relaxAll_45 : decode cX2_relaxAll 45 = .ok (.iaload, 1) := by decide +kernel
theorem dX2_relaxAll_46 : decode cX2_relaxAll 46 = .ok (.aload_n 0, 1) := by decide +kernel
theorem dX2_relaxAll_47 : decode cX2_relaxAll 47 = .ok (.getfield 15, 3) := by decide +kernel
theorem dX2_relaxAll_50 : decode cX2_relaxAll 50 = .ok (.iload_n 3, 1) := by decide +kernel
theorem dX2_relaxAll_51 : decode cX2_relaxAll 51 = .ok (.iaload, 1) := by decide +kernel
theorem dX2_relaxAll_52 : decode cX2_relaxAll 52 = .ok (.aload_n 1, 1) := by decide +kernel
theorem dX2_relaxAll_53 : decode cX2_relaxAll 53 = .ok (.getfield 49, 3) := by decide +kernel
theorem dX2_relaxAll_56 : decode cX2_relaxAll 56 = .ok (.iload_n 2, 1) := by decide +kernel
theorem dX2_relaxAll_57 : decode cX2_relaxAll 57 = .ok (.iaload, 1) := by decide +kernel
theorem dX2_relaxAll_58 : decode cX2_relaxAll 58 = .ok (.iadd, 1) := by decide +kernel
theorem dX2_relaxAll_59 : decode cX2_relaxAll 59 = .ok (.invokestatic 52, 3) := by decide +kernel
theorem dX2_relaxAll_62 : decode cX2_relaxAll 62 = .ok (.iastore, 1) := by decide +kernel
theorem dX2_relaxAll_63 : decode cX2_relaxAll 63 = .ok (.aload_n 0, 1) := by decide +kernel
theorem dX2_relaxAll_64 : decode cX2_relaxAll 64 = .ok (.getfield 15, 3) := by decide +kernel
theorem dX2_relaxAll_67 : decode cX2_relaxAll 67 = .ok (.iload_n 3, 1) := by decide +kernel
theorem dX2_relaxAll_68 : decode cX2_relaxAll 68 = .ok (.aload_n 0, 1) := by decide +kernel
theorem dX2_relaxAll_69 : decode cX2_relaxAll 69 = .ok (.getfield 15, 3) := by decide +kernel
theorem dX2_relaxAll_72 : decode cX2_relaxAll 72 = .ok (.iload_n 3, 1) := by decide +kernel
theorem dX2_relaxAll_73 : decode cX2_relaxAll 73 = .ok (.iaload, 1) := by decide +kernel
theorem dX2_relaxAll_74 : decode cX2_relaxAll 74 = .ok (.aload_n 0, 1) := by decide +kernel
theorem dX2_relaxAll_75 : decode cX2_relaxAll 75 = .ok (.getfield 15, 3) := by decide +kernel
theorem dX2_relaxAll_78 : decode cX2_relaxAll 78 = .ok (.iload 4, 2) := by decide +kernel
theorem dX2_relaxAll_80 : decode cX2_relaxAll 80 = .ok (.iaload, 1) := by decide +kernel
theorem dX2_relaxAll_81 : decode cX2_relaxAll 81 = .ok (.aload_n 1, 1) := by decide +kernel
theorem dX2_relaxAll_82 : decode cX2_relaxAll 82 = .ok (.getfield 49, 3) := by decide +kernel
theorem dX2_relaxAll_85 : decode cX2_relaxAll 85 = .ok (.iload_n 2, 1) := by decide +kernel
theorem dX2_relaxAll_86 : decode cX2_relaxAll 86 = .ok (.iaload, 1) := by decide +kernel
theorem dX2_relaxAll_87 : decode cX2_relaxAll 87 = .ok (.iadd, 1) := by decide +kernel
theorem dX2_relaxAll_88 : decode cX2_relaxAll 88 = .ok (.invokestatic 52, 3) := by decide +kernel
theorem dX2_relaxAll_91 : decode cX2_relaxAll 91 = .ok (.iastore, 1) := by decide +kernel
theorem dX2_relaxAll_92 : decode cX2_relaxAll 92 = .ok (.iinc 2 1, 3) := by decide +kernel
theorem dX2_relaxAll_95 : decode cX2_relaxAll 95 = .ok (.goto (-93), 3) := by decide +kernel
theorem dX2_relaxAll_98 : decode cX2_relaxAll 98 = .ok (.return_, 1) := by decide +kernel
set_option maxRecDepth 20000 in
theorem ggX2_distancesAgree_X2_searchNearest : GoodIn wsX2_distancesAgree wsX2_searchNearest := goodIn_ca (goodIn_r _ [7, 1, 8, 9, 10, 11, 12, 13, 14, 6, 15, 16, 17, 18, 19, 20, 21, 22, 23, 24, 25, 26, 27, 28, 29, 30, 31, 32, 33, 34, 35, 36, 37, 38, 48, 49, 50, 51, 52, 53, 54, 55, 56, 57, 58, 59, 60, 61, 62, 63, 64, 65, 66] (by decide +kernel) (by decide +kernel)) (goodIn_sub (fun _ h => List.mem_cons_of_mem _ (List.mem_append_right _ h)) (by decide +kernel))
set_option maxRecDepth 20000 in
theorem gX2_distancesAgree_X2_searchNearest : GoodIn wsX2_distancesAgree (wsV RX2 71 RX2 yX2_searchNearest wsX2_searchNearest) := goodIn_app (goodIn_of _ (by decide +kernel)) ggX2_distancesAgree_X2_searchNearest
set_option maxRecDepth 20000 in
theorem ggX2_distancesAgree_X2_relaxFrom : GoodIn wsX2_distancesAgree wsX2_relaxFrom := goodIn_ca (goodIn_r _ [42, 2, 8, 9, 10, 11, 43, 44, 45, 6, 46, 23, 24, 25, 26, 47, 35, 36, 30, 37, 38, 48, 49, 50, 51, 52, 53, 54, 55, 56, 57, 58, 59, 60, 61, 62, 63, 64, 65, 66] (by decide +kernel) (by decide +kernel)) (goodIn_sub (fun _ h => List.mem_cons_of_mem _ (List.mem_append_right _ h)) (by decide +kernel))
set_option maxRecDepth 20000 in
theorem gX2_distancesAgree_X2_relaxFrom : GoodIn wsX2_distancesAgree (wsV RX2 74 RX2 yX2_relaxFrom wsX2_relaxFrom) := goodIn_app (goodIn_of _ (by decide +kernel)) ggX2_distancesAgree_X2_relaxFrom
theorem dX2_distancesAgree_0 : decode cX2_distancesAgree 0 = .ok (.iconst 0, 1) := by decide +kernel
theorem dX2_distancesAgree_1 : decode cX2_distancesAgree 1 = .ok (.istore_n 2, 1) := by decide +kernel
theorem dX2_distancesAgree_2 : decode cX2_distancesAgree 2 = .ok (.iload_n 2, 1) := by decide +kernel
theorem dX2_distancesAgree_3 : decode cX2_distancesAgree 3 = .ok (.bipush 8, 2) := by decide +kernel
theorem dX2_distancesAgree_5 : decode cX2_distancesAgree 5 = .ok (.if_icmp .ge 52, 3) := by decide +kernel
theorem dX2_distancesAgree_8 : decode cX2_distancesAgree 8 = .ok (.aload_n 0, 1) := by decide +kernel
theorem dX2_distancesAgree_9 : decode cX2_distancesAgree 9 = .ok (.aload_n 1, 1) := by decide +kernel
theorem dX2_distancesAgree_10 : decode cX2_distancesAgree 10 = .ok (.iload_n 2, 1) := by decide +kernel
theorem dX2_distancesAgree_11 : decode cX2_distancesAgree 11 = .ok (.invokevirtual 71, 3) := by decide +kernel
theorem dX2_distancesAgree_14 : decode cX2_distancesAgree 14 = .ok (.aload_n 0, 1) := by decide +kernel
theorem dX2_distancesAgree_15 : decode cX2_distancesAgree 15 = .ok (.aload_n 1, 1) := by decide +kernel
theorem dX2_distancesAgree_16 : decode cX2_distancesAgree 16 = .ok (.iload_n 2, 1) := by decide +kernel
theorem dX2_distancesAgree_17 : decode cX2_distancesAgree 17 = .ok (.invokevirtual 74, 3) := by decide +kernel
theorem dX2_distancesAgree_20 : decode cX2_distancesAgree 20 = .ok (.iconst 0, 1) := by decide +kernel
theorem dX2_distancesAgree_21 : decode cX2_distancesAgree 21 = .ok (.istore_n 3, 1) := by decide +kernel
theorem dX2_distancesAgree_22 : decode cX2_distancesAgree 22 = .ok (.iload_n 3, 1) := by decide +kernel
theorem dX2_distancesAgree_23 : decode cX2_distancesAgree 23 = .ok (.bipush 8, 2) := by decide +kernel
theorem dX2_distancesAgree_25 : decode cX2_distancesAgree 25 = .ok (.if_icmp .ge 26, 3) := by decide +kernel
theorem dX2_distancesAgree_28 : decode cX2_distancesAgree 28 = .ok (.aload_n 0, 1) := by decide +kernel
theorem dX2_distancesAgree_29 : decode cX2_distancesAgree 29 = .ok (.getfield 9, 3) := by decide +kernel
theorem dX2_distancesAgree_32 : decode cX2_distancesAgree 32 = .ok (.iload_n 3, 1) := by decide +kernel
theorem dX2_distancesAgree_33 : decode cX2_distancesAgree 33 = .ok (.iaload, 1) := by decide +kernel
theorem dX2_distancesAgree_34 : decode cX2_distancesAgree 34 = .ok (.aload_n 0, 1) := by decide +kernel
theorem dX2_distancesAgree_35 : decode cX2_distancesAgree 35 = .ok (.getfield 15, 3) := by decide +kernel
theorem dX2_distancesAgree_38 : decode cX2_distancesAgree 38 = .ok (.iload_n 3, 1) := by decide +kernel
theorem dX2_distancesAgree_39 : decode cX2_distancesAgree 39 = .ok (.iaload, 1) := by decide +kernel
theorem dX2_distancesAgree_40 : decode cX2_distancesAgree 40 = .ok (.if_icmp .eq 5, 3) := by decide +kernel
theorem dX2_distancesAgree_43 : decode cX2_distancesAgree 43 = .ok (.iconst 0, 1) := by decide +kernel
theorem dX2_distancesAgree_44 : decode cX2_distancesAgree 44 = .ok (.ireturn, 1) := by decide +kernel
theorem dX2_distancesAgree_45 : decode cX2_distancesAgree 45 = .ok (.iinc 3 1, 3) := by decide +kernel
theorem dX2_distancesAgree_48 : decode cX2_distancesAgree 48 = .ok (.goto (-26), 3) := by decide +kernel
theorem dX2_distancesAgree_51 : decode cX2_distancesAgree 51 = .ok (.iinc 2 1, 3) := by decide +kernel
theorem dX2_distancesAgree_54 : decode cX2_distancesAgree 54 = .ok (.goto (-52), 3) := by decide +kernel
theorem dX2_distancesAgree_57 : decode cX2_distancesAgree 57 = .ok (.iconst 1, 1) := by decide +kernel
theorem dX2_distancesAgree_58 : decode cX2_distancesAgree 58 = .ok (.ireturn, 1) := by decide +kernel
set_option maxRecDepth 20000 in
theorem ggX2_reaches_X2_visit : GoodIn wsX2_reaches wsX2_visit := goodIn_ca (goodIn_r _ [4, 5, 6, 7, 8, 9, 10, 11, 12, 13, 14, 15, 16, 17, 18, 3, 19, 1, 2, 20, 21, 22, 23, 24, 25, 26, 27, 28, 29, 30, 31, 32, 33, 34, 35] (by decide +kernel) (by decide +kernel)) (goodIn_sub (fun _ h => List.mem_cons_of_mem _ (List.mem_append_right _ h)) (by decide +kernel))
set_option maxRecDepth 20000 in
theorem gX2_reaches_X2_visit : GoodIn wsX2_reaches (va_wsS RX2 77 yX2_visit wsX2_visit) := goodIn_app (goodIn_of _ (by decide +kernel)) ggX2_reaches_X2_visit
set_option maxRecDepth 20000 in
theorem ggX2_reaches_X2_contains : GoodIn wsX2_reaches wsX2_contains := goodIn_r _ [19] (by decide +kernel) (by decide +kernel)
set_option maxRecDepth 20000 in
theorem gX2_reaches_X2_contains : GoodIn wsX2_reaches (va_wsS RX2 35 yX2_contains wsX2_contains) := goodIn_app (goodIn_of _ (by decide +kernel)) ggX2_reaches_X2_contains
theorem dX2_reaches_0 : decode cX2_reaches 0 = .ok (.aload_n 0, 1) := by decide +kernel
theorem dX2_reaches_1 : decode cX2_reaches 1 = .ok (.iload_n 1, 1) := by decide +kernel
theorem dX2_reaches_2 : decode cX2_reaches 2 = .ok (.iconst 0, 1) := by decide +kernel
theorem dX2_reaches_3 : decode cX2_reaches 3 = .ok (.invokestatic 77, 3) := by decide +kernel
theorem dX2_reaches_6 : decode cX2_reaches 6 = .ok (.iload_n 2, 1) := by decide +kernel
theorem dX2_reaches_7 : decode cX2_reaches 7 = .ok (.invokestatic 35, 3) := by decide +kernel
theorem dX2_reaches_10 : decode cX2_reaches 10 = .ok (.ireturn, 1) := by decide +kernel
set_option maxRecDepth 20000 in
theorem ggX2_countBySearch_X2_contains : GoodIn wsX2_countBySearch wsX2_contains := goodIn_r _ [4] (by decide +kernel) (by decide +kernel)
set_option maxRecDepth 20000 in
theorem gX2_countBySearch_X2_contains : GoodIn wsX2_countBySearch (va_wsS RX2 35 yX2_contains wsX2_contains) := goodIn_app (goodIn_of _ (by decide +kernel)) ggX2_countBySearch_X2_contains
set_option maxRecDepth 20000 in
theorem ggX2_countBySearch_X2_visit : GoodIn wsX2_countBySearch wsX2_visit := goodIn_ca (goodIn_r _ [7, 8, 9, 10, 11, 12, 13, 14, 15, 16, 17, 18, 19, 1, 2, 3, 4, 5, 6, 20, 21, 22, 23, 24, 25, 26, 27, 28, 29, 30, 31, 32, 33, 34, 35] (by decide +kernel) (by decide +kernel)) (goodIn_sub (fun _ h => List.mem_cons_of_mem _ (List.mem_append_right _ h)) (by decide +kernel))
set_option maxRecDepth 20000 in
theorem gX2_countBySearch_X2_visit : GoodIn wsX2_countBySearch (va_wsS RX2 77 yX2_visit wsX2_visit) := goodIn_app (goodIn_of _ (by decide +kernel)) ggX2_countBySearch_X2_visit
theorem dX2_countBySearch_0 : decode cX2_countBySearch 0 = .ok (.iconst 0, 1) := by decide +kernel
theorem dX2_countBySearch_1 : decode cX2_countBySearch 1 = .ok (.istore_n 1, 1) := by decide +kernel
theorem dX2_countBySearch_2 : decode cX2_countBySearch 2 = .ok (.iconst 0, 1) := by decide +kernel
theorem dX2_countBySearch_3 : decode cX2_countBySearch 3 = .ok (.istore_n 2, 1) := by decide +kernel
theorem dX2_countBySearch_4 : decode cX2_countBySearch 4 = .ok (.iconst 0, 1) := by decide +kernel
theorem dX2_countBySearch_5 : decode cX2_countBySearch 5 = .ok (.istore_n 3, 1) := by decide +kernel
theorem dX2_countBySearch_6 : decode cX2_countBySearch 6 = .ok (.iload_n 3, 1) := by decide +kernel
theorem dX2_countBySearch_7 : decode cX2_countBySearch 7 = .ok (.bipush 8, 2) := by decide +kernel
theorem dX2_countBySearch_9 : decode cX2_countBySearch 9 = .ok (.if_icmp .ge 27, 3) := by decide +kernel
theorem dX2_countBySearch_12 : decode cX2_countBySearch 12 = .ok (.iload_n 2, 1) := by decide +kernel
theorem dX2_countBySearch_13 : decode cX2_countBySearch 13 = .ok (.iload_n 3, 1) := by decide +kernel
theorem dX2_countBySearch_14 : decode cX2_countBySearch 14 = .ok (.invokestatic 35, 3) := by decide +kernel
theorem dX2_countBySearch_17 : decode cX2_countBySearch 17 = .ok (.ifCond .ne 13, 3) := by decide +kernel
theorem dX2_countBySearch_20 : decode cX2_countBySearch 20 = .ok (.aload_n 0, 1) := by decide +kernel
theorem dX2_countBySearch_21 : decode cX2_countBySearch 21 = .ok (.iload_n 3, 1) := by decide +kernel
theorem dX2_countBySearch_22 : decode cX2_countBySearch 22 = .ok (.iload_n 2, 1) := by decide +kernel
theorem dX2_countBySearch_23 : decode cX2_countBySearch 23 = .ok (.invokestatic 77, 3) := by decide +kernel
theorem dX2_countBySearch_26 : decode cX2_countBySearch 26 = .ok (.istore_n 2, 1) := by decide +kernel
theorem dX2_countBySearch_27 : decode cX2_countBySearch 27 = .ok (.iinc 1 1, 3) := by decide +kernel
theorem dX2_countBySearch_30 : decode cX2_countBySearch 30 = .ok (.iinc 3 1, 3) := by decide +kernel
theorem dX2_countBySearch_33 : decode cX2_countBySearch 33 = .ok (.goto (-27), 3) := by decide +kernel
theorem dX2_countBySearch_36 : decode cX2_countBySearch 36 = .ok (.iload_n 1, 1) := by decide +kernel
theorem dX2_countBySearch_37 : decode cX2_countBySearch 37 = .ok (.ireturn, 1) := by decide +kernel
set_option maxRecDepth 20000 in
theorem ggX2_visit_X1_bridgedFrom : GoodIn wsX2_visit wsX1_bridgedFrom := goodIn_ca (goodIn_r _ [5, 6, 7, 8, 9, 10, 4, 11, 12, 19, 20, 21, 22, 23, 24, 25, 26, 27, 28, 29, 30, 31, 32, 33, 34] (by decide +kernel) (by decide +kernel)) (goodIn_sub (fun _ h => List.mem_cons_of_mem _ (List.mem_append_right _ h)) (by decide +kernel))
set_option maxRecDepth 20000 in
theorem gX2_visit_X1_bridgedFrom : GoodIn wsX2_visit (wsV RX2 45 RX1 yX1_bridgedFrom wsX1_bridgedFrom) := goodIn_app (goodIn_of _ (by decide +kernel)) ggX2_visit_X1_bridgedFrom
set_option maxRecDepth 20000 in
theorem ggX2_visit_X2_contains : GoodIn wsX2_visit wsX2_contains := goodIn_r _ [16] (by decide +kernel) (by decide +kernel)
set_option maxRecDepth 20000 in
theorem gX2_visit_X2_contains : GoodIn wsX2_visit (va_wsS RX2 35 yX2_contains wsX2_contains) := goodIn_app (goodIn_of _ (by decide +kernel)) ggX2_visit_X2_contains
set_option maxRecDepth 20000 in
theorem ggX2_visit_X2_visit : GoodIn wsX2_visit wsX2_visit := goodIn_ca (goodIn_r _ [0, 1, 2, 3, 4, 5, 6, 7, 8, 9, 10, 11, 12, 13, 14, 15, 16, 17, 18, 19, 20, 21, 22, 23, 24, 25, 26, 27, 28, 29, 30, 31, 32, 33, 34] (by decide +kernel) (by decide +kernel)) (goodIn_sub (fun _ h => List.mem_cons_of_mem _ (List.mem_append_right _ h)) (by decide +kernel))
set_option maxRecDepth 20000 in
theorem gX2_visit_X2_visit : GoodIn wsX2_visit (va_wsS RX2 77 yX2_visit wsX2_visit) := goodIn_app (goodIn_of _ (by decide +kernel)) ggX2_visit_X2_visit
theorem dX2_visit_0 : decode cX2_visit 0 = .ok (.iload_n 2, 1) := by decide +kernel
theorem dX2_visit_1 : decode cX2_visit 1 = .ok (.iconst 1, 1) := by decide +kernel
theorem dX2_visit_2 : decode cX2_visit 2 = .ok (.iload_n 1, 1) := by decide +kernel
theorem dX2_visit_3 : decode cX2_visit 3 = .ok (.ishl, 1) := by decide +kernel
theorem dX2_visit_4 : decode cX2_visit 4 = .ok (.ior, 1) := by decide +kernel
theorem dX2_visit_5 : decode cX2_visit 5 = .ok (.istore_n 3, 1) := by decide +kernel
theorem dX2_visit_6 : decode cX2_visit 6 = .ok (.iconst 0, 1) := by decide +kernel
theorem dX2_visit_7 : decode cX2_visit 7 = .ok (.istore 4, 2) := by decide +kernel
theorem dX2_visit_9 : decode cX2_visit 9 = .ok (.iload 4, 2) := by decide +kernel
theorem dX2_visit_11 : decode cX2_visit 11 = .ok (.aload_n 0, 1) := by decide +kernel
theorem dX2_visit_12 : decode cX2_visit 12 = .ok (.getfield 39, 3) := by decide +kernel
theorem dX2_visit_15 : decode cX2_visit 15 = .ok (.if_icmp .ge 41, 3) := by decide +kernel
theorem dX2_visit_18 : decode cX2_visit 18 = .ok (.aload_n 0, 1) := by decide +kernel
theorem dX2_visit_19 : decode cX2_visit 19 = .ok (.iload_n 1, 1) := by decide +kernel
theorem dX2_visit_20 : decode cX2_visit 20 = .ok (.iload 4, 2) := by decide +kernel
theorem dX2_visit_22 : decode cX2_visit 22 = .ok (.invokevirtual 45, 3) := by decide +kernel
theorem dX2_visit_25 : decode cX2_visit 25 = .ok (.istore 5, 2) := by decide +kernel
theorem dX2_visit_27 : decode cX2_visit 27 = .ok (.iload 5, 2) := by decide +kernel
theorem dX2_visit_29 : decode cX2_visit 29 = .ok (.iconst (-1), 1) := by decide +kernel
theorem dX2_visit_30 : decode cX2_visit 30 = .ok (.if_icmp .eq 20, 3) := by decide +kernel
theorem dX2_visit_33 : decode cX2_visit 33 = .ok (.iload_n 3, 1) := by decide +kernel
theorem dX2_visit_34 : decode cX2_visit 34 = .ok (.iload 5, 2) := by decide +kernel
theorem dX2_visit_36 : decode cX2_visit 36 = .ok (.invokestatic 35, 3) := by decide +kernel
theorem dX2_visit_39 : decode cX2_visit 39 = .ok (.ifCond .ne 11, 3) := by decide +kernel
theorem dX2_visit_42 : decode cX2_visit 42 = .ok (.aload_n 0, 1) := by decide +kernel
theorem dX2_visit_43 : decode cX2_visit 43 = .ok (.iload 5, 2) := by decide +kernel
theorem dX2_visit_45 : decode cX2_visit 45 = .ok (.iload_n 3, 1) := by decide +kernel
theorem dX2_visit_46 : decode cX2_visit 46 = .ok (.invokestatic 77, 3) := by decide +kernel
theorem dX2_visit_49 : decode cX2_visit 49 = .ok (.istore_n 3, 1) := by decide +kernel
theorem dX2_visit_50 : decode cX2_visit 50 = .ok (.iinc 4 1, 3) := by decide +kernel
theorem dX2_visit_53 : decode cX2_visit 53 = .ok (.goto (-44), 3) := by decide +kernel
theorem dX2_visit_56 : decode cX2_visit 56 = .ok (.iload_n 3, 1) := by decide +kernel
theorem dX2_visit_57 : decode cX2_visit 57 = .ok (.ireturn, 1) := by decide +kernel
set_option maxRecDepth 20000 in
theorem ggX2_countByJoining_X2_separateAll : GoodIn wsX2_countByJoining wsX2_separateAll := goodIn_ca (goodIn_r _ [5, 6, 37, 38, 39] (by decide +kernel) (by decide +kernel)) (goodIn_sub (fun _ h => List.mem_cons_of_mem _ (List.mem_append_right _ h)) (by decide +kernel))
set_option maxRecDepth 20000 in
theorem gX2_countByJoining_X2_separateAll : GoodIn wsX2_countByJoining (wsV RX2 81 RX2 yX2_separateAll wsX2_separateAll) := goodIn_app (goodIn_of _ (by decide +kernel)) ggX2_countByJoining_X2_separateAll
set_option maxRecDepth 20000 in
theorem ggX2_countByJoining_X1_hasBridge : GoodIn wsX2_countByJoining wsX1_hasBridge := goodIn_ca (goodIn_r _ [11, 12, 21, 22, 23, 24, 25, 26, 27, 28, 29, 30, 31, 32, 33, 34, 35, 36] (by decide +kernel) (by decide +kernel)) (goodIn_sub (fun _ h => List.mem_cons_of_mem _ (List.mem_append_right _ h)) (by decide +kernel))
set_option maxRecDepth 20000 in
theorem gX2_countByJoining_X1_hasBridge : GoodIn wsX2_countByJoining (wsV RX2 61 RX1 yX1_hasBridge wsX1_hasBridge) := goodIn_app (goodIn_of _ (by decide +kernel)) ggX2_countByJoining_X1_hasBridge
set_option maxRecDepth 20000 in
theorem ggX2_countByJoining_X2_joinEnds : GoodIn wsX2_countByJoining wsX2_joinEnds := goodIn_ca (goodIn_r _ [16, 6, 17, 18, 19, 4, 20, 21, 22, 23, 24, 25, 26, 27, 28, 29, 30, 31, 32, 33, 34, 35, 36, 37, 38, 39] (by decide +kernel) (by decide +kernel)) (goodIn_sub (fun _ h => List.mem_cons_of_mem _ (List.mem_append_right _ h)) (by decide +kernel))
set_option maxRecDepth 20000 in
theorem gX2_countByJoining_X2_joinEnds : GoodIn wsX2_countByJoining (wsV RX2 84 RX2 yX2_joinEnds wsX2_joinEnds) := goodIn_app (goodIn_of _ (by decide +kernel)) ggX2_countByJoining_X2_joinEnds
theorem dX2_countByJoining_0 : decode cX2_countByJoining 0 = .ok (.aload_n 0, 1) := by decide +kernel
theorem dX2_countByJoining_1 : decode cX2_countByJoining 1 = .ok (.invokevirtual 81, 3) := by decide +kernel
theorem dX2_countByJoining_4 : decode cX2_countByJoining 4 = .ok (.bipush 8, 2) := by decide +kernel
theorem dX2_countByJoining_6 : decode cX2_countByJoining 6 = .ok (.istore_n 2, 1) := by decide +kernel
theorem dX2_countByJoining_7 : decode cX2_countByJoining 7 = .ok (.iconst 0, 1) := by decide +kernel
theorem dX2_countByJoining_8 : decode cX2_countByJoining 8 = .ok (.istore_n 3, 1) := by decide +kernel
theorem dX2_countByJoining_9 : decode cX2_countByJoining 9 = .ok (.iload_n 3, 1) := by decide +kernel
theorem dX2_countByJoining_10 : decode cX2_countByJoining 10 = .ok (.aload_n 1, 1) := by decide +kernel
theorem dX2_countByJoining_11 : decode cX2_countByJoining 11 = .ok (.getfield 39, 3) := by decide +kernel
theorem dX2_countByJoining_14 : decode cX2_countByJoining 14 = .ok (.if_icmp .ge 29, 3) := by decide +kernel
theorem dX2_countByJoining_17 : decode cX2_countByJoining 17 = .ok (.aload_n 1, 1) := by decide +kernel
theorem dX2_countByJoining_18 : decode cX2_countByJoining 18 = .ok (.iload_n 3, 1) := by decide +kernel
theorem dX2_countByJoining_19 : decode cX2_countByJoining 19 = .ok (.invokevirtual 61, 3) := by decide +kernel
theorem dX2_countByJoining_22 : decode cX2_countByJoining 22 = .ok (.ifCond .eq 15, 3) := by decide +kernel
theorem dX2_countByJoining_25 : decode cX2_countByJoining 25 = .ok (.aload_n 0, 1) := by decide +kernel
theorem dX2_countByJoining_26 : decode cX2_countByJoining 26 = .ok (.aload_n 1, 1) := by decide +kernel
theorem dX2_countByJoining_27 : decode cX2_countByJoining 27 = .ok (.iload_n 3, 1) := by decide +kernel
theorem dX2_countByJoining_28 : decode cX2_countByJoining 28 = .ok (.invokevirtual 84, 3) := by decide +kernel
theorem dX2_countByJoining_31 : decode cX2_countByJoining 31 = .ok (.ifCond .eq 6, 3) := by decide +kernel
theorem dX2_countByJoining_34 : decode cX2_countByJoining 34 = .ok (.iinc 2 (-1), 3) := by decide +kernel
theorem dX2_countByJoining_37 : decode cX2_countByJoining 37 = .ok (.iinc 3 1, 3) := by decide +kernel
theorem dX2_countByJoining_40 : decode cX2_countByJoining 40 = .ok (.goto (-31), 3) := by decide +kernel
theorem dX2_countByJoining_43 : decode cX2_countByJoining 43 = .ok (.iload_n 2, 1) := by decide +kernel
theorem dX2_countByJoining_44 : decode cX2_countByJoining 44 = .ok (.ireturn, 1) := by decide +kernel
theorem dX2_separateAll_0 : decode cX2_separateAll 0 = .ok (.iconst 0, 1) := by decide +kernel
theorem dX2_separateAll_1 : decode cX2_separateAll 1 = .ok (.istore_n 1, 1) := by decide +kernel
theorem dX2_separateAll_2 : decode cX2_separateAll 2 = .ok (.iload_n 1, 1) := by decide +kernel
theorem dX2_separateAll_3 : decode cX2_separateAll 3 = .ok (.bipush 8, 2) := by decide +kernel
theorem dX2_separateAll_5 : decode cX2_separateAll 5 = .ok (.if_icmp .ge 16, 3) := by decide +kernel
theorem dX2_separateAll_8 : decode cX2_separateAll 8 = .ok (.aload_n 0, 1) := by decide +kernel
theorem dX2_separateAll_9 : decode cX2_separateAll 9 = .ok (.getfield 18, 3) := by decide +kernel
theorem dX2_separateAll_12 : decode cX2_separateAll 12 = .ok (.iload_n 1, 1) := by decide +kernel
theorem dX2_separateAll_13 : decode cX2_separateAll 13 = .ok (.iload_n 1, 1) := by decide +kernel
theorem dX2_separateAll_14 : decode cX2_separateAll 14 = .ok (.iastore, 1) := by decide +kernel
theorem dX2_separateAll_15 : decode cX2_separateAll 15 = .ok (.iinc 1 1, 3) := by decide +kernel
theorem dX2_separateAll_18 : decode cX2_separateAll 18 = .ok (.goto (-16), 3) := by decide +kernel
theorem dX2_separateAll_21 : decode cX2_separateAll 21 = .ok (.return_, 1) := by decide +kernel
set_option maxRecDepth 20000 in
theorem ggX2_joinEnds_X2_rootOf : GoodIn wsX2_joinEnds wsX2_rootOf := goodIn_ca (goodIn_r _ [6, 1, 23, 24, 25] (by decide +kernel) (by decide +kernel)) (goodIn_sub (fun _ h => List.mem_cons_of_mem _ (List.mem_append_right _ h)) (by decide +kernel))
set_option maxRecDepth 20000 in
theorem gX2_joinEnds_X2_rootOf : GoodIn wsX2_joinEnds (wsV RX2 88 RX2 yX2_rootOf wsX2_rootOf) := goodIn_app (goodIn_of _ (by decide +kernel)) ggX2_joinEnds_X2_rootOf
theorem dX2_joinEnds_0 : decode cX2_joinEnds 0 = .ok (.aload_n 0, 1) := by decide +kernel
theorem dX2_joinEnds_1 : decode cX2_joinEnds 1 = .ok (.aload_n 1, 1) := by decide +kernel
theorem dX2_joinEnds_2 : decode cX2_joinEnds 2 = .ok (.getfield 65, 3) := by decide +kernel
theorem dX2_joinEnds_5 : decode cX2_joinEnds 5 = .ok (.iload_n 2, 1) := by decide +kernel
theorem dX2_joinEnds_6 : decode cX2_joinEnds 6 = .ok (.iaload, 1) := by decide +kernel
theorem dX2_joinEnds_7 : decode cX2_joinEnds 7 = .ok (.invokevirtual 88, 3) := by decide +kernel
theorem dX2_joinEnds_10 : decode cX2_joinEnds 10 = .ok (.istore_n 3, 1) := by decide +kernel
theorem dX2_joinEnds_11 : decode cX2_joinEnds 11 = .ok (.aload_n 0, 1) := by decide +kernel
theorem dX2_joinEnds_12 : decode cX2_joinEnds 12 = .ok (.aload_n 1, 1) := by decide +kernel
theorem dX2_joinEnds_13 : decode cX2_joinEnds 13 = .ok (.getfield 68, 3) := by decide +kernel
theorem dX2_joinEnds_16 : decode cX2_joinEnds 16 = .ok (.iload_n 2, 1) := by decide +kernel
theorem dX2_joinEnds_17 : decode cX2_joinEnds 17 = .ok (.iaload, 1) := by decide +kernel
theorem dX2_joinEnds_18 : decode cX2_joinEnds 18 = .ok (.invokevirtual 88, 3) := by decide +kernel
theorem dX2_joinEnds_21 : decode cX2_joinEnds 21 = .ok (.istore 4, 2) := by decide +kernel
theorem dX2_joinEnds_23 : decode cX2_joinEnds 23 = .ok (.aload_n 0, 1) := by decide +kernel
theorem dX2_joinEnds_24 : decode cX2_joinEnds 24 = .ok (.getfield 18, 3) := by decide +kernel
theorem dX2_joinEnds_27 : decode cX2_joinEnds 27 = .ok (.iload_n 3, 1) := by decide +kernel
theorem dX2_joinEnds_28 : decode cX2_joinEnds 28 = .ok (.iload 4, 2) := by decide +kernel
theorem dX2_joinEnds_30 : decode cX2_joinEnds 30 = .ok (.iastore, 1) := by decide +kernel
theorem dX2_joinEnds_31 : decode cX2_joinEnds 31 = .ok (.iload_n 3, 1) := by decide +kernel
theorem dX2_joinEnds_32 : decode cX2_joinEnds 32 = .ok (.iload 4, 2) := by decide +kernel
theorem dX2_joinEnds_34 : decode cX2_joinEnds 34 = .ok (.if_icmp .eq 7, 3) := by decide +kernel
theorem dX2_joinEnds_37 : decode cX2_joinEnds 37 = .ok (.iconst 1, 1) := by decide +kernel
theorem dX2_joinEnds_38 : decode cX2_joinEnds 38 = .ok (.goto 4, 3) := by decide +kernel
theorem dX2_joinEnds_41 : decode cX2_joinEnds 41 = .ok (.iconst 0, 1) := by decide +kernel
theorem dX2_joinEnds_42 : decode cX2_joinEnds 42 = .ok (.ireturn, 1) := by decide +kernel
theorem dX2_rootOf_0 : decode cX2_rootOf 0 = .ok (.iload_n 1, 1) := by decide +kernel
theorem dX2_rootOf_1 : decode cX2_rootOf 1 = .ok (.istore_n 2, 1) := by decide +kernel
theorem dX2_rootOf_2 : decode cX2_rootOf 2 = .ok (.iconst 0, 1) := by decide +kernel
theorem dX2_rootOf_3 : decode cX2_rootOf 3 = .ok (.istore_n 3, 1) := by decide +kernel
theorem dX2_rootOf_4 : decode cX2_rootOf 4 = .ok (.iload_n 3, 1) := by decide +kernel
theorem dX2_rootOf_5 : decode cX2_rootOf 5 = .ok (.bipush 8, 2) := by decide +kernel
theorem dX2_rootOf_7 : decode cX2_rootOf 7 = .ok (.if_icmp .ge 26, 3) := by decide +kernel
theorem dX2_rootOf_10 : decode cX2_rootOf 10 = .ok (.aload_n 0, 1) := by decide +kernel
theorem dX2_rootOf_11 : decode cX2_rootOf 11 = .ok (.getfield 18, 3) := by decide +kernel
theorem dX2_rootOf_14 : decode cX2_rootOf 14 = .ok (.iload_n 2, 1) := by decide +kernel
theorem dX2_rootOf_15 : decode cX2_rootOf 15 = .ok (.iaload, 1) := by decide +kernel
theorem dX2_rootOf_16 : decode cX2_rootOf 16 = .ok (.iload_n 2, 1) := by decide +kernel
theorem dX2_rootOf_17 : decode cX2_rootOf 17 = .ok (.if_icmp .eq 16, 3) := by decide +kernel
theorem dX2_rootOf_20 : decode cX2_rootOf 20 = .ok (.aload_n 0, 1) := by decide +kernel
theorem dX2_rootOf_21 : decode cX2_rootOf 21 = .ok (.getfield 18, 3) := by decide +kernel
theorem dX2_rootOf_24 : decode cX2_rootOf 24 = .ok (.iload_n 2, 1) := by decide +kernel
theorem dX2_rootOf_25 : decode cX2_rootOf 25 = .ok (.iaload, 1) := by decide +kernel
theorem dX2_rootOf_26 : decode cX2_rootOf 26 = .ok (.istore_n 2, 1) := by decide +kernel
theorem dX2_rootOf_27 : decode cX2_rootOf 27 = .ok (.iinc 3 1, 3) := by decide +kernel
theorem dX2_rootOf_30 : decode cX2_rootOf 30 = .ok (.goto (-26), 3) := by decide +kernel
theorem dX2_rootOf_33 : decode cX2_rootOf 33 = .ok (.iload_n 2, 1) := by decide +kernel
theorem dX2_rootOf_34 : decode cX2_rootOf 34 = .ok (.ireturn, 1) := by decide +kernel
set_option maxRecDepth 20000 in
theorem ggX2_kruskalLength_X2_separateAll : GoodIn wsX2_kruskalLength wsX2_separateAll := goodIn_ca (goodIn_r _ [5, 6, 37, 38, 39] (by decide +kernel) (by decide +kernel)) (goodIn_sub (fun _ h => List.mem_cons_of_mem _ (List.mem_append_right _ h)) (by decide +kernel))
set_option maxRecDepth 20000 in
theorem gX2_kruskalLength_X2_separateAll : GoodIn wsX2_kruskalLength (wsV RX2 81 RX2 yX2_separateAll wsX2_separateAll) := goodIn_app (goodIn_of _ (by decide +kernel)) ggX2_kruskalLength_X2_separateAll
set_option maxRecDepth 20000 in
theorem ggX2_kruskalLength_X1_hasBridge : GoodIn wsX2_kruskalLength wsX1_hasBridge := goodIn_ca (goodIn_r _ [11, 12, 21, 22, 23, 24, 25, 26, 27, 28, 29, 30, 31, 32, 33, 34, 35, 36] (by decide +kernel) (by decide +kernel)) (goodIn_sub (fun _ h => List.mem_cons_of_mem _ (List.mem_append_right _ h)) (by decide +kernel))
set_option maxRecDepth 20000 in
theorem gX2_kruskalLength_X1_hasBridge : GoodIn wsX2_kruskalLength (wsV RX2 61 RX1 yX1_hasBridge wsX1_hasBridge) := goodIn_app (goodIn_of _ (by decide +kernel)) ggX2_kruskalLength_X1_hasBridge
set_option maxRecDepth 20000 in
theorem ggX2_kruskalLength_X2_joinEnds : GoodIn wsX2_kruskalLength wsX2_joinEnds := goodIn_ca (goodIn_r _ [16, 6, 17, 18, 19, 4, 20, 21, 22, 23, 24, 25, 26, 27, 28, 29, 30, 31, 32, 33, 34, 35, 36, 37, 38, 39] (by decide +kernel) (by decide +kernel)) (goodIn_sub (fun _ h => List.mem_cons_of_mem _ (List.mem_append_right _ h)) (by decide +kernel))
set_option maxRecDepth 20000 in
theorem gX2_kruskalLength_X2_joinEnds : GoodIn wsX2_kruskalLength (wsV RX2 84 RX2 yX2_joinEnds wsX2_joinEnds) := goodIn_app (goodIn_of _ (by decide +kernel)) ggX2_kruskalLength_X2_joinEnds
theorem dX2_kruskalLength_0 : decode cX2_kruskalLength 0 = .ok (.aload_n 0, 1) := by decide +kernel
theorem dX2_kruskalLength_1 : decode cX2_kruskalLength 1 = .ok (.invokevirtual 81, 3) := by decide +kernel
theorem dX2_kruskalLength_4 : decode cX2_kruskalLength 4 = .ok (.iconst 0, 1) := by decide +kernel
theorem dX2_kruskalLength_5 : decode cX2_kruskalLength 5 = .ok (.istore_n 2, 1) := by decide +kernel
theorem dX2_kruskalLength_6 : decode cX2_kruskalLength 6 = .ok (.iconst 1, 1) := by decide +kernel
theorem dX2_kruskalLength_7 : decode cX2_kruskalLength 7 = .ok (.istore_n 3, 1) := by decide +kernel
theorem dX2_kruskalLength_8 : decode cX2_kruskalLength 8 = .ok (.iload_n 3, 1) := by decide +kernel
theorem dX2_kruskalLength_9 : decode cX2_kruskalLength 9 = .ok (.bipush 9, 2) := by decide +kernel
theorem dX2_kruskalLength_11 : decode cX2_kruskalLength 11 = .ok (.if_icmp .gt 61, 3) := by decide +kernel
theorem dX2_kruskalLength_14 : decode cX2_kruskalLength 14 = .ok (.iconst 0, 1) := by decide +kernel
theorem dX2_kruskalLength_15 : decode cX2_kruskalLength 15 = .ok (.istore 4, 2) := by decide +kernel
theorem dX2_kruskalLength_17 : decode cX2_kruskalLength 17 = .ok (.iload 4, 2) := by decide +kernel
theorem dX2_kruskalLength_19 : decode cX2_kruskalLength 19 = .ok (.aload_n 1, 1) := by decide +kernel
theorem dX2_kruskalLength_20 : decode cX2_kruskalLength 20 = .ok (.getfield 39, 3) := by decide +kernel
theorem dX2_kruskalLength_23 : decode cX2_kruskalLength 23 = .ok (.if_icmp .ge 43, 3) := by decide +kernel
theorem dX2_kruskalLength_26 : decode cX2_kruskalLength 26 = .ok (.aload_n 1, 1) := by decide +kernel
theorem dX2_kruskalLength_27 : decode cX2_kruskalLength 27 = .ok (.iload 4, 2) := by decide +kernel
theorem dX2_kruskalLength_29 : decode cX2_kruskalLength 29 = .ok (.invokevirtual 61, 3) := by decide +kernel
theorem dX2_kruskalLength_32 : decode cX2_kruskalLength 32 = .ok (.ifCond .eq 28, 3) := by decide +kernel
theorem dX2_kruskalLength_35 : decode cX2_kruskalLength 35 = .ok (.aload_n 1, 1) := by decide +kernel
theorem dX2_kruskalLength_36 : decode cX2_kruskalLength 36 = .ok (.getfield 49, 3) := by decide +kernel
theorem dX2_kruskalLength_39 : decode cX2_kruskalLength 39 = .ok (.iload 4, 2) := by decide +kernel
theorem dX2_kruskalLength_41 : decode cX2_kruskalLength 41 = .ok (.iaload, 1) := by decide +kernel
theorem dX2_kruskalLength_42 : decode cX2_kruskalLength 42 = .ok (.iload_n 3, 1) := by decide +kernel
theorem dX2_kruskalLength_43 : decode cX2_kruskalLength 43 = .ok (.if_icmp .ne 17, 3) := by decide +kernel
theorem dX2_kruskalLength_46 : decode cX2_kruskalLength 46 = .ok (.aload_n 0, 1) := by decide +kernel
theorem dX2_kruskalLength_47 : decode cX2_kruskalLength 47 = .ok (.aload_n 1, 1) := by decide +kernel
theorem dX2_kruskalLength_48 : decode cX2_kruskalLength 48 = .ok (.iload 4, 2) := by decide +kernel
theorem dX2_kruskalLength_50 : decode cX2_kruskalLength 50 = .ok (.invokevirtual 84, 3) := by decide +kernel
theorem dX2_kruskalLength_53 : decode cX2_kruskalLength 53 = .ok (.ifCond .eq 7, 3) := by decide +kernel
theorem dX2_kruskalLength_56 : decode cX2_kruskalLength 56 = .ok (.iload_n 2, 1) := by decide +kernel
theorem dX2_kruskalLength_57 : decode cX2_kruskalLength 57 = .ok (.iload_n 3, 1) := by decide +kernel
theorem dX2_kruskalLength_58 : decode cX2_kruskalLength 58 = .ok (.iadd, 1) := by decide +kernel
theorem dX2_kruskalLength_59 : decode cX2_kruskalLength 59 = .ok (.istore_n 2, 1) := by decide +kernel
theorem dX2_kruskalLength_60 : decode cX2_kruskalLength 60 = .ok (.iinc 4 1, 3) := by decide +kernel
theorem dX2_kruskalLength_63 : decode cX2_kruskalLength 63 = .ok (.goto (-46), 3) := by decide +kernel
theorem dX2_kruskalLength_66 : decode cX2_kruskalLength 66 = .ok (.iinc 3 1, 3) := by decide +kernel
theorem dX2_kruskalLength_69 : decode cX2_kruskalLength 69 = .ok (.goto (-61), 3) := by decide +kernel
theorem dX2_kruskalLength_72 : decode cX2_kruskalLength 72 = .ok (.iload_n 2, 1) := by decide +kernel
theorem dX2_kruskalLength_73 : decode cX2_kruskalLength 73 = .ok (.ireturn, 1) := by decide +kernel
set_option maxRecDepth 20000 in
theorem ggX2_primLength_X2_shortestLeaving : GoodIn wsX2_primLength wsX2_shortestLeaving := goodIn_ca (goodIn_r _ [4, 5, 6, 7, 8, 9, 10, 11, 12, 3, 13, 14, 15, 16, 17, 18, 19, 20, 21, 22, 23, 24, 25, 26, 27, 28, 29] (by decide +kernel) (by decide +kernel)) (goodIn_sub (fun _ h => List.mem_cons_of_mem _ (List.mem_append_right _ h)) (by decide +kernel))
set_option maxRecDepth 20000 in
theorem gX2_primLength_X2_shortestLeaving : GoodIn wsX2_primLength (va_wsS RX2 91 yX2_shortestLeaving wsX2_shortestLeaving) := goodIn_app (goodIn_of _ (by decide +kernel)) ggX2_primLength_X2_shortestLeaving
theorem dX2_primLength_0 : decode cX2_primLength 0 = .ok (.iconst 0, 1) := by decide +kernel
theorem dX2_primLength_1 : decode cX2_primLength 1 = .ok (.istore_n 1, 1) := by decide +kernel
theorem dX2_primLength_2 : decode cX2_primLength 2 = .ok (.iconst 0, 1) := by decide +kernel
theorem dX2_primLength_3 : decode cX2_primLength 3 = .ok (.istore_n 2, 1) := by decide +kernel
theorem dX2_primLength_4 : decode cX2_primLength 4 = .ok (.iconst 0, 1) := by decide +kernel
theorem dX2_primLength_5 : decode cX2_primLength 5 = .ok (.istore_n 3, 1) := by decide +kernel
theorem dX2_primLength_6 : decode cX2_primLength 6 = .ok (.iload_n 3, 1) := by decide +kernel
theorem dX2_primLength_7 : decode cX2_primLength 7 = .ok (.bipush 8, 2) := by decide +kernel
theorem dX2_primLength_9 : decode cX2_primLength 9 = .ok (.if_icmp .ge 79, 3) := by decide +kernel
theorem dX2_primLength_12 : decode cX2_primLength 12 = .ok (.iload_n 2, 1) := by decide +kernel
theorem dX2_primLength_13 : decode cX2_primLength 13 = .ok (.iconst 1, 1) := by decide +kernel
theorem dX2_primLength_14 : decode cX2_primLength 14 = .ok (.iload_n 3, 1) := by decide +kernel
theorem dX2_primLength_15 : decode cX2_primLength 15 = .ok (.ishl, 1) := by decide +kernel
theorem dX2_primLength_16 : decode cX2_primLength 16 = .ok (.ior, 1) := by decide +kernel
theorem dX2_primLength_17 : decode cX2_primLength 17 = .ok (.istore_n 2, 1) := by decide +kernel
theorem dX2_primLength_18 : decode cX2_primLength 18 = .ok (.iconst 1, 1) := by decide +kernel
theorem dX2_primLength_19 : decode cX2_primLength 19 = .ok (.istore 4, 2) := by decide +kernel
theorem dX2_primLength_21 : decode cX2_primLength 21 = .ok (.iload 4, 2) := by decide +kernel
theorem dX2_primLength_23 : decode cX2_primLength 23 = .ok (.bipush 8, 2) := by decide +kernel
theorem dX2_primLength_25 : decode cX2_primLength 25 = .ok (.if_icmp .ge 57, 3) := by decide +kernel
theorem dX2_primLength_28 : decode cX2_primLength 28 = .ok (.aload_n 0, 1) := by decide +kernel
theorem dX2_primLength_29 : decode cX2_primLength 29 = .ok (.iload_n 2, 1) := by decide +kernel
theorem dX2_primLength_30 : decode cX2_primLength 30 = .ok (.invokestatic 91, 3) := by decide +kernel
theorem dX2_primLength_33 : decode cX2_primLength 33 = .ok (.istore 5, 2) := by decide +kernel
theorem dX2_primLength_35 : decode cX2_primLength 35 = .ok (.iload 5, 2) := by decide +kernel
theorem dX2_primLength_37 : decode cX2_primLength 37 = .ok (.iconst (-1), 1) := by decide +kernel
theorem dX2_primLength_38 : decode cX2_primLength 38 = .ok (.if_icmp .ne 6, 3) := by decide +kernel
theorem dX2_primLength_41 : decode cX2_primLength 41 = .ok (.goto 41, 3) := by decide +kernel
theorem dX2_primLength_44 : decode cX2_primLength 44 = .ok (.iload_n 1, 1) := by decide +kernel
theorem dX2_primLength_45 : decode cX2_primLength 45 = .ok (.aload_n 0, 1) := by decide +kernel
theorem dX2_primLength_46 : decode cX2_primLength 46 = .ok (.getfield 49, 3) := by decide +kernel
theorem dX2_primLength_49 : decode cX2_primLength 49 = .ok (.iload 5, 2) := by decide +kernel
theorem dX2_primLength_51 : decode cX2_primLength 51 = .ok (.iaload, 1) := by decide +kernel
theorem dX2_primLength_52 : decode cX2_primLength 52 = .ok (.iadd, 1) := by decide +kernel
theorem dX2_primLength_53 : decode cX2_primLength 53 = .ok (.istore_n 1, 1) := by decide +kernel
theorem dX2_primLength_54 : decode cX2_primLength 54 = .ok (.iload_n 2, 1) := by decide +kernel
theorem dX2_primLength_55 : decode cX2_primLength 55 = .ok (.iconst 1, 1) := by decide +kernel
theorem dX2_primLength_56 : decode cX2_primLength 56 = .ok (.aload_n 0, 1) := by decide +kernel
theorem dX2_primLength_57 : decode cX2_primLength 57 = .ok (.getfield 65, 3) := by decide +kernel
theorem dX2_primLength_60 : decode cX2_primLength 60 = .ok (.iload 5, 2) := by decide +kernel
theorem dX2_primLength_62 : decode cX2_primLength 62 = .ok (.iaload, 1) := by decide +kernel
theorem dX2_primLength_63 : decode cX2_primLength 63 = .ok (.ishl, 1) := by decide +kernel
theorem dX2_primLength_64 : decode cX2_primLength 64 = .ok (.iconst 1, 1) := by decide +kernel
theorem dX2_primLength_65 : decode cX2_primLength 65 = .ok (.aload_n 0, 1) := by decide +kernel
theorem dX2_primLength_66 : decode cX2_primLength 66 = .ok (.getfield 68, 3) := by decide +kernel
theorem dX2_primLength_69 : decode cX2_primLength 69 = .ok (.iload 5, 2) := by decide +kernel
theorem dX2_primLength_71 : decode cX2_primLength 71 = .ok (.iaload, 1) := by decide +kernel
theorem dX2_primLength_72 : decode cX2_primLength 72 = .ok (.ishl, 1) := by decide +kernel
theorem dX2_primLength_73 : decode cX2_primLength 73 = .ok (.ior, 1) := by decide +kernel
theorem dX2_primLength_74 : decode cX2_primLength 74 = .ok (.ior, 1) := by decide +kernel
theorem dX2_primLength_75 : decode cX2_primLength 75 = .ok (.istore_n 2, 1) := by decide +kernel
theorem dX2_primLength_76 : decode cX2_primLength 76 = .ok (.iinc 4 1, 3) := by decide +kernel
theorem dX2_primLength_79 : decode cX2_primLength 79 = .ok (.goto (-58), 3) := by decide +kernel
theorem dX2_primLength_82 : decode cX2_primLength 82 = .ok (.iinc 3 1, 3) := by decide +kernel
theorem dX2_primLength_85 : decode cX2_primLength 85 = .ok (.goto (-79), 3) := by decide +kernel
theorem dX2_primLength_88 : decode cX2_primLength 88 = .ok (.iload_n 1, 1) := by decide +kernel
theorem dX2_primLength_89 : decode cX2_primLength 89 = .ok (.ireturn, 1) := by decide +kernel
set_option maxRecDepth 20000 in
theorem ggX2_shortestLeaving_X1_hasBridge : GoodIn wsX2_shortestLeaving wsX1_hasBridge := goodIn_ca (goodIn_r _ [5, 6, 11, 12, 13, 14, 15, 16, 17, 18, 19, 20, 21, 22, 23, 24, 25, 26] (by decide +kernel) (by decide +kernel)) (goodIn_sub (fun _ h => List.mem_cons_of_mem _ (List.mem_append_right _ h)) (by decide +kernel))
set_option maxRecDepth 20000 in
theorem gX2_shortestLeaving_X1_hasBridge : GoodIn wsX2_shortestLeaving (wsV RX2 61 RX1 yX1_hasBridge wsX1_hasBridge) := goodIn_app (goodIn_of _ (by decide +kernel)) ggX2_shortestLeaving_X1_hasBridge
set_option maxRecDepth 20000 in
theorem ggX2_shortestLeaving_X2_contains : GoodIn wsX2_shortestLeaving wsX2_contains := goodIn_r _ [10] (by decide +kernel) (by decide +kernel)
set_option maxRecDepth 20000 in
theorem gX2_shortestLeaving_X2_contains : GoodIn wsX2_shortestLeaving (va_wsS RX2 35 yX2_contains wsX2_contains) := goodIn_app (goodIn_of _ (by decide +kernel)) ggX2_shortestLeaving_X2_contains
theorem dX2_shortestLeaving_0 : decode cX2_shortestLeaving 0 = .ok (.iconst (-1), 1) := by decide +kernel
theorem dX2_shortestLeaving_1 : decode cX2_shortestLeaving 1 = .ok (.istore_n 2, 1) := by decide +kernel
theorem dX2_shortestLeaving_2 : decode cX2_shortestLeaving 2 = .ok (.iconst 0, 1) := by decide +kernel
theorem dX2_shortestLeaving_3 : decode cX2_shortestLeaving 3 = .ok (.istore_n 3, 1) := by decide +kernel
theorem dX2_shortestLeaving_4 : decode cX2_shortestLeaving 4 = .ok (.iload_n 3, 1) := by decide +kernel
theorem dX2_shortestLeaving_5 : decode cX2_shortestLeaving 5 = .ok (.aload_n 0, 1) := by decide +kernel
theorem dX2_shortestLeaving_6 : decode cX2_shortestLeaving 6 = .ok (.getfield 39, 3) := by decide +kernel
theorem dX2_shortestLeaving_9 : decode cX2_shortestLeaving 9 = .ok (.if_icmp .ge 74, 3) := by decide +kernel
theorem dX2_shortestLeaving_12 : decode cX2_shortestLeaving 12 = .ok (.aload_n 0, 1) := by decide +kernel
theorem dX2_shortestLeaving_13 : decode cX2_shortestLeaving 13 = .ok (.iload_n 3, 1) := by decide +kernel
theorem dX2_shortestLeaving_14 : decode cX2_shortestLeaving 14 = .ok (.invokevirtual 61, 3) := by decide +kernel
theorem dX2_shortestLeaving_17 : decode cX2_shortestLeaving 17 = .ok (.ifCond .eq 30, 3) := by decide +kernel
theorem dX2_shortestLeaving_20 : decode cX2_shortestLeaving 20 = .ok (.iload_n 1, 1) := by decide +kernel
theorem dX2_shortestLeaving_21 : decode cX2_shortestLeaving 21 = .ok (.aload_n 0, 1) := by decide +kernel
theorem dX2_shortestLeaving_22 : decode cX2_shortestLeaving 22 = .ok (.getfield 65, 3) := by decide +kernel
theorem dX2_shortestLeaving_25 : decode cX2_shortestLeaving 25 = .ok (.iload_n 3, 1) := by decide +kernel
theorem dX2_shortestLeaving_26 : decode cX2_shortestLeaving 26 = .ok (.iaload, 1) := by decide +kernel
theorem dX2_shortestLeaving_27 : decode cX2_shortestLeaving 27 = .ok (.invokestatic 35, 3) := by decide +kernel
theorem dX2_shortestLeaving_30 : decode cX2_shortestLeaving 30 = .ok (.iload_n 1, 1) := by decide +kernel
theorem dX2_shortestLeaving_31 : decode cX2_shortestLeaving 31 = .ok (.aload_n 0, 1) := by decide +kernel
theorem dX2_shortestLeaving_32 : decode cX2_shortestLeaving 32 = .ok (.getfield 68, 3) := by decide +kernel
theorem dX2_shortestLeaving_35 : decode cX2_shortestLeaving 35 = .ok (.iload_n 3, 1) := by decide +kernel
theorem dX2_shortestLeaving_36 : decode cX2_shortestLeaving 36 = .ok (.iaload, 1) := by decide +kernel
theorem dX2_shortestLeaving_37 : decode cX2_shortestLeaving 37 = .ok (.invokestatic 35, 3) := by decide +kernel
theorem dX2_shortestLeaving_40 : decode cX2_shortestLeaving 40 = .ok (.if_icmp .eq 7, 3) := by decide +kernel
theorem dX2_shortestLeaving_43 : decode cX2_shortestLeaving 43 = .ok (.iconst 1, 1) := by decide +kernel
theorem dX2_shortestLeaving_44 : decode cX2_shortestLeaving 44 = .ok (.goto 4, 3) := by decide +kernel
theorem dX2_shortestLeaving_47 : decode cX2_shortestLeaving 47 = .ok (.iconst 0, 1) := by decide +kernel
theorem dX2_shortestLeaving_48 : decode cX2_shortestLeaving 48 = .ok (.istore 4, 2) := by decide +kernel
theorem dX2_shortestLeaving_50 : decode cX2_shortestLeaving 50 = .ok (.iload 4, 2) := by decide +kernel
theorem dX2_shortestLeaving_52 : decode cX2_shortestLeaving 52 = .ok (.ifCond .eq 25, 3) := by decide +kernel
theorem dX2_shortestLeaving_55 : decode cX2_shortestLeaving 55 = .ok (.iload_n 2, 1) := by decide +kernel
theorem dX2_shortestLeaving_56 : decode cX2_shortestLeaving 56 = .ok (.iconst (-1), 1) := by decide +kernel
theorem dX2_shortestLeaving_57 : decode cX2_shortestLeaving 57 = .ok (.if_icmp .eq 18, 3) := by decide +kernel
theorem dX2_shortestLeaving_60 : decode cX2_shortestLeaving 60 = .ok (.aload_n 0, 1) := by decide +kernel
theorem dX2_shortestLeaving_61 : decode cX2_shortestLeaving 61 = .ok (.getfield 49, 3) := by decide +kernel
theorem dX2_shortestLeaving_64 : decode cX2_shortestLeaving 64 = .ok (.iload_n 3, 1) := by decide +kernel
theorem dX2_shortestLeaving_65 : decode cX2_shortestLeaving 65 = .ok (.iaload, 1) := by decide +kernel
theorem dX2_shortestLeaving_66 : decode cX2_shortestLeaving 66 = .ok (.aload_n 0, 1) := by decide +kernel
theorem dX2_shortestLeaving_67 : decode cX2_shortestLeaving 67 = .ok (.getfield 49, 3) := by decide +kernel
theorem dX2_shortestLeaving_70 : decode cX2_shortestLeaving 70 = .ok (.iload_n 2, 1) := by decide +kernel
theorem dX2_shortestLeaving_71 : decode cX2_shortestLeaving 71 = .ok (.iaload, 1) := by decide +kernel
theorem dX2_shortestLeaving_72 : decode cX2_shortestLeaving 72 = .ok (.if_icmp .ge 5, 3) := by decide +kernel
theorem dX2_shortestLeaving_75 : decode cX2_shortestLeaving 75 = .ok (.iload_n 3, 1) := by decide +kernel
theorem dX2_shortestLeaving_76 : decode cX2_shortestLeaving 76 = .ok (.istore_n 2, 1) := by decide +kernel
theorem dX2_shortestLeaving_77 : decode cX2_shortestLeaving 77 = .ok (.iinc 3 1, 3) := by decide +kernel
theorem dX2_shortestLeaving_80 : decode cX2_shortestLeaving 80 = .ok (.goto (-76), 3) := by decide +kernel
theorem dX2_shortestLeaving_83 : decode cX2_shortestLeaving 83 = .ok (.iload_n 2, 1) := by decide +kernel
theorem dX2_shortestLeaving_84 : decode cX2_shortestLeaving 84 = .ok (.ireturn, 1) := by decide +kernel
theorem dX2_contains_0 : decode cX2_contains 0 = .ok (.iload_n 0, 1) := by decide +kernel
theorem dX2_contains_1 : decode cX2_contains 1 = .ok (.iconst 1, 1) := by decide +kernel
theorem dX2_contains_2 : decode cX2_contains 2 = .ok (.iload_n 1, 1) := by decide +kernel
theorem dX2_contains_3 : decode cX2_contains 3 = .ok (.ishl, 1) := by decide +kernel
theorem dX2_contains_4 : decode cX2_contains 4 = .ok (.iand, 1) := by decide +kernel
theorem dX2_contains_5 : decode cX2_contains 5 = .ok (.ifCond .eq 7, 3) := by decide +kernel
theorem dX2_contains_8 : decode cX2_contains 8 = .ok (.iconst 1, 1) := by decide +kernel
theorem dX2_contains_9 : decode cX2_contains 9 = .ok (.goto 4, 3) := by decide +kernel
theorem dX2_contains_12 : decode cX2_contains 12 = .ok (.iconst 0, 1) := by decide +kernel
theorem dX2_contains_13 : decode cX2_contains 13 = .ok (.ireturn, 1) := by decide +kernel
set_option maxRecDepth 20000 in
theorem ggX3_init_X1_init : GoodIn wsX3_init wsX1_init := goodIn_ca (goodIn_r _ [12, 13, 2, 3, 14, 15, 16, 17, 18, 19, 20, 21, 22, 23, 24, 25, 26, 27, 28, 29, 30, 34, 35, 36, 37, 38, 39, 40, 41, 42, 43, 44, 45, 46, 47, 48, 49] (by decide +kernel) (by decide +kernel)) (goodIn_sub (fun _ h => List.mem_cons_of_mem _ (List.mem_append_right _ h)) (by decide +kernel))
set_option maxRecDepth 20000 in
theorem gX3_init_X1_init : GoodIn wsX3_init (wsX1_init) := ggX3_init_X1_init
theorem dX3_init_0 : decode cX3_init 0 = .ok (.aload_n 0, 1) := by decide +kernel
theorem dX3_init_1 : decode cX3_init 1 = .ok (.invokespecial 3, 3) := by decide +kernel
theorem dX3_init_4 : decode cX3_init 4 = .ok (.aload_n 0, 1) := by decide +kernel
theorem dX3_init_5 : decode cX3_init 5 = .ok (.bipush 8, 2) := by decide +kernel
theorem dX3_init_7 : decode cX3_init 7 = .ok (.anewarray 9, 3) := by decide +kernel
theorem dX3_init_10 : decode cX3_init 10 = .ok (.putfield 11, 3) := by decide +kernel
theorem dX3_init_13 : decode cX3_init 13 = .ok (.aload_n 0, 1) := by decide +kernel
theorem dX3_init_14 : decode cX3_init 14 = .ok (.iconst 0, 1) := by decide +kernel
theorem dX3_init_15 : decode cX3_init 15 = .ok (.putfield 17, 3) := by decide +kernel
theorem dX3_init_18 : decode cX3_init 18 = .ok (.aload_n 0, 1) := by decide +kernel
theorem dX3_init_19 : decode cX3_init 19 = .ok (.iconst 0, 1) := by decide +kernel
theorem dX3_init_20 : decode cX3_init 20 = .ok (.putfield 21, 3) := by decide +kernel
theorem dX3_init_23 : decode cX3_init 23 = .ok (.iconst 0, 1) := by decide +kernel
theorem dX3_init_24 : decode cX3_init 24 = .ok (.istore_n 1, 1) := by decide +kernel
theorem dX3_init_25 : decode cX3_init 25 = .ok (.iload_n 1, 1) := by decide +kernel
theorem dX3_init_26 : decode cX3_init 26 = .ok (.bipush 8, 2) := by decide +kernel
theorem dX3_init_28 : decode cX3_init 28 = .ok (.if_icmp .ge 22, 3) := by decide +kernel
theorem dX3_init_31 : decode cX3_init 31 = .ok (.aload_n 0, 1) := by decide +kernel
theorem dX3_init_32 : decode cX3_init 32 = .ok (.getfield 11, 3) := by decide +kernel
theorem dX3_init_35 : decode cX3_init 35 = .ok (.iload_n 1, 1) := by decide +kernel
theorem dX3_init_36 : decode cX3_init 36 = .ok (.new 9, 3) := by decide +kernel
theorem dX3_init_39 : decode cX3_init 39 = .ok (.dup, 1) := by decide +kernel
theorem dX3_init_40 : decode cX3_init 40 = .ok (.invokespecial 24, 3) := by decide +kernel
theorem dX3_init_43 : decode cX3_init 43 = .ok (.aastore, 1) := by decide +kernel
theorem dX3_init_44 : decode cX3_init 44 = .ok (.iinc 1 1, 3) := by decide +kernel
theorem dX3_init_47 : decode cX3_init 47 = .ok (.goto (-22), 3) := by decide +kernel
theorem dX3_init_50 : decode cX3_init 50 = .ok (.return_, 1) := by decide +kernel
set_option maxRecDepth 20000 in
theorem ggX3_push_X1_copyFrom : GoodIn wsX3_push wsX1_copyFrom := goodIn_r _ [12, 13, 14, 15, 16, 17, 18, 19, 20, 21, 22, 23, 24, 25, 26, 27, 28, 29, 30, 31, 32, 36, 37, 38, 39, 40, 41, 42, 43, 44, 45, 46, 47, 48, 49, 50, 51] (by decide +kernel) (by decide +kernel)
set_option maxRecDepth 20000 in
theorem gX3_push_X1_copyFrom : GoodIn wsX3_push (wsV RX3 25 RX1 yX1_copyFrom wsX1_copyFrom) := goodIn_app (goodIn_of _ (by decide +kernel)) ggX3_push_X1_copyFrom
theorem dX3_push_0 : decode cX3_push 0 = .ok (.aload_n 0, 1) := by decide +kernel
theorem dX3_push_1 : decode cX3_push 1 = .ok (.getfield 11, 3) := by decide +kernel
theorem dX3_push_4 : decode cX3_push 4 = .ok (.aload_n 0, 1) := by decide +kernel
theorem dX3_push_5 : decode cX3_push 5 = .ok (.getfield 17, 3) := by decide +kernel
theorem dX3_push_8 : decode cX3_push 8 = .ok (.aaload, 1) := by decide +kernel
theorem dX3_push_9 : decode cX3_push 9 = .ok (.aload_n 1, 1) := by decide +kernel
theorem dX3_push_10 : decode cX3_push 10 = .ok (.invokevirtual 25, 3) := by decide +kernel
theorem dX3_push_13 : decode cX3_push 13 = .ok (.aload_n 0, 1) := by decide +kernel
theorem dX3_push_14 : decode cX3_push 14 = .ok (.aload_n 0, 1) := by decide +kernel
theorem dX3_push_15 : decode cX3_push 15 = .ok (.getfield 17, 3) := by decide +kernel
theorem dX3_push_18 : decode cX3_push 18 = .ok (.iconst 1, 1) := by decide +kernel
theorem dX3_push_19 : decode cX3_push 19 = .ok (.iadd, 1) := by decide +kernel
theorem dX3_push_20 : decode cX3_push 20 = .ok (.bipush 8, 2) := by decide +kernel
theorem dX3_push_22 : decode cX3_push 22 = .ok (.irem, 1) := by decide +kernel
theorem dX3_push_23 : decode cX3_push 23 = .ok (.putfield 17, 3) := by decide +kernel
theorem dX3_push_26 : decode cX3_push 26 = .ok (.aload_n 0, 1) := by decide +kernel
theorem dX3_push_27 : decode cX3_push 27 = .ok (.aload_n 0, 1) := by decide +kernel
theorem dX3_push_28 : decode cX3_push 28 = .ok (.getfield 21, 3) := by decide +kernel
theorem dX3_push_31 : decode cX3_push 31 = .ok (.iconst 1, 1) := by decide +kernel
theorem dX3_push_32 : decode cX3_push 32 = .ok (.iadd, 1) := by decide +kernel
theorem dX3_push_33 : decode cX3_push 33 = .ok (.bipush 8, 2) := by decide +kernel
theorem dX3_push_35 : decode cX3_push 35 = .ok (.invokestatic 29, 3) := by decide +kernel
theorem dX3_push_38 : decode cX3_push 38 = .ok (.putfield 21, 3) := by decide +kernel
theorem dX3_push_41 : decode cX3_push 41 = .ok (.return_, 1) := by decide +kernel
theorem dX4_init_0 : decode cX4_init 0 = .ok (.aload_n 0, 1) := by decide +kernel
theorem dX4_init_1 : decode cX4_init 1 = .ok (.invokespecial 3, 3) := by decide +kernel
theorem dX4_init_4 : decode cX4_init 4 = .ok (.aload_n 0, 1) := by decide +kernel
theorem dX4_init_5 : decode cX4_init 5 = .ok (.bipush 60, 2) := by decide +kernel
theorem dX4_init_7 : decode cX4_init 7 = .ok (.newarray .char, 2) := by decide +kernel
theorem dX4_init_9 : decode cX4_init 9 = .ok (.putfield 9, 3) := by decide +kernel
theorem dX4_init_12 : decode cX4_init 12 = .ok (.aload_n 0, 1) := by decide +kernel
theorem dX4_init_13 : decode cX4_init 13 = .ok (.iconst 0, 1) := by decide +kernel
theorem dX4_init_14 : decode cX4_init 14 = .ok (.putfield 15, 3) := by decide +kernel
theorem dX4_init_17 : decode cX4_init 17 = .ok (.aload_n 0, 1) := by decide +kernel
theorem dX4_init_18 : decode cX4_init 18 = .ok (.iconst 0, 1) := by decide +kernel
theorem dX4_init_19 : decode cX4_init 19 = .ok (.putfield 19, 3) := by decide +kernel
theorem dX4_init_22 : decode cX4_init 22 = .ok (.aload_n 0, 1) := by decide +kernel
theorem dX4_init_23 : decode cX4_init 23 = .ok (.getstatic 22, 3) := by decide +kernel
theorem dX4_init_26 : decode cX4_init 26 = .ok (.putfield 28, 3) := by decide +kernel
theorem dX4_init_29 : decode cX4_init 29 = .ok (.aload_n 0, 1) := by decide +kernel
theorem dX4_init_30 : decode cX4_init 30 = .ok (.iconst 3, 1) := by decide +kernel
theorem dX4_init_31 : decode cX4_init 31 = .ok (.newarray .int, 2) := by decide +kernel
theorem dX4_init_33 : decode cX4_init 33 = .ok (.putfield 31, 3) := by decide +kernel
theorem dX4_init_36 : decode cX4_init 36 = .ok (.return_, 1) := by decide +kernel
set_option maxRecDepth 20000 in
theorem ggX7_init_X1_init : GoodIn wsX7_init wsX1_init := goodIn_ca (goodIn_r _ [31, 32, 2, 3, 33, 34, 35, 36, 37, 38, 39, 40, 41, 42, 43, 44, 45, 46, 47, 48, 49, 95, 96, 97, 98, 99, 100, 101, 102, 103, 104, 105, 106, 107, 108, 109, 110] (by decide +kernel) (by decide +kernel)) (goodIn_sub (fun _ h => List.mem_cons_of_mem _ (List.mem_append_right _ h)) (by decide +kernel))
set_option maxRecDepth 20000 in
theorem gX7_init_X1_init : GoodIn wsX7_init (wsX1_init) := ggX7_init_X1_init
set_option maxRecDepth 20000 in
theorem ggX7_init_X2_init : GoodIn wsX7_init wsX2_init := goodIn_r _ [51, 52, 2, 3, 33, 53, 54, 55, 121, 122, 123] (by decide +kernel) (by decide +kernel)
set_option maxRecDepth 20000 in
theorem gX7_init_X2_init_n24 : GoodIn wsX7_init (wsX2_init) := ggX7_init_X2_init
set_option maxRecDepth 20000 in
theorem ggX7_init_X3_init : GoodIn wsX7_init wsX3_init := goodIn_ca (goodIn_r _ [58, 59, 2, 3, 60, 61, 62, 63, 5, 6, 64, 30, 31, 32, 33, 34, 35, 36, 37, 38, 39, 40, 41, 42, 43, 44, 45, 46, 47, 48, 49, 124, 125, 126, 95, 96, 97, 98, 99, 100, 101, 102, 103, 104, 105, 106, 107, 108, 109, 110] (by decide +kernel) (by decide +kernel)) (goodIn_sub (fun _ h => List.mem_cons_of_mem _ (List.mem_append_right _ h)) (by decide +kernel))
set_option maxRecDepth 20000 in
theorem gX7_init_X3_init : GoodIn wsX7_init (wsX3_init) := ggX7_init_X3_init
set_option maxRecDepth 20000 in
theorem ggX7_init_X4_init : GoodIn wsX7_init wsX4_init := goodIn_r _ [66, 67, 2, 3, 68, 69, 70, 71, 72, 73, 33, 74, 127, 128, 129, 130, 131] (by decide +kernel) (by decide +kernel)
set_option maxRecDepth 20000 in
theorem gX7_init_X4_init_n38 : GoodIn wsX7_init (wsX4_init) := ggX7_init_X4_init
set_option maxRecDepth 20000 in
theorem ggX7_init_J4_init_da8c8 : GoodIn wsX7_init wsJ4_init_da8c8 := goodIn_r _ [77, 78, 79, 80, 81, 82, 2, 3, 83, 84, 85, 86, 87, 88, 89, 90, 91, 92, 93, 94, 132, 133, 134, 135] (by decide +kernel) (by decide +kernel)
set_option maxRecDepth 20000 in
theorem gX7_init_J4_init_da8c8 : GoodIn wsX7_init (wsJ4_init_da8c8) := ggX7_init_J4_init_da8c8
theorem dX7_init_0 : decode cX7_init 0 = .ok (.aload_n 0, 1) := by decide +kernel
theorem dX7_init_1 : decode cX7_init 1 = .ok (.invokespecial 1, 3) := by decide +kernel
theorem dX7_init_4 : decode cX7_init 4 = .ok (.aload_n 0, 1) := by decide +kernel
theorem dX7_init_5 : decode cX7_init 5 = .ok (.new 7, 3) := by decide +kernel
theorem dX7_init_8 : decode cX7_init 8 = .ok (.dup, 1) := by decide +kernel
theorem dX7_init_9 : decode cX7_init 9 = .ok (.invokespecial 9, 3) := by decide +kernel
theorem dX7_init_12 : decode cX7_init 12 = .ok (.putfield 10, 3) := by decide +kernel
theorem dX7_init_15 : decode cX7_init 15 = .ok (.aload_n 0, 1) := by decide +kernel
theorem dX7_init_16 : decode cX7_init 16 = .ok (.new 7, 3) := by decide +kernel
theorem dX7_init_19 : decode cX7_init 19 = .ok (.dup, 1) := by decide +kernel
theorem dX7_init_20 : decode cX7_init 20 = .ok (.invokespecial 9, 3) := by decide +kernel
theorem dX7_init_23 : decode cX7_init 23 = .ok (.putfield 16, 3) := by decide +kernel
theorem dX7_init_26 : decode cX7_init 26 = .ok (.aload_n 0, 1) := by decide +kernel
theorem dX7_init_27 : decode cX7_init 27 = .ok (.new 7, 3) := by decide +kernel
theorem dX7_init_30 : decode cX7_init 30 = .ok (.dup, 1) := by decide +kernel
theorem dX7_init_31 : decode cX7_init 31 = .ok (.invokespecial 9, 3) := by decide +kernel
theorem dX7_init_34 : decode cX7_init 34 = .ok (.putfield 19, 3) := by decide +kernel
theorem dX7_init_37 : decode cX7_init 37 = .ok (.aload_n 0, 1) := by decide +kernel
theorem dX7_init_38 : decode cX7_init 38 = .ok (.new 22, 3) := by decide +kernel
theorem dX7_init_41 : decode cX7_init 41 = .ok (.dup, 1) := by decide +kernel
theorem dX7_init_42 : decode cX7_init 42 = .ok (.invokespecial 24, 3) := by decide +kernel
theorem dX7_init_45 : decode cX7_init 45 = .ok (.putfield 25, 3) := by decide +kernel
theorem dX7_init_48 : decode cX7_init 48 = .ok (.aload_n 0, 1) := by decide +kernel
theorem dX7_init_49 : decode cX7_init 49 = .ok (.new 29, 3) := by decide +kernel
theorem dX7_init_52 : decode cX7_init 52 = .ok (.dup, 1) := by decide +kernel
theorem dX7_init_53 : decode cX7_init 53 = .ok (.invokespecial 31, 3) := by decide +kernel
theorem dX7_init_56 : decode cX7_init 56 = .ok (.putfield 32, 3) := by decide +kernel
theorem dX7_init_59 : decode cX7_init 59 = .ok (.aload_n 0, 1) := by decide +kernel
theorem dX7_init_60 : decode cX7_init 60 = .ok (.new 36, 3) := by decide +kernel
theorem dX7_init_63 : decode cX7_init 63 = .ok (.dup, 1) := by decide +kernel
theorem dX7_init_64 : decode cX7_init 64 = .ok (.invokespecial 38, 3) := by decide +kernel
theorem dX7_init_67 : decode cX7_init 67 = .ok (.putfield 39, 3) := by decide +kernel
theorem dX7_init_70 : decode cX7_init 70 = .ok (.aload_n 0, 1) := by decide +kernel
theorem dX7_init_71 : decode cX7_init 71 = .ok (.new 43, 3) := by decide +kernel
theorem dX7_init_74 : decode cX7_init 74 = .ok (.dup, 1) := by decide +kernel
theorem dX7_init_75 : decode cX7_init 75 = .ok (.invokespecial 45, 3) := by decide +kernel
theorem dX7_init_78 : decode cX7_init 78 = .ok (.putfield 46, 3) := by decide +kernel
theorem dX7_init_81 : decode cX7_init 81 = .ok (.aload_n 0, 1) := by decide +kernel
theorem dX7_init_82 : decode cX7_init 82 = .ok (.iconst 0, 1) := by decide +kernel
theorem dX7_init_83 : decode cX7_init 83 = .ok (.putfield 50, 3) := by decide +kernel
theorem dX7_init_86 : decode cX7_init 86 = .ok (.aload_n 0, 1) := by decide +kernel
theorem dX7_init_87 : decode cX7_init 87 = .ok (.iconst (-1), 1) := by decide +kernel
theorem dX7_init_88 : decode cX7_init 88 = .ok (.putfield 54, 3) := by decide +kernel
theorem dX7_init_91 : decode cX7_init 91 = .ok (.aload_n 0, 1) := by decide +kernel
theorem dX7_init_92 : decode cX7_init 92 = .ok (.iconst (-1), 1) := by decide +kernel
theorem dX7_init_93 : decode cX7_init 93 = .ok (.putfield 58, 3) := by decide +kernel
theorem dX7_init_96 : decode cX7_init 96 = .ok (.return_, 1) := by decide +kernel
set_option maxRecDepth 20000 in
theorem ggX7_addPlayer_X7_change : GoodIn wsX7_addPlayer wsX7_change := goodIn_ca (goodIn_ca (goodIn_ca (goodIn_ca (goodIn_ca (goodIn_ca (goodIn_r _ [6, 7, 8, 9, 10, 11, 12, 13, 14, 15, 16, 17, 18, 19, 20, 21, 22, 23, 24, 25, 26, 27, 28, 29, 30, 31, 32, 33, 34, 35, 36, 37, 38, 39, 40, 41, 42, 43, 44, 45, 46, 47, 48, 49, 50, 51, 52, 53, 54, 55, 56, 57, 58, 59, 60, 61, 62, 63, 64, 65, 66, 67, 68, 69, 70, 71, 72, 73, 74, 75, 76, 77, 78, 79, 80, 81, 82, 83, 84, 85, 86, 87, 88, 89, 90, 91, 92, 93, 94, 95, 96, 97, 98, 99, 100, 101, 102, 103, 104, 105, 106, 107, 108, 109, 110, 111, 112, 113, 114, 115, 116, 117, 118, 119, 120, 121, 122, 123, 124, 125, 126, 127, 128, 129, 130, 131, 132, 133, 134, 5, 135, 136, 137, 138, 139, 140, 141, 142, 143, 144, 145, 146, 147, 148, 149, 150, 151, 152, 153, 154, 155, 156, 157, 158, 159, 160, 161, 162, 163, 164, 165, 166, 167, 168, 169, 170, 171, 172, 173, 174, 175, 176, 177, 178, 179, 180, 181, 182, 183, 184, 185, 186, 187, 188, 189, 190, 191, 192, 193, 194, 195, 196, 197, 198, 199, 200, 201, 202, 203, 204, 205, 206, 207, 208, 209, 210, 211, 212, 213, 214, 215, 216, 217, 218, 219, 220, 221, 222, 223, 224, 225, 226, 227, 228, 229, 230, 231, 232, 233, 234, 235, 236, 237, 238, 239, 240, 241, 242, 243, 244, 245, 246, 247, 248, 249, 250, 251, 252, 253] (by decide +kernel) (by decide +kernel)) (goodIn_sub (fun _ h => List.mem_cons_of_mem _ (List.mem_append_left _ (List.mem_append_left _ (List.mem_append_left _ (List.mem_append_left _ (List.mem_append_left _ (List.mem_append_right _ h))))))) (by decide +kernel))) (goodIn_sub (fun _ h => List.mem_cons_of_mem _ (List.mem_append_left _ (List.mem_append_left _ (List.mem_append_left _ (List.mem_append_left _ (List.mem_append_right _ h)))))) (by decide +kernel))) (goodIn_sub (fun _ h => List.mem_cons_of_mem _ (List.mem_append_left _ (List.mem_append_left _ (List.mem_append_left _ (List.mem_append_right _ h))))) (by decide +kernel))) (goodIn_sub (fun _ h => List.mem_cons_of_mem _ (List.mem_append_left _ (List.mem_append_left _ (List.mem_append_right _ h)))) (by decide +kernel))) (goodIn_sub (fun _ h => List.mem_cons_of_mem _ (List.mem_append_left _ (List.mem_append_right _ h))) (by decide +kernel))) (goodIn_sub (fun _ h => List.mem_cons_of_mem _ (List.mem_append_right _ h)) (by decide +kernel))
set_option maxRecDepth 20000 in
theorem gX7_addPlayer_X7_change : GoodIn wsX7_addPlayer (wsV RX7 67 RX7 yX7_change wsX7_change) := goodIn_app (goodIn_of _ (by decide +kernel)) ggX7_addPlayer_X7_change
theorem dX7_addPlayer_0 : decode cX7_addPlayer 0 = .ok (.aload_n 0, 1) := by decide +kernel
theorem dX7_addPlayer_1 : decode cX7_addPlayer 1 = .ok (.getstatic 61, 3) := by decide +kernel
theorem dX7_addPlayer_4 : decode cX7_addPlayer 4 = .ok (.iload_n 1, 1) := by decide +kernel
theorem dX7_addPlayer_5 : decode cX7_addPlayer 5 = .ok (.iconst 0, 1) := by decide +kernel
theorem dX7_addPlayer_6 : decode cX7_addPlayer 6 = .ok (.iconst 0, 1) := by decide +kernel
theorem dX7_addPlayer_7 : decode cX7_addPlayer 7 = .ok (.invokevirtual 67, 3) := by decide +kernel
theorem dX7_addPlayer_10 : decode cX7_addPlayer 10 = .ok (.ireturn, 1) := by decide +kernel
set_option maxRecDepth 20000 in
theorem ggX7_addSite_X7_change : GoodIn wsX7_addSite wsX7_change := goodIn_ca (goodIn_ca (goodIn_ca (goodIn_ca (goodIn_ca (goodIn_ca (goodIn_r _ [6, 7, 8, 9, 10, 11, 12, 13, 14, 15, 16, 17, 18, 19, 20, 21, 22, 23, 24, 25, 26, 27, 28, 29, 30, 31, 32, 33, 34, 35, 36, 37, 38, 39, 40, 41, 42, 43, 44, 45, 46, 47, 48, 49, 50, 51, 52, 53, 54, 55, 56, 57, 58, 59, 60, 61, 62, 63, 64, 65, 66, 67, 68, 69, 70, 71, 72, 73, 74, 75, 76, 77, 78, 79, 80, 81, 82, 83, 84, 85, 86, 87, 88, 89, 90, 91, 92, 93, 94, 95, 96, 97, 98, 99, 100, 101, 102, 103, 104, 105, 106, 107, 108, 109, 110, 111, 112, 113, 114, 115, 116, 117, 118, 119, 120, 121, 122, 123, 124, 125, 126, 127, 128, 129, 130, 131, 132, 133, 134, 5, 135, 136, 137, 138, 139, 140, 141, 142, 143, 144, 145, 146, 147, 148, 149, 150, 151, 152, 153, 154, 155, 156, 157, 158, 159, 160, 161, 162, 163, 164, 165, 166, 167, 168, 169, 170, 171, 172, 173, 174, 175, 176, 177, 178, 179, 180, 181, 182, 183, 184, 185, 186, 187, 188, 189, 190, 191, 192, 193, 194, 195, 196, 197, 198, 199, 200, 201, 202, 203, 204, 205, 206, 207, 208, 209, 210, 211, 212, 213, 214, 215, 216, 217, 218, 219, 220, 221, 222, 223, 224, 225, 226, 227, 228, 229, 230, 231, 232, 233, 234, 235, 236, 237, 238, 239, 240, 241, 242, 243, 244, 245, 246, 247, 248, 249, 250, 251, 252, 253] (by decide +kernel) (by decide +kernel)) (goodIn_sub (fun _ h => List.mem_cons_of_mem _ (List.mem_append_left _ (List.mem_append_left _ (List.mem_append_left _ (List.mem_append_left _ (List.mem_append_left _ (List.mem_append_right _ h))))))) (by decide +kernel))) (goodIn_sub (fun _ h => List.mem_cons_of_mem _ (List.mem_append_left _ (List.mem_append_left _ (List.mem_append_left _ (List.mem_append_left _ (List.mem_append_right _ h)))))) (by decide +kernel))) (goodIn_sub (fun _ h => List.mem_cons_of_mem _ (List.mem_append_left _ (List.mem_append_left _ (List.mem_append_left _ (List.mem_append_right _ h))))) (by decide +kernel))) (goodIn_sub (fun _ h => List.mem_cons_of_mem _ (List.mem_append_left _ (List.mem_append_left _ (List.mem_append_right _ h)))) (by decide +kernel))) (goodIn_sub (fun _ h => List.mem_cons_of_mem _ (List.mem_append_left _ (List.mem_append_right _ h))) (by decide +kernel))) (goodIn_sub (fun _ h => List.mem_cons_of_mem _ (List.mem_append_right _ h)) (by decide +kernel))
set_option maxRecDepth 20000 in
theorem gX7_addSite_X7_change : GoodIn wsX7_addSite (wsV RX7 67 RX7 yX7_change wsX7_change) := goodIn_app (goodIn_of _ (by decide +kernel)) ggX7_addSite_X7_change
theorem dX7_addSite_0 : decode cX7_addSite 0 = .ok (.aload_n 0, 1) := by decide +kernel
theorem dX7_addSite_1 : decode cX7_addSite 1 = .ok (.getstatic 71, 3) := by decide +kernel
theorem dX7_addSite_4 : decode cX7_addSite 4 = .ok (.iload_n 1, 1) := by decide +kernel
theorem dX7_addSite_5 : decode cX7_addSite 5 = .ok (.iload_n 2, 1) := by decide +kernel
theorem dX7_addSite_6 : decode cX7_addSite 6 = .ok (.iload_n 3, 1) := by decide +kernel
theorem dX7_addSite_7 : decode cX7_addSite 7 = .ok (.invokevirtual 67, 3) := by decide +kernel
theorem dX7_addSite_10 : decode cX7_addSite 10 = .ok (.ireturn, 1) := by decide +kernel
set_option maxRecDepth 20000 in
theorem ggX7_setSuit_X7_change : GoodIn wsX7_setSuit wsX7_change := goodIn_ca (goodIn_ca (goodIn_ca (goodIn_ca (goodIn_ca (goodIn_ca (goodIn_r _ [6, 7, 8, 9, 10, 11, 12, 13, 14, 15, 16, 17, 18, 19, 20, 21, 22, 23, 24, 25, 26, 27, 28, 29, 30, 31, 32, 33, 34, 35, 36, 37, 38, 39, 40, 41, 42, 43, 44, 45, 46, 47, 48, 49, 50, 51, 52, 53, 54, 55, 56, 57, 58, 59, 60, 61, 62, 63, 64, 65, 66, 67, 68, 69, 70, 71, 72, 73, 74, 75, 76, 77, 78, 79, 80, 81, 82, 83, 84, 85, 86, 87, 88, 89, 90, 91, 92, 93, 94, 95, 96, 97, 98, 99, 100, 101, 102, 103, 104, 105, 106, 107, 108, 109, 110, 111, 112, 113, 114, 115, 116, 117, 118, 119, 120, 121, 122, 123, 124, 125, 126, 127, 128, 129, 130, 131, 132, 133, 134, 5, 135, 136, 137, 138, 139, 140, 141, 142, 143, 144, 145, 146, 147, 148, 149, 150, 151, 152, 153, 154, 155, 156, 157, 158, 159, 160, 161, 162, 163, 164, 165, 166, 167, 168, 169, 170, 171, 172, 173, 174, 175, 176, 177, 178, 179, 180, 181, 182, 183, 184, 185, 186, 187, 188, 189, 190, 191, 192, 193, 194, 195, 196, 197, 198, 199, 200, 201, 202, 203, 204, 205, 206, 207, 208, 209, 210, 211, 212, 213, 214, 215, 216, 217, 218, 219, 220, 221, 222, 223, 224, 225, 226, 227, 228, 229, 230, 231, 232, 233, 234, 235, 236, 237, 238, 239, 240, 241, 242, 243, 244, 245, 246, 247, 248, 249, 250, 251, 252, 253] (by decide +kernel) (by decide +kernel)) (goodIn_sub (fun _ h => List.mem_cons_of_mem _ (List.mem_append_left _ (List.mem_append_left _ (List.mem_append_left _ (List.mem_append_left _ (List.mem_append_left _ (List.mem_append_right _ h))))))) (by decide +kernel))) (goodIn_sub (fun _ h => List.mem_cons_of_mem _ (List.mem_append_left _ (List.mem_append_left _ (List.mem_append_left _ (List.mem_append_left _ (List.mem_append_right _ h)))))) (by decide +kernel))) (goodIn_sub (fun _ h => List.mem_cons_of_mem _ (List.mem_append_left _ (List.mem_append_left _ (List.mem_append_left _ (List.mem_append_right _ h))))) (by decide +kernel))) (goodIn_sub (fun _ h => List.mem_cons_of_mem _ (List.mem_append_left _ (List.mem_append_left _ (List.mem_append_right _ h)))) (by decide +kernel))) (goodIn_sub (fun _ h => List.mem_cons_of_mem _ (List.mem_append_left _ (List.mem_append_right _ h))) (by decide +kernel))) (goodIn_sub (fun _ h => List.mem_cons_of_mem _ (List.mem_append_right _ h)) (by decide +kernel))
set_option maxRecDepth 20000 in
theorem gX7_setSuit_X7_change : GoodIn wsX7_setSuit (wsV RX7 67 RX7 yX7_change wsX7_change) := goodIn_app (goodIn_of _ (by decide +kernel)) ggX7_setSuit_X7_change
theorem dX7_setSuit_0 : decode cX7_setSuit 0 = .ok (.aload_n 0, 1) := by decide +kernel
theorem dX7_setSuit_1 : decode cX7_setSuit 1 = .ok (.getstatic 74, 3) := by decide +kernel
theorem dX7_setSuit_4 : decode cX7_setSuit 4 = .ok (.iload_n 1, 1) := by decide +kernel
theorem dX7_setSuit_5 : decode cX7_setSuit 5 = .ok (.iload_n 2, 1) := by decide +kernel
theorem dX7_setSuit_6 : decode cX7_setSuit 6 = .ok (.iconst 0, 1) := by decide +kernel
theorem dX7_setSuit_7 : decode cX7_setSuit 7 = .ok (.invokevirtual 67, 3) := by decide +kernel
theorem dX7_setSuit_10 : decode cX7_setSuit 10 = .ok (.ireturn, 1) := by decide +kernel
set_option maxRecDepth 20000 in
theorem ggX7_setTide_X7_change : GoodIn wsX7_setTide wsX7_change := goodIn_ca (goodIn_ca (goodIn_ca (goodIn_ca (goodIn_ca (goodIn_ca (goodIn_r _ [6, 7, 8, 9, 10, 11, 12, 13, 14, 15, 16, 17, 18, 19, 20, 21, 22, 23, 24, 25, 26, 27, 28, 29, 30, 31, 32, 33, 34, 35, 36, 37, 38, 39, 40, 41, 42, 43, 44, 45, 46, 47, 48, 49, 50, 51, 52, 53, 54, 55, 56, 57, 58, 59, 60, 61, 62, 63, 64, 65, 66, 67, 68, 69, 70, 71, 72, 73, 74, 75, 76, 77, 78, 79, 80, 81, 82, 83, 84, 85, 86, 87, 88, 89, 90, 91, 92, 93, 94, 95, 96, 97, 98, 99, 100, 101, 102, 103, 104, 105, 106, 107, 108, 109, 110, 111, 112, 113, 114, 115, 116, 117, 118, 119, 120, 121, 122, 123, 124, 125, 126, 127, 128, 129, 130, 131, 132, 133, 134, 5, 135, 136, 137, 138, 139, 140, 141, 142, 143, 144, 145, 146, 147, 148, 149, 150, 151, 152, 153, 154, 155, 156, 157, 158, 159, 160, 161, 162, 163, 164, 165, 166, 167, 168, 169, 170, 171, 172, 173, 174, 175, 176, 177, 178, 179, 180, 181, 182, 183, 184, 185, 186, 187, 188, 189, 190, 191, 192, 193, 194, 195, 196, 197, 198, 199, 200, 201, 202, 203, 204, 205, 206, 207, 208, 209, 210, 211, 212, 213, 214, 215, 216, 217, 218, 219, 220, 221, 222, 223, 224, 225, 226, 227, 228, 229, 230, 231, 232, 233, 234, 235, 236, 237, 238, 239, 240, 241, 242, 243, 244, 245, 246, 247, 248, 249, 250, 251, 252, 253] (by decide +kernel) (by decide +kernel)) (goodIn_sub (fun _ h => List.mem_cons_of_mem _ (List.mem_append_left _ (List.mem_append_left _ (List.mem_append_left _ (List.mem_append_left _ (List.mem_append_left _ (List.mem_append_right _ h))))))) (by decide +kernel))) (goodIn_sub (fun _ h => List.mem_cons_of_mem _ (List.mem_append_left _ (List.mem_append_left _ (List.mem_append_left _ (List.mem_append_left _ (List.mem_append_right _ h)))))) (by decide +kernel))) (goodIn_sub (fun _ h => List.mem_cons_of_mem _ (List.mem_append_left _ (List.mem_append_left _ (List.mem_append_left _ (List.mem_append_right _ h))))) (by decide +kernel))) (goodIn_sub (fun _ h => List.mem_cons_of_mem _ (List.mem_append_left _ (List.mem_append_left _ (List.mem_append_right _ h)))) (by decide +kernel))) (goodIn_sub (fun _ h => List.mem_cons_of_mem _ (List.mem_append_left _ (List.mem_append_right _ h))) (by decide +kernel))) (goodIn_sub (fun _ h => List.mem_cons_of_mem _ (List.mem_append_right _ h)) (by decide +kernel))
set_option maxRecDepth 20000 in
theorem gX7_setTide_X7_change : GoodIn wsX7_setTide (wsV RX7 67 RX7 yX7_change wsX7_change) := goodIn_app (goodIn_of _ (by decide +kernel)) ggX7_setTide_X7_change
theorem dX7_setTide_0 : decode cX7_setTide 0 = .ok (.aload_n 0, 1) := by decide +kernel
theorem dX7_setTide_1 : decode cX7_setTide 1 = .ok (.getstatic 77, 3) := by decide +kernel
theorem dX7_setTide_4 : decode cX7_setTide 4 = .ok (.iload_n 1, 1) := by decide +kernel
theorem dX7_setTide_5 : decode cX7_setTide 5 = .ok (.iconst 0, 1) := by decide +kernel
theorem dX7_setTide_6 : decode cX7_setTide 6 = .ok (.iconst 0, 1) := by decide +kernel
theorem dX7_setTide_7 : decode cX7_setTide 7 = .ok (.invokevirtual 67, 3) := by decide +kernel
theorem dX7_setTide_10 : decode cX7_setTide 10 = .ok (.ireturn, 1) := by decide +kernel
set_option maxRecDepth 20000 in
theorem ggX7_placeBid_X7_change : GoodIn wsX7_placeBid wsX7_change := goodIn_ca (goodIn_ca (goodIn_ca (goodIn_ca (goodIn_ca (goodIn_ca (goodIn_r _ [6, 7, 8, 9, 10, 11, 12, 13, 14, 15, 16, 17, 18, 19, 20, 21, 22, 23, 24, 25, 26, 27, 28, 29, 30, 31, 32, 33, 34, 35, 36, 37, 38, 39, 40, 41, 42, 43, 44, 45, 46, 47, 48, 49, 50, 51, 52, 53, 54, 55, 56, 57, 58, 59, 60, 61, 62, 63, 64, 65, 66, 67, 68, 69, 70, 71, 72, 73, 74, 75, 76, 77, 78, 79, 80, 81, 82, 83, 84, 85, 86, 87, 88, 89, 90, 91, 92, 93, 94, 95, 96, 97, 98, 99, 100, 101, 102, 103, 104, 105, 106, 107, 108, 109, 110, 111, 112, 113, 114, 115, 116, 117, 118, 119, 120, 121, 122, 123, 124, 125, 126, 127, 128, 129, 130, 131, 132, 133, 134, 5, 135, 136, 137, 138, 139, 140, 141, 142, 143, 144, 145, 146, 147, 148, 149, 150, 151, 152, 153, 154, 155, 156, 157, 158, 159, 160, 161, 162, 163, 164, 165, 166, 167, 168, 169, 170, 171, 172, 173, 174, 175, 176, 177, 178, 179, 180, 181, 182, 183, 184, 185, 186, 187, 188, 189, 190, 191, 192, 193, 194, 195, 196, 197, 198, 199, 200, 201, 202, 203, 204, 205, 206, 207, 208, 209, 210, 211, 212, 213, 214, 215, 216, 217, 218, 219, 220, 221, 222, 223, 224, 225, 226, 227, 228, 229, 230, 231, 232, 233, 234, 235, 236, 237, 238, 239, 240, 241, 242, 243, 244, 245, 246, 247, 248, 249, 250, 251, 252, 253] (by decide +kernel) (by decide +kernel)) (goodIn_sub (fun _ h => List.mem_cons_of_mem _ (List.mem_append_left _ (List.mem_append_left _ (List.mem_append_left _ (List.mem_append_left _ (List.mem_append_left _ (List.mem_append_right _ h))))))) (by decide +kernel))) (goodIn_sub (fun _ h => List.mem_cons_of_mem _ (List.mem_append_left _ (List.mem_append_left _ (List.mem_append_left _ (List.mem_append_left _ (List.mem_append_right _ h)))))) (by decide +kernel))) (goodIn_sub (fun _ h => List.mem_cons_of_mem _ (List.mem_append_left _ (List.mem_append_left _ (List.mem_append_left _ (List.mem_append_right _ h))))) (by decide +kernel))) (goodIn_sub (fun _ h => List.mem_cons_of_mem _ (List.mem_append_left _ (List.mem_append_left _ (List.mem_append_right _ h)))) (by decide +kernel))) (goodIn_sub (fun _ h => List.mem_cons_of_mem _ (List.mem_append_left _ (List.mem_append_right _ h))) (by decide +kernel))) (goodIn_sub (fun _ h => List.mem_cons_of_mem _ (List.mem_append_right _ h)) (by decide +kernel))
set_option maxRecDepth 20000 in
theorem gX7_placeBid_X7_change : GoodIn wsX7_placeBid (wsV RX7 67 RX7 yX7_change wsX7_change) := goodIn_app (goodIn_of _ (by decide +kernel)) ggX7_placeBid_X7_change
theorem dX7_placeBid_0 : decode cX7_placeBid 0 = .ok (.aload_n 0, 1) := by decide +kernel
theorem dX7_placeBid_1 : decode cX7_placeBid 1 = .ok (.getstatic 80, 3) := by decide +kernel
theorem dX7_placeBid_4 : decode cX7_placeBid 4 = .ok (.iload_n 1, 1) := by decide +kernel
theorem dX7_placeBid_5 : decode cX7_placeBid 5 = .ok (.iload_n 2, 1) := by decide +kernel
theorem dX7_placeBid_6 : decode cX7_placeBid 6 = .ok (.iload_n 3, 1) := by decide +kernel
theorem dX7_placeBid_7 : decode cX7_placeBid 7 = .ok (.invokevirtual 67, 3) := by decide +kernel
theorem dX7_placeBid_10 : decode cX7_placeBid 10 = .ok (.ireturn, 1) := by decide +kernel
set_option maxRecDepth 20000 in
theorem ggX7_placeBluff_X7_change : GoodIn wsX7_placeBluff wsX7_change := goodIn_ca (goodIn_ca (goodIn_ca (goodIn_ca (goodIn_ca (goodIn_ca (goodIn_r _ [6, 7, 8, 9, 10, 11, 12, 13, 14, 15, 16, 17, 18, 19, 20, 21, 22, 23, 24, 25, 26, 27, 28, 29, 30, 31, 32, 33, 34, 35, 36, 37, 38, 39, 40, 41, 42, 43, 44, 45, 46, 47, 48, 49, 50, 51, 52, 53, 54, 55, 56, 57, 58, 59, 60, 61, 62, 63, 64, 65, 66, 67, 68, 69, 70, 71, 72, 73, 74, 75, 76, 77, 78, 79, 80, 81, 82, 83, 84, 85, 86, 87, 88, 89, 90, 91, 92, 93, 94, 95, 96, 97, 98, 99, 100, 101, 102, 103, 104, 105, 106, 107, 108, 109, 110, 111, 112, 113, 114, 115, 116, 117, 118, 119, 120, 121, 122, 123, 124, 125, 126, 127, 128, 129, 130, 131, 132, 133, 134, 5, 135, 136, 137, 138, 139, 140, 141, 142, 143, 144, 145, 146, 147, 148, 149, 150, 151, 152, 153, 154, 155, 156, 157, 158, 159, 160, 161, 162, 163, 164, 165, 166, 167, 168, 169, 170, 171, 172, 173, 174, 175, 176, 177, 178, 179, 180, 181, 182, 183, 184, 185, 186, 187, 188, 189, 190, 191, 192, 193, 194, 195, 196, 197, 198, 199, 200, 201, 202, 203, 204, 205, 206, 207, 208, 209, 210, 211, 212, 213, 214, 215, 216, 217, 218, 219, 220, 221, 222, 223, 224, 225, 226, 227, 228, 229, 230, 231, 232, 233, 234, 235, 236, 237, 238, 239, 240, 241, 242, 243, 244, 245, 246, 247, 248, 249, 250, 251, 252, 253] (by decide +kernel) (by decide +kernel)) (goodIn_sub (fun _ h => List.mem_cons_of_mem _ (List.mem_append_left _ (List.mem_append_left _ (List.mem_append_left _ (List.mem_append_left _ (List.mem_append_left _ (List.mem_append_right _ h))))))) (by decide +kernel))) (goodIn_sub (fun _ h => List.mem_cons_of_mem _ (List.mem_append_left _ (List.mem_append_left _ (List.mem_append_left _ (List.mem_append_left _ (List.mem_append_right _ h)))))) (by decide +kernel))) (goodIn_sub (fun _ h => List.mem_cons_of_mem _ (List.mem_append_left _ (List.mem_append_left _ (List.mem_append_left _ (List.mem_append_right _ h))))) (by decide +kernel))) (goodIn_sub (fun _ h => List.mem_cons_of_mem _ (List.mem_append_left _ (List.mem_append_left _ (List.mem_append_right _ h)))) (by decide +kernel))) (goodIn_sub (fun _ h => List.mem_cons_of_mem _ (List.mem_append_left _ (List.mem_append_right _ h))) (by decide +kernel))) (goodIn_sub (fun _ h => List.mem_cons_of_mem _ (List.mem_append_right _ h)) (by decide +kernel))
set_option maxRecDepth 20000 in
theorem gX7_placeBluff_X7_change : GoodIn wsX7_placeBluff (wsV RX7 67 RX7 yX7_change wsX7_change) := goodIn_app (goodIn_of _ (by decide +kernel)) ggX7_placeBluff_X7_change
theorem dX7_placeBluff_0 : decode cX7_placeBluff 0 = .ok (.aload_n 0, 1) := by decide +kernel
theorem dX7_placeBluff_1 : decode cX7_placeBluff 1 = .ok (.getstatic 83, 3) := by decide +kernel
theorem dX7_placeBluff_4 : decode cX7_placeBluff 4 = .ok (.iload_n 1, 1) := by decide +kernel
theorem dX7_placeBluff_5 : decode cX7_placeBluff 5 = .ok (.iload_n 2, 1) := by decide +kernel
theorem dX7_placeBluff_6 : decode cX7_placeBluff 6 = .ok (.iload_n 3, 1) := by decide +kernel
theorem dX7_placeBluff_7 : decode cX7_placeBluff 7 = .ok (.invokevirtual 67, 3) := by decide +kernel
theorem dX7_placeBluff_10 : decode cX7_placeBluff 10 = .ok (.ireturn, 1) := by decide +kernel
set_option maxRecDepth 20000 in
theorem ggX7_withdrawBid_X7_change : GoodIn wsX7_withdrawBid wsX7_change := goodIn_ca (goodIn_ca (goodIn_ca (goodIn_ca (goodIn_ca (goodIn_ca (goodIn_r _ [6, 7, 8, 9, 10, 11, 12, 13, 14, 15, 16, 17, 18, 19, 20, 21, 22, 23, 24, 25, 26, 27, 28, 29, 30, 31, 32, 33, 34, 35, 36, 37, 38, 39, 40, 41, 42, 43, 44, 45, 46, 47, 48, 49, 50, 51, 52, 53, 54, 55, 56, 57, 58, 59, 60, 61, 62, 63, 64, 65, 66, 67, 68, 69, 70, 71, 72, 73, 74, 75, 76, 77, 78, 79, 80, 81, 82, 83, 84, 85, 86, 87, 88, 89, 90, 91, 92, 93, 94, 95, 96, 97, 98, 99, 100, 101, 102, 103, 104, 105, 106, 107, 108, 109, 110, 111, 112, 113, 114, 115, 116, 117, 118, 119, 120, 121, 122, 123, 124, 125, 126, 127, 128, 129, 130, 131, 132, 133, 134, 5, 135, 136, 137, 138, 139, 140, 141, 142, 143, 144, 145, 146, 147, 148, 149, 150, 151, 152, 153, 154, 155, 156, 157, 158, 159, 160, 161, 162, 163, 164, 165, 166, 167, 168, 169, 170, 171, 172, 173, 174, 175, 176, 177, 178, 179, 180, 181, 182, 183, 184, 185, 186, 187, 188, 189, 190, 191, 192, 193, 194, 195, 196, 197, 198, 199, 200, 201, 202, 203, 204, 205, 206, 207, 208, 209, 210, 211, 212, 213, 214, 215, 216, 217, 218, 219, 220, 221, 222, 223, 224, 225, 226, 227, 228, 229, 230, 231, 232, 233, 234, 235, 236, 237, 238, 239, 240, 241, 242, 243, 244, 245, 246, 247, 248, 249, 250, 251, 252, 253] (by decide +kernel) (by decide +kernel)) (goodIn_sub (fun _ h => List.mem_cons_of_mem _ (List.mem_append_left _ (List.mem_append_left _ (List.mem_append_left _ (List.mem_append_left _ (List.mem_append_left _ (List.mem_append_right _ h))))))) (by decide +kernel))) (goodIn_sub (fun _ h => List.mem_cons_of_mem _ (List.mem_append_left _ (List.mem_append_left _ (List.mem_append_left _ (List.mem_append_left _ (List.mem_append_right _ h)))))) (by decide +kernel))) (goodIn_sub (fun _ h => List.mem_cons_of_mem _ (List.mem_append_left _ (List.mem_append_left _ (List.mem_append_left _ (List.mem_append_right _ h))))) (by decide +kernel))) (goodIn_sub (fun _ h => List.mem_cons_of_mem _ (List.mem_append_left _ (List.mem_append_left _ (List.mem_append_right _ h)))) (by decide +kernel))) (goodIn_sub (fun _ h => List.mem_cons_of_mem _ (List.mem_append_left _ (List.mem_append_right _ h))) (by decide +kernel))) (goodIn_sub (fun _ h => List.mem_cons_of_mem _ (List.mem_append_right _ h)) (by decide +kernel))
set_option maxRecDepth 20000 in
theorem gX7_withdrawBid_X7_change : GoodIn wsX7_withdrawBid (wsV RX7 67 RX7 yX7_change wsX7_change) := goodIn_app (goodIn_of _ (by decide +kernel)) ggX7_withdrawBid_X7_change
theorem dX7_withdrawBid_0 : decode cX7_withdrawBid 0 = .ok (.aload_n 0, 1) := by decide +kernel
theorem dX7_withdrawBid_1 : decode cX7_withdrawBid 1 = .ok (.getstatic 86, 3) := by decide +kernel
theorem dX7_withdrawBid_4 : decode cX7_withdrawBid 4 = .ok (.iload_n 1, 1) := by decide +kernel
theorem dX7_withdrawBid_5 : decode cX7_withdrawBid 5 = .ok (.iload_n 2, 1) := by decide +kernel
theorem dX7_withdrawBid_6 : decode cX7_withdrawBid 6 = .ok (.iconst 0, 1) := by decide +kernel
theorem dX7_withdrawBid_7 : decode cX7_withdrawBid 7 = .ok (.invokevirtual 67, 3) := by decide +kernel
theorem dX7_withdrawBid_10 : decode cX7_withdrawBid 10 = .ok (.ireturn, 1) := by decide +kernel
set_option maxRecDepth 20000 in
theorem ggX7_playFerry_X7_change : GoodIn wsX7_playFerry wsX7_change := goodIn_ca (goodIn_ca (goodIn_ca (goodIn_ca (goodIn_ca (goodIn_ca (goodIn_r _ [6, 7, 8, 9, 10, 11, 12, 13, 14, 15, 16, 17, 18, 19, 20, 21, 22, 23, 24, 25, 26, 27, 28, 29, 30, 31, 32, 33, 34, 35, 36, 37, 38, 39, 40, 41, 42, 43, 44, 45, 46, 47, 48, 49, 50, 51, 52, 53, 54, 55, 56, 57, 58, 59, 60, 61, 62, 63, 64, 65, 66, 67, 68, 69, 70, 71, 72, 73, 74, 75, 76, 77, 78, 79, 80, 81, 82, 83, 84, 85, 86, 87, 88, 89, 90, 91, 92, 93, 94, 95, 96, 97, 98, 99, 100, 101, 102, 103, 104, 105, 106, 107, 108, 109, 110, 111, 112, 113, 114, 115, 116, 117, 118, 119, 120, 121, 122, 123, 124, 125, 126, 127, 128, 129, 130, 131, 132, 133, 134, 5, 135, 136, 137, 138, 139, 140, 141, 142, 143, 144, 145, 146, 147, 148, 149, 150, 151, 152, 153, 154, 155, 156, 157, 158, 159, 160, 161, 162, 163, 164, 165, 166, 167, 168, 169, 170, 171, 172, 173, 174, 175, 176, 177, 178, 179, 180, 181, 182, 183, 184, 185, 186, 187, 188, 189, 190, 191, 192, 193, 194, 195, 196, 197, 198, 199, 200, 201, 202, 203, 204, 205, 206, 207, 208, 209, 210, 211, 212, 213, 214, 215, 216, 217, 218, 219, 220, 221, 222, 223, 224, 225, 226, 227, 228, 229, 230, 231, 232, 233, 234, 235, 236, 237, 238, 239, 240, 241, 242, 243, 244, 245, 246, 247, 248, 249, 250, 251, 252, 253] (by decide +kernel) (by decide +kernel)) (goodIn_sub (fun _ h => List.mem_cons_of_mem _ (List.mem_append_left _ (List.mem_append_left _ (List.mem_append_left _ (List.mem_append_left _ (List.mem_append_left _ (List.mem_append_right _ h))))))) (by decide +kernel))) (goodIn_sub (fun _ h => List.mem_cons_of_mem _ (List.mem_append_left _ (List.mem_append_left _ (List.mem_append_left _ (List.mem_append_left _ (List.mem_append_right _ h)))))) (by decide +kernel))) (goodIn_sub (fun _ h => List.mem_cons_of_mem _ (List.mem_append_left _ (List.mem_append_left _ (List.mem_append_left _ (List.mem_append_right _ h))))) (by decide +kernel))) (goodIn_sub (fun _ h => List.mem_cons_of_mem _ (List.mem_append_left _ (List.mem_append_left _ (List.mem_append_right _ h)))) (by decide +kernel))) (goodIn_sub (fun _ h => List.mem_cons_of_mem _ (List.mem_append_left _ (List.mem_append_right _ h))) (by decide +kernel))) (goodIn_sub (fun _ h => List.mem_cons_of_mem _ (List.mem_append_right _ h)) (by decide +kernel))
set_option maxRecDepth 20000 in
theorem gX7_playFerry_X7_change : GoodIn wsX7_playFerry (wsV RX7 67 RX7 yX7_change wsX7_change) := goodIn_app (goodIn_of _ (by decide +kernel)) ggX7_playFerry_X7_change
theorem dX7_playFerry_0 : decode cX7_playFerry 0 = .ok (.aload_n 0, 1) := by decide +kernel
theorem dX7_playFerry_1 : decode cX7_playFerry 1 = .ok (.getstatic 89, 3) := by decide +kernel
theorem dX7_playFerry_4 : decode cX7_playFerry 4 = .ok (.iload_n 1, 1) := by decide +kernel
theorem dX7_playFerry_5 : decode cX7_playFerry 5 = .ok (.iload_n 2, 1) := by decide +kernel
theorem dX7_playFerry_6 : decode cX7_playFerry 6 = .ok (.iconst 0, 1) := by decide +kernel
theorem dX7_playFerry_7 : decode cX7_playFerry 7 = .ok (.invokevirtual 67, 3) := by decide +kernel
theorem dX7_playFerry_10 : decode cX7_playFerry 10 = .ok (.ireturn, 1) := by decide +kernel
set_option maxRecDepth 20000 in
theorem ggX7_settle_X7_change : GoodIn wsX7_settle wsX7_change := goodIn_ca (goodIn_ca (goodIn_ca (goodIn_ca (goodIn_ca (goodIn_ca (goodIn_r _ [6, 7, 8, 9, 10, 11, 12, 13, 14, 15, 16, 17, 18, 19, 20, 21, 22, 23, 24, 25, 26, 27, 28, 29, 30, 31, 32, 33, 34, 35, 36, 37, 38, 39, 40, 41, 42, 43, 44, 45, 46, 47, 48, 49, 50, 51, 52, 53, 54, 55, 56, 57, 58, 59, 60, 61, 62, 63, 64, 65, 66, 67, 68, 69, 70, 71, 72, 73, 74, 75, 76, 77, 78, 79, 80, 81, 82, 83, 84, 85, 86, 87, 88, 89, 90, 91, 92, 93, 94, 95, 96, 97, 98, 99, 100, 101, 102, 103, 104, 105, 106, 107, 108, 109, 110, 111, 112, 113, 114, 115, 116, 117, 118, 119, 120, 121, 122, 123, 124, 125, 126, 127, 128, 129, 130, 131, 132, 133, 134, 5, 135, 136, 137, 138, 139, 140, 141, 142, 143, 144, 145, 146, 147, 148, 149, 150, 151, 152, 153, 154, 155, 156, 157, 158, 159, 160, 161, 162, 163, 164, 165, 166, 167, 168, 169, 170, 171, 172, 173, 174, 175, 176, 177, 178, 179, 180, 181, 182, 183, 184, 185, 186, 187, 188, 189, 190, 191, 192, 193, 194, 195, 196, 197, 198, 199, 200, 201, 202, 203, 204, 205, 206, 207, 208, 209, 210, 211, 212, 213, 214, 215, 216, 217, 218, 219, 220, 221, 222, 223, 224, 225, 226, 227, 228, 229, 230, 231, 232, 233, 234, 235, 236, 237, 238, 239, 240, 241, 242, 243, 244, 245, 246, 247, 248, 249, 250, 251, 252, 253] (by decide +kernel) (by decide +kernel)) (goodIn_sub (fun _ h => List.mem_cons_of_mem _ (List.mem_append_left _ (List.mem_append_left _ (List.mem_append_left _ (List.mem_append_left _ (List.mem_append_left _ (List.mem_append_right _ h))))))) (by decide +kernel))) (goodIn_sub (fun _ h => List.mem_cons_of_mem _ (List.mem_append_left _ (List.mem_append_left _ (List.mem_append_left _ (List.mem_append_left _ (List.mem_append_right _ h)))))) (by decide +kernel))) (goodIn_sub (fun _ h => List.mem_cons_of_mem _ (List.mem_append_left _ (List.mem_append_left _ (List.mem_append_left _ (List.mem_append_right _ h))))) (by decide +kernel))) (goodIn_sub (fun _ h => List.mem_cons_of_mem _ (List.mem_append_left _ (List.mem_append_left _ (List.mem_append_right _ h)))) (by decide +kernel))) (goodIn_sub (fun _ h => List.mem_cons_of_mem _ (List.mem_append_left _ (List.mem_append_right _ h))) (by decide +kernel))) (goodIn_sub (fun _ h => List.mem_cons_of_mem _ (List.mem_append_right _ h)) (by decide +kernel))
set_option maxRecDepth 20000 in
theorem gX7_settle_X7_change : GoodIn wsX7_settle (wsV RX7 67 RX7 yX7_change wsX7_change) := goodIn_app (goodIn_of _ (by decide +kernel)) ggX7_settle_X7_change
theorem dX7_settle_0 : decode cX7_settle 0 = .ok (.aload_n 0, 1) := by decide +kernel
theorem dX7_settle_1 : decode cX7_settle 1 = .ok (.getstatic 92, 3) := by decide +kernel
theorem dX7_settle_4 : decode cX7_settle 4 = .ok (.iload_n 1, 1) := by decide +kernel
theorem dX7_settle_5 : decode cX7_settle 5 = .ok (.iconst 0, 1) := by decide +kernel
theorem dX7_settle_6 : decode cX7_settle 6 = .ok (.iconst 0, 1) := by decide +kernel
theorem dX7_settle_7 : decode cX7_settle 7 = .ok (.invokevirtual 67, 3) := by decide +kernel
theorem dX7_settle_10 : decode cX7_settle 10 = .ok (.iconst 1, 1) := by decide +kernel
theorem dX7_settle_11 : decode cX7_settle 11 = .ok (.if_icmp .ne 7, 3) := by decide +kernel
theorem dX7_settle_14 : decode cX7_settle 14 = .ok (.iconst 1, 1) := by decide +kernel
theorem dX7_settle_15 : decode cX7_settle 15 = .ok (.goto 4, 3) := by decide +kernel
theorem dX7_settle_18 : decode cX7_settle 18 = .ok (.iconst 0, 1) := by decide +kernel
theorem dX7_settle_19 : decode cX7_settle 19 = .ok (.ireturn, 1) := by decide +kernel
set_option maxRecDepth 20000 in
theorem ggX7_suit_X7_requireIsland : GoodIn wsX7_suit wsX7_requireIsland := goodIn_ca (goodIn_r _ [5, 6, 7, 8, 9, 10, 11] (by decide +kernel) (by decide +kernel)) (goodIn_sub (fun _ h => List.mem_cons_of_mem _ (List.mem_append_right _ h)) (by decide +kernel))
set_option maxRecDepth 20000 in
theorem gX7_suit_X7_requireIsland : GoodIn wsX7_suit (va_wsS RX7 95 yX7_requireIsland wsX7_requireIsland) := goodIn_app (goodIn_of _ (by decide +kernel)) ggX7_suit_X7_requireIsland
theorem dX7_suit_0 : decode cX7_suit 0 = .ok (.iload_n 1, 1) := by decide +kernel
theorem dX7_suit_1 : decode cX7_suit 1 = .ok (.invokestatic 95, 3) := by decide +kernel
theorem dX7_suit_4 : decode cX7_suit 4 = .ok (.aload_n 0, 1) := by decide +kernel
theorem dX7_suit_5 : decode cX7_suit 5 = .ok (.getfield 10, 3) := by decide +kernel
theorem dX7_suit_8 : decode cX7_suit 8 = .ok (.getfield 99, 3) := by decide +kernel
theorem dX7_suit_11 : decode cX7_suit 11 = .ok (.iload_n 1, 1) := by decide +kernel
theorem dX7_suit_12 : decode cX7_suit 12 = .ok (.iaload, 1) := by decide +kernel
theorem dX7_suit_13 : decode cX7_suit 13 = .ok (.ireturn, 1) := by decide +kernel
theorem dX7_tide_0 : decode cX7_tide 0 = .ok (.aload_n 0, 1) := by decide +kernel
theorem dX7_tide_1 : decode cX7_tide 1 = .ok (.getfield 10, 3) := by decide +kernel
theorem dX7_tide_4 : decode cX7_tide 4 = .ok (.getfield 103, 3) := by decide +kernel
theorem dX7_tide_7 : decode cX7_tide 7 = .ok (.ireturn, 1) := by decide +kernel
theorem dX7_playerCount_0 : decode cX7_playerCount 0 = .ok (.aload_n 0, 1) := by decide +kernel
theorem dX7_playerCount_1 : decode cX7_playerCount 1 = .ok (.getfield 10, 3) := by decide +kernel
theorem dX7_playerCount_4 : decode cX7_playerCount 4 = .ok (.getfield 106, 3) := by decide +kernel
theorem dX7_playerCount_7 : decode cX7_playerCount 7 = .ok (.ireturn, 1) := by decide +kernel
set_option maxRecDepth 20000 in
theorem ggX7_money_X7_requirePlayer : GoodIn wsX7_money wsX7_requirePlayer := goodIn_ca (goodIn_r _ [6, 7, 8, 1, 9, 10, 11, 12, 13, 14, 15, 16, 17, 18, 19, 20, 21, 22, 23, 24, 25, 26, 27, 28, 29, 30, 31, 32, 33, 34, 35, 36, 37, 38, 39, 40] (by decide +kernel) (by decide +kernel)) (goodIn_sub (fun _ h => List.mem_cons_of_mem _ (List.mem_append_right _ h)) (by decide +kernel))
set_option maxRecDepth 20000 in
theorem gX7_money_X7_requirePlayer : GoodIn wsX7_money (wsV RX7 109 RX7 yX7_requirePlayer wsX7_requirePlayer) := goodIn_app (goodIn_of _ (by decide +kernel)) ggX7_money_X7_requirePlayer
theorem dX7_money_0 : decode cX7_money 0 = .ok (.aload_n 0, 1) := by decide +kernel
theorem dX7_money_1 : decode cX7_money 1 = .ok (.iload_n 1, 1) := by decide +kernel
theorem dX7_money_2 : decode cX7_money 2 = .ok (.invokevirtual 109, 3) := by decide +kernel
theorem dX7_money_5 : decode cX7_money 5 = .ok (.aload_n 0, 1) := by decide +kernel
theorem dX7_money_6 : decode cX7_money 6 = .ok (.getfield 10, 3) := by decide +kernel
theorem dX7_money_9 : decode cX7_money 9 = .ok (.getfield 112, 3) := by decide +kernel
theorem dX7_money_12 : decode cX7_money 12 = .ok (.iload_n 1, 1) := by decide +kernel
theorem dX7_money_13 : decode cX7_money 13 = .ok (.iaload, 1) := by decide +kernel
theorem dX7_money_14 : decode cX7_money 14 = .ok (.ireturn, 1) := by decide +kernel
set_option maxRecDepth 20000 in
theorem ggX7_availableMoney_X7_requirePlayer : GoodIn wsX7_availableMoney wsX7_requirePlayer := goodIn_ca (goodIn_r _ [6, 7, 8, 1, 9, 10, 11, 12, 13, 14, 33, 34, 35, 36, 37, 38, 39, 40, 41, 42, 43, 44, 45, 46, 47, 48, 49, 50, 51, 52, 53, 54, 55, 56, 57, 58] (by decide +kernel) (by decide +kernel)) (goodIn_sub (fun _ h => List.mem_cons_of_mem _ (List.mem_append_left _ (List.mem_append_right _ h))) (by decide +kernel))
set_option maxRecDepth 20000 in
theorem gX7_availableMoney_X7_requirePlayer : GoodIn wsX7_availableMoney (wsV RX7 109 RX7 yX7_requirePlayer wsX7_requirePlayer) := goodIn_app (goodIn_of _ (by decide +kernel)) ggX7_availableMoney_X7_requirePlayer
set_option maxRecDepth 20000 in
theorem ggX7_availableMoney_X1_availableTo : GoodIn wsX7_availableMoney wsX1_availableTo := goodIn_ca (goodIn_r _ [18, 19, 20, 21, 22, 23, 12, 24, 25, 26, 27, 28, 29, 30, 31, 32, 43, 44, 45, 46, 47, 48, 49, 50, 51, 52, 53, 54, 55, 56, 57, 58] (by decide +kernel) (by decide +kernel)) (goodIn_sub (fun _ h => List.mem_cons_of_mem _ (List.mem_append_right _ h)) (by decide +kernel))
set_option maxRecDepth 20000 in
theorem gX7_availableMoney_X1_availableTo : GoodIn wsX7_availableMoney (wsV RX7 115 RX1 yX1_availableTo wsX1_availableTo) := goodIn_app (goodIn_of _ (by decide +kernel)) ggX7_availableMoney_X1_availableTo
theorem dX7_availableMoney_0 : decode cX7_availableMoney 0 = .ok (.aload_n 0, 1) := by decide +kernel
theorem dX7_availableMoney_1 : decode cX7_availableMoney 1 = .ok (.iload_n 1, 1) := by decide +kernel
theorem dX7_availableMoney_2 : decode cX7_availableMoney 2 = .ok (.invokevirtual 109, 3) := by decide +kernel
theorem dX7_availableMoney_5 : decode cX7_availableMoney 5 = .ok (.aload_n 0, 1) := by decide +kernel
theorem dX7_availableMoney_6 : decode cX7_availableMoney 6 = .ok (.getfield 10, 3) := by decide +kernel
theorem dX7_availableMoney_9 : decode cX7_availableMoney 9 = .ok (.iload_n 1, 1) := by decide +kernel
theorem dX7_availableMoney_10 : decode cX7_availableMoney 10 = .ok (.invokevirtual 115, 3) := by decide +kernel
theorem dX7_availableMoney_13 : decode cX7_availableMoney 13 = .ok (.ireturn, 1) := by decide +kernel
set_option maxRecDepth 20000 in
theorem ggX7_bridgeCount_X7_requirePlayer : GoodIn wsX7_bridgeCount wsX7_requirePlayer := goodIn_ca (goodIn_r _ [6, 7, 8, 1, 9, 10, 11, 12, 13, 14, 21, 22, 23, 24, 25, 26, 27, 28, 29, 30, 31, 32, 33, 34, 35, 36, 37, 38, 39, 40, 41, 42, 43, 44, 45, 46] (by decide +kernel) (by decide +kernel)) (goodIn_sub (fun _ h => List.mem_cons_of_mem _ (List.mem_append_left _ (List.mem_append_right _ h))) (by decide +kernel))
set_option maxRecDepth 20000 in
theorem gX7_bridgeCount_X7_requirePlayer : GoodIn wsX7_bridgeCount (wsV RX7 109 RX7 yX7_requirePlayer wsX7_requirePlayer) := goodIn_app (goodIn_of _ (by decide +kernel)) ggX7_bridgeCount_X7_requirePlayer
set_option maxRecDepth 20000 in
theorem ggX7_bridgeCount_X1_bridgesOf : GoodIn wsX7_bridgeCount wsX1_bridgesOf := goodIn_ca (goodIn_r _ [18, 19, 20, 31, 32, 33, 34, 35, 36, 37, 38, 39, 40, 41, 42, 43, 44, 45, 46] (by decide +kernel) (by decide +kernel)) (goodIn_sub (fun _ h => List.mem_cons_of_mem _ (List.mem_append_right _ h)) (by decide +kernel))
set_option maxRecDepth 20000 in
theorem gX7_bridgeCount_X1_bridgesOf : GoodIn wsX7_bridgeCount (wsV RX7 123 RX1 yX1_bridgesOf wsX1_bridgesOf) := goodIn_app (goodIn_of _ (by decide +kernel)) ggX7_bridgeCount_X1_bridgesOf
theorem dX7_bridgeCount_0 : decode cX7_bridgeCount 0 = .ok (.aload_n 0, 1) := by decide +kernel
theorem dX7_bridgeCount_1 : decode cX7_bridgeCount 1 = .ok (.iload_n 1, 1) := by decide +kernel
theorem dX7_bridgeCount_2 : decode cX7_bridgeCount 2 = .ok (.invokevirtual 109, 3) := by decide +kernel
theorem dX7_bridgeCount_5 : decode cX7_bridgeCount 5 = .ok (.aload_n 0, 1) := by decide +kernel
theorem dX7_bridgeCount_6 : decode cX7_bridgeCount 6 = .ok (.getfield 10, 3) := by decide +kernel
theorem dX7_bridgeCount_9 : decode cX7_bridgeCount 9 = .ok (.iload_n 1, 1) := by decide +kernel
theorem dX7_bridgeCount_10 : decode cX7_bridgeCount 10 = .ok (.invokevirtual 123, 3) := by decide +kernel
theorem dX7_bridgeCount_13 : decode cX7_bridgeCount 13 = .ok (.ireturn, 1) := by decide +kernel
set_option maxRecDepth 20000 in
theorem ggX7_score_X7_requirePlayer : GoodIn wsX7_score wsX7_requirePlayer := goodIn_ca (goodIn_r _ [6, 7, 8, 1, 9, 10, 11, 12, 13, 14, 25, 26, 27, 28, 29, 30, 31, 32, 33, 34, 35, 36, 37, 38, 39, 40, 41, 42, 43, 44, 45, 46, 47, 48, 49, 50] (by decide +kernel) (by decide +kernel)) (goodIn_sub (fun _ h => List.mem_cons_of_mem _ (List.mem_append_left _ (List.mem_append_right _ h))) (by decide +kernel))
set_option maxRecDepth 20000 in
theorem gX7_score_X7_requirePlayer : GoodIn wsX7_score (wsV RX7 109 RX7 yX7_requirePlayer wsX7_requirePlayer) := goodIn_app (goodIn_of _ (by decide +kernel)) ggX7_score_X7_requirePlayer
set_option maxRecDepth 20000 in
theorem ggX7_score_X1_scoreOf : GoodIn wsX7_score wsX1_scoreOf := goodIn_ca (goodIn_r _ [18, 19, 20, 21, 22, 23, 24, 35, 36, 37, 38, 39, 40, 41, 42, 43, 44, 45, 46, 47, 48, 49, 50] (by decide +kernel) (by decide +kernel)) (goodIn_sub (fun _ h => List.mem_cons_of_mem _ (List.mem_append_right _ h)) (by decide +kernel))
set_option maxRecDepth 20000 in
theorem gX7_score_X1_scoreOf : GoodIn wsX7_score (wsV RX7 126 RX1 yX1_scoreOf wsX1_scoreOf) := goodIn_app (goodIn_of _ (by decide +kernel)) ggX7_score_X1_scoreOf
theorem dX7_score_0 : decode cX7_score 0 = .ok (.aload_n 0, 1) := by decide +kernel
theorem dX7_score_1 : decode cX7_score 1 = .ok (.iload_n 1, 1) := by decide +kernel
theorem dX7_score_2 : decode cX7_score 2 = .ok (.invokevirtual 109, 3) := by decide +kernel
theorem dX7_score_5 : decode cX7_score 5 = .ok (.aload_n 0, 1) := by decide +kernel
theorem dX7_score_6 : decode cX7_score 6 = .ok (.getfield 10, 3) := by decide +kernel
theorem dX7_score_9 : decode cX7_score 9 = .ok (.iload_n 1, 1) := by decide +kernel
theorem dX7_score_10 : decode cX7_score 10 = .ok (.invokevirtual 126, 3) := by decide +kernel
theorem dX7_score_13 : decode cX7_score 13 = .ok (.ireturn, 1) := by decide +kernel
theorem dX7_siteCount_0 : decode cX7_siteCount 0 = .ok (.aload_n 0, 1) := by decide +kernel
theorem dX7_siteCount_1 : decode cX7_siteCount 1 = .ok (.getfield 10, 3) := by decide +kernel
theorem dX7_siteCount_4 : decode cX7_siteCount 4 = .ok (.getfield 129, 3) := by decide +kernel
theorem dX7_siteCount_7 : decode cX7_siteCount 7 = .ok (.ireturn, 1) := by decide +kernel
set_option maxRecDepth 20000 in
theorem ggX7_lowerIsland_X7_requireSite : GoodIn wsX7_lowerIsland wsX7_requireSite := goodIn_ca (goodIn_r _ [6, 7, 8, 1, 9, 10, 11, 12, 13, 14, 15, 16, 17, 18, 19, 20, 21, 22, 23, 24, 25, 26, 27, 28, 29, 30, 31, 32, 33, 34, 35, 36, 37, 38, 39, 40] (by decide +kernel) (by decide +kernel)) (goodIn_sub (fun _ h => List.mem_cons_of_mem _ (List.mem_append_right _ h)) (by decide +kernel))
set_option maxRecDepth 20000 in
theorem gX7_lowerIsland_X7_requireSite : GoodIn wsX7_lowerIsland (wsV RX7 132 RX7 yX7_requireSite wsX7_requireSite) := goodIn_app (goodIn_of _ (by decide +kernel)) ggX7_lowerIsland_X7_requireSite
theorem dX7_lowerIsland_0 : decode cX7_lowerIsland 0 = .ok (.aload_n 0, 1) := by decide +kernel
theorem dX7_lowerIsland_1 : decode cX7_lowerIsland 1 = .ok (.iload_n 1, 1) := by decide +kernel
theorem dX7_lowerIsland_2 : decode cX7_lowerIsland 2 = .ok (.invokevirtual 132, 3) := by decide +kernel
theorem dX7_lowerIsland_5 : decode cX7_lowerIsland 5 = .ok (.aload_n 0, 1) := by decide +kernel
theorem dX7_lowerIsland_6 : decode cX7_lowerIsland 6 = .ok (.getfield 10, 3) := by decide +kernel
theorem dX7_lowerIsland_9 : decode cX7_lowerIsland 9 = .ok (.getfield 135, 3) := by decide +kernel
theorem dX7_lowerIsland_12 : decode cX7_lowerIsland 12 = .ok (.iload_n 1, 1) := by decide +kernel
theorem dX7_lowerIsland_13 : decode cX7_lowerIsland 13 = .ok (.iaload, 1) := by decide +kernel
theorem dX7_lowerIsland_14 : decode cX7_lowerIsland 14 = .ok (.ireturn, 1) := by decide +kernel
set_option maxRecDepth 20000 in
theorem ggX7_higherIsland_X7_requireSite : GoodIn wsX7_higherIsland wsX7_requireSite := goodIn_ca (goodIn_r _ [6, 7, 8, 1, 9, 10, 11, 12, 13, 14, 15, 16, 17, 18, 19, 20, 21, 22, 23, 24, 25, 26, 27, 28, 29, 30, 31, 32, 33, 34, 35, 36, 37, 38, 39, 40] (by decide +kernel) (by decide +kernel)) (goodIn_sub (fun _ h => List.mem_cons_of_mem _ (List.mem_append_right _ h)) (by decide +kernel))
set_option maxRecDepth 20000 in
theorem gX7_higherIsland_X7_requireSite : GoodIn wsX7_higherIsland (wsV RX7 132 RX7 yX7_requireSite wsX7_requireSite) := goodIn_app (goodIn_of _ (by decide +kernel)) ggX7_higherIsland_X7_requireSite
theorem dX7_higherIsland_0 : decode cX7_higherIsland 0 = .ok (.aload_n 0, 1) := by decide +kernel
theorem dX7_higherIsland_1 : decode cX7_higherIsland 1 = .ok (.iload_n 1, 1) := by decide +kernel
theorem dX7_higherIsland_2 : decode cX7_higherIsland 2 = .ok (.invokevirtual 132, 3) := by decide +kernel
theorem dX7_higherIsland_5 : decode cX7_higherIsland 5 = .ok (.aload_n 0, 1) := by decide +kernel
theorem dX7_higherIsland_6 : decode cX7_higherIsland 6 = .ok (.getfield 10, 3) := by decide +kernel
theorem dX7_higherIsland_9 : decode cX7_higherIsland 9 = .ok (.getfield 138, 3) := by decide +kernel
theorem dX7_higherIsland_12 : decode cX7_higherIsland 12 = .ok (.iload_n 1, 1) := by decide +kernel
theorem dX7_higherIsland_13 : decode cX7_higherIsland 13 = .ok (.iaload, 1) := by decide +kernel
theorem dX7_higherIsland_14 : decode cX7_higherIsland 14 = .ok (.ireturn, 1) := by decide +kernel
set_option maxRecDepth 20000 in
theorem ggX7_length_X7_requireSite : GoodIn wsX7_length wsX7_requireSite := goodIn_ca (goodIn_r _ [6, 7, 8, 1, 9, 10, 11, 12, 13, 14, 15, 16, 17, 18, 19, 20, 21, 22, 23, 24, 25, 26, 27, 28, 29, 30, 31, 32, 33, 34, 35, 36, 37, 38, 39, 40] (by decide +kernel) (by decide +kernel)) (goodIn_sub (fun _ h => List.mem_cons_of_mem _ (List.mem_append_right _ h)) (by decide +kernel))
set_option maxRecDepth 20000 in
theorem gX7_length_X7_requireSite : GoodIn wsX7_length (wsV RX7 132 RX7 yX7_requireSite wsX7_requireSite) := goodIn_app (goodIn_of _ (by decide +kernel)) ggX7_length_X7_requireSite
theorem dX7_length_0 : decode cX7_length 0 = .ok (.aload_n 0, 1) := by decide +kernel
theorem dX7_length_1 : decode cX7_length 1 = .ok (.iload_n 1, 1) := by decide +kernel
theorem dX7_length_2 : decode cX7_length 2 = .ok (.invokevirtual 132, 3) := by decide +kernel
theorem dX7_length_5 : decode cX7_length 5 = .ok (.aload_n 0, 1) := by decide +kernel
theorem dX7_length_6 : decode cX7_length 6 = .ok (.getfield 10, 3) := by decide +kernel
theorem dX7_length_9 : decode cX7_length 9 = .ok (.getfield 141, 3) := by decide +kernel
theorem dX7_length_12 : decode cX7_length 12 = .ok (.iload_n 1, 1) := by decide +kernel
theorem dX7_length_13 : decode cX7_length 13 = .ok (.iaload, 1) := by decide +kernel
theorem dX7_length_14 : decode cX7_length 14 = .ok (.ireturn, 1) := by decide +kernel
set_option maxRecDepth 20000 in
theorem ggX7_buildingCost_X7_requireSite : GoodIn wsX7_buildingCost wsX7_requireSite := goodIn_ca (goodIn_r _ [6, 7, 8, 1, 9, 10, 11, 12, 13, 14, 21, 22, 23, 24, 25, 26, 27, 28, 29, 30, 31, 32, 33, 34, 35, 36, 37, 38, 39, 40, 41, 42, 43, 44, 45, 46] (by decide +kernel) (by decide +kernel)) (goodIn_sub (fun _ h => List.mem_cons_of_mem _ (List.mem_append_left _ (List.mem_append_right _ h))) (by decide +kernel))
set_option maxRecDepth 20000 in
theorem gX7_buildingCost_X7_requireSite : GoodIn wsX7_buildingCost (wsV RX7 132 RX7 yX7_requireSite wsX7_requireSite) := goodIn_app (goodIn_of _ (by decide +kernel)) ggX7_buildingCost_X7_requireSite
set_option maxRecDepth 20000 in
theorem ggX7_buildingCost_X1_costOf : GoodIn wsX7_buildingCost wsX1_costOf := goodIn_ca (goodIn_r _ [18, 19, 20, 31, 32, 33, 34, 35, 36, 37, 38, 39, 40, 41, 42, 43, 44, 45, 46] (by decide +kernel) (by decide +kernel)) (goodIn_sub (fun _ h => List.mem_cons_of_mem _ (List.mem_append_right _ h)) (by decide +kernel))
set_option maxRecDepth 20000 in
theorem gX7_buildingCost_X1_costOf : GoodIn wsX7_buildingCost (wsV RX7 144 RX1 yX1_costOf wsX1_costOf) := goodIn_app (goodIn_of _ (by decide +kernel)) ggX7_buildingCost_X1_costOf
theorem dX7_buildingCost_0 : decode cX7_buildingCost 0 = .ok (.aload_n 0, 1) := by decide +kernel
theorem dX7_buildingCost_1 : decode cX7_buildingCost 1 = .ok (.iload_n 1, 1) := by decide +kernel
theorem dX7_buildingCost_2 : decode cX7_buildingCost 2 = .ok (.invokevirtual 132, 3) := by decide +kernel
theorem dX7_buildingCost_5 : decode cX7_buildingCost 5 = .ok (.aload_n 0, 1) := by decide +kernel
theorem dX7_buildingCost_6 : decode cX7_buildingCost 6 = .ok (.getfield 10, 3) := by decide +kernel
theorem dX7_buildingCost_9 : decode cX7_buildingCost 9 = .ok (.iload_n 1, 1) := by decide +kernel
theorem dX7_buildingCost_10 : decode cX7_buildingCost 10 = .ok (.invokevirtual 144, 3) := by decide +kernel
theorem dX7_buildingCost_13 : decode cX7_buildingCost 13 = .ok (.ireturn, 1) := by decide +kernel
set_option maxRecDepth 20000 in
theorem ggX7_isBuilt_X7_requireSite : GoodIn wsX7_isBuilt wsX7_requireSite := goodIn_ca (goodIn_r _ [6, 7, 8, 1, 9, 10, 11, 12, 13, 14, 20, 21, 22, 23, 24, 25, 26, 27, 28, 29, 30, 31, 32, 33, 34, 35, 36, 37, 38, 39, 40, 41, 42, 43, 44, 45] (by decide +kernel) (by decide +kernel)) (goodIn_sub (fun _ h => List.mem_cons_of_mem _ (List.mem_append_left _ (List.mem_append_right _ h))) (by decide +kernel))
set_option maxRecDepth 20000 in
theorem gX7_isBuilt_X7_requireSite : GoodIn wsX7_isBuilt (wsV RX7 132 RX7 yX7_requireSite wsX7_requireSite) := goodIn_app (goodIn_of _ (by decide +kernel)) ggX7_isBuilt_X7_requireSite
set_option maxRecDepth 20000 in
theorem ggX7_isBuilt_X1_hasBridge : GoodIn wsX7_isBuilt wsX1_hasBridge := goodIn_ca (goodIn_r _ [18, 19, 30, 31, 32, 33, 34, 35, 36, 37, 38, 39, 40, 41, 42, 43, 44, 45] (by decide +kernel) (by decide +kernel)) (goodIn_sub (fun _ h => List.mem_cons_of_mem _ (List.mem_append_right _ h)) (by decide +kernel))
set_option maxRecDepth 20000 in
theorem gX7_isBuilt_X1_hasBridge : GoodIn wsX7_isBuilt (wsV RX7 147 RX1 yX1_hasBridge wsX1_hasBridge) := goodIn_app (goodIn_of _ (by decide +kernel)) ggX7_isBuilt_X1_hasBridge
theorem dX7_isBuilt_0 : decode cX7_isBuilt 0 = .ok (.aload_n 0, 1) := by decide +kernel
theorem dX7_isBuilt_1 : decode cX7_isBuilt 1 = .ok (.iload_n 1, 1) := by decide +kernel
theorem dX7_isBuilt_2 : decode cX7_isBuilt 2 = .ok (.invokevirtual 132, 3) := by decide +kernel
theorem dX7_isBuilt_5 : decode cX7_isBuilt 5 = .ok (.aload_n 0, 1) := by decide +kernel
theorem dX7_isBuilt_6 : decode cX7_isBuilt 6 = .ok (.getfield 10, 3) := by decide +kernel
theorem dX7_isBuilt_9 : decode cX7_isBuilt 9 = .ok (.iload_n 1, 1) := by decide +kernel
theorem dX7_isBuilt_10 : decode cX7_isBuilt 10 = .ok (.invokevirtual 147, 3) := by decide +kernel
theorem dX7_isBuilt_13 : decode cX7_isBuilt 13 = .ok (.ireturn, 1) := by decide +kernel
set_option maxRecDepth 20000 in
theorem ggX7_builder_X7_requireSite : GoodIn wsX7_builder wsX7_requireSite := goodIn_ca (goodIn_r _ [6, 7, 8, 1, 9, 10, 11, 12, 13, 14, 20, 21, 22, 23, 24, 25, 26, 27, 28, 29, 30, 31, 32, 33, 34, 35, 36, 37, 38, 39, 40, 41, 42, 43, 44, 45] (by decide +kernel) (by decide +kernel)) (goodIn_sub (fun _ h => List.mem_cons_of_mem _ (List.mem_append_left _ (List.mem_append_right _ h))) (by decide +kernel))
set_option maxRecDepth 20000 in
theorem gX7_builder_X7_requireSite : GoodIn wsX7_builder (wsV RX7 132 RX7 yX7_requireSite wsX7_requireSite) := goodIn_app (goodIn_of _ (by decide +kernel)) ggX7_builder_X7_requireSite
set_option maxRecDepth 20000 in
theorem ggX7_builder_X7_requireFound : GoodIn wsX7_builder wsX7_requireFound := goodIn_ca (goodIn_r _ [17, 18, 19] (by decide +kernel) (by decide +kernel)) (goodIn_sub (fun _ h => List.mem_cons_of_mem _ (List.mem_append_right _ h)) (by decide +kernel))
set_option maxRecDepth 20000 in
theorem gX7_builder_X7_requireFound : GoodIn wsX7_builder (va_wsS RX7 153 yX7_requireFound wsX7_requireFound) := goodIn_app (goodIn_of _ (by decide +kernel)) ggX7_builder_X7_requireFound
theorem dX7_builder_0 : decode cX7_builder 0 = .ok (.aload_n 0, 1) := by decide +kernel
theorem dX7_builder_1 : decode cX7_builder 1 = .ok (.iload_n 1, 1) := by decide +kernel
theorem dX7_builder_2 : decode cX7_builder 2 = .ok (.invokevirtual 132, 3) := by decide +kernel
theorem dX7_builder_5 : decode cX7_builder 5 = .ok (.aload_n 0, 1) := by decide +kernel
theorem dX7_builder_6 : decode cX7_builder 6 = .ok (.getfield 10, 3) := by decide +kernel
theorem dX7_builder_9 : decode cX7_builder 9 = .ok (.getfield 150, 3) := by decide +kernel
theorem dX7_builder_12 : decode cX7_builder 12 = .ok (.iload_n 1, 1) := by decide +kernel
theorem dX7_builder_13 : decode cX7_builder 13 = .ok (.iaload, 1) := by decide +kernel
theorem dX7_builder_14 : decode cX7_builder 14 = .ok (.invokestatic 153, 3) := by decide +kernel
theorem dX7_builder_17 : decode cX7_builder 17 = .ok (.aload_n 0, 1) := by decide +kernel
theorem dX7_builder_18 : decode cX7_builder 18 = .ok (.getfield 10, 3) := by decide +kernel
theorem dX7_builder_21 : decode cX7_builder 21 = .ok (.getfield 150, 3) := by decide +kernel
theorem dX7_builder_24 : decode cX7_builder 24 = .ok (.iload_n 1, 1) := by decide +kernel
theorem dX7_builder_25 : decode cX7_builder 25 = .ok (.iaload, 1) := by decide +kernel
theorem dX7_builder_26 : decode cX7_builder 26 = .ok (.ireturn, 1) := by decide +kernel
set_option maxRecDepth 20000 in
theorem ggX7_bidCount_X7_requireSite : GoodIn wsX7_bidCount wsX7_requireSite := goodIn_ca (goodIn_r _ [6, 7, 8, 1, 9, 10, 11, 12, 13, 14, 32, 33, 34, 35, 36, 37, 38, 39, 40, 41, 42, 43, 44, 45, 46, 47, 48, 49, 50, 51, 52, 53, 54, 55, 56, 57] (by decide +kernel) (by decide +kernel)) (goodIn_sub (fun _ h => List.mem_cons_of_mem _ (List.mem_append_left _ (List.mem_append_right _ h))) (by decide +kernel))
set_option maxRecDepth 20000 in
theorem gX7_bidCount_X7_requireSite : GoodIn wsX7_bidCount (wsV RX7 132 RX7 yX7_requireSite wsX7_requireSite) := goodIn_app (goodIn_of _ (by decide +kernel)) ggX7_bidCount_X7_requireSite
set_option maxRecDepth 20000 in
theorem ggX7_bidCount_X1_bidsAbove : GoodIn wsX7_bidCount wsX1_bidsAbove := goodIn_ca (goodIn_r _ [18, 19, 20, 21, 22, 12, 23, 24, 25, 26, 27, 28, 29, 30, 31, 42, 43, 44, 45, 46, 47, 48, 49, 50, 51, 52, 53, 54, 55, 56, 57] (by decide +kernel) (by decide +kernel)) (goodIn_sub (fun _ h => List.mem_cons_of_mem _ (List.mem_append_right _ h)) (by decide +kernel))
set_option maxRecDepth 20000 in
theorem gX7_bidCount_X1_bidsAbove : GoodIn wsX7_bidCount (wsV RX7 156 RX1 yX1_bidsAbove wsX1_bidsAbove) := goodIn_app (goodIn_of _ (by decide +kernel)) ggX7_bidCount_X1_bidsAbove
theorem dX7_bidCount_0 : decode cX7_bidCount 0 = .ok (.aload_n 0, 1) := by decide +kernel
theorem dX7_bidCount_1 : decode cX7_bidCount 1 = .ok (.iload_n 1, 1) := by decide +kernel
theorem dX7_bidCount_2 : decode cX7_bidCount 2 = .ok (.invokevirtual 132, 3) := by decide +kernel
theorem dX7_bidCount_5 : decode cX7_bidCount 5 = .ok (.aload_n 0, 1) := by decide +kernel
theorem dX7_bidCount_6 : decode cX7_bidCount 6 = .ok (.getfield 10, 3) := by decide +kernel
theorem dX7_bidCount_9 : decode cX7_bidCount 9 = .ok (.iload_n 1, 1) := by decide +kernel
theorem dX7_bidCount_10 : decode cX7_bidCount 10 = .ok (.iconst 0, 1) := by decide +kernel
theorem dX7_bidCount_11 : decode cX7_bidCount 11 = .ok (.invokevirtual 156, 3) := by decide +kernel
theorem dX7_bidCount_14 : decode cX7_bidCount 14 = .ok (.ireturn, 1) := by decide +kernel
set_option maxRecDepth 20000 in
theorem ggX7_bidAmount_X7_requireBid : GoodIn wsX7_bidAmount wsX7_requireBid := goodIn_ca (goodIn_ca (goodIn_ca (goodIn_r _ [6, 7, 8, 1, 9, 10, 11, 5, 12, 13, 14, 15, 16, 17, 18, 19, 20, 21, 22, 23, 24, 25, 26, 27, 28, 29, 30, 31, 32, 33, 34, 35, 36, 37, 46, 47, 48, 49, 50, 51, 52, 53, 54, 55, 56, 57, 58, 59, 60, 61, 62, 63, 64, 65, 66, 67, 68, 69, 70, 71] (by decide +kernel) (by decide +kernel)) (goodIn_sub (fun _ h => List.mem_cons_of_mem _ (List.mem_append_left _ (List.mem_append_left _ (List.mem_append_right _ h)))) (by decide +kernel))) (goodIn_sub (fun _ h => List.mem_cons_of_mem _ (List.mem_append_left _ (List.mem_append_right _ h))) (by decide +kernel))) (goodIn_sub (fun _ h => List.mem_cons_of_mem _ (List.mem_append_right _ h)) (by decide +kernel))
set_option maxRecDepth 20000 in
theorem gX7_bidAmount_X7_requireBid : GoodIn wsX7_bidAmount (wsV RX7 160 RX7 yX7_requireBid wsX7_requireBid) := goodIn_app (goodIn_of _ (by decide +kernel)) ggX7_bidAmount_X7_requireBid
set_option maxRecDepth 20000 in
theorem ggX7_bidAmount_X1_amountOf : GoodIn wsX7_bidAmount wsX1_amountOf := goodIn_ca (goodIn_r _ [41, 34, 42, 43, 44, 45, 35, 36, 18, 37, 56, 57, 58, 59, 60, 61, 62, 63, 64, 65, 66, 67, 68, 69, 70, 71] (by decide +kernel) (by decide +kernel)) (goodIn_sub (fun _ h => List.mem_cons_of_mem _ (List.mem_append_right _ h)) (by decide +kernel))
set_option maxRecDepth 20000 in
theorem gX7_bidAmount_X1_amountOf : GoodIn wsX7_bidAmount (wsV RX7 164 RX1 yX1_amountOf wsX1_amountOf) := goodIn_app (goodIn_of _ (by decide +kernel)) ggX7_bidAmount_X1_amountOf
theorem dX7_bidAmount_0 : decode cX7_bidAmount 0 = .ok (.aload_n 0, 1) := by decide +kernel
theorem dX7_bidAmount_1 : decode cX7_bidAmount 1 = .ok (.iload_n 1, 1) := by decide +kernel
theorem dX7_bidAmount_2 : decode cX7_bidAmount 2 = .ok (.iload_n 2, 1) := by decide +kernel
theorem dX7_bidAmount_3 : decode cX7_bidAmount 3 = .ok (.invokevirtual 160, 3) := by decide +kernel
theorem dX7_bidAmount_6 : decode cX7_bidAmount 6 = .ok (.aload_n 0, 1) := by decide +kernel
theorem dX7_bidAmount_7 : decode cX7_bidAmount 7 = .ok (.getfield 10, 3) := by decide +kernel
theorem dX7_bidAmount_10 : decode cX7_bidAmount 10 = .ok (.iload_n 1, 1) := by decide +kernel
theorem dX7_bidAmount_11 : decode cX7_bidAmount 11 = .ok (.iload_n 2, 1) := by decide +kernel
theorem dX7_bidAmount_12 : decode cX7_bidAmount 12 = .ok (.invokevirtual 164, 3) := by decide +kernel
theorem dX7_bidAmount_15 : decode cX7_bidAmount 15 = .ok (.ireturn, 1) := by decide +kernel
set_option maxRecDepth 20000 in
theorem ggX7_isBluff_X7_requireBid : GoodIn wsX7_isBluff wsX7_requireBid := goodIn_ca (goodIn_ca (goodIn_ca (goodIn_r _ [6, 7, 8, 1, 9, 10, 11, 5, 12, 13, 14, 15, 16, 17, 18, 19, 20, 21, 22, 23, 24, 25, 26, 27, 28, 29, 30, 31, 32, 33, 34, 35, 36, 37, 42, 43, 44, 45, 46, 47, 48, 49, 50, 51, 52, 53, 54, 55, 56, 57, 58, 59, 60, 61, 62, 63, 64, 65, 66, 67] (by decide +kernel) (by decide +kernel)) (goodIn_sub (fun _ h => List.mem_cons_of_mem _ (List.mem_append_left _ (List.mem_append_left _ (List.mem_append_right _ h)))) (by decide +kernel))) (goodIn_sub (fun _ h => List.mem_cons_of_mem _ (List.mem_append_left _ (List.mem_append_right _ h))) (by decide +kernel))) (goodIn_sub (fun _ h => List.mem_cons_of_mem _ (List.mem_append_right _ h)) (by decide +kernel))
set_option maxRecDepth 20000 in
theorem gX7_isBluff_X7_requireBid : GoodIn wsX7_isBluff (wsV RX7 160 RX7 yX7_requireBid wsX7_requireBid) := goodIn_app (goodIn_of _ (by decide +kernel)) ggX7_isBluff_X7_requireBid
set_option maxRecDepth 20000 in
theorem ggX7_isBluff_X1_hasBluff : GoodIn wsX7_isBluff wsX1_hasBluff := goodIn_ca (goodIn_r _ [41, 34, 35, 36, 18, 37, 52, 53, 54, 55, 56, 57, 58, 59, 60, 61, 62, 63, 64, 65, 66, 67] (by decide +kernel) (by decide +kernel)) (goodIn_sub (fun _ h => List.mem_cons_of_mem _ (List.mem_append_right _ h)) (by decide +kernel))
set_option maxRecDepth 20000 in
theorem gX7_isBluff_X1_hasBluff : GoodIn wsX7_isBluff (wsV RX7 167 RX1 yX1_hasBluff wsX1_hasBluff) := goodIn_app (goodIn_of _ (by decide +kernel)) ggX7_isBluff_X1_hasBluff
theorem dX7_isBluff_0 : decode cX7_isBluff 0 = .ok (.aload_n 0, 1) := by decide +kernel
theorem dX7_isBluff_1 : decode cX7_isBluff 1 = .ok (.iload_n 1, 1) := by decide +kernel
theorem dX7_isBluff_2 : decode cX7_isBluff 2 = .ok (.iload_n 2, 1) := by decide +kernel
theorem dX7_isBluff_3 : decode cX7_isBluff 3 = .ok (.invokevirtual 160, 3) := by decide +kernel
theorem dX7_isBluff_6 : decode cX7_isBluff 6 = .ok (.aload_n 0, 1) := by decide +kernel
theorem dX7_isBluff_7 : decode cX7_isBluff 7 = .ok (.getfield 10, 3) := by decide +kernel
theorem dX7_isBluff_10 : decode cX7_isBluff 10 = .ok (.iload_n 1, 1) := by decide +kernel
theorem dX7_isBluff_11 : decode cX7_isBluff 11 = .ok (.iload_n 2, 1) := by decide +kernel
theorem dX7_isBluff_12 : decode cX7_isBluff 12 = .ok (.invokevirtual 167, 3) := by decide +kernel
theorem dX7_isBluff_15 : decode cX7_isBluff 15 = .ok (.ireturn, 1) := by decide +kernel
set_option maxRecDepth 20000 in
theorem ggX7_ferryOwner_X7_requireSite : GoodIn wsX7_ferryOwner wsX7_requireSite := goodIn_ca (goodIn_r _ [6, 7, 8, 1, 9, 10, 11, 12, 13, 14, 20, 21, 22, 23, 24, 25, 26, 27, 28, 29, 30, 31, 32, 33, 34, 35, 36, 37, 38, 39, 40, 41, 42, 43, 44, 45] (by decide +kernel) (by decide +kernel)) (goodIn_sub (fun _ h => List.mem_cons_of_mem _ (List.mem_append_left _ (List.mem_append_right _ h))) (by decide +kernel))
set_option maxRecDepth 20000 in
theorem gX7_ferryOwner_X7_requireSite : GoodIn wsX7_ferryOwner (wsV RX7 132 RX7 yX7_requireSite wsX7_requireSite) := goodIn_app (goodIn_of _ (by decide +kernel)) ggX7_ferryOwner_X7_requireSite
set_option maxRecDepth 20000 in
theorem ggX7_ferryOwner_X7_requireFound : GoodIn wsX7_ferryOwner wsX7_requireFound := goodIn_ca (goodIn_r _ [17, 18, 19] (by decide +kernel) (by decide +kernel)) (goodIn_sub (fun _ h => List.mem_cons_of_mem _ (List.mem_append_right _ h)) (by decide +kernel))
set_option maxRecDepth 20000 in
theorem gX7_ferryOwner_X7_requireFound : GoodIn wsX7_ferryOwner (va_wsS RX7 153 yX7_requireFound wsX7_requireFound) := goodIn_app (goodIn_of _ (by decide +kernel)) ggX7_ferryOwner_X7_requireFound
theorem dX7_ferryOwner_0 : decode cX7_ferryOwner 0 = .ok (.aload_n 0, 1) := by decide +kernel
theorem dX7_ferryOwner_1 : decode cX7_ferryOwner 1 = .ok (.iload_n 1, 1) := by decide +kernel
theorem dX7_ferryOwner_2 : decode cX7_ferryOwner 2 = .ok (.invokevirtual 132, 3) := by decide +kernel
theorem dX7_ferryOwner_5 : decode cX7_ferryOwner 5 = .ok (.aload_n 0, 1) := by decide +kernel
theorem dX7_ferryOwner_6 : decode cX7_ferryOwner 6 = .ok (.getfield 10, 3) := by decide +kernel
theorem dX7_ferryOwner_9 : decode cX7_ferryOwner 9 = .ok (.getfield 171, 3) := by decide +kernel
theorem dX7_ferryOwner_12 : decode cX7_ferryOwner 12 = .ok (.iload_n 1, 1) := by decide +kernel
theorem dX7_ferryOwner_13 : decode cX7_ferryOwner 13 = .ok (.iaload, 1) := by decide +kernel
theorem dX7_ferryOwner_14 : decode cX7_ferryOwner 14 = .ok (.invokestatic 153, 3) := by decide +kernel
theorem dX7_ferryOwner_17 : decode cX7_ferryOwner 17 = .ok (.aload_n 0, 1) := by decide +kernel
theorem dX7_ferryOwner_18 : decode cX7_ferryOwner 18 = .ok (.getfield 10, 3) := by decide +kernel
theorem dX7_ferryOwner_21 : decode cX7_ferryOwner 21 = .ok (.getfield 171, 3) := by decide +kernel
theorem dX7_ferryOwner_24 : decode cX7_ferryOwner 24 = .ok (.iload_n 1, 1) := by decide +kernel
theorem dX7_ferryOwner_25 : decode cX7_ferryOwner 25 = .ok (.iaload, 1) := by decide +kernel
theorem dX7_ferryOwner_26 : decode cX7_ferryOwner 26 = .ok (.ireturn, 1) := by decide +kernel
set_option maxRecDepth 20000 in
theorem ggX7_winningBidder_X7_requireSite : GoodIn wsX7_winningBidder wsX7_requireSite := goodIn_ca (goodIn_r _ [6, 7, 8, 1, 9, 10, 11, 12, 13, 14, 38, 39, 40, 41, 42, 43, 44, 45, 46, 47, 48, 49, 50, 51, 52, 53, 54, 55, 56, 57, 58, 59, 60, 61, 62, 63] (by decide +kernel) (by decide +kernel)) (goodIn_sub (fun _ h => List.mem_cons_of_mem _ (List.mem_append_left _ (List.mem_append_left _ (List.mem_append_right _ h)))) (by decide +kernel))
set_option maxRecDepth 20000 in
theorem gX7_winningBidder_X7_requireSite : GoodIn wsX7_winningBidder (wsV RX7 132 RX7 yX7_requireSite wsX7_requireSite) := goodIn_app (goodIn_of _ (by decide +kernel)) ggX7_winningBidder_X7_requireSite
set_option maxRecDepth 20000 in
theorem ggX7_winningBidder_X1_winnerOf : GoodIn wsX7_winningBidder wsX1_winnerOf := goodIn_ca (goodIn_r _ [18, 19, 20, 21, 22, 23, 12, 24, 25, 26, 27, 28, 29, 30, 31, 32, 48, 49, 50, 51, 52, 53, 54, 55, 56, 57, 58, 59, 60, 61, 62, 63] (by decide +kernel) (by decide +kernel)) (goodIn_sub (fun _ h => List.mem_cons_of_mem _ (List.mem_append_left _ (List.mem_append_right _ h))) (by decide +kernel))
set_option maxRecDepth 20000 in
theorem gX7_winningBidder_X1_winnerOf : GoodIn wsX7_winningBidder (wsV RX7 174 RX1 yX1_winnerOf wsX1_winnerOf) := goodIn_app (goodIn_of _ (by decide +kernel)) ggX7_winningBidder_X1_winnerOf
set_option maxRecDepth 20000 in
theorem ggX7_winningBidder_X7_requireFound : GoodIn wsX7_winningBidder wsX7_requireFound := goodIn_ca (goodIn_r _ [35, 36, 37] (by decide +kernel) (by decide +kernel)) (goodIn_sub (fun _ h => List.mem_cons_of_mem _ (List.mem_append_right _ h)) (by decide +kernel))
set_option maxRecDepth 20000 in
theorem gX7_winningBidder_X7_requireFound : GoodIn wsX7_winningBidder (va_wsS RX7 153 yX7_requireFound wsX7_requireFound) := goodIn_app (goodIn_of _ (by decide +kernel)) ggX7_winningBidder_X7_requireFound
theorem dX7_winningBidder_0 : decode cX7_winningBidder 0 = .ok (.aload_n 0, 1) := by decide +kernel
theorem dX7_winningBidder_1 : decode cX7_winningBidder 1 = .ok (.iload_n 1, 1) := by decide +kernel
theorem dX7_winningBidder_2 : decode cX7_winningBidder 2 = .ok (.invokevirtual 132, 3) := by decide +kernel
theorem dX7_winningBidder_5 : decode cX7_winningBidder 5 = .ok (.aload_n 0, 1) := by decide +kernel
theorem dX7_winningBidder_6 : decode cX7_winningBidder 6 = .ok (.getfield 10, 3) := by decide +kernel
theorem dX7_winningBidder_9 : decode cX7_winningBidder 9 = .ok (.iload_n 1, 1) := by decide +kernel
theorem dX7_winningBidder_10 : decode cX7_winningBidder 10 = .ok (.invokevirtual 174, 3) := by decide +kernel
theorem dX7_winningBidder_13 : decode cX7_winningBidder 13 = .ok (.istore_n 2, 1) := by decide +kernel
theorem dX7_winningBidder_14 : decode cX7_winningBidder 14 = .ok (.iload_n 2, 1) := by decide +kernel
theorem dX7_winningBidder_15 : decode cX7_winningBidder 15 = .ok (.invokestatic 153, 3) := by decide +kernel
theorem dX7_winningBidder_18 : decode cX7_winningBidder 18 = .ok (.iload_n 2, 1) := by decide +kernel
theorem dX7_winningBidder_19 : decode cX7_winningBidder 19 = .ok (.ireturn, 1) := by decide +kernel
set_option maxRecDepth 20000 in
theorem ggX7_wouldBuild_X1_judge : GoodIn wsX7_wouldBuild wsX1_judge := goodIn_ca (goodIn_r _ [7, 8, 9, 10, 11, 12, 13, 14, 15, 16, 17, 18, 6, 19, 20, 21, 22, 23, 24, 25, 26, 27, 28, 29, 30, 31, 32, 33, 34, 35, 36, 37, 38, 39, 40, 41, 42, 43, 44, 45, 46, 47, 48, 49, 50, 51, 52, 53, 54, 55, 56, 57, 58, 59, 60, 61, 62, 63, 64, 65, 66, 67, 68, 69, 70, 71, 72, 73, 74, 75, 76, 77, 78, 79, 80, 81, 82, 83, 84, 85, 86, 87, 88, 89, 90, 91, 92, 93, 94, 95, 96, 97, 98, 99, 100, 101, 102, 103, 104, 105, 106, 107, 108, 109, 110, 111, 112, 113, 114, 115, 116, 117, 118, 119, 120, 121, 122, 123, 124, 125, 126, 166, 167, 168, 169, 170, 171, 172, 173, 174, 175, 176, 177, 178, 179, 180, 181] (by decide +kernel) (by decide +kernel)) (goodIn_sub (fun _ h => List.mem_cons_of_mem _ (List.mem_append_left _ (List.mem_append_left _ (List.mem_append_left _ (List.mem_append_left _ (List.mem_append_left _ (List.mem_append_right _ h))))))) (by decide +kernel))
set_option maxRecDepth 20000 in
theorem gX7_wouldBuild_X1_judge : GoodIn wsX7_wouldBuild (wsV RX7 177 RX1 yX1_judge wsX1_judge) := goodIn_app (goodIn_of _ (by decide +kernel)) ggX7_wouldBuild_X1_judge
set_option maxRecDepth 20000 in
theorem ggX7_wouldBuild_X7_refuseUnlessFine : GoodIn wsX7_wouldBuild wsX7_refuseUnlessFine := goodIn_ca (goodIn_ca (goodIn_ca (goodIn_ca (goodIn_ca (goodIn_ca (goodIn_r _ [130, 131, 132, 133, 134, 135, 136, 137, 138, 139, 140, 141, 142, 143, 144, 12, 13, 14, 15] (by decide +kernel) (by decide +kernel)) (goodIn_sub (fun _ h => List.mem_cons_of_mem _ (List.mem_append_left _ (List.mem_append_left _ (List.mem_append_left _ (List.mem_append_left _ (List.mem_append_left _ (List.mem_append_right _ h))))))) (by decide +kernel))) (goodIn_sub (fun _ h => List.mem_cons_of_mem _ (List.mem_append_left _ (List.mem_append_left _ (List.mem_append_left _ (List.mem_append_left _ (List.mem_append_right _ h)))))) (by decide +kernel))) (goodIn_sub (fun _ h => List.mem_cons_of_mem _ (List.mem_append_left _ (List.mem_append_left _ (List.mem_append_left _ (List.mem_append_right _ h))))) (by decide +kernel))) (goodIn_sub (fun _ h => List.mem_cons_of_mem _ (List.mem_append_left _ (List.mem_append_left _ (List.mem_append_right _ h)))) (by decide +kernel))) (goodIn_sub (fun _ h => List.mem_cons_of_mem _ (List.mem_append_left _ (List.mem_append_right _ h))) (by decide +kernel))) (goodIn_sub (fun _ h => List.mem_cons_of_mem _ (List.mem_append_right _ h)) (by decide +kernel))
set_option maxRecDepth 20000 in
theorem gX7_wouldBuild_X7_refuseUnlessFine : GoodIn wsX7_wouldBuild (va_wsS RX7 181 yX7_refuseUnlessFine wsX7_refuseUnlessFine) := goodIn_app (goodIn_of _ (by decide +kernel)) ggX7_wouldBuild_X7_refuseUnlessFine
set_option maxRecDepth 20000 in
theorem ggX7_wouldBuild_X1_winnerOf : GoodIn wsX7_wouldBuild wsX1_winnerOf := goodIn_ca (goodIn_r _ [126, 104, 21, 79, 80, 81, 6, 82, 83, 84, 85, 31, 86, 87, 88, 89, 166, 167, 168, 169, 170, 171, 172, 173, 174, 175, 176, 177, 178, 179, 180, 181] (by decide +kernel) (by decide +kernel)) (goodIn_sub (fun _ h => List.mem_cons_of_mem _ (List.mem_append_left _ (List.mem_append_left _ (List.mem_append_left _ (List.mem_append_left _ (List.mem_append_left _ (List.mem_append_right _ h))))))) (by decide +kernel))
set_option maxRecDepth 20000 in
theorem gX7_wouldBuild_X1_winnerOf : GoodIn wsX7_wouldBuild (wsV RX7 174 RX1 yX1_winnerOf wsX1_winnerOf) := goodIn_app (goodIn_of _ (by decide +kernel)) ggX7_wouldBuild_X1_winnerOf
set_option maxRecDepth 20000 in
theorem ggX7_wouldBuild_X1_buildsWith : GoodIn wsX7_wouldBuild wsX1_buildsWith := goodIn_ca (goodIn_r _ [149, 95, 96, 97, 6, 98, 83, 33, 34, 31, 35, 87, 88, 89, 150, 151, 152, 153, 154, 155, 166, 167, 168, 169, 170, 171, 172, 173, 174, 175, 176, 177, 178, 179, 180, 181] (by decide +kernel) (by decide +kernel)) (goodIn_sub (fun _ h => List.mem_cons_of_mem _ (List.mem_append_left _ (List.mem_append_left _ (List.mem_append_left _ (List.mem_append_left _ (List.mem_append_left _ (List.mem_append_right _ h))))))) (by decide +kernel))
set_option maxRecDepth 20000 in
theorem gX7_wouldBuild_X1_buildsWith : GoodIn wsX7_wouldBuild (wsV RX7 185 RX1 yX1_buildsWith wsX1_buildsWith) := goodIn_app (goodIn_of _ (by decide +kernel)) ggX7_wouldBuild_X1_buildsWith
theorem dX7_wouldBuild_0 : decode cX7_wouldBuild 0 = .ok (.aload_n 0, 1) := by decide +kernel
theorem dX7_wouldBuild_1 : decode cX7_wouldBuild 1 = .ok (.getfield 10, 3) := by decide +kernel
theorem dX7_wouldBuild_4 : decode cX7_wouldBuild 4 = .ok (.getstatic 92, 3) := by decide +kernel
theorem dX7_wouldBuild_7 : decode cX7_wouldBuild 7 = .ok (.iload_n 1, 1) := by decide +kernel
theorem dX7_wouldBuild_8 : decode cX7_wouldBuild 8 = .ok (.iconst 0, 1) := by decide +kernel
theorem dX7_wouldBuild_9 : decode cX7_wouldBuild 9 = .ok (.iconst 0, 1) := by decide +kernel
theorem dX7_wouldBuild_10 : decode cX7_wouldBuild 10 = .ok (.invokevirtual 177, 3) := by decide +kernel
theorem dX7_wouldBuild_13 : decode cX7_wouldBuild 13 = .ok (.invokestatic 181, 3) := by decide +kernel
theorem dX7_wouldBuild_16 : decode cX7_wouldBuild 16 = .ok (.aload_n 0, 1) := by decide +kernel
theorem dX7_wouldBuild_17 : decode cX7_wouldBuild 17 = .ok (.getfield 10, 3) := by decide +kernel
theorem dX7_wouldBuild_20 : decode cX7_wouldBuild 20 = .ok (.aload_n 0, 1) := by decide +kernel
theorem dX7_wouldBuild_21 : decode cX7_wouldBuild 21 = .ok (.getfield 10, 3) := by decide +kernel
theorem dX7_wouldBuild_24 : decode cX7_wouldBuild 24 = .ok (.iload_n 1, 1) := by decide +kernel
theorem dX7_wouldBuild_25 : decode cX7_wouldBuild 25 = .ok (.invokevirtual 174, 3) := by decide +kernel
theorem dX7_wouldBuild_28 : decode cX7_wouldBuild 28 = .ok (.iload_n 1, 1) := by decide +kernel
theorem dX7_wouldBuild_29 : decode cX7_wouldBuild 29 = .ok (.invokevirtual 185, 3) := by decide +kernel
theorem dX7_wouldBuild_32 : decode cX7_wouldBuild 32 = .ok (.ireturn, 1) := by decide +kernel
set_option maxRecDepth 20000 in
theorem ggX7_cheapestFreeSite_X1_cheapestWithoutBridge : GoodIn wsX7_cheapestFreeSite wsX1_cheapestWithoutBridge := goodIn_ca (goodIn_r _ [6, 7, 8, 9, 10, 5, 11, 12, 13, 14, 15, 16, 17, 18, 35, 36, 37, 38, 39, 40, 41, 42, 43, 44, 45, 46, 47, 48, 49, 50] (by decide +kernel) (by decide +kernel)) (goodIn_sub (fun _ h => List.mem_cons_of_mem _ (List.mem_append_left _ (List.mem_append_right _ h))) (by decide +kernel))
set_option maxRecDepth 20000 in
theorem gX7_cheapestFreeSite_X1_cheapestWithoutBridge : GoodIn wsX7_cheapestFreeSite (wsV RX7 188 RX1 yX1_cheapestWithoutBridge wsX1_cheapestWithoutBridge) := goodIn_app (goodIn_of _ (by decide +kernel)) ggX7_cheapestFreeSite_X1_cheapestWithoutBridge
set_option maxRecDepth 20000 in
theorem ggX7_cheapestFreeSite_X7_requireFound : GoodIn wsX7_cheapestFreeSite wsX7_requireFound := goodIn_ca (goodIn_r _ [22, 23, 24] (by decide +kernel) (by decide +kernel)) (goodIn_sub (fun _ h => List.mem_cons_of_mem _ (List.mem_append_right _ h)) (by decide +kernel))
set_option maxRecDepth 20000 in
theorem gX7_cheapestFreeSite_X7_requireFound : GoodIn wsX7_cheapestFreeSite (va_wsS RX7 153 yX7_requireFound wsX7_requireFound) := goodIn_app (goodIn_of _ (by decide +kernel)) ggX7_cheapestFreeSite_X7_requireFound
theorem dX7_cheapestFreeSite_0 : decode cX7_cheapestFreeSite 0 = .ok (.aload_n 0, 1) := by decide +kernel
theorem dX7_cheapestFreeSite_1 : decode cX7_cheapestFreeSite 1 = .ok (.getfield 10, 3) := by decide +kernel
theorem dX7_cheapestFreeSite_4 : decode cX7_cheapestFreeSite 4 = .ok (.invokevirtual 188, 3) := by decide +kernel
theorem dX7_cheapestFreeSite_7 : decode cX7_cheapestFreeSite 7 = .ok (.istore_n 1, 1) := by decide +kernel
theorem dX7_cheapestFreeSite_8 : decode cX7_cheapestFreeSite 8 = .ok (.iload_n 1, 1) := by decide +kernel
theorem dX7_cheapestFreeSite_9 : decode cX7_cheapestFreeSite 9 = .ok (.invokestatic 153, 3) := by decide +kernel
theorem dX7_cheapestFreeSite_12 : decode cX7_cheapestFreeSite 12 = .ok (.iload_n 1, 1) := by decide +kernel
theorem dX7_cheapestFreeSite_13 : decode cX7_cheapestFreeSite 13 = .ok (.ireturn, 1) := by decide +kernel
set_option maxRecDepth 20000 in
theorem ggX7_isConnected_X7_requireIsland : GoodIn wsX7_isConnected wsX7_requireIsland := goodIn_ca (goodIn_r _ [5, 6, 7, 8, 9, 10, 11] (by decide +kernel) (by decide +kernel)) (goodIn_sub (fun _ h => List.mem_cons_of_mem _ (List.mem_append_left _ (List.mem_append_right _ h))) (by decide +kernel))
set_option maxRecDepth 20000 in
theorem gX7_isConnected_X7_requireIsland : GoodIn wsX7_isConnected (va_wsS RX7 95 yX7_requireIsland wsX7_requireIsland) := goodIn_app (goodIn_of _ (by decide +kernel)) ggX7_isConnected_X7_requireIsland
set_option maxRecDepth 20000 in
theorem ggX7_isConnected_X2_reaches : GoodIn wsX7_isConnected wsX2_reaches := goodIn_ca (goodIn_r _ [15, 16, 17, 14, 18, 19, 20, 21, 10, 22, 23, 24, 25, 26, 27, 28, 29, 30, 31, 32, 43, 44, 45, 46, 47, 48, 49, 50, 51, 52, 53, 54, 55, 56, 57, 58] (by decide +kernel) (by decide +kernel)) (goodIn_sub (fun _ h => List.mem_cons_of_mem _ (List.mem_append_right _ h)) (by decide +kernel))
set_option maxRecDepth 20000 in
theorem gX7_isConnected_X2_reaches : GoodIn wsX7_isConnected (va_wsS RX7 192 yX2_reaches wsX2_reaches) := goodIn_app (goodIn_of _ (by decide +kernel)) ggX7_isConnected_X2_reaches
theorem dX7_isConnected_0 : decode cX7_isConnected 0 = .ok (.iload_n 1, 1) := by decide +kernel
theorem dX7_isConnected_1 : decode cX7_isConnected 1 = .ok (.invokestatic 95, 3) := by decide +kernel
theorem dX7_isConnected_4 : decode cX7_isConnected 4 = .ok (.iload_n 2, 1) := by decide +kernel
theorem dX7_isConnected_5 : decode cX7_isConnected 5 = .ok (.invokestatic 95, 3) := by decide +kernel
theorem dX7_isConnected_8 : decode cX7_isConnected 8 = .ok (.aload_n 0, 1) := by decide +kernel
theorem dX7_isConnected_9 : decode cX7_isConnected 9 = .ok (.getfield 10, 3) := by decide +kernel
theorem dX7_isConnected_12 : decode cX7_isConnected 12 = .ok (.iload_n 1, 1) := by decide +kernel
theorem dX7_isConnected_13 : decode cX7_isConnected 13 = .ok (.iload_n 2, 1) := by decide +kernel
theorem dX7_isConnected_14 : decode cX7_isConnected 14 = .ok (.invokestatic 192, 3) := by decide +kernel
theorem dX7_isConnected_17 : decode cX7_isConnected 17 = .ok (.ireturn, 1) := by decide +kernel
set_option maxRecDepth 20000 in
theorem ggX7_distance_X7_requireIsland : GoodIn wsX7_distance wsX7_requireIsland := goodIn_ca (goodIn_r _ [6, 7, 8, 9, 10, 11, 12] (by decide +kernel) (by decide +kernel)) (goodIn_sub (fun _ h => List.mem_cons_of_mem _ (List.mem_append_left _ (List.mem_append_right _ h))) (by decide +kernel))
set_option maxRecDepth 20000 in
theorem gX7_distance_X7_requireIsland : GoodIn wsX7_distance (va_wsS RX7 95 yX7_requireIsland wsX7_requireIsland) := goodIn_app (goodIn_of _ (by decide +kernel)) ggX7_distance_X7_requireIsland
set_option maxRecDepth 20000 in
theorem ggX7_distance_X2_searchNearest : GoodIn wsX7_distance wsX2_searchNearest := goodIn_ca (goodIn_r _ [17, 18, 19, 20, 21, 22, 23, 24, 25, 16, 26, 27, 28, 29, 30, 31, 32, 33, 34, 35, 36, 37, 38, 39, 40, 11, 41, 42, 43, 44, 45, 46, 47, 48, 64, 65, 66, 67, 68, 69, 70, 71, 72, 73, 74, 75, 76, 77, 78, 79, 80, 81, 82] (by decide +kernel) (by decide +kernel)) (goodIn_sub (fun _ h => List.mem_cons_of_mem _ (List.mem_append_left _ (List.mem_append_left _ (List.mem_append_right _ h)))) (by decide +kernel))
set_option maxRecDepth 20000 in
theorem gX7_distance_X2_searchNearest : GoodIn wsX7_distance (wsV RX7 196 RX2 yX2_searchNearest wsX2_searchNearest) := goodIn_app (goodIn_of _ (by decide +kernel)) ggX7_distance_X2_searchNearest
set_option maxRecDepth 20000 in
theorem ggX7_distance_X7_requireNear : GoodIn wsX7_distance wsX7_requireNear := goodIn_ca (goodIn_r _ [51, 52, 53] (by decide +kernel) (by decide +kernel)) (goodIn_sub (fun _ h => List.mem_cons_of_mem _ (List.mem_append_right _ h)) (by decide +kernel))
set_option maxRecDepth 20000 in
theorem gX7_distance_X7_requireNear : GoodIn wsX7_distance (va_wsS RX7 203 yX7_requireNear wsX7_requireNear) := goodIn_app (goodIn_of _ (by decide +kernel)) ggX7_distance_X7_requireNear
theorem dX7_distance_0 : decode cX7_distance 0 = .ok (.iload_n 1, 1) := by decide +kernel
theorem dX7_distance_1 : decode cX7_distance 1 = .ok (.invokestatic 95, 3) := by decide +kernel
theorem dX7_distance_4 : decode cX7_distance 4 = .ok (.iload_n 2, 1) := by decide +kernel
theorem dX7_distance_5 : decode cX7_distance 5 = .ok (.invokestatic 95, 3) := by decide +kernel
theorem dX7_distance_8 : decode cX7_distance 8 = .ok (.aload_n 0, 1) := by decide +kernel
theorem dX7_distance_9 : decode cX7_distance 9 = .ok (.getfield 25, 3) := by decide +kernel
theorem dX7_distance_12 : decode cX7_distance 12 = .ok (.aload_n 0, 1) := by decide +kernel
theorem dX7_distance_13 : decode cX7_distance 13 = .ok (.getfield 10, 3) := by decide +kernel
theorem dX7_distance_16 : decode cX7_distance 16 = .ok (.iload_n 1, 1) := by decide +kernel
theorem dX7_distance_17 : decode cX7_distance 17 = .ok (.invokevirtual 196, 3) := by decide +kernel
theorem dX7_distance_20 : decode cX7_distance 20 = .ok (.aload_n 0, 1) := by decide +kernel
theorem dX7_distance_21 : decode cX7_distance 21 = .ok (.getfield 25, 3) := by decide +kernel
theorem dX7_distance_24 : decode cX7_distance 24 = .ok (.getfield 200, 3) := by decide +kernel
theorem dX7_distance_27 : decode cX7_distance 27 = .ok (.iload_n 2, 1) := by decide +kernel
theorem dX7_distance_28 : decode cX7_distance 28 = .ok (.iaload, 1) := by decide +kernel
theorem dX7_distance_29 : decode cX7_distance 29 = .ok (.invokestatic 203, 3) := by decide +kernel
theorem dX7_distance_32 : decode cX7_distance 32 = .ok (.ireturn, 1) := by decide +kernel
set_option maxRecDepth 20000 in
theorem ggX7_distanceByRelaxation_X7_requireIsland : GoodIn wsX7_distanceByRelaxation wsX7_requireIsland := goodIn_ca (goodIn_r _ [6, 7, 8, 9, 10, 11, 12] (by decide +kernel) (by decide +kernel)) (goodIn_sub (fun _ h => List.mem_cons_of_mem _ (List.mem_append_left _ (List.mem_append_right _ h))) (by decide +kernel))
set_option maxRecDepth 20000 in
theorem gX7_distanceByRelaxation_X7_requireIsland : GoodIn wsX7_distanceByRelaxation (va_wsS RX7 95 yX7_requireIsland wsX7_requireIsland) := goodIn_app (goodIn_of _ (by decide +kernel)) ggX7_distanceByRelaxation_X7_requireIsland
set_option maxRecDepth 20000 in
theorem ggX7_distanceByRelaxation_X2_relaxFrom : GoodIn wsX7_distanceByRelaxation wsX2_relaxFrom := goodIn_ca (goodIn_r _ [17, 18, 19, 20, 21, 22, 23, 24, 25, 16, 26, 27, 28, 29, 30, 31, 32, 33, 11, 34, 35, 51, 52, 53, 54, 55, 56, 57, 58, 59, 60, 61, 62, 63, 64, 65, 66, 67, 68, 69] (by decide +kernel) (by decide +kernel)) (goodIn_sub (fun _ h => List.mem_cons_of_mem _ (List.mem_append_left _ (List.mem_append_left _ (List.mem_append_right _ h)))) (by decide +kernel))
set_option maxRecDepth 20000 in
theorem gX7_distanceByRelaxation_X2_relaxFrom : GoodIn wsX7_distanceByRelaxation (wsV RX7 206 RX2 yX2_relaxFrom wsX2_relaxFrom) := goodIn_app (goodIn_of _ (by decide +kernel)) ggX7_distanceByRelaxation_X2_relaxFrom
set_option maxRecDepth 20000 in
theorem ggX7_distanceByRelaxation_X7_requireNear : GoodIn wsX7_distanceByRelaxation wsX7_requireNear := goodIn_ca (goodIn_r _ [38, 39, 40] (by decide +kernel) (by decide +kernel)) (goodIn_sub (fun _ h => List.mem_cons_of_mem _ (List.mem_append_right _ h)) (by decide +kernel))
set_option maxRecDepth 20000 in
theorem gX7_distanceByRelaxation_X7_requireNear : GoodIn wsX7_distanceByRelaxation (va_wsS RX7 203 yX7_requireNear wsX7_requireNear) := goodIn_app (goodIn_of _ (by decide +kernel)) ggX7_distanceByRelaxation_X7_requireNear
theorem dX7_distanceByRelaxation_0 : decode cX7_distanceByRelaxation 0 = .ok (.iload_n 1, 1) := by decide +kernel
theorem dX7_distanceByRelaxation_1 : decode cX7_distanceByRelaxation 1 = .ok (.invokestatic 95, 3) := by decide +kernel
theorem dX7_distanceByRelaxation_4 : decode cX7_distanceByRelaxation 4 = .ok (.iload_n 2, 1) := by decide +kernel
theorem dX7_distanceByRelaxation_5 : decode cX7_distanceByRelaxation 5 = .ok (.invokestatic 95, 3) := by decide +kernel
theorem dX7_distanceByRelaxation_8 : decode cX7_distanceByRelaxation 8 = .ok (.aload_n 0, 1) := by decide +kernel
theorem dX7_distanceByRelaxation_9 : decode cX7_distanceByRelaxation 9 = .ok (.getfield 25, 3) := by decide +kernel
theorem dX7_distanceByRelaxation_12 : decode cX7_distanceByRelaxation 12 = .ok (.aload_n 0, 1) := by decide +kernel
theorem dX7_distanceByRelaxation_13 : decode cX7_distanceByRelaxation 13 = .ok (.getfield 10, 3) := by decide +kernel
theorem dX7_distanceByRelaxation_16 : decode cX7_distanceByRelaxation 16 = .ok (.iload_n 1, 1) := by decide +kernel
theorem dX7_distanceByRelaxation_17 : decode cX7_distanceByRelaxation 17 = .ok (.invokevirtual 206, 3) := by decide +kernel
theorem dX7_distanceByRelaxation_20 : decode cX7_distanceByRelaxation 20 = .ok (.aload_n 0, 1) := by decide +kernel
theorem dX7_distanceByRelaxation_21 : decode cX7_distanceByRelaxation 21 = .ok (.getfield 25, 3) := by decide +kernel
theorem dX7_distanceByRelaxation_24 : decode cX7_distanceByRelaxation 24 = .ok (.getfield 209, 3) := by decide +kernel
theorem dX7_distanceByRelaxation_27 : decode cX7_distanceByRelaxation 27 = .ok (.iload_n 2, 1) := by decide +kernel
theorem dX7_distanceByRelaxation_28 : decode cX7_distanceByRelaxation 28 = .ok (.iaload, 1) := by decide +kernel
theorem dX7_distanceByRelaxation_29 : decode cX7_distanceByRelaxation 29 = .ok (.invokestatic 203, 3) := by decide +kernel
theorem dX7_distanceByRelaxation_32 : decode cX7_distanceByRelaxation 32 = .ok (.ireturn, 1) := by decide +kernel
set_option maxRecDepth 20000 in
theorem ggX7_componentCount_X2_countBySearch : GoodIn wsX7_componentCount wsX2_countBySearch := goodIn_ca (goodIn_r _ [5, 6, 7, 4, 8, 9, 10, 11, 12, 13, 14, 15, 16, 17, 18, 19, 20, 21, 22, 23, 34, 35, 36, 37, 38, 39, 40, 41, 42, 43, 44, 45, 46, 47, 48, 49] (by decide +kernel) (by decide +kernel)) (goodIn_sub (fun _ h => List.mem_cons_of_mem _ (List.mem_append_right _ h)) (by decide +kernel))
set_option maxRecDepth 20000 in
theorem gX7_componentCount_X2_countBySearch : GoodIn wsX7_componentCount (va_wsS RX7 212 yX2_countBySearch wsX2_countBySearch) := goodIn_app (goodIn_of _ (by decide +kernel)) ggX7_componentCount_X2_countBySearch
theorem dX7_componentCount_0 : decode cX7_componentCount 0 = .ok (.aload_n 0, 1) := by decide +kernel
theorem dX7_componentCount_1 : decode cX7_componentCount 1 = .ok (.getfield 10, 3) := by decide +kernel
theorem dX7_componentCount_4 : decode cX7_componentCount 4 = .ok (.invokestatic 212, 3) := by decide +kernel
theorem dX7_componentCount_7 : decode cX7_componentCount 7 = .ok (.ireturn, 1) := by decide +kernel
set_option maxRecDepth 20000 in
theorem ggX7_componentCountByUnion_X2_countByJoining : GoodIn wsX7_componentCountByUnion wsX2_countByJoining := goodIn_ca (goodIn_r _ [7, 8, 9, 10, 6, 11, 12, 13, 14, 15, 16, 17, 18, 19, 20, 21, 22, 23, 24, 25, 26, 37, 38, 39, 40, 41, 42, 43, 44, 45, 46, 47, 48, 49, 50, 51, 52, 53, 54, 55] (by decide +kernel) (by decide +kernel)) (goodIn_sub (fun _ h => List.mem_cons_of_mem _ (List.mem_append_right _ h)) (by decide +kernel))
set_option maxRecDepth 20000 in
theorem gX7_componentCountByUnion_X2_countByJoining : GoodIn wsX7_componentCountByUnion (wsV RX7 216 RX2 yX2_countByJoining wsX2_countByJoining) := goodIn_app (goodIn_of _ (by decide +kernel)) ggX7_componentCountByUnion_X2_countByJoining
theorem dX7_componentCountByUnion_0 : decode cX7_componentCountByUnion 0 = .ok (.aload_n 0, 1) := by decide +kernel
theorem dX7_componentCountByUnion_1 : decode cX7_componentCountByUnion 1 = .ok (.getfield 25, 3) := by decide +kernel
theorem dX7_componentCountByUnion_4 : decode cX7_componentCountByUnion 4 = .ok (.aload_n 0, 1) := by decide +kernel
theorem dX7_componentCountByUnion_5 : decode cX7_componentCountByUnion 5 = .ok (.getfield 10, 3) := by decide +kernel
theorem dX7_componentCountByUnion_8 : decode cX7_componentCountByUnion 8 = .ok (.invokevirtual 216, 3) := by decide +kernel
theorem dX7_componentCountByUnion_11 : decode cX7_componentCountByUnion 11 = .ok (.ireturn, 1) := by decide +kernel
set_option maxRecDepth 20000 in
theorem ggX7_forestLength_X2_kruskalLength : GoodIn wsX7_forestLength wsX2_kruskalLength := goodIn_ca (goodIn_r _ [7, 8, 9, 10, 6, 11, 12, 13, 14, 15, 16, 17, 18, 19, 20, 21, 22, 23, 24, 25, 26, 37, 38, 39, 40, 41, 42, 43, 44, 45, 46, 47, 48, 49, 50, 51, 52, 53, 54, 55] (by decide +kernel) (by decide +kernel)) (goodIn_sub (fun _ h => List.mem_cons_of_mem _ (List.mem_append_right _ h)) (by decide +kernel))
set_option maxRecDepth 20000 in
theorem gX7_forestLength_X2_kruskalLength : GoodIn wsX7_forestLength (wsV RX7 219 RX2 yX2_kruskalLength wsX2_kruskalLength) := goodIn_app (goodIn_of _ (by decide +kernel)) ggX7_forestLength_X2_kruskalLength
theorem dX7_forestLength_0 : decode cX7_forestLength 0 = .ok (.aload_n 0, 1) := by decide +kernel
theorem dX7_forestLength_1 : decode cX7_forestLength 1 = .ok (.getfield 25, 3) := by decide +kernel
theorem dX7_forestLength_4 : decode cX7_forestLength 4 = .ok (.aload_n 0, 1) := by decide +kernel
theorem dX7_forestLength_5 : decode cX7_forestLength 5 = .ok (.getfield 10, 3) := by decide +kernel
theorem dX7_forestLength_8 : decode cX7_forestLength 8 = .ok (.invokevirtual 219, 3) := by decide +kernel
theorem dX7_forestLength_11 : decode cX7_forestLength 11 = .ok (.ireturn, 1) := by decide +kernel
set_option maxRecDepth 20000 in
theorem ggX7_forestLengthByPrim_X2_primLength : GoodIn wsX7_forestLengthByPrim wsX2_primLength := goodIn_ca (goodIn_r _ [5, 6, 7, 4, 8, 9, 10, 11, 12, 13, 14, 15, 16, 17, 28, 29, 30, 31, 32, 33, 34, 35, 36, 37, 38, 39, 40, 41, 42, 43] (by decide +kernel) (by decide +kernel)) (goodIn_sub (fun _ h => List.mem_cons_of_mem _ (List.mem_append_right _ h)) (by decide +kernel))
set_option maxRecDepth 20000 in
theorem gX7_forestLengthByPrim_X2_primLength : GoodIn wsX7_forestLengthByPrim (va_wsS RX7 222 yX2_primLength wsX2_primLength) := goodIn_app (goodIn_of _ (by decide +kernel)) ggX7_forestLengthByPrim_X2_primLength
theorem dX7_forestLengthByPrim_0 : decode cX7_forestLengthByPrim 0 = .ok (.aload_n 0, 1) := by decide +kernel
theorem dX7_forestLengthByPrim_1 : decode cX7_forestLengthByPrim 1 = .ok (.getfield 10, 3) := by decide +kernel
theorem dX7_forestLengthByPrim_4 : decode cX7_forestLengthByPrim 4 = .ok (.invokestatic 222, 3) := by decide +kernel
theorem dX7_forestLengthByPrim_7 : decode cX7_forestLengthByPrim 7 = .ok (.ireturn, 1) := by decide +kernel
set_option maxRecDepth 20000 in
theorem ggX7_playerByScore_X1_playerAtRank : GoodIn wsX7_playerByScore wsX1_playerAtRank := goodIn_ca (goodIn_r _ [6, 7, 8, 9, 10, 5, 11, 12, 13, 14, 15, 16, 17, 18, 19, 20, 21, 22, 23, 24, 25, 26, 27, 28, 29, 30, 47, 48, 49, 50, 51, 52, 53, 54, 55, 56, 57, 58, 59, 60, 61, 62] (by decide +kernel) (by decide +kernel)) (goodIn_sub (fun _ h => List.mem_cons_of_mem _ (List.mem_append_left _ (List.mem_append_right _ h))) (by decide +kernel))
set_option maxRecDepth 20000 in
theorem gX7_playerByScore_X1_playerAtRank : GoodIn wsX7_playerByScore (wsV RX7 225 RX1 yX1_playerAtRank wsX1_playerAtRank) := goodIn_app (goodIn_of _ (by decide +kernel)) ggX7_playerByScore_X1_playerAtRank
set_option maxRecDepth 20000 in
theorem ggX7_playerByScore_X7_requireFound : GoodIn wsX7_playerByScore wsX7_requireFound := goodIn_ca (goodIn_r _ [34, 35, 36] (by decide +kernel) (by decide +kernel)) (goodIn_sub (fun _ h => List.mem_cons_of_mem _ (List.mem_append_right _ h)) (by decide +kernel))
set_option maxRecDepth 20000 in
theorem gX7_playerByScore_X7_requireFound : GoodIn wsX7_playerByScore (va_wsS RX7 153 yX7_requireFound wsX7_requireFound) := goodIn_app (goodIn_of _ (by decide +kernel)) ggX7_playerByScore_X7_requireFound
theorem dX7_playerByScore_0 : decode cX7_playerByScore 0 = .ok (.aload_n 0, 1) := by decide +kernel
theorem dX7_playerByScore_1 : decode cX7_playerByScore 1 = .ok (.getfield 10, 3) := by decide +kernel
theorem dX7_playerByScore_4 : decode cX7_playerByScore 4 = .ok (.iload_n 1, 1) := by decide +kernel
theorem dX7_playerByScore_5 : decode cX7_playerByScore 5 = .ok (.invokevirtual 225, 3) := by decide +kernel
theorem dX7_playerByScore_8 : decode cX7_playerByScore 8 = .ok (.istore_n 2, 1) := by decide +kernel
theorem dX7_playerByScore_9 : decode cX7_playerByScore 9 = .ok (.iload_n 2, 1) := by decide +kernel
theorem dX7_playerByScore_10 : decode cX7_playerByScore 10 = .ok (.invokestatic 153, 3) := by decide +kernel
theorem dX7_playerByScore_13 : decode cX7_playerByScore 13 = .ok (.iload_n 2, 1) := by decide +kernel
theorem dX7_playerByScore_14 : decode cX7_playerByScore 14 = .ok (.ireturn, 1) := by decide +kernel
theorem dX7_bankMoney_0 : decode cX7_bankMoney 0 = .ok (.aload_n 0, 1) := by decide +kernel
theorem dX7_bankMoney_1 : decode cX7_bankMoney 1 = .ok (.getfield 10, 3) := by decide +kernel
theorem dX7_bankMoney_4 : decode cX7_bankMoney 4 = .ok (.getfield 228, 3) := by decide +kernel
theorem dX7_bankMoney_7 : decode cX7_bankMoney 7 = .ok (.ireturn, 1) := by decide +kernel
set_option maxRecDepth 20000 in
theorem ggX7_meanBridgeLength_X1_bridges : GoodIn wsX7_meanBridgeLength wsX1_bridges := goodIn_ca (goodIn_r _ [8, 9, 10, 11, 12, 7, 13, 14, 30, 31, 32, 33, 34, 35, 36, 37, 38, 39, 40, 41, 42, 43, 44, 45] (by decide +kernel) (by decide +kernel)) (goodIn_sub (fun _ h => List.mem_cons_of_mem _ (List.mem_append_right _ h)) (by decide +kernel))
set_option maxRecDepth 20000 in
theorem gX7_meanBridgeLength_X1_bridges : GoodIn wsX7_meanBridgeLength (wsV RX7 237 RX1 yX1_bridges wsX1_bridges) := goodIn_app (goodIn_of _ (by decide +kernel)) ggX7_meanBridgeLength_X1_bridges
set_option maxRecDepth 20000 in
theorem ggX7_meanBridgeLength_X1_bridgeLengths : GoodIn wsX7_meanBridgeLength wsX1_bridgeLengths := goodIn_ca (goodIn_r _ [18, 9, 19, 10, 11, 12, 7, 13, 14, 30, 31, 32, 33, 34, 35, 36, 37, 38, 39, 40, 41, 42, 43, 44, 45] (by decide +kernel) (by decide +kernel)) (goodIn_sub (fun _ h => List.mem_cons_of_mem _ (List.mem_append_right _ h)) (by decide +kernel))
set_option maxRecDepth 20000 in
theorem gX7_meanBridgeLength_X1_bridgeLengths : GoodIn wsX7_meanBridgeLength (wsV RX7 247 RX1 yX1_bridgeLengths wsX1_bridgeLengths) := goodIn_app (goodIn_of _ (by decide +kernel)) ggX7_meanBridgeLength_X1_bridgeLengths
theorem dX7_meanBridgeLength_0 : decode cX7_meanBridgeLength 0 = .ok (.aload_n 0, 1) := by decide +kernel
theorem dX7_meanBridgeLength_1 : decode cX7_meanBridgeLength 1 = .ok (.getfield 10, 3) := by decide +kernel
theorem dX7_meanBridgeLength_4 : decode cX7_meanBridgeLength 4 = .ok (.invokevirtual 237, 3) := by decide +kernel
theorem dX7_meanBridgeLength_7 : decode cX7_meanBridgeLength 7 = .ok (.istore_n 1, 1) := by decide +kernel
theorem dX7_meanBridgeLength_8 : decode cX7_meanBridgeLength 8 = .ok (.iload_n 1, 1) := by decide +kernel
theorem dX7_meanBridgeLength_9 : decode cX7_meanBridgeLength 9 = .ok (.ifCond .ne 13, 3) := by decide +kernel
theorem dX7_meanBridgeLength_12 : decode cX7_meanBridgeLength 12 = .ok (.new 240, 3) := by decide +kernel
theorem dX7_meanBridgeLength_15 : decode cX7_meanBridgeLength 15 = .ok (.dup, 1) := by decide +kernel
theorem dX7_meanBridgeLength_16 : decode cX7_meanBridgeLength 16 = .ok (.ldc 242, 2) := by decide +kernel
theorem dX7_meanBridgeLength_18 : decode cX7_meanBridgeLength 18 = .ok (.invokespecial 244, 3) := by decide +kernel
theorem dX7_meanBridgeLength_21 : decode cX7_meanBridgeLength 21 = .ok (.athrow, 1) := by decide +kernel
theorem dX7_meanBridgeLength_22 : decode cX7_meanBridgeLength 22 = .ok (.aload_n 0, 1) := by decide +kernel
theorem dX7_meanBridgeLength_23 : decode cX7_meanBridgeLength 23 = .ok (.getfield 10, 3) := by decide +kernel
theorem dX7_meanBridgeLength_26 : decode cX7_meanBridgeLength 26 = .ok (.invokevirtual 247, 3) := by decide +kernel
theorem dX7_meanBridgeLength_29 : decode cX7_meanBridgeLength 29 = .ok (.i2d, 1) := by decide +kernel
theorem dX7_meanBridgeLength_30 : decode cX7_meanBridgeLength 30 = .ok (.iload_n 1, 1) := by decide +kernel
theorem dX7_meanBridgeLength_31 : decode cX7_meanBridgeLength 31 = .ok (.i2d, 1) := by decide +kernel
theorem dX7_meanBridgeLength_32 : decode cX7_meanBridgeLength 32 = .ok (.ddiv, 1) := by decide +kernel
theorem dX7_meanBridgeLength_33 : decode cX7_meanBridgeLength 33 = .ok (.dreturn, 1) := by decide +kernel
set_option maxRecDepth 20000 in
theorem ggX7_builtShare_X1_bridges : GoodIn wsX7_builtShare wsX1_bridges := goodIn_ca (goodIn_r _ [8, 9, 10, 11, 12, 7, 13, 14, 25, 26, 27, 28, 29, 30, 31, 32, 33, 34, 35, 36, 37, 38, 39, 40] (by decide +kernel) (by decide +kernel)) (goodIn_sub (fun _ h => List.mem_cons_of_mem _ (List.mem_append_right _ h)) (by decide +kernel))
set_option maxRecDepth 20000 in
theorem gX7_builtShare_X1_bridges : GoodIn wsX7_builtShare (wsV RX7 237 RX1 yX1_bridges wsX1_bridges) := goodIn_app (goodIn_of _ (by decide +kernel)) ggX7_builtShare_X1_bridges
theorem dX7_builtShare_0 : decode cX7_builtShare 0 = .ok (.aload_n 0, 1) := by decide +kernel
theorem dX7_builtShare_1 : decode cX7_builtShare 1 = .ok (.getfield 10, 3) := by decide +kernel
theorem dX7_builtShare_4 : decode cX7_builtShare 4 = .ok (.getfield 129, 3) := by decide +kernel
theorem dX7_builtShare_7 : decode cX7_builtShare 7 = .ok (.ifCond .ne 13, 3) := by decide +kernel
theorem dX7_builtShare_10 : decode cX7_builtShare 10 = .ok (.new 240, 3) := by decide +kernel
theorem dX7_builtShare_13 : decode cX7_builtShare 13 = .ok (.dup, 1) := by decide +kernel
theorem dX7_builtShare_14 : decode cX7_builtShare 14 = .ok (.ldc 250, 2) := by decide +kernel
theorem dX7_builtShare_16 : decode cX7_builtShare 16 = .ok (.invokespecial 244, 3) := by decide +kernel
theorem dX7_builtShare_19 : decode cX7_builtShare 19 = .ok (.athrow, 1) := by decide +kernel
theorem dX7_builtShare_20 : decode cX7_builtShare 20 = .ok (.aload_n 0, 1) := by decide +kernel
theorem dX7_builtShare_21 : decode cX7_builtShare 21 = .ok (.getfield 10, 3) := by decide +kernel
theorem dX7_builtShare_24 : decode cX7_builtShare 24 = .ok (.invokevirtual 237, 3) := by decide +kernel
theorem dX7_builtShare_27 : decode cX7_builtShare 27 = .ok (.i2f, 1) := by decide +kernel
theorem dX7_builtShare_28 : decode cX7_builtShare 28 = .ok (.aload_n 0, 1) := by decide +kernel
theorem dX7_builtShare_29 : decode cX7_builtShare 29 = .ok (.getfield 10, 3) := by decide +kernel
theorem dX7_builtShare_32 : decode cX7_builtShare 32 = .ok (.getfield 129, 3) := by decide +kernel
theorem dX7_builtShare_35 : decode cX7_builtShare 35 = .ok (.i2f, 1) := by decide +kernel
theorem dX7_builtShare_36 : decode cX7_builtShare 36 = .ok (.fdiv, 1) := by decide +kernel
theorem dX7_builtShare_37 : decode cX7_builtShare 37 = .ok (.freturn, 1) := by decide +kernel
set_option maxRecDepth 20000 in
theorem ggX7_isConsistent_X2_distancesAgree : GoodIn wsX7_isConsistent wsX2_distancesAgree := goodIn_ca (goodIn_r _ [7, 8, 9, 10, 11, 12, 6, 13, 14, 15, 16, 17, 18, 19, 20, 21, 22, 23, 24, 25, 26, 27, 28, 29, 30, 31, 32, 33, 34, 35, 36, 37, 38, 39, 40, 41, 42, 43, 44, 45, 46, 47, 48, 49, 50, 51, 52, 53, 125, 126, 127, 128, 129, 130, 131, 132, 133, 134, 135, 136, 137, 138, 139, 140, 141, 142, 143] (by decide +kernel) (by decide +kernel)) (goodIn_sub (fun _ h => List.mem_cons_of_mem _ (List.mem_append_right _ h)) (by decide +kernel))
set_option maxRecDepth 20000 in
theorem gX7_isConsistent_X2_distancesAgree : GoodIn wsX7_isConsistent (wsV RX7 252 RX2 yX2_distancesAgree wsX2_distancesAgree) := goodIn_app (goodIn_of _ (by decide +kernel)) ggX7_isConsistent_X2_distancesAgree
set_option maxRecDepth 20000 in
theorem ggX7_isConsistent_X2_countBySearch : GoodIn wsX7_isConsistent wsX2_countBySearch := goodIn_ca (goodIn_r _ [56, 22, 23, 6, 24, 57, 58, 59, 33, 34, 35, 36, 37, 38, 39, 40, 41, 42, 43, 44, 128, 129, 130, 131, 132, 133, 134, 135, 136, 137, 138, 139, 140, 141, 142, 143] (by decide +kernel) (by decide +kernel)) (goodIn_sub (fun _ h => List.mem_cons_of_mem _ (List.mem_append_right _ h)) (by decide +kernel))
set_option maxRecDepth 20000 in
theorem gX7_isConsistent_X2_countBySearch : GoodIn wsX7_isConsistent (va_wsS RX7 212 yX2_countBySearch wsX2_countBySearch) := goodIn_app (goodIn_of _ (by decide +kernel)) ggX7_isConsistent_X2_countBySearch
set_option maxRecDepth 20000 in
theorem ggX7_isConsistent_X2_countByJoining : GoodIn wsX7_isConsistent wsX2_countByJoining := goodIn_ca (goodIn_r _ [63, 64, 65, 66, 6, 67, 68, 53, 41, 42, 36, 43, 44, 69, 70, 71, 72, 73, 74, 75, 76, 128, 129, 130, 131, 132, 133, 134, 135, 136, 137, 138, 139, 140, 141, 142, 143, 125, 126, 127] (by decide +kernel) (by decide +kernel)) (goodIn_sub (fun _ h => List.mem_cons_of_mem _ (List.mem_append_right _ h)) (by decide +kernel))
set_option maxRecDepth 20000 in
theorem gX7_isConsistent_X2_countByJoining : GoodIn wsX7_isConsistent (wsV RX7 216 RX2 yX2_countByJoining wsX2_countByJoining) := goodIn_app (goodIn_of _ (by decide +kernel)) ggX7_isConsistent_X2_countByJoining
set_option maxRecDepth 20000 in
theorem ggX7_isConsistent_X2_kruskalLength : GoodIn wsX7_isConsistent wsX2_kruskalLength := goodIn_ca (goodIn_r _ [80, 64, 65, 66, 6, 67, 68, 53, 41, 42, 36, 43, 44, 69, 70, 71, 72, 73, 74, 75, 76, 128, 129, 130, 131, 132, 133, 134, 135, 136, 137, 138, 139, 140, 141, 142, 143, 125, 126, 127] (by decide +kernel) (by decide +kernel)) (goodIn_sub (fun _ h => List.mem_cons_of_mem _ (List.mem_append_right _ h)) (by decide +kernel))
set_option maxRecDepth 20000 in
theorem gX7_isConsistent_X2_kruskalLength : GoodIn wsX7_isConsistent (wsV RX7 219 RX2 yX2_kruskalLength wsX2_kruskalLength) := goodIn_app (goodIn_of _ (by decide +kernel)) ggX7_isConsistent_X2_kruskalLength
set_option maxRecDepth 20000 in
theorem ggX7_isConsistent_X2_primLength : GoodIn wsX7_isConsistent wsX2_primLength := goodIn_ca (goodIn_r _ [83, 84, 85, 6, 86, 53, 41, 42, 36, 43, 44, 22, 23, 24, 128, 129, 130, 131, 132, 133, 134, 135, 136, 137, 138, 139, 140, 141, 142, 143] (by decide +kernel) (by decide +kernel)) (goodIn_sub (fun _ h => List.mem_cons_of_mem _ (List.mem_append_right _ h)) (by decide +kernel))
set_option maxRecDepth 20000 in
theorem gX7_isConsistent_X2_primLength : GoodIn wsX7_isConsistent (va_wsS RX7 222 yX2_primLength wsX2_primLength) := goodIn_app (goodIn_of _ (by decide +kernel)) ggX7_isConsistent_X2_primLength
set_option maxRecDepth 20000 in
theorem ggX7_isConsistent_X1_isEveryPlayerSolvent : GoodIn wsX7_isConsistent wsX1_isEveryPlayerSolvent := goodIn_ca (goodIn_r _ [90, 91, 92, 93, 94, 36, 95, 96, 97, 98, 99, 100, 101, 102, 103, 104, 31, 105, 106, 107, 108, 128, 129, 130, 131, 132, 133, 134, 135, 136, 137, 138, 139, 140, 141, 142, 143] (by decide +kernel) (by decide +kernel)) (goodIn_sub (fun _ h => List.mem_cons_of_mem _ (List.mem_append_right _ h)) (by decide +kernel))
set_option maxRecDepth 20000 in
theorem gX7_isConsistent_X1_isEveryPlayerSolvent : GoodIn wsX7_isConsistent (wsV RX7 256 RX1 yX1_isEveryPlayerSolvent wsX1_isEveryPlayerSolvent) := goodIn_app (goodIn_of _ (by decide +kernel)) ggX7_isConsistent_X1_isEveryPlayerSolvent
set_option maxRecDepth 20000 in
theorem ggX7_isConsistent_X1_isMoneyKept : GoodIn wsX7_isConsistent wsX1_isMoneyKept := goodIn_ca (goodIn_r _ [112, 113, 91, 96, 114, 128, 129, 130, 131, 132, 133, 134, 135, 136, 137, 138, 139, 140, 141, 142, 143] (by decide +kernel) (by decide +kernel)) (goodIn_sub (fun _ h => List.mem_cons_of_mem _ (List.mem_append_right _ h)) (by decide +kernel))
set_option maxRecDepth 20000 in
theorem gX7_isConsistent_X1_isMoneyKept : GoodIn wsX7_isConsistent (wsV RX7 260 RX1 yX1_isMoneyKept wsX1_isMoneyKept) := goodIn_app (goodIn_of _ (by decide +kernel)) ggX7_isConsistent_X1_isMoneyKept
theorem dX7_isConsistent_0 : decode cX7_isConsistent 0 = .ok (.aload_n 0, 1) := by decide +kernel
theorem dX7_isConsistent_1 : decode cX7_isConsistent 1 = .ok (.getfield 25, 3) := by decide +kernel
theorem dX7_isConsistent_4 : decode cX7_isConsistent 4 = .ok (.aload_n 0, 1) := by decide +kernel
theorem dX7_isConsistent_5 : decode cX7_isConsistent 5 = .ok (.getfield 10, 3) := by decide +kernel
theorem dX7_isConsistent_8 : decode cX7_isConsistent 8 = .ok (.invokevirtual 252, 3) := by decide +kernel
theorem dX7_isConsistent_11 : decode cX7_isConsistent 11 = .ok (.ifCond .eq 69, 3) := by decide +kernel
theorem dX7_isConsistent_14 : decode cX7_isConsistent 14 = .ok (.aload_n 0, 1) := by decide +kernel
theorem dX7_isConsistent_15 : decode cX7_isConsistent 15 = .ok (.getfield 10, 3) := by decide +kernel
theorem dX7_isConsistent_18 : decode cX7_isConsistent 18 = .ok (.invokestatic 212, 3) := by decide +kernel
theorem dX7_isConsistent_21 : decode cX7_isConsistent 21 = .ok (.aload_n 0, 1) := by decide +kernel
theorem dX7_isConsistent_22 : decode cX7_isConsistent 22 = .ok (.getfield 25, 3) := by decide +kernel
theorem dX7_isConsistent_25 : decode cX7_isConsistent 25 = .ok (.aload_n 0, 1) := by decide +kernel
theorem dX7_isConsistent_26 : decode cX7_isConsistent 26 = .ok (.getfield 10, 3) := by decide +kernel
theorem dX7_isConsistent_29 : decode cX7_isConsistent 29 = .ok (.invokevirtual 216, 3) := by decide +kernel
theorem dX7_isConsistent_32 : decode cX7_isConsistent 32 = .ok (.if_icmp .ne 48, 3) := by decide +kernel
theorem dX7_isConsistent_35 : decode cX7_isConsistent 35 = .ok (.aload_n 0, 1) := by decide +kernel
theorem dX7_isConsistent_36 : decode cX7_isConsistent 36 = .ok (.getfield 25, 3) := by decide +kernel
theorem dX7_isConsistent_39 : decode cX7_isConsistent 39 = .ok (.aload_n 0, 1) := by decide +kernel
theorem dX7_isConsistent_40 : decode cX7_isConsistent 40 = .ok (.getfield 10, 3) := by decide +kernel
theorem dX7_isConsistent_43 : decode cX7_isConsistent 43 = .ok (.invokevirtual 219, 3) := by decide +kernel
theorem dX7_isConsistent_46 : decode cX7_isConsistent 46 = .ok (.aload_n 0, 1) := by decide +kernel
theorem dX7_isConsistent_47 : decode cX7_isConsistent 47 = .ok (.getfield 10, 3) := by decide +kernel
theorem dX7_isConsistent_50 : decode cX7_isConsistent 50 = .ok (.invokestatic 222, 3) := by decide +kernel
theorem dX7_isConsistent_53 : decode cX7_isConsistent 53 = .ok (.if_icmp .ne 27, 3) := by decide +kernel
theorem dX7_isConsistent_56 : decode cX7_isConsistent 56 = .ok (.aload_n 0, 1) := by decide +kernel
theorem dX7_isConsistent_57 : decode cX7_isConsistent 57 = .ok (.getfield 10, 3) := by decide +kernel
theorem dX7_isConsistent_60 : decode cX7_isConsistent 60 = .ok (.invokevirtual 256, 3) := by decide +kernel
theorem dX7_isConsistent_63 : decode cX7_isConsistent 63 = .ok (.ifCond .eq 17, 3) := by decide +kernel
theorem dX7_isConsistent_66 : decode cX7_isConsistent 66 = .ok (.aload_n 0, 1) := by decide +kernel
theorem dX7_isConsistent_67 : decode cX7_isConsistent 67 = .ok (.getfield 10, 3) := by decide +kernel
theorem dX7_isConsistent_70 : decode cX7_isConsistent 70 = .ok (.invokevirtual 260, 3) := by decide +kernel
theorem dX7_isConsistent_73 : decode cX7_isConsistent 73 = .ok (.ifCond .eq 7, 3) := by decide +kernel
theorem dX7_isConsistent_76 : decode cX7_isConsistent 76 = .ok (.iconst 1, 1) := by decide +kernel
theorem dX7_isConsistent_77 : decode cX7_isConsistent 77 = .ok (.goto 4, 3) := by decide +kernel
theorem dX7_isConsistent_80 : decode cX7_isConsistent 80 = .ok (.iconst 0, 1) := by decide +kernel
theorem dX7_isConsistent_81 : decode cX7_isConsistent 81 = .ok (.ireturn, 1) := by decide +kernel
set_option maxRecDepth 20000 in
theorem ggX7_renderSite_X7_requireSite : GoodIn wsX7_renderSite wsX7_requireSite := goodIn_ca (goodIn_r _ [7, 8, 9, 2, 10, 11, 12, 13, 14, 15, 242, 243, 244, 245, 246, 247, 248, 249, 250, 251, 252, 253, 254, 255, 256, 257, 258, 259, 260, 261, 262, 263, 264, 265, 266, 267] (by decide +kernel) (by decide +kernel)) (goodIn_sub (fun _ h => List.mem_cons_of_mem _ (List.mem_append_left _ (List.mem_append_right _ h))) (by decide +kernel))
set_option maxRecDepth 20000 in
theorem gX7_renderSite_X7_requireSite : GoodIn wsX7_renderSite (wsV RX7 132 RX7 yX7_requireSite wsX7_requireSite) := goodIn_app (goodIn_of _ (by decide +kernel)) ggX7_renderSite_X7_requireSite
set_option maxRecDepth 20000 in
theorem ggX7_renderSite_J4_setLength_d00df : GoodIn wsX7_renderSite wsJ4_setLength_d00df := goodIn_r _ [20, 21, 22, 23, 24, 25, 26, 27, 28, 29, 30, 31, 32, 33, 34, 35, 36, 37, 38, 39, 40, 41, 42, 43, 44, 45, 46, 47, 48, 49, 50, 51, 52, 53, 54, 55, 56, 57, 58, 59, 60, 61, 62, 63, 64, 65, 66, 67, 68, 69, 70, 71, 72, 73, 74, 75, 76, 77, 78, 79, 80, 81, 82, 83, 84, 85, 86, 87, 88, 89, 90, 91, 92, 19, 93, 94, 95, 96, 97, 98, 99, 100, 268, 269, 270, 271, 272, 273, 274, 275, 276, 277, 278, 279, 280, 281, 282, 283] (by decide +kernel) (by decide +kernel)
set_option maxRecDepth 20000 in
theorem gX7_renderSite_J4_setLength_d00df : GoodIn wsX7_renderSite (wsV RX7 263 RJ4 yJ4_setLength_d00df wsJ4_setLength_d00df) := goodIn_app (goodIn_of _ (by decide +kernel)) ggX7_renderSite_J4_setLength_d00df
set_option maxRecDepth 20000 in
theorem ggX7_renderSite_X1_describe : GoodIn wsX7_renderSite wsX1_describe := goodIn_ca (goodIn_r _ [104, 105, 106, 107, 108, 109, 110, 111, 112, 19, 113, 114, 115, 23, 116, 25, 117, 30, 31, 118, 119, 120, 121, 33, 34, 35, 36, 37, 38, 39, 40, 41, 42, 43, 44, 45, 46, 47, 48, 49, 50, 51, 52, 53, 54, 55, 56, 57, 58, 59, 60, 61, 62, 63, 64, 65, 66, 67, 68, 69, 70, 71, 72, 73, 74, 75, 76, 77, 78, 79, 80, 122, 123, 124, 125, 126, 127, 128, 98, 129, 130, 131, 132, 133, 134, 135, 136, 137, 138, 139, 140, 141, 142, 143, 144, 145, 146, 147, 148, 149, 150, 151, 152, 153, 154, 155, 156, 157, 158, 159, 160, 161, 162, 163, 164, 165, 83, 166, 167, 168, 169, 170, 171, 172, 173, 174, 175, 176, 177, 178, 179, 180, 181, 182, 183, 184, 185, 186, 187, 188, 189, 190, 191, 192, 193, 194, 195, 196, 197, 198, 199, 200, 201, 202, 203, 204, 205, 206, 207, 208, 13, 209, 210, 211, 212, 213, 214, 215, 216, 217, 218, 219, 220, 221, 222, 223, 224, 225, 226, 227, 228, 229, 230, 231, 232, 233, 252, 253, 254, 255, 256, 257, 258, 259, 260, 261, 262, 263, 264, 265, 266, 267, 274, 275, 276, 277] (by decide +kernel) (by decide +kernel)) (goodIn_sub (fun _ h => List.mem_cons_of_mem _ (List.mem_append_right _ h)) (by decide +kernel))
set_option maxRecDepth 20000 in
theorem gX7_renderSite_X1_describe : GoodIn wsX7_renderSite (wsV RX7 266 RX1 yX1_describe wsX1_describe) := goodIn_app (goodIn_of _ (by decide +kernel)) ggX7_renderSite_X1_describe
set_option maxRecDepth 20000 in
theorem ggX7_renderSite_J4_length_8abf5 : GoodIn wsX7_renderSite wsJ4_length_8abf5 := goodIn_r _ [237, 238, 239, 23, 240, 25, 241, 30, 274, 275, 276, 277] (by decide +kernel) (by decide +kernel)
set_option maxRecDepth 20000 in
theorem gX7_renderSite_J4_length_8abf5 : GoodIn wsX7_renderSite (wsV RX7 270 RJ4 yJ4_length_8abf5 wsJ4_length_8abf5) := goodIn_app (goodIn_of _ (by decide +kernel)) ggX7_renderSite_J4_length_8abf5
theorem dX7_renderSite_0 : decode cX7_renderSite 0 = .ok (.aload_n 0, 1) := by decide +kernel
theorem dX7_renderSite_1 : decode cX7_renderSite 1 = .ok (.iload_n 1, 1) := by decide +kernel
theorem dX7_renderSite_2 : decode cX7_renderSite 2 = .ok (.invokevirtual 132, 3) := by decide +kernel
theorem dX7_renderSite_5 : decode cX7_renderSite 5 = .ok (.aload_n 0, 1) := by decide +kernel
theorem dX7_renderSite_6 : decode cX7_renderSite 6 = .ok (.getfield 46, 3) := by decide +kernel
theorem dX7_renderSite_9 : decode cX7_renderSite 9 = .ok (.iconst 0, 1) := by decide +kernel
theorem dX7_renderSite_10 : decode cX7_renderSite 10 = .ok (.invokevirtual 263, 3) := by decide +kernel
theorem dX7_renderSite_13 : decode cX7_renderSite 13 = .ok (.aload_n 0, 1) := by decide +kernel
theorem dX7_renderSite_14 : decode cX7_renderSite 14 = .ok (.getfield 10, 3) := by decide +kernel
theorem dX7_renderSite_17 : decode cX7_renderSite 17 = .ok (.iload_n 1, 1) := by decide +kernel
theorem dX7_renderSite_18 : decode cX7_renderSite 18 = .ok (.aload_n 0, 1) := by decide +kernel
theorem dX7_renderSite_19 : decode cX7_renderSite 19 = .ok (.getfield 46, 3) := by decide +kernel
theorem dX7_renderSite_22 : decode cX7_renderSite 22 = .ok (.invokevirtual 266, 3) := by decide +kernel
theorem dX7_renderSite_25 : decode cX7_renderSite 25 = .ok (.aload_n 0, 1) := by decide +kernel
theorem dX7_renderSite_26 : decode cX7_renderSite 26 = .ok (.getfield 46, 3) := by decide +kernel
theorem dX7_renderSite_29 : decode cX7_renderSite 29 = .ok (.invokevirtual 270, 3) := by decide +kernel
theorem dX7_renderSite_32 : decode cX7_renderSite 32 = .ok (.ireturn, 1) := by decide +kernel
set_option maxRecDepth 20000 in
theorem ggX7_outputAt_J4_length_8abf5 : GoodIn wsX7_outputAt wsJ4_length_8abf5 := goodIn_r _ [8, 9, 10, 11, 12, 13, 14, 15, 59, 60, 61, 62] (by decide +kernel) (by decide +kernel)
set_option maxRecDepth 20000 in
theorem gX7_outputAt_J4_length_8abf5 : GoodIn wsX7_outputAt (wsV RX7 270 RJ4 yJ4_length_8abf5 wsJ4_length_8abf5) := goodIn_app (goodIn_of _ (by decide +kernel)) ggX7_outputAt_J4_length_8abf5
set_option maxRecDepth 20000 in
theorem ggX7_outputAt_J4_charAt_5068e : GoodIn wsX7_outputAt wsJ4_charAt_5068e := goodIn_r _ [19, 20, 21, 11, 22, 13, 23, 24, 25, 15, 26, 27, 28, 29, 30, 31, 32, 33, 34, 35, 36, 37, 38, 39, 40, 41, 42, 43, 44, 45, 46, 47, 48, 59, 60, 61, 62] (by decide +kernel) (by decide +kernel)
set_option maxRecDepth 20000 in
theorem gX7_outputAt_J4_charAt_5068e : GoodIn wsX7_outputAt (wsV RX7 278 RJ4 yJ4_charAt_5068e wsJ4_charAt_5068e) := goodIn_app (goodIn_of _ (by decide +kernel)) ggX7_outputAt_J4_charAt_5068e
theorem dX7_outputAt_0 : decode cX7_outputAt 0 = .ok (.iload_n 1, 1) := by decide +kernel
theorem dX7_outputAt_1 : decode cX7_outputAt 1 = .ok (.ifCond .lt 14, 3) := by decide +kernel
theorem dX7_outputAt_4 : decode cX7_outputAt 4 = .ok (.iload_n 1, 1) := by decide +kernel
theorem dX7_outputAt_5 : decode cX7_outputAt 5 = .ok (.aload_n 0, 1) := by decide +kernel
theorem dX7_outputAt_6 : decode cX7_outputAt 6 = .ok (.getfield 46, 3) := by decide +kernel
theorem dX7_outputAt_9 : decode cX7_outputAt 9 = .ok (.invokevirtual 270, 3) := by decide +kernel
theorem dX7_outputAt_12 : decode cX7_outputAt 12 = .ok (.if_icmp .lt 14, 3) := by decide +kernel
theorem dX7_outputAt_15 : decode cX7_outputAt 15 = .ok (.new 273, 3) := by decide +kernel
theorem dX7_outputAt_18 : decode cX7_outputAt 18 = .ok (.dup, 1) := by decide +kernel
theorem dX7_outputAt_19 : decode cX7_outputAt 19 = .ok (.ldc_w 275, 3) := by decide +kernel
theorem dX7_outputAt_22 : decode cX7_outputAt 22 = .ok (.invokespecial 277, 3) := by decide +kernel
theorem dX7_outputAt_25 : decode cX7_outputAt 25 = .ok (.athrow, 1) := by decide +kernel
theorem dX7_outputAt_26 : decode cX7_outputAt 26 = .ok (.aload_n 0, 1) := by decide +kernel
theorem dX7_outputAt_27 : decode cX7_outputAt 27 = .ok (.getfield 46, 3) := by decide +kernel
theorem dX7_outputAt_30 : decode cX7_outputAt 30 = .ok (.iload_n 1, 1) := by decide +kernel
theorem dX7_outputAt_31 : decode cX7_outputAt 31 = .ok (.invokevirtual 278, 3) := by decide +kernel
theorem dX7_outputAt_34 : decode cX7_outputAt 34 = .ok (.ireturn, 1) := by decide +kernel
set_option maxRecDepth 20000 in
theorem ggX7_errorPosition_X7_requireFound : GoodIn wsX7_errorPosition wsX7_requireFound := goodIn_ca (goodIn_r _ [5, 6, 7] (by decide +kernel) (by decide +kernel)) (goodIn_sub (fun _ h => List.mem_cons_of_mem _ (List.mem_append_right _ h)) (by decide +kernel))
set_option maxRecDepth 20000 in
theorem gX7_errorPosition_X7_requireFound : GoodIn wsX7_errorPosition (va_wsS RX7 153 yX7_requireFound wsX7_requireFound) := goodIn_app (goodIn_of _ (by decide +kernel)) ggX7_errorPosition_X7_requireFound
theorem dX7_errorPosition_0 : decode cX7_errorPosition 0 = .ok (.aload_n 0, 1) := by decide +kernel
theorem dX7_errorPosition_1 : decode cX7_errorPosition 1 = .ok (.getfield 54, 3) := by decide +kernel
theorem dX7_errorPosition_4 : decode cX7_errorPosition 4 = .ok (.invokestatic 153, 3) := by decide +kernel
theorem dX7_errorPosition_7 : decode cX7_errorPosition 7 = .ok (.aload_n 0, 1) := by decide +kernel
theorem dX7_errorPosition_8 : decode cX7_errorPosition 8 = .ok (.getfield 54, 3) := by decide +kernel
theorem dX7_errorPosition_11 : decode cX7_errorPosition 11 = .ok (.ireturn, 1) := by decide +kernel
set_option maxRecDepth 20000 in
theorem ggX7_failedCommand_X7_requireFound : GoodIn wsX7_failedCommand wsX7_requireFound := goodIn_ca (goodIn_r _ [5, 6, 7] (by decide +kernel) (by decide +kernel)) (goodIn_sub (fun _ h => List.mem_cons_of_mem _ (List.mem_append_right _ h)) (by decide +kernel))
set_option maxRecDepth 20000 in
theorem gX7_failedCommand_X7_requireFound : GoodIn wsX7_failedCommand (va_wsS RX7 153 yX7_requireFound wsX7_requireFound) := goodIn_app (goodIn_of _ (by decide +kernel)) ggX7_failedCommand_X7_requireFound
theorem dX7_failedCommand_0 : decode cX7_failedCommand 0 = .ok (.aload_n 0, 1) := by decide +kernel
theorem dX7_failedCommand_1 : decode cX7_failedCommand 1 = .ok (.getfield 58, 3) := by decide +kernel
theorem dX7_failedCommand_4 : decode cX7_failedCommand 4 = .ok (.invokestatic 153, 3) := by decide +kernel
theorem dX7_failedCommand_7 : decode cX7_failedCommand 7 = .ok (.aload_n 0, 1) := by decide +kernel
theorem dX7_failedCommand_8 : decode cX7_failedCommand 8 = .ok (.getfield 58, 3) := by decide +kernel
theorem dX7_failedCommand_11 : decode cX7_failedCommand 11 = .ok (.ireturn, 1) := by decide +kernel
set_option maxRecDepth 20000 in
theorem ggX7_change_X1_judge : GoodIn wsX7_change wsX1_judge := goodIn_ca (goodIn_r _ [7, 8, 9, 10, 11, 12, 13, 14, 15, 16, 17, 18, 6, 19, 20, 21, 22, 23, 24, 25, 26, 27, 28, 29, 30, 31, 32, 33, 34, 35, 36, 37, 38, 39, 40, 41, 42, 43, 44, 45, 46, 47, 48, 49, 50, 51, 52, 53, 54, 55, 56, 57, 58, 59, 60, 61, 62, 63, 64, 65, 66, 67, 68, 69, 70, 71, 72, 73, 74, 75, 76, 77, 78, 79, 80, 81, 82, 83, 84, 85, 86, 87, 88, 89, 90, 91, 92, 93, 94, 95, 96, 97, 98, 99, 100, 101, 102, 103, 104, 105, 106, 107, 108, 109, 110, 111, 112, 113, 114, 115, 116, 117, 118, 119, 120, 121, 122, 123, 124, 125, 126, 230, 231, 232, 233, 234, 235, 236, 237, 238, 239, 240, 241, 242, 243, 244, 245] (by decide +kernel) (by decide +kernel)) (goodIn_sub (fun _ h => List.mem_cons_of_mem _ (List.mem_append_left _ (List.mem_append_left _ (List.mem_append_left _ (List.mem_append_left _ (List.mem_append_left _ (List.mem_append_right _ h))))))) (by decide +kernel))
set_option maxRecDepth 20000 in
theorem gX7_change_X1_judge : GoodIn wsX7_change (wsV RX7 177 RX1 yX1_judge wsX1_judge) := goodIn_app (goodIn_of _ (by decide +kernel)) ggX7_change_X1_judge
set_option maxRecDepth 20000 in
theorem ggX7_change_X7_refuseUnlessFine : GoodIn wsX7_change wsX7_refuseUnlessFine := goodIn_ca (goodIn_ca (goodIn_ca (goodIn_ca (goodIn_ca (goodIn_ca (goodIn_r _ [130, 131, 132, 133, 134, 135, 136, 137, 138, 139, 140, 141, 142, 143, 144, 12, 13, 14, 15] (by decide +kernel) (by decide +kernel)) (goodIn_sub (fun _ h => List.mem_cons_of_mem _ (List.mem_append_left _ (List.mem_append_left _ (List.mem_append_left _ (List.mem_append_left _ (List.mem_append_left _ (List.mem_append_right _ h))))))) (by decide +kernel))) (goodIn_sub (fun _ h => List.mem_cons_of_mem _ (List.mem_append_left _ (List.mem_append_left _ (List.mem_append_left _ (List.mem_append_left _ (List.mem_append_right _ h)))))) (by decide +kernel))) (goodIn_sub (fun _ h => List.mem_cons_of_mem _ (List.mem_append_left _ (List.mem_append_left _ (List.mem_append_left _ (List.mem_append_right _ h))))) (by decide +kernel))) (goodIn_sub (fun _ h => List.mem_cons_of_mem _ (List.mem_append_left _ (List.mem_append_left _ (List.mem_append_right _ h)))) (by decide +kernel))) (goodIn_sub (fun _ h => List.mem_cons_of_mem _ (List.mem_append_left _ (List.mem_append_right _ h))) (by decide +kernel))) (goodIn_sub (fun _ h => List.mem_cons_of_mem _ (List.mem_append_right _ h)) (by decide +kernel))
set_option maxRecDepth 20000 in
theorem gX7_change_X7_refuseUnlessFine : GoodIn wsX7_change (va_wsS RX7 181 yX7_refuseUnlessFine wsX7_refuseUnlessFine) := goodIn_app (goodIn_of _ (by decide +kernel)) ggX7_change_X7_refuseUnlessFine
set_option maxRecDepth 20000 in
theorem ggX7_change_X3_push : GoodIn wsX7_change wsX3_push := goodIn_r _ [149, 150, 151, 152, 153, 30, 31, 32, 154, 155, 156, 6, 157, 105, 158, 159, 160, 161, 162, 21, 94, 114, 37, 45, 46, 163, 74, 104, 83, 164, 165, 166, 167, 246, 247, 248, 230, 231, 232, 233, 234, 235, 236, 237, 238, 239, 240, 241, 242, 243, 244, 245] (by decide +kernel) (by decide +kernel)
set_option maxRecDepth 20000 in
theorem gX7_change_X3_push : GoodIn wsX7_change (wsV RX7 317 RX3 yX3_push wsX3_push) := goodIn_app (goodIn_of _ (by decide +kernel)) ggX7_change_X3_push
set_option maxRecDepth 20000 in
theorem ggX7_change_X1_play : GoodIn wsX7_change wsX1_play := goodIn_ca (goodIn_r _ [171, 8, 83, 9, 10, 11, 12, 13, 14, 15, 172, 173, 174, 6, 175, 21, 94, 164, 176, 177, 178, 179, 37, 45, 29, 30, 31, 32, 46, 33, 34, 35, 163, 74, 104, 180, 181, 182, 183, 105, 184, 185, 186, 187, 162, 87, 88, 89, 90, 91, 92, 93, 95, 96, 97, 98, 75, 76, 77, 78, 79, 80, 81, 82, 84, 85, 86, 188, 189, 190, 191, 114, 192, 193, 194, 195, 196, 197, 198, 199, 166, 167, 123, 124, 125, 126, 200, 201, 202, 203, 204, 205, 206, 207, 208, 209, 210, 211, 212, 213, 214, 215, 216, 217, 218, 219, 165, 230, 231, 232, 233, 234, 235, 236, 237, 238, 239, 240, 241, 242, 243, 244, 245] (by decide +kernel) (by decide +kernel)) (goodIn_sub (fun _ h => List.mem_cons_of_mem _ (List.mem_append_left _ (List.mem_append_left _ (List.mem_append_left _ (List.mem_append_left _ (List.mem_append_left _ (List.mem_append_right _ h))))))) (by decide +kernel))
set_option maxRecDepth 20000 in
theorem gX7_change_X1_play : GoodIn wsX7_change (wsV RX7 333 RX1 yX1_play wsX1_play) := goodIn_app (goodIn_of _ (by decide +kernel)) ggX7_change_X1_play
theorem dX7_change_0 : decode cX7_change 0 = .ok (.aload_n 0, 1) := by decide +kernel
theorem dX7_change_1 : decode cX7_change 1 = .ok (.getfield 10, 3) := by decide +kernel
theorem dX7_change_4 : decode cX7_change 4 = .ok (.aload_n 1, 1) := by decide +kernel
theorem dX7_change_5 : decode cX7_change 5 = .ok (.iload_n 2, 1) := by decide +kernel
theorem dX7_change_6 : decode cX7_change 6 = .ok (.iload_n 3, 1) := by decide +kernel
theorem dX7_change_7 : decode cX7_change 7 = .ok (.iload 4, 2) := by decide +kernel
theorem dX7_change_9 : decode cX7_change 9 = .ok (.invokevirtual 177, 3) := by decide +kernel
theorem dX7_change_12 : decode cX7_change 12 = .ok (.invokestatic 181, 3) := by decide +kernel
theorem dX7_change_15 : decode cX7_change 15 = .ok (.aload_n 0, 1) := by decide +kernel
theorem dX7_change_16 : decode cX7_change 16 = .ok (.getfield 32, 3) := by decide +kernel
theorem dX7_change_19 : decode cX7_change 19 = .ok (.aload_n 0, 1) := by decide +kernel
theorem dX7_change_20 : decode cX7_change 20 = .ok (.getfield 10, 3) := by decide +kernel
theorem dX7_change_23 : decode cX7_change 23 = .ok (.invokevirtual 317, 3) := by decide +kernel
theorem dX7_change_26 : decode cX7_change 26 = .ok (.aload_n 0, 1) := by decide +kernel
theorem dX7_change_27 : decode cX7_change 27 = .ok (.getfield 10, 3) := by decide +kernel
theorem dX7_change_30 : decode cX7_change 30 = .ok (.aload_n 1, 1) := by decide +kernel
theorem dX7_change_31 : decode cX7_change 31 = .ok (.iload_n 2, 1) := by decide +kernel
theorem dX7_change_32 : decode cX7_change 32 = .ok (.iload_n 3, 1) := by decide +kernel
theorem dX7_change_33 : decode cX7_change 33 = .ok (.iload 4, 2) := by decide +kernel
theorem dX7_change_35 : decode cX7_change 35 = .ok (.invokevirtual 333, 3) := by decide +kernel
theorem dX7_change_38 : decode cX7_change 38 = .ok (.ireturn, 1) := by decide +kernel
set_option maxRecDepth 20000 in
theorem ggX7_refuseUnlessFine_Jx29ce0_ordinal_8abf5 : GoodIn wsX7_refuseUnlessFine wsJx29ce0_ordinal_8abf5 := goodIn_r _ [17, 18] (by decide +kernel) (by decide +kernel)
set_option maxRecDepth 20000 in
theorem gX7_refuseUnlessFine_Jx29ce0_ordinal_8abf5_u341X6 : GoodIn wsX7_refuseUnlessFine (va_wsU RX7 341 RX6 "java/lang/Enum" ⟨"BridgeAuction$Verdict", "ordinal", "()I"⟩ yJx29ce0_ordinal_8abf5 wsJx29ce0_ordinal_8abf5) := goodIn_app (goodIn_of _ (by decide +kernel)) ggX7_refuseUnlessFine_Jx29ce0_ordinal_8abf5
theorem dX7_refuseUnlessFine_0 : decode cX7_refuseUnlessFine 0 = .ok (.getstatic 336, 3) := by decide +kernel
theorem dX7_refuseUnlessFine_3 : decode cX7_refuseUnlessFine 3 = .ok (.aload_n 0, 1) := by decide +kernel
theorem dX7_refuseUnlessFine_4 : decode cX7_refuseUnlessFine 4 = .ok (.invokevirtual 341, 3) := by decide +kernel
theorem dX7_refuseUnlessFine_7 : decode cX7_refuseUnlessFine 7 = .ok (.iaload, 1) := by decide +kernel
theorem dX7_refuseUnlessFine_8 : decode cX7_refuseUnlessFine 8 = .ok (.tableswitch 91 1 5 #[36, 47, 58, 69, 80], 36) := by decide +kernel
theorem dX7_refuseUnlessFine_44 : decode cX7_refuseUnlessFine 44 = .ok (.new 273, 3) := by decide +kernel
theorem dX7_refuseUnlessFine_47 : decode cX7_refuseUnlessFine 47 = .ok (.dup, 1) := by decide +kernel
theorem dX7_refuseUnlessFine_48 : decode cX7_refuseUnlessFine 48 = .ok (.ldc_w 346, 3) := by decide +kernel
theorem dX7_refuseUnlessFine_51 : decode cX7_refuseUnlessFine 51 = .ok (.invokespecial 277, 3) := by decide +kernel
theorem dX7_refuseUnlessFine_54 : decode cX7_refuseUnlessFine 54 = .ok (.athrow, 1) := by decide +kernel
theorem dX7_refuseUnlessFine_55 : decode cX7_refuseUnlessFine 55 = .ok (.new 282, 3) := by decide +kernel
theorem dX7_refuseUnlessFine_58 : decode cX7_refuseUnlessFine 58 = .ok (.dup, 1) := by decide +kernel
theorem dX7_refuseUnlessFine_59 : decode cX7_refuseUnlessFine 59 = .ok (.ldc_w 348, 3) := by decide +kernel
theorem dX7_refuseUnlessFine_62 : decode cX7_refuseUnlessFine 62 = .ok (.invokespecial 286, 3) := by decide +kernel
theorem dX7_refuseUnlessFine_65 : decode cX7_refuseUnlessFine 65 = .ok (.athrow, 1) := by decide +kernel
theorem dX7_refuseUnlessFine_66 : decode cX7_refuseUnlessFine 66 = .ok (.new 290, 3) := by decide +kernel
theorem dX7_refuseUnlessFine_69 : decode cX7_refuseUnlessFine 69 = .ok (.dup, 1) := by decide +kernel
theorem dX7_refuseUnlessFine_70 : decode cX7_refuseUnlessFine 70 = .ok (.ldc_w 350, 3) := by decide +kernel
theorem dX7_refuseUnlessFine_73 : decode cX7_refuseUnlessFine 73 = .ok (.invokespecial 294, 3) := by decide +kernel
theorem dX7_refuseUnlessFine_76 : decode cX7_refuseUnlessFine 76 = .ok (.athrow, 1) := by decide +kernel
theorem dX7_refuseUnlessFine_77 : decode cX7_refuseUnlessFine 77 = .ok (.new 352, 3) := by decide +kernel
theorem dX7_refuseUnlessFine_80 : decode cX7_refuseUnlessFine 80 = .ok (.dup, 1) := by decide +kernel
theorem dX7_refuseUnlessFine_81 : decode cX7_refuseUnlessFine 81 = .ok (.ldc_w 354, 3) := by decide +kernel
theorem dX7_refuseUnlessFine_84 : decode cX7_refuseUnlessFine 84 = .ok (.invokespecial 356, 3) := by decide +kernel
theorem dX7_refuseUnlessFine_87 : decode cX7_refuseUnlessFine 87 = .ok (.athrow, 1) := by decide +kernel
theorem dX7_refuseUnlessFine_88 : decode cX7_refuseUnlessFine 88 = .ok (.new 323, 3) := by decide +kernel
theorem dX7_refuseUnlessFine_91 : decode cX7_refuseUnlessFine 91 = .ok (.dup, 1) := by decide +kernel
theorem dX7_refuseUnlessFine_92 : decode cX7_refuseUnlessFine 92 = .ok (.ldc_w 357, 3) := by decide +kernel
theorem dX7_refuseUnlessFine_95 : decode cX7_refuseUnlessFine 95 = .ok (.invokespecial 327, 3) := by decide +kernel
theorem dX7_refuseUnlessFine_98 : decode cX7_refuseUnlessFine 98 = .ok (.athrow, 1) := by decide +kernel
theorem dX7_refuseUnlessFine_99 : decode cX7_refuseUnlessFine 99 = .ok (.return_, 1) := by decide +kernel
set_option maxRecDepth 20000 in
theorem ggX7_requireIsland_X1_isIsland : GoodIn wsX7_requireIsland wsX1_isIsland := goodIn_r _ [6] (by decide +kernel) (by decide +kernel)
set_option maxRecDepth 20000 in
theorem gX7_requireIsland_X1_isIsland : GoodIn wsX7_requireIsland (va_wsS RX7 359 yX1_isIsland wsX1_isIsland) := goodIn_app (goodIn_of _ (by decide +kernel)) ggX7_requireIsland_X1_isIsland
theorem dX7_requireIsland_0 : decode cX7_requireIsland 0 = .ok (.iload_n 0, 1) := by decide +kernel
theorem dX7_requireIsland_1 : decode cX7_requireIsland 1 = .ok (.invokestatic 359, 3) := by decide +kernel
theorem dX7_requireIsland_4 : decode cX7_requireIsland 4 = .ok (.ifCond .ne 14, 3) := by decide +kernel
theorem dX7_requireIsland_7 : decode cX7_requireIsland 7 = .ok (.new 273, 3) := by decide +kernel
theorem dX7_requireIsland_10 : decode cX7_requireIsland 10 = .ok (.dup, 1) := by decide +kernel
theorem dX7_requireIsland_11 : decode cX7_requireIsland 11 = .ok (.ldc_w 362, 3) := by decide +kernel
theorem dX7_requireIsland_14 : decode cX7_requireIsland 14 = .ok (.invokespecial 277, 3) := by decide +kernel
theorem dX7_requireIsland_17 : decode cX7_requireIsland 17 = .ok (.athrow, 1) := by decide +kernel
theorem dX7_requireIsland_18 : decode cX7_requireIsland 18 = .ok (.return_, 1) := by decide +kernel
set_option maxRecDepth 20000 in
theorem ggX7_requirePlayer_X1_isPlayer : GoodIn wsX7_requirePlayer wsX1_isPlayer := goodIn_r _ [8, 9, 20, 21, 22, 23, 24, 25, 26, 27, 28, 29, 30, 31, 32, 33, 34, 35] (by decide +kernel) (by decide +kernel)
set_option maxRecDepth 20000 in
theorem gX7_requirePlayer_X1_isPlayer : GoodIn wsX7_requirePlayer (wsV RX7 364 RX1 yX1_isPlayer wsX1_isPlayer) := goodIn_app (goodIn_of _ (by decide +kernel)) ggX7_requirePlayer_X1_isPlayer
theorem dX7_requirePlayer_0 : decode cX7_requirePlayer 0 = .ok (.aload_n 0, 1) := by decide +kernel
theorem dX7_requirePlayer_1 : decode cX7_requirePlayer 1 = .ok (.getfield 10, 3) := by decide +kernel
theorem dX7_requirePlayer_4 : decode cX7_requirePlayer 4 = .ok (.iload_n 1, 1) := by decide +kernel
theorem dX7_requirePlayer_5 : decode cX7_requirePlayer 5 = .ok (.invokevirtual 364, 3) := by decide +kernel
theorem dX7_requirePlayer_8 : decode cX7_requirePlayer 8 = .ok (.ifCond .ne 14, 3) := by decide +kernel
theorem dX7_requirePlayer_11 : decode cX7_requirePlayer 11 = .ok (.new 273, 3) := by decide +kernel
theorem dX7_requirePlayer_14 : decode cX7_requirePlayer 14 = .ok (.dup, 1) := by decide +kernel
theorem dX7_requirePlayer_15 : decode cX7_requirePlayer 15 = .ok (.ldc_w 367, 3) := by decide +kernel
theorem dX7_requirePlayer_18 : decode cX7_requirePlayer 18 = .ok (.invokespecial 277, 3) := by decide +kernel
theorem dX7_requirePlayer_21 : decode cX7_requirePlayer 21 = .ok (.athrow, 1) := by decide +kernel
theorem dX7_requirePlayer_22 : decode cX7_requirePlayer 22 = .ok (.return_, 1) := by decide +kernel
set_option maxRecDepth 20000 in
theorem ggX7_requireSite_X1_isSite : GoodIn wsX7_requireSite wsX1_isSite := goodIn_r _ [8, 9, 20, 21, 22, 23, 24, 25, 26, 27, 28, 29, 30, 31, 32, 33, 34, 35] (by decide +kernel) (by decide +kernel)
set_option maxRecDepth 20000 in
theorem gX7_requireSite_X1_isSite : GoodIn wsX7_requireSite (wsV RX7 369 RX1 yX1_isSite wsX1_isSite) := goodIn_app (goodIn_of _ (by decide +kernel)) ggX7_requireSite_X1_isSite
theorem dX7_requireSite_0 : decode cX7_requireSite 0 = .ok (.aload_n 0, 1) := by decide +kernel
theorem dX7_requireSite_1 : decode cX7_requireSite 1 = .ok (.getfield 10, 3) := by decide +kernel
theorem dX7_requireSite_4 : decode cX7_requireSite 4 = .ok (.iload_n 1, 1) := by decide +kernel
theorem dX7_requireSite_5 : decode cX7_requireSite 5 = .ok (.invokevirtual 369, 3) := by decide +kernel
theorem dX7_requireSite_8 : decode cX7_requireSite 8 = .ok (.ifCond .ne 14, 3) := by decide +kernel
theorem dX7_requireSite_11 : decode cX7_requireSite 11 = .ok (.new 273, 3) := by decide +kernel
theorem dX7_requireSite_14 : decode cX7_requireSite 14 = .ok (.dup, 1) := by decide +kernel
theorem dX7_requireSite_15 : decode cX7_requireSite 15 = .ok (.ldc_w 372, 3) := by decide +kernel
theorem dX7_requireSite_18 : decode cX7_requireSite 18 = .ok (.invokespecial 277, 3) := by decide +kernel
theorem dX7_requireSite_21 : decode cX7_requireSite 21 = .ok (.athrow, 1) := by decide +kernel
theorem dX7_requireSite_22 : decode cX7_requireSite 22 = .ok (.return_, 1) := by decide +kernel
set_option maxRecDepth 20000 in
theorem ggX7_requireBid_X7_requirePlayer : GoodIn wsX7_requireBid wsX7_requirePlayer := goodIn_ca (goodIn_r _ [8, 9, 10, 3, 11, 12, 13, 14, 15, 16, 34, 35, 36, 37, 38, 39, 40, 41, 42, 43, 44, 45, 46, 47, 48, 49, 50, 51, 52, 53, 54, 55, 56, 57, 58, 59] (by decide +kernel) (by decide +kernel)) (goodIn_sub (fun _ h => List.mem_cons_of_mem _ (List.mem_append_left _ (List.mem_append_right _ h))) (by decide +kernel))
set_option maxRecDepth 20000 in
theorem gX7_requireBid_X7_requirePlayer : GoodIn wsX7_requireBid (wsV RX7 109 RX7 yX7_requirePlayer wsX7_requirePlayer) := goodIn_app (goodIn_of _ (by decide +kernel)) ggX7_requireBid_X7_requirePlayer
set_option maxRecDepth 20000 in
theorem ggX7_requireBid_X7_requireSite : GoodIn wsX7_requireBid wsX7_requireSite := goodIn_ca (goodIn_r _ [20, 9, 10, 3, 21, 22, 23, 14, 24, 25, 34, 35, 36, 37, 38, 39, 40, 41, 42, 43, 44, 45, 46, 47, 48, 49, 50, 51, 52, 53, 54, 55, 56, 57, 58, 59] (by decide +kernel) (by decide +kernel)) (goodIn_sub (fun _ h => List.mem_cons_of_mem _ (List.mem_append_left _ (List.mem_append_right _ h))) (by decide +kernel))
set_option maxRecDepth 20000 in
theorem gX7_requireBid_X7_requireSite : GoodIn wsX7_requireBid (wsV RX7 132 RX7 yX7_requireSite wsX7_requireSite) := goodIn_app (goodIn_of _ (by decide +kernel)) ggX7_requireBid_X7_requireSite
set_option maxRecDepth 20000 in
theorem ggX7_requireBid_X1_hasBid : GoodIn wsX7_requireBid wsX1_hasBid := goodIn_ca (goodIn_r _ [29, 30, 31, 32, 14, 33, 44, 45, 46, 47, 48, 49, 50, 51, 52, 53, 54, 55, 56, 57, 58, 59] (by decide +kernel) (by decide +kernel)) (goodIn_sub (fun _ h => List.mem_cons_of_mem _ (List.mem_append_right _ h)) (by decide +kernel))
set_option maxRecDepth 20000 in
theorem gX7_requireBid_X1_hasBid : GoodIn wsX7_requireBid (wsV RX7 374 RX1 yX1_hasBid wsX1_hasBid) := goodIn_app (goodIn_of _ (by decide +kernel)) ggX7_requireBid_X1_hasBid
theorem dX7_requireBid_0 : decode cX7_requireBid 0 = .ok (.aload_n 0, 1) := by decide +kernel
theorem dX7_requireBid_1 : decode cX7_requireBid 1 = .ok (.iload_n 1, 1) := by decide +kernel
theorem dX7_requireBid_2 : decode cX7_requireBid 2 = .ok (.invokevirtual 109, 3) := by decide +kernel
theorem dX7_requireBid_5 : decode cX7_requireBid 5 = .ok (.aload_n 0, 1) := by decide +kernel
theorem dX7_requireBid_6 : decode cX7_requireBid 6 = .ok (.iload_n 2, 1) := by decide +kernel
theorem dX7_requireBid_7 : decode cX7_requireBid 7 = .ok (.invokevirtual 132, 3) := by decide +kernel
theorem dX7_requireBid_10 : decode cX7_requireBid 10 = .ok (.aload_n 0, 1) := by decide +kernel
theorem dX7_requireBid_11 : decode cX7_requireBid 11 = .ok (.getfield 10, 3) := by decide +kernel
theorem dX7_requireBid_14 : decode cX7_requireBid 14 = .ok (.iload_n 1, 1) := by decide +kernel
theorem dX7_requireBid_15 : decode cX7_requireBid 15 = .ok (.iload_n 2, 1) := by decide +kernel
theorem dX7_requireBid_16 : decode cX7_requireBid 16 = .ok (.invokevirtual 374, 3) := by decide +kernel
theorem dX7_requireBid_19 : decode cX7_requireBid 19 = .ok (.ifCond .ne 14, 3) := by decide +kernel
theorem dX7_requireBid_22 : decode cX7_requireBid 22 = .ok (.new 323, 3) := by decide +kernel
theorem dX7_requireBid_25 : decode cX7_requireBid 25 = .ok (.dup, 1) := by decide +kernel
theorem dX7_requireBid_26 : decode cX7_requireBid 26 = .ok (.ldc_w 377, 3) := by decide +kernel
theorem dX7_requireBid_29 : decode cX7_requireBid 29 = .ok (.invokespecial 327, 3) := by decide +kernel
theorem dX7_requireBid_32 : decode cX7_requireBid 32 = .ok (.athrow, 1) := by decide +kernel
theorem dX7_requireBid_33 : decode cX7_requireBid 33 = .ok (.return_, 1) := by decide +kernel
theorem dX7_requireFound_0 : decode cX7_requireFound 0 = .ok (.iload_n 0, 1) := by decide +kernel
theorem dX7_requireFound_1 : decode cX7_requireFound 1 = .ok (.iconst (-1), 1) := by decide +kernel
theorem dX7_requireFound_2 : decode cX7_requireFound 2 = .ok (.if_icmp .ne 14, 3) := by decide +kernel
theorem dX7_requireFound_5 : decode cX7_requireFound 5 = .ok (.new 323, 3) := by decide +kernel
theorem dX7_requireFound_8 : decode cX7_requireFound 8 = .ok (.dup, 1) := by decide +kernel
theorem dX7_requireFound_9 : decode cX7_requireFound 9 = .ok (.ldc_w 379, 3) := by decide +kernel
theorem dX7_requireFound_12 : decode cX7_requireFound 12 = .ok (.invokespecial 327, 3) := by decide +kernel
theorem dX7_requireFound_15 : decode cX7_requireFound 15 = .ok (.athrow, 1) := by decide +kernel
theorem dX7_requireFound_16 : decode cX7_requireFound 16 = .ok (.return_, 1) := by decide +kernel
theorem dX7_requireNear_0 : decode cX7_requireNear 0 = .ok (.iload_n 0, 1) := by decide +kernel
theorem dX7_requireNear_1 : decode cX7_requireNear 1 = .ok (.sipush 1000, 3) := by decide +kernel
theorem dX7_requireNear_4 : decode cX7_requireNear 4 = .ok (.if_icmp .ne 14, 3) := by decide +kernel
theorem dX7_requireNear_7 : decode cX7_requireNear 7 = .ok (.new 323, 3) := by decide +kernel
theorem dX7_requireNear_10 : decode cX7_requireNear 10 = .ok (.dup, 1) := by decide +kernel
theorem dX7_requireNear_11 : decode cX7_requireNear 11 = .ok (.ldc_w 381, 3) := by decide +kernel
theorem dX7_requireNear_14 : decode cX7_requireNear 14 = .ok (.invokespecial 327, 3) := by decide +kernel
theorem dX7_requireNear_17 : decode cX7_requireNear 17 = .ok (.athrow, 1) := by decide +kernel
theorem dX7_requireNear_18 : decode cX7_requireNear 18 = .ok (.iload_n 0, 1) := by decide +kernel
theorem dX7_requireNear_19 : decode cX7_requireNear 19 = .ok (.ireturn, 1) := by decide +kernel
