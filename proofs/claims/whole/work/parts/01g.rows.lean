set_option maxRecDepth 20000 in
theorem ggX6_best_X6_isBetterBy : GoodIn wsX6_best wsX6_isBetterBy := goodIn_r _ [9, 1, 10, 11, 12, 13, 14, 15, 8, 16, 17, 18, 19, 20, 21, 22, 23, 24, 25, 26, 27, 28, 29, 30, 31, 32, 33, 34, 35, 36, 37, 38, 39, 40, 41, 42, 43, 44, 45, 46, 47, 48, 49, 50, 51, 52, 53, 54, 55, 56, 57, 58] (by decide +kernel) (by decide +kernel)
set_option maxRecDepth 20000 in
theorem gX6_best_X6_isBetterBy : GoodIn wsX6_best (wsV RX6 173 RX6 yX6_isBetterBy wsX6_isBetterBy) := goodIn_app (goodIn_of _ (by decide +kernel)) ggX6_best_X6_isBetterBy
theorem dX6_best_0 : decode cX6_best 0 = .ok (.iconst (-1), 1) := by decide +kernel
theorem dX6_best_1 : decode cX6_best 1 = .ok (.istore_n 3, 1) := by decide +kernel
theorem dX6_best_2 : decode cX6_best 2 = .ok (.iconst 5, 1) := by decide +kernel
theorem dX6_best_3 : decode cX6_best 3 = .ok (.iload_n 1, 1) := by decide +kernel
theorem dX6_best_4 : decode cX6_best 4 = .ok (.imul, 1) := by decide +kernel
theorem dX6_best_5 : decode cX6_best 5 = .ok (.istore 4, 2) := by decide +kernel
theorem dX6_best_7 : decode cX6_best 7 = .ok (.iload 4, 2) := by decide +kernel
theorem dX6_best_9 : decode cX6_best 9 = .ok (.iconst 5, 1) := by decide +kernel
theorem dX6_best_10 : decode cX6_best 10 = .ok (.iload_n 1, 1) := by decide +kernel
theorem dX6_best_11 : decode cX6_best 11 = .ok (.imul, 1) := by decide +kernel
theorem dX6_best_12 : decode cX6_best 12 = .ok (.iconst 5, 1) := by decide +kernel
theorem dX6_best_13 : decode cX6_best 13 = .ok (.iadd, 1) := by decide +kernel
theorem dX6_best_14 : decode cX6_best 14 = .ok (.if_icmp .ge 90, 3) := by decide +kernel
theorem dX6_best_17 : decode cX6_best 17 = .ok (.aload_n 0, 1) := by decide +kernel
theorem dX6_best_18 : decode cX6_best 18 = .ok (.getfield 69, 3) := by decide +kernel
theorem dX6_best_21 : decode cX6_best 21 = .ok (.iload 4, 2) := by decide +kernel
theorem dX6_best_23 : decode cX6_best 23 = .ok (.iaload, 1) := by decide +kernel
theorem dX6_best_24 : decode cX6_best 24 = .ok (.iconst (-1), 1) := by decide +kernel
theorem dX6_best_25 : decode cX6_best 25 = .ok (.if_icmp .eq 47, 3) := by decide +kernel
theorem dX6_best_28 : decode cX6_best 28 = .ok (.aload_n 0, 1) := by decide +kernel
theorem dX6_best_29 : decode cX6_best 29 = .ok (.getfield 75, 3) := by decide +kernel
theorem dX6_best_32 : decode cX6_best 32 = .ok (.iload 4, 2) := by decide +kernel
theorem dX6_best_34 : decode cX6_best 34 = .ok (.iaload, 1) := by decide +kernel
theorem dX6_best_35 : decode cX6_best 35 = .ok (.bipush 7, 2) := by decide +kernel
theorem dX6_best_37 : decode cX6_best 37 = .ok (.if_icmp .ge 35, 3) := by decide +kernel
theorem dX6_best_40 : decode cX6_best 40 = .ok (.iload_n 2, 1) := by decide +kernel
theorem dX6_best_41 : decode cX6_best 41 = .ok (.ifCond .eq 16, 3) := by decide +kernel
theorem dX6_best_44 : decode cX6_best 44 = .ok (.aload_n 0, 1) := by decide +kernel
theorem dX6_best_45 : decode cX6_best 45 = .ok (.getfield 78, 3) := by decide +kernel
theorem dX6_best_48 : decode cX6_best 48 = .ok (.iload 4, 2) := by decide +kernel
theorem dX6_best_50 : decode cX6_best 50 = .ok (.baload, 1) := by decide +kernel
theorem dX6_best_51 : decode cX6_best 51 = .ok (.ifCond .eq 21, 3) := by decide +kernel
theorem dX6_best_54 : decode cX6_best 54 = .ok (.goto 14, 3) := by decide +kernel
theorem dX6_best_57 : decode cX6_best 57 = .ok (.aload_n 0, 1) := by decide +kernel
theorem dX6_best_58 : decode cX6_best 58 = .ok (.getfield 26, 3) := by decide +kernel
theorem dX6_best_61 : decode cX6_best 61 = .ok (.iload 4, 2) := by decide +kernel
theorem dX6_best_63 : decode cX6_best 63 = .ok (.iaload, 1) := by decide +kernel
theorem dX6_best_64 : decode cX6_best 64 = .ok (.iconst 1, 1) := by decide +kernel
theorem dX6_best_65 : decode cX6_best 65 = .ok (.if_icmp .eq 7, 3) := by decide +kernel
theorem dX6_best_68 : decode cX6_best 68 = .ok (.iconst 1, 1) := by decide +kernel
theorem dX6_best_69 : decode cX6_best 69 = .ok (.goto 4, 3) := by decide +kernel
theorem dX6_best_72 : decode cX6_best 72 = .ok (.iconst 0, 1) := by decide +kernel
theorem dX6_best_73 : decode cX6_best 73 = .ok (.istore 5, 2) := by decide +kernel
theorem dX6_best_75 : decode cX6_best 75 = .ok (.iload 5, 2) := by decide +kernel
theorem dX6_best_77 : decode cX6_best 77 = .ok (.ifCond .eq 19, 3) := by decide +kernel
theorem dX6_best_80 : decode cX6_best 80 = .ok (.aload_n 0, 1) := by decide +kernel
theorem dX6_best_81 : decode cX6_best 81 = .ok (.iload_n 1, 1) := by decide +kernel
theorem dX6_best_82 : decode cX6_best 82 = .ok (.iload 4, 2) := by decide +kernel
theorem dX6_best_84 : decode cX6_best 84 = .ok (.iload_n 3, 1) := by decide +kernel
theorem dX6_best_85 : decode cX6_best 85 = .ok (.invokevirtual 173, 3) := by decide +kernel
theorem dX6_best_88 : decode cX6_best 88 = .ok (.ifCond .eq 8, 3) := by decide +kernel
theorem dX6_best_91 : decode cX6_best 91 = .ok (.iload 4, 2) := by decide +kernel
theorem dX6_best_93 : decode cX6_best 93 = .ok (.goto 4, 3) := by decide +kernel
theorem dX6_best_96 : decode cX6_best 96 = .ok (.iload_n 3, 1) := by decide +kernel
theorem dX6_best_97 : decode cX6_best 97 = .ok (.istore_n 3, 1) := by decide +kernel
theorem dX6_best_98 : decode cX6_best 98 = .ok (.iinc 4 1, 3) := by decide +kernel
theorem dX6_best_101 : decode cX6_best 101 = .ok (.goto (-94), 3) := by decide +kernel
theorem dX6_best_104 : decode cX6_best 104 = .ok (.iload_n 3, 1) := by decide +kernel
theorem dX6_best_105 : decode cX6_best 105 = .ok (.ireturn, 1) := by decide +kernel
set_option maxRecDepth 20000 in
theorem ggX6_holds_X6_best : GoodIn wsX6_holds wsX6_best := goodIn_r _ [15, 1, 10, 2, 3, 16, 17, 18, 14, 19, 7, 8, 20, 21, 22, 23, 24, 25, 26, 27, 28, 29, 30, 31, 32, 33, 34, 35, 36, 37, 38, 39, 40, 41, 42, 43, 44, 45, 46, 47, 48, 49, 50, 51, 52, 53, 54, 55, 56, 57, 58, 59, 60, 61, 62, 63, 64, 65, 66] (by decide +kernel) (by decide +kernel)
set_option maxRecDepth 20000 in
theorem gX6_holds_X6_best : GoodIn wsX6_holds (wsV RX6 176 RX6 yX6_best wsX6_best) := goodIn_app (goodIn_of _ (by decide +kernel)) ggX6_holds_X6_best
set_option maxRecDepth 20000 in
theorem ggX6_holds_X6_isBetter : GoodIn wsX6_holds wsX6_isBetter := goodIn_r _ [24, 25, 26, 27, 28, 29, 30, 31, 32, 33, 34, 35, 36, 37, 38, 39, 40, 41, 42, 43, 44, 45, 46, 47, 48, 49, 50, 51, 52, 53, 54, 55, 56, 57, 58, 59, 60, 61, 62, 63, 64, 65, 66] (by decide +kernel) (by decide +kernel)
set_option maxRecDepth 20000 in
theorem gX6_holds_X6_isBetter : GoodIn wsX6_holds (wsV RX6 170 RX6 yX6_isBetter wsX6_isBetter) := goodIn_app (goodIn_of _ (by decide +kernel)) ggX6_holds_X6_isBetter
theorem dX6_holds_0 : decode cX6_holds 0 = .ok (.aload_n 0, 1) := by decide +kernel
theorem dX6_holds_1 : decode cX6_holds 1 = .ok (.iload_n 1, 1) := by decide +kernel
theorem dX6_holds_2 : decode cX6_holds 2 = .ok (.iconst 0, 1) := by decide +kernel
theorem dX6_holds_3 : decode cX6_holds 3 = .ok (.invokevirtual 176, 3) := by decide +kernel
theorem dX6_holds_6 : decode cX6_holds 6 = .ok (.istore_n 2, 1) := by decide +kernel
theorem dX6_holds_7 : decode cX6_holds 7 = .ok (.iload_n 2, 1) := by decide +kernel
theorem dX6_holds_8 : decode cX6_holds 8 = .ok (.iconst (-1), 1) := by decide +kernel
theorem dX6_holds_9 : decode cX6_holds 9 = .ok (.if_icmp .ne 7, 3) := by decide +kernel
theorem dX6_holds_12 : decode cX6_holds 12 = .ok (.iload_n 1, 1) := by decide +kernel
theorem dX6_holds_13 : decode cX6_holds 13 = .ok (.goto 9, 3) := by decide +kernel
theorem dX6_holds_16 : decode cX6_holds 16 = .ok (.aload_n 0, 1) := by decide +kernel
theorem dX6_holds_17 : decode cX6_holds 17 = .ok (.getfield 69, 3) := by decide +kernel
theorem dX6_holds_20 : decode cX6_holds 20 = .ok (.iload_n 2, 1) := by decide +kernel
theorem dX6_holds_21 : decode cX6_holds 21 = .ok (.iaload, 1) := by decide +kernel
theorem dX6_holds_22 : decode cX6_holds 22 = .ok (.istore_n 3, 1) := by decide +kernel
theorem dX6_holds_23 : decode cX6_holds 23 = .ok (.iconst 5, 1) := by decide +kernel
theorem dX6_holds_24 : decode cX6_holds 24 = .ok (.iload_n 1, 1) := by decide +kernel
theorem dX6_holds_25 : decode cX6_holds 25 = .ok (.imul, 1) := by decide +kernel
theorem dX6_holds_26 : decode cX6_holds 26 = .ok (.istore 4, 2) := by decide +kernel
theorem dX6_holds_28 : decode cX6_holds 28 = .ok (.iload 4, 2) := by decide +kernel
theorem dX6_holds_30 : decode cX6_holds 30 = .ok (.iconst 5, 1) := by decide +kernel
theorem dX6_holds_31 : decode cX6_holds 31 = .ok (.iload_n 1, 1) := by decide +kernel
theorem dX6_holds_32 : decode cX6_holds 32 = .ok (.imul, 1) := by decide +kernel
theorem dX6_holds_33 : decode cX6_holds 33 = .ok (.iconst 5, 1) := by decide +kernel
theorem dX6_holds_34 : decode cX6_holds 34 = .ok (.iadd, 1) := by decide +kernel
theorem dX6_holds_35 : decode cX6_holds 35 = .ok (.if_icmp .ge 58, 3) := by decide +kernel
theorem dX6_holds_38 : decode cX6_holds 38 = .ok (.aload_n 0, 1) := by decide +kernel
theorem dX6_holds_39 : decode cX6_holds 39 = .ok (.getfield 78, 3) := by decide +kernel
theorem dX6_holds_42 : decode cX6_holds 42 = .ok (.iload 4, 2) := by decide +kernel
theorem dX6_holds_44 : decode cX6_holds 44 = .ok (.aload_n 0, 1) := by decide +kernel
theorem dX6_holds_45 : decode cX6_holds 45 = .ok (.getfield 69, 3) := by decide +kernel
theorem dX6_holds_48 : decode cX6_holds 48 = .ok (.iload 4, 2) := by decide +kernel
theorem dX6_holds_50 : decode cX6_holds 50 = .ok (.iaload, 1) := by decide +kernel
theorem dX6_holds_51 : decode cX6_holds 51 = .ok (.iconst (-1), 1) := by decide +kernel
theorem dX6_holds_52 : decode cX6_holds 52 = .ok (.if_icmp .eq 33, 3) := by decide +kernel
theorem dX6_holds_55 : decode cX6_holds 55 = .ok (.aload_n 0, 1) := by decide +kernel
theorem dX6_holds_56 : decode cX6_holds 56 = .ok (.getfield 26, 3) := by decide +kernel
theorem dX6_holds_59 : decode cX6_holds 59 = .ok (.iload 4, 2) := by decide +kernel
theorem dX6_holds_61 : decode cX6_holds 61 = .ok (.iaload, 1) := by decide +kernel
theorem dX6_holds_62 : decode cX6_holds 62 = .ok (.iconst 1, 1) := by decide +kernel
theorem dX6_holds_63 : decode cX6_holds 63 = .ok (.if_icmp .ne 18, 3) := by decide +kernel
theorem dX6_holds_66 : decode cX6_holds 66 = .ok (.aload_n 0, 1) := by decide +kernel
theorem dX6_holds_67 : decode cX6_holds 67 = .ok (.aload_n 0, 1) := by decide +kernel
theorem dX6_holds_68 : decode cX6_holds 68 = .ok (.getfield 69, 3) := by decide +kernel
theorem dX6_holds_71 : decode cX6_holds 71 = .ok (.iload 4, 2) := by decide +kernel
theorem dX6_holds_73 : decode cX6_holds 73 = .ok (.iaload, 1) := by decide +kernel
theorem dX6_holds_74 : decode cX6_holds 74 = .ok (.iload_n 3, 1) := by decide +kernel
theorem dX6_holds_75 : decode cX6_holds 75 = .ok (.invokevirtual 170, 3) := by decide +kernel
theorem dX6_holds_78 : decode cX6_holds 78 = .ok (.ifCond .ne 7, 3) := by decide +kernel
theorem dX6_holds_81 : decode cX6_holds 81 = .ok (.iconst 1, 1) := by decide +kernel
theorem dX6_holds_82 : decode cX6_holds 82 = .ok (.goto 4, 3) := by decide +kernel
theorem dX6_holds_85 : decode cX6_holds 85 = .ok (.iconst 0, 1) := by decide +kernel
theorem dX6_holds_86 : decode cX6_holds 86 = .ok (.bastore, 1) := by decide +kernel
theorem dX6_holds_87 : decode cX6_holds 87 = .ok (.iinc 4 1, 3) := by decide +kernel
theorem dX6_holds_90 : decode cX6_holds 90 = .ok (.goto (-62), 3) := by decide +kernel
theorem dX6_holds_93 : decode cX6_holds 93 = .ok (.aload_n 0, 1) := by decide +kernel
theorem dX6_holds_94 : decode cX6_holds 94 = .ok (.iload_n 1, 1) := by decide +kernel
theorem dX6_holds_95 : decode cX6_holds 95 = .ok (.iconst 1, 1) := by decide +kernel
theorem dX6_holds_96 : decode cX6_holds 96 = .ok (.invokevirtual 176, 3) := by decide +kernel
theorem dX6_holds_99 : decode cX6_holds 99 = .ok (.istore 4, 2) := by decide +kernel
theorem dX6_holds_101 : decode cX6_holds 101 = .ok (.aload_n 0, 1) := by decide +kernel
theorem dX6_holds_102 : decode cX6_holds 102 = .ok (.getfield 66, 3) := by decide +kernel
theorem dX6_holds_105 : decode cX6_holds 105 = .ok (.iload_n 1, 1) := by decide +kernel
theorem dX6_holds_106 : decode cX6_holds 106 = .ok (.iload 4, 2) := by decide +kernel
theorem dX6_holds_108 : decode cX6_holds 108 = .ok (.iastore, 1) := by decide +kernel
theorem dX6_holds_109 : decode cX6_holds 109 = .ok (.aload_n 0, 1) := by decide +kernel
theorem dX6_holds_110 : decode cX6_holds 110 = .ok (.getfield 57, 3) := by decide +kernel
theorem dX6_holds_113 : decode cX6_holds 113 = .ok (.iload_n 1, 1) := by decide +kernel
theorem dX6_holds_114 : decode cX6_holds 114 = .ok (.iload 4, 2) := by decide +kernel
theorem dX6_holds_116 : decode cX6_holds 116 = .ok (.iconst (-1), 1) := by decide +kernel
theorem dX6_holds_117 : decode cX6_holds 117 = .ok (.if_icmp .ne 7, 3) := by decide +kernel
theorem dX6_holds_120 : decode cX6_holds 120 = .ok (.iload_n 1, 1) := by decide +kernel
theorem dX6_holds_121 : decode cX6_holds 121 = .ok (.goto 10, 3) := by decide +kernel
theorem dX6_holds_124 : decode cX6_holds 124 = .ok (.aload_n 0, 1) := by decide +kernel
theorem dX6_holds_125 : decode cX6_holds 125 = .ok (.getfield 69, 3) := by decide +kernel
theorem dX6_holds_128 : decode cX6_holds 128 = .ok (.iload 4, 2) := by decide +kernel
theorem dX6_holds_130 : decode cX6_holds 130 = .ok (.iaload, 1) := by decide +kernel
theorem dX6_holds_131 : decode cX6_holds 131 = .ok (.iastore, 1) := by decide +kernel
theorem dX6_holds_132 : decode cX6_holds 132 = .ok (.aload_n 0, 1) := by decide +kernel
theorem dX6_holds_133 : decode cX6_holds 133 = .ok (.getfield 60, 3) := by decide +kernel
theorem dX6_holds_136 : decode cX6_holds 136 = .ok (.iload_n 1, 1) := by decide +kernel
theorem dX6_holds_137 : decode cX6_holds 137 = .ok (.iload 4, 2) := by decide +kernel
theorem dX6_holds_139 : decode cX6_holds 139 = .ok (.iconst (-1), 1) := by decide +kernel
theorem dX6_holds_140 : decode cX6_holds 140 = .ok (.if_icmp .ne 7, 3) := by decide +kernel
theorem dX6_holds_143 : decode cX6_holds 143 = .ok (.iconst 0, 1) := by decide +kernel
theorem dX6_holds_144 : decode cX6_holds 144 = .ok (.goto 18, 3) := by decide +kernel
theorem dX6_holds_147 : decode cX6_holds 147 = .ok (.aload_n 0, 1) := by decide +kernel
theorem dX6_holds_148 : decode cX6_holds 148 = .ok (.getfield 72, 3) := by decide +kernel
theorem dX6_holds_151 : decode cX6_holds 151 = .ok (.iload 4, 2) := by decide +kernel
theorem dX6_holds_153 : decode cX6_holds 153 = .ok (.iaload, 1) := by decide +kernel
theorem dX6_holds_154 : decode cX6_holds 154 = .ok (.aload_n 0, 1) := by decide +kernel
theorem dX6_holds_155 : decode cX6_holds 155 = .ok (.getfield 20, 3) := by decide +kernel
theorem dX6_holds_158 : decode cX6_holds 158 = .ok (.iload 4, 2) := by decide +kernel
theorem dX6_holds_160 : decode cX6_holds 160 = .ok (.iaload, 1) := by decide +kernel
theorem dX6_holds_161 : decode cX6_holds 161 = .ok (.iadd, 1) := by decide +kernel
theorem dX6_holds_162 : decode cX6_holds 162 = .ok (.iastore, 1) := by decide +kernel
theorem dX6_holds_163 : decode cX6_holds 163 = .ok (.aload_n 0, 1) := by decide +kernel
theorem dX6_holds_164 : decode cX6_holds 164 = .ok (.getfield 63, 3) := by decide +kernel
theorem dX6_holds_167 : decode cX6_holds 167 = .ok (.iload_n 1, 1) := by decide +kernel
theorem dX6_holds_168 : decode cX6_holds 168 = .ok (.iload 4, 2) := by decide +kernel
theorem dX6_holds_170 : decode cX6_holds 170 = .ok (.iconst (-1), 1) := by decide +kernel
theorem dX6_holds_171 : decode cX6_holds 171 = .ok (.if_icmp .ne 7, 3) := by decide +kernel
theorem dX6_holds_174 : decode cX6_holds 174 = .ok (.iconst 0, 1) := by decide +kernel
theorem dX6_holds_175 : decode cX6_holds 175 = .ok (.goto 12, 3) := by decide +kernel
theorem dX6_holds_178 : decode cX6_holds 178 = .ok (.aload_n 0, 1) := by decide +kernel
theorem dX6_holds_179 : decode cX6_holds 179 = .ok (.getfield 75, 3) := by decide +kernel
theorem dX6_holds_182 : decode cX6_holds 182 = .ok (.iload 4, 2) := by decide +kernel
theorem dX6_holds_184 : decode cX6_holds 184 = .ok (.iaload, 1) := by decide +kernel
theorem dX6_holds_185 : decode cX6_holds 185 = .ok (.iconst 1, 1) := by decide +kernel
theorem dX6_holds_186 : decode cX6_holds 186 = .ok (.iadd, 1) := by decide +kernel
theorem dX6_holds_187 : decode cX6_holds 187 = .ok (.iastore, 1) := by decide +kernel
theorem dX6_holds_188 : decode cX6_holds 188 = .ok (.return_, 1) := by decide +kernel
set_option maxRecDepth 20000 in
theorem ggX6_isAhead_X6_isBetter : GoodIn wsX6_isAhead wsX6_isBetter := goodIn_r _ [10, 11, 12, 13, 14, 15, 16, 17, 18, 19, 20, 21, 22, 23, 24, 25, 26, 27, 28, 29, 30, 31, 32, 33, 34, 35, 36, 37, 38, 39, 40, 41, 42, 43, 44, 45, 46, 47, 48, 49, 50, 51, 52] (by decide +kernel) (by decide +kernel)
set_option maxRecDepth 20000 in
theorem gX6_isAhead_X6_isBetter : GoodIn wsX6_isAhead (wsV RX6 170 RX6 yX6_isBetter wsX6_isBetter) := goodIn_app (goodIn_of _ (by decide +kernel)) ggX6_isAhead_X6_isBetter
theorem dX6_isAhead_0 : decode cX6_isAhead 0 = .ok (.aload_n 0, 1) := by decide +kernel
theorem dX6_isAhead_1 : decode cX6_isAhead 1 = .ok (.getfield 57, 3) := by decide +kernel
theorem dX6_isAhead_4 : decode cX6_isAhead 4 = .ok (.iload_n 1, 1) := by decide +kernel
theorem dX6_isAhead_5 : decode cX6_isAhead 5 = .ok (.iaload, 1) := by decide +kernel
theorem dX6_isAhead_6 : decode cX6_isAhead 6 = .ok (.aload_n 0, 1) := by decide +kernel
theorem dX6_isAhead_7 : decode cX6_isAhead 7 = .ok (.getfield 69, 3) := by decide +kernel
theorem dX6_isAhead_10 : decode cX6_isAhead 10 = .ok (.iload_n 2, 1) := by decide +kernel
theorem dX6_isAhead_11 : decode cX6_isAhead 11 = .ok (.iaload, 1) := by decide +kernel
theorem dX6_isAhead_12 : decode cX6_isAhead 12 = .ok (.if_icmp .eq 20, 3) := by decide +kernel
theorem dX6_isAhead_15 : decode cX6_isAhead 15 = .ok (.aload_n 0, 1) := by decide +kernel
theorem dX6_isAhead_16 : decode cX6_isAhead 16 = .ok (.aload_n 0, 1) := by decide +kernel
theorem dX6_isAhead_17 : decode cX6_isAhead 17 = .ok (.getfield 57, 3) := by decide +kernel
theorem dX6_isAhead_20 : decode cX6_isAhead 20 = .ok (.iload_n 1, 1) := by decide +kernel
theorem dX6_isAhead_21 : decode cX6_isAhead 21 = .ok (.iaload, 1) := by decide +kernel
theorem dX6_isAhead_22 : decode cX6_isAhead 22 = .ok (.aload_n 0, 1) := by decide +kernel
theorem dX6_isAhead_23 : decode cX6_isAhead 23 = .ok (.getfield 69, 3) := by decide +kernel
theorem dX6_isAhead_26 : decode cX6_isAhead 26 = .ok (.iload_n 2, 1) := by decide +kernel
theorem dX6_isAhead_27 : decode cX6_isAhead 27 = .ok (.iaload, 1) := by decide +kernel
theorem dX6_isAhead_28 : decode cX6_isAhead 28 = .ok (.invokevirtual 170, 3) := by decide +kernel
theorem dX6_isAhead_31 : decode cX6_isAhead 31 = .ok (.ireturn, 1) := by decide +kernel
theorem dX6_isAhead_32 : decode cX6_isAhead 32 = .ok (.aload_n 0, 1) := by decide +kernel
theorem dX6_isAhead_33 : decode cX6_isAhead 33 = .ok (.getfield 60, 3) := by decide +kernel
theorem dX6_isAhead_36 : decode cX6_isAhead 36 = .ok (.iload_n 1, 1) := by decide +kernel
theorem dX6_isAhead_37 : decode cX6_isAhead 37 = .ok (.iaload, 1) := by decide +kernel
theorem dX6_isAhead_38 : decode cX6_isAhead 38 = .ok (.aload_n 0, 1) := by decide +kernel
theorem dX6_isAhead_39 : decode cX6_isAhead 39 = .ok (.getfield 72, 3) := by decide +kernel
theorem dX6_isAhead_42 : decode cX6_isAhead 42 = .ok (.iload_n 2, 1) := by decide +kernel
theorem dX6_isAhead_43 : decode cX6_isAhead 43 = .ok (.iaload, 1) := by decide +kernel
theorem dX6_isAhead_44 : decode cX6_isAhead 44 = .ok (.if_icmp .eq 26, 3) := by decide +kernel
theorem dX6_isAhead_47 : decode cX6_isAhead 47 = .ok (.aload_n 0, 1) := by decide +kernel
theorem dX6_isAhead_48 : decode cX6_isAhead 48 = .ok (.getfield 60, 3) := by decide +kernel
theorem dX6_isAhead_51 : decode cX6_isAhead 51 = .ok (.iload_n 1, 1) := by decide +kernel
theorem dX6_isAhead_52 : decode cX6_isAhead 52 = .ok (.iaload, 1) := by decide +kernel
theorem dX6_isAhead_53 : decode cX6_isAhead 53 = .ok (.aload_n 0, 1) := by decide +kernel
theorem dX6_isAhead_54 : decode cX6_isAhead 54 = .ok (.getfield 72, 3) := by decide +kernel
theorem dX6_isAhead_57 : decode cX6_isAhead 57 = .ok (.iload_n 2, 1) := by decide +kernel
theorem dX6_isAhead_58 : decode cX6_isAhead 58 = .ok (.iaload, 1) := by decide +kernel
theorem dX6_isAhead_59 : decode cX6_isAhead 59 = .ok (.if_icmp .ge 7, 3) := by decide +kernel
theorem dX6_isAhead_62 : decode cX6_isAhead 62 = .ok (.iconst 1, 1) := by decide +kernel
theorem dX6_isAhead_63 : decode cX6_isAhead 63 = .ok (.goto 20, 3) := by decide +kernel
theorem dX6_isAhead_66 : decode cX6_isAhead 66 = .ok (.iconst 0, 1) := by decide +kernel
theorem dX6_isAhead_67 : decode cX6_isAhead 67 = .ok (.goto 16, 3) := by decide +kernel
theorem dX6_isAhead_70 : decode cX6_isAhead 70 = .ok (.aload_n 0, 1) := by decide +kernel
theorem dX6_isAhead_71 : decode cX6_isAhead 71 = .ok (.iload_n 1, 1) := by decide +kernel
theorem dX6_isAhead_72 : decode cX6_isAhead 72 = .ok (.aload_n 0, 1) := by decide +kernel
theorem dX6_isAhead_73 : decode cX6_isAhead 73 = .ok (.getfield 17, 3) := by decide +kernel
theorem dX6_isAhead_76 : decode cX6_isAhead 76 = .ok (.iload_n 2, 1) := by decide +kernel
theorem dX6_isAhead_77 : decode cX6_isAhead 77 = .ok (.iaload, 1) := by decide +kernel
theorem dX6_isAhead_78 : decode cX6_isAhead 78 = .ok (.iconst 5, 1) := by decide +kernel
theorem dX6_isAhead_79 : decode cX6_isAhead 79 = .ok (.idiv, 1) := by decide +kernel
theorem dX6_isAhead_80 : decode cX6_isAhead 80 = .ok (.invokevirtual 170, 3) := by decide +kernel
theorem dX6_isAhead_83 : decode cX6_isAhead 83 = .ok (.ireturn, 1) := by decide +kernel
set_option maxRecDepth 20000 in
theorem ggX6_roleOf_X6_isAhead : GoodIn wsX6_roleOf wsX6_isAhead := goodIn_r _ [10, 11, 3, 12, 13, 1, 14, 15, 16, 9, 17, 18, 19, 20, 21, 22, 23, 24, 25, 26, 27, 28, 29, 30, 31, 32, 33, 34, 35, 36, 37, 38, 39, 40, 41, 42, 43, 44, 45, 46, 47, 48, 49, 50, 51, 52, 53, 54, 55, 56, 57, 58, 59] (by decide +kernel) (by decide +kernel)
set_option maxRecDepth 20000 in
theorem gX6_roleOf_X6_isAhead : GoodIn wsX6_roleOf (wsV RX6 180 RX6 yX6_isAhead wsX6_isAhead) := goodIn_app (goodIn_of _ (by decide +kernel)) ggX6_roleOf_X6_isAhead
theorem dX6_roleOf_0 : decode cX6_roleOf 0 = .ok (.iload_n 1, 1) := by decide +kernel
theorem dX6_roleOf_1 : decode cX6_roleOf 1 = .ok (.iconst 5, 1) := by decide +kernel
theorem dX6_roleOf_2 : decode cX6_roleOf 2 = .ok (.idiv, 1) := by decide +kernel
theorem dX6_roleOf_3 : decode cX6_roleOf 3 = .ok (.istore_n 2, 1) := by decide +kernel
theorem dX6_roleOf_4 : decode cX6_roleOf 4 = .ok (.aload_n 0, 1) := by decide +kernel
theorem dX6_roleOf_5 : decode cX6_roleOf 5 = .ok (.getfield 17, 3) := by decide +kernel
theorem dX6_roleOf_8 : decode cX6_roleOf 8 = .ok (.iload_n 1, 1) := by decide +kernel
theorem dX6_roleOf_9 : decode cX6_roleOf 9 = .ok (.iaload, 1) := by decide +kernel
theorem dX6_roleOf_10 : decode cX6_roleOf 10 = .ok (.iconst (-1), 1) := by decide +kernel
theorem dX6_roleOf_11 : decode cX6_roleOf 11 = .ok (.if_icmp .eq 12, 3) := by decide +kernel
theorem dX6_roleOf_14 : decode cX6_roleOf 14 = .ok (.aload_n 0, 1) := by decide +kernel
theorem dX6_roleOf_15 : decode cX6_roleOf 15 = .ok (.getfield 39, 3) := by decide +kernel
theorem dX6_roleOf_18 : decode cX6_roleOf 18 = .ok (.iload_n 1, 1) := by decide +kernel
theorem dX6_roleOf_19 : decode cX6_roleOf 19 = .ok (.baload, 1) := by decide +kernel
theorem dX6_roleOf_20 : decode cX6_roleOf 20 = .ok (.ifCond .eq 5, 3) := by decide +kernel
theorem dX6_roleOf_23 : decode cX6_roleOf 23 = .ok (.iconst 0, 1) := by decide +kernel
theorem dX6_roleOf_24 : decode cX6_roleOf 24 = .ok (.ireturn, 1) := by decide +kernel
theorem dX6_roleOf_25 : decode cX6_roleOf 25 = .ok (.aload_n 0, 1) := by decide +kernel
theorem dX6_roleOf_26 : decode cX6_roleOf 26 = .ok (.getfield 69, 3) := by decide +kernel
theorem dX6_roleOf_29 : decode cX6_roleOf 29 = .ok (.iload_n 1, 1) := by decide +kernel
theorem dX6_roleOf_30 : decode cX6_roleOf 30 = .ok (.iaload, 1) := by decide +kernel
theorem dX6_roleOf_31 : decode cX6_roleOf 31 = .ok (.iconst (-1), 1) := by decide +kernel
theorem dX6_roleOf_32 : decode cX6_roleOf 32 = .ok (.if_icmp .eq 14, 3) := by decide +kernel
theorem dX6_roleOf_35 : decode cX6_roleOf 35 = .ok (.aload_n 0, 1) := by decide +kernel
theorem dX6_roleOf_36 : decode cX6_roleOf 36 = .ok (.getfield 78, 3) := by decide +kernel
theorem dX6_roleOf_39 : decode cX6_roleOf 39 = .ok (.iload_n 1, 1) := by decide +kernel
theorem dX6_roleOf_40 : decode cX6_roleOf 40 = .ok (.baload, 1) := by decide +kernel
theorem dX6_roleOf_41 : decode cX6_roleOf 41 = .ok (.ifCond .ne 5, 3) := by decide +kernel
theorem dX6_roleOf_44 : decode cX6_roleOf 44 = .ok (.iconst 3, 1) := by decide +kernel
theorem dX6_roleOf_45 : decode cX6_roleOf 45 = .ok (.ireturn, 1) := by decide +kernel
theorem dX6_roleOf_46 : decode cX6_roleOf 46 = .ok (.aload_n 0, 1) := by decide +kernel
theorem dX6_roleOf_47 : decode cX6_roleOf 47 = .ok (.getfield 66, 3) := by decide +kernel
theorem dX6_roleOf_50 : decode cX6_roleOf 50 = .ok (.iload_n 2, 1) := by decide +kernel
theorem dX6_roleOf_51 : decode cX6_roleOf 51 = .ok (.iaload, 1) := by decide +kernel
theorem dX6_roleOf_52 : decode cX6_roleOf 52 = .ok (.iload_n 1, 1) := by decide +kernel
theorem dX6_roleOf_53 : decode cX6_roleOf 53 = .ok (.if_icmp .ne 7, 3) := by decide +kernel
theorem dX6_roleOf_56 : decode cX6_roleOf 56 = .ok (.iconst 1, 1) := by decide +kernel
theorem dX6_roleOf_57 : decode cX6_roleOf 57 = .ok (.goto 27, 3) := by decide +kernel
theorem dX6_roleOf_60 : decode cX6_roleOf 60 = .ok (.aload_n 0, 1) := by decide +kernel
theorem dX6_roleOf_61 : decode cX6_roleOf 61 = .ok (.getfield 69, 3) := by decide +kernel
theorem dX6_roleOf_64 : decode cX6_roleOf 64 = .ok (.iload_n 1, 1) := by decide +kernel
theorem dX6_roleOf_65 : decode cX6_roleOf 65 = .ok (.iaload, 1) := by decide +kernel
theorem dX6_roleOf_66 : decode cX6_roleOf 66 = .ok (.iconst (-1), 1) := by decide +kernel
theorem dX6_roleOf_67 : decode cX6_roleOf 67 = .ok (.if_icmp .eq 12, 3) := by decide +kernel
theorem dX6_roleOf_70 : decode cX6_roleOf 70 = .ok (.aload_n 0, 1) := by decide +kernel
theorem dX6_roleOf_71 : decode cX6_roleOf 71 = .ok (.iload_n 2, 1) := by decide +kernel
theorem dX6_roleOf_72 : decode cX6_roleOf 72 = .ok (.iload_n 1, 1) := by decide +kernel
theorem dX6_roleOf_73 : decode cX6_roleOf 73 = .ok (.invokevirtual 180, 3) := by decide +kernel
theorem dX6_roleOf_76 : decode cX6_roleOf 76 = .ok (.ifCond .eq 7, 3) := by decide +kernel
theorem dX6_roleOf_79 : decode cX6_roleOf 79 = .ok (.iconst 2, 1) := by decide +kernel
theorem dX6_roleOf_80 : decode cX6_roleOf 80 = .ok (.goto 4, 3) := by decide +kernel
theorem dX6_roleOf_83 : decode cX6_roleOf 83 = .ok (.iconst 3, 1) := by decide +kernel
theorem dX6_roleOf_84 : decode cX6_roleOf 84 = .ok (.ireturn, 1) := by decide +kernel
set_option maxRecDepth 20000 in
theorem ggX6_opens_X6_roleOf : GoodIn wsX6_opens wsX6_roleOf := goodIn_r _ [12, 3, 4, 13, 14, 15, 16, 17, 18, 11, 19, 20, 21, 22, 23, 24, 25, 26, 27, 36, 37, 38, 39, 40, 41, 42, 43, 44, 45, 46, 47, 48, 49, 50, 51, 52, 53, 54, 55, 56, 57, 58, 59, 60, 61, 62, 63, 64, 65, 66, 67, 68, 69, 70, 71, 72, 73, 74, 75, 76] (by decide +kernel) (by decide +kernel)
set_option maxRecDepth 20000 in
theorem gX6_opens_X6_roleOf : GoodIn wsX6_opens (wsV RX6 183 RX6 yX6_roleOf wsX6_roleOf) := goodIn_app (goodIn_of _ (by decide +kernel)) ggX6_opens_X6_roleOf
set_option maxRecDepth 20000 in
theorem ggX6_opens_X6_spreads : GoodIn wsX6_opens wsX6_spreads := goodIn_r _ [31, 1, 3, 32, 33, 34, 11, 35, 4, 36, 37, 38, 39, 40, 41, 42, 43, 44, 45, 46, 47, 48, 49, 50, 51, 52, 53, 54, 55, 56, 57, 58, 59, 60, 61, 62, 63, 64, 65, 66, 67, 68, 69, 70, 71, 72, 73, 74, 75, 76] (by decide +kernel) (by decide +kernel)
set_option maxRecDepth 20000 in
theorem gX6_opens_X6_spreads : GoodIn wsX6_opens (wsV RX6 187 RX6 yX6_spreads wsX6_spreads) := goodIn_app (goodIn_of _ (by decide +kernel)) ggX6_opens_X6_spreads
theorem dX6_opens_0 : decode cX6_opens 0 = .ok (.iconst 0, 1) := by decide +kernel
theorem dX6_opens_1 : decode cX6_opens 1 = .ok (.istore_n 1, 1) := by decide +kernel
theorem dX6_opens_2 : decode cX6_opens 2 = .ok (.iload_n 1, 1) := by decide +kernel
theorem dX6_opens_3 : decode cX6_opens 3 = .ok (.bipush 6, 2) := by decide +kernel
theorem dX6_opens_5 : decode cX6_opens 5 = .ok (.if_icmp .ge 16, 3) := by decide +kernel
theorem dX6_opens_8 : decode cX6_opens 8 = .ok (.aload_n 0, 1) := by decide +kernel
theorem dX6_opens_9 : decode cX6_opens 9 = .ok (.getfield 123, 3) := by decide +kernel
theorem dX6_opens_12 : decode cX6_opens 12 = .ok (.iload_n 1, 1) := by decide +kernel
theorem dX6_opens_13 : decode cX6_opens 13 = .ok (.iconst 0, 1) := by decide +kernel
theorem dX6_opens_14 : decode cX6_opens 14 = .ok (.bastore, 1) := by decide +kernel
theorem dX6_opens_15 : decode cX6_opens 15 = .ok (.iinc 1 1, 3) := by decide +kernel
theorem dX6_opens_18 : decode cX6_opens 18 = .ok (.goto (-16), 3) := by decide +kernel
theorem dX6_opens_21 : decode cX6_opens 21 = .ok (.iconst 0, 1) := by decide +kernel
theorem dX6_opens_22 : decode cX6_opens 22 = .ok (.istore_n 1, 1) := by decide +kernel
theorem dX6_opens_23 : decode cX6_opens 23 = .ok (.iload_n 1, 1) := by decide +kernel
theorem dX6_opens_24 : decode cX6_opens 24 = .ok (.bipush 30, 2) := by decide +kernel
theorem dX6_opens_26 : decode cX6_opens 26 = .ok (.if_icmp .ge 157, 3) := by decide +kernel
theorem dX6_opens_29 : decode cX6_opens 29 = .ok (.aload_n 0, 1) := by decide +kernel
theorem dX6_opens_30 : decode cX6_opens 30 = .ok (.getfield 48, 3) := by decide +kernel
theorem dX6_opens_33 : decode cX6_opens 33 = .ok (.iload_n 1, 1) := by decide +kernel
theorem dX6_opens_34 : decode cX6_opens 34 = .ok (.aload_n 0, 1) := by decide +kernel
theorem dX6_opens_35 : decode cX6_opens 35 = .ok (.iload_n 1, 1) := by decide +kernel
theorem dX6_opens_36 : decode cX6_opens 36 = .ok (.invokevirtual 183, 3) := by decide +kernel
theorem dX6_opens_39 : decode cX6_opens 39 = .ok (.iastore, 1) := by decide +kernel
theorem dX6_opens_40 : decode cX6_opens 40 = .ok (.aload_n 0, 1) := by decide +kernel
theorem dX6_opens_41 : decode cX6_opens 41 = .ok (.getfield 17, 3) := by decide +kernel
theorem dX6_opens_44 : decode cX6_opens 44 = .ok (.iload_n 1, 1) := by decide +kernel
theorem dX6_opens_45 : decode cX6_opens 45 = .ok (.iaload, 1) := by decide +kernel
theorem dX6_opens_46 : decode cX6_opens 46 = .ok (.iconst (-1), 1) := by decide +kernel
theorem dX6_opens_47 : decode cX6_opens 47 = .ok (.if_icmp .eq 130, 3) := by decide +kernel
theorem dX6_opens_50 : decode cX6_opens 50 = .ok (.aload_n 0, 1) := by decide +kernel
theorem dX6_opens_51 : decode cX6_opens 51 = .ok (.getfield 39, 3) := by decide +kernel
theorem dX6_opens_54 : decode cX6_opens 54 = .ok (.iload_n 1, 1) := by decide +kernel
theorem dX6_opens_55 : decode cX6_opens 55 = .ok (.baload, 1) := by decide +kernel
theorem dX6_opens_56 : decode cX6_opens 56 = .ok (.ifCond .ne 121, 3) := by decide +kernel
theorem dX6_opens_59 : decode cX6_opens 59 = .ok (.aload_n 0, 1) := by decide +kernel
theorem dX6_opens_60 : decode cX6_opens 60 = .ok (.getfield 48, 3) := by decide +kernel
theorem dX6_opens_63 : decode cX6_opens 63 = .ok (.iload_n 1, 1) := by decide +kernel
theorem dX6_opens_64 : decode cX6_opens 64 = .ok (.iaload, 1) := by decide +kernel
theorem dX6_opens_65 : decode cX6_opens 65 = .ok (.iconst 1, 1) := by decide +kernel
theorem dX6_opens_66 : decode cX6_opens 66 = .ok (.if_icmp .eq 13, 3) := by decide +kernel
theorem dX6_opens_69 : decode cX6_opens 69 = .ok (.aload_n 0, 1) := by decide +kernel
theorem dX6_opens_70 : decode cX6_opens 70 = .ok (.getfield 48, 3) := by decide +kernel
theorem dX6_opens_73 : decode cX6_opens 73 = .ok (.iload_n 1, 1) := by decide +kernel
theorem dX6_opens_74 : decode cX6_opens 74 = .ok (.iaload, 1) := by decide +kernel
theorem dX6_opens_75 : decode cX6_opens 75 = .ok (.iconst 2, 1) := by decide +kernel
theorem dX6_opens_76 : decode cX6_opens 76 = .ok (.if_icmp .ne 7, 3) := by decide +kernel
theorem dX6_opens_79 : decode cX6_opens 79 = .ok (.iconst 1, 1) := by decide +kernel
theorem dX6_opens_80 : decode cX6_opens 80 = .ok (.goto 4, 3) := by decide +kernel
theorem dX6_opens_83 : decode cX6_opens 83 = .ok (.iconst 0, 1) := by decide +kernel
theorem dX6_opens_84 : decode cX6_opens 84 = .ok (.istore_n 2, 1) := by decide +kernel
theorem dX6_opens_85 : decode cX6_opens 85 = .ok (.aload_n 0, 1) := by decide +kernel
theorem dX6_opens_86 : decode cX6_opens 86 = .ok (.getfield 51, 3) := by decide +kernel
theorem dX6_opens_89 : decode cX6_opens 89 = .ok (.iload_n 1, 1) := by decide +kernel
theorem dX6_opens_90 : decode cX6_opens 90 = .ok (.iload_n 2, 1) := by decide +kernel
theorem dX6_opens_91 : decode cX6_opens 91 = .ok (.ifCond .eq 14, 3) := by decide +kernel
theorem dX6_opens_94 : decode cX6_opens 94 = .ok (.aload_n 0, 1) := by decide +kernel
theorem dX6_opens_95 : decode cX6_opens 95 = .ok (.getfield 51, 3) := by decide +kernel
theorem dX6_opens_98 : decode cX6_opens 98 = .ok (.iload_n 1, 1) := by decide +kernel
theorem dX6_opens_99 : decode cX6_opens 99 = .ok (.iaload, 1) := by decide +kernel
theorem dX6_opens_100 : decode cX6_opens 100 = .ok (.iconst 1, 1) := by decide +kernel
theorem dX6_opens_101 : decode cX6_opens 101 = .ok (.iadd, 1) := by decide +kernel
theorem dX6_opens_102 : decode cX6_opens 102 = .ok (.goto 4, 3) := by decide +kernel
theorem dX6_opens_105 : decode cX6_opens 105 = .ok (.iconst 0, 1) := by decide +kernel
theorem dX6_opens_106 : decode cX6_opens 106 = .ok (.iastore, 1) := by decide +kernel
theorem dX6_opens_107 : decode cX6_opens 107 = .ok (.aload_n 0, 1) := by decide +kernel
theorem dX6_opens_108 : decode cX6_opens 108 = .ok (.getfield 45, 3) := by decide +kernel
theorem dX6_opens_111 : decode cX6_opens 111 = .ok (.iload_n 1, 1) := by decide +kernel
theorem dX6_opens_112 : decode cX6_opens 112 = .ok (.baload, 1) := by decide +kernel
theorem dX6_opens_113 : decode cX6_opens 113 = .ok (.istore_n 3, 1) := by decide +kernel
theorem dX6_opens_114 : decode cX6_opens 114 = .ok (.aload_n 0, 1) := by decide +kernel
theorem dX6_opens_115 : decode cX6_opens 115 = .ok (.getfield 45, 3) := by decide +kernel
theorem dX6_opens_118 : decode cX6_opens 118 = .ok (.iload_n 1, 1) := by decide +kernel
theorem dX6_opens_119 : decode cX6_opens 119 = .ok (.iload_n 2, 1) := by decide +kernel
theorem dX6_opens_120 : decode cX6_opens 120 = .ok (.ifCond .eq 21, 3) := by decide +kernel
theorem dX6_opens_123 : decode cX6_opens 123 = .ok (.iload_n 3, 1) := by decide +kernel
theorem dX6_opens_124 : decode cX6_opens 124 = .ok (.ifCond .ne 13, 3) := by decide +kernel
theorem dX6_opens_127 : decode cX6_opens 127 = .ok (.aload_n 0, 1) := by decide +kernel
theorem dX6_opens_128 : decode cX6_opens 128 = .ok (.getfield 51, 3) := by decide +kernel
theorem dX6_opens_131 : decode cX6_opens 131 = .ok (.iload_n 1, 1) := by decide +kernel
theorem dX6_opens_132 : decode cX6_opens 132 = .ok (.iaload, 1) := by decide +kernel
theorem dX6_opens_133 : decode cX6_opens 133 = .ok (.iconst 2, 1) := by decide +kernel
theorem dX6_opens_134 : decode cX6_opens 134 = .ok (.if_icmp .le 7, 3) := by decide +kernel
theorem dX6_opens_137 : decode cX6_opens 137 = .ok (.iconst 1, 1) := by decide +kernel
theorem dX6_opens_138 : decode cX6_opens 138 = .ok (.goto 4, 3) := by decide +kernel
theorem dX6_opens_141 : decode cX6_opens 141 = .ok (.iconst 0, 1) := by decide +kernel
theorem dX6_opens_142 : decode cX6_opens 142 = .ok (.bastore, 1) := by decide +kernel
theorem dX6_opens_143 : decode cX6_opens 143 = .ok (.aload_n 0, 1) := by decide +kernel
theorem dX6_opens_144 : decode cX6_opens 144 = .ok (.getfield 123, 3) := by decide +kernel
theorem dX6_opens_147 : decode cX6_opens 147 = .ok (.iload_n 1, 1) := by decide +kernel
theorem dX6_opens_148 : decode cX6_opens 148 = .ok (.iconst 5, 1) := by decide +kernel
theorem dX6_opens_149 : decode cX6_opens 149 = .ok (.idiv, 1) := by decide +kernel
theorem dX6_opens_150 : decode cX6_opens 150 = .ok (.aload_n 0, 1) := by decide +kernel
theorem dX6_opens_151 : decode cX6_opens 151 = .ok (.getfield 123, 3) := by decide +kernel
theorem dX6_opens_154 : decode cX6_opens 154 = .ok (.iload_n 1, 1) := by decide +kernel
theorem dX6_opens_155 : decode cX6_opens 155 = .ok (.iconst 5, 1) := by decide +kernel
theorem dX6_opens_156 : decode cX6_opens 156 = .ok (.idiv, 1) := by decide +kernel
theorem dX6_opens_157 : decode cX6_opens 157 = .ok (.baload, 1) := by decide +kernel
theorem dX6_opens_158 : decode cX6_opens 158 = .ok (.ifCond .ne 13, 3) := by decide +kernel
theorem dX6_opens_161 : decode cX6_opens 161 = .ok (.iload_n 3, 1) := by decide +kernel
theorem dX6_opens_162 : decode cX6_opens 162 = .ok (.aload_n 0, 1) := by decide +kernel
theorem dX6_opens_163 : decode cX6_opens 163 = .ok (.getfield 45, 3) := by decide +kernel
theorem dX6_opens_166 : decode cX6_opens 166 = .ok (.iload_n 1, 1) := by decide +kernel
theorem dX6_opens_167 : decode cX6_opens 167 = .ok (.baload, 1) := by decide +kernel
theorem dX6_opens_168 : decode cX6_opens 168 = .ok (.if_icmp .eq 7, 3) := by decide +kernel
theorem dX6_opens_171 : decode cX6_opens 171 = .ok (.iconst 1, 1) := by decide +kernel
theorem dX6_opens_172 : decode cX6_opens 172 = .ok (.goto 4, 3) := by decide +kernel
theorem dX6_opens_175 : decode cX6_opens 175 = .ok (.iconst 0, 1) := by decide +kernel
theorem dX6_opens_176 : decode cX6_opens 176 = .ok (.bastore, 1) := by decide +kernel
theorem dX6_opens_177 : decode cX6_opens 177 = .ok (.iinc 1 1, 3) := by decide +kernel
theorem dX6_opens_180 : decode cX6_opens 180 = .ok (.goto (-157), 3) := by decide +kernel
theorem dX6_opens_183 : decode cX6_opens 183 = .ok (.aload_n 0, 1) := by decide +kernel
theorem dX6_opens_184 : decode cX6_opens 184 = .ok (.invokevirtual 187, 3) := by decide +kernel
theorem dX6_opens_187 : decode cX6_opens 187 = .ok (.iconst 0, 1) := by decide +kernel
theorem dX6_opens_188 : decode cX6_opens 188 = .ok (.istore_n 1, 1) := by decide +kernel
theorem dX6_opens_189 : decode cX6_opens 189 = .ok (.iload_n 1, 1) := by decide +kernel
theorem dX6_opens_190 : decode cX6_opens 190 = .ok (.bipush 6, 2) := by decide +kernel
theorem dX6_opens_192 : decode cX6_opens 192 = .ok (.if_icmp .ge 34, 3) := by decide +kernel
theorem dX6_opens_195 : decode cX6_opens 195 = .ok (.aload_n 0, 1) := by decide +kernel
theorem dX6_opens_196 : decode cX6_opens 196 = .ok (.getfield 81, 3) := by decide +kernel
theorem dX6_opens_199 : decode cX6_opens 199 = .ok (.iload_n 1, 1) := by decide +kernel
theorem dX6_opens_200 : decode cX6_opens 200 = .ok (.aload_n 0, 1) := by decide +kernel
theorem dX6_opens_201 : decode cX6_opens 201 = .ok (.getfield 123, 3) := by decide +kernel
theorem dX6_opens_204 : decode cX6_opens 204 = .ok (.iload_n 1, 1) := by decide +kernel
theorem dX6_opens_205 : decode cX6_opens 205 = .ok (.baload, 1) := by decide +kernel
theorem dX6_opens_206 : decode cX6_opens 206 = .ok (.ifCond .eq 7, 3) := by decide +kernel
theorem dX6_opens_209 : decode cX6_opens 209 = .ok (.iconst 0, 1) := by decide +kernel
theorem dX6_opens_210 : decode cX6_opens 210 = .ok (.goto 9, 3) := by decide +kernel
theorem dX6_opens_213 : decode cX6_opens 213 = .ok (.aload_n 0, 1) := by decide +kernel
theorem dX6_opens_214 : decode cX6_opens 214 = .ok (.getfield 81, 3) := by decide +kernel
theorem dX6_opens_217 : decode cX6_opens 217 = .ok (.iload_n 1, 1) := by decide +kernel
theorem dX6_opens_218 : decode cX6_opens 218 = .ok (.iaload, 1) := by decide +kernel
theorem dX6_opens_219 : decode cX6_opens 219 = .ok (.iastore, 1) := by decide +kernel
theorem dX6_opens_220 : decode cX6_opens 220 = .ok (.iinc 1 1, 3) := by decide +kernel
theorem dX6_opens_223 : decode cX6_opens 223 = .ok (.goto (-34), 3) := by decide +kernel
theorem dX6_opens_226 : decode cX6_opens 226 = .ok (.return_, 1) := by decide +kernel
theorem dX6_isPassable_0 : decode cX6_isPassable 0 = .ok (.aload_n 0, 1) := by decide +kernel
theorem dX6_isPassable_1 : decode cX6_isPassable 1 = .ok (.getfield 17, 3) := by decide +kernel
theorem dX6_isPassable_4 : decode cX6_isPassable 4 = .ok (.iload_n 1, 1) := by decide +kernel
theorem dX6_isPassable_5 : decode cX6_isPassable 5 = .ok (.iaload, 1) := by decide +kernel
theorem dX6_isPassable_6 : decode cX6_isPassable 6 = .ok (.iconst (-1), 1) := by decide +kernel
theorem dX6_isPassable_7 : decode cX6_isPassable 7 = .ok (.if_icmp .eq 30, 3) := by decide +kernel
theorem dX6_isPassable_10 : decode cX6_isPassable 10 = .ok (.aload_n 0, 1) := by decide +kernel
theorem dX6_isPassable_11 : decode cX6_isPassable 11 = .ok (.getfield 39, 3) := by decide +kernel
theorem dX6_isPassable_14 : decode cX6_isPassable 14 = .ok (.iload_n 1, 1) := by decide +kernel
theorem dX6_isPassable_15 : decode cX6_isPassable 15 = .ok (.baload, 1) := by decide +kernel
theorem dX6_isPassable_16 : decode cX6_isPassable 16 = .ok (.ifCond .ne 21, 3) := by decide +kernel
theorem dX6_isPassable_19 : decode cX6_isPassable 19 = .ok (.aload_n 0, 1) := by decide +kernel
theorem dX6_isPassable_20 : decode cX6_isPassable 20 = .ok (.getfield 39, 3) := by decide +kernel
theorem dX6_isPassable_23 : decode cX6_isPassable 23 = .ok (.aload_n 0, 1) := by decide +kernel
theorem dX6_isPassable_24 : decode cX6_isPassable 24 = .ok (.getfield 17, 3) := by decide +kernel
theorem dX6_isPassable_27 : decode cX6_isPassable 27 = .ok (.iload_n 1, 1) := by decide +kernel
theorem dX6_isPassable_28 : decode cX6_isPassable 28 = .ok (.iaload, 1) := by decide +kernel
theorem dX6_isPassable_29 : decode cX6_isPassable 29 = .ok (.baload, 1) := by decide +kernel
theorem dX6_isPassable_30 : decode cX6_isPassable 30 = .ok (.ifCond .ne 7, 3) := by decide +kernel
theorem dX6_isPassable_33 : decode cX6_isPassable 33 = .ok (.iconst 1, 1) := by decide +kernel
theorem dX6_isPassable_34 : decode cX6_isPassable 34 = .ok (.goto 4, 3) := by decide +kernel
theorem dX6_isPassable_37 : decode cX6_isPassable 37 = .ok (.iconst 0, 1) := by decide +kernel
theorem dX6_isPassable_38 : decode cX6_isPassable 38 = .ok (.ireturn, 1) := by decide +kernel
set_option maxRecDepth 20000 in
theorem ggX6_spreads_X6_isPassable : GoodIn wsX6_spreads wsX6_isPassable := goodIn_r _ [7, 2, 8, 9, 10, 11, 12, 13, 14, 15, 16, 17, 18, 19, 20, 21, 22, 23, 24, 25, 26, 27, 28, 29, 30, 31, 32, 33, 34, 35, 36, 37, 38, 39, 40, 41, 42, 43, 44, 45, 46, 47, 48, 49] (by decide +kernel) (by decide +kernel)
set_option maxRecDepth 20000 in
theorem gX6_spreads_X6_isPassable : GoodIn wsX6_spreads (wsV RX6 190 RX6 yX6_isPassable wsX6_isPassable) := goodIn_app (goodIn_of _ (by decide +kernel)) ggX6_spreads_X6_isPassable
theorem dX6_spreads_0 : decode cX6_spreads 0 = .ok (.iconst 0, 1) := by decide +kernel
theorem dX6_spreads_1 : decode cX6_spreads 1 = .ok (.istore_n 1, 1) := by decide +kernel
theorem dX6_spreads_2 : decode cX6_spreads 2 = .ok (.iload_n 1, 1) := by decide +kernel
theorem dX6_spreads_3 : decode cX6_spreads 3 = .ok (.bipush 6, 2) := by decide +kernel
theorem dX6_spreads_5 : decode cX6_spreads 5 = .ok (.if_icmp .ge 56, 3) := by decide +kernel
theorem dX6_spreads_8 : decode cX6_spreads 8 = .ok (.iconst 0, 1) := by decide +kernel
theorem dX6_spreads_9 : decode cX6_spreads 9 = .ok (.istore_n 2, 1) := by decide +kernel
theorem dX6_spreads_10 : decode cX6_spreads 10 = .ok (.iload_n 2, 1) := by decide +kernel
theorem dX6_spreads_11 : decode cX6_spreads 11 = .ok (.bipush 30, 2) := by decide +kernel
theorem dX6_spreads_13 : decode cX6_spreads 13 = .ok (.if_icmp .ge 42, 3) := by decide +kernel
theorem dX6_spreads_16 : decode cX6_spreads 16 = .ok (.aload_n 0, 1) := by decide +kernel
theorem dX6_spreads_17 : decode cX6_spreads 17 = .ok (.iload_n 2, 1) := by decide +kernel
theorem dX6_spreads_18 : decode cX6_spreads 18 = .ok (.invokevirtual 190, 3) := by decide +kernel
theorem dX6_spreads_21 : decode cX6_spreads 21 = .ok (.ifCond .eq 28, 3) := by decide +kernel
theorem dX6_spreads_24 : decode cX6_spreads 24 = .ok (.aload_n 0, 1) := by decide +kernel
theorem dX6_spreads_25 : decode cX6_spreads 25 = .ok (.getfield 123, 3) := by decide +kernel
theorem dX6_spreads_28 : decode cX6_spreads 28 = .ok (.iload_n 2, 1) := by decide +kernel
theorem dX6_spreads_29 : decode cX6_spreads 29 = .ok (.iconst 5, 1) := by decide +kernel
theorem dX6_spreads_30 : decode cX6_spreads 30 = .ok (.idiv, 1) := by decide +kernel
theorem dX6_spreads_31 : decode cX6_spreads 31 = .ok (.baload, 1) := by decide +kernel
theorem dX6_spreads_32 : decode cX6_spreads 32 = .ok (.ifCond .eq 17, 3) := by decide +kernel
theorem dX6_spreads_35 : decode cX6_spreads 35 = .ok (.aload_n 0, 1) := by decide +kernel
theorem dX6_spreads_36 : decode cX6_spreads 36 = .ok (.getfield 123, 3) := by decide +kernel
theorem dX6_spreads_39 : decode cX6_spreads 39 = .ok (.aload_n 0, 1) := by decide +kernel
theorem dX6_spreads_40 : decode cX6_spreads 40 = .ok (.getfield 17, 3) := by decide +kernel
theorem dX6_spreads_43 : decode cX6_spreads 43 = .ok (.iload_n 2, 1) := by decide +kernel
theorem dX6_spreads_44 : decode cX6_spreads 44 = .ok (.iaload, 1) := by decide +kernel
theorem dX6_spreads_45 : decode cX6_spreads 45 = .ok (.iconst 5, 1) := by decide +kernel
theorem dX6_spreads_46 : decode cX6_spreads 46 = .ok (.idiv, 1) := by decide +kernel
theorem dX6_spreads_47 : decode cX6_spreads 47 = .ok (.iconst 1, 1) := by decide +kernel
theorem dX6_spreads_48 : decode cX6_spreads 48 = .ok (.bastore, 1) := by decide +kernel
theorem dX6_spreads_49 : decode cX6_spreads 49 = .ok (.iinc 2 1, 3) := by decide +kernel
theorem dX6_spreads_52 : decode cX6_spreads 52 = .ok (.goto (-42), 3) := by decide +kernel
theorem dX6_spreads_55 : decode cX6_spreads 55 = .ok (.iinc 1 1, 3) := by decide +kernel
theorem dX6_spreads_58 : decode cX6_spreads 58 = .ok (.goto (-56), 3) := by decide +kernel
theorem dX6_spreads_61 : decode cX6_spreads 61 = .ok (.return_, 1) := by decide +kernel
set_option maxRecDepth 20000 in
theorem ggX6_beats_X6_tells : GoodIn wsX6_beats wsX6_tells := goodIn_r _ [11, 12, 5, 13, 14, 15, 16, 17, 18, 92, 93, 94, 95, 96, 97, 98, 99, 100, 101, 102, 103, 104, 105, 106, 107, 108, 109, 110, 111, 112, 113, 114, 115, 116, 117, 118, 119, 120, 121, 122, 123, 124, 125, 126, 127, 128, 129, 130, 131, 132] (by decide +kernel) (by decide +kernel)
set_option maxRecDepth 20000 in
theorem gX6_beats_X6_tells : GoodIn wsX6_beats (wsV RX6 196 RX6 yX6_tells wsX6_tells) := goodIn_app (goodIn_of _ (by decide +kernel)) ggX6_beats_X6_tells
set_option maxRecDepth 20000 in
theorem ggX6_beats_X6_guardsHouses : GoodIn wsX6_beats wsX6_guardsHouses := goodIn_r _ [22, 23, 13, 24, 25, 26, 10, 27, 5, 28, 29, 30, 31, 32, 33, 34, 35, 36, 37, 38, 2, 39, 40, 41, 42, 43, 44, 45, 3, 92, 93, 94, 95, 96, 97, 98, 99, 100, 101, 102, 103, 104, 105, 106, 107, 108, 109, 110, 111, 112, 113, 114, 115, 116, 117, 118, 119, 120, 121, 122, 123, 124, 125, 126, 127, 128, 129, 130, 131, 132] (by decide +kernel) (by decide +kernel)
set_option maxRecDepth 20000 in
theorem gX6_beats_X6_guardsHouses : GoodIn wsX6_beats (wsV RX6 199 RX6 yX6_guardsHouses wsX6_guardsHouses) := goodIn_app (goodIn_of _ (by decide +kernel)) ggX6_beats_X6_guardsHouses
set_option maxRecDepth 20000 in
theorem ggX6_beats_X6_holds : GoodIn wsX6_beats wsX6_holds := goodIn_r _ [49, 13, 50, 23, 51, 14, 16, 15, 52, 18, 17, 53, 54, 55, 10, 56, 57, 58, 59, 60, 12, 61, 62, 63, 64, 65, 92, 93, 94, 95, 96, 97, 98, 99, 100, 101, 102, 103, 104, 105, 106, 107, 108, 109, 110, 111, 112, 113, 114, 115, 116, 117, 118, 119, 120, 121, 122, 123, 124, 125, 126, 127, 128, 129, 130, 131, 132] (by decide +kernel) (by decide +kernel)
set_option maxRecDepth 20000 in
theorem gX6_beats_X6_holds : GoodIn wsX6_beats (wsV RX6 202 RX6 yX6_holds wsX6_holds) := goodIn_app (goodIn_of _ (by decide +kernel)) ggX6_beats_X6_holds
set_option maxRecDepth 20000 in
theorem ggX6_beats_X6_opens : GoodIn wsX6_beats wsX6_opens := goodIn_r _ [69, 70, 33, 12, 5, 34, 32, 2, 71, 72, 73, 10, 74, 13, 50, 51, 75, 76, 77, 78, 14, 16, 15, 61, 62, 63, 64, 65, 79, 80, 81, 82, 83, 84, 85, 86, 92, 93, 94, 95, 96, 97, 98, 99, 100, 101, 102, 103, 104, 105, 106, 107, 108, 109, 110, 111, 112, 113, 114, 115, 116, 117, 118, 119, 120, 121, 122, 123, 124, 125, 126, 127, 128, 129, 130, 131, 132] (by decide +kernel) (by decide +kernel)
set_option maxRecDepth 20000 in
theorem gX6_beats_X6_opens : GoodIn wsX6_beats (wsV RX6 205 RX6 yX6_opens wsX6_opens) := goodIn_app (goodIn_of _ (by decide +kernel)) ggX6_beats_X6_opens
set_option maxRecDepth 20000 in
theorem ggX6_beats_X6_drops : GoodIn wsX6_beats wsX6_drops := goodIn_r _ [43, 2, 44, 45, 39, 3, 92, 93, 94, 95, 96, 97, 98, 99, 100, 101, 102, 103, 104, 105, 106, 107, 108, 109, 110, 111, 112, 113, 114, 115, 116, 117, 118, 119, 120, 121, 122, 123, 124, 125, 126, 127, 128, 129, 130, 131, 132] (by decide +kernel) (by decide +kernel)
set_option maxRecDepth 20000 in
theorem gX6_beats_X6_drops : GoodIn wsX6_beats (wsV RX6 151 RX6 yX6_drops wsX6_drops) := goodIn_app (goodIn_of _ (by decide +kernel)) ggX6_beats_X6_drops
set_option maxRecDepth 20000 in
theorem ggX6_beats_X6_frees : GoodIn wsX6_beats wsX6_frees := goodIn_r _ [90, 5, 6, 32, 91, 92, 93, 94, 95, 96, 97, 98, 99, 100, 101, 102, 103, 104, 105, 106, 107, 108, 109, 110, 111, 112, 113, 114, 115, 116, 117, 118, 119, 120, 121, 122, 123, 124, 125, 126, 127, 128, 129, 130, 131, 132] (by decide +kernel) (by decide +kernel)
set_option maxRecDepth 20000 in
theorem gX6_beats_X6_frees : GoodIn wsX6_beats (wsV RX6 161 RX6 yX6_frees wsX6_frees) := goodIn_app (goodIn_of _ (by decide +kernel)) ggX6_beats_X6_frees
theorem dX6_beats_0 : decode cX6_beats 0 = .ok (.aload_n 0, 1) := by decide +kernel
theorem dX6_beats_1 : decode cX6_beats 1 = .ok (.dup, 1) := by decide +kernel
theorem dX6_beats_2 : decode cX6_beats 2 = .ok (.getfield 193, 3) := by decide +kernel
theorem dX6_beats_5 : decode cX6_beats 5 = .ok (.iconst 1, 1) := by decide +kernel
theorem dX6_beats_6 : decode cX6_beats 6 = .ok (.iadd, 1) := by decide +kernel
theorem dX6_beats_7 : decode cX6_beats 7 = .ok (.putfield 193, 3) := by decide +kernel
theorem dX6_beats_10 : decode cX6_beats 10 = .ok (.aload_n 0, 1) := by decide +kernel
theorem dX6_beats_11 : decode cX6_beats 11 = .ok (.invokevirtual 196, 3) := by decide +kernel
theorem dX6_beats_14 : decode cX6_beats 14 = .ok (.aload_n 0, 1) := by decide +kernel
theorem dX6_beats_15 : decode cX6_beats 15 = .ok (.invokevirtual 199, 3) := by decide +kernel
theorem dX6_beats_18 : decode cX6_beats 18 = .ok (.iconst 0, 1) := by decide +kernel
theorem dX6_beats_19 : decode cX6_beats 19 = .ok (.istore_n 1, 1) := by decide +kernel
theorem dX6_beats_20 : decode cX6_beats 20 = .ok (.iload_n 1, 1) := by decide +kernel
theorem dX6_beats_21 : decode cX6_beats 21 = .ok (.bipush 6, 2) := by decide +kernel
theorem dX6_beats_23 : decode cX6_beats 23 = .ok (.if_icmp .ge 14, 3) := by decide +kernel
theorem dX6_beats_26 : decode cX6_beats 26 = .ok (.aload_n 0, 1) := by decide +kernel
theorem dX6_beats_27 : decode cX6_beats 27 = .ok (.iload_n 1, 1) := by decide +kernel
theorem dX6_beats_28 : decode cX6_beats 28 = .ok (.invokevirtual 202, 3) := by decide +kernel
theorem dX6_beats_31 : decode cX6_beats 31 = .ok (.iinc 1 1, 3) := by decide +kernel
theorem dX6_beats_34 : decode cX6_beats 34 = .ok (.goto (-14), 3) := by decide +kernel
theorem dX6_beats_37 : decode cX6_beats 37 = .ok (.aload_n 0, 1) := by decide +kernel
theorem dX6_beats_38 : decode cX6_beats 38 = .ok (.invokevirtual 205, 3) := by decide +kernel
theorem dX6_beats_41 : decode cX6_beats 41 = .ok (.iconst 0, 1) := by decide +kernel
theorem dX6_beats_42 : decode cX6_beats 42 = .ok (.istore_n 1, 1) := by decide +kernel
theorem dX6_beats_43 : decode cX6_beats 43 = .ok (.iload_n 1, 1) := by decide +kernel
theorem dX6_beats_44 : decode cX6_beats 44 = .ok (.bipush 6, 2) := by decide +kernel
theorem dX6_beats_46 : decode cX6_beats 46 = .ok (.if_icmp .ge 59, 3) := by decide +kernel
theorem dX6_beats_49 : decode cX6_beats 49 = .ok (.bipush 8, 2) := by decide +kernel
theorem dX6_beats_51 : decode cX6_beats 51 = .ok (.iload_n 1, 1) := by decide +kernel
theorem dX6_beats_52 : decode cX6_beats 52 = .ok (.imul, 1) := by decide +kernel
theorem dX6_beats_53 : decode cX6_beats 53 = .ok (.aload_n 0, 1) := by decide +kernel
theorem dX6_beats_54 : decode cX6_beats 54 = .ok (.getfield 81, 3) := by decide +kernel
theorem dX6_beats_57 : decode cX6_beats 57 = .ok (.iload_n 1, 1) := by decide +kernel
theorem dX6_beats_58 : decode cX6_beats 58 = .ok (.iaload, 1) := by decide +kernel
theorem dX6_beats_59 : decode cX6_beats 59 = .ok (.iadd, 1) := by decide +kernel
theorem dX6_beats_60 : decode cX6_beats 60 = .ok (.iconst 1, 1) := by decide +kernel
theorem dX6_beats_61 : decode cX6_beats 61 = .ok (.isub, 1) := by decide +kernel
theorem dX6_beats_62 : decode cX6_beats 62 = .ok (.istore_n 2, 1) := by decide +kernel
theorem dX6_beats_63 : decode cX6_beats 63 = .ok (.iload_n 2, 1) := by decide +kernel
theorem dX6_beats_64 : decode cX6_beats 64 = .ok (.bipush 8, 2) := by decide +kernel
theorem dX6_beats_66 : decode cX6_beats 66 = .ok (.iload_n 1, 1) := by decide +kernel
theorem dX6_beats_67 : decode cX6_beats 67 = .ok (.imul, 1) := by decide +kernel
theorem dX6_beats_68 : decode cX6_beats 68 = .ok (.if_icmp .lt 31, 3) := by decide +kernel
theorem dX6_beats_71 : decode cX6_beats 71 = .ok (.aload_n 0, 1) := by decide +kernel
theorem dX6_beats_72 : decode cX6_beats 72 = .ok (.getfield 193, 3) := by decide +kernel
theorem dX6_beats_75 : decode cX6_beats 75 = .ok (.aload_n 0, 1) := by decide +kernel
theorem dX6_beats_76 : decode cX6_beats 76 = .ok (.getfield 93, 3) := by decide +kernel
theorem dX6_beats_79 : decode cX6_beats 79 = .ok (.iload_n 2, 1) := by decide +kernel
theorem dX6_beats_80 : decode cX6_beats 80 = .ok (.iaload, 1) := by decide +kernel
theorem dX6_beats_81 : decode cX6_beats 81 = .ok (.isub, 1) := by decide +kernel
theorem dX6_beats_82 : decode cX6_beats 82 = .ok (.bipush 10, 2) := by decide +kernel
theorem dX6_beats_84 : decode cX6_beats 84 = .ok (.if_icmp .lt 9, 3) := by decide +kernel
theorem dX6_beats_87 : decode cX6_beats 87 = .ok (.aload_n 0, 1) := by decide +kernel
theorem dX6_beats_88 : decode cX6_beats 88 = .ok (.iload_n 1, 1) := by decide +kernel
theorem dX6_beats_89 : decode cX6_beats 89 = .ok (.iload_n 2, 1) := by decide +kernel
theorem dX6_beats_90 : decode cX6_beats 90 = .ok (.invokevirtual 151, 3) := by decide +kernel
theorem dX6_beats_93 : decode cX6_beats 93 = .ok (.iinc 2 (-1), 3) := by decide +kernel
theorem dX6_beats_96 : decode cX6_beats 96 = .ok (.goto (-33), 3) := by decide +kernel
theorem dX6_beats_99 : decode cX6_beats 99 = .ok (.iinc 1 1, 3) := by decide +kernel
theorem dX6_beats_102 : decode cX6_beats 102 = .ok (.goto (-59), 3) := by decide +kernel
theorem dX6_beats_105 : decode cX6_beats 105 = .ok (.iconst 0, 1) := by decide +kernel
theorem dX6_beats_106 : decode cX6_beats 106 = .ok (.istore_n 1, 1) := by decide +kernel
theorem dX6_beats_107 : decode cX6_beats 107 = .ok (.iload_n 1, 1) := by decide +kernel
theorem dX6_beats_108 : decode cX6_beats 108 = .ok (.bipush 30, 2) := by decide +kernel
theorem dX6_beats_110 : decode cX6_beats 110 = .ok (.if_icmp .ge 52, 3) := by decide +kernel
theorem dX6_beats_113 : decode cX6_beats 113 = .ok (.aload_n 0, 1) := by decide +kernel
theorem dX6_beats_114 : decode cX6_beats 114 = .ok (.getfield 54, 3) := by decide +kernel
theorem dX6_beats_117 : decode cX6_beats 117 = .ok (.iload_n 1, 1) := by decide +kernel
theorem dX6_beats_118 : decode cX6_beats 118 = .ok (.iconst 0, 1) := by decide +kernel
theorem dX6_beats_119 : decode cX6_beats 119 = .ok (.iastore, 1) := by decide +kernel
theorem dX6_beats_120 : decode cX6_beats 120 = .ok (.aload_n 0, 1) := by decide +kernel
theorem dX6_beats_121 : decode cX6_beats 121 = .ok (.getfield 39, 3) := by decide +kernel
theorem dX6_beats_124 : decode cX6_beats 124 = .ok (.iload_n 1, 1) := by decide +kernel
theorem dX6_beats_125 : decode cX6_beats 125 = .ok (.baload, 1) := by decide +kernel
theorem dX6_beats_126 : decode cX6_beats 126 = .ok (.ifCond .eq 30, 3) := by decide +kernel
theorem dX6_beats_129 : decode cX6_beats 129 = .ok (.aload_n 0, 1) := by decide +kernel
theorem dX6_beats_130 : decode cX6_beats 130 = .ok (.getfield 42, 3) := by decide +kernel
theorem dX6_beats_133 : decode cX6_beats 133 = .ok (.iload_n 1, 1) := by decide +kernel
theorem dX6_beats_134 : decode cX6_beats 134 = .ok (.iaload, 1) := by decide +kernel
theorem dX6_beats_135 : decode cX6_beats 135 = .ok (.ifCond .le 21, 3) := by decide +kernel
theorem dX6_beats_138 : decode cX6_beats 138 = .ok (.aload_n 0, 1) := by decide +kernel
theorem dX6_beats_139 : decode cX6_beats 139 = .ok (.getfield 42, 3) := by decide +kernel
theorem dX6_beats_142 : decode cX6_beats 142 = .ok (.iload_n 1, 1) := by decide +kernel
theorem dX6_beats_143 : decode cX6_beats 143 = .ok (.iaload, 1) := by decide +kernel
theorem dX6_beats_144 : decode cX6_beats 144 = .ok (.aload_n 0, 1) := by decide +kernel
theorem dX6_beats_145 : decode cX6_beats 145 = .ok (.getfield 193, 3) := by decide +kernel
theorem dX6_beats_148 : decode cX6_beats 148 = .ok (.if_icmp .gt 8, 3) := by decide +kernel
theorem dX6_beats_151 : decode cX6_beats 151 = .ok (.aload_n 0, 1) := by decide +kernel
theorem dX6_beats_152 : decode cX6_beats 152 = .ok (.iload_n 1, 1) := by decide +kernel
theorem dX6_beats_153 : decode cX6_beats 153 = .ok (.invokevirtual 161, 3) := by decide +kernel
theorem dX6_beats_156 : decode cX6_beats 156 = .ok (.iinc 1 1, 3) := by decide +kernel
theorem dX6_beats_159 : decode cX6_beats 159 = .ok (.goto (-52), 3) := by decide +kernel
theorem dX6_beats_162 : decode cX6_beats 162 = .ok (.return_, 1) := by decide +kernel
set_option maxRecDepth 20000 in
theorem ggX6_beat_X6_isIn : GoodIn wsX6_beat wsX6_isIn := goodIn_r _ [5] (by decide +kernel) (by decide +kernel)
set_option maxRecDepth 20000 in
theorem gX6_beat_X6_isIn : GoodIn wsX6_beat (va_wsS RX6 129 yX6_isIn wsX6_isIn) := goodIn_app (goodIn_of _ (by decide +kernel)) ggX6_beat_X6_isIn
set_option maxRecDepth 20000 in
theorem ggX6_beat_X6_fails : GoodIn wsX6_beat wsX6_fails := goodIn_r _ [9, 10, 104, 105, 106, 107, 108, 109, 110, 111, 112, 113, 114, 115, 116, 117, 118, 119, 120, 121, 122, 123, 124, 125, 126, 127, 128, 129, 130, 131, 132, 133, 134, 135, 136, 137, 138, 139, 140, 141, 142, 143, 144] (by decide +kernel) (by decide +kernel)
set_option maxRecDepth 20000 in
theorem gX6_beat_X6_fails : GoodIn wsX6_beat (wsV RX6 144 RX6 yX6_fails wsX6_fails) := goodIn_app (goodIn_of _ (by decide +kernel)) ggX6_beat_X6_fails
set_option maxRecDepth 20000 in
theorem ggX6_beat_X6_beats : GoodIn wsX6_beat wsX6_beats := goodIn_r _ [14, 1, 15, 16, 17, 18, 19, 20, 21, 22, 4, 23, 24, 25, 26, 27, 28, 29, 30, 31, 32, 33, 34, 35, 36, 37, 38, 39, 40, 41, 42, 43, 44, 45, 46, 47, 48, 49, 50, 51, 52, 53, 54, 55, 56, 57, 58, 59, 60, 61, 62, 63, 64, 65, 66, 67, 68, 69, 70, 71, 72, 73, 74, 75, 76, 77, 78, 79, 80, 81, 82, 83, 84, 85, 86, 87, 88, 89, 90, 91, 92, 93, 94, 95, 96, 97, 98, 99, 100, 101, 102, 103, 104, 105, 106, 107, 108, 109, 110, 111, 112, 113, 114, 115, 116, 117, 118, 119, 120, 121, 122, 123, 124, 125, 126, 127, 128, 129, 130, 131, 132, 133, 134, 135, 136, 137, 138, 139, 140, 141, 142, 143, 144] (by decide +kernel) (by decide +kernel)
set_option maxRecDepth 20000 in
theorem gX6_beat_X6_beats : GoodIn wsX6_beat (wsV RX6 208 RX6 yX6_beats wsX6_beats) := goodIn_app (goodIn_of _ (by decide +kernel)) ggX6_beat_X6_beats
theorem dX6_beat_0 : decode cX6_beat 0 = .ok (.aload_n 0, 1) := by decide +kernel
theorem dX6_beat_1 : decode cX6_beat 1 = .ok (.iload_n 1, 1) := by decide +kernel
theorem dX6_beat_2 : decode cX6_beat 2 = .ok (.iconst 1, 1) := by decide +kernel
theorem dX6_beat_3 : decode cX6_beat 3 = .ok (.bipush 30, 2) := by decide +kernel
theorem dX6_beat_5 : decode cX6_beat 5 = .ok (.invokestatic 129, 3) := by decide +kernel
theorem dX6_beat_8 : decode cX6_beat 8 = .ok (.ifCond .eq 7, 3) := by decide +kernel
theorem dX6_beat_11 : decode cX6_beat 11 = .ok (.iconst 0, 1) := by decide +kernel
theorem dX6_beat_12 : decode cX6_beat 12 = .ok (.goto 4, 3) := by decide +kernel
theorem dX6_beat_15 : decode cX6_beat 15 = .ok (.iconst 1, 1) := by decide +kernel
theorem dX6_beat_16 : decode cX6_beat 16 = .ok (.invokevirtual 144, 3) := by decide +kernel
theorem dX6_beat_19 : decode cX6_beat 19 = .ok (.ifCond .eq 5, 3) := by decide +kernel
theorem dX6_beat_22 : decode cX6_beat 22 = .ok (.iconst 0, 1) := by decide +kernel
theorem dX6_beat_23 : decode cX6_beat 23 = .ok (.ireturn, 1) := by decide +kernel
theorem dX6_beat_24 : decode cX6_beat 24 = .ok (.iconst 0, 1) := by decide +kernel
theorem dX6_beat_25 : decode cX6_beat 25 = .ok (.istore_n 2, 1) := by decide +kernel
theorem dX6_beat_26 : decode cX6_beat 26 = .ok (.iload_n 2, 1) := by decide +kernel
theorem dX6_beat_27 : decode cX6_beat 27 = .ok (.iload_n 1, 1) := by decide +kernel
theorem dX6_beat_28 : decode cX6_beat 28 = .ok (.if_icmp .ge 13, 3) := by decide +kernel
theorem dX6_beat_31 : decode cX6_beat 31 = .ok (.aload_n 0, 1) := by decide +kernel
theorem dX6_beat_32 : decode cX6_beat 32 = .ok (.invokevirtual 208, 3) := by decide +kernel
theorem dX6_beat_35 : decode cX6_beat 35 = .ok (.iinc 2 1, 3) := by decide +kernel
theorem dX6_beat_38 : decode cX6_beat 38 = .ok (.goto (-12), 3) := by decide +kernel
theorem dX6_beat_41 : decode cX6_beat 41 = .ok (.aload_n 0, 1) := by decide +kernel
theorem dX6_beat_42 : decode cX6_beat 42 = .ok (.getfield 193, 3) := by decide +kernel
theorem dX6_beat_45 : decode cX6_beat 45 = .ok (.ireturn, 1) := by decide +kernel
theorem dX6_find_0 : decode cX6_find 0 = .ok (.iconst (-1), 1) := by decide +kernel
theorem dX6_find_1 : decode cX6_find 1 = .ok (.istore 4, 2) := by decide +kernel
theorem dX6_find_3 : decode cX6_find 3 = .ok (.bipush 8, 2) := by decide +kernel
theorem dX6_find_5 : decode cX6_find 5 = .ok (.iload_n 1, 1) := by decide +kernel
theorem dX6_find_6 : decode cX6_find 6 = .ok (.imul, 1) := by decide +kernel
theorem dX6_find_7 : decode cX6_find 7 = .ok (.istore 5, 2) := by decide +kernel
theorem dX6_find_9 : decode cX6_find 9 = .ok (.iload 5, 2) := by decide +kernel
theorem dX6_find_11 : decode cX6_find 11 = .ok (.bipush 8, 2) := by decide +kernel
theorem dX6_find_13 : decode cX6_find 13 = .ok (.iload_n 1, 1) := by decide +kernel
theorem dX6_find_14 : decode cX6_find 14 = .ok (.imul, 1) := by decide +kernel
theorem dX6_find_15 : decode cX6_find 15 = .ok (.aload_n 0, 1) := by decide +kernel
theorem dX6_find_16 : decode cX6_find 16 = .ok (.getfield 81, 3) := by decide +kernel
theorem dX6_find_19 : decode cX6_find 19 = .ok (.iload_n 1, 1) := by decide +kernel
theorem dX6_find_20 : decode cX6_find 20 = .ok (.iaload, 1) := by decide +kernel
theorem dX6_find_21 : decode cX6_find 21 = .ok (.iadd, 1) := by decide +kernel
theorem dX6_find_22 : decode cX6_find 22 = .ok (.if_icmp .ge 40, 3) := by decide +kernel
theorem dX6_find_25 : decode cX6_find 25 = .ok (.aload_n 0, 1) := by decide +kernel
theorem dX6_find_26 : decode cX6_find 26 = .ok (.getfield 84, 3) := by decide +kernel
theorem dX6_find_29 : decode cX6_find 29 = .ok (.iload 5, 2) := by decide +kernel
theorem dX6_find_31 : decode cX6_find 31 = .ok (.iaload, 1) := by decide +kernel
theorem dX6_find_32 : decode cX6_find 32 = .ok (.iload_n 2, 1) := by decide +kernel
theorem dX6_find_33 : decode cX6_find 33 = .ok (.if_icmp .ne 19, 3) := by decide +kernel
theorem dX6_find_36 : decode cX6_find 36 = .ok (.aload_n 0, 1) := by decide +kernel
theorem dX6_find_37 : decode cX6_find 37 = .ok (.getfield 87, 3) := by decide +kernel
theorem dX6_find_40 : decode cX6_find 40 = .ok (.iload 5, 2) := by decide +kernel
theorem dX6_find_42 : decode cX6_find 42 = .ok (.iaload, 1) := by decide +kernel
theorem dX6_find_43 : decode cX6_find 43 = .ok (.iload_n 3, 1) := by decide +kernel
theorem dX6_find_44 : decode cX6_find 44 = .ok (.if_icmp .ne 8, 3) := by decide +kernel
theorem dX6_find_47 : decode cX6_find 47 = .ok (.iload 5, 2) := by decide +kernel
theorem dX6_find_49 : decode cX6_find 49 = .ok (.goto 5, 3) := by decide +kernel
theorem dX6_find_52 : decode cX6_find 52 = .ok (.iload 4, 2) := by decide +kernel
theorem dX6_find_54 : decode cX6_find 54 = .ok (.istore 4, 2) := by decide +kernel
theorem dX6_find_56 : decode cX6_find 56 = .ok (.iinc 5 1, 3) := by decide +kernel
theorem dX6_find_59 : decode cX6_find 59 = .ok (.goto (-50), 3) := by decide +kernel
theorem dX6_find_62 : decode cX6_find 62 = .ok (.iload 4, 2) := by decide +kernel
theorem dX6_find_64 : decode cX6_find 64 = .ok (.ireturn, 1) := by decide +kernel
set_option maxRecDepth 20000 in
theorem ggX6_hears_X6_find : GoodIn wsX6_hears wsX6_find := goodIn_r _ [11, 1, 2, 3, 12, 13, 14, 15, 16, 17, 18, 19, 20, 21, 22, 23, 24, 25, 26, 27, 28, 29, 30, 31, 32, 33, 34, 35, 36, 37, 38, 39, 40, 41, 42, 43, 44, 45, 46, 47, 48, 49, 50, 51, 52] (by decide +kernel) (by decide +kernel)
set_option maxRecDepth 20000 in
theorem gX6_hears_X6_find : GoodIn wsX6_hears (wsV RX6 211 RX6 yX6_find wsX6_find) := goodIn_app (goodIn_of _ (by decide +kernel)) ggX6_hears_X6_find
theorem dX6_hears_0 : decode cX6_hears 0 = .ok (.iload_n 1, 1) := by decide +kernel
theorem dX6_hears_1 : decode cX6_hears 1 = .ok (.iconst 5, 1) := by decide +kernel
theorem dX6_hears_2 : decode cX6_hears 2 = .ok (.idiv, 1) := by decide +kernel
theorem dX6_hears_3 : decode cX6_hears 3 = .ok (.istore 4, 2) := by decide +kernel
theorem dX6_hears_5 : decode cX6_hears 5 = .ok (.aload_n 0, 1) := by decide +kernel
theorem dX6_hears_6 : decode cX6_hears 6 = .ok (.iload 4, 2) := by decide +kernel
theorem dX6_hears_8 : decode cX6_hears 8 = .ok (.iload_n 2, 1) := by decide +kernel
theorem dX6_hears_9 : decode cX6_hears 9 = .ok (.iload_n 3, 1) := by decide +kernel
theorem dX6_hears_10 : decode cX6_hears 10 = .ok (.invokevirtual 211, 3) := by decide +kernel
theorem dX6_hears_13 : decode cX6_hears 13 = .ok (.istore 5, 2) := by decide +kernel
theorem dX6_hears_15 : decode cX6_hears 15 = .ok (.iload 5, 2) := by decide +kernel
theorem dX6_hears_17 : decode cX6_hears 17 = .ok (.iconst (-1), 1) := by decide +kernel
theorem dX6_hears_18 : decode cX6_hears 18 = .ok (.if_icmp .ne 41, 3) := by decide +kernel
theorem dX6_hears_21 : decode cX6_hears 21 = .ok (.aload_n 0, 1) := by decide +kernel
theorem dX6_hears_22 : decode cX6_hears 22 = .ok (.getfield 81, 3) := by decide +kernel
theorem dX6_hears_25 : decode cX6_hears 25 = .ok (.iload 4, 2) := by decide +kernel
theorem dX6_hears_27 : decode cX6_hears 27 = .ok (.iaload, 1) := by decide +kernel
theorem dX6_hears_28 : decode cX6_hears 28 = .ok (.bipush 8, 2) := by decide +kernel
theorem dX6_hears_30 : decode cX6_hears 30 = .ok (.if_icmp .ge 29, 3) := by decide +kernel
theorem dX6_hears_33 : decode cX6_hears 33 = .ok (.bipush 8, 2) := by decide +kernel
theorem dX6_hears_35 : decode cX6_hears 35 = .ok (.iload 4, 2) := by decide +kernel
theorem dX6_hears_37 : decode cX6_hears 37 = .ok (.imul, 1) := by decide +kernel
theorem dX6_hears_38 : decode cX6_hears 38 = .ok (.aload_n 0, 1) := by decide +kernel
theorem dX6_hears_39 : decode cX6_hears 39 = .ok (.getfield 81, 3) := by decide +kernel
theorem dX6_hears_42 : decode cX6_hears 42 = .ok (.iload 4, 2) := by decide +kernel
theorem dX6_hears_44 : decode cX6_hears 44 = .ok (.iaload, 1) := by decide +kernel
theorem dX6_hears_45 : decode cX6_hears 45 = .ok (.iadd, 1) := by decide +kernel
theorem dX6_hears_46 : decode cX6_hears 46 = .ok (.istore 5, 2) := by decide +kernel
theorem dX6_hears_48 : decode cX6_hears 48 = .ok (.aload_n 0, 1) := by decide +kernel
theorem dX6_hears_49 : decode cX6_hears 49 = .ok (.getfield 81, 3) := by decide +kernel
theorem dX6_hears_52 : decode cX6_hears 52 = .ok (.iload 4, 2) := by decide +kernel
theorem dX6_hears_54 : decode cX6_hears 54 = .ok (.dup2, 1) := by decide +kernel
theorem dX6_hears_55 : decode cX6_hears 55 = .ok (.iaload, 1) := by decide +kernel
theorem dX6_hears_56 : decode cX6_hears 56 = .ok (.iconst 1, 1) := by decide +kernel
theorem dX6_hears_57 : decode cX6_hears 57 = .ok (.iadd, 1) := by decide +kernel
theorem dX6_hears_58 : decode cX6_hears 58 = .ok (.iastore, 1) := by decide +kernel
theorem dX6_hears_59 : decode cX6_hears 59 = .ok (.iload 5, 2) := by decide +kernel
theorem dX6_hears_61 : decode cX6_hears 61 = .ok (.iconst (-1), 1) := by decide +kernel
theorem dX6_hears_62 : decode cX6_hears 62 = .ok (.if_icmp .eq 40, 3) := by decide +kernel
theorem dX6_hears_65 : decode cX6_hears 65 = .ok (.aload_n 0, 1) := by decide +kernel
theorem dX6_hears_66 : decode cX6_hears 66 = .ok (.getfield 84, 3) := by decide +kernel
theorem dX6_hears_69 : decode cX6_hears 69 = .ok (.iload 5, 2) := by decide +kernel
theorem dX6_hears_71 : decode cX6_hears 71 = .ok (.iload_n 2, 1) := by decide +kernel
theorem dX6_hears_72 : decode cX6_hears 72 = .ok (.iastore, 1) := by decide +kernel
theorem dX6_hears_73 : decode cX6_hears 73 = .ok (.aload_n 0, 1) := by decide +kernel
theorem dX6_hears_74 : decode cX6_hears 74 = .ok (.getfield 87, 3) := by decide +kernel
theorem dX6_hears_77 : decode cX6_hears 77 = .ok (.iload 5, 2) := by decide +kernel
theorem dX6_hears_79 : decode cX6_hears 79 = .ok (.iload_n 3, 1) := by decide +kernel
theorem dX6_hears_80 : decode cX6_hears 80 = .ok (.iastore, 1) := by decide +kernel
theorem dX6_hears_81 : decode cX6_hears 81 = .ok (.aload_n 0, 1) := by decide +kernel
theorem dX6_hears_82 : decode cX6_hears 82 = .ok (.getfield 90, 3) := by decide +kernel
theorem dX6_hears_85 : decode cX6_hears 85 = .ok (.iload 5, 2) := by decide +kernel
theorem dX6_hears_87 : decode cX6_hears 87 = .ok (.iload_n 1, 1) := by decide +kernel
theorem dX6_hears_88 : decode cX6_hears 88 = .ok (.iconst 5, 1) := by decide +kernel
theorem dX6_hears_89 : decode cX6_hears 89 = .ok (.irem, 1) := by decide +kernel
theorem dX6_hears_90 : decode cX6_hears 90 = .ok (.iastore, 1) := by decide +kernel
theorem dX6_hears_91 : decode cX6_hears 91 = .ok (.aload_n 0, 1) := by decide +kernel
theorem dX6_hears_92 : decode cX6_hears 92 = .ok (.getfield 93, 3) := by decide +kernel
theorem dX6_hears_95 : decode cX6_hears 95 = .ok (.iload 5, 2) := by decide +kernel
theorem dX6_hears_97 : decode cX6_hears 97 = .ok (.aload_n 0, 1) := by decide +kernel
theorem dX6_hears_98 : decode cX6_hears 98 = .ok (.getfield 193, 3) := by decide +kernel
theorem dX6_hears_101 : decode cX6_hears 101 = .ok (.iastore, 1) := by decide +kernel
theorem dX6_hears_102 : decode cX6_hears 102 = .ok (.return_, 1) := by decide +kernel
theorem dX6_laneOf_0 : decode cX6_laneOf 0 = .ok (.aload_n 0, 1) := by decide +kernel
theorem dX6_laneOf_1 : decode cX6_laneOf 1 = .ok (.getfield 45, 3) := by decide +kernel
theorem dX6_laneOf_4 : decode cX6_laneOf 4 = .ok (.iload_n 1, 1) := by decide +kernel
theorem dX6_laneOf_5 : decode cX6_laneOf 5 = .ok (.baload, 1) := by decide +kernel
theorem dX6_laneOf_6 : decode cX6_laneOf 6 = .ok (.ifCond .ne 5, 3) := by decide +kernel
theorem dX6_laneOf_9 : decode cX6_laneOf 9 = .ok (.iconst 0, 1) := by decide +kernel
theorem dX6_laneOf_10 : decode cX6_laneOf 10 = .ok (.ireturn, 1) := by decide +kernel
theorem dX6_laneOf_11 : decode cX6_laneOf 11 = .ok (.aload_n 0, 1) := by decide +kernel
theorem dX6_laneOf_12 : decode cX6_laneOf 12 = .ok (.getfield 29, 3) := by decide +kernel
theorem dX6_laneOf_15 : decode cX6_laneOf 15 = .ok (.iload_n 1, 1) := by decide +kernel
theorem dX6_laneOf_16 : decode cX6_laneOf 16 = .ok (.baload, 1) := by decide +kernel
theorem dX6_laneOf_17 : decode cX6_laneOf 17 = .ok (.ifCond .ne 28, 3) := by decide +kernel
theorem dX6_laneOf_20 : decode cX6_laneOf 20 = .ok (.iload_n 2, 1) := by decide +kernel
theorem dX6_laneOf_21 : decode cX6_laneOf 21 = .ok (.ifCond .eq 13, 3) := by decide +kernel
theorem dX6_laneOf_24 : decode cX6_laneOf 24 = .ok (.iload_n 2, 1) := by decide +kernel
theorem dX6_laneOf_25 : decode cX6_laneOf 25 = .ok (.aload_n 0, 1) := by decide +kernel
theorem dX6_laneOf_26 : decode cX6_laneOf 26 = .ok (.getfield 36, 3) := by decide +kernel
theorem dX6_laneOf_29 : decode cX6_laneOf 29 = .ok (.iload_n 1, 1) := by decide +kernel
theorem dX6_laneOf_30 : decode cX6_laneOf 30 = .ok (.iaload, 1) := by decide +kernel
theorem dX6_laneOf_31 : decode cX6_laneOf 31 = .ok (.if_icmp .ne 12, 3) := by decide +kernel
theorem dX6_laneOf_34 : decode cX6_laneOf 34 = .ok (.aload_n 0, 1) := by decide +kernel
theorem dX6_laneOf_35 : decode cX6_laneOf 35 = .ok (.getfield 36, 3) := by decide +kernel
theorem dX6_laneOf_38 : decode cX6_laneOf 38 = .ok (.iload_n 1, 1) := by decide +kernel
theorem dX6_laneOf_39 : decode cX6_laneOf 39 = .ok (.iaload, 1) := by decide +kernel
theorem dX6_laneOf_40 : decode cX6_laneOf 40 = .ok (.goto 4, 3) := by decide +kernel
theorem dX6_laneOf_43 : decode cX6_laneOf 43 = .ok (.iconst 0, 1) := by decide +kernel
theorem dX6_laneOf_44 : decode cX6_laneOf 44 = .ok (.ireturn, 1) := by decide +kernel
theorem dX6_laneOf_45 : decode cX6_laneOf 45 = .ok (.iload_n 2, 1) := by decide +kernel
theorem dX6_laneOf_46 : decode cX6_laneOf 46 = .ok (.ifCond .ne 12, 3) := by decide +kernel
theorem dX6_laneOf_49 : decode cX6_laneOf 49 = .ok (.aload_n 0, 1) := by decide +kernel
theorem dX6_laneOf_50 : decode cX6_laneOf 50 = .ok (.getfield 36, 3) := by decide +kernel
theorem dX6_laneOf_53 : decode cX6_laneOf 53 = .ok (.iload_n 1, 1) := by decide +kernel
theorem dX6_laneOf_54 : decode cX6_laneOf 54 = .ok (.iaload, 1) := by decide +kernel
theorem dX6_laneOf_55 : decode cX6_laneOf 55 = .ok (.goto 4, 3) := by decide +kernel
theorem dX6_laneOf_58 : decode cX6_laneOf 58 = .ok (.iload_n 2, 1) := by decide +kernel
theorem dX6_laneOf_59 : decode cX6_laneOf 59 = .ok (.istore_n 3, 1) := by decide +kernel
theorem dX6_laneOf_60 : decode cX6_laneOf 60 = .ok (.aload_n 0, 1) := by decide +kernel
theorem dX6_laneOf_61 : decode cX6_laneOf 61 = .ok (.getfield 33, 3) := by decide +kernel
theorem dX6_laneOf_64 : decode cX6_laneOf 64 = .ok (.iload_n 1, 1) := by decide +kernel
theorem dX6_laneOf_65 : decode cX6_laneOf 65 = .ok (.iaload, 1) := by decide +kernel
theorem dX6_laneOf_66 : decode cX6_laneOf 66 = .ok (.iload_n 3, 1) := by decide +kernel
theorem dX6_laneOf_67 : decode cX6_laneOf 67 = .ok (.iconst 1, 1) := by decide +kernel
theorem dX6_laneOf_68 : decode cX6_laneOf 68 = .ok (.isub, 1) := by decide +kernel
theorem dX6_laneOf_69 : decode cX6_laneOf 69 = .ok (.ishr, 1) := by decide +kernel
theorem dX6_laneOf_70 : decode cX6_laneOf 70 = .ok (.iconst 1, 1) := by decide +kernel
theorem dX6_laneOf_71 : decode cX6_laneOf 71 = .ok (.iand, 1) := by decide +kernel
theorem dX6_laneOf_72 : decode cX6_laneOf 72 = .ok (.iconst 1, 1) := by decide +kernel
theorem dX6_laneOf_73 : decode cX6_laneOf 73 = .ok (.if_icmp .ne 7, 3) := by decide +kernel
theorem dX6_laneOf_76 : decode cX6_laneOf 76 = .ok (.iload_n 3, 1) := by decide +kernel
theorem dX6_laneOf_77 : decode cX6_laneOf 77 = .ok (.goto 4, 3) := by decide +kernel
theorem dX6_laneOf_80 : decode cX6_laneOf 80 = .ok (.iconst 0, 1) := by decide +kernel
theorem dX6_laneOf_81 : decode cX6_laneOf 81 = .ok (.ireturn, 1) := by decide +kernel
theorem dX6_hasLane_0 : decode cX6_hasLane 0 = .ok (.aload_n 0, 1) := by decide +kernel
theorem dX6_hasLane_1 : decode cX6_hasLane 1 = .ok (.getfield 29, 3) := by decide +kernel
theorem dX6_hasLane_4 : decode cX6_hasLane 4 = .ok (.iload_n 1, 1) := by decide +kernel
theorem dX6_hasLane_5 : decode cX6_hasLane 5 = .ok (.baload, 1) := by decide +kernel
theorem dX6_hasLane_6 : decode cX6_hasLane 6 = .ok (.ifCond .eq 27, 3) := by decide +kernel
theorem dX6_hasLane_9 : decode cX6_hasLane 9 = .ok (.aload_n 0, 1) := by decide +kernel
theorem dX6_hasLane_10 : decode cX6_hasLane 10 = .ok (.getfield 33, 3) := by decide +kernel
theorem dX6_hasLane_13 : decode cX6_hasLane 13 = .ok (.iload_n 1, 1) := by decide +kernel
theorem dX6_hasLane_14 : decode cX6_hasLane 14 = .ok (.iaload, 1) := by decide +kernel
theorem dX6_hasLane_15 : decode cX6_hasLane 15 = .ok (.iload_n 2, 1) := by decide +kernel
theorem dX6_hasLane_16 : decode cX6_hasLane 16 = .ok (.iconst 1, 1) := by decide +kernel
theorem dX6_hasLane_17 : decode cX6_hasLane 17 = .ok (.isub, 1) := by decide +kernel
theorem dX6_hasLane_18 : decode cX6_hasLane 18 = .ok (.ishr, 1) := by decide +kernel
theorem dX6_hasLane_19 : decode cX6_hasLane 19 = .ok (.iconst 1, 1) := by decide +kernel
theorem dX6_hasLane_20 : decode cX6_hasLane 20 = .ok (.iand, 1) := by decide +kernel
theorem dX6_hasLane_21 : decode cX6_hasLane 21 = .ok (.iconst 1, 1) := by decide +kernel
theorem dX6_hasLane_22 : decode cX6_hasLane 22 = .ok (.if_icmp .ne 7, 3) := by decide +kernel
theorem dX6_hasLane_25 : decode cX6_hasLane 25 = .ok (.iconst 1, 1) := by decide +kernel
theorem dX6_hasLane_26 : decode cX6_hasLane 26 = .ok (.goto 22, 3) := by decide +kernel
theorem dX6_hasLane_29 : decode cX6_hasLane 29 = .ok (.iconst 0, 1) := by decide +kernel
theorem dX6_hasLane_30 : decode cX6_hasLane 30 = .ok (.goto 18, 3) := by decide +kernel
theorem dX6_hasLane_33 : decode cX6_hasLane 33 = .ok (.aload_n 0, 1) := by decide +kernel
theorem dX6_hasLane_34 : decode cX6_hasLane 34 = .ok (.getfield 36, 3) := by decide +kernel
theorem dX6_hasLane_37 : decode cX6_hasLane 37 = .ok (.iload_n 1, 1) := by decide +kernel
theorem dX6_hasLane_38 : decode cX6_hasLane 38 = .ok (.iaload, 1) := by decide +kernel
theorem dX6_hasLane_39 : decode cX6_hasLane 39 = .ok (.iload_n 2, 1) := by decide +kernel
theorem dX6_hasLane_40 : decode cX6_hasLane 40 = .ok (.if_icmp .ne 7, 3) := by decide +kernel
theorem dX6_hasLane_43 : decode cX6_hasLane 43 = .ok (.iconst 1, 1) := by decide +kernel
theorem dX6_hasLane_44 : decode cX6_hasLane 44 = .ok (.goto 4, 3) := by decide +kernel
theorem dX6_hasLane_47 : decode cX6_hasLane 47 = .ok (.iconst 0, 1) := by decide +kernel
theorem dX6_hasLane_48 : decode cX6_hasLane 48 = .ok (.ireturn, 1) := by decide +kernel
theorem dX6_queues_0 : decode cX6_queues 0 = .ok (.aload_n 0, 1) := by decide +kernel
theorem dX6_queues_1 : decode cX6_queues 1 = .ok (.getfield 102, 3) := by decide +kernel
theorem dX6_queues_4 : decode cX6_queues 4 = .ok (.aload_n 0, 1) := by decide +kernel
theorem dX6_queues_5 : decode cX6_queues 5 = .ok (.getfield 215, 3) := by decide +kernel
theorem dX6_queues_8 : decode cX6_queues 8 = .ok (.iload_n 1, 1) := by decide +kernel
theorem dX6_queues_9 : decode cX6_queues 9 = .ok (.iastore, 1) := by decide +kernel
theorem dX6_queues_10 : decode cX6_queues 10 = .ok (.aload_n 0, 1) := by decide +kernel
theorem dX6_queues_11 : decode cX6_queues 11 = .ok (.getfield 105, 3) := by decide +kernel
theorem dX6_queues_14 : decode cX6_queues 14 = .ok (.aload_n 0, 1) := by decide +kernel
theorem dX6_queues_15 : decode cX6_queues 15 = .ok (.getfield 215, 3) := by decide +kernel
theorem dX6_queues_18 : decode cX6_queues 18 = .ok (.iload_n 2, 1) := by decide +kernel
theorem dX6_queues_19 : decode cX6_queues 19 = .ok (.iastore, 1) := by decide +kernel
theorem dX6_queues_20 : decode cX6_queues 20 = .ok (.aload_n 0, 1) := by decide +kernel
theorem dX6_queues_21 : decode cX6_queues 21 = .ok (.getfield 108, 3) := by decide +kernel
theorem dX6_queues_24 : decode cX6_queues 24 = .ok (.aload_n 0, 1) := by decide +kernel
theorem dX6_queues_25 : decode cX6_queues 25 = .ok (.getfield 215, 3) := by decide +kernel
theorem dX6_queues_28 : decode cX6_queues 28 = .ok (.iload_n 3, 1) := by decide +kernel
theorem dX6_queues_29 : decode cX6_queues 29 = .ok (.iastore, 1) := by decide +kernel
theorem dX6_queues_30 : decode cX6_queues 30 = .ok (.aload_n 0, 1) := by decide +kernel
theorem dX6_queues_31 : decode cX6_queues 31 = .ok (.getfield 111, 3) := by decide +kernel
theorem dX6_queues_34 : decode cX6_queues 34 = .ok (.aload_n 0, 1) := by decide +kernel
theorem dX6_queues_35 : decode cX6_queues 35 = .ok (.getfield 215, 3) := by decide +kernel
theorem dX6_queues_38 : decode cX6_queues 38 = .ok (.iload 4, 2) := by decide +kernel
theorem dX6_queues_40 : decode cX6_queues 40 = .ok (.iastore, 1) := by decide +kernel
theorem dX6_queues_41 : decode cX6_queues 41 = .ok (.aload_n 0, 1) := by decide +kernel
theorem dX6_queues_42 : decode cX6_queues 42 = .ok (.dup, 1) := by decide +kernel
theorem dX6_queues_43 : decode cX6_queues 43 = .ok (.getfield 215, 3) := by decide +kernel
theorem dX6_queues_46 : decode cX6_queues 46 = .ok (.iconst 1, 1) := by decide +kernel
theorem dX6_queues_47 : decode cX6_queues 47 = .ok (.iadd, 1) := by decide +kernel
theorem dX6_queues_48 : decode cX6_queues 48 = .ok (.putfield 215, 3) := by decide +kernel
theorem dX6_queues_51 : decode cX6_queues 51 = .ok (.return_, 1) := by decide +kernel
set_option maxRecDepth 20000 in
theorem ggX6_goesOut_X6_hasLane : GoodIn wsX6_goesOut wsX6_hasLane := goodIn_r _ [11, 1, 12, 2, 22, 23, 24, 25, 26, 27, 28, 29, 30, 31, 32, 33, 34, 35, 36, 37, 38, 39, 40, 41, 42, 43, 44, 45, 46, 47, 48, 49, 50, 51, 52, 53, 54, 55, 56, 57, 58, 59, 60, 61, 62] (by decide +kernel) (by decide +kernel)
set_option maxRecDepth 20000 in
theorem gX6_goesOut_X6_hasLane : GoodIn wsX6_goesOut (wsV RX6 218 RX6 yX6_hasLane wsX6_hasLane) := goodIn_app (goodIn_of _ (by decide +kernel)) ggX6_goesOut_X6_hasLane
set_option maxRecDepth 20000 in
theorem ggX6_goesOut_X6_queues : GoodIn wsX6_goesOut wsX6_queues := goodIn_r _ [16, 17, 18, 19, 20, 21, 22, 23, 24, 25, 26, 27, 28, 29, 30, 31, 32, 33, 34, 35, 36, 37, 38, 39, 40, 41, 42, 43, 44, 45, 46, 47, 48, 49, 50, 51, 52, 53, 54, 55, 56, 57, 58, 59, 60, 61, 62] (by decide +kernel) (by decide +kernel)
set_option maxRecDepth 20000 in
theorem gX6_goesOut_X6_queues : GoodIn wsX6_goesOut (wsV RX6 221 RX6 yX6_queues wsX6_queues) := goodIn_app (goodIn_of _ (by decide +kernel)) ggX6_goesOut_X6_queues
theorem dX6_goesOut_0 : decode cX6_goesOut 0 = .ok (.aload_n 0, 1) := by decide +kernel
theorem dX6_goesOut_1 : decode cX6_goesOut 1 = .ok (.iload_n 1, 1) := by decide +kernel
theorem dX6_goesOut_2 : decode cX6_goesOut 2 = .ok (.iload_n 2, 1) := by decide +kernel
theorem dX6_goesOut_3 : decode cX6_goesOut 3 = .ok (.invokevirtual 218, 3) := by decide +kernel
theorem dX6_goesOut_6 : decode cX6_goesOut 6 = .ok (.ifCond .ne 5, 3) := by decide +kernel
theorem dX6_goesOut_9 : decode cX6_goesOut 9 = .ok (.iconst 0, 1) := by decide +kernel
theorem dX6_goesOut_10 : decode cX6_goesOut 10 = .ok (.ireturn, 1) := by decide +kernel
theorem dX6_goesOut_11 : decode cX6_goesOut 11 = .ok (.aload_n 0, 1) := by decide +kernel
theorem dX6_goesOut_12 : decode cX6_goesOut 12 = .ok (.getfield 29, 3) := by decide +kernel
theorem dX6_goesOut_15 : decode cX6_goesOut 15 = .ok (.iload_n 1, 1) := by decide +kernel
theorem dX6_goesOut_16 : decode cX6_goesOut 16 = .ok (.baload, 1) := by decide +kernel
theorem dX6_goesOut_17 : decode cX6_goesOut 17 = .ok (.ifCond .eq 17, 3) := by decide +kernel
theorem dX6_goesOut_20 : decode cX6_goesOut 20 = .ok (.iload_n 2, 1) := by decide +kernel
theorem dX6_goesOut_21 : decode cX6_goesOut 21 = .ok (.aload_n 0, 1) := by decide +kernel
theorem dX6_goesOut_22 : decode cX6_goesOut 22 = .ok (.getfield 36, 3) := by decide +kernel
theorem dX6_goesOut_25 : decode cX6_goesOut 25 = .ok (.iload_n 1, 1) := by decide +kernel
theorem dX6_goesOut_26 : decode cX6_goesOut 26 = .ok (.iaload, 1) := by decide +kernel
theorem dX6_goesOut_27 : decode cX6_goesOut 27 = .ok (.if_icmp .eq 7, 3) := by decide +kernel
theorem dX6_goesOut_30 : decode cX6_goesOut 30 = .ok (.iconst 1, 1) := by decide +kernel
theorem dX6_goesOut_31 : decode cX6_goesOut 31 = .ok (.goto 4, 3) := by decide +kernel
theorem dX6_goesOut_34 : decode cX6_goesOut 34 = .ok (.iconst 0, 1) := by decide +kernel
theorem dX6_goesOut_35 : decode cX6_goesOut 35 = .ok (.istore 6, 2) := by decide +kernel
theorem dX6_goesOut_37 : decode cX6_goesOut 37 = .ok (.aload_n 0, 1) := by decide +kernel
theorem dX6_goesOut_38 : decode cX6_goesOut 38 = .ok (.getfield 23, 3) := by decide +kernel
theorem dX6_goesOut_41 : decode cX6_goesOut 41 = .ok (.iload_n 1, 1) := by decide +kernel
theorem dX6_goesOut_42 : decode cX6_goesOut 42 = .ok (.iaload, 1) := by decide +kernel
theorem dX6_goesOut_43 : decode cX6_goesOut 43 = .ok (.istore 7, 2) := by decide +kernel
theorem dX6_goesOut_45 : decode cX6_goesOut 45 = .ok (.iload 7, 2) := by decide +kernel
theorem dX6_goesOut_47 : decode cX6_goesOut 47 = .ok (.iconst (-1), 1) := by decide +kernel
theorem dX6_goesOut_48 : decode cX6_goesOut 48 = .ok (.if_icmp .ne 56, 3) := by decide +kernel
theorem dX6_goesOut_51 : decode cX6_goesOut 51 = .ok (.iload 4, 2) := by decide +kernel
theorem dX6_goesOut_53 : decode cX6_goesOut 53 = .ok (.bipush 12, 2) := by decide +kernel
theorem dX6_goesOut_55 : decode cX6_goesOut 55 = .ok (.if_icmp .ge 47, 3) := by decide +kernel
theorem dX6_goesOut_58 : decode cX6_goesOut 58 = .ok (.aload_n 0, 1) := by decide +kernel
theorem dX6_goesOut_59 : decode cX6_goesOut 59 = .ok (.getfield 17, 3) := by decide +kernel
theorem dX6_goesOut_62 : decode cX6_goesOut 62 = .ok (.iload_n 1, 1) := by decide +kernel
theorem dX6_goesOut_63 : decode cX6_goesOut 63 = .ok (.iaload, 1) := by decide +kernel
theorem dX6_goesOut_64 : decode cX6_goesOut 64 = .ok (.iconst (-1), 1) := by decide +kernel
theorem dX6_goesOut_65 : decode cX6_goesOut 65 = .ok (.if_icmp .eq 37, 3) := by decide +kernel
theorem dX6_goesOut_68 : decode cX6_goesOut 68 = .ok (.aload_n 0, 1) := by decide +kernel
theorem dX6_goesOut_69 : decode cX6_goesOut 69 = .ok (.aload_n 0, 1) := by decide +kernel
theorem dX6_goesOut_70 : decode cX6_goesOut 70 = .ok (.getfield 17, 3) := by decide +kernel
theorem dX6_goesOut_73 : decode cX6_goesOut 73 = .ok (.iload_n 1, 1) := by decide +kernel
theorem dX6_goesOut_74 : decode cX6_goesOut 74 = .ok (.iaload, 1) := by decide +kernel
theorem dX6_goesOut_75 : decode cX6_goesOut 75 = .ok (.iload 6, 2) := by decide +kernel
theorem dX6_goesOut_77 : decode cX6_goesOut 77 = .ok (.ifCond .eq 7, 3) := by decide +kernel
theorem dX6_goesOut_80 : decode cX6_goesOut 80 = .ok (.iload_n 2, 1) := by decide +kernel
theorem dX6_goesOut_81 : decode cX6_goesOut 81 = .ok (.goto 4, 3) := by decide +kernel
theorem dX6_goesOut_84 : decode cX6_goesOut 84 = .ok (.iload_n 3, 1) := by decide +kernel
theorem dX6_goesOut_85 : decode cX6_goesOut 85 = .ok (.iload 6, 2) := by decide +kernel
theorem dX6_goesOut_87 : decode cX6_goesOut 87 = .ok (.ifCond .eq 7, 3) := by decide +kernel
theorem dX6_goesOut_90 : decode cX6_goesOut 90 = .ok (.iload_n 3, 1) := by decide +kernel
theorem dX6_goesOut_91 : decode cX6_goesOut 91 = .ok (.goto 4, 3) := by decide +kernel
theorem dX6_goesOut_94 : decode cX6_goesOut 94 = .ok (.iconst 0, 1) := by decide +kernel
theorem dX6_goesOut_95 : decode cX6_goesOut 95 = .ok (.iload 4, 2) := by decide +kernel
theorem dX6_goesOut_97 : decode cX6_goesOut 97 = .ok (.iconst 1, 1) := by decide +kernel
theorem dX6_goesOut_98 : decode cX6_goesOut 98 = .ok (.iadd, 1) := by decide +kernel
theorem dX6_goesOut_99 : decode cX6_goesOut 99 = .ok (.invokevirtual 221, 3) := by decide +kernel
theorem dX6_goesOut_102 : decode cX6_goesOut 102 = .ok (.iconst 0, 1) := by decide +kernel
theorem dX6_goesOut_103 : decode cX6_goesOut 103 = .ok (.ireturn, 1) := by decide +kernel
theorem dX6_goesOut_104 : decode cX6_goesOut 104 = .ok (.iload 5, 2) := by decide +kernel
theorem dX6_goesOut_106 : decode cX6_goesOut 106 = .ok (.bipush 10, 2) := by decide +kernel
theorem dX6_goesOut_108 : decode cX6_goesOut 108 = .ok (.if_icmp .eq 10, 3) := by decide +kernel
theorem dX6_goesOut_111 : decode cX6_goesOut 111 = .ok (.iload 5, 2) := by decide +kernel
theorem dX6_goesOut_113 : decode cX6_goesOut 113 = .ok (.iload 7, 2) := by decide +kernel
theorem dX6_goesOut_115 : decode cX6_goesOut 115 = .ok (.if_icmp .ne 7, 3) := by decide +kernel
theorem dX6_goesOut_118 : decode cX6_goesOut 118 = .ok (.iconst 1, 1) := by decide +kernel
theorem dX6_goesOut_119 : decode cX6_goesOut 119 = .ok (.goto 4, 3) := by decide +kernel
theorem dX6_goesOut_122 : decode cX6_goesOut 122 = .ok (.iconst 0, 1) := by decide +kernel
theorem dX6_goesOut_123 : decode cX6_goesOut 123 = .ok (.istore 8, 2) := by decide +kernel
theorem dX6_goesOut_125 : decode cX6_goesOut 125 = .ok (.aload_n 0, 1) := by decide +kernel
theorem dX6_goesOut_126 : decode cX6_goesOut 126 = .ok (.getfield 96, 3) := by decide +kernel
theorem dX6_goesOut_129 : decode cX6_goesOut 129 = .ok (.iload 7, 2) := by decide +kernel
theorem dX6_goesOut_131 : decode cX6_goesOut 131 = .ok (.dup2, 1) := by decide +kernel
theorem dX6_goesOut_132 : decode cX6_goesOut 132 = .ok (.iaload, 1) := by decide +kernel
theorem dX6_goesOut_133 : decode cX6_goesOut 133 = .ok (.iload 8, 2) := by decide +kernel
theorem dX6_goesOut_135 : decode cX6_goesOut 135 = .ok (.ifCond .eq 7, 3) := by decide +kernel
theorem dX6_goesOut_138 : decode cX6_goesOut 138 = .ok (.iconst 1, 1) := by decide +kernel
theorem dX6_goesOut_139 : decode cX6_goesOut 139 = .ok (.goto 4, 3) := by decide +kernel
theorem dX6_goesOut_142 : decode cX6_goesOut 142 = .ok (.iconst 0, 1) := by decide +kernel
theorem dX6_goesOut_143 : decode cX6_goesOut 143 = .ok (.iadd, 1) := by decide +kernel
theorem dX6_goesOut_144 : decode cX6_goesOut 144 = .ok (.iastore, 1) := by decide +kernel
theorem dX6_goesOut_145 : decode cX6_goesOut 145 = .ok (.aload_n 0, 1) := by decide +kernel
theorem dX6_goesOut_146 : decode cX6_goesOut 146 = .ok (.getfield 99, 3) := by decide +kernel
theorem dX6_goesOut_149 : decode cX6_goesOut 149 = .ok (.iload 7, 2) := by decide +kernel
theorem dX6_goesOut_151 : decode cX6_goesOut 151 = .ok (.dup2, 1) := by decide +kernel
theorem dX6_goesOut_152 : decode cX6_goesOut 152 = .ok (.iaload, 1) := by decide +kernel
theorem dX6_goesOut_153 : decode cX6_goesOut 153 = .ok (.iload 8, 2) := by decide +kernel
theorem dX6_goesOut_155 : decode cX6_goesOut 155 = .ok (.ifCond .eq 7, 3) := by decide +kernel
theorem dX6_goesOut_158 : decode cX6_goesOut 158 = .ok (.iconst 0, 1) := by decide +kernel
theorem dX6_goesOut_159 : decode cX6_goesOut 159 = .ok (.goto 4, 3) := by decide +kernel
theorem dX6_goesOut_162 : decode cX6_goesOut 162 = .ok (.iconst 1, 1) := by decide +kernel
theorem dX6_goesOut_163 : decode cX6_goesOut 163 = .ok (.iadd, 1) := by decide +kernel
theorem dX6_goesOut_164 : decode cX6_goesOut 164 = .ok (.iastore, 1) := by decide +kernel
theorem dX6_goesOut_165 : decode cX6_goesOut 165 = .ok (.iload 8, 2) := by decide +kernel
theorem dX6_goesOut_167 : decode cX6_goesOut 167 = .ok (.ifCond .eq 7, 3) := by decide +kernel
theorem dX6_goesOut_170 : decode cX6_goesOut 170 = .ok (.iconst 1, 1) := by decide +kernel
theorem dX6_goesOut_171 : decode cX6_goesOut 171 = .ok (.goto 4, 3) := by decide +kernel
theorem dX6_goesOut_174 : decode cX6_goesOut 174 = .ok (.iconst 0, 1) := by decide +kernel
theorem dX6_goesOut_175 : decode cX6_goesOut 175 = .ok (.ireturn, 1) := by decide +kernel
set_option maxRecDepth 20000 in
theorem ggX6_comes_X6_laneOf : GoodIn wsX6_comes wsX6_laneOf := goodIn_r _ [15, 5, 16, 17, 18, 67, 68, 69, 70, 71, 72, 73, 74, 75, 76, 77, 78, 79, 80, 81, 82, 83, 84, 85, 86, 87, 88, 89, 90, 91, 92, 93, 94, 95, 96, 97, 98, 99, 100, 101, 102, 103, 104, 105, 106, 107] (by decide +kernel) (by decide +kernel)
set_option maxRecDepth 20000 in
theorem gX6_comes_X6_laneOf : GoodIn wsX6_comes (wsV RX6 225 RX6 yX6_laneOf wsX6_laneOf) := goodIn_app (goodIn_of _ (by decide +kernel)) ggX6_comes_X6_laneOf
set_option maxRecDepth 20000 in
theorem ggX6_comes_X6_hears : GoodIn wsX6_comes wsX6_hears := goodIn_r _ [22, 23, 24, 25, 4, 26, 10, 27, 28, 29, 14, 30, 67, 68, 69, 70, 71, 72, 73, 74, 75, 76, 77, 78, 79, 80, 81, 82, 83, 84, 85, 86, 87, 88, 89, 90, 91, 92, 93, 94, 95, 96, 97, 98, 99, 100, 101, 102, 103, 104, 105, 106, 107] (by decide +kernel) (by decide +kernel)
set_option maxRecDepth 20000 in
theorem gX6_comes_X6_hears : GoodIn wsX6_comes (wsV RX6 229 RX6 yX6_hears wsX6_hears) := goodIn_app (goodIn_of _ (by decide +kernel)) ggX6_comes_X6_hears
set_option maxRecDepth 20000 in
theorem ggX6_comes_X6_find : GoodIn wsX6_comes wsX6_find := goodIn_r _ [30, 23, 24, 25, 67, 68, 69, 70, 71, 72, 73, 74, 75, 76, 77, 78, 79, 80, 81, 82, 83, 84, 85, 86, 87, 88, 89, 90, 91, 92, 93, 94, 95, 96, 97, 98, 99, 100, 101, 102, 103, 104, 105, 106, 107] (by decide +kernel) (by decide +kernel)
set_option maxRecDepth 20000 in
theorem gX6_comes_X6_find : GoodIn wsX6_comes (wsV RX6 211 RX6 yX6_find wsX6_find) := goodIn_app (goodIn_of _ (by decide +kernel)) ggX6_comes_X6_find
set_option maxRecDepth 20000 in
theorem ggX6_comes_X6_goesOut : GoodIn wsX6_comes wsX6_goesOut := goodIn_r _ [34, 16, 17, 35, 36, 37, 38, 39, 40, 41, 14, 42, 18, 43, 44, 45, 46, 1, 47, 2, 3, 6, 67, 68, 69, 70, 71, 72, 73, 74, 75, 76, 77, 78, 79, 80, 81, 82, 83, 84, 85, 86, 87, 88, 89, 90, 91, 92, 93, 94, 95, 96, 97, 98, 99, 100, 101, 102, 103, 104, 105, 106, 107] (by decide +kernel) (by decide +kernel)
set_option maxRecDepth 20000 in
theorem gX6_comes_X6_goesOut : GoodIn wsX6_comes (wsV RX6 233 RX6 yX6_goesOut wsX6_goesOut) := goodIn_app (goodIn_of _ (by decide +kernel)) ggX6_comes_X6_goesOut
set_option maxRecDepth 20000 in
theorem ggX6_comes_X6_shuts : GoodIn wsX6_comes wsX6_shuts := goodIn_r _ [51, 52, 53, 54, 55, 14, 56, 5, 57, 58, 59, 60, 61, 62, 23, 4, 63, 64, 65, 66, 24, 25, 26, 67, 68, 69, 70, 71, 72, 73, 74, 75, 76, 77, 78, 79, 80, 81, 82, 83, 84, 85, 86, 87, 88, 89, 90, 91, 92, 93, 94, 95, 96, 97, 98, 99, 100, 101, 102, 103, 104, 105, 106, 107] (by decide +kernel) (by decide +kernel)
set_option maxRecDepth 20000 in
theorem gX6_comes_X6_shuts : GoodIn wsX6_comes (wsV RX6 164 RX6 yX6_shuts wsX6_shuts) := goodIn_app (goodIn_of _ (by decide +kernel)) ggX6_comes_X6_shuts
theorem dX6_comes_0 : decode cX6_comes 0 = .ok (.aload_n 0, 1) := by decide +kernel
theorem dX6_comes_1 : decode cX6_comes 1 = .ok (.getfield 102, 3) := by decide +kernel
theorem dX6_comes_4 : decode cX6_comes 4 = .ok (.iload_n 1, 1) := by decide +kernel
theorem dX6_comes_5 : decode cX6_comes 5 = .ok (.iaload, 1) := by decide +kernel
theorem dX6_comes_6 : decode cX6_comes 6 = .ok (.istore 4, 2) := by decide +kernel
theorem dX6_comes_8 : decode cX6_comes 8 = .ok (.aload_n 0, 1) := by decide +kernel
theorem dX6_comes_9 : decode cX6_comes 9 = .ok (.getfield 105, 3) := by decide +kernel
theorem dX6_comes_12 : decode cX6_comes 12 = .ok (.iload_n 1, 1) := by decide +kernel
theorem dX6_comes_13 : decode cX6_comes 13 = .ok (.iaload, 1) := by decide +kernel
theorem dX6_comes_14 : decode cX6_comes 14 = .ok (.istore 5, 2) := by decide +kernel
theorem dX6_comes_16 : decode cX6_comes 16 = .ok (.aload_n 0, 1) := by decide +kernel
theorem dX6_comes_17 : decode cX6_comes 17 = .ok (.iload 4, 2) := by decide +kernel
theorem dX6_comes_19 : decode cX6_comes 19 = .ok (.iload 5, 2) := by decide +kernel
theorem dX6_comes_21 : decode cX6_comes 21 = .ok (.invokevirtual 225, 3) := by decide +kernel
theorem dX6_comes_24 : decode cX6_comes 24 = .ok (.istore 6, 2) := by decide +kernel
theorem dX6_comes_26 : decode cX6_comes 26 = .ok (.iload 6, 2) := by decide +kernel
theorem dX6_comes_28 : decode cX6_comes 28 = .ok (.ifCond .ne 5, 3) := by decide +kernel
theorem dX6_comes_31 : decode cX6_comes 31 = .ok (.iconst 0, 1) := by decide +kernel
theorem dX6_comes_32 : decode cX6_comes 32 = .ok (.ireturn, 1) := by decide +kernel
theorem dX6_comes_33 : decode cX6_comes 33 = .ok (.aload_n 0, 1) := by decide +kernel
theorem dX6_comes_34 : decode cX6_comes 34 = .ok (.getfield 108, 3) := by decide +kernel
theorem dX6_comes_37 : decode cX6_comes 37 = .ok (.iload_n 1, 1) := by decide +kernel
theorem dX6_comes_38 : decode cX6_comes 38 = .ok (.iaload, 1) := by decide +kernel
theorem dX6_comes_39 : decode cX6_comes 39 = .ok (.istore 7, 2) := by decide +kernel
theorem dX6_comes_41 : decode cX6_comes 41 = .ok (.iload 4, 2) := by decide +kernel
theorem dX6_comes_43 : decode cX6_comes 43 = .ok (.iconst 5, 1) := by decide +kernel
theorem dX6_comes_44 : decode cX6_comes 44 = .ok (.idiv, 1) := by decide +kernel
theorem dX6_comes_45 : decode cX6_comes 45 = .ok (.istore 8, 2) := by decide +kernel
theorem dX6_comes_47 : decode cX6_comes 47 = .ok (.aload_n 0, 1) := by decide +kernel
theorem dX6_comes_48 : decode cX6_comes 48 = .ok (.iload 4, 2) := by decide +kernel
theorem dX6_comes_50 : decode cX6_comes 50 = .ok (.iload 6, 2) := by decide +kernel
theorem dX6_comes_52 : decode cX6_comes 52 = .ok (.iload_n 2, 1) := by decide +kernel
theorem dX6_comes_53 : decode cX6_comes 53 = .ok (.invokevirtual 229, 3) := by decide +kernel
theorem dX6_comes_56 : decode cX6_comes 56 = .ok (.iload_n 3, 1) := by decide +kernel
theorem dX6_comes_57 : decode cX6_comes 57 = .ok (.bipush 10, 2) := by decide +kernel
theorem dX6_comes_59 : decode cX6_comes 59 = .ok (.if_icmp .ne 7, 3) := by decide +kernel
theorem dX6_comes_62 : decode cX6_comes 62 = .ok (.iconst (-1), 1) := by decide +kernel
theorem dX6_comes_63 : decode cX6_comes 63 = .ok (.goto 12, 3) := by decide +kernel
theorem dX6_comes_66 : decode cX6_comes 66 = .ok (.aload_n 0, 1) := by decide +kernel
theorem dX6_comes_67 : decode cX6_comes 67 = .ok (.iload 8, 2) := by decide +kernel
theorem dX6_comes_69 : decode cX6_comes 69 = .ok (.iload 6, 2) := by decide +kernel
theorem dX6_comes_71 : decode cX6_comes 71 = .ok (.iload_n 3, 1) := by decide +kernel
theorem dX6_comes_72 : decode cX6_comes 72 = .ok (.invokevirtual 211, 3) := by decide +kernel
theorem dX6_comes_75 : decode cX6_comes 75 = .ok (.istore 9, 2) := by decide +kernel
theorem dX6_comes_77 : decode cX6_comes 77 = .ok (.iload 9, 2) := by decide +kernel
theorem dX6_comes_79 : decode cX6_comes 79 = .ok (.iconst (-1), 1) := by decide +kernel
theorem dX6_comes_80 : decode cX6_comes 80 = .ok (.if_icmp .ne 7, 3) := by decide +kernel
theorem dX6_comes_83 : decode cX6_comes 83 = .ok (.iconst (-1), 1) := by decide +kernel
theorem dX6_comes_84 : decode cX6_comes 84 = .ok (.goto 15, 3) := by decide +kernel
theorem dX6_comes_87 : decode cX6_comes 87 = .ok (.iconst 5, 1) := by decide +kernel
theorem dX6_comes_88 : decode cX6_comes 88 = .ok (.iload 8, 2) := by decide +kernel
theorem dX6_comes_90 : decode cX6_comes 90 = .ok (.imul, 1) := by decide +kernel
theorem dX6_comes_91 : decode cX6_comes 91 = .ok (.aload_n 0, 1) := by decide +kernel
theorem dX6_comes_92 : decode cX6_comes 92 = .ok (.getfield 90, 3) := by decide +kernel
theorem dX6_comes_95 : decode cX6_comes 95 = .ok (.iload 9, 2) := by decide +kernel
theorem dX6_comes_97 : decode cX6_comes 97 = .ok (.iaload, 1) := by decide +kernel
theorem dX6_comes_98 : decode cX6_comes 98 = .ok (.iadd, 1) := by decide +kernel
theorem dX6_comes_99 : decode cX6_comes 99 = .ok (.istore 10, 2) := by decide +kernel
theorem dX6_comes_101 : decode cX6_comes 101 = .ok (.iload 10, 2) := by decide +kernel
theorem dX6_comes_103 : decode cX6_comes 103 = .ok (.iconst (-1), 1) := by decide +kernel
theorem dX6_comes_104 : decode cX6_comes 104 = .ok (.if_icmp .eq 42, 3) := by decide +kernel
theorem dX6_comes_107 : decode cX6_comes 107 = .ok (.aload_n 0, 1) := by decide +kernel
theorem dX6_comes_108 : decode cX6_comes 108 = .ok (.getfield 45, 3) := by decide +kernel
theorem dX6_comes_111 : decode cX6_comes 111 = .ok (.iload 10, 2) := by decide +kernel
theorem dX6_comes_113 : decode cX6_comes 113 = .ok (.baload, 1) := by decide +kernel
theorem dX6_comes_114 : decode cX6_comes 114 = .ok (.ifCond .eq 32, 3) := by decide +kernel
theorem dX6_comes_117 : decode cX6_comes 117 = .ok (.iload 10, 2) := by decide +kernel
theorem dX6_comes_119 : decode cX6_comes 119 = .ok (.iload 4, 2) := by decide +kernel
theorem dX6_comes_121 : decode cX6_comes 121 = .ok (.if_icmp .ne 7, 3) := by decide +kernel
theorem dX6_comes_124 : decode cX6_comes 124 = .ok (.iconst 0, 1) := by decide +kernel
theorem dX6_comes_125 : decode cX6_comes 125 = .ok (.goto 20, 3) := by decide +kernel
theorem dX6_comes_128 : decode cX6_comes 128 = .ok (.aload_n 0, 1) := by decide +kernel
theorem dX6_comes_129 : decode cX6_comes 129 = .ok (.iload 10, 2) := by decide +kernel
theorem dX6_comes_131 : decode cX6_comes 131 = .ok (.iload 6, 2) := by decide +kernel
theorem dX6_comes_133 : decode cX6_comes 133 = .ok (.iload 7, 2) := by decide +kernel
theorem dX6_comes_135 : decode cX6_comes 135 = .ok (.aload_n 0, 1) := by decide +kernel
theorem dX6_comes_136 : decode cX6_comes 136 = .ok (.getfield 111, 3) := by decide +kernel
theorem dX6_comes_139 : decode cX6_comes 139 = .ok (.iload_n 1, 1) := by decide +kernel
theorem dX6_comes_140 : decode cX6_comes 140 = .ok (.iaload, 1) := by decide +kernel
theorem dX6_comes_141 : decode cX6_comes 141 = .ok (.iload_n 3, 1) := by decide +kernel
theorem dX6_comes_142 : decode cX6_comes 142 = .ok (.invokevirtual 233, 3) := by decide +kernel
theorem dX6_comes_145 : decode cX6_comes 145 = .ok (.ireturn, 1) := by decide +kernel
theorem dX6_comes_146 : decode cX6_comes 146 = .ok (.aload_n 0, 1) := by decide +kernel
theorem dX6_comes_147 : decode cX6_comes 147 = .ok (.getfield 54, 3) := by decide +kernel
theorem dX6_comes_150 : decode cX6_comes 150 = .ok (.iload 4, 2) := by decide +kernel
theorem dX6_comes_152 : decode cX6_comes 152 = .ok (.dup2, 1) := by decide +kernel
theorem dX6_comes_153 : decode cX6_comes 153 = .ok (.iaload, 1) := by decide +kernel
theorem dX6_comes_154 : decode cX6_comes 154 = .ok (.iconst 1, 1) := by decide +kernel
theorem dX6_comes_155 : decode cX6_comes 155 = .ok (.iadd, 1) := by decide +kernel
theorem dX6_comes_156 : decode cX6_comes 156 = .ok (.iastore, 1) := by decide +kernel
theorem dX6_comes_157 : decode cX6_comes 157 = .ok (.aload_n 0, 1) := by decide +kernel
theorem dX6_comes_158 : decode cX6_comes 158 = .ok (.getfield 54, 3) := by decide +kernel
theorem dX6_comes_161 : decode cX6_comes 161 = .ok (.iload 4, 2) := by decide +kernel
theorem dX6_comes_163 : decode cX6_comes 163 = .ok (.iaload, 1) := by decide +kernel
theorem dX6_comes_164 : decode cX6_comes 164 = .ok (.aload_n 0, 1) := by decide +kernel
theorem dX6_comes_165 : decode cX6_comes 165 = .ok (.getfield 7, 3) := by decide +kernel
theorem dX6_comes_168 : decode cX6_comes 168 = .ok (.if_icmp .le 24, 3) := by decide +kernel
theorem dX6_comes_171 : decode cX6_comes 171 = .ok (.aload_n 0, 1) := by decide +kernel
theorem dX6_comes_172 : decode cX6_comes 172 = .ok (.iload 4, 2) := by decide +kernel
theorem dX6_comes_174 : decode cX6_comes 174 = .ok (.invokevirtual 164, 3) := by decide +kernel
theorem dX6_comes_177 : decode cX6_comes 177 = .ok (.aload_n 0, 1) := by decide +kernel
theorem dX6_comes_178 : decode cX6_comes 178 = .ok (.getfield 42, 3) := by decide +kernel
theorem dX6_comes_181 : decode cX6_comes 181 = .ok (.iload 4, 2) := by decide +kernel
theorem dX6_comes_183 : decode cX6_comes 183 = .ok (.aload_n 0, 1) := by decide +kernel
theorem dX6_comes_184 : decode cX6_comes 184 = .ok (.getfield 193, 3) := by decide +kernel
theorem dX6_comes_187 : decode cX6_comes 187 = .ok (.iconst 5, 1) := by decide +kernel
theorem dX6_comes_188 : decode cX6_comes 188 = .ok (.iadd, 1) := by decide +kernel
theorem dX6_comes_189 : decode cX6_comes 189 = .ok (.iastore, 1) := by decide +kernel
theorem dX6_comes_190 : decode cX6_comes 190 = .ok (.iconst 0, 1) := by decide +kernel
theorem dX6_comes_191 : decode cX6_comes 191 = .ok (.ireturn, 1) := by decide +kernel
theorem dX6_comes_192 : decode cX6_comes 192 = .ok (.iconst 0, 1) := by decide +kernel
theorem dX6_comes_193 : decode cX6_comes 193 = .ok (.istore 11, 2) := by decide +kernel
theorem dX6_comes_195 : decode cX6_comes 195 = .ok (.iconst 5, 1) := by decide +kernel
theorem dX6_comes_196 : decode cX6_comes 196 = .ok (.iload 8, 2) := by decide +kernel
theorem dX6_comes_198 : decode cX6_comes 198 = .ok (.imul, 1) := by decide +kernel
theorem dX6_comes_199 : decode cX6_comes 199 = .ok (.istore 12, 2) := by decide +kernel
theorem dX6_comes_201 : decode cX6_comes 201 = .ok (.iload 12, 2) := by decide +kernel
theorem dX6_comes_203 : decode cX6_comes 203 = .ok (.iconst 5, 1) := by decide +kernel
theorem dX6_comes_204 : decode cX6_comes 204 = .ok (.iload 8, 2) := by decide +kernel
theorem dX6_comes_206 : decode cX6_comes 206 = .ok (.imul, 1) := by decide +kernel
theorem dX6_comes_207 : decode cX6_comes 207 = .ok (.iconst 5, 1) := by decide +kernel
theorem dX6_comes_208 : decode cX6_comes 208 = .ok (.iadd, 1) := by decide +kernel
theorem dX6_comes_209 : decode cX6_comes 209 = .ok (.if_icmp .ge 52, 3) := by decide +kernel
theorem dX6_comes_212 : decode cX6_comes 212 = .ok (.iload 11, 2) := by decide +kernel
theorem dX6_comes_214 : decode cX6_comes 214 = .ok (.iload 12, 2) := by decide +kernel
theorem dX6_comes_216 : decode cX6_comes 216 = .ok (.iload 4, 2) := by decide +kernel
theorem dX6_comes_218 : decode cX6_comes 218 = .ok (.if_icmp .eq 33, 3) := by decide +kernel
theorem dX6_comes_221 : decode cX6_comes 221 = .ok (.aload_n 0, 1) := by decide +kernel
theorem dX6_comes_222 : decode cX6_comes 222 = .ok (.getfield 45, 3) := by decide +kernel
theorem dX6_comes_225 : decode cX6_comes 225 = .ok (.iload 12, 2) := by decide +kernel
theorem dX6_comes_227 : decode cX6_comes 227 = .ok (.baload, 1) := by decide +kernel
theorem dX6_comes_228 : decode cX6_comes 228 = .ok (.ifCond .eq 23, 3) := by decide +kernel
theorem dX6_comes_231 : decode cX6_comes 231 = .ok (.aload_n 0, 1) := by decide +kernel
theorem dX6_comes_232 : decode cX6_comes 232 = .ok (.iload 12, 2) := by decide +kernel
theorem dX6_comes_234 : decode cX6_comes 234 = .ok (.iload 6, 2) := by decide +kernel
theorem dX6_comes_236 : decode cX6_comes 236 = .ok (.iload 7, 2) := by decide +kernel
theorem dX6_comes_238 : decode cX6_comes 238 = .ok (.aload_n 0, 1) := by decide +kernel
theorem dX6_comes_239 : decode cX6_comes 239 = .ok (.getfield 111, 3) := by decide +kernel
theorem dX6_comes_242 : decode cX6_comes 242 = .ok (.iload_n 1, 1) := by decide +kernel
theorem dX6_comes_243 : decode cX6_comes 243 = .ok (.iaload, 1) := by decide +kernel
theorem dX6_comes_244 : decode cX6_comes 244 = .ok (.iload_n 3, 1) := by decide +kernel
theorem dX6_comes_245 : decode cX6_comes 245 = .ok (.invokevirtual 233, 3) := by decide +kernel
theorem dX6_comes_248 : decode cX6_comes 248 = .ok (.goto 4, 3) := by decide +kernel
theorem dX6_comes_251 : decode cX6_comes 251 = .ok (.iconst 0, 1) := by decide +kernel
theorem dX6_comes_252 : decode cX6_comes 252 = .ok (.iadd, 1) := by decide +kernel
theorem dX6_comes_253 : decode cX6_comes 253 = .ok (.istore 11, 2) := by decide +kernel
theorem dX6_comes_255 : decode cX6_comes 255 = .ok (.iinc 12 1, 3) := by decide +kernel
theorem dX6_comes_258 : decode cX6_comes 258 = .ok (.goto (-57), 3) := by decide +kernel
theorem dX6_comes_261 : decode cX6_comes 261 = .ok (.iload 11, 2) := by decide +kernel
theorem dX6_comes_263 : decode cX6_comes 263 = .ok (.ireturn, 1) := by decide +kernel
theorem dX6_portOf_0 : decode cX6_portOf 0 = .ok (.iconst (-1), 1) := by decide +kernel
theorem dX6_portOf_1 : decode cX6_portOf 1 = .ok (.istore_n 2, 1) := by decide +kernel
theorem dX6_portOf_2 : decode cX6_portOf 2 = .ok (.iconst 0, 1) := by decide +kernel
theorem dX6_portOf_3 : decode cX6_portOf 3 = .ok (.istore_n 3, 1) := by decide +kernel
theorem dX6_portOf_4 : decode cX6_portOf 4 = .ok (.iload_n 3, 1) := by decide +kernel
theorem dX6_portOf_5 : decode cX6_portOf 5 = .ok (.bipush 30, 2) := by decide +kernel
theorem dX6_portOf_7 : decode cX6_portOf 7 = .ok (.if_icmp .ge 25, 3) := by decide +kernel
theorem dX6_portOf_10 : decode cX6_portOf 10 = .ok (.aload_n 0, 1) := by decide +kernel
theorem dX6_portOf_11 : decode cX6_portOf 11 = .ok (.getfield 23, 3) := by decide +kernel
theorem dX6_portOf_14 : decode cX6_portOf 14 = .ok (.iload_n 3, 1) := by decide +kernel
theorem dX6_portOf_15 : decode cX6_portOf 15 = .ok (.iaload, 1) := by decide +kernel
theorem dX6_portOf_16 : decode cX6_portOf 16 = .ok (.iload_n 1, 1) := by decide +kernel
theorem dX6_portOf_17 : decode cX6_portOf 17 = .ok (.if_icmp .ne 7, 3) := by decide +kernel
theorem dX6_portOf_20 : decode cX6_portOf 20 = .ok (.iload_n 3, 1) := by decide +kernel
theorem dX6_portOf_21 : decode cX6_portOf 21 = .ok (.goto 4, 3) := by decide +kernel
theorem dX6_portOf_24 : decode cX6_portOf 24 = .ok (.iload_n 2, 1) := by decide +kernel
theorem dX6_portOf_25 : decode cX6_portOf 25 = .ok (.istore_n 2, 1) := by decide +kernel
theorem dX6_portOf_26 : decode cX6_portOf 26 = .ok (.iinc 3 1, 3) := by decide +kernel
theorem dX6_portOf_29 : decode cX6_portOf 29 = .ok (.goto (-25), 3) := by decide +kernel
theorem dX6_portOf_32 : decode cX6_portOf 32 = .ok (.iload_n 2, 1) := by decide +kernel
theorem dX6_portOf_33 : decode cX6_portOf 33 = .ok (.ireturn, 1) := by decide +kernel
