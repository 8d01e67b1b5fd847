theorem dX3_isBetterThanHeld_25 : decode cX3_isBetterThanHeld 25 = .ok (.aload_n 0, 1) := by decide +kernel
theorem dX3_isBetterThanHeld_26 : decode cX3_isBetterThanHeld 26 = .ok (.getfield 9, 3) := by decide +kernel
theorem dX3_isBetterThanHeld_29 : decode cX3_isBetterThanHeld 29 = .ok (.iload_n 1, 1) := by decide +kernel
theorem dX3_isBetterThanHeld_30 : decode cX3_isBetterThanHeld 30 = .ok (.iaload, 1) := by decide +kernel
theorem dX3_isBetterThanHeld_31 : decode cX3_isBetterThanHeld 31 = .ok (.invokevirtual 117, 3) := by decide +kernel
theorem dX3_isBetterThanHeld_34 : decode cX3_isBetterThanHeld 34 = .ok (.ireturn, 1) := by decide +kernel
theorem dX3_isBetterThanHeld_35 : decode cX3_isBetterThanHeld 35 = .ok (.aload_n 0, 1) := by decide +kernel
theorem dX3_isBetterThanHeld_36 : decode cX3_isBetterThanHeld 36 = .ok (.getfield 40, 3) := by decide +kernel
theorem dX3_isBetterThanHeld_39 : decode cX3_isBetterThanHeld 39 = .ok (.iload_n 2, 1) := by decide +kernel
theorem dX3_isBetterThanHeld_40 : decode cX3_isBetterThanHeld 40 = .ok (.iaload, 1) := by decide +kernel
theorem dX3_isBetterThanHeld_41 : decode cX3_isBetterThanHeld 41 = .ok (.aload_n 0, 1) := by decide +kernel
theorem dX3_isBetterThanHeld_42 : decode cX3_isBetterThanHeld 42 = .ok (.getfield 55, 3) := by decide +kernel
theorem dX3_isBetterThanHeld_45 : decode cX3_isBetterThanHeld 45 = .ok (.getfield 124, 3) := by decide +kernel
theorem dX3_isBetterThanHeld_48 : decode cX3_isBetterThanHeld 48 = .ok (.iload_n 2, 1) := by decide +kernel
theorem dX3_isBetterThanHeld_49 : decode cX3_isBetterThanHeld 49 = .ok (.iaload, 1) := by decide +kernel
theorem dX3_isBetterThanHeld_50 : decode cX3_isBetterThanHeld 50 = .ok (.iadd, 1) := by decide +kernel
theorem dX3_isBetterThanHeld_51 : decode cX3_isBetterThanHeld 51 = .ok (.istore_n 3, 1) := by decide +kernel
theorem dX3_isBetterThanHeld_52 : decode cX3_isBetterThanHeld 52 = .ok (.iload_n 3, 1) := by decide +kernel
theorem dX3_isBetterThanHeld_53 : decode cX3_isBetterThanHeld 53 = .ok (.aload_n 0, 1) := by decide +kernel
theorem dX3_isBetterThanHeld_54 : decode cX3_isBetterThanHeld 54 = .ok (.getfield 15, 3) := by decide +kernel
theorem dX3_isBetterThanHeld_57 : decode cX3_isBetterThanHeld 57 = .ok (.iload_n 1, 1) := by decide +kernel
theorem dX3_isBetterThanHeld_58 : decode cX3_isBetterThanHeld 58 = .ok (.iaload, 1) := by decide +kernel
theorem dX3_isBetterThanHeld_59 : decode cX3_isBetterThanHeld 59 = .ok (.if_icmp .ne 13, 3) := by decide +kernel
theorem dX3_isBetterThanHeld_62 : decode cX3_isBetterThanHeld 62 = .ok (.aload_n 0, 1) := by decide +kernel
theorem dX3_isBetterThanHeld_63 : decode cX3_isBetterThanHeld 63 = .ok (.getfield 21, 3) := by decide +kernel
theorem dX3_isBetterThanHeld_66 : decode cX3_isBetterThanHeld 66 = .ok (.iload_n 1, 1) := by decide +kernel
theorem dX3_isBetterThanHeld_67 : decode cX3_isBetterThanHeld 67 = .ok (.iaload, 1) := by decide +kernel
theorem dX3_isBetterThanHeld_68 : decode cX3_isBetterThanHeld 68 = .ok (.iconst (-1), 1) := by decide +kernel
theorem dX3_isBetterThanHeld_69 : decode cX3_isBetterThanHeld 69 = .ok (.if_icmp .ne 19, 3) := by decide +kernel
theorem dX3_isBetterThanHeld_72 : decode cX3_isBetterThanHeld 72 = .ok (.iload_n 3, 1) := by decide +kernel
theorem dX3_isBetterThanHeld_73 : decode cX3_isBetterThanHeld 73 = .ok (.aload_n 0, 1) := by decide +kernel
theorem dX3_isBetterThanHeld_74 : decode cX3_isBetterThanHeld 74 = .ok (.getfield 15, 3) := by decide +kernel
theorem dX3_isBetterThanHeld_77 : decode cX3_isBetterThanHeld 77 = .ok (.iload_n 1, 1) := by decide +kernel
theorem dX3_isBetterThanHeld_78 : decode cX3_isBetterThanHeld 78 = .ok (.iaload, 1) := by decide +kernel
theorem dX3_isBetterThanHeld_79 : decode cX3_isBetterThanHeld 79 = .ok (.if_icmp .ge 7, 3) := by decide +kernel
theorem dX3_isBetterThanHeld_82 : decode cX3_isBetterThanHeld 82 = .ok (.iconst 1, 1) := by decide +kernel
theorem dX3_isBetterThanHeld_83 : decode cX3_isBetterThanHeld 83 = .ok (.goto 4, 3) := by decide +kernel
theorem dX3_isBetterThanHeld_86 : decode cX3_isBetterThanHeld 86 = .ok (.iconst 0, 1) := by decide +kernel
theorem dX3_isBetterThanHeld_87 : decode cX3_isBetterThanHeld 87 = .ok (.ireturn, 1) := by decide +kernel
theorem dX3_isBetterThanHeld_88 : decode cX3_isBetterThanHeld 88 = .ok (.aload_n 0, 1) := by decide +kernel
theorem dX3_isBetterThanHeld_89 : decode cX3_isBetterThanHeld 89 = .ok (.getfield 55, 3) := by decide +kernel
theorem dX3_isBetterThanHeld_92 : decode cX3_isBetterThanHeld 92 = .ok (.getfield 63, 3) := by decide +kernel
theorem dX3_isBetterThanHeld_95 : decode cX3_isBetterThanHeld 95 = .ok (.iload_n 2, 1) := by decide +kernel
theorem dX3_isBetterThanHeld_96 : decode cX3_isBetterThanHeld 96 = .ok (.iaload, 1) := by decide +kernel
theorem dX3_isBetterThanHeld_97 : decode cX3_isBetterThanHeld 97 = .ok (.istore 4, 2) := by decide +kernel
theorem dX3_isBetterThanHeld_99 : decode cX3_isBetterThanHeld 99 = .ok (.aload_n 0, 1) := by decide +kernel
theorem dX3_isBetterThanHeld_100 : decode cX3_isBetterThanHeld 100 = .ok (.getfield 55, 3) := by decide +kernel
theorem dX3_isBetterThanHeld_103 : decode cX3_isBetterThanHeld 103 = .ok (.getfield 63, 3) := by decide +kernel
theorem dX3_isBetterThanHeld_106 : decode cX3_isBetterThanHeld 106 = .ok (.iload_n 1, 1) := by decide +kernel
theorem dX3_isBetterThanHeld_107 : decode cX3_isBetterThanHeld 107 = .ok (.aload_n 0, 1) := by decide +kernel
theorem dX3_isBetterThanHeld_108 : decode cX3_isBetterThanHeld 108 = .ok (.getfield 21, 3) := by decide +kernel
theorem dX3_isBetterThanHeld_111 : decode cX3_isBetterThanHeld 111 = .ok (.iload_n 1, 1) := by decide +kernel
theorem dX3_isBetterThanHeld_112 : decode cX3_isBetterThanHeld 112 = .ok (.iaload, 1) := by decide +kernel
theorem dX3_isBetterThanHeld_113 : decode cX3_isBetterThanHeld 113 = .ok (.invokestatic 110, 3) := by decide +kernel
theorem dX3_isBetterThanHeld_116 : decode cX3_isBetterThanHeld 116 = .ok (.iaload, 1) := by decide +kernel
theorem dX3_isBetterThanHeld_117 : decode cX3_isBetterThanHeld 117 = .ok (.istore 5, 2) := by decide +kernel
theorem dX3_isBetterThanHeld_119 : decode cX3_isBetterThanHeld 119 = .ok (.iload 4, 2) := by decide +kernel
theorem dX3_isBetterThanHeld_121 : decode cX3_isBetterThanHeld 121 = .ok (.iconst 5, 1) := by decide +kernel
theorem dX3_isBetterThanHeld_122 : decode cX3_isBetterThanHeld 122 = .ok (.idiv, 1) := by decide +kernel
theorem dX3_isBetterThanHeld_123 : decode cX3_isBetterThanHeld 123 = .ok (.iload 5, 2) := by decide +kernel
theorem dX3_isBetterThanHeld_125 : decode cX3_isBetterThanHeld 125 = .ok (.iconst 5, 1) := by decide +kernel
theorem dX3_isBetterThanHeld_126 : decode cX3_isBetterThanHeld 126 = .ok (.idiv, 1) := by decide +kernel
theorem dX3_isBetterThanHeld_127 : decode cX3_isBetterThanHeld 127 = .ok (.if_icmp .eq 19, 3) := by decide +kernel
theorem dX3_isBetterThanHeld_130 : decode cX3_isBetterThanHeld 130 = .ok (.aload_n 0, 1) := by decide +kernel
theorem dX3_isBetterThanHeld_131 : decode cX3_isBetterThanHeld 131 = .ok (.getfield 55, 3) := by decide +kernel
theorem dX3_isBetterThanHeld_134 : decode cX3_isBetterThanHeld 134 = .ok (.iload 4, 2) := by decide +kernel
theorem dX3_isBetterThanHeld_136 : decode cX3_isBetterThanHeld 136 = .ok (.iconst 5, 1) := by decide +kernel
theorem dX3_isBetterThanHeld_137 : decode cX3_isBetterThanHeld 137 = .ok (.idiv, 1) := by decide +kernel
theorem dX3_isBetterThanHeld_138 : decode cX3_isBetterThanHeld 138 = .ok (.iload 5, 2) := by decide +kernel
theorem dX3_isBetterThanHeld_140 : decode cX3_isBetterThanHeld 140 = .ok (.iconst 5, 1) := by decide +kernel
theorem dX3_isBetterThanHeld_141 : decode cX3_isBetterThanHeld 141 = .ok (.idiv, 1) := by decide +kernel
theorem dX3_isBetterThanHeld_142 : decode cX3_isBetterThanHeld 142 = .ok (.invokevirtual 117, 3) := by decide +kernel
theorem dX3_isBetterThanHeld_145 : decode cX3_isBetterThanHeld 145 = .ok (.ireturn, 1) := by decide +kernel
theorem dX3_isBetterThanHeld_146 : decode cX3_isBetterThanHeld 146 = .ok (.iload 4, 2) := by decide +kernel
theorem dX3_isBetterThanHeld_148 : decode cX3_isBetterThanHeld 148 = .ok (.iload 5, 2) := by decide +kernel
theorem dX3_isBetterThanHeld_150 : decode cX3_isBetterThanHeld 150 = .ok (.if_icmp .ge 7, 3) := by decide +kernel
theorem dX3_isBetterThanHeld_153 : decode cX3_isBetterThanHeld 153 = .ok (.iconst 1, 1) := by decide +kernel
theorem dX3_isBetterThanHeld_154 : decode cX3_isBetterThanHeld 154 = .ok (.goto 4, 3) := by decide +kernel
theorem dX3_isBetterThanHeld_157 : decode cX3_isBetterThanHeld 157 = .ok (.iconst 0, 1) := by decide +kernel
theorem dX3_isBetterThanHeld_158 : decode cX3_isBetterThanHeld 158 = .ok (.ireturn, 1) := by decide +kernel
set_option maxRecDepth 20000 in
theorem ggX3_turn_X3_roleOf : GoodIn wsX3_turn wsX3_roleOf := goodIn_r _ [10, 2, 3, 11, 12, 13, 14, 15, 9, 16, 17, 18, 19, 20, 21, 22, 23, 24, 25, 26, 27, 28, 29, 30, 36, 37, 38, 39, 40, 41, 42, 43, 44, 45, 46, 47, 48, 49, 50, 51, 52, 53, 54, 55, 56, 57, 58, 59] (by decide +kernel) (by decide +kernel)
set_option maxRecDepth 20000 in
theorem gX3_turn_X3_roleOf : GoodIn wsX3_turn (wsV RX3 125 RX3 yX3_roleOf wsX3_roleOf) := goodIn_app (goodIn_of _ (by decide +kernel)) ggX3_turn_X3_roleOf
set_option maxRecDepth 20000 in
theorem ggX3_turn_X3_turnTo : GoodIn wsX3_turn wsX3_turnTo := goodIn_r _ [34, 5, 35, 36, 37, 38, 39, 40, 41, 42, 43, 44, 45, 46, 47, 48, 49, 50, 51] (by decide +kernel) (by decide +kernel)
set_option maxRecDepth 20000 in
theorem gX3_turn_X3_turnTo : GoodIn wsX3_turn (wsV RX3 129 RX3 yX3_turnTo wsX3_turnTo) := goodIn_app (goodIn_of _ (by decide +kernel)) ggX3_turn_X3_turnTo
theorem dX3_turn_0 : decode cX3_turn 0 = .ok (.aload_n 0, 1) := by decide +kernel
theorem dX3_turn_1 : decode cX3_turn 1 = .ok (.getfield 31, 3) := by decide +kernel
theorem dX3_turn_4 : decode cX3_turn 4 = .ok (.iload_n 1, 1) := by decide +kernel
theorem dX3_turn_5 : decode cX3_turn 5 = .ok (.aload_n 0, 1) := by decide +kernel
theorem dX3_turn_6 : decode cX3_turn 6 = .ok (.iload_n 1, 1) := by decide +kernel
theorem dX3_turn_7 : decode cX3_turn 7 = .ok (.invokevirtual 125, 3) := by decide +kernel
theorem dX3_turn_10 : decode cX3_turn 10 = .ok (.iastore, 1) := by decide +kernel
theorem dX3_turn_11 : decode cX3_turn 11 = .ok (.aload_n 0, 1) := by decide +kernel
theorem dX3_turn_12 : decode cX3_turn 12 = .ok (.getfield 55, 3) := by decide +kernel
theorem dX3_turn_15 : decode cX3_turn 15 = .ok (.getfield 63, 3) := by decide +kernel
theorem dX3_turn_18 : decode cX3_turn 18 = .ok (.iload_n 1, 1) := by decide +kernel
theorem dX3_turn_19 : decode cX3_turn 19 = .ok (.iaload, 1) := by decide +kernel
theorem dX3_turn_20 : decode cX3_turn 20 = .ok (.iconst (-1), 1) := by decide +kernel
theorem dX3_turn_21 : decode cX3_turn 21 = .ok (.if_icmp .ne 4, 3) := by decide +kernel
theorem dX3_turn_24 : decode cX3_turn 24 = .ok (.return_, 1) := by decide +kernel
theorem dX3_turn_25 : decode cX3_turn 25 = .ok (.aload_n 0, 1) := by decide +kernel
theorem dX3_turn_26 : decode cX3_turn 26 = .ok (.getfield 31, 3) := by decide +kernel
theorem dX3_turn_29 : decode cX3_turn 29 = .ok (.iload_n 1, 1) := by decide +kernel
theorem dX3_turn_30 : decode cX3_turn 30 = .ok (.iaload, 1) := by decide +kernel
theorem dX3_turn_31 : decode cX3_turn 31 = .ok (.iconst 1, 1) := by decide +kernel
theorem dX3_turn_32 : decode cX3_turn 32 = .ok (.if_icmp .eq 29, 3) := by decide +kernel
theorem dX3_turn_35 : decode cX3_turn 35 = .ok (.aload_n 0, 1) := by decide +kernel
theorem dX3_turn_36 : decode cX3_turn 36 = .ok (.getfield 31, 3) := by decide +kernel
theorem dX3_turn_39 : decode cX3_turn 39 = .ok (.iload_n 1, 1) := by decide +kernel
theorem dX3_turn_40 : decode cX3_turn 40 = .ok (.iaload, 1) := by decide +kernel
theorem dX3_turn_41 : decode cX3_turn 41 = .ok (.iconst 2, 1) := by decide +kernel
theorem dX3_turn_42 : decode cX3_turn 42 = .ok (.if_icmp .eq 19, 3) := by decide +kernel
theorem dX3_turn_45 : decode cX3_turn 45 = .ok (.aload_n 0, 1) := by decide +kernel
theorem dX3_turn_46 : decode cX3_turn 46 = .ok (.getfield 34, 3) := by decide +kernel
theorem dX3_turn_49 : decode cX3_turn 49 = .ok (.iload_n 1, 1) := by decide +kernel
theorem dX3_turn_50 : decode cX3_turn 50 = .ok (.iconst 0, 1) := by decide +kernel
theorem dX3_turn_51 : decode cX3_turn 51 = .ok (.iastore, 1) := by decide +kernel
theorem dX3_turn_52 : decode cX3_turn 52 = .ok (.aload_n 0, 1) := by decide +kernel
theorem dX3_turn_53 : decode cX3_turn 53 = .ok (.iload_n 1, 1) := by decide +kernel
theorem dX3_turn_54 : decode cX3_turn 54 = .ok (.iconst 0, 1) := by decide +kernel
theorem dX3_turn_55 : decode cX3_turn 55 = .ok (.invokevirtual 129, 3) := by decide +kernel
theorem dX3_turn_58 : decode cX3_turn 58 = .ok (.goto 45, 3) := by decide +kernel
theorem dX3_turn_61 : decode cX3_turn 61 = .ok (.aload_n 0, 1) := by decide +kernel
theorem dX3_turn_62 : decode cX3_turn 62 = .ok (.getfield 27, 3) := by decide +kernel
theorem dX3_turn_65 : decode cX3_turn 65 = .ok (.iload_n 1, 1) := by decide +kernel
theorem dX3_turn_66 : decode cX3_turn 66 = .ok (.baload, 1) := by decide +kernel
theorem dX3_turn_67 : decode cX3_turn 67 = .ok (.ifCond .ne 36, 3) := by decide +kernel
theorem dX3_turn_70 : decode cX3_turn 70 = .ok (.aload_n 0, 1) := by decide +kernel
theorem dX3_turn_71 : decode cX3_turn 71 = .ok (.getfield 34, 3) := by decide +kernel
theorem dX3_turn_74 : decode cX3_turn 74 = .ok (.iload_n 1, 1) := by decide +kernel
theorem dX3_turn_75 : decode cX3_turn 75 = .ok (.dup2, 1) := by decide +kernel
theorem dX3_turn_76 : decode cX3_turn 76 = .ok (.iaload, 1) := by decide +kernel
theorem dX3_turn_77 : decode cX3_turn 77 = .ok (.iconst 1, 1) := by decide +kernel
theorem dX3_turn_78 : decode cX3_turn 78 = .ok (.iadd, 1) := by decide +kernel
theorem dX3_turn_79 : decode cX3_turn 79 = .ok (.iastore, 1) := by decide +kernel
theorem dX3_turn_80 : decode cX3_turn 80 = .ok (.aload_n 0, 1) := by decide +kernel
theorem dX3_turn_81 : decode cX3_turn 81 = .ok (.getfield 34, 3) := by decide +kernel
theorem dX3_turn_84 : decode cX3_turn 84 = .ok (.iload_n 1, 1) := by decide +kernel
theorem dX3_turn_85 : decode cX3_turn 85 = .ok (.iaload, 1) := by decide +kernel
theorem dX3_turn_86 : decode cX3_turn 86 = .ok (.iconst 2, 1) := by decide +kernel
theorem dX3_turn_87 : decode cX3_turn 87 = .ok (.if_icmp .le 16, 3) := by decide +kernel
theorem dX3_turn_90 : decode cX3_turn 90 = .ok (.aload_n 0, 1) := by decide +kernel
theorem dX3_turn_91 : decode cX3_turn 91 = .ok (.getfield 34, 3) := by decide +kernel
theorem dX3_turn_94 : decode cX3_turn 94 = .ok (.iload_n 1, 1) := by decide +kernel
theorem dX3_turn_95 : decode cX3_turn 95 = .ok (.iconst 0, 1) := by decide +kernel
theorem dX3_turn_96 : decode cX3_turn 96 = .ok (.iastore, 1) := by decide +kernel
theorem dX3_turn_97 : decode cX3_turn 97 = .ok (.aload_n 0, 1) := by decide +kernel
theorem dX3_turn_98 : decode cX3_turn 98 = .ok (.iload_n 1, 1) := by decide +kernel
theorem dX3_turn_99 : decode cX3_turn 99 = .ok (.iconst 1, 1) := by decide +kernel
theorem dX3_turn_100 : decode cX3_turn 100 = .ok (.invokevirtual 129, 3) := by decide +kernel
theorem dX3_turn_103 : decode cX3_turn 103 = .ok (.return_, 1) := by decide +kernel
theorem dX3_turnTo_0 : decode cX3_turnTo 0 = .ok (.aload_n 0, 1) := by decide +kernel
theorem dX3_turnTo_1 : decode cX3_turnTo 1 = .ok (.getfield 27, 3) := by decide +kernel
theorem dX3_turnTo_4 : decode cX3_turnTo 4 = .ok (.iload_n 1, 1) := by decide +kernel
theorem dX3_turnTo_5 : decode cX3_turnTo 5 = .ok (.baload, 1) := by decide +kernel
theorem dX3_turnTo_6 : decode cX3_turnTo 6 = .ok (.iload_n 2, 1) := by decide +kernel
theorem dX3_turnTo_7 : decode cX3_turnTo 7 = .ok (.if_icmp .eq 19, 3) := by decide +kernel
theorem dX3_turnTo_10 : decode cX3_turnTo 10 = .ok (.aload_n 0, 1) := by decide +kernel
theorem dX3_turnTo_11 : decode cX3_turnTo 11 = .ok (.getfield 27, 3) := by decide +kernel
theorem dX3_turnTo_14 : decode cX3_turnTo 14 = .ok (.iload_n 1, 1) := by decide +kernel
theorem dX3_turnTo_15 : decode cX3_turnTo 15 = .ok (.iload_n 2, 1) := by decide +kernel
theorem dX3_turnTo_16 : decode cX3_turnTo 16 = .ok (.bastore, 1) := by decide +kernel
theorem dX3_turnTo_17 : decode cX3_turnTo 17 = .ok (.aload_n 0, 1) := by decide +kernel
theorem dX3_turnTo_18 : decode cX3_turnTo 18 = .ok (.getfield 49, 3) := by decide +kernel
theorem dX3_turnTo_21 : decode cX3_turnTo 21 = .ok (.iload_n 1, 1) := by decide +kernel
theorem dX3_turnTo_22 : decode cX3_turnTo 22 = .ok (.iconst 5, 1) := by decide +kernel
theorem dX3_turnTo_23 : decode cX3_turnTo 23 = .ok (.idiv, 1) := by decide +kernel
theorem dX3_turnTo_24 : decode cX3_turnTo 24 = .ok (.iconst 1, 1) := by decide +kernel
theorem dX3_turnTo_25 : decode cX3_turnTo 25 = .ok (.bastore, 1) := by decide +kernel
theorem dX3_turnTo_26 : decode cX3_turnTo 26 = .ok (.return_, 1) := by decide +kernel
set_option maxRecDepth 20000 in
theorem ggX3_roleOf_X3_isShut : GoodIn wsX3_roleOf wsX3_isShut := goodIn_r _ [9, 10, 24, 25, 26, 27, 28, 29, 30, 31, 32, 33, 34, 35, 36, 37, 38, 39] (by decide +kernel) (by decide +kernel)
set_option maxRecDepth 20000 in
theorem gX3_roleOf_X3_isShut : GoodIn wsX3_roleOf (wsV RX3 68 RX3 yX3_isShut wsX3_isShut) := goodIn_app (goodIn_of _ (by decide +kernel)) ggX3_roleOf_X3_isShut
set_option maxRecDepth 20000 in
theorem ggX3_roleOf_X3_isHeldBetter : GoodIn wsX3_roleOf wsX3_isHeldBetter := goodIn_r _ [14, 15, 4, 1, 16, 17, 2, 18, 19, 20, 21, 22, 23, 24, 25, 26, 27, 28, 29, 30, 31, 32, 33, 34, 35, 36, 37, 38, 39, 40, 41, 42, 43, 44, 45, 46, 47] (by decide +kernel) (by decide +kernel)
set_option maxRecDepth 20000 in
theorem gX3_roleOf_X3_isHeldBetter : GoodIn wsX3_roleOf (wsV RX3 133 RX3 yX3_isHeldBetter wsX3_isHeldBetter) := goodIn_app (goodIn_of _ (by decide +kernel)) ggX3_roleOf_X3_isHeldBetter
theorem dX3_roleOf_0 : decode cX3_roleOf 0 = .ok (.aload_n 0, 1) := by decide +kernel
theorem dX3_roleOf_1 : decode cX3_roleOf 1 = .ok (.getfield 55, 3) := by decide +kernel
theorem dX3_roleOf_4 : decode cX3_roleOf 4 = .ok (.getfield 63, 3) := by decide +kernel
theorem dX3_roleOf_7 : decode cX3_roleOf 7 = .ok (.iload_n 1, 1) := by decide +kernel
theorem dX3_roleOf_8 : decode cX3_roleOf 8 = .ok (.iaload, 1) := by decide +kernel
theorem dX3_roleOf_9 : decode cX3_roleOf 9 = .ok (.iconst (-1), 1) := by decide +kernel
theorem dX3_roleOf_10 : decode cX3_roleOf 10 = .ok (.if_icmp .eq 11, 3) := by decide +kernel
theorem dX3_roleOf_13 : decode cX3_roleOf 13 = .ok (.aload_n 0, 1) := by decide +kernel
theorem dX3_roleOf_14 : decode cX3_roleOf 14 = .ok (.iload_n 1, 1) := by decide +kernel
theorem dX3_roleOf_15 : decode cX3_roleOf 15 = .ok (.invokevirtual 68, 3) := by decide +kernel
theorem dX3_roleOf_18 : decode cX3_roleOf 18 = .ok (.ifCond .eq 5, 3) := by decide +kernel
theorem dX3_roleOf_21 : decode cX3_roleOf 21 = .ok (.iconst 0, 1) := by decide +kernel
theorem dX3_roleOf_22 : decode cX3_roleOf 22 = .ok (.ireturn, 1) := by decide +kernel
theorem dX3_roleOf_23 : decode cX3_roleOf 23 = .ok (.aload_n 0, 1) := by decide +kernel
theorem dX3_roleOf_24 : decode cX3_roleOf 24 = .ok (.getfield 21, 3) := by decide +kernel
theorem dX3_roleOf_27 : decode cX3_roleOf 27 = .ok (.iload_n 1, 1) := by decide +kernel
theorem dX3_roleOf_28 : decode cX3_roleOf 28 = .ok (.iconst 5, 1) := by decide +kernel
theorem dX3_roleOf_29 : decode cX3_roleOf 29 = .ok (.idiv, 1) := by decide +kernel
theorem dX3_roleOf_30 : decode cX3_roleOf 30 = .ok (.iaload, 1) := by decide +kernel
theorem dX3_roleOf_31 : decode cX3_roleOf 31 = .ok (.iload_n 1, 1) := by decide +kernel
theorem dX3_roleOf_32 : decode cX3_roleOf 32 = .ok (.iconst 5, 1) := by decide +kernel
theorem dX3_roleOf_33 : decode cX3_roleOf 33 = .ok (.irem, 1) := by decide +kernel
theorem dX3_roleOf_34 : decode cX3_roleOf 34 = .ok (.if_icmp .ne 5, 3) := by decide +kernel
theorem dX3_roleOf_37 : decode cX3_roleOf 37 = .ok (.iconst 1, 1) := by decide +kernel
theorem dX3_roleOf_38 : decode cX3_roleOf 38 = .ok (.ireturn, 1) := by decide +kernel
theorem dX3_roleOf_39 : decode cX3_roleOf 39 = .ok (.aload_n 0, 1) := by decide +kernel
theorem dX3_roleOf_40 : decode cX3_roleOf 40 = .ok (.getfield 37, 3) := by decide +kernel
theorem dX3_roleOf_43 : decode cX3_roleOf 43 = .ok (.iload_n 1, 1) := by decide +kernel
theorem dX3_roleOf_44 : decode cX3_roleOf 44 = .ok (.iaload, 1) := by decide +kernel
theorem dX3_roleOf_45 : decode cX3_roleOf 45 = .ok (.iconst (-1), 1) := by decide +kernel
theorem dX3_roleOf_46 : decode cX3_roleOf 46 = .ok (.if_icmp .eq 11, 3) := by decide +kernel
theorem dX3_roleOf_49 : decode cX3_roleOf 49 = .ok (.aload_n 0, 1) := by decide +kernel
theorem dX3_roleOf_50 : decode cX3_roleOf 50 = .ok (.iload_n 1, 1) := by decide +kernel
theorem dX3_roleOf_51 : decode cX3_roleOf 51 = .ok (.invokevirtual 133, 3) := by decide +kernel
theorem dX3_roleOf_54 : decode cX3_roleOf 54 = .ok (.ifCond .eq 7, 3) := by decide +kernel
theorem dX3_roleOf_57 : decode cX3_roleOf 57 = .ok (.iconst 2, 1) := by decide +kernel
theorem dX3_roleOf_58 : decode cX3_roleOf 58 = .ok (.goto 4, 3) := by decide +kernel
theorem dX3_roleOf_61 : decode cX3_roleOf 61 = .ok (.iconst 3, 1) := by decide +kernel
theorem dX3_roleOf_62 : decode cX3_roleOf 62 = .ok (.ireturn, 1) := by decide +kernel
set_option maxRecDepth 20000 in
theorem ggX3_isHeldBetter_X4_isBetterName : GoodIn wsX3_isHeldBetter wsX4_isBetterName := goodIn_r _ [11, 12, 29, 30, 31, 32, 33, 34, 35, 36] (by decide +kernel) (by decide +kernel)
set_option maxRecDepth 20000 in
theorem gX3_isHeldBetter_X4_isBetterName : GoodIn wsX3_isHeldBetter (wsV RX3 117 RX4 yX4_isBetterName wsX4_isBetterName) := goodIn_app (goodIn_of _ (by decide +kernel)) ggX3_isHeldBetter_X4_isBetterName
theorem dX3_isHeldBetter_0 : decode cX3_isHeldBetter 0 = .ok (.iload_n 1, 1) := by decide +kernel
theorem dX3_isHeldBetter_1 : decode cX3_isHeldBetter 1 = .ok (.iconst 5, 1) := by decide +kernel
theorem dX3_isHeldBetter_2 : decode cX3_isHeldBetter 2 = .ok (.idiv, 1) := by decide +kernel
theorem dX3_isHeldBetter_3 : decode cX3_isHeldBetter 3 = .ok (.istore_n 2, 1) := by decide +kernel
theorem dX3_isHeldBetter_4 : decode cX3_isHeldBetter 4 = .ok (.aload_n 0, 1) := by decide +kernel
theorem dX3_isHeldBetter_5 : decode cX3_isHeldBetter 5 = .ok (.getfield 9, 3) := by decide +kernel
theorem dX3_isHeldBetter_8 : decode cX3_isHeldBetter 8 = .ok (.iload_n 2, 1) := by decide +kernel
theorem dX3_isHeldBetter_9 : decode cX3_isHeldBetter 9 = .ok (.iaload, 1) := by decide +kernel
theorem dX3_isHeldBetter_10 : decode cX3_isHeldBetter 10 = .ok (.aload_n 0, 1) := by decide +kernel
theorem dX3_isHeldBetter_11 : decode cX3_isHeldBetter 11 = .ok (.getfield 37, 3) := by decide +kernel
theorem dX3_isHeldBetter_14 : decode cX3_isHeldBetter 14 = .ok (.iload_n 1, 1) := by decide +kernel
theorem dX3_isHeldBetter_15 : decode cX3_isHeldBetter 15 = .ok (.iaload, 1) := by decide +kernel
theorem dX3_isHeldBetter_16 : decode cX3_isHeldBetter 16 = .ok (.if_icmp .eq 23, 3) := by decide +kernel
theorem dX3_isHeldBetter_19 : decode cX3_isHeldBetter 19 = .ok (.aload_n 0, 1) := by decide +kernel
theorem dX3_isHeldBetter_20 : decode cX3_isHeldBetter 20 = .ok (.getfield 55, 3) := by decide +kernel
theorem dX3_isHeldBetter_23 : decode cX3_isHeldBetter 23 = .ok (.aload_n 0, 1) := by decide +kernel
theorem dX3_isHeldBetter_24 : decode cX3_isHeldBetter 24 = .ok (.getfield 9, 3) := by decide +kernel
theorem dX3_isHeldBetter_27 : decode cX3_isHeldBetter 27 = .ok (.iload_n 2, 1) := by decide +kernel
theorem dX3_isHeldBetter_28 : decode cX3_isHeldBetter 28 = .ok (.iaload, 1) := by decide +kernel
theorem dX3_isHeldBetter_29 : decode cX3_isHeldBetter 29 = .ok (.aload_n 0, 1) := by decide +kernel
theorem dX3_isHeldBetter_30 : decode cX3_isHeldBetter 30 = .ok (.getfield 37, 3) := by decide +kernel
theorem dX3_isHeldBetter_33 : decode cX3_isHeldBetter 33 = .ok (.iload_n 1, 1) := by decide +kernel
theorem dX3_isHeldBetter_34 : decode cX3_isHeldBetter 34 = .ok (.iaload, 1) := by decide +kernel
theorem dX3_isHeldBetter_35 : decode cX3_isHeldBetter 35 = .ok (.invokevirtual 117, 3) := by decide +kernel
theorem dX3_isHeldBetter_38 : decode cX3_isHeldBetter 38 = .ok (.ireturn, 1) := by decide +kernel
theorem dX3_isHeldBetter_39 : decode cX3_isHeldBetter 39 = .ok (.aload_n 0, 1) := by decide +kernel
theorem dX3_isHeldBetter_40 : decode cX3_isHeldBetter 40 = .ok (.getfield 15, 3) := by decide +kernel
theorem dX3_isHeldBetter_43 : decode cX3_isHeldBetter 43 = .ok (.iload_n 2, 1) := by decide +kernel
theorem dX3_isHeldBetter_44 : decode cX3_isHeldBetter 44 = .ok (.iaload, 1) := by decide +kernel
theorem dX3_isHeldBetter_45 : decode cX3_isHeldBetter 45 = .ok (.aload_n 0, 1) := by decide +kernel
theorem dX3_isHeldBetter_46 : decode cX3_isHeldBetter 46 = .ok (.getfield 40, 3) := by decide +kernel
theorem dX3_isHeldBetter_49 : decode cX3_isHeldBetter 49 = .ok (.iload_n 1, 1) := by decide +kernel
theorem dX3_isHeldBetter_50 : decode cX3_isHeldBetter 50 = .ok (.iaload, 1) := by decide +kernel
theorem dX3_isHeldBetter_51 : decode cX3_isHeldBetter 51 = .ok (.if_icmp .eq 24, 3) := by decide +kernel
theorem dX3_isHeldBetter_54 : decode cX3_isHeldBetter 54 = .ok (.aload_n 0, 1) := by decide +kernel
theorem dX3_isHeldBetter_55 : decode cX3_isHeldBetter 55 = .ok (.getfield 15, 3) := by decide +kernel
theorem dX3_isHeldBetter_58 : decode cX3_isHeldBetter 58 = .ok (.iload_n 2, 1) := by decide +kernel
theorem dX3_isHeldBetter_59 : decode cX3_isHeldBetter 59 = .ok (.iaload, 1) := by decide +kernel
theorem dX3_isHeldBetter_60 : decode cX3_isHeldBetter 60 = .ok (.aload_n 0, 1) := by decide +kernel
theorem dX3_isHeldBetter_61 : decode cX3_isHeldBetter 61 = .ok (.getfield 40, 3) := by decide +kernel
theorem dX3_isHeldBetter_64 : decode cX3_isHeldBetter 64 = .ok (.iload_n 1, 1) := by decide +kernel
theorem dX3_isHeldBetter_65 : decode cX3_isHeldBetter 65 = .ok (.iaload, 1) := by decide +kernel
theorem dX3_isHeldBetter_66 : decode cX3_isHeldBetter 66 = .ok (.if_icmp .ge 7, 3) := by decide +kernel
theorem dX3_isHeldBetter_69 : decode cX3_isHeldBetter 69 = .ok (.iconst 1, 1) := by decide +kernel
theorem dX3_isHeldBetter_70 : decode cX3_isHeldBetter 70 = .ok (.goto 4, 3) := by decide +kernel
theorem dX3_isHeldBetter_73 : decode cX3_isHeldBetter 73 = .ok (.iconst 0, 1) := by decide +kernel
theorem dX3_isHeldBetter_74 : decode cX3_isHeldBetter 74 = .ok (.ireturn, 1) := by decide +kernel
theorem dX3_isHeldBetter_75 : decode cX3_isHeldBetter 75 = .ok (.aload_n 0, 1) := by decide +kernel
theorem dX3_isHeldBetter_76 : decode cX3_isHeldBetter 76 = .ok (.getfield 55, 3) := by decide +kernel
theorem dX3_isHeldBetter_79 : decode cX3_isHeldBetter 79 = .ok (.iload_n 2, 1) := by decide +kernel
theorem dX3_isHeldBetter_80 : decode cX3_isHeldBetter 80 = .ok (.aload_n 0, 1) := by decide +kernel
theorem dX3_isHeldBetter_81 : decode cX3_isHeldBetter 81 = .ok (.getfield 55, 3) := by decide +kernel
theorem dX3_isHeldBetter_84 : decode cX3_isHeldBetter 84 = .ok (.getfield 63, 3) := by decide +kernel
theorem dX3_isHeldBetter_87 : decode cX3_isHeldBetter 87 = .ok (.iload_n 1, 1) := by decide +kernel
theorem dX3_isHeldBetter_88 : decode cX3_isHeldBetter 88 = .ok (.iaload, 1) := by decide +kernel
theorem dX3_isHeldBetter_89 : decode cX3_isHeldBetter 89 = .ok (.iconst 5, 1) := by decide +kernel
theorem dX3_isHeldBetter_90 : decode cX3_isHeldBetter 90 = .ok (.idiv, 1) := by decide +kernel
theorem dX3_isHeldBetter_91 : decode cX3_isHeldBetter 91 = .ok (.invokevirtual 117, 3) := by decide +kernel
theorem dX3_isHeldBetter_94 : decode cX3_isHeldBetter 94 = .ok (.ireturn, 1) := by decide +kernel
set_option maxRecDepth 20000 in
theorem ggX3_spreadStale_X3_isJoined : GoodIn wsX3_spreadStale wsX3_isJoined := goodIn_r _ [8, 2, 3, 9, 10, 11, 7, 12, 13, 14, 15, 16, 17, 18, 19, 20, 21, 22, 23, 24, 25, 26, 27, 28, 29, 30, 31, 32, 33, 34, 35, 36, 37] (by decide +kernel) (by decide +kernel)
set_option maxRecDepth 20000 in
theorem gX3_spreadStale_X3_isJoined : GoodIn wsX3_spreadStale (wsV RX3 100 RX3 yX3_isJoined wsX3_isJoined) := goodIn_app (goodIn_of _ (by decide +kernel)) ggX3_spreadStale_X3_isJoined
theorem dX3_spreadStale_0 : decode cX3_spreadStale 0 = .ok (.iconst 0, 1) := by decide +kernel
theorem dX3_spreadStale_1 : decode cX3_spreadStale 1 = .ok (.istore_n 1, 1) := by decide +kernel
theorem dX3_spreadStale_2 : decode cX3_spreadStale 2 = .ok (.iload_n 1, 1) := by decide +kernel
theorem dX3_spreadStale_3 : decode cX3_spreadStale 3 = .ok (.bipush 6, 2) := by decide +kernel
theorem dX3_spreadStale_5 : decode cX3_spreadStale 5 = .ok (.if_icmp .ge 59, 3) := by decide +kernel
theorem dX3_spreadStale_8 : decode cX3_spreadStale 8 = .ok (.iconst 0, 1) := by decide +kernel
theorem dX3_spreadStale_9 : decode cX3_spreadStale 9 = .ok (.istore_n 2, 1) := by decide +kernel
theorem dX3_spreadStale_10 : decode cX3_spreadStale 10 = .ok (.iload_n 2, 1) := by decide +kernel
theorem dX3_spreadStale_11 : decode cX3_spreadStale 11 = .ok (.bipush 30, 2) := by decide +kernel
theorem dX3_spreadStale_13 : decode cX3_spreadStale 13 = .ok (.if_icmp .ge 45, 3) := by decide +kernel
theorem dX3_spreadStale_16 : decode cX3_spreadStale 16 = .ok (.aload_n 0, 1) := by decide +kernel
theorem dX3_spreadStale_17 : decode cX3_spreadStale 17 = .ok (.getfield 49, 3) := by decide +kernel
theorem dX3_spreadStale_20 : decode cX3_spreadStale 20 = .ok (.iload_n 2, 1) := by decide +kernel
theorem dX3_spreadStale_21 : decode cX3_spreadStale 21 = .ok (.iconst 5, 1) := by decide +kernel
theorem dX3_spreadStale_22 : decode cX3_spreadStale 22 = .ok (.idiv, 1) := by decide +kernel
theorem dX3_spreadStale_23 : decode cX3_spreadStale 23 = .ok (.baload, 1) := by decide +kernel
theorem dX3_spreadStale_24 : decode cX3_spreadStale 24 = .ok (.ifCond .eq 28, 3) := by decide +kernel
theorem dX3_spreadStale_27 : decode cX3_spreadStale 27 = .ok (.aload_n 0, 1) := by decide +kernel
theorem dX3_spreadStale_28 : decode cX3_spreadStale 28 = .ok (.iload_n 2, 1) := by decide +kernel
theorem dX3_spreadStale_29 : decode cX3_spreadStale 29 = .ok (.invokevirtual 100, 3) := by decide +kernel
theorem dX3_spreadStale_32 : decode cX3_spreadStale 32 = .ok (.ifCond .eq 20, 3) := by decide +kernel
theorem dX3_spreadStale_35 : decode cX3_spreadStale 35 = .ok (.aload_n 0, 1) := by decide +kernel
theorem dX3_spreadStale_36 : decode cX3_spreadStale 36 = .ok (.getfield 49, 3) := by decide +kernel
theorem dX3_spreadStale_39 : decode cX3_spreadStale 39 = .ok (.aload_n 0, 1) := by decide +kernel
theorem dX3_spreadStale_40 : decode cX3_spreadStale 40 = .ok (.getfield 55, 3) := by decide +kernel
theorem dX3_spreadStale_43 : decode cX3_spreadStale 43 = .ok (.getfield 63, 3) := by decide +kernel
theorem dX3_spreadStale_46 : decode cX3_spreadStale 46 = .ok (.iload_n 2, 1) := by decide +kernel
theorem dX3_spreadStale_47 : decode cX3_spreadStale 47 = .ok (.iaload, 1) := by decide +kernel
theorem dX3_spreadStale_48 : decode cX3_spreadStale 48 = .ok (.iconst 5, 1) := by decide +kernel
theorem dX3_spreadStale_49 : decode cX3_spreadStale 49 = .ok (.idiv, 1) := by decide +kernel
theorem dX3_spreadStale_50 : decode cX3_spreadStale 50 = .ok (.iconst 1, 1) := by decide +kernel
theorem dX3_spreadStale_51 : decode cX3_spreadStale 51 = .ok (.bastore, 1) := by decide +kernel
theorem dX3_spreadStale_52 : decode cX3_spreadStale 52 = .ok (.iinc 2 1, 3) := by decide +kernel
theorem dX3_spreadStale_55 : decode cX3_spreadStale 55 = .ok (.goto (-45), 3) := by decide +kernel
theorem dX3_spreadStale_58 : decode cX3_spreadStale 58 = .ok (.iinc 1 1, 3) := by decide +kernel
theorem dX3_spreadStale_61 : decode cX3_spreadStale 61 = .ok (.goto (-59), 3) := by decide +kernel
theorem dX3_spreadStale_64 : decode cX3_spreadStale 64 = .ok (.return_, 1) := by decide +kernel
set_option maxRecDepth 20000 in
theorem ggX3_endStorms_X3_endShut : GoodIn wsX3_endStorms wsX3_endShut := goodIn_r _ [7, 1, 8, 9, 10, 6, 11, 12, 13, 14, 15, 16, 17, 18, 19, 20, 21, 22, 23, 24, 25, 26, 27, 28, 29, 30, 31, 32, 33, 34, 35, 36, 37, 38, 39, 40, 41, 42] (by decide +kernel) (by decide +kernel)
set_option maxRecDepth 20000 in
theorem gX3_endStorms_X3_endShut : GoodIn wsX3_endStorms (wsV RX3 136 RX3 yX3_endShut wsX3_endShut) := goodIn_app (goodIn_of _ (by decide +kernel)) ggX3_endStorms_X3_endShut
theorem dX3_endStorms_0 : decode cX3_endStorms 0 = .ok (.iconst 0, 1) := by decide +kernel
theorem dX3_endStorms_1 : decode cX3_endStorms 1 = .ok (.istore_n 1, 1) := by decide +kernel
theorem dX3_endStorms_2 : decode cX3_endStorms 2 = .ok (.iload_n 1, 1) := by decide +kernel
theorem dX3_endStorms_3 : decode cX3_endStorms 3 = .ok (.bipush 30, 2) := by decide +kernel
theorem dX3_endStorms_5 : decode cX3_endStorms 5 = .ok (.if_icmp .ge 36, 3) := by decide +kernel
theorem dX3_endStorms_8 : decode cX3_endStorms 8 = .ok (.aload_n 0, 1) := by decide +kernel
theorem dX3_endStorms_9 : decode cX3_endStorms 9 = .ok (.getfield 24, 3) := by decide +kernel
theorem dX3_endStorms_12 : decode cX3_endStorms 12 = .ok (.iload_n 1, 1) := by decide +kernel
theorem dX3_endStorms_13 : decode cX3_endStorms 13 = .ok (.iaload, 1) := by decide +kernel
theorem dX3_endStorms_14 : decode cX3_endStorms 14 = .ok (.ifCond .le 21, 3) := by decide +kernel
theorem dX3_endStorms_17 : decode cX3_endStorms 17 = .ok (.aload_n 0, 1) := by decide +kernel
theorem dX3_endStorms_18 : decode cX3_endStorms 18 = .ok (.getfield 24, 3) := by decide +kernel
theorem dX3_endStorms_21 : decode cX3_endStorms 21 = .ok (.iload_n 1, 1) := by decide +kernel
theorem dX3_endStorms_22 : decode cX3_endStorms 22 = .ok (.iaload, 1) := by decide +kernel
theorem dX3_endStorms_23 : decode cX3_endStorms 23 = .ok (.aload_n 0, 1) := by decide +kernel
theorem dX3_endStorms_24 : decode cX3_endStorms 24 = .ok (.getfield 59, 3) := by decide +kernel
theorem dX3_endStorms_27 : decode cX3_endStorms 27 = .ok (.if_icmp .gt 8, 3) := by decide +kernel
theorem dX3_endStorms_30 : decode cX3_endStorms 30 = .ok (.aload_n 0, 1) := by decide +kernel
theorem dX3_endStorms_31 : decode cX3_endStorms 31 = .ok (.iload_n 1, 1) := by decide +kernel
theorem dX3_endStorms_32 : decode cX3_endStorms 32 = .ok (.invokevirtual 136, 3) := by decide +kernel
theorem dX3_endStorms_35 : decode cX3_endStorms 35 = .ok (.iinc 1 1, 3) := by decide +kernel
theorem dX3_endStorms_38 : decode cX3_endStorms 38 = .ok (.goto (-36), 3) := by decide +kernel
theorem dX3_endStorms_41 : decode cX3_endStorms 41 = .ok (.return_, 1) := by decide +kernel
set_option maxRecDepth 20000 in
theorem ggX3_measureWays_X3_isJoined : GoodIn wsX3_measureWays wsX3_isJoined := goodIn_r _ [9, 2, 3, 10, 11, 12, 8, 13, 14, 19, 20, 21, 22, 23, 24, 25, 26, 27, 28, 29, 30, 31, 32, 33, 34, 35, 36, 37, 38, 39, 40, 41, 42] (by decide +kernel) (by decide +kernel)
set_option maxRecDepth 20000 in
theorem gX3_measureWays_X3_isJoined : GoodIn wsX3_measureWays (wsV RX3 100 RX3 yX3_isJoined wsX3_isJoined) := goodIn_app (goodIn_of _ (by decide +kernel)) ggX3_measureWays_X3_isJoined
set_option maxRecDepth 20000 in
theorem ggX3_measureWays_X3_shorten : GoodIn wsX3_measureWays wsX3_shorten := goodIn_r _ [18, 1, 19, 20, 21, 22, 23, 24, 25, 26, 27, 28, 29, 30, 31, 32, 33, 34] (by decide +kernel) (by decide +kernel)
set_option maxRecDepth 20000 in
theorem gX3_measureWays_X3_shorten : GoodIn wsX3_measureWays (wsV RX3 139 RX3 yX3_shorten wsX3_shorten) := goodIn_app (goodIn_of _ (by decide +kernel)) ggX3_measureWays_X3_shorten
theorem dX3_measureWays_0 : decode cX3_measureWays 0 = .ok (.iconst 0, 1) := by decide +kernel
theorem dX3_measureWays_1 : decode cX3_measureWays 1 = .ok (.istore_n 2, 1) := by decide +kernel
theorem dX3_measureWays_2 : decode cX3_measureWays 2 = .ok (.iload_n 2, 1) := by decide +kernel
theorem dX3_measureWays_3 : decode cX3_measureWays 3 = .ok (.bipush 6, 2) := by decide +kernel
theorem dX3_measureWays_5 : decode cX3_measureWays 5 = .ok (.if_icmp .ge 25, 3) := by decide +kernel
theorem dX3_measureWays_8 : decode cX3_measureWays 8 = .ok (.aload_n 0, 1) := by decide +kernel
theorem dX3_measureWays_9 : decode cX3_measureWays 9 = .ok (.getfield 52, 3) := by decide +kernel
theorem dX3_measureWays_12 : decode cX3_measureWays 12 = .ok (.iload_n 2, 1) := by decide +kernel
theorem dX3_measureWays_13 : decode cX3_measureWays 13 = .ok (.iload_n 2, 1) := by decide +kernel
theorem dX3_measureWays_14 : decode cX3_measureWays 14 = .ok (.iload_n 1, 1) := by decide +kernel
theorem dX3_measureWays_15 : decode cX3_measureWays 15 = .ok (.if_icmp .ne 7, 3) := by decide +kernel
theorem dX3_measureWays_18 : decode cX3_measureWays 18 = .ok (.iconst 0, 1) := by decide +kernel
theorem dX3_measureWays_19 : decode cX3_measureWays 19 = .ok (.goto 4, 3) := by decide +kernel
theorem dX3_measureWays_22 : decode cX3_measureWays 22 = .ok (.iconst (-1), 1) := by decide +kernel
theorem dX3_measureWays_23 : decode cX3_measureWays 23 = .ok (.iastore, 1) := by decide +kernel
theorem dX3_measureWays_24 : decode cX3_measureWays 24 = .ok (.iinc 2 1, 3) := by decide +kernel
theorem dX3_measureWays_27 : decode cX3_measureWays 27 = .ok (.goto (-25), 3) := by decide +kernel
theorem dX3_measureWays_30 : decode cX3_measureWays 30 = .ok (.iconst 0, 1) := by decide +kernel
theorem dX3_measureWays_31 : decode cX3_measureWays 31 = .ok (.istore_n 2, 1) := by decide +kernel
theorem dX3_measureWays_32 : decode cX3_measureWays 32 = .ok (.iload_n 2, 1) := by decide +kernel
theorem dX3_measureWays_33 : decode cX3_measureWays 33 = .ok (.bipush 6, 2) := by decide +kernel
theorem dX3_measureWays_35 : decode cX3_measureWays 35 = .ok (.if_icmp .ge 76, 3) := by decide +kernel
theorem dX3_measureWays_38 : decode cX3_measureWays 38 = .ok (.iconst 0, 1) := by decide +kernel
theorem dX3_measureWays_39 : decode cX3_measureWays 39 = .ok (.istore_n 3, 1) := by decide +kernel
theorem dX3_measureWays_40 : decode cX3_measureWays 40 = .ok (.iload_n 3, 1) := by decide +kernel
theorem dX3_measureWays_41 : decode cX3_measureWays 41 = .ok (.bipush 30, 2) := by decide +kernel
theorem dX3_measureWays_43 : decode cX3_measureWays 43 = .ok (.if_icmp .ge 62, 3) := by decide +kernel
theorem dX3_measureWays_46 : decode cX3_measureWays 46 = .ok (.aload_n 0, 1) := by decide +kernel
theorem dX3_measureWays_47 : decode cX3_measureWays 47 = .ok (.getfield 52, 3) := by decide +kernel
theorem dX3_measureWays_50 : decode cX3_measureWays 50 = .ok (.iload_n 3, 1) := by decide +kernel
theorem dX3_measureWays_51 : decode cX3_measureWays 51 = .ok (.iconst 5, 1) := by decide +kernel
theorem dX3_measureWays_52 : decode cX3_measureWays 52 = .ok (.idiv, 1) := by decide +kernel
theorem dX3_measureWays_53 : decode cX3_measureWays 53 = .ok (.iaload, 1) := by decide +kernel
theorem dX3_measureWays_54 : decode cX3_measureWays 54 = .ok (.iconst (-1), 1) := by decide +kernel
theorem dX3_measureWays_55 : decode cX3_measureWays 55 = .ok (.if_icmp .eq 44, 3) := by decide +kernel
theorem dX3_measureWays_58 : decode cX3_measureWays 58 = .ok (.aload_n 0, 1) := by decide +kernel
theorem dX3_measureWays_59 : decode cX3_measureWays 59 = .ok (.iload_n 3, 1) := by decide +kernel
theorem dX3_measureWays_60 : decode cX3_measureWays 60 = .ok (.invokevirtual 100, 3) := by decide +kernel
theorem dX3_measureWays_63 : decode cX3_measureWays 63 = .ok (.ifCond .eq 36, 3) := by decide +kernel
theorem dX3_measureWays_66 : decode cX3_measureWays 66 = .ok (.aload_n 0, 1) := by decide +kernel
theorem dX3_measureWays_67 : decode cX3_measureWays 67 = .ok (.aload_n 0, 1) := by decide +kernel
theorem dX3_measureWays_68 : decode cX3_measureWays 68 = .ok (.getfield 55, 3) := by decide +kernel
theorem dX3_measureWays_71 : decode cX3_measureWays 71 = .ok (.getfield 63, 3) := by decide +kernel
theorem dX3_measureWays_74 : decode cX3_measureWays 74 = .ok (.iload_n 3, 1) := by decide +kernel
theorem dX3_measureWays_75 : decode cX3_measureWays 75 = .ok (.iaload, 1) := by decide +kernel
theorem dX3_measureWays_76 : decode cX3_measureWays 76 = .ok (.iconst 5, 1) := by decide +kernel
theorem dX3_measureWays_77 : decode cX3_measureWays 77 = .ok (.idiv, 1) := by decide +kernel
theorem dX3_measureWays_78 : decode cX3_measureWays 78 = .ok (.aload_n 0, 1) := by decide +kernel
theorem dX3_measureWays_79 : decode cX3_measureWays 79 = .ok (.getfield 52, 3) := by decide +kernel
theorem dX3_measureWays_82 : decode cX3_measureWays 82 = .ok (.iload_n 3, 1) := by decide +kernel
theorem dX3_measureWays_83 : decode cX3_measureWays 83 = .ok (.iconst 5, 1) := by decide +kernel
theorem dX3_measureWays_84 : decode cX3_measureWays 84 = .ok (.idiv, 1) := by decide +kernel
theorem dX3_measureWays_85 : decode cX3_measureWays 85 = .ok (.iaload, 1) := by decide +kernel
theorem dX3_measureWays_86 : decode cX3_measureWays 86 = .ok (.aload_n 0, 1) := by decide +kernel
theorem dX3_measureWays_87 : decode cX3_measureWays 87 = .ok (.getfield 55, 3) := by decide +kernel
theorem dX3_measureWays_90 : decode cX3_measureWays 90 = .ok (.getfield 124, 3) := by decide +kernel
theorem dX3_measureWays_93 : decode cX3_measureWays 93 = .ok (.iload_n 3, 1) := by decide +kernel
theorem dX3_measureWays_94 : decode cX3_measureWays 94 = .ok (.iaload, 1) := by decide +kernel
theorem dX3_measureWays_95 : decode cX3_measureWays 95 = .ok (.iadd, 1) := by decide +kernel
theorem dX3_measureWays_96 : decode cX3_measureWays 96 = .ok (.invokevirtual 139, 3) := by decide +kernel
theorem dX3_measureWays_99 : decode cX3_measureWays 99 = .ok (.iinc 3 1, 3) := by decide +kernel
theorem dX3_measureWays_102 : decode cX3_measureWays 102 = .ok (.goto (-62), 3) := by decide +kernel
theorem dX3_measureWays_105 : decode cX3_measureWays 105 = .ok (.iinc 2 1, 3) := by decide +kernel
theorem dX3_measureWays_108 : decode cX3_measureWays 108 = .ok (.goto (-76), 3) := by decide +kernel
theorem dX3_measureWays_111 : decode cX3_measureWays 111 = .ok (.return_, 1) := by decide +kernel
theorem dX3_shorten_0 : decode cX3_shorten 0 = .ok (.aload_n 0, 1) := by decide +kernel
theorem dX3_shorten_1 : decode cX3_shorten 1 = .ok (.getfield 52, 3) := by decide +kernel
theorem dX3_shorten_4 : decode cX3_shorten 4 = .ok (.iload_n 1, 1) := by decide +kernel
theorem dX3_shorten_5 : decode cX3_shorten 5 = .ok (.iaload, 1) := by decide +kernel
theorem dX3_shorten_6 : decode cX3_shorten 6 = .ok (.iconst (-1), 1) := by decide +kernel
theorem dX3_shorten_7 : decode cX3_shorten 7 = .ok (.if_icmp .eq 13, 3) := by decide +kernel
theorem dX3_shorten_10 : decode cX3_shorten 10 = .ok (.iload_n 2, 1) := by decide +kernel
theorem dX3_shorten_11 : decode cX3_shorten 11 = .ok (.aload_n 0, 1) := by decide +kernel
theorem dX3_shorten_12 : decode cX3_shorten 12 = .ok (.getfield 52, 3) := by decide +kernel
theorem dX3_shorten_15 : decode cX3_shorten 15 = .ok (.iload_n 1, 1) := by decide +kernel
theorem dX3_shorten_16 : decode cX3_shorten 16 = .ok (.iaload, 1) := by decide +kernel
theorem dX3_shorten_17 : decode cX3_shorten 17 = .ok (.if_icmp .ge 10, 3) := by decide +kernel
theorem dX3_shorten_20 : decode cX3_shorten 20 = .ok (.aload_n 0, 1) := by decide +kernel
theorem dX3_shorten_21 : decode cX3_shorten 21 = .ok (.getfield 52, 3) := by decide +kernel
theorem dX3_shorten_24 : decode cX3_shorten 24 = .ok (.iload_n 1, 1) := by decide +kernel
theorem dX3_shorten_25 : decode cX3_shorten 25 = .ok (.iload_n 2, 1) := by decide +kernel
theorem dX3_shorten_26 : decode cX3_shorten 26 = .ok (.iastore, 1) := by decide +kernel
theorem dX3_shorten_27 : decode cX3_shorten 27 = .ok (.return_, 1) := by decide +kernel
theorem dX4_init_0 : decode cX4_init 0 = .ok (.aload_n 0, 1) := by decide +kernel
theorem dX4_init_1 : decode cX4_init 1 = .ok (.invokespecial 3, 3) := by decide +kernel
theorem dX4_init_4 : decode cX4_init 4 = .ok (.aload_n 0, 1) := by decide +kernel
theorem dX4_init_5 : decode cX4_init 5 = .ok (.bipush 30, 2) := by decide +kernel
theorem dX4_init_7 : decode cX4_init 7 = .ok (.newarray .int, 2) := by decide +kernel
theorem dX4_init_9 : decode cX4_init 9 = .ok (.putfield 9, 3) := by decide +kernel
theorem dX4_init_12 : decode cX4_init 12 = .ok (.aload_n 0, 1) := by decide +kernel
theorem dX4_init_13 : decode cX4_init 13 = .ok (.bipush 30, 2) := by decide +kernel
theorem dX4_init_15 : decode cX4_init 15 = .ok (.newarray .int, 2) := by decide +kernel
theorem dX4_init_17 : decode cX4_init 17 = .ok (.putfield 15, 3) := by decide +kernel
theorem dX4_init_20 : decode cX4_init 20 = .ok (.aload_n 0, 1) := by decide +kernel
theorem dX4_init_21 : decode cX4_init 21 = .ok (.bipush 30, 2) := by decide +kernel
theorem dX4_init_23 : decode cX4_init 23 = .ok (.newarray .int, 2) := by decide +kernel
theorem dX4_init_25 : decode cX4_init 25 = .ok (.putfield 18, 3) := by decide +kernel
theorem dX4_init_28 : decode cX4_init 28 = .ok (.aload_n 0, 1) := by decide +kernel
theorem dX4_init_29 : decode cX4_init 29 = .ok (.bipush 30, 2) := by decide +kernel
theorem dX4_init_31 : decode cX4_init 31 = .ok (.newarray .int, 2) := by decide +kernel
theorem dX4_init_33 : decode cX4_init 33 = .ok (.putfield 21, 3) := by decide +kernel
theorem dX4_init_36 : decode cX4_init 36 = .ok (.aload_n 0, 1) := by decide +kernel
theorem dX4_init_37 : decode cX4_init 37 = .ok (.bipush 10, 2) := by decide +kernel
theorem dX4_init_39 : decode cX4_init 39 = .ok (.newarray .int, 2) := by decide +kernel
theorem dX4_init_41 : decode cX4_init 41 = .ok (.putfield 24, 3) := by decide +kernel
theorem dX4_init_44 : decode cX4_init 44 = .ok (.aload_n 0, 1) := by decide +kernel
theorem dX4_init_45 : decode cX4_init 45 = .ok (.bipush 6, 2) := by decide +kernel
theorem dX4_init_47 : decode cX4_init 47 = .ok (.newarray .int, 2) := by decide +kernel
theorem dX4_init_49 : decode cX4_init 49 = .ok (.putfield 27, 3) := by decide +kernel
theorem dX4_init_52 : decode cX4_init 52 = .ok (.iconst 0, 1) := by decide +kernel
theorem dX4_init_53 : decode cX4_init 53 = .ok (.istore_n 1, 1) := by decide +kernel
theorem dX4_init_54 : decode cX4_init 54 = .ok (.iload_n 1, 1) := by decide +kernel
theorem dX4_init_55 : decode cX4_init 55 = .ok (.bipush 30, 2) := by decide +kernel
theorem dX4_init_57 : decode cX4_init 57 = .ok (.if_icmp .ge 23, 3) := by decide +kernel
theorem dX4_init_60 : decode cX4_init 60 = .ok (.aload_n 0, 1) := by decide +kernel
theorem dX4_init_61 : decode cX4_init 61 = .ok (.getfield 9, 3) := by decide +kernel
theorem dX4_init_64 : decode cX4_init 64 = .ok (.iload_n 1, 1) := by decide +kernel
theorem dX4_init_65 : decode cX4_init 65 = .ok (.iconst (-1), 1) := by decide +kernel
theorem dX4_init_66 : decode cX4_init 66 = .ok (.iastore, 1) := by decide +kernel
theorem dX4_init_67 : decode cX4_init 67 = .ok (.aload_n 0, 1) := by decide +kernel
theorem dX4_init_68 : decode cX4_init 68 = .ok (.getfield 18, 3) := by decide +kernel
theorem dX4_init_71 : decode cX4_init 71 = .ok (.iload_n 1, 1) := by decide +kernel
theorem dX4_init_72 : decode cX4_init 72 = .ok (.iconst (-1), 1) := by decide +kernel
theorem dX4_init_73 : decode cX4_init 73 = .ok (.iastore, 1) := by decide +kernel
theorem dX4_init_74 : decode cX4_init 74 = .ok (.iinc 1 1, 3) := by decide +kernel
theorem dX4_init_77 : decode cX4_init 77 = .ok (.goto (-23), 3) := by decide +kernel
theorem dX4_init_80 : decode cX4_init 80 = .ok (.iconst 0, 1) := by decide +kernel
theorem dX4_init_81 : decode cX4_init 81 = .ok (.istore_n 1, 1) := by decide +kernel
theorem dX4_init_82 : decode cX4_init 82 = .ok (.iload_n 1, 1) := by decide +kernel
theorem dX4_init_83 : decode cX4_init 83 = .ok (.bipush 10, 2) := by decide +kernel
theorem dX4_init_85 : decode cX4_init 85 = .ok (.if_icmp .ge 16, 3) := by decide +kernel
theorem dX4_init_88 : decode cX4_init 88 = .ok (.aload_n 0, 1) := by decide +kernel
theorem dX4_init_89 : decode cX4_init 89 = .ok (.getfield 24, 3) := by decide +kernel
theorem dX4_init_92 : decode cX4_init 92 = .ok (.iload_n 1, 1) := by decide +kernel
theorem dX4_init_93 : decode cX4_init 93 = .ok (.iconst (-1), 1) := by decide +kernel
theorem dX4_init_94 : decode cX4_init 94 = .ok (.iastore, 1) := by decide +kernel
theorem dX4_init_95 : decode cX4_init 95 = .ok (.iinc 1 1, 3) := by decide +kernel
theorem dX4_init_98 : decode cX4_init 98 = .ok (.goto (-16), 3) := by decide +kernel
theorem dX4_init_101 : decode cX4_init 101 = .ok (.iconst 0, 1) := by decide +kernel
theorem dX4_init_102 : decode cX4_init 102 = .ok (.istore_n 1, 1) := by decide +kernel
theorem dX4_init_103 : decode cX4_init 103 = .ok (.iload_n 1, 1) := by decide +kernel
theorem dX4_init_104 : decode cX4_init 104 = .ok (.bipush 6, 2) := by decide +kernel
theorem dX4_init_106 : decode cX4_init 106 = .ok (.if_icmp .ge 17, 3) := by decide +kernel
theorem dX4_init_109 : decode cX4_init 109 = .ok (.aload_n 0, 1) := by decide +kernel
theorem dX4_init_110 : decode cX4_init 110 = .ok (.getfield 27, 3) := by decide +kernel
theorem dX4_init_113 : decode cX4_init 113 = .ok (.iload_n 1, 1) := by decide +kernel
theorem dX4_init_114 : decode cX4_init 114 = .ok (.bipush 8, 2) := by decide +kernel
theorem dX4_init_116 : decode cX4_init 116 = .ok (.iastore, 1) := by decide +kernel
theorem dX4_init_117 : decode cX4_init 117 = .ok (.iinc 1 1, 3) := by decide +kernel
theorem dX4_init_120 : decode cX4_init 120 = .ok (.goto (-17), 3) := by decide +kernel
theorem dX4_init_123 : decode cX4_init 123 = .ok (.return_, 1) := by decide +kernel
theorem dX4_isBare_0 : decode cX4_isBare 0 = .ok (.aload_n 0, 1) := by decide +kernel
theorem dX4_isBare_1 : decode cX4_isBare 1 = .ok (.getfield 9, 3) := by decide +kernel
theorem dX4_isBare_4 : decode cX4_isBare 4 = .ok (.iload_n 1, 1) := by decide +kernel
theorem dX4_isBare_5 : decode cX4_isBare 5 = .ok (.iaload, 1) := by decide +kernel
theorem dX4_isBare_6 : decode cX4_isBare 6 = .ok (.iconst (-1), 1) := by decide +kernel
theorem dX4_isBare_7 : decode cX4_isBare 7 = .ok (.if_icmp .ne 17, 3) := by decide +kernel
theorem dX4_isBare_10 : decode cX4_isBare 10 = .ok (.aload_n 0, 1) := by decide +kernel
theorem dX4_isBare_11 : decode cX4_isBare 11 = .ok (.getfield 18, 3) := by decide +kernel
theorem dX4_isBare_14 : decode cX4_isBare 14 = .ok (.iload_n 1, 1) := by decide +kernel
theorem dX4_isBare_15 : decode cX4_isBare 15 = .ok (.iaload, 1) := by decide +kernel
theorem dX4_isBare_16 : decode cX4_isBare 16 = .ok (.iconst (-1), 1) := by decide +kernel
theorem dX4_isBare_17 : decode cX4_isBare 17 = .ok (.if_icmp .ne 7, 3) := by decide +kernel
theorem dX4_isBare_20 : decode cX4_isBare 20 = .ok (.iconst 1, 1) := by decide +kernel
theorem dX4_isBare_21 : decode cX4_isBare 21 = .ok (.goto 4, 3) := by decide +kernel
theorem dX4_isBare_24 : decode cX4_isBare 24 = .ok (.iconst 0, 1) := by decide +kernel
theorem dX4_isBare_25 : decode cX4_isBare 25 = .ok (.ireturn, 1) := by decide +kernel
theorem dX4_isBetterName_0 : decode cX4_isBetterName 0 = .ok (.aload_n 0, 1) := by decide +kernel
theorem dX4_isBetterName_1 : decode cX4_isBetterName 1 = .ok (.getfield 27, 3) := by decide +kernel
theorem dX4_isBetterName_4 : decode cX4_isBetterName 4 = .ok (.iload_n 1, 1) := by decide +kernel
theorem dX4_isBetterName_5 : decode cX4_isBetterName 5 = .ok (.iaload, 1) := by decide +kernel
theorem dX4_isBetterName_6 : decode cX4_isBetterName 6 = .ok (.aload_n 0, 1) := by decide +kernel
theorem dX4_isBetterName_7 : decode cX4_isBetterName 7 = .ok (.getfield 27, 3) := by decide +kernel
theorem dX4_isBetterName_10 : decode cX4_isBetterName 10 = .ok (.iload_n 2, 1) := by decide +kernel
theorem dX4_isBetterName_11 : decode cX4_isBetterName 11 = .ok (.iaload, 1) := by decide +kernel
theorem dX4_isBetterName_12 : decode cX4_isBetterName 12 = .ok (.if_icmp .eq 26, 3) := by decide +kernel
theorem dX4_isBetterName_15 : decode cX4_isBetterName 15 = .ok (.aload_n 0, 1) := by decide +kernel
theorem dX4_isBetterName_16 : decode cX4_isBetterName 16 = .ok (.getfield 27, 3) := by decide +kernel
theorem dX4_isBetterName_19 : decode cX4_isBetterName 19 = .ok (.iload_n 1, 1) := by decide +kernel
theorem dX4_isBetterName_20 : decode cX4_isBetterName 20 = .ok (.iaload, 1) := by decide +kernel
theorem dX4_isBetterName_21 : decode cX4_isBetterName 21 = .ok (.aload_n 0, 1) := by decide +kernel
theorem dX4_isBetterName_22 : decode cX4_isBetterName 22 = .ok (.getfield 27, 3) := by decide +kernel
theorem dX4_isBetterName_25 : decode cX4_isBetterName 25 = .ok (.iload_n 2, 1) := by decide +kernel
theorem dX4_isBetterName_26 : decode cX4_isBetterName 26 = .ok (.iaload, 1) := by decide +kernel
theorem dX4_isBetterName_27 : decode cX4_isBetterName 27 = .ok (.if_icmp .ge 7, 3) := by decide +kernel
theorem dX4_isBetterName_30 : decode cX4_isBetterName 30 = .ok (.iconst 1, 1) := by decide +kernel
theorem dX4_isBetterName_31 : decode cX4_isBetterName 31 = .ok (.goto 17, 3) := by decide +kernel
theorem dX4_isBetterName_34 : decode cX4_isBetterName 34 = .ok (.iconst 0, 1) := by decide +kernel
theorem dX4_isBetterName_35 : decode cX4_isBetterName 35 = .ok (.goto 13, 3) := by decide +kernel
theorem dX4_isBetterName_38 : decode cX4_isBetterName 38 = .ok (.iload_n 1, 1) := by decide +kernel
theorem dX4_isBetterName_39 : decode cX4_isBetterName 39 = .ok (.iload_n 2, 1) := by decide +kernel
theorem dX4_isBetterName_40 : decode cX4_isBetterName 40 = .ok (.if_icmp .ge 7, 3) := by decide +kernel
theorem dX4_isBetterName_43 : decode cX4_isBetterName 43 = .ok (.iconst 1, 1) := by decide +kernel
theorem dX4_isBetterName_44 : decode cX4_isBetterName 44 = .ok (.goto 4, 3) := by decide +kernel
theorem dX4_isBetterName_47 : decode cX4_isBetterName 47 = .ok (.iconst 0, 1) := by decide +kernel
theorem dX4_isBetterName_48 : decode cX4_isBetterName 48 = .ok (.ireturn, 1) := by decide +kernel
theorem dX4_putWire_0 : decode cX4_putWire 0 = .ok (.aload_n 0, 1) := by decide +kernel
theorem dX4_putWire_1 : decode cX4_putWire 1 = .ok (.getfield 9, 3) := by decide +kernel
theorem dX4_putWire_4 : decode cX4_putWire 4 = .ok (.iload_n 1, 1) := by decide +kernel
theorem dX4_putWire_5 : decode cX4_putWire 5 = .ok (.iload_n 2, 1) := by decide +kernel
theorem dX4_putWire_6 : decode cX4_putWire 6 = .ok (.iastore, 1) := by decide +kernel
theorem dX4_putWire_7 : decode cX4_putWire 7 = .ok (.aload_n 0, 1) := by decide +kernel
theorem dX4_putWire_8 : decode cX4_putWire 8 = .ok (.getfield 9, 3) := by decide +kernel
theorem dX4_putWire_11 : decode cX4_putWire 11 = .ok (.iload_n 2, 1) := by decide +kernel
theorem dX4_putWire_12 : decode cX4_putWire 12 = .ok (.iload_n 1, 1) := by decide +kernel
theorem dX4_putWire_13 : decode cX4_putWire 13 = .ok (.iastore, 1) := by decide +kernel
theorem dX4_putWire_14 : decode cX4_putWire 14 = .ok (.aload_n 0, 1) := by decide +kernel
theorem dX4_putWire_15 : decode cX4_putWire 15 = .ok (.getfield 15, 3) := by decide +kernel
theorem dX4_putWire_18 : decode cX4_putWire 18 = .ok (.iload_n 1, 1) := by decide +kernel
theorem dX4_putWire_19 : decode cX4_putWire 19 = .ok (.iload_n 3, 1) := by decide +kernel
theorem dX4_putWire_20 : decode cX4_putWire 20 = .ok (.iastore, 1) := by decide +kernel
theorem dX4_putWire_21 : decode cX4_putWire 21 = .ok (.aload_n 0, 1) := by decide +kernel
theorem dX4_putWire_22 : decode cX4_putWire 22 = .ok (.getfield 15, 3) := by decide +kernel
theorem dX4_putWire_25 : decode cX4_putWire 25 = .ok (.iload_n 2, 1) := by decide +kernel
theorem dX4_putWire_26 : decode cX4_putWire 26 = .ok (.iload_n 3, 1) := by decide +kernel
theorem dX4_putWire_27 : decode cX4_putWire 27 = .ok (.iastore, 1) := by decide +kernel
theorem dX4_putWire_28 : decode cX4_putWire 28 = .ok (.aload_n 0, 1) := by decide +kernel
theorem dX4_putWire_29 : decode cX4_putWire 29 = .ok (.dup, 1) := by decide +kernel
theorem dX4_putWire_30 : decode cX4_putWire 30 = .ok (.getfield 30, 3) := by decide +kernel
theorem dX4_putWire_33 : decode cX4_putWire 33 = .ok (.iconst 1, 1) := by decide +kernel
theorem dX4_putWire_34 : decode cX4_putWire 34 = .ok (.iadd, 1) := by decide +kernel
theorem dX4_putWire_35 : decode cX4_putWire 35 = .ok (.putfield 30, 3) := by decide +kernel
theorem dX4_putWire_38 : decode cX4_putWire 38 = .ok (.return_, 1) := by decide +kernel
theorem dX4_takeWire_0 : decode cX4_takeWire 0 = .ok (.aload_n 0, 1) := by decide +kernel
theorem dX4_takeWire_1 : decode cX4_takeWire 1 = .ok (.getfield 9, 3) := by decide +kernel
theorem dX4_takeWire_4 : decode cX4_takeWire 4 = .ok (.iload_n 1, 1) := by decide +kernel
theorem dX4_takeWire_5 : decode cX4_takeWire 5 = .ok (.iconst (-1), 1) := by decide +kernel
theorem dX4_takeWire_6 : decode cX4_takeWire 6 = .ok (.iastore, 1) := by decide +kernel
theorem dX4_takeWire_7 : decode cX4_takeWire 7 = .ok (.aload_n 0, 1) := by decide +kernel
theorem dX4_takeWire_8 : decode cX4_takeWire 8 = .ok (.getfield 9, 3) := by decide +kernel
theorem dX4_takeWire_11 : decode cX4_takeWire 11 = .ok (.iload_n 2, 1) := by decide +kernel
theorem dX4_takeWire_12 : decode cX4_takeWire 12 = .ok (.iconst (-1), 1) := by decide +kernel
theorem dX4_takeWire_13 : decode cX4_takeWire 13 = .ok (.iastore, 1) := by decide +kernel
theorem dX4_takeWire_14 : decode cX4_takeWire 14 = .ok (.aload_n 0, 1) := by decide +kernel
theorem dX4_takeWire_15 : decode cX4_takeWire 15 = .ok (.dup, 1) := by decide +kernel
theorem dX4_takeWire_16 : decode cX4_takeWire 16 = .ok (.getfield 30, 3) := by decide +kernel
theorem dX4_takeWire_19 : decode cX4_takeWire 19 = .ok (.iconst 1, 1) := by decide +kernel
theorem dX4_takeWire_20 : decode cX4_takeWire 20 = .ok (.isub, 1) := by decide +kernel
theorem dX4_takeWire_21 : decode cX4_takeWire 21 = .ok (.putfield 30, 3) := by decide +kernel
theorem dX4_takeWire_24 : decode cX4_takeWire 24 = .ok (.return_, 1) := by decide +kernel
theorem dX4_putHouse_0 : decode cX4_putHouse 0 = .ok (.aload_n 0, 1) := by decide +kernel
theorem dX4_putHouse_1 : decode cX4_putHouse 1 = .ok (.getfield 18, 3) := by decide +kernel
theorem dX4_putHouse_4 : decode cX4_putHouse 4 = .ok (.iload_n 1, 1) := by decide +kernel
theorem dX4_putHouse_5 : decode cX4_putHouse 5 = .ok (.iload_n 2, 1) := by decide +kernel
theorem dX4_putHouse_6 : decode cX4_putHouse 6 = .ok (.iastore, 1) := by decide +kernel
theorem dX4_putHouse_7 : decode cX4_putHouse 7 = .ok (.aload_n 0, 1) := by decide +kernel
theorem dX4_putHouse_8 : decode cX4_putHouse 8 = .ok (.getfield 24, 3) := by decide +kernel
theorem dX4_putHouse_11 : decode cX4_putHouse 11 = .ok (.iload_n 2, 1) := by decide +kernel
theorem dX4_putHouse_12 : decode cX4_putHouse 12 = .ok (.iload_n 1, 1) := by decide +kernel
theorem dX4_putHouse_13 : decode cX4_putHouse 13 = .ok (.iastore, 1) := by decide +kernel
theorem dX4_putHouse_14 : decode cX4_putHouse 14 = .ok (.aload_n 0, 1) := by decide +kernel
theorem dX4_putHouse_15 : decode cX4_putHouse 15 = .ok (.dup, 1) := by decide +kernel
theorem dX4_putHouse_16 : decode cX4_putHouse 16 = .ok (.getfield 34, 3) := by decide +kernel
theorem dX4_putHouse_19 : decode cX4_putHouse 19 = .ok (.iconst 1, 1) := by decide +kernel
theorem dX4_putHouse_20 : decode cX4_putHouse 20 = .ok (.iadd, 1) := by decide +kernel
theorem dX4_putHouse_21 : decode cX4_putHouse 21 = .ok (.putfield 34, 3) := by decide +kernel
theorem dX4_putHouse_24 : decode cX4_putHouse 24 = .ok (.return_, 1) := by decide +kernel
theorem dX4_takeHouse_0 : decode cX4_takeHouse 0 = .ok (.aload_n 0, 1) := by decide +kernel
theorem dX4_takeHouse_1 : decode cX4_takeHouse 1 = .ok (.getfield 18, 3) := by decide +kernel
theorem dX4_takeHouse_4 : decode cX4_takeHouse 4 = .ok (.iload_n 1, 1) := by decide +kernel
theorem dX4_takeHouse_5 : decode cX4_takeHouse 5 = .ok (.iaload, 1) := by decide +kernel
theorem dX4_takeHouse_6 : decode cX4_takeHouse 6 = .ok (.istore_n 2, 1) := by decide +kernel
theorem dX4_takeHouse_7 : decode cX4_takeHouse 7 = .ok (.aload_n 0, 1) := by decide +kernel
theorem dX4_takeHouse_8 : decode cX4_takeHouse 8 = .ok (.getfield 18, 3) := by decide +kernel
theorem dX4_takeHouse_11 : decode cX4_takeHouse 11 = .ok (.iload_n 1, 1) := by decide +kernel
theorem dX4_takeHouse_12 : decode cX4_takeHouse 12 = .ok (.iconst (-1), 1) := by decide +kernel
theorem dX4_takeHouse_13 : decode cX4_takeHouse 13 = .ok (.iastore, 1) := by decide +kernel
theorem dX4_takeHouse_14 : decode cX4_takeHouse 14 = .ok (.iload_n 2, 1) := by decide +kernel
theorem dX4_takeHouse_15 : decode cX4_takeHouse 15 = .ok (.iconst (-1), 1) := by decide +kernel
theorem dX4_takeHouse_16 : decode cX4_takeHouse 16 = .ok (.if_icmp .eq 20, 3) := by decide +kernel
theorem dX4_takeHouse_19 : decode cX4_takeHouse 19 = .ok (.aload_n 0, 1) := by decide +kernel
theorem dX4_takeHouse_20 : decode cX4_takeHouse 20 = .ok (.getfield 24, 3) := by decide +kernel
theorem dX4_takeHouse_23 : decode cX4_takeHouse 23 = .ok (.iload_n 2, 1) := by decide +kernel
theorem dX4_takeHouse_24 : decode cX4_takeHouse 24 = .ok (.iconst (-1), 1) := by decide +kernel
theorem dX4_takeHouse_25 : decode cX4_takeHouse 25 = .ok (.iastore, 1) := by decide +kernel
theorem dX4_takeHouse_26 : decode cX4_takeHouse 26 = .ok (.aload_n 0, 1) := by decide +kernel
theorem dX4_takeHouse_27 : decode cX4_takeHouse 27 = .ok (.dup, 1) := by decide +kernel
theorem dX4_takeHouse_28 : decode cX4_takeHouse 28 = .ok (.getfield 34, 3) := by decide +kernel
theorem dX4_takeHouse_31 : decode cX4_takeHouse 31 = .ok (.iconst 1, 1) := by decide +kernel
theorem dX4_takeHouse_32 : decode cX4_takeHouse 32 = .ok (.isub, 1) := by decide +kernel
theorem dX4_takeHouse_33 : decode cX4_takeHouse 33 = .ok (.putfield 34, 3) := by decide +kernel
theorem dX4_takeHouse_36 : decode cX4_takeHouse 36 = .ok (.iload_n 2, 1) := by decide +kernel
theorem dX4_takeHouse_37 : decode cX4_takeHouse 37 = .ok (.ireturn, 1) := by decide +kernel
set_option maxRecDepth 20000 in
theorem ggX5_init_X4_init : GoodIn wsX5_init wsX4_init := goodIn_r _ [32, 33, 2, 3, 25, 34, 35, 36, 37, 38, 39, 80, 81, 82, 83, 84, 85, 86, 87] (by decide +kernel) (by decide +kernel)
set_option maxRecDepth 20000 in
theorem gX5_init_X4_init : GoodIn wsX5_init (wsX4_init) := ggX5_init_X4_init
set_option maxRecDepth 20000 in
theorem ggX5_init_X3_init : GoodIn wsX5_init wsX3_init := goodIn_r _ [42, 43, 2, 3, 25, 44, 45, 46, 47, 48, 49, 50, 51, 52, 53, 54, 55, 56, 57, 58, 59, 98, 99, 100, 101, 102, 103, 104, 105, 106, 107, 108, 109, 110, 111, 112, 113] (by decide +kernel) (by decide +kernel)
set_option maxRecDepth 20000 in
theorem gX5_init_X3_init : GoodIn wsX5_init (wsX3_init) := ggX5_init_X3_init
set_option maxRecDepth 20000 in
theorem ggX5_init_X0_init : GoodIn wsX5_init wsX0_init := goodIn_r _ [62, 63, 2, 3, 25, 64, 65, 114, 115] (by decide +kernel) (by decide +kernel)
set_option maxRecDepth 20000 in
theorem gX5_init_X0_init : GoodIn wsX5_init (wsX0_init) := ggX5_init_X0_init
set_option maxRecDepth 20000 in
theorem ggX5_init_X2_init : GoodIn wsX5_init wsX2_init := goodIn_r _ [68, 69, 2, 3, 25, 70, 71, 72, 116, 117, 118] (by decide +kernel) (by decide +kernel)
set_option maxRecDepth 20000 in
theorem gX5_init_X2_init : GoodIn wsX5_init (wsX2_init) := ggX5_init_X2_init
set_option maxRecDepth 20000 in
theorem ggX5_init_X1_init : GoodIn wsX5_init wsX1_init := goodIn_r _ [74, 75, 2, 3, 25, 76, 77, 78, 79, 119, 120, 121, 122, 123] (by decide +kernel) (by decide +kernel)
set_option maxRecDepth 20000 in
theorem gX5_init_X1_init_n44 : GoodIn wsX5_init (wsX1_init) := ggX5_init_X1_init
theorem dX5_init_0 : decode cX5_init 0 = .ok (.aload_n 0, 1) := by decide +kernel
theorem dX5_init_1 : decode cX5_init 1 = .ok (.invokespecial 3, 3) := by decide +kernel
theorem dX5_init_4 : decode cX5_init 4 = .ok (.new 9, 3) := by decide +kernel
theorem dX5_init_7 : decode cX5_init 7 = .ok (.dup, 1) := by decide +kernel
theorem dX5_init_8 : decode cX5_init 8 = .ok (.invokespecial 11, 3) := by decide +kernel
theorem dX5_init_11 : decode cX5_init 11 = .ok (.astore_n 1, 1) := by decide +kernel
theorem dX5_init_12 : decode cX5_init 12 = .ok (.aload_n 0, 1) := by decide +kernel
theorem dX5_init_13 : decode cX5_init 13 = .ok (.aload_n 1, 1) := by decide +kernel
theorem dX5_init_14 : decode cX5_init 14 = .ok (.putfield 12, 3) := by decide +kernel
theorem dX5_init_17 : decode cX5_init 17 = .ok (.aload_n 0, 1) := by decide +kernel
theorem dX5_init_18 : decode cX5_init 18 = .ok (.new 16, 3) := by decide +kernel
theorem dX5_init_21 : decode cX5_init 21 = .ok (.dup, 1) := by decide +kernel
theorem dX5_init_22 : decode cX5_init 22 = .ok (.aload_n 1, 1) := by decide +kernel
theorem dX5_init_23 : decode cX5_init 23 = .ok (.invokespecial 18, 3) := by decide +kernel
theorem dX5_init_26 : decode cX5_init 26 = .ok (.putfield 21, 3) := by decide +kernel
theorem dX5_init_29 : decode cX5_init 29 = .ok (.aload_n 0, 1) := by decide +kernel
theorem dX5_init_30 : decode cX5_init 30 = .ok (.new 16, 3) := by decide +kernel
theorem dX5_init_33 : decode cX5_init 33 = .ok (.dup, 1) := by decide +kernel
theorem dX5_init_34 : decode cX5_init 34 = .ok (.aload_n 1, 1) := by decide +kernel
theorem dX5_init_35 : decode cX5_init 35 = .ok (.invokespecial 18, 3) := by decide +kernel
theorem dX5_init_38 : decode cX5_init 38 = .ok (.putfield 25, 3) := by decide +kernel
theorem dX5_init_41 : decode cX5_init 41 = .ok (.aload_n 0, 1) := by decide +kernel
theorem dX5_init_42 : decode cX5_init 42 = .ok (.new 28, 3) := by decide +kernel
theorem dX5_init_45 : decode cX5_init 45 = .ok (.dup, 1) := by decide +kernel
theorem dX5_init_46 : decode cX5_init 46 = .ok (.invokespecial 30, 3) := by decide +kernel
theorem dX5_init_49 : decode cX5_init 49 = .ok (.putfield 31, 3) := by decide +kernel
theorem dX5_init_52 : decode cX5_init 52 = .ok (.aload_n 0, 1) := by decide +kernel
theorem dX5_init_53 : decode cX5_init 53 = .ok (.new 35, 3) := by decide +kernel
theorem dX5_init_56 : decode cX5_init 56 = .ok (.dup, 1) := by decide +kernel
theorem dX5_init_57 : decode cX5_init 57 = .ok (.invokespecial 37, 3) := by decide +kernel
theorem dX5_init_60 : decode cX5_init 60 = .ok (.putfield 38, 3) := by decide +kernel
theorem dX5_init_63 : decode cX5_init 63 = .ok (.aload_n 0, 1) := by decide +kernel
theorem dX5_init_64 : decode cX5_init 64 = .ok (.new 42, 3) := by decide +kernel
theorem dX5_init_67 : decode cX5_init 67 = .ok (.dup, 1) := by decide +kernel
theorem dX5_init_68 : decode cX5_init 68 = .ok (.invokespecial 44, 3) := by decide +kernel
theorem dX5_init_71 : decode cX5_init 71 = .ok (.putfield 45, 3) := by decide +kernel
theorem dX5_init_74 : decode cX5_init 74 = .ok (.aload_n 0, 1) := by decide +kernel
theorem dX5_init_75 : decode cX5_init 75 = .ok (.bipush 30, 2) := by decide +kernel
theorem dX5_init_77 : decode cX5_init 77 = .ok (.newarray .int, 2) := by decide +kernel
theorem dX5_init_79 : decode cX5_init 79 = .ok (.putfield 49, 3) := by decide +kernel
theorem dX5_init_82 : decode cX5_init 82 = .ok (.aload_n 0, 1) := by decide +kernel
theorem dX5_init_83 : decode cX5_init 83 = .ok (.bipush 10, 2) := by decide +kernel
theorem dX5_init_85 : decode cX5_init 85 = .ok (.newarray .int, 2) := by decide +kernel
theorem dX5_init_87 : decode cX5_init 87 = .ok (.putfield 53, 3) := by decide +kernel
theorem dX5_init_90 : decode cX5_init 90 = .ok (.aload_n 0, 1) := by decide +kernel
theorem dX5_init_91 : decode cX5_init 91 = .ok (.bipush 10, 2) := by decide +kernel
theorem dX5_init_93 : decode cX5_init 93 = .ok (.newarray .int, 2) := by decide +kernel
theorem dX5_init_95 : decode cX5_init 95 = .ok (.putfield 56, 3) := by decide +kernel
theorem dX5_init_98 : decode cX5_init 98 = .ok (.aload_n 0, 1) := by decide +kernel
theorem dX5_init_99 : decode cX5_init 99 = .ok (.bipush 20, 2) := by decide +kernel
theorem dX5_init_101 : decode cX5_init 101 = .ok (.putfield 59, 3) := by decide +kernel
theorem dX5_init_104 : decode cX5_init 104 = .ok (.return_, 1) := by decide +kernel
set_option maxRecDepth 20000 in
theorem ggX5_wire_X5_needPort : GoodIn wsX5_wire wsX5_needPort := goodIn_ca (goodIn_r _ [10, 11, 12, 13, 14, 9, 15] (by decide +kernel) (by decide +kernel)) (goodIn_sub (fun _ h => List.mem_cons_of_mem _ (List.mem_append_right _ h)) (by decide +kernel))
set_option maxRecDepth 20000 in
theorem gX5_wire_X5_needPort : GoodIn wsX5_wire (va_wsS RX5 63 yX5_needPort wsX5_needPort) := goodIn_app (goodIn_of _ (by decide +kernel)) ggX5_wire_X5_needPort
set_option maxRecDepth 20000 in
theorem ggX5_wire_X5_needWithin : GoodIn wsX5_wire wsX5_needWithin := goodIn_ca (goodIn_r _ [18, 1, 2] (by decide +kernel) (by decide +kernel)) (goodIn_sub (fun _ h => List.mem_cons_of_mem _ (List.mem_append_left _ (List.mem_append_left _ (List.mem_append_right _ h)))) (by decide +kernel))
set_option maxRecDepth 20000 in
theorem gX5_wire_X5_needWithin : GoodIn wsX5_wire (va_wsS RX5 74 yX5_needWithin wsX5_needWithin) := goodIn_app (goodIn_of _ (by decide +kernel)) ggX5_wire_X5_needWithin
set_option maxRecDepth 20000 in
theorem ggX5_wire_X5_spotOf : GoodIn wsX5_wire wsX5_spotOf := goodIn_r _ [21] (by decide +kernel) (by decide +kernel)
set_option maxRecDepth 20000 in
theorem gX5_wire_X5_spotOf : GoodIn wsX5_wire (va_wsS RX5 78 yX5_spotOf wsX5_spotOf) := goodIn_app (goodIn_of _ (by decide +kernel)) ggX5_wire_X5_spotOf
set_option maxRecDepth 20000 in
theorem ggX5_wire_X4_isBare : GoodIn wsX5_wire wsX4_isBare := goodIn_r _ [26, 27, 28, 45, 46, 47, 48, 49, 50, 51, 52] (by decide +kernel) (by decide +kernel)
set_option maxRecDepth 20000 in
theorem gX5_wire_X4_isBare : GoodIn wsX5_wire (wsV RX5 82 RX4 yX4_isBare wsX4_isBare) := goodIn_app (goodIn_of _ (by decide +kernel)) ggX5_wire_X4_isBare
set_option maxRecDepth 20000 in
theorem ggX5_wire_X4_putWire : GoodIn wsX5_wire wsX4_putWire := goodIn_r _ [32, 27, 33, 34, 45, 46, 47, 48, 49, 50, 51, 52] (by decide +kernel) (by decide +kernel)
set_option maxRecDepth 20000 in
theorem gX5_wire_X4_putWire : GoodIn wsX5_wire (wsV RX5 91 RX4 yX4_putWire wsX4_putWire) := goodIn_app (goodIn_of _ (by decide +kernel)) ggX5_wire_X4_putWire
theorem dX5_wire_0 : decode cX5_wire 0 = .ok (.iload_n 1, 1) := by decide +kernel
theorem dX5_wire_1 : decode cX5_wire 1 = .ok (.iload_n 2, 1) := by decide +kernel
theorem dX5_wire_2 : decode cX5_wire 2 = .ok (.invokestatic 63, 3) := by decide +kernel
theorem dX5_wire_5 : decode cX5_wire 5 = .ok (.iload_n 3, 1) := by decide +kernel
theorem dX5_wire_6 : decode cX5_wire 6 = .ok (.iload 4, 2) := by decide +kernel
theorem dX5_wire_8 : decode cX5_wire 8 = .ok (.invokestatic 63, 3) := by decide +kernel
theorem dX5_wire_11 : decode cX5_wire 11 = .ok (.iload_n 1, 1) := by decide +kernel
theorem dX5_wire_12 : decode cX5_wire 12 = .ok (.iload_n 3, 1) := by decide +kernel
theorem dX5_wire_13 : decode cX5_wire 13 = .ok (.if_icmp .ne 13, 3) := by decide +kernel
theorem dX5_wire_16 : decode cX5_wire 16 = .ok (.new 67, 3) := by decide +kernel
theorem dX5_wire_19 : decode cX5_wire 19 = .ok (.dup, 1) := by decide +kernel
theorem dX5_wire_20 : decode cX5_wire 20 = .ok (.ldc 69, 2) := by decide +kernel
theorem dX5_wire_22 : decode cX5_wire 22 = .ok (.invokespecial 71, 3) := by decide +kernel
theorem dX5_wire_25 : decode cX5_wire 25 = .ok (.athrow, 1) := by decide +kernel
theorem dX5_wire_26 : decode cX5_wire 26 = .ok (.iload 5, 2) := by decide +kernel
theorem dX5_wire_28 : decode cX5_wire 28 = .ok (.iconst 1, 1) := by decide +kernel
theorem dX5_wire_29 : decode cX5_wire 29 = .ok (.bipush 100, 2) := by decide +kernel
theorem dX5_wire_31 : decode cX5_wire 31 = .ok (.invokestatic 74, 3) := by decide +kernel
theorem dX5_wire_34 : decode cX5_wire 34 = .ok (.iload_n 1, 1) := by decide +kernel
theorem dX5_wire_35 : decode cX5_wire 35 = .ok (.iload_n 2, 1) := by decide +kernel
theorem dX5_wire_36 : decode cX5_wire 36 = .ok (.invokestatic 78, 3) := by decide +kernel
theorem dX5_wire_39 : decode cX5_wire 39 = .ok (.istore 6, 2) := by decide +kernel
theorem dX5_wire_41 : decode cX5_wire 41 = .ok (.iload_n 3, 1) := by decide +kernel
theorem dX5_wire_42 : decode cX5_wire 42 = .ok (.iload 4, 2) := by decide +kernel
theorem dX5_wire_44 : decode cX5_wire 44 = .ok (.invokestatic 78, 3) := by decide +kernel
theorem dX5_wire_47 : decode cX5_wire 47 = .ok (.istore 7, 2) := by decide +kernel
theorem dX5_wire_49 : decode cX5_wire 49 = .ok (.aload_n 0, 1) := by decide +kernel
theorem dX5_wire_50 : decode cX5_wire 50 = .ok (.getfield 12, 3) := by decide +kernel
theorem dX5_wire_53 : decode cX5_wire 53 = .ok (.iload 6, 2) := by decide +kernel
theorem dX5_wire_55 : decode cX5_wire 55 = .ok (.invokevirtual 82, 3) := by decide +kernel
theorem dX5_wire_58 : decode cX5_wire 58 = .ok (.ifCond .eq 15, 3) := by decide +kernel
theorem dX5_wire_61 : decode cX5_wire 61 = .ok (.aload_n 0, 1) := by decide +kernel
theorem dX5_wire_62 : decode cX5_wire 62 = .ok (.getfield 12, 3) := by decide +kernel
theorem dX5_wire_65 : decode cX5_wire 65 = .ok (.iload 7, 2) := by decide +kernel
theorem dX5_wire_67 : decode cX5_wire 67 = .ok (.invokevirtual 82, 3) := by decide +kernel
theorem dX5_wire_70 : decode cX5_wire 70 = .ok (.ifCond .ne 13, 3) := by decide +kernel
theorem dX5_wire_73 : decode cX5_wire 73 = .ok (.new 86, 3) := by decide +kernel
theorem dX5_wire_76 : decode cX5_wire 76 = .ok (.dup, 1) := by decide +kernel
theorem dX5_wire_77 : decode cX5_wire 77 = .ok (.ldc 88, 2) := by decide +kernel
theorem dX5_wire_79 : decode cX5_wire 79 = .ok (.invokespecial 90, 3) := by decide +kernel
theorem dX5_wire_82 : decode cX5_wire 82 = .ok (.athrow, 1) := by decide +kernel
theorem dX5_wire_83 : decode cX5_wire 83 = .ok (.aload_n 0, 1) := by decide +kernel
theorem dX5_wire_84 : decode cX5_wire 84 = .ok (.getfield 12, 3) := by decide +kernel
theorem dX5_wire_87 : decode cX5_wire 87 = .ok (.iload 6, 2) := by decide +kernel
theorem dX5_wire_89 : decode cX5_wire 89 = .ok (.iload 7, 2) := by decide +kernel
theorem dX5_wire_91 : decode cX5_wire 91 = .ok (.iload 5, 2) := by decide +kernel
theorem dX5_wire_93 : decode cX5_wire 93 = .ok (.invokevirtual 91, 3) := by decide +kernel
theorem dX5_wire_96 : decode cX5_wire 96 = .ok (.aload_n 0, 1) := by decide +kernel
theorem dX5_wire_97 : decode cX5_wire 97 = .ok (.getfield 12, 3) := by decide +kernel
theorem dX5_wire_100 : decode cX5_wire 100 = .ok (.getfield 94, 3) := by decide +kernel
theorem dX5_wire_103 : decode cX5_wire 103 = .ok (.ireturn, 1) := by decide +kernel
set_option maxRecDepth 20000 in
theorem ggX5_free_X5_needPort : GoodIn wsX5_free wsX5_needPort := goodIn_ca (goodIn_r _ [8, 9, 10, 11, 12, 7, 13] (by decide +kernel) (by decide +kernel)) (goodIn_sub (fun _ h => List.mem_cons_of_mem _ (List.mem_append_right _ h)) (by decide +kernel))
set_option maxRecDepth 20000 in
theorem gX5_free_X5_needPort : GoodIn wsX5_free (va_wsS RX5 63 yX5_needPort wsX5_needPort) := goodIn_app (goodIn_of _ (by decide +kernel)) ggX5_free_X5_needPort
set_option maxRecDepth 20000 in
theorem ggX5_free_X5_spotOf : GoodIn wsX5_free wsX5_spotOf := goodIn_r _ [16] (by decide +kernel) (by decide +kernel)
set_option maxRecDepth 20000 in
theorem gX5_free_X5_spotOf : GoodIn wsX5_free (va_wsS RX5 78 yX5_spotOf wsX5_spotOf) := goodIn_app (goodIn_of _ (by decide +kernel)) ggX5_free_X5_spotOf
set_option maxRecDepth 20000 in
theorem ggX5_free_X4_isBare : GoodIn wsX5_free wsX4_isBare := goodIn_r _ [21, 22, 23, 70, 71, 72, 73, 74, 75, 76, 77] (by decide +kernel) (by decide +kernel)
set_option maxRecDepth 20000 in
theorem gX5_free_X4_isBare : GoodIn wsX5_free (wsV RX5 82 RX4 yX4_isBare wsX4_isBare) := goodIn_app (goodIn_of _ (by decide +kernel)) ggX5_free_X4_isBare
set_option maxRecDepth 20000 in
theorem ggX5_free_X5_dropUse : GoodIn wsX5_free wsX5_dropUse := goodIn_r _ [27, 28, 29, 30, 31, 32, 33, 34, 35, 36, 37, 38, 39, 40, 41, 42, 43, 44, 45, 46, 47, 48, 60, 61, 62, 63, 64, 65, 66, 67, 68, 69, 78, 79, 80, 81, 82, 83, 84, 85, 86, 87, 88, 89, 90, 91, 92, 93, 94, 95, 96] (by decide +kernel) (by decide +kernel)
set_option maxRecDepth 20000 in
theorem gX5_free_X5_dropUse : GoodIn wsX5_free (wsV RX5 102 RX5 yX5_dropUse wsX5_dropUse) := goodIn_app (goodIn_of _ (by decide +kernel)) ggX5_free_X5_dropUse
set_option maxRecDepth 20000 in
theorem ggX5_free_X4_takeHouse : GoodIn wsX5_free wsX4_takeHouse := goodIn_r _ [52, 23, 53, 54, 70, 71, 72, 73, 74, 75, 76, 77] (by decide +kernel) (by decide +kernel)
set_option maxRecDepth 20000 in
theorem gX5_free_X4_takeHouse : GoodIn wsX5_free (wsV RX5 106 RX4 yX4_takeHouse wsX4_takeHouse) := goodIn_app (goodIn_of _ (by decide +kernel)) ggX5_free_X4_takeHouse
set_option maxRecDepth 20000 in
theorem ggX5_free_X4_takeWire : GoodIn wsX5_free wsX4_takeWire := goodIn_r _ [58, 22, 59, 70, 71, 72, 73, 74, 75, 76, 77] (by decide +kernel) (by decide +kernel)
set_option maxRecDepth 20000 in
theorem gX5_free_X4_takeWire : GoodIn wsX5_free (wsV RX5 110 RX4 yX4_takeWire wsX4_takeWire) := goodIn_app (goodIn_of _ (by decide +kernel)) ggX5_free_X4_takeWire
theorem dX5_free_0 : decode cX5_free 0 = .ok (.iload_n 1, 1) := by decide +kernel
theorem dX5_free_1 : decode cX5_free 1 = .ok (.iload_n 2, 1) := by decide +kernel
theorem dX5_free_2 : decode cX5_free 2 = .ok (.invokestatic 63, 3) := by decide +kernel
theorem dX5_free_5 : decode cX5_free 5 = .ok (.iload_n 1, 1) := by decide +kernel
theorem dX5_free_6 : decode cX5_free 6 = .ok (.iload_n 2, 1) := by decide +kernel
theorem dX5_free_7 : decode cX5_free 7 = .ok (.invokestatic 78, 3) := by decide +kernel
theorem dX5_free_10 : decode cX5_free 10 = .ok (.istore_n 3, 1) := by decide +kernel
theorem dX5_free_11 : decode cX5_free 11 = .ok (.aload_n 0, 1) := by decide +kernel
theorem dX5_free_12 : decode cX5_free 12 = .ok (.getfield 12, 3) := by decide +kernel
theorem dX5_free_15 : decode cX5_free 15 = .ok (.iload_n 3, 1) := by decide +kernel
theorem dX5_free_16 : decode cX5_free 16 = .ok (.invokevirtual 82, 3) := by decide +kernel
theorem dX5_free_19 : decode cX5_free 19 = .ok (.ifCond .eq 13, 3) := by decide +kernel
theorem dX5_free_22 : decode cX5_free 22 = .ok (.new 86, 3) := by decide +kernel
theorem dX5_free_25 : decode cX5_free 25 = .ok (.dup, 1) := by decide +kernel
theorem dX5_free_26 : decode cX5_free 26 = .ok (.ldc 97, 2) := by decide +kernel
theorem dX5_free_28 : decode cX5_free 28 = .ok (.invokespecial 90, 3) := by decide +kernel
theorem dX5_free_31 : decode cX5_free 31 = .ok (.athrow, 1) := by decide +kernel
theorem dX5_free_32 : decode cX5_free 32 = .ok (.aload_n 0, 1) := by decide +kernel
theorem dX5_free_33 : decode cX5_free 33 = .ok (.getfield 12, 3) := by decide +kernel
theorem dX5_free_36 : decode cX5_free 36 = .ok (.getfield 99, 3) := by decide +kernel
theorem dX5_free_39 : decode cX5_free 39 = .ok (.iload_n 3, 1) := by decide +kernel
theorem dX5_free_40 : decode cX5_free 40 = .ok (.iaload, 1) := by decide +kernel
theorem dX5_free_41 : decode cX5_free 41 = .ok (.istore 4, 2) := by decide +kernel
theorem dX5_free_43 : decode cX5_free 43 = .ok (.iload 4, 2) := by decide +kernel
theorem dX5_free_45 : decode cX5_free 45 = .ok (.iconst (-1), 1) := by decide +kernel
theorem dX5_free_46 : decode cX5_free 46 = .ok (.if_icmp .ne 17, 3) := by decide +kernel
theorem dX5_free_49 : decode cX5_free 49 = .ok (.aload_n 0, 1) := by decide +kernel
theorem dX5_free_50 : decode cX5_free 50 = .ok (.iload_n 3, 1) := by decide +kernel
theorem dX5_free_51 : decode cX5_free 51 = .ok (.invokevirtual 102, 3) := by decide +kernel
theorem dX5_free_54 : decode cX5_free 54 = .ok (.aload_n 0, 1) := by decide +kernel
theorem dX5_free_55 : decode cX5_free 55 = .ok (.getfield 12, 3) := by decide +kernel
theorem dX5_free_58 : decode cX5_free 58 = .ok (.iload_n 3, 1) := by decide +kernel
theorem dX5_free_59 : decode cX5_free 59 = .ok (.invokevirtual 106, 3) := by decide +kernel
theorem dX5_free_62 : decode cX5_free 62 = .ok (.ireturn, 1) := by decide +kernel
theorem dX5_free_63 : decode cX5_free 63 = .ok (.aload_n 0, 1) := by decide +kernel
theorem dX5_free_64 : decode cX5_free 64 = .ok (.iload_n 3, 1) := by decide +kernel
theorem dX5_free_65 : decode cX5_free 65 = .ok (.invokevirtual 102, 3) := by decide +kernel
theorem dX5_free_68 : decode cX5_free 68 = .ok (.aload_n 0, 1) := by decide +kernel
theorem dX5_free_69 : decode cX5_free 69 = .ok (.iload 4, 2) := by decide +kernel
theorem dX5_free_71 : decode cX5_free 71 = .ok (.invokevirtual 102, 3) := by decide +kernel
theorem dX5_free_74 : decode cX5_free 74 = .ok (.aload_n 0, 1) := by decide +kernel
theorem dX5_free_75 : decode cX5_free 75 = .ok (.getfield 12, 3) := by decide +kernel
theorem dX5_free_78 : decode cX5_free 78 = .ok (.iload_n 3, 1) := by decide +kernel
theorem dX5_free_79 : decode cX5_free 79 = .ok (.iload 4, 2) := by decide +kernel
theorem dX5_free_81 : decode cX5_free 81 = .ok (.invokevirtual 110, 3) := by decide +kernel
theorem dX5_free_84 : decode cX5_free 84 = .ok (.iconst (-1), 1) := by decide +kernel
theorem dX5_free_85 : decode cX5_free 85 = .ok (.ireturn, 1) := by decide +kernel
set_option maxRecDepth 20000 in
theorem ggX5_house_X5_needPort : GoodIn wsX5_house wsX5_needPort := goodIn_ca (goodIn_r _ [10, 11, 12, 13, 14, 9, 15] (by decide +kernel) (by decide +kernel)) (goodIn_sub (fun _ h => List.mem_cons_of_mem _ (List.mem_append_right _ h)) (by decide +kernel))
set_option maxRecDepth 20000 in
theorem gX5_house_X5_needPort : GoodIn wsX5_house (va_wsS RX5 63 yX5_needPort wsX5_needPort) := goodIn_app (goodIn_of _ (by decide +kernel)) ggX5_house_X5_needPort
set_option maxRecDepth 20000 in
theorem ggX5_house_X5_needHouse : GoodIn wsX5_house wsX5_needHouse := goodIn_ca (goodIn_r _ [18, 11, 12] (by decide +kernel) (by decide +kernel)) (goodIn_sub (fun _ h => List.mem_cons_of_mem _ (List.mem_append_right _ h)) (by decide +kernel))
set_option maxRecDepth 20000 in
theorem gX5_house_X5_needHouse : GoodIn wsX5_house (va_wsS RX5 113 yX5_needHouse wsX5_needHouse) := goodIn_app (goodIn_of _ (by decide +kernel)) ggX5_house_X5_needHouse
set_option maxRecDepth 20000 in
theorem ggX5_house_X5_spotOf : GoodIn wsX5_house wsX5_spotOf := goodIn_r _ [21] (by decide +kernel) (by decide +kernel)
set_option maxRecDepth 20000 in
theorem gX5_house_X5_spotOf : GoodIn wsX5_house (va_wsS RX5 78 yX5_spotOf wsX5_spotOf) := goodIn_app (goodIn_of _ (by decide +kernel)) ggX5_house_X5_spotOf
set_option maxRecDepth 20000 in
theorem ggX5_house_X4_isBare : GoodIn wsX5_house wsX4_isBare := goodIn_r _ [26, 27, 28, 58, 59, 60, 61, 62, 63, 64, 65] (by decide +kernel) (by decide +kernel)
set_option maxRecDepth 20000 in
theorem gX5_house_X4_isBare : GoodIn wsX5_house (wsV RX5 82 RX4 yX4_isBare wsX4_isBare) := goodIn_app (goodIn_of _ (by decide +kernel)) ggX5_house_X4_isBare
set_option maxRecDepth 20000 in
theorem ggX5_house_X4_putHouse : GoodIn wsX5_house wsX4_putHouse := goodIn_r _ [32, 28, 33, 34, 58, 59, 60, 61, 62, 63, 64, 65] (by decide +kernel) (by decide +kernel)
set_option maxRecDepth 20000 in
theorem gX5_house_X4_putHouse : GoodIn wsX5_house (wsV RX5 121 RX4 yX4_putHouse wsX4_putHouse) := goodIn_app (goodIn_of _ (by decide +kernel)) ggX5_house_X4_putHouse
set_option maxRecDepth 20000 in
theorem ggX5_house_X3_openForHouse : GoodIn wsX5_house wsX3_openForHouse := goodIn_r _ [39, 40, 41, 42, 43, 44, 45, 38, 46, 47, 66, 67, 68, 69, 70, 71, 72, 73, 74, 75, 76, 77, 78, 79, 80, 81, 58, 59, 60, 61, 62, 63, 64, 65] (by decide +kernel) (by decide +kernel)
set_option maxRecDepth 20000 in
theorem gX5_house_X3_openForHouse : GoodIn wsX5_house (wsV RX5 124 RX3 yX3_openForHouse wsX3_openForHouse) := goodIn_app (goodIn_of _ (by decide +kernel)) ggX5_house_X3_openForHouse
theorem dX5_house_0 : decode cX5_house 0 = .ok (.iload_n 1, 1) := by decide +kernel
theorem dX5_house_1 : decode cX5_house 1 = .ok (.iload_n 2, 1) := by decide +kernel
theorem dX5_house_2 : decode cX5_house 2 = .ok (.invokestatic 63, 3) := by decide +kernel
theorem dX5_house_5 : decode cX5_house 5 = .ok (.iload_n 3, 1) := by decide +kernel
theorem dX5_house_6 : decode cX5_house 6 = .ok (.invokestatic 113, 3) := by decide +kernel
theorem dX5_house_9 : decode cX5_house 9 = .ok (.iload_n 1, 1) := by decide +kernel
theorem dX5_house_10 : decode cX5_house 10 = .ok (.iload_n 2, 1) := by decide +kernel
theorem dX5_house_11 : decode cX5_house 11 = .ok (.invokestatic 78, 3) := by decide +kernel
theorem dX5_house_14 : decode cX5_house 14 = .ok (.istore 4, 2) := by decide +kernel
theorem dX5_house_16 : decode cX5_house 16 = .ok (.aload_n 0, 1) := by decide +kernel
theorem dX5_house_17 : decode cX5_house 17 = .ok (.getfield 12, 3) := by decide +kernel
theorem dX5_house_20 : decode cX5_house 20 = .ok (.iload 4, 2) := by decide +kernel
theorem dX5_house_22 : decode cX5_house 22 = .ok (.invokevirtual 82, 3) := by decide +kernel
theorem dX5_house_25 : decode cX5_house 25 = .ok (.ifCond .eq 16, 3) := by decide +kernel
theorem dX5_house_28 : decode cX5_house 28 = .ok (.aload_n 0, 1) := by decide +kernel
theorem dX5_house_29 : decode cX5_house 29 = .ok (.getfield 12, 3) := by decide +kernel
theorem dX5_house_32 : decode cX5_house 32 = .ok (.getfield 116, 3) := by decide +kernel
theorem dX5_house_35 : decode cX5_house 35 = .ok (.iload_n 3, 1) := by decide +kernel
theorem dX5_house_36 : decode cX5_house 36 = .ok (.iaload, 1) := by decide +kernel
theorem dX5_house_37 : decode cX5_house 37 = .ok (.iconst (-1), 1) := by decide +kernel
theorem dX5_house_38 : decode cX5_house 38 = .ok (.if_icmp .eq 13, 3) := by decide +kernel
theorem dX5_house_41 : decode cX5_house 41 = .ok (.new 86, 3) := by decide +kernel
theorem dX5_house_44 : decode cX5_house 44 = .ok (.dup, 1) := by decide +kernel
theorem dX5_house_45 : decode cX5_house 45 = .ok (.ldc 119, 2) := by decide +kernel
theorem dX5_house_47 : decode cX5_house 47 = .ok (.invokespecial 90, 3) := by decide +kernel
theorem dX5_house_50 : decode cX5_house 50 = .ok (.athrow, 1) := by decide +kernel
theorem dX5_house_51 : decode cX5_house 51 = .ok (.aload_n 0, 1) := by decide +kernel
theorem dX5_house_52 : decode cX5_house 52 = .ok (.getfield 12, 3) := by decide +kernel
theorem dX5_house_55 : decode cX5_house 55 = .ok (.iload 4, 2) := by decide +kernel
theorem dX5_house_57 : decode cX5_house 57 = .ok (.iload_n 3, 1) := by decide +kernel
theorem dX5_house_58 : decode cX5_house 58 = .ok (.invokevirtual 121, 3) := by decide +kernel
theorem dX5_house_61 : decode cX5_house 61 = .ok (.aload_n 0, 1) := by decide +kernel
theorem dX5_house_62 : decode cX5_house 62 = .ok (.getfield 21, 3) := by decide +kernel
theorem dX5_house_65 : decode cX5_house 65 = .ok (.iload 4, 2) := by decide +kernel
theorem dX5_house_67 : decode cX5_house 67 = .ok (.invokevirtual 124, 3) := by decide +kernel
theorem dX5_house_70 : decode cX5_house 70 = .ok (.aload_n 0, 1) := by decide +kernel
theorem dX5_house_71 : decode cX5_house 71 = .ok (.getfield 12, 3) := by decide +kernel
theorem dX5_house_74 : decode cX5_house 74 = .ok (.getfield 127, 3) := by decide +kernel
theorem dX5_house_77 : decode cX5_house 77 = .ok (.ireturn, 1) := by decide +kernel
set_option maxRecDepth 20000 in
theorem ggX5_rank_X5_needSwitch : GoodIn wsX5_rank wsX5_needSwitch := goodIn_ca (goodIn_r _ [6, 7, 8] (by decide +kernel) (by decide +kernel)) (goodIn_sub (fun _ h => List.mem_cons_of_mem _ (List.mem_append_left _ (List.mem_append_right _ h))) (by decide +kernel))
set_option maxRecDepth 20000 in
theorem gX5_rank_X5_needSwitch : GoodIn wsX5_rank (va_wsS RX5 130 yX5_needSwitch wsX5_needSwitch) := goodIn_app (goodIn_of _ (by decide +kernel)) ggX5_rank_X5_needSwitch
set_option maxRecDepth 20000 in
theorem ggX5_rank_X5_needWithin : GoodIn wsX5_rank wsX5_needWithin := goodIn_ca (goodIn_r _ [11, 12, 13] (by decide +kernel) (by decide +kernel)) (goodIn_sub (fun _ h => List.mem_cons_of_mem _ (List.mem_append_right _ h)) (by decide +kernel))
set_option maxRecDepth 20000 in
theorem gX5_rank_X5_needWithin : GoodIn wsX5_rank (va_wsS RX5 74 yX5_needWithin wsX5_needWithin) := goodIn_app (goodIn_of _ (by decide +kernel)) ggX5_rank_X5_needWithin
theorem dX5_rank_0 : decode cX5_rank 0 = .ok (.iload_n 1, 1) := by decide +kernel
theorem dX5_rank_1 : decode cX5_rank 1 = .ok (.invokestatic 130, 3) := by decide +kernel
theorem dX5_rank_4 : decode cX5_rank 4 = .ok (.iload_n 2, 1) := by decide +kernel
theorem dX5_rank_5 : decode cX5_rank 5 = .ok (.iconst 0, 1) := by decide +kernel
theorem dX5_rank_6 : decode cX5_rank 6 = .ok (.bipush 15, 2) := by decide +kernel
theorem dX5_rank_8 : decode cX5_rank 8 = .ok (.invokestatic 74, 3) := by decide +kernel
theorem dX5_rank_11 : decode cX5_rank 11 = .ok (.aload_n 0, 1) := by decide +kernel
theorem dX5_rank_12 : decode cX5_rank 12 = .ok (.getfield 12, 3) := by decide +kernel
theorem dX5_rank_15 : decode cX5_rank 15 = .ok (.getfield 133, 3) := by decide +kernel
theorem dX5_rank_18 : decode cX5_rank 18 = .ok (.iload_n 1, 1) := by decide +kernel
theorem dX5_rank_19 : decode cX5_rank 19 = .ok (.iaload, 1) := by decide +kernel
theorem dX5_rank_20 : decode cX5_rank 20 = .ok (.istore_n 3, 1) := by decide +kernel
theorem dX5_rank_21 : decode cX5_rank 21 = .ok (.aload_n 0, 1) := by decide +kernel
theorem dX5_rank_22 : decode cX5_rank 22 = .ok (.getfield 12, 3) := by decide +kernel
theorem dX5_rank_25 : decode cX5_rank 25 = .ok (.getfield 133, 3) := by decide +kernel
theorem dX5_rank_28 : decode cX5_rank 28 = .ok (.iload_n 1, 1) := by decide +kernel
theorem dX5_rank_29 : decode cX5_rank 29 = .ok (.iload_n 2, 1) := by decide +kernel
theorem dX5_rank_30 : decode cX5_rank 30 = .ok (.iastore, 1) := by decide +kernel
theorem dX5_rank_31 : decode cX5_rank 31 = .ok (.iload_n 3, 1) := by decide +kernel
theorem dX5_rank_32 : decode cX5_rank 32 = .ok (.ireturn, 1) := by decide +kernel
set_option maxRecDepth 20000 in
theorem ggX5_shut_X5_needPort : GoodIn wsX5_shut wsX5_needPort := goodIn_ca (goodIn_r _ [5, 6, 7, 8, 9, 4, 10] (by decide +kernel) (by decide +kernel)) (goodIn_sub (fun _ h => List.mem_cons_of_mem _ (List.mem_append_right _ h)) (by decide +kernel))
set_option maxRecDepth 20000 in
theorem gX5_shut_X5_needPort : GoodIn wsX5_shut (va_wsS RX5 63 yX5_needPort wsX5_needPort) := goodIn_app (goodIn_of _ (by decide +kernel)) ggX5_shut_X5_needPort
set_option maxRecDepth 20000 in
theorem ggX5_shut_X5_spotOf : GoodIn wsX5_shut wsX5_spotOf := goodIn_r _ [13] (by decide +kernel) (by decide +kernel)
set_option maxRecDepth 20000 in
theorem gX5_shut_X5_spotOf : GoodIn wsX5_shut (va_wsS RX5 78 yX5_spotOf wsX5_spotOf) := goodIn_app (goodIn_of _ (by decide +kernel)) ggX5_shut_X5_spotOf
set_option maxRecDepth 20000 in
theorem ggX5_shut_X3_isShut : GoodIn wsX5_shut wsX3_isShut := goodIn_r _ [18, 19, 68, 69, 70, 71, 72, 73, 74, 75, 76, 77, 78, 79, 80, 81, 82, 83] (by decide +kernel) (by decide +kernel)
set_option maxRecDepth 20000 in
theorem gX5_shut_X3_isShut : GoodIn wsX5_shut (wsV RX5 136 RX3 yX3_isShut wsX3_isShut) := goodIn_app (goodIn_of _ (by decide +kernel)) ggX5_shut_X3_isShut
set_option maxRecDepth 20000 in
theorem ggX5_shut_X3_endShut : GoodIn wsX5_shut wsX3_endShut := goodIn_r _ [23, 19, 24, 25, 26, 17, 27, 28, 29, 30, 31, 15, 16, 18, 68, 69, 70, 71, 72, 73, 74, 75, 76, 77, 78, 79, 80, 81, 82, 83, 84, 85, 86, 87, 88, 89, 90, 91] (by decide +kernel) (by decide +kernel)
set_option maxRecDepth 20000 in
theorem gX5_shut_X3_endShut : GoodIn wsX5_shut (wsV RX5 139 RX3 yX3_endShut wsX3_endShut) := goodIn_app (goodIn_of _ (by decide +kernel)) ggX5_shut_X3_endShut
set_option maxRecDepth 20000 in
theorem ggX5_shut_X5_shutUntil : GoodIn wsX5_shut wsX5_shutUntil := goodIn_r _ [35, 1, 36, 37, 38, 39, 17, 40, 19, 41, 42, 43, 44, 28, 45, 46, 47, 48, 49, 50, 51, 52, 53, 54, 55, 56, 57, 58, 59, 60, 61, 62, 63, 64, 65, 66, 67, 68, 69, 70, 71, 72, 73, 74, 75, 76, 77, 78, 79, 80, 81, 82, 83, 92, 93, 94] (by decide +kernel) (by decide +kernel)
set_option maxRecDepth 20000 in
theorem gX5_shut_X5_shutUntil : GoodIn wsX5_shut (wsV RX5 142 RX5 yX5_shutUntil wsX5_shutUntil) := goodIn_app (goodIn_of _ (by decide +kernel)) ggX5_shut_X5_shutUntil
theorem dX5_shut_0 : decode cX5_shut 0 = .ok (.iload_n 1, 1) := by decide +kernel
theorem dX5_shut_1 : decode cX5_shut 1 = .ok (.iload_n 2, 1) := by decide +kernel
theorem dX5_shut_2 : decode cX5_shut 2 = .ok (.invokestatic 63, 3) := by decide +kernel
theorem dX5_shut_5 : decode cX5_shut 5 = .ok (.iload_n 1, 1) := by decide +kernel
theorem dX5_shut_6 : decode cX5_shut 6 = .ok (.iload_n 2, 1) := by decide +kernel
theorem dX5_shut_7 : decode cX5_shut 7 = .ok (.invokestatic 78, 3) := by decide +kernel
theorem dX5_shut_10 : decode cX5_shut 10 = .ok (.istore_n 3, 1) := by decide +kernel
theorem dX5_shut_11 : decode cX5_shut 11 = .ok (.aload_n 0, 1) := by decide +kernel
theorem dX5_shut_12 : decode cX5_shut 12 = .ok (.getfield 21, 3) := by decide +kernel
theorem dX5_shut_15 : decode cX5_shut 15 = .ok (.iload_n 3, 1) := by decide +kernel
theorem dX5_shut_16 : decode cX5_shut 16 = .ok (.invokevirtual 136, 3) := by decide +kernel
theorem dX5_shut_19 : decode cX5_shut 19 = .ok (.ifCond .eq 13, 3) := by decide +kernel
theorem dX5_shut_22 : decode cX5_shut 22 = .ok (.aload_n 0, 1) := by decide +kernel
theorem dX5_shut_23 : decode cX5_shut 23 = .ok (.getfield 21, 3) := by decide +kernel
theorem dX5_shut_26 : decode cX5_shut 26 = .ok (.iload_n 3, 1) := by decide +kernel
theorem dX5_shut_27 : decode cX5_shut 27 = .ok (.invokevirtual 139, 3) := by decide +kernel
theorem dX5_shut_30 : decode cX5_shut 30 = .ok (.iconst 0, 1) := by decide +kernel
theorem dX5_shut_31 : decode cX5_shut 31 = .ok (.ireturn, 1) := by decide +kernel
theorem dX5_shut_32 : decode cX5_shut 32 = .ok (.aload_n 0, 1) := by decide +kernel
theorem dX5_shut_33 : decode cX5_shut 33 = .ok (.iload_n 3, 1) := by decide +kernel
theorem dX5_shut_34 : decode cX5_shut 34 = .ok (.iconst (-1), 1) := by decide +kernel
theorem dX5_shut_35 : decode cX5_shut 35 = .ok (.invokevirtual 142, 3) := by decide +kernel
theorem dX5_shut_38 : decode cX5_shut 38 = .ok (.iconst 1, 1) := by decide +kernel
theorem dX5_shut_39 : decode cX5_shut 39 = .ok (.ireturn, 1) := by decide +kernel
set_option maxRecDepth 20000 in
theorem ggX5_guard_X5_needPort : GoodIn wsX5_guard wsX5_needPort := goodIn_ca (goodIn_r _ [6, 7, 8, 9, 10, 5, 11] (by decide +kernel) (by decide +kernel)) (goodIn_sub (fun _ h => List.mem_cons_of_mem _ (List.mem_append_left _ (List.mem_append_right _ h))) (by decide +kernel))
set_option maxRecDepth 20000 in
theorem gX5_guard_X5_needPort : GoodIn wsX5_guard (va_wsS RX5 63 yX5_needPort wsX5_needPort) := goodIn_app (goodIn_of _ (by decide +kernel)) ggX5_guard_X5_needPort
set_option maxRecDepth 20000 in
theorem ggX5_guard_X5_needWithin : GoodIn wsX5_guard wsX5_needWithin := goodIn_ca (goodIn_r _ [14, 15, 16] (by decide +kernel) (by decide +kernel)) (goodIn_sub (fun _ h => List.mem_cons_of_mem _ (List.mem_append_right _ h)) (by decide +kernel))
set_option maxRecDepth 20000 in
theorem gX5_guard_X5_needWithin : GoodIn wsX5_guard (va_wsS RX5 74 yX5_needWithin wsX5_needWithin) := goodIn_app (goodIn_of _ (by decide +kernel)) ggX5_guard_X5_needWithin
set_option maxRecDepth 20000 in
theorem ggX5_guard_X5_spotOf : GoodIn wsX5_guard wsX5_spotOf := goodIn_r _ [19] (by decide +kernel) (by decide +kernel)
set_option maxRecDepth 20000 in
theorem gX5_guard_X5_spotOf : GoodIn wsX5_guard (va_wsS RX5 78 yX5_spotOf wsX5_spotOf) := goodIn_app (goodIn_of _ (by decide +kernel)) ggX5_guard_X5_spotOf
theorem dX5_guard_0 : decode cX5_guard 0 = .ok (.iload_n 1, 1) := by decide +kernel
theorem dX5_guard_1 : decode cX5_guard 1 = .ok (.iload_n 2, 1) := by decide +kernel
theorem dX5_guard_2 : decode cX5_guard 2 = .ok (.invokestatic 63, 3) := by decide +kernel
theorem dX5_guard_5 : decode cX5_guard 5 = .ok (.iload_n 3, 1) := by decide +kernel
theorem dX5_guard_6 : decode cX5_guard 6 = .ok (.iconst 0, 1) := by decide +kernel
