theorem dX3_init_0 : decode cX3_init 0 = .ok (.aload_n 0, 1) := by decide +kernel
theorem dX3_init_1 : decode cX3_init 1 = .ok (.invokespecial 3, 3) := by decide +kernel
theorem dX3_init_4 : decode cX3_init 4 = .ok (.aload_n 0, 1) := by decide +kernel
theorem dX3_init_5 : decode cX3_init 5 = .ok (.bipush 6, 2) := by decide +kernel
theorem dX3_init_7 : decode cX3_init 7 = .ok (.newarray .int, 2) := by decide +kernel
theorem dX3_init_9 : decode cX3_init 9 = .ok (.putfield 9, 3) := by decide +kernel
theorem dX3_init_12 : decode cX3_init 12 = .ok (.aload_n 0, 1) := by decide +kernel
theorem dX3_init_13 : decode cX3_init 13 = .ok (.bipush 6, 2) := by decide +kernel
theorem dX3_init_15 : decode cX3_init 15 = .ok (.newarray .int, 2) := by decide +kernel
theorem dX3_init_17 : decode cX3_init 17 = .ok (.putfield 15, 3) := by decide +kernel
theorem dX3_init_20 : decode cX3_init 20 = .ok (.aload_n 0, 1) := by decide +kernel
theorem dX3_init_21 : decode cX3_init 21 = .ok (.bipush 6, 2) := by decide +kernel
theorem dX3_init_23 : decode cX3_init 23 = .ok (.newarray .int, 2) := by decide +kernel
theorem dX3_init_25 : decode cX3_init 25 = .ok (.putfield 18, 3) := by decide +kernel
theorem dX3_init_28 : decode cX3_init 28 = .ok (.aload_n 0, 1) := by decide +kernel
theorem dX3_init_29 : decode cX3_init 29 = .ok (.bipush 6, 2) := by decide +kernel
theorem dX3_init_31 : decode cX3_init 31 = .ok (.newarray .int, 2) := by decide +kernel
theorem dX3_init_33 : decode cX3_init 33 = .ok (.putfield 21, 3) := by decide +kernel
theorem dX3_init_36 : decode cX3_init 36 = .ok (.aload_n 0, 1) := by decide +kernel
theorem dX3_init_37 : decode cX3_init 37 = .ok (.bipush 30, 2) := by decide +kernel
theorem dX3_init_39 : decode cX3_init 39 = .ok (.newarray .int, 2) := by decide +kernel
theorem dX3_init_41 : decode cX3_init 41 = .ok (.putfield 24, 3) := by decide +kernel
theorem dX3_init_44 : decode cX3_init 44 = .ok (.aload_n 0, 1) := by decide +kernel
theorem dX3_init_45 : decode cX3_init 45 = .ok (.bipush 30, 2) := by decide +kernel
theorem dX3_init_47 : decode cX3_init 47 = .ok (.newarray .boolean, 2) := by decide +kernel
theorem dX3_init_49 : decode cX3_init 49 = .ok (.putfield 27, 3) := by decide +kernel
theorem dX3_init_52 : decode cX3_init 52 = .ok (.aload_n 0, 1) := by decide +kernel
theorem dX3_init_53 : decode cX3_init 53 = .ok (.bipush 30, 2) := by decide +kernel
theorem dX3_init_55 : decode cX3_init 55 = .ok (.newarray .int, 2) := by decide +kernel
theorem dX3_init_57 : decode cX3_init 57 = .ok (.putfield 31, 3) := by decide +kernel
theorem dX3_init_60 : decode cX3_init 60 = .ok (.aload_n 0, 1) := by decide +kernel
theorem dX3_init_61 : decode cX3_init 61 = .ok (.bipush 30, 2) := by decide +kernel
theorem dX3_init_63 : decode cX3_init 63 = .ok (.newarray .int, 2) := by decide +kernel
theorem dX3_init_65 : decode cX3_init 65 = .ok (.putfield 34, 3) := by decide +kernel
theorem dX3_init_68 : decode cX3_init 68 = .ok (.aload_n 0, 1) := by decide +kernel
theorem dX3_init_69 : decode cX3_init 69 = .ok (.bipush 30, 2) := by decide +kernel
theorem dX3_init_71 : decode cX3_init 71 = .ok (.newarray .int, 2) := by decide +kernel
theorem dX3_init_73 : decode cX3_init 73 = .ok (.putfield 37, 3) := by decide +kernel
theorem dX3_init_76 : decode cX3_init 76 = .ok (.aload_n 0, 1) := by decide +kernel
theorem dX3_init_77 : decode cX3_init 77 = .ok (.bipush 30, 2) := by decide +kernel
theorem dX3_init_79 : decode cX3_init 79 = .ok (.newarray .int, 2) := by decide +kernel
theorem dX3_init_81 : decode cX3_init 81 = .ok (.putfield 40, 3) := by decide +kernel
theorem dX3_init_84 : decode cX3_init 84 = .ok (.aload_n 0, 1) := by decide +kernel
theorem dX3_init_85 : decode cX3_init 85 = .ok (.bipush 30, 2) := by decide +kernel
theorem dX3_init_87 : decode cX3_init 87 = .ok (.newarray .int, 2) := by decide +kernel
theorem dX3_init_89 : decode cX3_init 89 = .ok (.putfield 43, 3) := by decide +kernel
theorem dX3_init_92 : decode cX3_init 92 = .ok (.aload_n 0, 1) := by decide +kernel
theorem dX3_init_93 : decode cX3_init 93 = .ok (.bipush 30, 2) := by decide +kernel
theorem dX3_init_95 : decode cX3_init 95 = .ok (.newarray .boolean, 2) := by decide +kernel
theorem dX3_init_97 : decode cX3_init 97 = .ok (.putfield 46, 3) := by decide +kernel
theorem dX3_init_100 : decode cX3_init 100 = .ok (.aload_n 0, 1) := by decide +kernel
theorem dX3_init_101 : decode cX3_init 101 = .ok (.bipush 6, 2) := by decide +kernel
theorem dX3_init_103 : decode cX3_init 103 = .ok (.newarray .boolean, 2) := by decide +kernel
theorem dX3_init_105 : decode cX3_init 105 = .ok (.putfield 49, 3) := by decide +kernel
theorem dX3_init_108 : decode cX3_init 108 = .ok (.aload_n 0, 1) := by decide +kernel
theorem dX3_init_109 : decode cX3_init 109 = .ok (.bipush 6, 2) := by decide +kernel
theorem dX3_init_111 : decode cX3_init 111 = .ok (.newarray .int, 2) := by decide +kernel
theorem dX3_init_113 : decode cX3_init 113 = .ok (.putfield 52, 3) := by decide +kernel
theorem dX3_init_116 : decode cX3_init 116 = .ok (.aload_n 0, 1) := by decide +kernel
theorem dX3_init_117 : decode cX3_init 117 = .ok (.aload_n 1, 1) := by decide +kernel
theorem dX3_init_118 : decode cX3_init 118 = .ok (.putfield 55, 3) := by decide +kernel
theorem dX3_init_121 : decode cX3_init 121 = .ok (.iconst 0, 1) := by decide +kernel
theorem dX3_init_122 : decode cX3_init 122 = .ok (.istore_n 2, 1) := by decide +kernel
theorem dX3_init_123 : decode cX3_init 123 = .ok (.iload_n 2, 1) := by decide +kernel
theorem dX3_init_124 : decode cX3_init 124 = .ok (.bipush 6, 2) := by decide +kernel
theorem dX3_init_126 : decode cX3_init 126 = .ok (.if_icmp .ge 23, 3) := by decide +kernel
theorem dX3_init_129 : decode cX3_init 129 = .ok (.aload_n 0, 1) := by decide +kernel
theorem dX3_init_130 : decode cX3_init 130 = .ok (.getfield 9, 3) := by decide +kernel
theorem dX3_init_133 : decode cX3_init 133 = .ok (.iload_n 2, 1) := by decide +kernel
theorem dX3_init_134 : decode cX3_init 134 = .ok (.iload_n 2, 1) := by decide +kernel
theorem dX3_init_135 : decode cX3_init 135 = .ok (.iastore, 1) := by decide +kernel
theorem dX3_init_136 : decode cX3_init 136 = .ok (.aload_n 0, 1) := by decide +kernel
theorem dX3_init_137 : decode cX3_init 137 = .ok (.getfield 21, 3) := by decide +kernel
theorem dX3_init_140 : decode cX3_init 140 = .ok (.iload_n 2, 1) := by decide +kernel
theorem dX3_init_141 : decode cX3_init 141 = .ok (.iconst (-1), 1) := by decide +kernel
theorem dX3_init_142 : decode cX3_init 142 = .ok (.iastore, 1) := by decide +kernel
theorem dX3_init_143 : decode cX3_init 143 = .ok (.iinc 2 1, 3) := by decide +kernel
theorem dX3_init_146 : decode cX3_init 146 = .ok (.goto (-23), 3) := by decide +kernel
theorem dX3_init_149 : decode cX3_init 149 = .ok (.return_, 1) := by decide +kernel
theorem dX3_copyFrom_0 : decode cX3_copyFrom 0 = .ok (.iconst 0, 1) := by decide +kernel
theorem dX3_copyFrom_1 : decode cX3_copyFrom 1 = .ok (.istore_n 2, 1) := by decide +kernel
theorem dX3_copyFrom_2 : decode cX3_copyFrom 2 = .ok (.iload_n 2, 1) := by decide +kernel
theorem dX3_copyFrom_3 : decode cX3_copyFrom 3 = .ok (.bipush 6, 2) := by decide +kernel
theorem dX3_copyFrom_5 : decode cX3_copyFrom 5 = .ok (.if_icmp .ge 57, 3) := by decide +kernel
theorem dX3_copyFrom_8 : decode cX3_copyFrom 8 = .ok (.aload_n 0, 1) := by decide +kernel
theorem dX3_copyFrom_9 : decode cX3_copyFrom 9 = .ok (.getfield 9, 3) := by decide +kernel
theorem dX3_copyFrom_12 : decode cX3_copyFrom 12 = .ok (.iload_n 2, 1) := by decide +kernel
theorem dX3_copyFrom_13 : decode cX3_copyFrom 13 = .ok (.aload_n 1, 1) := by decide +kernel
theorem dX3_copyFrom_14 : decode cX3_copyFrom 14 = .ok (.getfield 9, 3) := by decide +kernel
theorem dX3_copyFrom_17 : decode cX3_copyFrom 17 = .ok (.iload_n 2, 1) := by decide +kernel
theorem dX3_copyFrom_18 : decode cX3_copyFrom 18 = .ok (.iaload, 1) := by decide +kernel
theorem dX3_copyFrom_19 : decode cX3_copyFrom 19 = .ok (.iastore, 1) := by decide +kernel
theorem dX3_copyFrom_20 : decode cX3_copyFrom 20 = .ok (.aload_n 0, 1) := by decide +kernel
theorem dX3_copyFrom_21 : decode cX3_copyFrom 21 = .ok (.getfield 15, 3) := by decide +kernel
theorem dX3_copyFrom_24 : decode cX3_copyFrom 24 = .ok (.iload_n 2, 1) := by decide +kernel
theorem dX3_copyFrom_25 : decode cX3_copyFrom 25 = .ok (.aload_n 1, 1) := by decide +kernel
theorem dX3_copyFrom_26 : decode cX3_copyFrom 26 = .ok (.getfield 15, 3) := by decide +kernel
theorem dX3_copyFrom_29 : decode cX3_copyFrom 29 = .ok (.iload_n 2, 1) := by decide +kernel
theorem dX3_copyFrom_30 : decode cX3_copyFrom 30 = .ok (.iaload, 1) := by decide +kernel
theorem dX3_copyFrom_31 : decode cX3_copyFrom 31 = .ok (.iastore, 1) := by decide +kernel
theorem dX3_copyFrom_32 : decode cX3_copyFrom 32 = .ok (.aload_n 0, 1) := by decide +kernel
theorem dX3_copyFrom_33 : decode cX3_copyFrom 33 = .ok (.getfield 18, 3) := by decide +kernel
theorem dX3_copyFrom_36 : decode cX3_copyFrom 36 = .ok (.iload_n 2, 1) := by decide +kernel
theorem dX3_copyFrom_37 : decode cX3_copyFrom 37 = .ok (.aload_n 1, 1) := by decide +kernel
theorem dX3_copyFrom_38 : decode cX3_copyFrom 38 = .ok (.getfield 18, 3) := by decide +kernel
theorem dX3_copyFrom_41 : decode cX3_copyFrom 41 = .ok (.iload_n 2, 1) := by decide +kernel
theorem dX3_copyFrom_42 : decode cX3_copyFrom 42 = .ok (.iaload, 1) := by decide +kernel
theorem dX3_copyFrom_43 : decode cX3_copyFrom 43 = .ok (.iastore, 1) := by decide +kernel
theorem dX3_copyFrom_44 : decode cX3_copyFrom 44 = .ok (.aload_n 0, 1) := by decide +kernel
theorem dX3_copyFrom_45 : decode cX3_copyFrom 45 = .ok (.getfield 21, 3) := by decide +kernel
theorem dX3_copyFrom_48 : decode cX3_copyFrom 48 = .ok (.iload_n 2, 1) := by decide +kernel
theorem dX3_copyFrom_49 : decode cX3_copyFrom 49 = .ok (.aload_n 1, 1) := by decide +kernel
theorem dX3_copyFrom_50 : decode cX3_copyFrom 50 = .ok (.getfield 21, 3) := by decide +kernel
theorem dX3_copyFrom_53 : decode cX3_copyFrom 53 = .ok (.iload_n 2, 1) := by decide +kernel
theorem dX3_copyFrom_54 : decode cX3_copyFrom 54 = .ok (.iaload, 1) := by decide +kernel
theorem dX3_copyFrom_55 : decode cX3_copyFrom 55 = .ok (.iastore, 1) := by decide +kernel
theorem dX3_copyFrom_56 : decode cX3_copyFrom 56 = .ok (.iinc 2 1, 3) := by decide +kernel
theorem dX3_copyFrom_59 : decode cX3_copyFrom 59 = .ok (.goto (-57), 3) := by decide +kernel
theorem dX3_copyFrom_62 : decode cX3_copyFrom 62 = .ok (.iconst 0, 1) := by decide +kernel
theorem dX3_copyFrom_63 : decode cX3_copyFrom 63 = .ok (.istore_n 2, 1) := by decide +kernel
theorem dX3_copyFrom_64 : decode cX3_copyFrom 64 = .ok (.iload_n 2, 1) := by decide +kernel
theorem dX3_copyFrom_65 : decode cX3_copyFrom 65 = .ok (.bipush 30, 2) := by decide +kernel
theorem dX3_copyFrom_67 : decode cX3_copyFrom 67 = .ok (.if_icmp .ge 57, 3) := by decide +kernel
theorem dX3_copyFrom_70 : decode cX3_copyFrom 70 = .ok (.aload_n 0, 1) := by decide +kernel
theorem dX3_copyFrom_71 : decode cX3_copyFrom 71 = .ok (.getfield 24, 3) := by decide +kernel
theorem dX3_copyFrom_74 : decode cX3_copyFrom 74 = .ok (.iload_n 2, 1) := by decide +kernel
theorem dX3_copyFrom_75 : decode cX3_copyFrom 75 = .ok (.aload_n 1, 1) := by decide +kernel
theorem dX3_copyFrom_76 : decode cX3_copyFrom 76 = .ok (.getfield 24, 3) := by decide +kernel
theorem dX3_copyFrom_79 : decode cX3_copyFrom 79 = .ok (.iload_n 2, 1) := by decide +kernel
theorem dX3_copyFrom_80 : decode cX3_copyFrom 80 = .ok (.iaload, 1) := by decide +kernel
theorem dX3_copyFrom_81 : decode cX3_copyFrom 81 = .ok (.iastore, 1) := by decide +kernel
theorem dX3_copyFrom_82 : decode cX3_copyFrom 82 = .ok (.aload_n 0, 1) := by decide +kernel
theorem dX3_copyFrom_83 : decode cX3_copyFrom 83 = .ok (.getfield 27, 3) := by decide +kernel
theorem dX3_copyFrom_86 : decode cX3_copyFrom 86 = .ok (.iload_n 2, 1) := by decide +kernel
theorem dX3_copyFrom_87 : decode cX3_copyFrom 87 = .ok (.aload_n 1, 1) := by decide +kernel
theorem dX3_copyFrom_88 : decode cX3_copyFrom 88 = .ok (.getfield 27, 3) := by decide +kernel
theorem dX3_copyFrom_91 : decode cX3_copyFrom 91 = .ok (.iload_n 2, 1) := by decide +kernel
theorem dX3_copyFrom_92 : decode cX3_copyFrom 92 = .ok (.baload, 1) := by decide +kernel
theorem dX3_copyFrom_93 : decode cX3_copyFrom 93 = .ok (.bastore, 1) := by decide +kernel
theorem dX3_copyFrom_94 : decode cX3_copyFrom 94 = .ok (.aload_n 0, 1) := by decide +kernel
theorem dX3_copyFrom_95 : decode cX3_copyFrom 95 = .ok (.getfield 31, 3) := by decide +kernel
theorem dX3_copyFrom_98 : decode cX3_copyFrom 98 = .ok (.iload_n 2, 1) := by decide +kernel
theorem dX3_copyFrom_99 : decode cX3_copyFrom 99 = .ok (.aload_n 1, 1) := by decide +kernel
theorem dX3_copyFrom_100 : decode cX3_copyFrom 100 = .ok (.getfield 31, 3) := by decide +kernel
theorem dX3_copyFrom_103 : decode cX3_copyFrom 103 = .ok (.iload_n 2, 1) := by decide +kernel
theorem dX3_copyFrom_104 : decode cX3_copyFrom 104 = .ok (.iaload, 1) := by decide +kernel
theorem dX3_copyFrom_105 : decode cX3_copyFrom 105 = .ok (.iastore, 1) := by decide +kernel
theorem dX3_copyFrom_106 : decode cX3_copyFrom 106 = .ok (.aload_n 0, 1) := by decide +kernel
theorem dX3_copyFrom_107 : decode cX3_copyFrom 107 = .ok (.getfield 34, 3) := by decide +kernel
theorem dX3_copyFrom_110 : decode cX3_copyFrom 110 = .ok (.iload_n 2, 1) := by decide +kernel
theorem dX3_copyFrom_111 : decode cX3_copyFrom 111 = .ok (.aload_n 1, 1) := by decide +kernel
theorem dX3_copyFrom_112 : decode cX3_copyFrom 112 = .ok (.getfield 34, 3) := by decide +kernel
theorem dX3_copyFrom_115 : decode cX3_copyFrom 115 = .ok (.iload_n 2, 1) := by decide +kernel
theorem dX3_copyFrom_116 : decode cX3_copyFrom 116 = .ok (.iaload, 1) := by decide +kernel
theorem dX3_copyFrom_117 : decode cX3_copyFrom 117 = .ok (.iastore, 1) := by decide +kernel
theorem dX3_copyFrom_118 : decode cX3_copyFrom 118 = .ok (.iinc 2 1, 3) := by decide +kernel
theorem dX3_copyFrom_121 : decode cX3_copyFrom 121 = .ok (.goto (-57), 3) := by decide +kernel
theorem dX3_copyFrom_124 : decode cX3_copyFrom 124 = .ok (.aload_n 0, 1) := by decide +kernel
theorem dX3_copyFrom_125 : decode cX3_copyFrom 125 = .ok (.aload_n 1, 1) := by decide +kernel
theorem dX3_copyFrom_126 : decode cX3_copyFrom 126 = .ok (.getfield 59, 3) := by decide +kernel
theorem dX3_copyFrom_129 : decode cX3_copyFrom 129 = .ok (.putfield 59, 3) := by decide +kernel
theorem dX3_copyFrom_132 : decode cX3_copyFrom 132 = .ok (.return_, 1) := by decide +kernel
theorem dX3_looksLike_0 : decode cX3_looksLike 0 = .ok (.iconst 0, 1) := by decide +kernel
theorem dX3_looksLike_1 : decode cX3_looksLike 1 = .ok (.istore_n 2, 1) := by decide +kernel
theorem dX3_looksLike_2 : decode cX3_looksLike 2 = .ok (.iload_n 2, 1) := by decide +kernel
theorem dX3_looksLike_3 : decode cX3_looksLike 3 = .ok (.bipush 6, 2) := by decide +kernel
theorem dX3_looksLike_5 : decode cX3_looksLike 5 = .ok (.if_icmp .ge 56, 3) := by decide +kernel
theorem dX3_looksLike_8 : decode cX3_looksLike 8 = .ok (.aload_n 0, 1) := by decide +kernel
theorem dX3_looksLike_9 : decode cX3_looksLike 9 = .ok (.getfield 9, 3) := by decide +kernel
theorem dX3_looksLike_12 : decode cX3_looksLike 12 = .ok (.iload_n 2, 1) := by decide +kernel
theorem dX3_looksLike_13 : decode cX3_looksLike 13 = .ok (.iaload, 1) := by decide +kernel
theorem dX3_looksLike_14 : decode cX3_looksLike 14 = .ok (.aload_n 1, 1) := by decide +kernel
theorem dX3_looksLike_15 : decode cX3_looksLike 15 = .ok (.getfield 9, 3) := by decide +kernel
theorem dX3_looksLike_18 : decode cX3_looksLike 18 = .ok (.iload_n 2, 1) := by decide +kernel
theorem dX3_looksLike_19 : decode cX3_looksLike 19 = .ok (.iaload, 1) := by decide +kernel
theorem dX3_looksLike_20 : decode cX3_looksLike 20 = .ok (.if_icmp .ne 33, 3) := by decide +kernel
theorem dX3_looksLike_23 : decode cX3_looksLike 23 = .ok (.aload_n 0, 1) := by decide +kernel
theorem dX3_looksLike_24 : decode cX3_looksLike 24 = .ok (.getfield 15, 3) := by decide +kernel
theorem dX3_looksLike_27 : decode cX3_looksLike 27 = .ok (.iload_n 2, 1) := by decide +kernel
theorem dX3_looksLike_28 : decode cX3_looksLike 28 = .ok (.iaload, 1) := by decide +kernel
theorem dX3_looksLike_29 : decode cX3_looksLike 29 = .ok (.aload_n 1, 1) := by decide +kernel
theorem dX3_looksLike_30 : decode cX3_looksLike 30 = .ok (.getfield 15, 3) := by decide +kernel
theorem dX3_looksLike_33 : decode cX3_looksLike 33 = .ok (.iload_n 2, 1) := by decide +kernel
theorem dX3_looksLike_34 : decode cX3_looksLike 34 = .ok (.iaload, 1) := by decide +kernel
theorem dX3_looksLike_35 : decode cX3_looksLike 35 = .ok (.if_icmp .ne 18, 3) := by decide +kernel
theorem dX3_looksLike_38 : decode cX3_looksLike 38 = .ok (.aload_n 0, 1) := by decide +kernel
theorem dX3_looksLike_39 : decode cX3_looksLike 39 = .ok (.getfield 18, 3) := by decide +kernel
theorem dX3_looksLike_42 : decode cX3_looksLike 42 = .ok (.iload_n 2, 1) := by decide +kernel
theorem dX3_looksLike_43 : decode cX3_looksLike 43 = .ok (.iaload, 1) := by decide +kernel
theorem dX3_looksLike_44 : decode cX3_looksLike 44 = .ok (.aload_n 1, 1) := by decide +kernel
theorem dX3_looksLike_45 : decode cX3_looksLike 45 = .ok (.getfield 18, 3) := by decide +kernel
theorem dX3_looksLike_48 : decode cX3_looksLike 48 = .ok (.iload_n 2, 1) := by decide +kernel
theorem dX3_looksLike_49 : decode cX3_looksLike 49 = .ok (.iaload, 1) := by decide +kernel
theorem dX3_looksLike_50 : decode cX3_looksLike 50 = .ok (.if_icmp .eq 5, 3) := by decide +kernel
theorem dX3_looksLike_53 : decode cX3_looksLike 53 = .ok (.iconst 0, 1) := by decide +kernel
theorem dX3_looksLike_54 : decode cX3_looksLike 54 = .ok (.ireturn, 1) := by decide +kernel
theorem dX3_looksLike_55 : decode cX3_looksLike 55 = .ok (.iinc 2 1, 3) := by decide +kernel
theorem dX3_looksLike_58 : decode cX3_looksLike 58 = .ok (.goto (-56), 3) := by decide +kernel
theorem dX3_looksLike_61 : decode cX3_looksLike 61 = .ok (.iconst 0, 1) := by decide +kernel
theorem dX3_looksLike_62 : decode cX3_looksLike 62 = .ok (.istore_n 2, 1) := by decide +kernel
theorem dX3_looksLike_63 : decode cX3_looksLike 63 = .ok (.iload_n 2, 1) := by decide +kernel
theorem dX3_looksLike_64 : decode cX3_looksLike 64 = .ok (.bipush 30, 2) := by decide +kernel
theorem dX3_looksLike_66 : decode cX3_looksLike 66 = .ok (.if_icmp .ge 41, 3) := by decide +kernel
theorem dX3_looksLike_69 : decode cX3_looksLike 69 = .ok (.aload_n 0, 1) := by decide +kernel
theorem dX3_looksLike_70 : decode cX3_looksLike 70 = .ok (.getfield 27, 3) := by decide +kernel
theorem dX3_looksLike_73 : decode cX3_looksLike 73 = .ok (.iload_n 2, 1) := by decide +kernel
theorem dX3_looksLike_74 : decode cX3_looksLike 74 = .ok (.baload, 1) := by decide +kernel
theorem dX3_looksLike_75 : decode cX3_looksLike 75 = .ok (.aload_n 1, 1) := by decide +kernel
theorem dX3_looksLike_76 : decode cX3_looksLike 76 = .ok (.getfield 27, 3) := by decide +kernel
theorem dX3_looksLike_79 : decode cX3_looksLike 79 = .ok (.iload_n 2, 1) := by decide +kernel
theorem dX3_looksLike_80 : decode cX3_looksLike 80 = .ok (.baload, 1) := by decide +kernel
theorem dX3_looksLike_81 : decode cX3_looksLike 81 = .ok (.if_icmp .ne 18, 3) := by decide +kernel
theorem dX3_looksLike_84 : decode cX3_looksLike 84 = .ok (.aload_n 0, 1) := by decide +kernel
theorem dX3_looksLike_85 : decode cX3_looksLike 85 = .ok (.getfield 31, 3) := by decide +kernel
theorem dX3_looksLike_88 : decode cX3_looksLike 88 = .ok (.iload_n 2, 1) := by decide +kernel
theorem dX3_looksLike_89 : decode cX3_looksLike 89 = .ok (.iaload, 1) := by decide +kernel
theorem dX3_looksLike_90 : decode cX3_looksLike 90 = .ok (.aload_n 1, 1) := by decide +kernel
theorem dX3_looksLike_91 : decode cX3_looksLike 91 = .ok (.getfield 31, 3) := by decide +kernel
theorem dX3_looksLike_94 : decode cX3_looksLike 94 = .ok (.iload_n 2, 1) := by decide +kernel
theorem dX3_looksLike_95 : decode cX3_looksLike 95 = .ok (.iaload, 1) := by decide +kernel
theorem dX3_looksLike_96 : decode cX3_looksLike 96 = .ok (.if_icmp .eq 5, 3) := by decide +kernel
theorem dX3_looksLike_99 : decode cX3_looksLike 99 = .ok (.iconst 0, 1) := by decide +kernel
theorem dX3_looksLike_100 : decode cX3_looksLike 100 = .ok (.ireturn, 1) := by decide +kernel
theorem dX3_looksLike_101 : decode cX3_looksLike 101 = .ok (.iinc 2 1, 3) := by decide +kernel
theorem dX3_looksLike_104 : decode cX3_looksLike 104 = .ok (.goto (-41), 3) := by decide +kernel
theorem dX3_looksLike_107 : decode cX3_looksLike 107 = .ok (.iconst 1, 1) := by decide +kernel
theorem dX3_looksLike_108 : decode cX3_looksLike 108 = .ok (.ireturn, 1) := by decide +kernel
theorem dX3_hasWaitingPort_0 : decode cX3_hasWaitingPort 0 = .ok (.iconst 0, 1) := by decide +kernel
theorem dX3_hasWaitingPort_1 : decode cX3_hasWaitingPort 1 = .ok (.istore_n 1, 1) := by decide +kernel
theorem dX3_hasWaitingPort_2 : decode cX3_hasWaitingPort 2 = .ok (.iload_n 1, 1) := by decide +kernel
theorem dX3_hasWaitingPort_3 : decode cX3_hasWaitingPort 3 = .ok (.bipush 30, 2) := by decide +kernel
theorem dX3_hasWaitingPort_5 : decode cX3_hasWaitingPort 5 = .ok (.if_icmp .ge 20, 3) := by decide +kernel
theorem dX3_hasWaitingPort_8 : decode cX3_hasWaitingPort 8 = .ok (.aload_n 0, 1) := by decide +kernel
theorem dX3_hasWaitingPort_9 : decode cX3_hasWaitingPort 9 = .ok (.getfield 34, 3) := by decide +kernel
theorem dX3_hasWaitingPort_12 : decode cX3_hasWaitingPort 12 = .ok (.iload_n 1, 1) := by decide +kernel
theorem dX3_hasWaitingPort_13 : decode cX3_hasWaitingPort 13 = .ok (.iaload, 1) := by decide +kernel
theorem dX3_hasWaitingPort_14 : decode cX3_hasWaitingPort 14 = .ok (.ifCond .le 5, 3) := by decide +kernel
theorem dX3_hasWaitingPort_17 : decode cX3_hasWaitingPort 17 = .ok (.iconst 1, 1) := by decide +kernel
theorem dX3_hasWaitingPort_18 : decode cX3_hasWaitingPort 18 = .ok (.ireturn, 1) := by decide +kernel
theorem dX3_hasWaitingPort_19 : decode cX3_hasWaitingPort 19 = .ok (.iinc 1 1, 3) := by decide +kernel
theorem dX3_hasWaitingPort_22 : decode cX3_hasWaitingPort 22 = .ok (.goto (-20), 3) := by decide +kernel
theorem dX3_hasWaitingPort_25 : decode cX3_hasWaitingPort 25 = .ok (.iconst 0, 1) := by decide +kernel
theorem dX3_hasWaitingPort_26 : decode cX3_hasWaitingPort 26 = .ok (.ireturn, 1) := by decide +kernel
theorem dX3_isShut_0 : decode cX3_isShut 0 = .ok (.aload_n 0, 1) := by decide +kernel
theorem dX3_isShut_1 : decode cX3_isShut 1 = .ok (.getfield 24, 3) := by decide +kernel
theorem dX3_isShut_4 : decode cX3_isShut 4 = .ok (.iload_n 1, 1) := by decide +kernel
theorem dX3_isShut_5 : decode cX3_isShut 5 = .ok (.iaload, 1) := by decide +kernel
theorem dX3_isShut_6 : decode cX3_isShut 6 = .ok (.ifCond .eq 7, 3) := by decide +kernel
theorem dX3_isShut_9 : decode cX3_isShut 9 = .ok (.iconst 1, 1) := by decide +kernel
theorem dX3_isShut_10 : decode cX3_isShut 10 = .ok (.goto 4, 3) := by decide +kernel
theorem dX3_isShut_13 : decode cX3_isShut 13 = .ok (.iconst 0, 1) := by decide +kernel
theorem dX3_isShut_14 : decode cX3_isShut 14 = .ok (.ireturn, 1) := by decide +kernel
set_option maxRecDepth 20000 in
theorem ggX3_isJoined_X3_isShut : GoodIn wsX3_isJoined wsX3_isShut := goodIn_r _ [7, 8, 9, 10, 11, 12, 13, 14, 15, 16, 17, 18, 19, 20, 21, 22, 23, 24] (by decide +kernel) (by decide +kernel)
set_option maxRecDepth 20000 in
theorem gX3_isJoined_X3_isShut : GoodIn wsX3_isJoined (wsV RX3 68 RX3 yX3_isShut wsX3_isShut) := goodIn_app (goodIn_of _ (by decide +kernel)) ggX3_isJoined_X3_isShut
theorem dX3_isJoined_0 : decode cX3_isJoined 0 = .ok (.aload_n 0, 1) := by decide +kernel
theorem dX3_isJoined_1 : decode cX3_isJoined 1 = .ok (.getfield 55, 3) := by decide +kernel
theorem dX3_isJoined_4 : decode cX3_isJoined 4 = .ok (.getfield 63, 3) := by decide +kernel
theorem dX3_isJoined_7 : decode cX3_isJoined 7 = .ok (.iload_n 1, 1) := by decide +kernel
theorem dX3_isJoined_8 : decode cX3_isJoined 8 = .ok (.iaload, 1) := by decide +kernel
theorem dX3_isJoined_9 : decode cX3_isJoined 9 = .ok (.istore_n 2, 1) := by decide +kernel
theorem dX3_isJoined_10 : decode cX3_isJoined 10 = .ok (.iload_n 2, 1) := by decide +kernel
theorem dX3_isJoined_11 : decode cX3_isJoined 11 = .ok (.iconst (-1), 1) := by decide +kernel
theorem dX3_isJoined_12 : decode cX3_isJoined 12 = .ok (.if_icmp .eq 23, 3) := by decide +kernel
theorem dX3_isJoined_15 : decode cX3_isJoined 15 = .ok (.aload_n 0, 1) := by decide +kernel
theorem dX3_isJoined_16 : decode cX3_isJoined 16 = .ok (.iload_n 1, 1) := by decide +kernel
theorem dX3_isJoined_17 : decode cX3_isJoined 17 = .ok (.invokevirtual 68, 3) := by decide +kernel
theorem dX3_isJoined_20 : decode cX3_isJoined 20 = .ok (.ifCond .ne 15, 3) := by decide +kernel
theorem dX3_isJoined_23 : decode cX3_isJoined 23 = .ok (.aload_n 0, 1) := by decide +kernel
theorem dX3_isJoined_24 : decode cX3_isJoined 24 = .ok (.iload_n 2, 1) := by decide +kernel
theorem dX3_isJoined_25 : decode cX3_isJoined 25 = .ok (.invokevirtual 68, 3) := by decide +kernel
theorem dX3_isJoined_28 : decode cX3_isJoined 28 = .ok (.ifCond .ne 7, 3) := by decide +kernel
theorem dX3_isJoined_31 : decode cX3_isJoined 31 = .ok (.iconst 1, 1) := by decide +kernel
theorem dX3_isJoined_32 : decode cX3_isJoined 32 = .ok (.goto 4, 3) := by decide +kernel
theorem dX3_isJoined_35 : decode cX3_isJoined 35 = .ok (.iconst 0, 1) := by decide +kernel
theorem dX3_isJoined_36 : decode cX3_isJoined 36 = .ok (.ireturn, 1) := by decide +kernel
theorem dX3_close_0 : decode cX3_close 0 = .ok (.aload_n 0, 1) := by decide +kernel
theorem dX3_close_1 : decode cX3_close 1 = .ok (.getfield 27, 3) := by decide +kernel
theorem dX3_close_4 : decode cX3_close 4 = .ok (.iload_n 1, 1) := by decide +kernel
theorem dX3_close_5 : decode cX3_close 5 = .ok (.iconst 0, 1) := by decide +kernel
theorem dX3_close_6 : decode cX3_close 6 = .ok (.bastore, 1) := by decide +kernel
theorem dX3_close_7 : decode cX3_close 7 = .ok (.aload_n 0, 1) := by decide +kernel
theorem dX3_close_8 : decode cX3_close 8 = .ok (.getfield 31, 3) := by decide +kernel
theorem dX3_close_11 : decode cX3_close 11 = .ok (.iload_n 1, 1) := by decide +kernel
theorem dX3_close_12 : decode cX3_close 12 = .ok (.iconst 0, 1) := by decide +kernel
theorem dX3_close_13 : decode cX3_close 13 = .ok (.iastore, 1) := by decide +kernel
theorem dX3_close_14 : decode cX3_close 14 = .ok (.aload_n 0, 1) := by decide +kernel
theorem dX3_close_15 : decode cX3_close 15 = .ok (.getfield 34, 3) := by decide +kernel
theorem dX3_close_18 : decode cX3_close 18 = .ok (.iload_n 1, 1) := by decide +kernel
theorem dX3_close_19 : decode cX3_close 19 = .ok (.iconst 0, 1) := by decide +kernel
theorem dX3_close_20 : decode cX3_close 20 = .ok (.iastore, 1) := by decide +kernel
theorem dX3_close_21 : decode cX3_close 21 = .ok (.return_, 1) := by decide +kernel
set_option maxRecDepth 20000 in
theorem ggX3_openForHouse_X3_isShut : GoodIn wsX3_openForHouse wsX3_isShut := goodIn_r _ [8, 9, 10, 11, 12, 13, 14, 15, 16, 17, 18, 19, 20, 21, 22, 23, 24, 25] (by decide +kernel) (by decide +kernel)
set_option maxRecDepth 20000 in
theorem gX3_openForHouse_X3_isShut : GoodIn wsX3_openForHouse (wsV RX3 68 RX3 yX3_isShut wsX3_isShut) := goodIn_app (goodIn_of _ (by decide +kernel)) ggX3_openForHouse_X3_isShut
theorem dX3_openForHouse_0 : decode cX3_openForHouse 0 = .ok (.aload_n 0, 1) := by decide +kernel
theorem dX3_openForHouse_1 : decode cX3_openForHouse 1 = .ok (.getfield 27, 3) := by decide +kernel
theorem dX3_openForHouse_4 : decode cX3_openForHouse 4 = .ok (.iload_n 1, 1) := by decide +kernel
theorem dX3_openForHouse_5 : decode cX3_openForHouse 5 = .ok (.aload_n 0, 1) := by decide +kernel
theorem dX3_openForHouse_6 : decode cX3_openForHouse 6 = .ok (.iload_n 1, 1) := by decide +kernel
theorem dX3_openForHouse_7 : decode cX3_openForHouse 7 = .ok (.invokevirtual 68, 3) := by decide +kernel
theorem dX3_openForHouse_10 : decode cX3_openForHouse 10 = .ok (.ifCond .ne 20, 3) := by decide +kernel
theorem dX3_openForHouse_13 : decode cX3_openForHouse 13 = .ok (.aload_n 0, 1) := by decide +kernel
theorem dX3_openForHouse_14 : decode cX3_openForHouse 14 = .ok (.getfield 55, 3) := by decide +kernel
theorem dX3_openForHouse_17 : decode cX3_openForHouse 17 = .ok (.getfield 72, 3) := by decide +kernel
theorem dX3_openForHouse_20 : decode cX3_openForHouse 20 = .ok (.iload_n 1, 1) := by decide +kernel
theorem dX3_openForHouse_21 : decode cX3_openForHouse 21 = .ok (.iaload, 1) := by decide +kernel
theorem dX3_openForHouse_22 : decode cX3_openForHouse 22 = .ok (.iconst (-1), 1) := by decide +kernel
theorem dX3_openForHouse_23 : decode cX3_openForHouse 23 = .ok (.if_icmp .eq 7, 3) := by decide +kernel
theorem dX3_openForHouse_26 : decode cX3_openForHouse 26 = .ok (.iconst 1, 1) := by decide +kernel
theorem dX3_openForHouse_27 : decode cX3_openForHouse 27 = .ok (.goto 4, 3) := by decide +kernel
theorem dX3_openForHouse_30 : decode cX3_openForHouse 30 = .ok (.iconst 0, 1) := by decide +kernel
theorem dX3_openForHouse_31 : decode cX3_openForHouse 31 = .ok (.bastore, 1) := by decide +kernel
theorem dX3_openForHouse_32 : decode cX3_openForHouse 32 = .ok (.return_, 1) := by decide +kernel
set_option maxRecDepth 20000 in
theorem ggX3_beginShut_X3_close : GoodIn wsX3_beginShut wsX3_close := goodIn_r _ [6, 7, 8, 9, 10, 11, 12, 13, 14, 15, 16, 17, 18, 19, 20, 21, 22, 23, 24, 25] (by decide +kernel) (by decide +kernel)
set_option maxRecDepth 20000 in
theorem gX3_beginShut_X3_close : GoodIn wsX3_beginShut (wsV RX3 75 RX3 yX3_close wsX3_close) := goodIn_app (goodIn_of _ (by decide +kernel)) ggX3_beginShut_X3_close
theorem dX3_beginShut_0 : decode cX3_beginShut 0 = .ok (.aload_n 0, 1) := by decide +kernel
theorem dX3_beginShut_1 : decode cX3_beginShut 1 = .ok (.getfield 24, 3) := by decide +kernel
theorem dX3_beginShut_4 : decode cX3_beginShut 4 = .ok (.iload_n 1, 1) := by decide +kernel
theorem dX3_beginShut_5 : decode cX3_beginShut 5 = .ok (.iload_n 2, 1) := by decide +kernel
theorem dX3_beginShut_6 : decode cX3_beginShut 6 = .ok (.iastore, 1) := by decide +kernel
theorem dX3_beginShut_7 : decode cX3_beginShut 7 = .ok (.aload_n 0, 1) := by decide +kernel
theorem dX3_beginShut_8 : decode cX3_beginShut 8 = .ok (.iload_n 1, 1) := by decide +kernel
theorem dX3_beginShut_9 : decode cX3_beginShut 9 = .ok (.invokevirtual 75, 3) := by decide +kernel
theorem dX3_beginShut_12 : decode cX3_beginShut 12 = .ok (.return_, 1) := by decide +kernel
set_option maxRecDepth 20000 in
theorem ggX3_endShut_X3_openForHouse : GoodIn wsX3_endShut wsX3_openForHouse := goodIn_r _ [6, 7, 8, 9, 10, 11, 12, 5, 13, 1, 14, 15, 16, 17, 18, 19, 20, 21, 22, 23, 24, 25, 26, 27, 28, 29, 30, 31, 32, 33, 34, 35, 36, 37] (by decide +kernel) (by decide +kernel)
set_option maxRecDepth 20000 in
theorem gX3_endShut_X3_openForHouse : GoodIn wsX3_endShut (wsV RX3 79 RX3 yX3_openForHouse wsX3_openForHouse) := goodIn_app (goodIn_of _ (by decide +kernel)) ggX3_endShut_X3_openForHouse
theorem dX3_endShut_0 : decode cX3_endShut 0 = .ok (.aload_n 0, 1) := by decide +kernel
theorem dX3_endShut_1 : decode cX3_endShut 1 = .ok (.getfield 24, 3) := by decide +kernel
theorem dX3_endShut_4 : decode cX3_endShut 4 = .ok (.iload_n 1, 1) := by decide +kernel
theorem dX3_endShut_5 : decode cX3_endShut 5 = .ok (.iconst 0, 1) := by decide +kernel
theorem dX3_endShut_6 : decode cX3_endShut 6 = .ok (.iastore, 1) := by decide +kernel
theorem dX3_endShut_7 : decode cX3_endShut 7 = .ok (.aload_n 0, 1) := by decide +kernel
theorem dX3_endShut_8 : decode cX3_endShut 8 = .ok (.iload_n 1, 1) := by decide +kernel
theorem dX3_endShut_9 : decode cX3_endShut 9 = .ok (.invokevirtual 79, 3) := by decide +kernel
theorem dX3_endShut_12 : decode cX3_endShut 12 = .ok (.return_, 1) := by decide +kernel
set_option maxRecDepth 20000 in
theorem ggX3_pass_X3_tell : GoodIn wsX3_pass wsX3_tell := goodIn_r _ [7, 8, 9, 10, 11, 12, 13, 14, 15, 16, 17, 18, 6, 19, 20, 21, 22, 23, 24, 98, 99, 100, 101, 102, 103, 104, 105, 106, 107, 108, 109, 110, 111, 112, 113, 114, 115, 116, 117, 118, 119, 120, 121] (by decide +kernel) (by decide +kernel)
set_option maxRecDepth 20000 in
theorem gX3_pass_X3_tell : GoodIn wsX3_pass (wsV RX3 82 RX3 yX3_tell wsX3_tell) := goodIn_app (goodIn_of _ (by decide +kernel)) ggX3_pass_X3_tell
set_option maxRecDepth 20000 in
theorem ggX3_pass_X3_guardForHouses : GoodIn wsX3_pass wsX3_guardForHouses := goodIn_r _ [28, 29, 9, 30, 8, 31, 32, 33, 6, 34, 24, 35, 36, 37, 38, 39, 40, 41, 98, 99, 100, 101, 102, 103, 104, 105, 106, 107, 108, 109, 110, 111, 112, 113, 114, 115, 116, 117, 118, 119, 120, 121] (by decide +kernel) (by decide +kernel)
set_option maxRecDepth 20000 in
theorem gX3_pass_X3_guardForHouses : GoodIn wsX3_pass (wsV RX3 85 RX3 yX3_guardForHouses wsX3_guardForHouses) := goodIn_app (goodIn_of _ (by decide +kernel)) ggX3_pass_X3_guardForHouses
set_option maxRecDepth 20000 in
theorem ggX3_pass_X3_takeBest : GoodIn wsX3_pass wsX3_takeBest := goodIn_r _ [45, 11, 13, 15, 46, 9, 30, 8, 47, 48, 49, 50, 51, 52, 6, 53, 14, 12, 54, 55, 56, 57, 58, 10, 59, 60, 61, 62, 63, 64, 98, 99, 100, 101, 102, 103, 104, 105, 106, 107, 108, 109, 110, 111, 112, 113, 114, 115, 116, 117, 118, 119, 120, 121] (by decide +kernel) (by decide +kernel)
set_option maxRecDepth 20000 in
theorem gX3_pass_X3_takeBest : GoodIn wsX3_pass (wsV RX3 88 RX3 yX3_takeBest wsX3_takeBest) := goodIn_app (goodIn_of _ (by decide +kernel)) ggX3_pass_X3_takeBest
set_option maxRecDepth 20000 in
theorem ggX3_pass_X3_turn : GoodIn wsX3_pass wsX3_turn := goodIn_r _ [68, 40, 9, 10, 41, 39, 69, 70, 71, 6, 72, 46, 8, 20, 21, 22, 23, 24, 73, 74, 75, 76, 11, 13, 12, 59, 60, 61, 62, 63, 64, 77, 78, 79, 80, 2, 98, 99, 100, 101, 102, 103, 104, 105, 106, 107, 108, 109, 110, 111, 112, 113, 114, 115, 116, 117, 118, 119, 120, 121] (by decide +kernel) (by decide +kernel)
set_option maxRecDepth 20000 in
theorem gX3_pass_X3_turn : GoodIn wsX3_pass (wsV RX3 91 RX3 yX3_turn wsX3_turn) := goodIn_app (goodIn_of _ (by decide +kernel)) ggX3_pass_X3_turn
set_option maxRecDepth 20000 in
theorem ggX3_pass_X3_spreadStale : GoodIn wsX3_pass wsX3_spreadStale := goodIn_r _ [84, 2, 9, 10, 16, 17, 18, 6, 19, 20, 21, 22, 23, 24, 98, 99, 100, 101, 102, 103, 104, 105, 106, 107, 108, 109, 110, 111, 112, 113, 114, 115, 116, 117, 118, 119, 120, 121] (by decide +kernel) (by decide +kernel)
set_option maxRecDepth 20000 in
theorem gX3_pass_X3_spreadStale : GoodIn wsX3_pass (wsV RX3 94 RX3 yX3_spreadStale wsX3_spreadStale) := goodIn_app (goodIn_of _ (by decide +kernel)) ggX3_pass_X3_spreadStale
set_option maxRecDepth 20000 in
theorem ggX3_pass_X3_endStorms : GoodIn wsX3_pass wsX3_endStorms := goodIn_r _ [88, 24, 1, 89, 90, 91, 6, 92, 93, 94, 95, 96, 39, 9, 97, 20, 21, 22, 23, 98, 99, 100, 101, 102, 103, 104, 105, 106, 107, 108, 109, 110, 111, 112, 113, 114, 115, 116, 117, 118, 119, 120, 121] (by decide +kernel) (by decide +kernel)
set_option maxRecDepth 20000 in
theorem gX3_pass_X3_endStorms : GoodIn wsX3_pass (wsV RX3 97 RX3 yX3_endStorms wsX3_endStorms) := goodIn_app (goodIn_of _ (by decide +kernel)) ggX3_pass_X3_endStorms
theorem dX3_pass_0 : decode cX3_pass 0 = .ok (.aload_n 0, 1) := by decide +kernel
theorem dX3_pass_1 : decode cX3_pass 1 = .ok (.dup, 1) := by decide +kernel
theorem dX3_pass_2 : decode cX3_pass 2 = .ok (.getfield 59, 3) := by decide +kernel
theorem dX3_pass_5 : decode cX3_pass 5 = .ok (.iconst 1, 1) := by decide +kernel
theorem dX3_pass_6 : decode cX3_pass 6 = .ok (.iadd, 1) := by decide +kernel
theorem dX3_pass_7 : decode cX3_pass 7 = .ok (.putfield 59, 3) := by decide +kernel
theorem dX3_pass_10 : decode cX3_pass 10 = .ok (.aload_n 0, 1) := by decide +kernel
theorem dX3_pass_11 : decode cX3_pass 11 = .ok (.invokevirtual 82, 3) := by decide +kernel
theorem dX3_pass_14 : decode cX3_pass 14 = .ok (.aload_n 0, 1) := by decide +kernel
theorem dX3_pass_15 : decode cX3_pass 15 = .ok (.invokevirtual 85, 3) := by decide +kernel
theorem dX3_pass_18 : decode cX3_pass 18 = .ok (.iconst 0, 1) := by decide +kernel
theorem dX3_pass_19 : decode cX3_pass 19 = .ok (.istore_n 1, 1) := by decide +kernel
theorem dX3_pass_20 : decode cX3_pass 20 = .ok (.iload_n 1, 1) := by decide +kernel
theorem dX3_pass_21 : decode cX3_pass 21 = .ok (.bipush 6, 2) := by decide +kernel
theorem dX3_pass_23 : decode cX3_pass 23 = .ok (.if_icmp .ge 21, 3) := by decide +kernel
theorem dX3_pass_26 : decode cX3_pass 26 = .ok (.aload_n 0, 1) := by decide +kernel
theorem dX3_pass_27 : decode cX3_pass 27 = .ok (.getfield 49, 3) := by decide +kernel
theorem dX3_pass_30 : decode cX3_pass 30 = .ok (.iload_n 1, 1) := by decide +kernel
theorem dX3_pass_31 : decode cX3_pass 31 = .ok (.iconst 0, 1) := by decide +kernel
theorem dX3_pass_32 : decode cX3_pass 32 = .ok (.bastore, 1) := by decide +kernel
theorem dX3_pass_33 : decode cX3_pass 33 = .ok (.aload_n 0, 1) := by decide +kernel
theorem dX3_pass_34 : decode cX3_pass 34 = .ok (.iload_n 1, 1) := by decide +kernel
theorem dX3_pass_35 : decode cX3_pass 35 = .ok (.invokevirtual 88, 3) := by decide +kernel
theorem dX3_pass_38 : decode cX3_pass 38 = .ok (.iinc 1 1, 3) := by decide +kernel
theorem dX3_pass_41 : decode cX3_pass 41 = .ok (.goto (-21), 3) := by decide +kernel
theorem dX3_pass_44 : decode cX3_pass 44 = .ok (.iconst 0, 1) := by decide +kernel
theorem dX3_pass_45 : decode cX3_pass 45 = .ok (.istore_n 1, 1) := by decide +kernel
theorem dX3_pass_46 : decode cX3_pass 46 = .ok (.iload_n 1, 1) := by decide +kernel
theorem dX3_pass_47 : decode cX3_pass 47 = .ok (.bipush 30, 2) := by decide +kernel
theorem dX3_pass_49 : decode cX3_pass 49 = .ok (.if_icmp .ge 14, 3) := by decide +kernel
theorem dX3_pass_52 : decode cX3_pass 52 = .ok (.aload_n 0, 1) := by decide +kernel
theorem dX3_pass_53 : decode cX3_pass 53 = .ok (.iload_n 1, 1) := by decide +kernel
theorem dX3_pass_54 : decode cX3_pass 54 = .ok (.invokevirtual 91, 3) := by decide +kernel
theorem dX3_pass_57 : decode cX3_pass 57 = .ok (.iinc 1 1, 3) := by decide +kernel
theorem dX3_pass_60 : decode cX3_pass 60 = .ok (.goto (-14), 3) := by decide +kernel
theorem dX3_pass_63 : decode cX3_pass 63 = .ok (.aload_n 0, 1) := by decide +kernel
theorem dX3_pass_64 : decode cX3_pass 64 = .ok (.invokevirtual 94, 3) := by decide +kernel
theorem dX3_pass_67 : decode cX3_pass 67 = .ok (.aload_n 0, 1) := by decide +kernel
theorem dX3_pass_68 : decode cX3_pass 68 = .ok (.invokevirtual 97, 3) := by decide +kernel
theorem dX3_pass_71 : decode cX3_pass 71 = .ok (.return_, 1) := by decide +kernel
set_option maxRecDepth 20000 in
theorem ggX3_tell_X3_isJoined : GoodIn wsX3_tell wsX3_isJoined := goodIn_r _ [13, 2, 3, 14, 15, 16, 12, 17, 18, 19, 20, 21, 22, 23, 24, 25, 26, 27, 28, 29, 30, 31, 32, 33, 34, 35, 36, 37, 38, 39, 40, 41, 42] (by decide +kernel) (by decide +kernel)
set_option maxRecDepth 20000 in
theorem gX3_tell_X3_isJoined : GoodIn wsX3_tell (wsV RX3 100 RX3 yX3_isJoined wsX3_isJoined) := goodIn_app (goodIn_of _ (by decide +kernel)) ggX3_tell_X3_isJoined
theorem dX3_tell_0 : decode cX3_tell 0 = .ok (.iconst 0, 1) := by decide +kernel
theorem dX3_tell_1 : decode cX3_tell 1 = .ok (.istore_n 1, 1) := by decide +kernel
theorem dX3_tell_2 : decode cX3_tell 2 = .ok (.iload_n 1, 1) := by decide +kernel
theorem dX3_tell_3 : decode cX3_tell 3 = .ok (.bipush 30, 2) := by decide +kernel
theorem dX3_tell_5 : decode cX3_tell 5 = .ok (.if_icmp .ge 72, 3) := by decide +kernel
theorem dX3_tell_8 : decode cX3_tell 8 = .ok (.aload_n 0, 1) := by decide +kernel
theorem dX3_tell_9 : decode cX3_tell 9 = .ok (.getfield 37, 3) := by decide +kernel
theorem dX3_tell_12 : decode cX3_tell 12 = .ok (.iload_n 1, 1) := by decide +kernel
theorem dX3_tell_13 : decode cX3_tell 13 = .ok (.iconst (-1), 1) := by decide +kernel
theorem dX3_tell_14 : decode cX3_tell 14 = .ok (.iastore, 1) := by decide +kernel
theorem dX3_tell_15 : decode cX3_tell 15 = .ok (.aload_n 0, 1) := by decide +kernel
theorem dX3_tell_16 : decode cX3_tell 16 = .ok (.iload_n 1, 1) := by decide +kernel
theorem dX3_tell_17 : decode cX3_tell 17 = .ok (.invokevirtual 100, 3) := by decide +kernel
theorem dX3_tell_20 : decode cX3_tell 20 = .ok (.ifCond .eq 51, 3) := by decide +kernel
theorem dX3_tell_23 : decode cX3_tell 23 = .ok (.aload_n 0, 1) := by decide +kernel
theorem dX3_tell_24 : decode cX3_tell 24 = .ok (.getfield 55, 3) := by decide +kernel
theorem dX3_tell_27 : decode cX3_tell 27 = .ok (.getfield 63, 3) := by decide +kernel
theorem dX3_tell_30 : decode cX3_tell 30 = .ok (.iload_n 1, 1) := by decide +kernel
theorem dX3_tell_31 : decode cX3_tell 31 = .ok (.iaload, 1) := by decide +kernel
theorem dX3_tell_32 : decode cX3_tell 32 = .ok (.iconst 5, 1) := by decide +kernel
theorem dX3_tell_33 : decode cX3_tell 33 = .ok (.idiv, 1) := by decide +kernel
theorem dX3_tell_34 : decode cX3_tell 34 = .ok (.istore_n 2, 1) := by decide +kernel
theorem dX3_tell_35 : decode cX3_tell 35 = .ok (.aload_n 0, 1) := by decide +kernel
theorem dX3_tell_36 : decode cX3_tell 36 = .ok (.getfield 37, 3) := by decide +kernel
theorem dX3_tell_39 : decode cX3_tell 39 = .ok (.iload_n 1, 1) := by decide +kernel
theorem dX3_tell_40 : decode cX3_tell 40 = .ok (.aload_n 0, 1) := by decide +kernel
theorem dX3_tell_41 : decode cX3_tell 41 = .ok (.getfield 9, 3) := by decide +kernel
theorem dX3_tell_44 : decode cX3_tell 44 = .ok (.iload_n 2, 1) := by decide +kernel
theorem dX3_tell_45 : decode cX3_tell 45 = .ok (.iaload, 1) := by decide +kernel
theorem dX3_tell_46 : decode cX3_tell 46 = .ok (.iastore, 1) := by decide +kernel
theorem dX3_tell_47 : decode cX3_tell 47 = .ok (.aload_n 0, 1) := by decide +kernel
theorem dX3_tell_48 : decode cX3_tell 48 = .ok (.getfield 40, 3) := by decide +kernel
theorem dX3_tell_51 : decode cX3_tell 51 = .ok (.iload_n 1, 1) := by decide +kernel
theorem dX3_tell_52 : decode cX3_tell 52 = .ok (.aload_n 0, 1) := by decide +kernel
theorem dX3_tell_53 : decode cX3_tell 53 = .ok (.getfield 15, 3) := by decide +kernel
theorem dX3_tell_56 : decode cX3_tell 56 = .ok (.iload_n 2, 1) := by decide +kernel
theorem dX3_tell_57 : decode cX3_tell 57 = .ok (.iaload, 1) := by decide +kernel
theorem dX3_tell_58 : decode cX3_tell 58 = .ok (.iastore, 1) := by decide +kernel
theorem dX3_tell_59 : decode cX3_tell 59 = .ok (.aload_n 0, 1) := by decide +kernel
theorem dX3_tell_60 : decode cX3_tell 60 = .ok (.getfield 43, 3) := by decide +kernel
theorem dX3_tell_63 : decode cX3_tell 63 = .ok (.iload_n 1, 1) := by decide +kernel
theorem dX3_tell_64 : decode cX3_tell 64 = .ok (.aload_n 0, 1) := by decide +kernel
theorem dX3_tell_65 : decode cX3_tell 65 = .ok (.getfield 18, 3) := by decide +kernel
theorem dX3_tell_68 : decode cX3_tell 68 = .ok (.iload_n 2, 1) := by decide +kernel
theorem dX3_tell_69 : decode cX3_tell 69 = .ok (.iaload, 1) := by decide +kernel
theorem dX3_tell_70 : decode cX3_tell 70 = .ok (.iastore, 1) := by decide +kernel
theorem dX3_tell_71 : decode cX3_tell 71 = .ok (.iinc 1 1, 3) := by decide +kernel
theorem dX3_tell_74 : decode cX3_tell 74 = .ok (.goto (-72), 3) := by decide +kernel
theorem dX3_tell_77 : decode cX3_tell 77 = .ok (.return_, 1) := by decide +kernel
set_option maxRecDepth 20000 in
theorem ggX3_guardForHouses_X3_beginShut : GoodIn wsX3_guardForHouses wsX3_beginShut := goodIn_r _ [9, 10, 11, 12, 13, 8, 14, 15, 16, 17, 18, 19, 20, 21, 22, 23, 24, 25, 26, 27, 28, 29, 30, 31, 32, 33] (by decide +kernel) (by decide +kernel)
set_option maxRecDepth 20000 in
theorem gX3_guardForHouses_X3_beginShut : GoodIn wsX3_guardForHouses (wsV RX3 106 RX3 yX3_beginShut wsX3_beginShut) := goodIn_app (goodIn_of _ (by decide +kernel)) ggX3_guardForHouses_X3_beginShut
theorem dX3_guardForHouses_0 : decode cX3_guardForHouses 0 = .ok (.iconst 0, 1) := by decide +kernel
theorem dX3_guardForHouses_1 : decode cX3_guardForHouses 1 = .ok (.istore_n 1, 1) := by decide +kernel
theorem dX3_guardForHouses_2 : decode cX3_guardForHouses 2 = .ok (.iload_n 1, 1) := by decide +kernel
theorem dX3_guardForHouses_3 : decode cX3_guardForHouses 3 = .ok (.bipush 30, 2) := by decide +kernel
theorem dX3_guardForHouses_5 : decode cX3_guardForHouses 5 = .ok (.if_icmp .ge 65, 3) := by decide +kernel
theorem dX3_guardForHouses_8 : decode cX3_guardForHouses 8 = .ok (.aload_n 0, 1) := by decide +kernel
theorem dX3_guardForHouses_9 : decode cX3_guardForHouses 9 = .ok (.getfield 46, 3) := by decide +kernel
theorem dX3_guardForHouses_12 : decode cX3_guardForHouses 12 = .ok (.iload_n 1, 1) := by decide +kernel
theorem dX3_guardForHouses_13 : decode cX3_guardForHouses 13 = .ok (.aload_n 0, 1) := by decide +kernel
theorem dX3_guardForHouses_14 : decode cX3_guardForHouses 14 = .ok (.getfield 55, 3) := by decide +kernel
theorem dX3_guardForHouses_17 : decode cX3_guardForHouses 17 = .ok (.getfield 103, 3) := by decide +kernel
theorem dX3_guardForHouses_20 : decode cX3_guardForHouses 20 = .ok (.iload_n 1, 1) := by decide +kernel
theorem dX3_guardForHouses_21 : decode cX3_guardForHouses 21 = .ok (.iaload, 1) := by decide +kernel
theorem dX3_guardForHouses_22 : decode cX3_guardForHouses 22 = .ok (.iconst 2, 1) := by decide +kernel
theorem dX3_guardForHouses_23 : decode cX3_guardForHouses 23 = .ok (.if_icmp .ne 17, 3) := by decide +kernel
theorem dX3_guardForHouses_26 : decode cX3_guardForHouses 26 = .ok (.aload_n 0, 1) := by decide +kernel
theorem dX3_guardForHouses_27 : decode cX3_guardForHouses 27 = .ok (.getfield 37, 3) := by decide +kernel
theorem dX3_guardForHouses_30 : decode cX3_guardForHouses 30 = .ok (.iload_n 1, 1) := by decide +kernel
theorem dX3_guardForHouses_31 : decode cX3_guardForHouses 31 = .ok (.iaload, 1) := by decide +kernel
theorem dX3_guardForHouses_32 : decode cX3_guardForHouses 32 = .ok (.iconst (-1), 1) := by decide +kernel
theorem dX3_guardForHouses_33 : decode cX3_guardForHouses 33 = .ok (.if_icmp .eq 7, 3) := by decide +kernel
theorem dX3_guardForHouses_36 : decode cX3_guardForHouses 36 = .ok (.iconst 1, 1) := by decide +kernel
theorem dX3_guardForHouses_37 : decode cX3_guardForHouses 37 = .ok (.goto 4, 3) := by decide +kernel
theorem dX3_guardForHouses_40 : decode cX3_guardForHouses 40 = .ok (.iconst 0, 1) := by decide +kernel
theorem dX3_guardForHouses_41 : decode cX3_guardForHouses 41 = .ok (.bastore, 1) := by decide +kernel
theorem dX3_guardForHouses_42 : decode cX3_guardForHouses 42 = .ok (.aload_n 0, 1) := by decide +kernel
theorem dX3_guardForHouses_43 : decode cX3_guardForHouses 43 = .ok (.getfield 46, 3) := by decide +kernel
theorem dX3_guardForHouses_46 : decode cX3_guardForHouses 46 = .ok (.iload_n 1, 1) := by decide +kernel
theorem dX3_guardForHouses_47 : decode cX3_guardForHouses 47 = .ok (.baload, 1) := by decide +kernel
theorem dX3_guardForHouses_48 : decode cX3_guardForHouses 48 = .ok (.ifCond .eq 16, 3) := by decide +kernel
theorem dX3_guardForHouses_51 : decode cX3_guardForHouses 51 = .ok (.aload_n 0, 1) := by decide +kernel
theorem dX3_guardForHouses_52 : decode cX3_guardForHouses 52 = .ok (.getfield 37, 3) := by decide +kernel
theorem dX3_guardForHouses_55 : decode cX3_guardForHouses 55 = .ok (.iload_n 1, 1) := by decide +kernel
theorem dX3_guardForHouses_56 : decode cX3_guardForHouses 56 = .ok (.iconst (-1), 1) := by decide +kernel
theorem dX3_guardForHouses_57 : decode cX3_guardForHouses 57 = .ok (.iastore, 1) := by decide +kernel
theorem dX3_guardForHouses_58 : decode cX3_guardForHouses 58 = .ok (.aload_n 0, 1) := by decide +kernel
theorem dX3_guardForHouses_59 : decode cX3_guardForHouses 59 = .ok (.iload_n 1, 1) := by decide +kernel
theorem dX3_guardForHouses_60 : decode cX3_guardForHouses 60 = .ok (.iconst (-1), 1) := by decide +kernel
theorem dX3_guardForHouses_61 : decode cX3_guardForHouses 61 = .ok (.invokevirtual 106, 3) := by decide +kernel
theorem dX3_guardForHouses_64 : decode cX3_guardForHouses 64 = .ok (.iinc 1 1, 3) := by decide +kernel
theorem dX3_guardForHouses_67 : decode cX3_guardForHouses 67 = .ok (.goto (-65), 3) := by decide +kernel
theorem dX3_guardForHouses_70 : decode cX3_guardForHouses 70 = .ok (.return_, 1) := by decide +kernel
set_option maxRecDepth 20000 in
theorem ggX3_takeBest_X5_spotOf : GoodIn wsX3_takeBest wsX5_spotOf := goodIn_r _ [10] (by decide +kernel) (by decide +kernel)
set_option maxRecDepth 20000 in
theorem gX3_takeBest_X5_spotOf_n110 : GoodIn wsX3_takeBest (wsX5_spotOf) := ggX3_takeBest_X5_spotOf
set_option maxRecDepth 20000 in
theorem ggX3_takeBest_X3_offer : GoodIn wsX3_takeBest wsX3_offer := goodIn_r _ [15, 7, 16, 1, 2, 17, 5, 18, 3, 4, 19, 20, 21, 14, 22, 23, 24, 25, 26, 27, 28, 29, 8, 9, 10, 30, 31, 32, 33, 34, 35, 36, 37, 38, 39, 40, 41, 42, 43, 44, 45, 46, 47, 48, 49, 50, 51, 52, 53] (by decide +kernel) (by decide +kernel)
set_option maxRecDepth 20000 in
theorem gX3_takeBest_X3_offer : GoodIn wsX3_takeBest (wsV RX3 114 RX3 yX3_offer wsX3_offer) := goodIn_app (goodIn_of _ (by decide +kernel)) ggX3_takeBest_X3_offer
set_option maxRecDepth 20000 in
theorem ggX3_takeBest_X4_isBetterName : GoodIn wsX3_takeBest wsX4_isBetterName := goodIn_r _ [28, 29, 46, 47, 48, 49, 50, 51, 52, 53] (by decide +kernel) (by decide +kernel)
set_option maxRecDepth 20000 in
theorem gX3_takeBest_X4_isBetterName : GoodIn wsX3_takeBest (wsV RX3 117 RX4 yX4_isBetterName wsX4_isBetterName) := goodIn_app (goodIn_of _ (by decide +kernel)) ggX3_takeBest_X4_isBetterName
theorem dX3_takeBest_0 : decode cX3_takeBest 0 = .ok (.aload_n 0, 1) := by decide +kernel
theorem dX3_takeBest_1 : decode cX3_takeBest 1 = .ok (.getfield 9, 3) := by decide +kernel
theorem dX3_takeBest_4 : decode cX3_takeBest 4 = .ok (.iload_n 1, 1) := by decide +kernel
theorem dX3_takeBest_5 : decode cX3_takeBest 5 = .ok (.iload_n 1, 1) := by decide +kernel
theorem dX3_takeBest_6 : decode cX3_takeBest 6 = .ok (.iastore, 1) := by decide +kernel
theorem dX3_takeBest_7 : decode cX3_takeBest 7 = .ok (.aload_n 0, 1) := by decide +kernel
theorem dX3_takeBest_8 : decode cX3_takeBest 8 = .ok (.getfield 15, 3) := by decide +kernel
theorem dX3_takeBest_11 : decode cX3_takeBest 11 = .ok (.iload_n 1, 1) := by decide +kernel
theorem dX3_takeBest_12 : decode cX3_takeBest 12 = .ok (.iconst 0, 1) := by decide +kernel
theorem dX3_takeBest_13 : decode cX3_takeBest 13 = .ok (.iastore, 1) := by decide +kernel
theorem dX3_takeBest_14 : decode cX3_takeBest 14 = .ok (.aload_n 0, 1) := by decide +kernel
theorem dX3_takeBest_15 : decode cX3_takeBest 15 = .ok (.getfield 18, 3) := by decide +kernel
theorem dX3_takeBest_18 : decode cX3_takeBest 18 = .ok (.iload_n 1, 1) := by decide +kernel
theorem dX3_takeBest_19 : decode cX3_takeBest 19 = .ok (.iconst 0, 1) := by decide +kernel
theorem dX3_takeBest_20 : decode cX3_takeBest 20 = .ok (.iastore, 1) := by decide +kernel
theorem dX3_takeBest_21 : decode cX3_takeBest 21 = .ok (.aload_n 0, 1) := by decide +kernel
theorem dX3_takeBest_22 : decode cX3_takeBest 22 = .ok (.getfield 21, 3) := by decide +kernel
theorem dX3_takeBest_25 : decode cX3_takeBest 25 = .ok (.iload_n 1, 1) := by decide +kernel
theorem dX3_takeBest_26 : decode cX3_takeBest 26 = .ok (.iconst (-1), 1) := by decide +kernel
theorem dX3_takeBest_27 : decode cX3_takeBest 27 = .ok (.iastore, 1) := by decide +kernel
theorem dX3_takeBest_28 : decode cX3_takeBest 28 = .ok (.iload_n 1, 1) := by decide +kernel
theorem dX3_takeBest_29 : decode cX3_takeBest 29 = .ok (.iconst 0, 1) := by decide +kernel
theorem dX3_takeBest_30 : decode cX3_takeBest 30 = .ok (.invokestatic 110, 3) := by decide +kernel
theorem dX3_takeBest_33 : decode cX3_takeBest 33 = .ok (.istore_n 2, 1) := by decide +kernel
theorem dX3_takeBest_34 : decode cX3_takeBest 34 = .ok (.iload_n 2, 1) := by decide +kernel
theorem dX3_takeBest_35 : decode cX3_takeBest 35 = .ok (.istore_n 3, 1) := by decide +kernel
theorem dX3_takeBest_36 : decode cX3_takeBest 36 = .ok (.iload_n 3, 1) := by decide +kernel
theorem dX3_takeBest_37 : decode cX3_takeBest 37 = .ok (.iload_n 2, 1) := by decide +kernel
theorem dX3_takeBest_38 : decode cX3_takeBest 38 = .ok (.iconst 5, 1) := by decide +kernel
theorem dX3_takeBest_39 : decode cX3_takeBest 39 = .ok (.iadd, 1) := by decide +kernel
theorem dX3_takeBest_40 : decode cX3_takeBest 40 = .ok (.if_icmp .ge 28, 3) := by decide +kernel
theorem dX3_takeBest_43 : decode cX3_takeBest 43 = .ok (.aload_n 0, 1) := by decide +kernel
theorem dX3_takeBest_44 : decode cX3_takeBest 44 = .ok (.getfield 55, 3) := by decide +kernel
theorem dX3_takeBest_47 : decode cX3_takeBest 47 = .ok (.getfield 103, 3) := by decide +kernel
theorem dX3_takeBest_50 : decode cX3_takeBest 50 = .ok (.iload_n 3, 1) := by decide +kernel
theorem dX3_takeBest_51 : decode cX3_takeBest 51 = .ok (.iaload, 1) := by decide +kernel
theorem dX3_takeBest_52 : decode cX3_takeBest 52 = .ok (.iconst 1, 1) := by decide +kernel
theorem dX3_takeBest_53 : decode cX3_takeBest 53 = .ok (.if_icmp .eq 9, 3) := by decide +kernel
theorem dX3_takeBest_56 : decode cX3_takeBest 56 = .ok (.aload_n 0, 1) := by decide +kernel
theorem dX3_takeBest_57 : decode cX3_takeBest 57 = .ok (.iload_n 1, 1) := by decide +kernel
theorem dX3_takeBest_58 : decode cX3_takeBest 58 = .ok (.iload_n 3, 1) := by decide +kernel
theorem dX3_takeBest_59 : decode cX3_takeBest 59 = .ok (.invokevirtual 114, 3) := by decide +kernel
theorem dX3_takeBest_62 : decode cX3_takeBest 62 = .ok (.iinc 3 1, 3) := by decide +kernel
theorem dX3_takeBest_65 : decode cX3_takeBest 65 = .ok (.goto (-29), 3) := by decide +kernel
theorem dX3_takeBest_68 : decode cX3_takeBest 68 = .ok (.aload_n 0, 1) := by decide +kernel
theorem dX3_takeBest_69 : decode cX3_takeBest 69 = .ok (.getfield 9, 3) := by decide +kernel
theorem dX3_takeBest_72 : decode cX3_takeBest 72 = .ok (.iload_n 1, 1) := by decide +kernel
theorem dX3_takeBest_73 : decode cX3_takeBest 73 = .ok (.iaload, 1) := by decide +kernel
theorem dX3_takeBest_74 : decode cX3_takeBest 74 = .ok (.istore_n 3, 1) := by decide +kernel
theorem dX3_takeBest_75 : decode cX3_takeBest 75 = .ok (.iload_n 2, 1) := by decide +kernel
theorem dX3_takeBest_76 : decode cX3_takeBest 76 = .ok (.istore 4, 2) := by decide +kernel
theorem dX3_takeBest_78 : decode cX3_takeBest 78 = .ok (.iload 4, 2) := by decide +kernel
theorem dX3_takeBest_80 : decode cX3_takeBest 80 = .ok (.iload_n 2, 1) := by decide +kernel
theorem dX3_takeBest_81 : decode cX3_takeBest 81 = .ok (.iconst 5, 1) := by decide +kernel
theorem dX3_takeBest_82 : decode cX3_takeBest 82 = .ok (.iadd, 1) := by decide +kernel
theorem dX3_takeBest_83 : decode cX3_takeBest 83 = .ok (.if_icmp .ge 59, 3) := by decide +kernel
theorem dX3_takeBest_86 : decode cX3_takeBest 86 = .ok (.aload_n 0, 1) := by decide +kernel
theorem dX3_takeBest_87 : decode cX3_takeBest 87 = .ok (.getfield 55, 3) := by decide +kernel
theorem dX3_takeBest_90 : decode cX3_takeBest 90 = .ok (.getfield 103, 3) := by decide +kernel
theorem dX3_takeBest_93 : decode cX3_takeBest 93 = .ok (.iload 4, 2) := by decide +kernel
theorem dX3_takeBest_95 : decode cX3_takeBest 95 = .ok (.iaload, 1) := by decide +kernel
theorem dX3_takeBest_96 : decode cX3_takeBest 96 = .ok (.iconst 1, 1) := by decide +kernel
theorem dX3_takeBest_97 : decode cX3_takeBest 97 = .ok (.if_icmp .ne 39, 3) := by decide +kernel
theorem dX3_takeBest_100 : decode cX3_takeBest 100 = .ok (.aload_n 0, 1) := by decide +kernel
theorem dX3_takeBest_101 : decode cX3_takeBest 101 = .ok (.getfield 37, 3) := by decide +kernel
theorem dX3_takeBest_104 : decode cX3_takeBest 104 = .ok (.iload 4, 2) := by decide +kernel
theorem dX3_takeBest_106 : decode cX3_takeBest 106 = .ok (.iaload, 1) := by decide +kernel
theorem dX3_takeBest_107 : decode cX3_takeBest 107 = .ok (.iconst (-1), 1) := by decide +kernel
theorem dX3_takeBest_108 : decode cX3_takeBest 108 = .ok (.if_icmp .eq 28, 3) := by decide +kernel
theorem dX3_takeBest_111 : decode cX3_takeBest 111 = .ok (.aload_n 0, 1) := by decide +kernel
theorem dX3_takeBest_112 : decode cX3_takeBest 112 = .ok (.getfield 55, 3) := by decide +kernel
theorem dX3_takeBest_115 : decode cX3_takeBest 115 = .ok (.aload_n 0, 1) := by decide +kernel
theorem dX3_takeBest_116 : decode cX3_takeBest 116 = .ok (.getfield 37, 3) := by decide +kernel
theorem dX3_takeBest_119 : decode cX3_takeBest 119 = .ok (.iload 4, 2) := by decide +kernel
theorem dX3_takeBest_121 : decode cX3_takeBest 121 = .ok (.iaload, 1) := by decide +kernel
theorem dX3_takeBest_122 : decode cX3_takeBest 122 = .ok (.iload_n 3, 1) := by decide +kernel
theorem dX3_takeBest_123 : decode cX3_takeBest 123 = .ok (.invokevirtual 117, 3) := by decide +kernel
theorem dX3_takeBest_126 : decode cX3_takeBest 126 = .ok (.ifCond .ne 10, 3) := by decide +kernel
theorem dX3_takeBest_129 : decode cX3_takeBest 129 = .ok (.aload_n 0, 1) := by decide +kernel
theorem dX3_takeBest_130 : decode cX3_takeBest 130 = .ok (.iload_n 1, 1) := by decide +kernel
theorem dX3_takeBest_131 : decode cX3_takeBest 131 = .ok (.iload 4, 2) := by decide +kernel
theorem dX3_takeBest_133 : decode cX3_takeBest 133 = .ok (.invokevirtual 114, 3) := by decide +kernel
theorem dX3_takeBest_136 : decode cX3_takeBest 136 = .ok (.iinc 4 1, 3) := by decide +kernel
theorem dX3_takeBest_139 : decode cX3_takeBest 139 = .ok (.goto (-61), 3) := by decide +kernel
theorem dX3_takeBest_142 : decode cX3_takeBest 142 = .ok (.return_, 1) := by decide +kernel
set_option maxRecDepth 20000 in
theorem ggX3_offer_X3_isBetterThanHeld : GoodIn wsX3_offer wsX3_isBetterThanHeld := goodIn_r _ [14, 1, 3, 6, 5, 7, 4, 9, 15, 16, 17, 18, 19, 20, 21, 22, 23, 24, 25, 26, 27, 28, 29, 30, 31, 32, 33, 34, 35, 36, 37, 38, 39, 40, 41, 42, 43, 44, 45, 46, 47, 48] (by decide +kernel) (by decide +kernel)
set_option maxRecDepth 20000 in
theorem gX3_offer_X3_isBetterThanHeld : GoodIn wsX3_offer (wsV RX3 121 RX3 yX3_isBetterThanHeld wsX3_isBetterThanHeld) := goodIn_app (goodIn_of _ (by decide +kernel)) ggX3_offer_X3_isBetterThanHeld
theorem dX3_offer_0 : decode cX3_offer 0 = .ok (.aload_n 0, 1) := by decide +kernel
theorem dX3_offer_1 : decode cX3_offer 1 = .ok (.getfield 37, 3) := by decide +kernel
theorem dX3_offer_4 : decode cX3_offer 4 = .ok (.iload_n 2, 1) := by decide +kernel
theorem dX3_offer_5 : decode cX3_offer 5 = .ok (.iaload, 1) := by decide +kernel
theorem dX3_offer_6 : decode cX3_offer 6 = .ok (.iconst (-1), 1) := by decide +kernel
theorem dX3_offer_7 : decode cX3_offer 7 = .ok (.if_icmp .eq 23, 3) := by decide +kernel
theorem dX3_offer_10 : decode cX3_offer 10 = .ok (.aload_n 0, 1) := by decide +kernel
theorem dX3_offer_11 : decode cX3_offer 11 = .ok (.getfield 43, 3) := by decide +kernel
theorem dX3_offer_14 : decode cX3_offer 14 = .ok (.iload_n 2, 1) := by decide +kernel
theorem dX3_offer_15 : decode cX3_offer 15 = .ok (.iaload, 1) := by decide +kernel
theorem dX3_offer_16 : decode cX3_offer 16 = .ok (.bipush 7, 2) := by decide +kernel
theorem dX3_offer_18 : decode cX3_offer 18 = .ok (.if_icmp .ge 12, 3) := by decide +kernel
theorem dX3_offer_21 : decode cX3_offer 21 = .ok (.aload_n 0, 1) := by decide +kernel
theorem dX3_offer_22 : decode cX3_offer 22 = .ok (.iload_n 1, 1) := by decide +kernel
theorem dX3_offer_23 : decode cX3_offer 23 = .ok (.iload_n 2, 1) := by decide +kernel
theorem dX3_offer_24 : decode cX3_offer 24 = .ok (.invokevirtual 121, 3) := by decide +kernel
theorem dX3_offer_27 : decode cX3_offer 27 = .ok (.ifCond .ne 4, 3) := by decide +kernel
theorem dX3_offer_30 : decode cX3_offer 30 = .ok (.return_, 1) := by decide +kernel
theorem dX3_offer_31 : decode cX3_offer 31 = .ok (.aload_n 0, 1) := by decide +kernel
theorem dX3_offer_32 : decode cX3_offer 32 = .ok (.getfield 9, 3) := by decide +kernel
theorem dX3_offer_35 : decode cX3_offer 35 = .ok (.iload_n 1, 1) := by decide +kernel
theorem dX3_offer_36 : decode cX3_offer 36 = .ok (.aload_n 0, 1) := by decide +kernel
theorem dX3_offer_37 : decode cX3_offer 37 = .ok (.getfield 37, 3) := by decide +kernel
theorem dX3_offer_40 : decode cX3_offer 40 = .ok (.iload_n 2, 1) := by decide +kernel
theorem dX3_offer_41 : decode cX3_offer 41 = .ok (.iaload, 1) := by decide +kernel
theorem dX3_offer_42 : decode cX3_offer 42 = .ok (.iastore, 1) := by decide +kernel
theorem dX3_offer_43 : decode cX3_offer 43 = .ok (.aload_n 0, 1) := by decide +kernel
theorem dX3_offer_44 : decode cX3_offer 44 = .ok (.getfield 15, 3) := by decide +kernel
theorem dX3_offer_47 : decode cX3_offer 47 = .ok (.iload_n 1, 1) := by decide +kernel
theorem dX3_offer_48 : decode cX3_offer 48 = .ok (.aload_n 0, 1) := by decide +kernel
theorem dX3_offer_49 : decode cX3_offer 49 = .ok (.getfield 40, 3) := by decide +kernel
theorem dX3_offer_52 : decode cX3_offer 52 = .ok (.iload_n 2, 1) := by decide +kernel
theorem dX3_offer_53 : decode cX3_offer 53 = .ok (.iaload, 1) := by decide +kernel
theorem dX3_offer_54 : decode cX3_offer 54 = .ok (.aload_n 0, 1) := by decide +kernel
theorem dX3_offer_55 : decode cX3_offer 55 = .ok (.getfield 55, 3) := by decide +kernel
theorem dX3_offer_58 : decode cX3_offer 58 = .ok (.getfield 124, 3) := by decide +kernel
theorem dX3_offer_61 : decode cX3_offer 61 = .ok (.iload_n 2, 1) := by decide +kernel
theorem dX3_offer_62 : decode cX3_offer 62 = .ok (.iaload, 1) := by decide +kernel
theorem dX3_offer_63 : decode cX3_offer 63 = .ok (.iadd, 1) := by decide +kernel
theorem dX3_offer_64 : decode cX3_offer 64 = .ok (.iastore, 1) := by decide +kernel
theorem dX3_offer_65 : decode cX3_offer 65 = .ok (.aload_n 0, 1) := by decide +kernel
theorem dX3_offer_66 : decode cX3_offer 66 = .ok (.getfield 18, 3) := by decide +kernel
theorem dX3_offer_69 : decode cX3_offer 69 = .ok (.iload_n 1, 1) := by decide +kernel
theorem dX3_offer_70 : decode cX3_offer 70 = .ok (.aload_n 0, 1) := by decide +kernel
theorem dX3_offer_71 : decode cX3_offer 71 = .ok (.getfield 43, 3) := by decide +kernel
theorem dX3_offer_74 : decode cX3_offer 74 = .ok (.iload_n 2, 1) := by decide +kernel
theorem dX3_offer_75 : decode cX3_offer 75 = .ok (.iaload, 1) := by decide +kernel
theorem dX3_offer_76 : decode cX3_offer 76 = .ok (.iconst 1, 1) := by decide +kernel
theorem dX3_offer_77 : decode cX3_offer 77 = .ok (.iadd, 1) := by decide +kernel
theorem dX3_offer_78 : decode cX3_offer 78 = .ok (.iastore, 1) := by decide +kernel
theorem dX3_offer_79 : decode cX3_offer 79 = .ok (.aload_n 0, 1) := by decide +kernel
theorem dX3_offer_80 : decode cX3_offer 80 = .ok (.getfield 21, 3) := by decide +kernel
theorem dX3_offer_83 : decode cX3_offer 83 = .ok (.iload_n 1, 1) := by decide +kernel
theorem dX3_offer_84 : decode cX3_offer 84 = .ok (.iload_n 2, 1) := by decide +kernel
theorem dX3_offer_85 : decode cX3_offer 85 = .ok (.iconst 5, 1) := by decide +kernel
theorem dX3_offer_86 : decode cX3_offer 86 = .ok (.irem, 1) := by decide +kernel
theorem dX3_offer_87 : decode cX3_offer 87 = .ok (.iastore, 1) := by decide +kernel
theorem dX3_offer_88 : decode cX3_offer 88 = .ok (.return_, 1) := by decide +kernel
set_option maxRecDepth 20000 in
theorem ggX3_isBetterThanHeld_X4_isBetterName : GoodIn wsX3_isBetterThanHeld wsX4_isBetterName := goodIn_r _ [13, 14, 34, 35, 36, 37, 38, 39, 40, 41] (by decide +kernel) (by decide +kernel)
set_option maxRecDepth 20000 in
theorem gX3_isBetterThanHeld_X4_isBetterName : GoodIn wsX3_isBetterThanHeld (wsV RX3 117 RX4 yX4_isBetterName wsX4_isBetterName) := goodIn_app (goodIn_of _ (by decide +kernel)) ggX3_isBetterThanHeld_X4_isBetterName
set_option maxRecDepth 20000 in
theorem ggX3_isBetterThanHeld_X5_spotOf : GoodIn wsX3_isBetterThanHeld wsX5_spotOf := goodIn_r _ [17] (by decide +kernel) (by decide +kernel)
set_option maxRecDepth 20000 in
theorem gX3_isBetterThanHeld_X5_spotOf_n110 : GoodIn wsX3_isBetterThanHeld (wsX5_spotOf) := ggX3_isBetterThanHeld_X5_spotOf
theorem dX3_isBetterThanHeld_0 : decode cX3_isBetterThanHeld 0 = .ok (.aload_n 0, 1) := by decide +kernel
theorem dX3_isBetterThanHeld_1 : decode cX3_isBetterThanHeld 1 = .ok (.getfield 37, 3) := by decide +kernel
theorem dX3_isBetterThanHeld_4 : decode cX3_isBetterThanHeld 4 = .ok (.iload_n 2, 1) := by decide +kernel
theorem dX3_isBetterThanHeld_5 : decode cX3_isBetterThanHeld 5 = .ok (.iaload, 1) := by decide +kernel
theorem dX3_isBetterThanHeld_6 : decode cX3_isBetterThanHeld 6 = .ok (.aload_n 0, 1) := by decide +kernel
theorem dX3_isBetterThanHeld_7 : decode cX3_isBetterThanHeld 7 = .ok (.getfield 9, 3) := by decide +kernel
theorem dX3_isBetterThanHeld_10 : decode cX3_isBetterThanHeld 10 = .ok (.iload_n 1, 1) := by decide +kernel
theorem dX3_isBetterThanHeld_11 : decode cX3_isBetterThanHeld 11 = .ok (.iaload, 1) := by decide +kernel
theorem dX3_isBetterThanHeld_12 : decode cX3_isBetterThanHeld 12 = .ok (.if_icmp .eq 23, 3) := by decide +kernel
theorem dX3_isBetterThanHeld_15 : decode cX3_isBetterThanHeld 15 = .ok (.aload_n 0, 1) := by decide +kernel
theorem dX3_isBetterThanHeld_16 : decode cX3_isBetterThanHeld 16 = .ok (.getfield 55, 3) := by decide +kernel
theorem dX3_isBetterThanHeld_19 : decode cX3_isBetterThanHeld 19 = .ok (.aload_n 0, 1) := by decide +kernel
theorem dX3_isBetterThanHeld_20 : decode cX3_isBetterThanHeld 20 = .ok (.getfield 37, 3) := by decide +kernel
theorem dX3_isBetterThanHeld_23 : decode cX3_isBetterThanHeld 23 = .ok (.iload_n 2, 1) := by decide +kernel
theorem dX3_isBetterThanHeld_24 : decode cX3_isBetterThanHeld 24 = .ok (.iaload, 1) := by decide +kernel
theorem dX3_isBetterThanHeld_25 : decode cX3_isBetterThanHeld 25 = .ok (.aload_n 0, 1) := by decide +kernel
theorem dX3_isBetterThanHeld_26 : decode cX3_isBetterThanHeld 26 = .ok (.getfield 9, 3) := by decide +kernel
theorem dX3_isBetterThanHeld_29 : decode cX3_isBetterThanHeld 29 = .ok (.iload_n 1, 1) := by decide +kernel
theorem dX3_isBetterThanHeld_30 : decode cX3_isBetterThanHeld 30 = .ok (.iaload, 1) := by decide +kernel
theorem dX3_isBetterThanHeld_31 : decode cX3_isBetterThanHeld 31 = .ok (.invokevirtual 117, 3) := by decide +kernel
theorem dX3_isBetterThanHeld_34 : decode cX3_isBetterThanHeld 34 = .ok (.ireturn, 1) := by decide +kernel
theorem dX3_isBetterThanHeld_35 : decode cX3_isBetterThanHeld 35 = .ok (.aload_n 0, 1) := by decide +kernel
theorem dX3_isBetterThanHeld_36 : decode cX3_isBetterThanHeld 36 = .ok (.getfield 40, 3) := by decide +kernel
theorem dX3_isBetterThanHeld_39 : decode cX3_isBetterThanHeld 39 = .ok (.iload_n 2, 1) := by decide +kernel
theorem dX3_isBetterThanHeld_40 : decode cX3_isBetterThanHeld 40 = .ok (.iaload, 1) := by decide +kernel
theorem dX3_isBetterThanHeld_41 : decode cX3_isBetterThanHeld 41 = .ok (.aload_n 0, 1) := by decide +kernel
theorem dX3_isBetterThanHeld_42 : decode cX3_isBetterThanHeld 42 = .ok (.getfield 55, 3) := by decide +kernel
theorem dX3_isBetterThanHeld_45 : decode cX3_isBetterThanHeld 45 = .ok (.getfield 124, 3) := by decide +kernel
theorem dX3_isBetterThanHeld_48 : decode cX3_isBetterThanHeld 48 = .ok (.iload_n 2, 1) := by decide +kernel
theorem dX3_isBetterThanHeld_49 : decode cX3_isBetterThanHeld 49 = .ok (.iaload, 1) := by decide +kernel
theorem dX3_isBetterThanHeld_50 : decode cX3_isBetterThanHeld 50 = .ok (.iadd, 1) := by decide +kernel
theorem dX3_isBetterThanHeld_51 : decode cX3_isBetterThanHeld 51 = .ok (.istore_n 3, 1) := by decide +kernel
theorem dX3_isBetterThanHeld_52 : decode cX3_isBetterThanHeld 52 = .ok (.iload_n 3, 1) := by decide +kernel
theorem dX3_isBetterThanHeld_53 : decode cX3_isBetterThanHeld 53 = .ok (.aload_n 0, 1) := by decide +kernel
theorem dX3_isBetterThanHeld_54 : decode cX3_isBetterThanHeld 54 = .ok (.getfield 15, 3) := by decide +kernel
theorem dX3_isBetterThanHeld_57 : decode cX3_isBetterThanHeld 57 = .ok (.iload_n 1, 1) := by decide +kernel
theorem dX3_isBetterThanHeld_58 : decode cX3_isBetterThanHeld 58 = .ok (.iaload, 1) := by decide +kernel
theorem dX3_isBetterThanHeld_59 : decode cX3_isBetterThanHeld 59 = .ok (.if_icmp .ne 13, 3) := by decide +kernel
theorem dX3_isBetterThanHeld_62 : decode cX3_isBetterThanHeld 62 = .ok (.aload_n 0, 1) := by decide +kernel
theorem dX3_isBetterThanHeld_63 : decode cX3_isBetterThanHeld 63 = .ok (.getfield 21, 3) := by decide +kernel
theorem dX3_isBetterThanHeld_66 : decode cX3_isBetterThanHeld 66 = .ok (.iload_n 1, 1) := by decide +kernel
theorem dX3_isBetterThanHeld_67 : decode cX3_isBetterThanHeld 67 = .ok (.iaload, 1) := by decide +kernel
theorem dX3_isBetterThanHeld_68 : decode cX3_isBetterThanHeld 68 = .ok (.iconst (-1), 1) := by decide +kernel
theorem dX3_isBetterThanHeld_69 : decode cX3_isBetterThanHeld 69 = .ok (.if_icmp .ne 19, 3) := by decide +kernel
theorem dX3_isBetterThanHeld_72 : decode cX3_isBetterThanHeld 72 = .ok (.iload_n 3, 1) := by decide +kernel
theorem dX3_isBetterThanHeld_73 : decode cX3_isBetterThanHeld 73 = .ok (.aload_n 0, 1) := by decide +kernel
theorem dX3_isBetterThanHeld_74 : decode cX3_isBetterThanHeld 74 = .ok (.getfield 15, 3) := by decide +kernel
theorem dX3_isBetterThanHeld_77 : decode cX3_isBetterThanHeld 77 = .ok (.iload_n 1, 1) := by decide +kernel
theorem dX3_isBetterThanHeld_78 : decode cX3_isBetterThanHeld 78 = .ok (.iaload, 1) := by decide +kernel
theorem dX3_isBetterThanHeld_79 : decode cX3_isBetterThanHeld 79 = .ok (.if_icmp .ge 7, 3) := by decide +kernel
theorem dX3_isBetterThanHeld_82 : decode cX3_isBetterThanHeld 82 = .ok (.iconst 1, 1) := by decide +kernel
theorem dX3_isBetterThanHeld_83 : decode cX3_isBetterThanHeld 83 = .ok (.goto 4, 3) := by decide +kernel
theorem dX3_isBetterThanHeld_86 : decode cX3_isBetterThanHeld 86 = .ok (.iconst 0, 1) := by decide +kernel
theorem dX3_isBetterThanHeld_87 : decode cX3_isBetterThanHeld 87 = .ok (.ireturn, 1) := by decide +kernel
theorem dX3_isBetterThanHeld_88 : decode cX3_isBetterThanHeld 88 = .ok (.aload_n 0, 1) := by decide +kernel
theorem dX3_isBetterThanHeld_89 : decode cX3_isBetterThanHeld 89 = .ok (.getfield 55, 3) := by decide +kernel
theorem dX3_isBetterThanHeld_92 : decode cX3_isBetterThanHeld 92 = .ok (.getfield 63, 3) := by decide +kernel
theorem dX3_isBetterThanHeld_95 : decode cX3_isBetterThanHeld 95 = .ok (.iload_n 2, 1) := by decide +kernel
theorem dX3_isBetterThanHeld_96 : decode cX3_isBetterThanHeld 96 = .ok (.iaload, 1) := by decide +kernel
theorem dX3_isBetterThanHeld_97 : decode cX3_isBetterThanHeld 97 = .ok (.istore 4, 2) := by decide +kernel
theorem dX3_isBetterThanHeld_99 : decode cX3_isBetterThanHeld 99 = .ok (.aload_n 0, 1) := by decide +kernel
theorem dX3_isBetterThanHeld_100 : decode cX3_isBetterThanHeld 100 = .ok (.getfield 55, 3) := by decide +kernel
theorem dX3_isBetterThanHeld_103 : decode cX3_isBetterThanHeld 103 = .ok (.getfield 63, 3) := by decide +kernel
theorem dX3_isBetterThanHeld_106 : decode cX3_isBetterThanHeld 106 = .ok (.iload_n 1, 1) := by decide +kernel
theorem dX3_isBetterThanHeld_107 : decode cX3_isBetterThanHeld 107 = .ok (.aload_n 0, 1) := by decide +kernel
theorem dX3_isBetterThanHeld_108 : decode cX3_isBetterThanHeld 108 = .ok (.getfield 21, 3) := by decide +kernel
theorem dX3_isBetterThanHeld_111 : decode cX3_isBetterThanHeld 111 = .ok (.iload_n 1, 1) := by decide +kernel
theorem dX3_isBetterThanHeld_112 : decode cX3_isBetterThanHeld 112 = .ok (.iaload, 1) := by decide +kernel
theorem dX3_isBetterThanHeld_113 : decode cX3_isBetterThanHeld 113 = .ok (.invokestatic 110, 3) := by decide +kernel
theorem dX3_isBetterThanHeld_116 : decode cX3_isBetterThanHeld 116 = .ok (.iaload, 1) := by decide +kernel
theorem dX3_isBetterThanHeld_117 : decode cX3_isBetterThanHeld 117 = .ok (.istore 5, 2) := by decide +kernel
theorem dX3_isBetterThanHeld_119 : decode cX3_isBetterThanHeld 119 = .ok (.iload 4, 2) := by decide +kernel
theorem dX3_isBetterThanHeld_121 : decode cX3_isBetterThanHeld 121 = .ok (.iconst 5, 1) := by decide +kernel
theorem dX3_isBetterThanHeld_122 : decode cX3_isBetterThanHeld 122 = .ok (.idiv, 1) := by decide +kernel
theorem dX3_isBetterThanHeld_123 : decode cX3_isBetterThanHeld 123 = .ok (.iload 5, 2) := by decide +kernel
theorem dX3_isBetterThanHeld_125 : decode cX3_isBetterThanHeld 125 = .ok (.iconst 5, 1) := by decide +kernel
theorem dX3_isBetterThanHeld_126 : decode cX3_isBetterThanHeld 126 = .ok (.idiv, 1) := by decide +kernel
theorem dX3_isBetterThanHeld_127 : decode cX3_isBetterThanHeld 127 = .ok (.if_icmp .eq 19, 3) := by decide +kernel
theorem dX3_isBetterThanHeld_130 : decode cX3_isBetterThanHeld 130 = .ok (.aload_n 0, 1) := by decide +kernel
theorem dX3_isBetterThanHeld_131 : decode cX3_isBetterThanHeld 131 = .ok (.getfield 55, 3) := by decide +kernel
theorem dX3_isBetterThanHeld_134 : decode cX3_isBetterThanHeld 134 = .ok (.iload 4, 2) := by decide +kernel
theorem dX3_isBetterThanHeld_136 : decode cX3_isBetterThanHeld 136 = .ok (.iconst 5, 1) := by decide +kernel
theorem dX3_isBetterThanHeld_137 : decode cX3_isBetterThanHeld 137 = .ok (.idiv, 1) := by decide +kernel
theorem dX3_isBetterThanHeld_138 : decode cX3_isBetterThanHeld 138 = .ok (.iload 5, 2) := by decide +kernel
theorem dX3_isBetterThanHeld_140 : decode cX3_isBetterThanHeld 140 = .ok (.iconst 5, 1) := by decide +kernel
theorem dX3_isBetterThanHeld_141 : decode cX3_isBetterThanHeld 141 = .ok (.idiv, 1) := by decide +kernel
theorem dX3_isBetterThanHeld_142 : decode cX3_isBetterThanHeld 142 = .ok (.invokevirtual 117, 3) := by decide +kernel
theorem dX3_isBetterThanHeld_145 : decode cX3_isBetterThanHeld 145 = .ok (.ireturn, 1) := by decide +kernel
theorem dX3_isBetterThanHeld_146 : decode cX3_isBetterThanHeld 146 = .ok (.iload 4, 2) := by decide +kernel
theorem dX3_isBetterThanHeld_148 : decode cX3_isBetterThanHeld 148 = .ok (.iload 5, 2) := by decide +kernel
theorem dX3_isBetterThanHeld_150 : decode cX3_isBetterThanHeld 150 = .ok (.if_icmp .ge 7, 3) := by decide +kernel
theorem dX3_isBetterThanHeld_153 : decode cX3_isBetterThanHeld 153 = .ok (.iconst 1, 1) := by decide +kernel
theorem dX3_isBetterThanHeld_154 : decode cX3_isBetterThanHeld 154 = .ok (.goto 4, 3) := by decide +kernel
theorem dX3_isBetterThanHeld_157 : decode cX3_isBetterThanHeld 157 = .ok (.iconst 0, 1) := by decide +kernel
theorem dX3_isBetterThanHeld_158 : decode cX3_isBetterThanHeld 158 = .ok (.ireturn, 1) := by decide +kernel
set_option maxRecDepth 20000 in
theorem ggX3_turn_X3_roleOf : GoodIn wsX3_turn wsX3_roleOf := goodIn_r _ [10, 2, 3, 11, 12, 13, 14, 15, 9, 16, 17, 18, 19, 20, 21, 22, 23, 24, 25, 26, 27, 28, 29, 30, 36, 37, 38, 39, 40, 41, 42, 43, 44, 45, 46, 47, 48, 49, 50, 51, 52, 53, 54, 55, 56, 57, 58, 59] (by decide +kernel) (by decide +kernel)
set_option maxRecDepth 20000 in
theorem gX3_turn_X3_roleOf : GoodIn wsX3_turn (wsV RX3 125 RX3 yX3_roleOf wsX3_roleOf) := goodIn_app (goodIn_of _ (by decide +kernel)) ggX3_turn_X3_roleOf
set_option maxRecDepth 20000 in
theorem ggX3_turn_X3_turnTo : GoodIn wsX3_turn wsX3_turnTo := goodIn_r _ [34, 5, 35, 36, 37, 38, 39, 40, 41, 42, 43, 44, 45, 46, 47, 48, 49, 50, 51] (by decide +kernel) (by decide +kernel)
set_option maxRecDepth 20000 in
theorem gX3_turn_X3_turnTo : GoodIn wsX3_turn (wsV RX3 129 RX3 yX3_turnTo wsX3_turnTo) := goodIn_app (goodIn_of _ (by decide +kernel)) ggX3_turn_X3_turnTo
theorem dX3_turn_0 : decode cX3_turn 0 = .ok (.aload_n 0, 1) := by decide +kernel
theorem dX3_turn_1 : decode cX3_turn 1 = .ok (.getfield 31, 3) := by decide +kernel
theorem dX3_turn_4 : decode cX3_turn 4 = .ok (.iload_n 1, 1) := by decide +kernel
theorem dX3_turn_5 : decode cX3_turn 5 = .ok (.aload_n 0, 1) := by decide +kernel
theorem dX3_turn_6 : decode cX3_turn 6 = .ok (.iload_n 1, 1) := by decide +kernel
theorem dX3_turn_7 : decode cX3_turn 7 = .ok (.invokevirtual 125, 3) := by decide +kernel
theorem dX3_turn_10 : decode cX3_turn 10 = .ok (.iastore, 1) := by decide +kernel
theorem dX3_turn_11 : decode cX3_turn 11 = .ok (.aload_n 0, 1) := by decide +kernel
theorem dX3_turn_12 : decode cX3_turn 12 = .ok (.getfield 55, 3) := by decide +kernel
theorem dX3_turn_15 : decode cX3_turn 15 = .ok (.getfield 63, 3) := by decide +kernel
theorem dX3_turn_18 : decode cX3_turn 18 = .ok (.iload_n 1, 1) := by decide +kernel
theorem dX3_turn_19 : decode cX3_turn 19 = .ok (.iaload, 1) := by decide +kernel
theorem dX3_turn_20 : decode cX3_turn 20 = .ok (.iconst (-1), 1) := by decide +kernel
theorem dX3_turn_21 : decode cX3_turn 21 = .ok (.if_icmp .ne 4, 3) := by decide +kernel
theorem dX3_turn_24 : decode cX3_turn 24 = .ok (.return_, 1) := by decide +kernel
theorem dX3_turn_25 : decode cX3_turn 25 = .ok (.aload_n 0, 1) := by decide +kernel
theorem dX3_turn_26 : decode cX3_turn 26 = .ok (.getfield 31, 3) := by decide +kernel
theorem dX3_turn_29 : decode cX3_turn 29 = .ok (.iload_n 1, 1) := by decide +kernel
theorem dX3_turn_30 : decode cX3_turn 30 = .ok (.iaload, 1) := by decide +kernel
theorem dX3_turn_31 : decode cX3_turn 31 = .ok (.iconst 1, 1) := by decide +kernel
theorem dX3_turn_32 : decode cX3_turn 32 = .ok (.if_icmp .eq 29, 3) := by decide +kernel
theorem dX3_turn_35 : decode cX3_turn 35 = .ok (.aload_n 0, 1) := by decide +kernel
theorem dX3_turn_36 : decode cX3_turn 36 = .ok (.getfield 31, 3) := by decide +kernel
theorem dX3_turn_39 : decode cX3_turn 39 = .ok (.iload_n 1, 1) := by decide +kernel
theorem dX3_turn_40 : decode cX3_turn 40 = .ok (.iaload, 1) := by decide +kernel
theorem dX3_turn_41 : decode cX3_turn 41 = .ok (.iconst 2, 1) := by decide +kernel
theorem dX3_turn_42 : decode cX3_turn 42 = .ok (.if_icmp .eq 19, 3) := by decide +kernel
theorem dX3_turn_45 : decode cX3_turn 45 = .ok (.aload_n 0, 1) := by decide +kernel
theorem dX3_turn_46 : decode cX3_turn 46 = .ok (.getfield 34, 3) := by decide +kernel
theorem dX3_turn_49 : decode cX3_turn 49 = .ok (.iload_n 1, 1) := by decide +kernel
theorem dX3_turn_50 : decode cX3_turn 50 = .ok (.iconst 0, 1) := by decide +kernel
theorem dX3_turn_51 : decode cX3_turn 51 = .ok (.iastore, 1) := by decide +kernel
theorem dX3_turn_52 : decode cX3_turn 52 = .ok (.aload_n 0, 1) := by decide +kernel
theorem dX3_turn_53 : decode cX3_turn 53 = .ok (.iload_n 1, 1) := by decide +kernel
theorem dX3_turn_54 : decode cX3_turn 54 = .ok (.iconst 0, 1) := by decide +kernel
theorem dX3_turn_55 : decode cX3_turn 55 = .ok (.invokevirtual 129, 3) := by decide +kernel
theorem dX3_turn_58 : decode cX3_turn 58 = .ok (.goto 45, 3) := by decide +kernel
theorem dX3_turn_61 : decode cX3_turn 61 = .ok (.aload_n 0, 1) := by decide +kernel
theorem dX3_turn_62 : decode cX3_turn 62 = .ok (.getfield 27, 3) := by decide +kernel
theorem dX3_turn_65 : decode cX3_turn 65 = .ok (.iload_n 1, 1) := by decide +kernel
theorem dX3_turn_66 : decode cX3_turn 66 = .ok (.baload, 1) := by decide +kernel
theorem dX3_turn_67 : decode cX3_turn 67 = .ok (.ifCond .ne 36, 3) := by decide +kernel
theorem dX3_turn_70 : decode cX3_turn 70 = .ok (.aload_n 0, 1) := by decide +kernel
theorem dX3_turn_71 : decode cX3_turn 71 = .ok (.getfield 34, 3) := by decide +kernel
theorem dX3_turn_74 : decode cX3_turn 74 = .ok (.iload_n 1, 1) := by decide +kernel
theorem dX3_turn_75 : decode cX3_turn 75 = .ok (.dup2, 1) := by decide +kernel
theorem dX3_turn_76 : decode cX3_turn 76 = .ok (.iaload, 1) := by decide +kernel
theorem dX3_turn_77 : decode cX3_turn 77 = .ok (.iconst 1, 1) := by decide +kernel
theorem dX3_turn_78 : decode cX3_turn 78 = .ok (.iadd, 1) := by decide +kernel
theorem dX3_turn_79 : decode cX3_turn 79 = .ok (.iastore, 1) := by decide +kernel
theorem dX3_turn_80 : decode cX3_turn 80 = .ok (.aload_n 0, 1) := by decide +kernel
theorem dX3_turn_81 : decode cX3_turn 81 = .ok (.getfield 34, 3) := by decide +kernel
theorem dX3_turn_84 : decode cX3_turn 84 = .ok (.iload_n 1, 1) := by decide +kernel
theorem dX3_turn_85 : decode cX3_turn 85 = .ok (.iaload, 1) := by decide +kernel
theorem dX3_turn_86 : decode cX3_turn 86 = .ok (.iconst 2, 1) := by decide +kernel
theorem dX3_turn_87 : decode cX3_turn 87 = .ok (.if_icmp .le 16, 3) := by decide +kernel
theorem dX3_turn_90 : decode cX3_turn 90 = .ok (.aload_n 0, 1) := by decide +kernel
theorem dX3_turn_91 : decode cX3_turn 91 = .ok (.getfield 34, 3) := by decide +kernel
theorem dX3_turn_94 : decode cX3_turn 94 = .ok (.iload_n 1, 1) := by decide +kernel
theorem dX3_turn_95 : decode cX3_turn 95 = .ok (.iconst 0, 1) := by decide +kernel
theorem dX3_turn_96 : decode cX3_turn 96 = .ok (.iastore, 1) := by decide +kernel
theorem dX3_turn_97 : decode cX3_turn 97 = .ok (.aload_n 0, 1) := by decide +kernel
theorem dX3_turn_98 : decode cX3_turn 98 = .ok (.iload_n 1, 1) := by decide +kernel
theorem dX3_turn_99 : decode cX3_turn 99 = .ok (.iconst 1, 1) := by decide +kernel
theorem dX3_turn_100 : decode cX3_turn 100 = .ok (.invokevirtual 129, 3) := by decide +kernel
theorem dX3_turn_103 : decode cX3_turn 103 = .ok (.return_, 1) := by decide +kernel
theorem dX3_turnTo_0 : decode cX3_turnTo 0 = .ok (.aload_n 0, 1) := by decide +kernel
theorem dX3_turnTo_1 : decode cX3_turnTo 1 = .ok (.getfield 27, 3) := by decide +kernel
theorem dX3_turnTo_4 : decode cX3_turnTo 4 = .ok (.iload_n 1, 1) := by decide +kernel
theorem dX3_turnTo_5 : decode cX3_turnTo 5 = .ok (.baload, 1) := by decide +kernel
theorem dX3_turnTo_6 : decode cX3_turnTo 6 = .ok (.iload_n 2, 1) := by decide +kernel
theorem dX3_turnTo_7 : decode cX3_turnTo 7 = .ok (.if_icmp .eq 19, 3) := by decide +kernel
theorem dX3_turnTo_10 : decode cX3_turnTo 10 = .ok (.aload_n 0, 1) := by decide +kernel
theorem dX3_turnTo_11 : decode cX3_turnTo 11 = .ok (.getfield 27, 3) := by decide +kernel
theorem dX3_turnTo_14 : decode cX3_turnTo 14 = .ok (.iload_n 1, 1) := by decide +kernel
theorem dX3_turnTo_15 : decode cX3_turnTo 15 = .ok (.iload_n 2, 1) := by decide +kernel
theorem dX3_turnTo_16 : decode cX3_turnTo 16 = .ok (.bastore, 1) := by decide +kernel
theorem dX3_turnTo_17 : decode cX3_turnTo 17 = .ok (.aload_n 0, 1) := by decide +kernel
theorem dX3_turnTo_18 : decode cX3_turnTo 18 = .ok (.getfield 49, 3) := by decide +kernel
theorem dX3_turnTo_21 : decode cX3_turnTo 21 = .ok (.iload_n 1, 1) := by decide +kernel
theorem dX3_turnTo_22 : decode cX3_turnTo 22 = .ok (.iconst 5, 1) := by decide +kernel
theorem dX3_turnTo_23 : decode cX3_turnTo 23 = .ok (.idiv, 1) := by decide +kernel
theorem dX3_turnTo_24 : decode cX3_turnTo 24 = .ok (.iconst 1, 1) := by decide +kernel
theorem dX3_turnTo_25 : decode cX3_turnTo 25 = .ok (.bastore, 1) := by decide +kernel
theorem dX3_turnTo_26 : decode cX3_turnTo 26 = .ok (.return_, 1) := by decide +kernel
set_option maxRecDepth 20000 in
theorem ggX3_roleOf_X3_isShut : GoodIn wsX3_roleOf wsX3_isShut := goodIn_r _ [9, 10, 24, 25, 26, 27, 28, 29, 30, 31, 32, 33, 34, 35, 36, 37, 38, 39] (by decide +kernel) (by decide +kernel)
set_option maxRecDepth 20000 in
theorem gX3_roleOf_X3_isShut : GoodIn wsX3_roleOf (wsV RX3 68 RX3 yX3_isShut wsX3_isShut) := goodIn_app (goodIn_of _ (by decide +kernel)) ggX3_roleOf_X3_isShut
set_option maxRecDepth 20000 in
theorem ggX3_roleOf_X3_isHeldBetter : GoodIn wsX3_roleOf wsX3_isHeldBetter := goodIn_r _ [14, 15, 4, 1, 16, 17, 2, 18, 19, 20, 21, 22, 23, 24, 25, 26, 27, 28, 29, 30, 31, 32, 33, 34, 35, 36, 37, 38, 39, 40, 41, 42, 43, 44, 45, 46, 47] (by decide +kernel) (by decide +kernel)
set_option maxRecDepth 20000 in
theorem gX3_roleOf_X3_isHeldBetter : GoodIn wsX3_roleOf (wsV RX3 133 RX3 yX3_isHeldBetter wsX3_isHeldBetter) := goodIn_app (goodIn_of _ (by decide +kernel)) ggX3_roleOf_X3_isHeldBetter
theorem dX3_roleOf_0 : decode cX3_roleOf 0 = .ok (.aload_n 0, 1) := by decide +kernel
theorem dX3_roleOf_1 : decode cX3_roleOf 1 = .ok (.getfield 55, 3) := by decide +kernel
theorem dX3_roleOf_4 : decode cX3_roleOf 4 = .ok (.getfield 63, 3) := by decide +kernel
theorem dX3_roleOf_7 : decode cX3_roleOf 7 = .ok (.iload_n 1, 1) := by decide +kernel
theorem dX3_roleOf_8 : decode cX3_roleOf 8 = .ok (.iaload, 1) := by decide +kernel
theorem dX3_roleOf_9 : decode cX3_roleOf 9 = .ok (.iconst (-1), 1) := by decide +kernel
theorem dX3_roleOf_10 : decode cX3_roleOf 10 = .ok (.if_icmp .eq 11, 3) := by decide +kernel
theorem dX3_roleOf_13 : decode cX3_roleOf 13 = .ok (.aload_n 0, 1) := by decide +kernel
theorem dX3_roleOf_14 : decode cX3_roleOf 14 = .ok (.iload_n 1, 1) := by decide +kernel
theorem dX3_roleOf_15 : decode cX3_roleOf 15 = .ok (.invokevirtual 68, 3) := by decide +kernel
theorem dX3_roleOf_18 : decode cX3_roleOf 18 = .ok (.ifCond .eq 5, 3) := by decide +kernel
theorem dX3_roleOf_21 : decode cX3_roleOf 21 = .ok (.iconst 0, 1) := by decide +kernel
theorem dX3_roleOf_22 : decode cX3_roleOf 22 = .ok (.ireturn, 1) := by decide +kernel
theorem dX3_roleOf_23 : decode cX3_roleOf 23 = .ok (.aload_n 0, 1) := by decide +kernel
theorem dX3_roleOf_24 : decode cX3_roleOf 24 = .ok (.getfield 21, 3) := by decide +kernel
theorem dX3_roleOf_27 : decode cX3_roleOf 27 = .ok (.iload_n 1, 1) := by decide +kernel
theorem dX3_roleOf_28 : decode cX3_roleOf 28 = .ok (.iconst 5, 1) := by decide +kernel
theorem dX3_roleOf_29 : decode cX3_roleOf 29 = .ok (.idiv, 1) := by decide +kernel
theorem dX3_roleOf_30 : decode cX3_roleOf 30 = .ok (.iaload, 1) := by decide +kernel
theorem dX3_roleOf_31 : decode cX3_roleOf 31 = .ok (.iload_n 1, 1) := by decide +kernel
theorem dX3_roleOf_32 : decode cX3_roleOf 32 = .ok (.iconst 5, 1) := by decide +kernel
theorem dX3_roleOf_33 : decode cX3_roleOf 33 = .ok (.irem, 1) := by decide +kernel
theorem dX3_roleOf_34 : decode cX3_roleOf 34 = .ok (.if_icmp .ne 5, 3) := by decide +kernel
theorem dX3_roleOf_37 : decode cX3_roleOf 37 = .ok (.iconst 1, 1) := by decide +kernel
theorem dX3_roleOf_38 : decode cX3_roleOf 38 = .ok (.ireturn, 1) := by decide +kernel
theorem dX3_roleOf_39 : decode cX3_roleOf 39 = .ok (.aload_n 0, 1) := by decide +kernel
theorem dX3_roleOf_40 : decode cX3_roleOf 40 = .ok (.getfield 37, 3) := by decide +kernel
theorem dX3_roleOf_43 : decode cX3_roleOf 43 = .ok (.iload_n 1, 1) := by decide +kernel
theorem dX3_roleOf_44 : decode cX3_roleOf 44 = .ok (.iaload, 1) := by decide +kernel
theorem dX3_roleOf_45 : decode cX3_roleOf 45 = .ok (.iconst (-1), 1) := by decide +kernel
theorem dX3_roleOf_46 : decode cX3_roleOf 46 = .ok (.if_icmp .eq 11, 3) := by decide +kernel
theorem dX3_roleOf_49 : decode cX3_roleOf 49 = .ok (.aload_n 0, 1) := by decide +kernel
theorem dX3_roleOf_50 : decode cX3_roleOf 50 = .ok (.iload_n 1, 1) := by decide +kernel
theorem dX3_roleOf_51 : decode cX3_roleOf 51 = .ok (.invokevirtual 133, 3) := by decide +kernel
theorem dX3_roleOf_54 : decode cX3_roleOf 54 = .ok (.ifCond .eq 7, 3) := by decide +kernel
theorem dX3_roleOf_57 : decode cX3_roleOf 57 = .ok (.iconst 2, 1) := by decide +kernel
theorem dX3_roleOf_58 : decode cX3_roleOf 58 = .ok (.goto 4, 3) := by decide +kernel
theorem dX3_roleOf_61 : decode cX3_roleOf 61 = .ok (.iconst 3, 1) := by decide +kernel
theorem dX3_roleOf_62 : decode cX3_roleOf 62 = .ok (.ireturn, 1) := by decide +kernel
set_option maxRecDepth 20000 in
theorem ggX3_isHeldBetter_X4_isBetterName : GoodIn wsX3_isHeldBetter wsX4_isBetterName := goodIn_r _ [11, 12, 29, 30, 31, 32, 33, 34, 35, 36] (by decide +kernel) (by decide +kernel)
set_option maxRecDepth 20000 in
theorem gX3_isHeldBetter_X4_isBetterName : GoodIn wsX3_isHeldBetter (wsV RX3 117 RX4 yX4_isBetterName wsX4_isBetterName) := goodIn_app (goodIn_of _ (by decide +kernel)) ggX3_isHeldBetter_X4_isBetterName
theorem dX3_isHeldBetter_0 : decode cX3_isHeldBetter 0 = .ok (.iload_n 1, 1) := by decide +kernel
theorem dX3_isHeldBetter_1 : decode cX3_isHeldBetter 1 = .ok (.iconst 5, 1) := by decide +kernel
theorem dX3_isHeldBetter_2 : decode cX3_isHeldBetter 2 = .ok (.idiv, 1) := by decide +kernel
theorem dX3_isHeldBetter_3 : decode cX3_isHeldBetter 3 = .ok (.istore_n 2, 1) := by decide +kernel
theorem dX3_isHeldBetter_4 : decode cX3_isHeldBetter 4 = .ok (.aload_n 0, 1) := by decide +kernel
theorem dX3_isHeldBetter_5 : decode cX3_isHeldBetter 5 = .ok (.getfield 9, 3) := by decide +kernel
theorem dX3_isHeldBetter_8 : decode cX3_isHeldBetter 8 = .ok (.iload_n 2, 1) := by decide +kernel
theorem dX3_isHeldBetter_9 : decode cX3_isHeldBetter 9 = .ok (.iaload, 1) := by decide +kernel
theorem dX3_isHeldBetter_10 : decode cX3_isHeldBetter 10 = .ok (.aload_n 0, 1) := by decide +kernel
theorem dX3_isHeldBetter_11 : decode cX3_isHeldBetter 11 = .ok (.getfield 37, 3) := by decide +kernel
theorem dX3_isHeldBetter_14 : decode cX3_isHeldBetter 14 = .ok (.iload_n 1, 1) := by decide +kernel
theorem dX3_isHeldBetter_15 : decode cX3_isHeldBetter 15 = .ok (.iaload, 1) := by decide +kernel
theorem dX3_isHeldBetter_16 : decode cX3_isHeldBetter 16 = .ok (.if_icmp .eq 23, 3) := by decide +kernel
theorem dX3_isHeldBetter_19 : decode cX3_isHeldBetter 19 = .ok (.aload_n 0, 1) := by decide +kernel
theorem dX3_isHeldBetter_20 : decode cX3_isHeldBetter 20 = .ok (.getfield 55, 3) := by decide +kernel
theorem dX3_isHeldBetter_23 : decode cX3_isHeldBetter 23 = .ok (.aload_n 0, 1) := by decide +kernel
theorem dX3_isHeldBetter_24 : decode cX3_isHeldBetter 24 = .ok (.getfield 9, 3) := by decide +kernel
theorem dX3_isHeldBetter_27 : decode cX3_isHeldBetter 27 = .ok (.iload_n 2, 1) := by decide +kernel
theorem dX3_isHeldBetter_28 : decode cX3_isHeldBetter 28 = .ok (.iaload, 1) := by decide +kernel
theorem dX3_isHeldBetter_29 : decode cX3_isHeldBetter 29 = .ok (.aload_n 0, 1) := by decide +kernel
theorem dX3_isHeldBetter_30 : decode cX3_isHeldBetter 30 = .ok (.getfield 37, 3) := by decide +kernel
theorem dX3_isHeldBetter_33 : decode cX3_isHeldBetter 33 = .ok (.iload_n 1, 1) := by decide +kernel
theorem dX3_isHeldBetter_34 : decode cX3_isHeldBetter 34 = .ok (.iaload, 1) := by decide +kernel
theorem dX3_isHeldBetter_35 : decode cX3_isHeldBetter 35 = .ok (.invokevirtual 117, 3) := by decide +kernel
theorem dX3_isHeldBetter_38 : decode cX3_isHeldBetter 38 = .ok (.ireturn, 1) := by decide +kernel
theorem dX3_isHeldBetter_39 : decode cX3_isHeldBetter 39 = .ok (.aload_n 0, 1) := by decide +kernel
theorem dX3_isHeldBetter_40 : decode cX3_isHeldBetter 40 = .ok (.getfield 15, 3) := by decide +kernel
theorem dX3_isHeldBetter_43 : decode cX3_isHeldBetter 43 = .ok (.iload_n 2, 1) := by decide +kernel
theorem dX3_isHeldBetter_44 : decode cX3_isHeldBetter 44 = .ok (.iaload, 1) := by decide +kernel
theorem dX3_isHeldBetter_45 : decode cX3_isHeldBetter 45 = .ok (.aload_n 0, 1) := by decide +kernel
theorem dX3_isHeldBetter_46 : decode cX3_isHeldBetter 46 = .ok (.getfield 40, 3) := by decide +kernel
theorem dX3_isHeldBetter_49 : decode cX3_isHeldBetter 49 = .ok (.iload_n 1, 1) := by decide +kernel
theorem dX3_isHeldBetter_50 : decode cX3_isHeldBetter 50 = .ok (.iaload, 1) := by decide +kernel
theorem dX3_isHeldBetter_51 : decode cX3_isHeldBetter 51 = .ok (.if_icmp .eq 24, 3) := by decide +kernel
theorem dX3_isHeldBetter_54 : decode cX3_isHeldBetter 54 = .ok (.aload_n 0, 1) := by decide +kernel
theorem dX3_isHeldBetter_55 : decode cX3_isHeldBetter 55 = .ok (.getfield 15, 3) := by decide +kernel
theorem dX3_isHeldBetter_58 : decode cX3_isHeldBetter 58 = .ok (.iload_n 2, 1) := by decide +kernel
theorem dX3_isHeldBetter_59 : decode cX3_isHeldBetter 59 = .ok (.iaload, 1) := by decide +kernel
theorem dX3_isHeldBetter_60 : decode cX3_isHeldBetter 60 = .ok (.aload_n 0, 1) := by decide +kernel
theorem dX3_isHeldBetter_61 : decode cX3_isHeldBetter 61 = .ok (.getfield 40, 3) := by decide +kernel
theorem dX3_isHeldBetter_64 : decode cX3_isHeldBetter 64 = .ok (.iload_n 1, 1) := by decide +kernel
theorem dX3_isHeldBetter_65 : decode cX3_isHeldBetter 65 = .ok (.iaload, 1) := by decide +kernel
theorem dX3_isHeldBetter_66 : decode cX3_isHeldBetter 66 = .ok (.if_icmp .ge 7, 3) := by decide +kernel
theorem dX3_isHeldBetter_69 : decode cX3_isHeldBetter 69 = .ok (.iconst 1, 1) := by decide +kernel
theorem dX3_isHeldBetter_70 : decode cX3_isHeldBetter 70 = .ok (.goto 4, 3) := by decide +kernel
theorem dX3_isHeldBetter_73 : decode cX3_isHeldBetter 73 = .ok (.iconst 0, 1) := by decide +kernel
theorem dX3_isHeldBetter_74 : decode cX3_isHeldBetter 74 = .ok (.ireturn, 1) := by decide +kernel
theorem dX3_isHeldBetter_75 : decode cX3_isHeldBetter 75 = .ok (.aload_n 0, 1) := by decide +kernel
theorem dX3_isHeldBetter_76 : decode cX3_isHeldBetter 76 = .ok (.getfield 55, 3) := by decide +kernel
theorem dX3_isHeldBetter_79 : decode cX3_isHeldBetter 79 = .ok (.iload_n 2, 1) := by decide +kernel
theorem dX3_isHeldBetter_80 : decode cX3_isHeldBetter 80 = .ok (.aload_n 0, 1) := by decide +kernel
theorem dX3_isHeldBetter_81 : decode cX3_isHeldBetter 81 = .ok (.getfield 55, 3) := by decide +kernel
theorem dX3_isHeldBetter_84 : decode cX3_isHeldBetter 84 = .ok (.getfield 63, 3) := by decide +kernel
theorem dX3_isHeldBetter_87 : decode cX3_isHeldBetter 87 = .ok (.iload_n 1, 1) := by decide +kernel
theorem dX3_isHeldBetter_88 : decode cX3_isHeldBetter 88 = .ok (.iaload, 1) := by decide +kernel
theorem dX3_isHeldBetter_89 : decode cX3_isHeldBetter 89 = .ok (.iconst 5, 1) := by decide +kernel
theorem dX3_isHeldBetter_90 : decode cX3_isHeldBetter 90 = .ok (.idiv, 1) := by decide +kernel
theorem dX3_isHeldBetter_91 : decode cX3_isHeldBetter 91 = .ok (.invokevirtual 117, 3) := by decide +kernel
theorem dX3_isHeldBetter_94 : decode cX3_isHeldBetter 94 = .ok (.ireturn, 1) := by decide +kernel
set_option maxRecDepth 20000 in
theorem ggX3_spreadStale_X3_isJoined : GoodIn wsX3_spreadStale wsX3_isJoined := goodIn_r _ [8, 2, 3, 9, 10, 11, 7, 12, 13, 14, 15, 16, 17, 18, 19, 20, 21, 22, 23, 24, 25, 26, 27, 28, 29, 30, 31, 32, 33, 34, 35, 36, 37] (by decide +kernel) (by decide +kernel)
set_option maxRecDepth 20000 in
theorem gX3_spreadStale_X3_isJoined : GoodIn wsX3_spreadStale (wsV RX3 100 RX3 yX3_isJoined wsX3_isJoined) := goodIn_app (goodIn_of _ (by decide +kernel)) ggX3_spreadStale_X3_isJoined
theorem dX3_spreadStale_0 : decode cX3_spreadStale 0 = .ok (.iconst 0, 1) := by decide +kernel
theorem dX3_spreadStale_1 : decode cX3_spreadStale 1 = .ok (.istore_n 1, 1) := by decide +kernel
theorem dX3_spreadStale_2 : decode cX3_spreadStale 2 = .ok (.iload_n 1, 1) := by decide +kernel
theorem dX3_spreadStale_3 : decode cX3_spreadStale 3 = .ok (.bipush 6, 2) := by decide +kernel
theorem dX3_spreadStale_5 : decode cX3_spreadStale 5 = .ok (.if_icmp .ge 59, 3) := by decide +kernel
theorem dX3_spreadStale_8 : decode cX3_spreadStale 8 = .ok (.iconst 0, 1) := by decide +kernel
theorem dX3_spreadStale_9 : decode cX3_spreadStale 9 = .ok (.istore_n 2, 1) := by decide +kernel
theorem dX3_spreadStale_10 : decode cX3_spreadStale 10 = .ok (.iload_n 2, 1) := by decide +kernel
theorem dX3_spreadStale_11 : decode cX3_spreadStale 11 = .ok (.bipush 30, 2) := by decide +kernel
theorem dX3_spreadStale_13 : decode cX3_spreadStale 13 = .ok (.if_icmp .ge 45, 3) := by decide +kernel
theorem dX3_spreadStale_16 : decode cX3_spreadStale 16 = .ok (.aload_n 0, 1) := by decide +kernel
theorem dX3_spreadStale_17 : decode cX3_spreadStale 17 = .ok (.getfield 49, 3) := by decide +kernel
theorem dX3_spreadStale_20 : decode cX3_spreadStale 20 = .ok (.iload_n 2, 1) := by decide +kernel
theorem dX3_spreadStale_21 : decode cX3_spreadStale 21 = .ok (.iconst 5, 1) := by decide +kernel
theorem dX3_spreadStale_22 : decode cX3_spreadStale 22 = .ok (.idiv, 1) := by decide +kernel
theorem dX3_spreadStale_23 : decode cX3_spreadStale 23 = .ok (.baload, 1) := by decide +kernel
theorem dX3_spreadStale_24 : decode cX3_spreadStale 24 = .ok (.ifCond .eq 28, 3) := by decide +kernel
theorem dX3_spreadStale_27 : decode cX3_spreadStale 27 = .ok (.aload_n 0, 1) := by decide +kernel
theorem dX3_spreadStale_28 : decode cX3_spreadStale 28 = .ok (.iload_n 2, 1) := by decide +kernel
theorem dX3_spreadStale_29 : decode cX3_spreadStale 29 = .ok (.invokevirtual 100, 3) := by decide +kernel
theorem dX3_spreadStale_32 : decode cX3_spreadStale 32 = .ok (.ifCond .eq 20, 3) := by decide +kernel
theorem dX3_spreadStale_35 : decode cX3_spreadStale 35 = .ok (.aload_n 0, 1) := by decide +kernel
theorem dX3_spreadStale_36 : decode cX3_spreadStale 36 = .ok (.getfield 49, 3) := by decide +kernel
theorem dX3_spreadStale_39 : decode cX3_spreadStale 39 = .ok (.aload_n 0, 1) := by decide +kernel
theorem dX3_spreadStale_40 : decode cX3_spreadStale 40 = .ok (.getfield 55, 3) := by decide +kernel
theorem dX3_spreadStale_43 : decode cX3_spreadStale 43 = .ok (.getfield 63, 3) := by decide +kernel
theorem dX3_spreadStale_46 : decode cX3_spreadStale 46 = .ok (.iload_n 2, 1) := by decide +kernel
theorem dX3_spreadStale_47 : decode cX3_spreadStale 47 = .ok (.iaload, 1) := by decide +kernel
theorem dX3_spreadStale_48 : decode cX3_spreadStale 48 = .ok (.iconst 5, 1) := by decide +kernel
theorem dX3_spreadStale_49 : decode cX3_spreadStale 49 = .ok (.idiv, 1) := by decide +kernel
theorem dX3_spreadStale_50 : decode cX3_spreadStale 50 = .ok (.iconst 1, 1) := by decide +kernel
theorem dX3_spreadStale_51 : decode cX3_spreadStale 51 = .ok (.bastore, 1) := by decide +kernel
theorem dX3_spreadStale_52 : decode cX3_spreadStale 52 = .ok (.iinc 2 1, 3) := by decide +kernel
theorem dX3_spreadStale_55 : decode cX3_spreadStale 55 = .ok (.goto (-45), 3) := by decide +kernel
theorem dX3_spreadStale_58 : decode cX3_spreadStale 58 = .ok (.iinc 1 1, 3) := by decide +kernel
theorem dX3_spreadStale_61 : decode cX3_spreadStale 61 = .ok (.goto (-59), 3) := by decide +kernel
theorem dX3_spreadStale_64 : decode cX3_spreadStale 64 = .ok (.return_, 1) := by decide +kernel
set_option maxRecDepth 20000 in
theorem ggX3_endStorms_X3_endShut : GoodIn wsX3_endStorms wsX3_endShut := goodIn_r _ [7, 1, 8, 9, 10, 6, 11, 12, 13, 14, 15, 16, 17, 18, 19, 20, 21, 22, 23, 24, 25, 26, 27, 28, 29, 30, 31, 32, 33, 34, 35, 36, 37, 38, 39, 40, 41, 42] (by decide +kernel) (by decide +kernel)
set_option maxRecDepth 20000 in
theorem gX3_endStorms_X3_endShut : GoodIn wsX3_endStorms (wsV RX3 136 RX3 yX3_endShut wsX3_endShut) := goodIn_app (goodIn_of _ (by decide +kernel)) ggX3_endStorms_X3_endShut
theorem dX3_endStorms_0 : decode cX3_endStorms 0 = .ok (.iconst 0, 1) := by decide +kernel
theorem dX3_endStorms_1 : decode cX3_endStorms 1 = .ok (.istore_n 1, 1) := by decide +kernel
theorem dX3_endStorms_2 : decode cX3_endStorms 2 = .ok (.iload_n 1, 1) := by decide +kernel
theorem dX3_endStorms_3 : decode cX3_endStorms 3 = .ok (.bipush 30, 2) := by decide +kernel
theorem dX3_endStorms_5 : decode cX3_endStorms 5 = .ok (.if_icmp .ge 36, 3) := by decide +kernel
theorem dX3_endStorms_8 : decode cX3_endStorms 8 = .ok (.aload_n 0, 1) := by decide +kernel
theorem dX3_endStorms_9 : decode cX3_endStorms 9 = .ok (.getfield 24, 3) := by decide +kernel
theorem dX3_endStorms_12 : decode cX3_endStorms 12 = .ok (.iload_n 1, 1) := by decide +kernel
theorem dX3_endStorms_13 : decode cX3_endStorms 13 = .ok (.iaload, 1) := by decide +kernel
theorem dX3_endStorms_14 : decode cX3_endStorms 14 = .ok (.ifCond .le 21, 3) := by decide +kernel
theorem dX3_endStorms_17 : decode cX3_endStorms 17 = .ok (.aload_n 0, 1) := by decide +kernel
theorem dX3_endStorms_18 : decode cX3_endStorms 18 = .ok (.getfield 24, 3) := by decide +kernel
theorem dX3_endStorms_21 : decode cX3_endStorms 21 = .ok (.iload_n 1, 1) := by decide +kernel
theorem dX3_endStorms_22 : decode cX3_endStorms 22 = .ok (.iaload, 1) := by decide +kernel
theorem dX3_endStorms_23 : decode cX3_endStorms 23 = .ok (.aload_n 0, 1) := by decide +kernel
theorem dX3_endStorms_24 : decode cX3_endStorms 24 = .ok (.getfield 59, 3) := by decide +kernel
theorem dX3_endStorms_27 : decode cX3_endStorms 27 = .ok (.if_icmp .gt 8, 3) := by decide +kernel
theorem dX3_endStorms_30 : decode cX3_endStorms 30 = .ok (.aload_n 0, 1) := by decide +kernel
theorem dX3_endStorms_31 : decode cX3_endStorms 31 = .ok (.iload_n 1, 1) := by decide +kernel
theorem dX3_endStorms_32 : decode cX3_endStorms 32 = .ok (.invokevirtual 136, 3) := by decide +kernel
theorem dX3_endStorms_35 : decode cX3_endStorms 35 = .ok (.iinc 1 1, 3) := by decide +kernel
theorem dX3_endStorms_38 : decode cX3_endStorms 38 = .ok (.goto (-36), 3) := by decide +kernel
theorem dX3_endStorms_41 : decode cX3_endStorms 41 = .ok (.return_, 1) := by decide +kernel
set_option maxRecDepth 20000 in
theorem ggX3_measureWays_X3_isJoined : GoodIn wsX3_measureWays wsX3_isJoined := goodIn_r _ [9, 2, 3, 10, 11, 12, 8, 13, 14, 19, 20, 21, 22, 23, 24, 25, 26, 27, 28, 29, 30, 31, 32, 33, 34, 35, 36, 37, 38, 39, 40, 41, 42] (by decide +kernel) (by decide +kernel)
set_option maxRecDepth 20000 in
theorem gX3_measureWays_X3_isJoined : GoodIn wsX3_measureWays (wsV RX3 100 RX3 yX3_isJoined wsX3_isJoined) := goodIn_app (goodIn_of _ (by decide +kernel)) ggX3_measureWays_X3_isJoined
set_option maxRecDepth 20000 in
theorem ggX3_measureWays_X3_shorten : GoodIn wsX3_measureWays wsX3_shorten := goodIn_r _ [18, 1, 19, 20, 21, 22, 23, 24, 25, 26, 27, 28, 29, 30, 31, 32, 33, 34] (by decide +kernel) (by decide +kernel)
set_option maxRecDepth 20000 in
theorem gX3_measureWays_X3_shorten : GoodIn wsX3_measureWays (wsV RX3 139 RX3 yX3_shorten wsX3_shorten) := goodIn_app (goodIn_of _ (by decide +kernel)) ggX3_measureWays_X3_shorten
theorem dX3_measureWays_0 : decode cX3_measureWays 0 = .ok (.iconst 0, 1) := by decide +kernel
theorem dX3_measureWays_1 : decode cX3_measureWays 1 = .ok (.istore_n 2, 1) := by decide +kernel
theorem dX3_measureWays_2 : decode cX3_measureWays 2 = .ok (.iload_n 2, 1) := by decide +kernel
theorem dX3_measureWays_3 : decode cX3_measureWays 3 = .ok (.bipush 6, 2) := by decide +kernel
theorem dX3_measureWays_5 : decode cX3_measureWays 5 = .ok (.if_icmp .ge 25, 3) := by decide +kernel
theorem dX3_measureWays_8 : decode cX3_measureWays 8 = .ok (.aload_n 0, 1) := by decide +kernel
theorem dX3_measureWays_9 : decode cX3_measureWays 9 = .ok (.getfield 52, 3) := by decide +kernel
theorem dX3_measureWays_12 : decode cX3_measureWays 12 = .ok (.iload_n 2, 1) := by decide +kernel
theorem dX3_measureWays_13 : decode cX3_measureWays 13 = .ok (.iload_n 2, 1) := by decide +kernel
theorem dX3_measureWays_14 : decode cX3_measureWays 14 = .ok (.iload_n 1, 1) := by decide +kernel
theorem dX3_measureWays_15 : decode cX3_measureWays 15 = .ok (.if_icmp .ne 7, 3) := by decide +kernel
theorem dX3_measureWays_18 : decode cX3_measureWays 18 = .ok (.iconst 0, 1) := by decide +kernel
theorem dX3_measureWays_19 : decode cX3_measureWays 19 = .ok (.goto 4, 3) := by decide +kernel
theorem dX3_measureWays_22 : decode cX3_measureWays 22 = .ok (.iconst (-1), 1) := by decide +kernel
theorem dX3_measureWays_23 : decode cX3_measureWays 23 = .ok (.iastore, 1) := by decide +kernel
theorem dX3_measureWays_24 : decode cX3_measureWays 24 = .ok (.iinc 2 1, 3) := by decide +kernel
theorem dX3_measureWays_27 : decode cX3_measureWays 27 = .ok (.goto (-25), 3) := by decide +kernel
theorem dX3_measureWays_30 : decode cX3_measureWays 30 = .ok (.iconst 0, 1) := by decide +kernel
theorem dX3_measureWays_31 : decode cX3_measureWays 31 = .ok (.istore_n 2, 1) := by decide +kernel
theorem dX3_measureWays_32 : decode cX3_measureWays 32 = .ok (.iload_n 2, 1) := by decide +kernel
theorem dX3_measureWays_33 : decode cX3_measureWays 33 = .ok (.bipush 6, 2) := by decide +kernel
theorem dX3_measureWays_35 : decode cX3_measureWays 35 = .ok (.if_icmp .ge 76, 3) := by decide +kernel
theorem dX3_measureWays_38 : decode cX3_measureWays 38 = .ok (.iconst 0, 1) := by decide +kernel
theorem dX3_measureWays_39 : decode cX3_measureWays 39 = .ok (.istore_n 3, 1) := by decide +kernel
theorem dX3_measureWays_40 : decode cX3_measureWays 40 = .ok (.iload_n 3, 1) := by decide +kernel
theorem dX3_measureWays_41 : decode cX3_measureWays 41 = .ok (.bipush 30, 2) := by decide +kernel
theorem dX3_measureWays_43 : decode cX3_measureWays 43 = .ok (.if_icmp .ge 62, 3) := by decide +kernel
theorem dX3_measureWays_46 : decode cX3_measureWays 46 = .ok (.aload_n 0, 1) := by decide +kernel
theorem dX3_measureWays_47 : decode cX3_measureWays 47 = .ok (.getfield 52, 3) := by decide +kernel
theorem dX3_measureWays_50 : decode cX3_measureWays 50 = .ok (.iload_n 3, 1) := by decide +kernel
theorem dX3_measureWays_51 : decode cX3_measureWays 51 = .ok (.iconst 5, 1) := by decide +kernel
theorem dX3_measureWays_52 : decode cX3_measureWays 52 = .ok (.idiv, 1) := by decide +kernel
theorem dX3_measureWays_53 : decode cX3_measureWays 53 = .ok (.iaload, 1) := by decide +kernel
theorem dX3_measureWays_54 : decode cX3_measureWays 54 = .ok (.iconst (-1), 1) := by decide +kernel
theorem dX3_measureWays_55 : decode cX3_measureWays 55 = .ok (.if_icmp .eq 44, 3) := by decide +kernel
theorem dX3_measureWays_58 : decode cX3_measureWays 58 = .ok (.aload_n 0, 1) := by decide +kernel
theorem dX3_measureWays_59 : decode cX3_measureWays 59 = .ok (.iload_n 3, 1) := by decide +kernel
theorem dX3_measureWays_60 : decode cX3_measureWays 60 = .ok (.invokevirtual 100, 3) := by decide +kernel
theorem dX3_measureWays_63 : decode cX3_measureWays 63 = .ok (.ifCond .eq 36, 3) := by decide +kernel
theorem dX3_measureWays_66 : decode cX3_measureWays 66 = .ok (.aload_n 0, 1) := by decide +kernel
theorem dX3_measureWays_67 : decode cX3_measureWays 67 = .ok (.aload_n 0, 1) := by decide +kernel
theorem dX3_measureWays_68 : decode cX3_measureWays 68 = .ok (.getfield 55, 3) := by decide +kernel
theorem dX3_measureWays_71 : decode cX3_measureWays 71 = .ok (.getfield 63, 3) := by decide +kernel
theorem dX3_measureWays_74 : decode cX3_measureWays 74 = .ok (.iload_n 3, 1) := by decide +kernel
theorem dX3_measureWays_75 : decode cX3_measureWays 75 = .ok (.iaload, 1) := by decide +kernel
theorem dX3_measureWays_76 : decode cX3_measureWays 76 = .ok (.iconst 5, 1) := by decide +kernel
theorem dX3_measureWays_77 : decode cX3_measureWays 77 = .ok (.idiv, 1) := by decide +kernel
theorem dX3_measureWays_78 : decode cX3_measureWays 78 = .ok (.aload_n 0, 1) := by decide +kernel
theorem dX3_measureWays_79 : decode cX3_measureWays 79 = .ok (.getfield 52, 3) := by decide +kernel
theorem dX3_measureWays_82 : decode cX3_measureWays 82 = .ok (.iload_n 3, 1) := by decide +kernel
theorem dX3_measureWays_83 : decode cX3_measureWays 83 = .ok (.iconst 5, 1) := by decide +kernel
theorem dX3_measureWays_84 : decode cX3_measureWays 84 = .ok (.idiv, 1) := by decide +kernel
theorem dX3_measureWays_85 : decode cX3_measureWays 85 = .ok (.iaload, 1) := by decide +kernel
theorem dX3_measureWays_86 : decode cX3_measureWays 86 = .ok (.aload_n 0, 1) := by decide +kernel
theorem dX3_measureWays_87 : decode cX3_measureWays 87 = .ok (.getfield 55, 3) := by decide +kernel
theorem dX3_measureWays_90 : decode cX3_measureWays 90 = .ok (.getfield 124, 3) := by decide +kernel
theorem dX3_measureWays_93 : decode cX3_measureWays 93 = .ok (.iload_n 3, 1) := by decide +kernel
theorem dX3_measureWays_94 : decode cX3_measureWays 94 = .ok (.iaload, 1) := by decide +kernel
theorem dX3_measureWays_95 : decode cX3_measureWays 95 = .ok (.iadd, 1) := by decide +kernel
theorem dX3_measureWays_96 : decode cX3_measureWays 96 = .ok (.invokevirtual 139, 3) := by decide +kernel
theorem dX3_measureWays_99 : decode cX3_measureWays 99 = .ok (.iinc 3 1, 3) := by decide +kernel
theorem dX3_measureWays_102 : decode cX3_measureWays 102 = .ok (.goto (-62), 3) := by decide +kernel
theorem dX3_measureWays_105 : decode cX3_measureWays 105 = .ok (.iinc 2 1, 3) := by decide +kernel
theorem dX3_measureWays_108 : decode cX3_measureWays 108 = .ok (.goto (-76), 3) := by decide +kernel
theorem dX3_measureWays_111 : decode cX3_measureWays 111 = .ok (.return_, 1) := by decide +kernel
theorem dX3_shorten_0 : decode cX3_shorten 0 = .ok (.aload_n 0, 1) := by decide +kernel
theorem dX3_shorten_1 : decode cX3_shorten 1 = .ok (.getfield 52, 3) := by decide +kernel
theorem dX3_shorten_4 : decode cX3_shorten 4 = .ok (.iload_n 1, 1) := by decide +kernel
theorem dX3_shorten_5 : decode cX3_shorten 5 = .ok (.iaload, 1) := by decide +kernel
theorem dX3_shorten_6 : decode cX3_shorten 6 = .ok (.iconst (-1), 1) := by decide +kernel
theorem dX3_shorten_7 : decode cX3_shorten 7 = .ok (.if_icmp .eq 13, 3) := by decide +kernel
theorem dX3_shorten_10 : decode cX3_shorten 10 = .ok (.iload_n 2, 1) := by decide +kernel
theorem dX3_shorten_11 : decode cX3_shorten 11 = .ok (.aload_n 0, 1) := by decide +kernel
theorem dX3_shorten_12 : decode cX3_shorten 12 = .ok (.getfield 52, 3) := by decide +kernel
theorem dX3_shorten_15 : decode cX3_shorten 15 = .ok (.iload_n 1, 1) := by decide +kernel
theorem dX3_shorten_16 : decode cX3_shorten 16 = .ok (.iaload, 1) := by decide +kernel
theorem dX3_shorten_17 : decode cX3_shorten 17 = .ok (.if_icmp .ge 10, 3) := by decide +kernel
theorem dX3_shorten_20 : decode cX3_shorten 20 = .ok (.aload_n 0, 1) := by decide +kernel
theorem dX3_shorten_21 : decode cX3_shorten 21 = .ok (.getfield 52, 3) := by decide +kernel
theorem dX3_shorten_24 : decode cX3_shorten 24 = .ok (.iload_n 1, 1) := by decide +kernel
theorem dX3_shorten_25 : decode cX3_shorten 25 = .ok (.iload_n 2, 1) := by decide +kernel
theorem dX3_shorten_26 : decode cX3_shorten 26 = .ok (.iastore, 1) := by decide +kernel
theorem dX3_shorten_27 : decode cX3_shorten 27 = .ok (.return_, 1) := by decide +kernel
theorem dX4_init_0 : decode cX4_init 0 = .ok (.aload_n 0, 1) := by decide +kernel
theorem dX4_init_1 : decode cX4_init 1 = .ok (.invokespecial 3, 3) := by decide +kernel
theorem dX4_init_4 : decode cX4_init 4 = .ok (.aload_n 0, 1) := by decide +kernel
theorem dX4_init_5 : decode cX4_init 5 = .ok (.bipush 30, 2) := by decide +kernel
theorem dX4_init_7 : decode cX4_init 7 = .ok (.newarray .int, 2) := by decide +kernel
theorem dX4_init_9 : decode cX4_init 9 = .ok (.putfield 9, 3) := by decide +kernel
theorem dX4_init_12 : decode cX4_init 12 = .ok (.aload_n 0, 1) := by decide +kernel
theorem dX4_init_13 : decode cX4_init 13 = .ok (.bipush 30, 2) := by decide +kernel
theorem dX4_init_15 : decode cX4_init 15 = .ok (.newarray .int, 2) := by decide +kernel
theorem dX4_init_17 : decode cX4_init 17 = .ok (.putfield 15, 3) := by decide +kernel
theorem dX4_init_20 : decode cX4_init 20 = .ok (.aload_n 0, 1) := by decide +kernel
theorem dX4_init_21 : decode cX4_init 21 = .ok (.bipush 30, 2) := by decide +kernel
theorem dX4_init_23 : decode cX4_init 23 = .ok (.newarray .int, 2) := by decide +kernel
theorem dX4_init_25 : decode cX4_init 25 = .ok (.putfield 18, 3) := by decide +kernel
theorem dX4_init_28 : decode cX4_init 28 = .ok (.aload_n 0, 1) := by decide +kernel
theorem dX4_init_29 : decode cX4_init 29 = .ok (.bipush 30, 2) := by decide +kernel
theorem dX4_init_31 : decode cX4_init 31 = .ok (.newarray .int, 2) := by decide +kernel
theorem dX4_init_33 : decode cX4_init 33 = .ok (.putfield 21, 3) := by decide +kernel
theorem dX4_init_36 : decode cX4_init 36 = .ok (.aload_n 0, 1) := by decide +kernel
theorem dX4_init_37 : decode cX4_init 37 = .ok (.bipush 10, 2) := by decide +kernel
theorem dX4_init_39 : decode cX4_init 39 = .ok (.newarray .int, 2) := by decide +kernel
theorem dX4_init_41 : decode cX4_init 41 = .ok (.putfield 24, 3) := by decide +kernel
theorem dX4_init_44 : decode cX4_init 44 = .ok (.aload_n 0, 1) := by decide +kernel
theorem dX4_init_45 : decode cX4_init 45 = .ok (.bipush 6, 2) := by decide +kernel
theorem dX4_init_47 : decode cX4_init 47 = .ok (.newarray .int, 2) := by decide +kernel
theorem dX4_init_49 : decode cX4_init 49 = .ok (.putfield 27, 3) := by decide +kernel
theorem dX4_init_52 : decode cX4_init 52 = .ok (.iconst 0, 1) := by decide +kernel
theorem dX4_init_53 : decode cX4_init 53 = .ok (.istore_n 1, 1) := by decide +kernel
theorem dX4_init_54 : decode cX4_init 54 = .ok (.iload_n 1, 1) := by decide +kernel
theorem dX4_init_55 : decode cX4_init 55 = .ok (.bipush 30, 2) := by decide +kernel
theorem dX4_init_57 : decode cX4_init 57 = .ok (.if_icmp .ge 23, 3) := by decide +kernel
theorem dX4_init_60 : decode cX4_init 60 = .ok (.aload_n 0, 1) := by decide +kernel
theorem dX4_init_61 : decode cX4_init 61 = .ok (.getfield 9, 3) := by decide +kernel
theorem dX4_init_64 : decode cX4_init 64 = .ok (.iload_n 1, 1) := by decide +kernel
theorem dX4_init_65 : decode cX4_init 65 = .ok (.iconst (-1), 1) := by decide +kernel
theorem dX4_init_66 : decode cX4_init 66 = .ok (.iastore, 1) := by decide +kernel
theorem dX4_init_67 : decode cX4_init 67 = .ok (.aload_n 0, 1) := by decide +kernel
theorem dX4_init_68 : decode cX4_init 68 = .ok (.getfield 18, 3) := by decide +kernel
theorem dX4_init_71 : decode cX4_init 71 = .ok (.iload_n 1, 1) := by decide +kernel
theorem dX4_init_72 : decode cX4_init 72 = .ok (.iconst (-1), 1) := by decide +kernel
theorem dX4_init_73 : decode cX4_init 73 = .ok (.iastore, 1) := by decide +kernel
theorem dX4_init_74 : decode cX4_init 74 = .ok (.iinc 1 1, 3) := by decide +kernel
theorem dX4_init_77 : decode cX4_init 77 = .ok (.goto (-23), 3) := by decide +kernel
theorem dX4_init_80 : decode cX4_init 80 = .ok (.iconst 0, 1) := by decide +kernel
theorem dX4_init_81 : decode cX4_init 81 = .ok (.istore_n 1, 1) := by decide +kernel
theorem dX4_init_82 : decode cX4_init 82 = .ok (.iload_n 1, 1) := by decide +kernel
theorem dX4_init_83 : decode cX4_init 83 = .ok (.bipush 10, 2) := by decide +kernel
theorem dX4_init_85 : decode cX4_init 85 = .ok (.if_icmp .ge 16, 3) := by decide +kernel
theorem dX4_init_88 : decode cX4_init 88 = .ok (.aload_n 0, 1) := by decide +kernel
theorem dX4_init_89 : decode cX4_init 89 = .ok (.getfield 24, 3) := by decide +kernel
theorem dX4_init_92 : decode cX4_init 92 = .ok (.iload_n 1, 1) := by decide +kernel
theorem dX4_init_93 : decode cX4_init 93 = .ok (.iconst (-1), 1) := by decide +kernel
theorem dX4_init_94 : decode cX4_init 94 = .ok (.iastore, 1) := by decide +kernel
theorem dX4_init_95 : decode cX4_init 95 = .ok (.iinc 1 1, 3) := by decide +kernel
theorem dX4_init_98 : decode cX4_init 98 = .ok (.goto (-16), 3) := by decide +kernel
theorem dX4_init_101 : decode cX4_init 101 = .ok (.iconst 0, 1) := by decide +kernel
theorem dX4_init_102 : decode cX4_init 102 = .ok (.istore_n 1, 1) := by decide +kernel
theorem dX4_init_103 : decode cX4_init 103 = .ok (.iload_n 1, 1) := by decide +kernel
theorem dX4_init_104 : decode cX4_init 104 = .ok (.bipush 6, 2) := by decide +kernel
theorem dX4_init_106 : decode cX4_init 106 = .ok (.if_icmp .ge 17, 3) := by decide +kernel
theorem dX4_init_109 : decode cX4_init 109 = .ok (.aload_n 0, 1) := by decide +kernel
theorem dX4_init_110 : decode cX4_init 110 = .ok (.getfield 27, 3) := by decide +kernel
theorem dX4_init_113 : decode cX4_init 113 = .ok (.iload_n 1, 1) := by decide +kernel
theorem dX4_init_114 : decode cX4_init 114 = .ok (.bipush 8, 2) := by decide +kernel
theorem dX4_init_116 : decode cX4_init 116 = .ok (.iastore, 1) := by decide +kernel
theorem dX4_init_117 : decode cX4_init 117 = .ok (.iinc 1 1, 3) := by decide +kernel
theorem dX4_init_120 : decode cX4_init 120 = .ok (.goto (-17), 3) := by decide +kernel
theorem dX4_init_123 : decode cX4_init 123 = .ok (.return_, 1) := by decide +kernel
theorem dX4_isBare_0 : decode cX4_isBare 0 = .ok (.aload_n 0, 1) := by decide +kernel
theorem dX4_isBare_1 : decode cX4_isBare 1 = .ok (.getfield 9, 3) := by decide +kernel
theorem dX4_isBare_4 : decode cX4_isBare 4 = .ok (.iload_n 1, 1) := by decide +kernel
theorem dX4_isBare_5 : decode cX4_isBare 5 = .ok (.iaload, 1) := by decide +kernel
theorem dX4_isBare_6 : decode cX4_isBare 6 = .ok (.iconst (-1), 1) := by decide +kernel
theorem dX4_isBare_7 : decode cX4_isBare 7 = .ok (.if_icmp .ne 17, 3) := by decide +kernel
theorem dX4_isBare_10 : decode cX4_isBare 10 = .ok (.aload_n 0, 1) := by decide +kernel
theorem dX4_isBare_11 : decode cX4_isBare 11 = .ok (.getfield 18, 3) := by decide +kernel
theorem dX4_isBare_14 : decode cX4_isBare 14 = .ok (.iload_n 1, 1) := by decide +kernel
theorem dX4_isBare_15 : decode cX4_isBare 15 = .ok (.iaload, 1) := by decide +kernel
theorem dX4_isBare_16 : decode cX4_isBare 16 = .ok (.iconst (-1), 1) := by decide +kernel
theorem dX4_isBare_17 : decode cX4_isBare 17 = .ok (.if_icmp .ne 7, 3) := by decide +kernel
theorem dX4_isBare_20 : decode cX4_isBare 20 = .ok (.iconst 1, 1) := by decide +kernel
theorem dX4_isBare_21 : decode cX4_isBare 21 = .ok (.goto 4, 3) := by decide +kernel
theorem dX4_isBare_24 : decode cX4_isBare 24 = .ok (.iconst 0, 1) := by decide +kernel
theorem dX4_isBare_25 : decode cX4_isBare 25 = .ok (.ireturn, 1) := by decide +kernel
theorem dX4_isBetterName_0 : decode cX4_isBetterName 0 = .ok (.aload_n 0, 1) := by decide +kernel
theorem dX4_isBetterName_1 : decode cX4_isBetterName 1 = .ok (.getfield 27, 3) := by decide +kernel
theorem dX4_isBetterName_4 : decode cX4_isBetterName 4 = .ok (.iload_n 1, 1) := by decide +kernel
theorem dX4_isBetterName_5 : decode cX4_isBetterName 5 = .ok (.iaload, 1) := by decide +kernel
theorem dX4_isBetterName_6 : decode cX4_isBetterName 6 = .ok (.aload_n 0, 1) := by decide +kernel
theorem dX4_isBetterName_7 : decode cX4_isBetterName 7 = .ok (.getfield 27, 3) := by decide +kernel
theorem dX4_isBetterName_10 : decode cX4_isBetterName 10 = .ok (.iload_n 2, 1) := by decide +kernel
theorem dX4_isBetterName_11 : decode cX4_isBetterName 11 = .ok (.iaload, 1) := by decide +kernel
theorem dX4_isBetterName_12 : decode cX4_isBetterName 12 = .ok (.if_icmp .eq 26, 3) := by decide +kernel
theorem dX4_isBetterName_15 : decode cX4_isBetterName 15 = .ok (.aload_n 0, 1) := by decide +kernel
theorem dX4_isBetterName_16 : decode cX4_isBetterName 16 = .ok (.getfield 27, 3) := by decide +kernel
theorem dX4_isBetterName_19 : decode cX4_isBetterName 19 = .ok (.iload_n 1, 1) := by decide +kernel
theorem dX4_isBetterName_20 : decode cX4_isBetterName 20 = .ok (.iaload, 1) := by decide +kernel
theorem dX4_isBetterName_21 : decode cX4_isBetterName 21 = .ok (.aload_n 0, 1) := by decide +kernel
theorem dX4_isBetterName_22 : decode cX4_isBetterName 22 = .ok (.getfield 27, 3) := by decide +kernel
theorem dX4_isBetterName_25 : decode cX4_isBetterName 25 = .ok (.iload_n 2, 1) := by decide +kernel
theorem dX4_isBetterName_26 : decode cX4_isBetterName 26 = .ok (.iaload, 1) := by decide +kernel
theorem dX4_isBetterName_27 : decode cX4_isBetterName 27 = .ok (.if_icmp .ge 7, 3) := by decide +kernel
theorem dX4_isBetterName_30 : decode cX4_isBetterName 30 = .ok (.iconst 1, 1) := by decide +kernel
theorem dX4_isBetterName_31 : decode cX4_isBetterName 31 = .ok (.goto 17, 3) := by decide +kernel
theorem dX4_isBetterName_34 : decode cX4_isBetterName 34 = .ok (.iconst 0, 1) := by decide +kernel
theorem dX4_isBetterName_35 : decode cX4_isBetterName 35 = .ok (.goto 13, 3) := by decide +kernel
theorem dX4_isBetterName_38 : decode cX4_isBetterName 38 = .ok (.iload_n 1, 1) := by decide +kernel
theorem dX4_isBetterName_39 : decode cX4_isBetterName 39 = .ok (.iload_n 2, 1) := by decide +kernel
theorem dX4_isBetterName_40 : decode cX4_isBetterName 40 = .ok (.if_icmp .ge 7, 3) := by decide +kernel
theorem dX4_isBetterName_43 : decode cX4_isBetterName 43 = .ok (.iconst 1, 1) := by decide +kernel
theorem dX4_isBetterName_44 : decode cX4_isBetterName 44 = .ok (.goto 4, 3) := by decide +kernel
theorem dX4_isBetterName_47 : decode cX4_isBetterName 47 = .ok (.iconst 0, 1) := by decide +kernel
theorem dX4_isBetterName_48 : decode cX4_isBetterName 48 = .ok (.ireturn, 1) := by decide +kernel
theorem dX4_putWire_0 : decode cX4_putWire 0 = .ok (.aload_n 0, 1) := by decide +kernel
theorem dX4_putWire_1 : decode cX4_putWire 1 = .ok (.getfield 9, 3) := by decide +kernel
theorem dX4_putWire_4 : decode cX4_putWire 4 = .ok (.iload_n 1, 1) := by decide +kernel
theorem dX4_putWire_5 : decode cX4_putWire 5 = .ok (.iload_n 2, 1) := by decide +kernel
theorem dX4_putWire_6 : decode cX4_putWire 6 = .ok (.iastore, 1) := by decide +kernel
theorem dX4_putWire_7 : decode cX4_putWire 7 = .ok (.aload_n 0, 1) := by decide +kernel
theorem dX4_putWire_8 : decode cX4_putWire 8 = .ok (.getfield 9, 3) := by decide +kernel
theorem dX4_putWire_11 : decode cX4_putWire 11 = .ok (.iload_n 2, 1) := by decide +kernel
theorem dX4_putWire_12 : decode cX4_putWire 12 = .ok (.iload_n 1, 1) := by decide +kernel
theorem dX4_putWire_13 : decode cX4_putWire 13 = .ok (.iastore, 1) := by decide +kernel
theorem dX4_putWire_14 : decode cX4_putWire 14 = .ok (.aload_n 0, 1) := by decide +kernel
theorem dX4_putWire_15 : decode cX4_putWire 15 = .ok (.getfield 15, 3) := by decide +kernel
theorem dX4_putWire_18 : decode cX4_putWire 18 = .ok (.iload_n 1, 1) := by decide +kernel
theorem dX4_putWire_19 : decode cX4_putWire 19 = .ok (.iload_n 3, 1) := by decide +kernel
theorem dX4_putWire_20 : decode cX4_putWire 20 = .ok (.iastore, 1) := by decide +kernel
theorem dX4_putWire_21 : decode cX4_putWire 21 = .ok (.aload_n 0, 1) := by decide +kernel
theorem dX4_putWire_22 : decode cX4_putWire 22 = .ok (.getfield 15, 3) := by decide +kernel
theorem dX4_putWire_25 : decode cX4_putWire 25 = .ok (.iload_n 2, 1) := by decide +kernel
theorem dX4_putWire_26 : decode cX4_putWire 26 = .ok (.iload_n 3, 1) := by decide +kernel
theorem dX4_putWire_27 : decode cX4_putWire 27 = .ok (.iastore, 1) := by decide +kernel
theorem dX4_putWire_28 : decode cX4_putWire 28 = .ok (.aload_n 0, 1) := by decide +kernel
theorem dX4_putWire_29 : decode cX4_putWire 29 = .ok (.dup, 1) := by decide +kernel
theorem dX4_putWire_30 : decode cX4_putWire 30 = .ok (.getfield 30, 3) := by decide +kernel
theorem dX4_putWire_33 : decode cX4_putWire 33 = .ok (.iconst 1, 1) := by decide +kernel
theorem dX4_putWire_34 : decode cX4_putWire 34 = .ok (.iadd, 1) := by decide +kernel
theorem dX4_putWire_35 : decode cX4_putWire 35 = .ok (.putfield 30, 3) := by decide +kernel
theorem dX4_putWire_38 : decode cX4_putWire 38 = .ok (.return_, 1) := by decide +kernel
theorem dX4_takeWire_0 : decode cX4_takeWire 0 = .ok (.aload_n 0, 1) := by decide +kernel
theorem dX4_takeWire_1 : decode cX4_takeWire 1 = .ok (.getfield 9, 3) := by decide +kernel
theorem dX4_takeWire_4 : decode cX4_takeWire 4 = .ok (.iload_n 1, 1) := by decide +kernel
theorem dX4_takeWire_5 : decode cX4_takeWire 5 = .ok (.iconst (-1), 1) := by decide +kernel
theorem dX4_takeWire_6 : decode cX4_takeWire 6 = .ok (.iastore, 1) := by decide +kernel
theorem dX4_takeWire_7 : decode cX4_takeWire 7 = .ok (.aload_n 0, 1) := by decide +kernel
theorem dX4_takeWire_8 : decode cX4_takeWire 8 = .ok (.getfield 9, 3) := by decide +kernel
theorem dX4_takeWire_11 : decode cX4_takeWire 11 = .ok (.iload_n 2, 1) := by decide +kernel
theorem dX4_takeWire_12 : decode cX4_takeWire 12 = .ok (.iconst (-1), 1) := by decide +kernel
theorem dX4_takeWire_13 : decode cX4_takeWire 13 = .ok (.iastore, 1) := by decide +kernel
theorem dX4_takeWire_14 : decode cX4_takeWire 14 = .ok (.aload_n 0, 1) := by decide +kernel
theorem dX4_takeWire_15 : decode cX4_takeWire 15 = .ok (.dup, 1) := by decide +kernel
theorem dX4_takeWire_16 : decode cX4_takeWire 16 = .ok (.getfield 30, 3) := by decide +kernel
theorem dX4_takeWire_19 : decode cX4_takeWire 19 = .ok (.iconst 1, 1) := by decide +kernel
theorem dX4_takeWire_20 : decode cX4_takeWire 20 = .ok (.isub, 1) := by decide +kernel
theorem dX4_takeWire_21 : decode cX4_takeWire 21 = .ok (.putfield 30, 3) := by decide +kernel
theorem dX4_takeWire_24 : decode cX4_takeWire 24 = .ok (.return_, 1) := by decide +kernel
theorem dX4_putHouse_0 : decode cX4_putHouse 0 = .ok (.aload_n 0, 1) := by decide +kernel
theorem dX4_putHouse_1 : decode cX4_putHouse 1 = .ok (.getfield 18, 3) := by decide +kernel
theorem dX4_putHouse_4 : decode cX4_putHouse 4 = .ok (.iload_n 1, 1) := by decide +kernel
theorem dX4_putHouse_5 : decode cX4_putHouse 5 = .ok (.iload_n 2, 1) := by decide +kernel
theorem dX4_putHouse_6 : decode cX4_putHouse 6 = .ok (.iastore, 1) := by decide +kernel
theorem dX4_putHouse_7 : decode cX4_putHouse 7 = .ok (.aload_n 0, 1) := by decide +kernel
theorem dX4_putHouse_8 : decode cX4_putHouse 8 = .ok (.getfield 24, 3) := by decide +kernel
theorem dX4_putHouse_11 : decode cX4_putHouse 11 = .ok (.iload_n 2, 1) := by decide +kernel
theorem dX4_putHouse_12 : decode cX4_putHouse 12 = .ok (.iload_n 1, 1) := by decide +kernel
theorem dX4_putHouse_13 : decode cX4_putHouse 13 = .ok (.iastore, 1) := by decide +kernel
theorem dX4_putHouse_14 : decode cX4_putHouse 14 = .ok (.aload_n 0, 1) := by decide +kernel
theorem dX4_putHouse_15 : decode cX4_putHouse 15 = .ok (.dup, 1) := by decide +kernel
theorem dX4_putHouse_16 : decode cX4_putHouse 16 = .ok (.getfield 34, 3) := by decide +kernel
theorem dX4_putHouse_19 : decode cX4_putHouse 19 = .ok (.iconst 1, 1) := by decide +kernel
theorem dX4_putHouse_20 : decode cX4_putHouse 20 = .ok (.iadd, 1) := by decide +kernel
theorem dX4_putHouse_21 : decode cX4_putHouse 21 = .ok (.putfield 34, 3) := by decide +kernel
theorem dX4_putHouse_24 : decode cX4_putHouse 24 = .ok (.return_, 1) := by decide +kernel
theorem dX4_takeHouse_0 : decode cX4_takeHouse 0 = .ok (.aload_n 0, 1) := by decide +kernel
theorem dX4_takeHouse_1 : decode cX4_takeHouse 1 = .ok (.getfield 18, 3) := by decide +kernel
theorem dX4_takeHouse_4 : decode cX4_takeHouse 4 = .ok (.iload_n 1, 1) := by decide +kernel
theorem dX4_takeHouse_5 : decode cX4_takeHouse 5 = .ok (.iaload, 1) := by decide +kernel
theorem dX4_takeHouse_6 : decode cX4_takeHouse 6 = .ok (.istore_n 2, 1) := by decide +kernel
theorem dX4_takeHouse_7 : decode cX4_takeHouse 7 = .ok (.aload_n 0, 1) := by decide +kernel
theorem dX4_takeHouse_8 : decode cX4_takeHouse 8 = .ok (.getfield 18, 3) := by decide +kernel
theorem dX4_takeHouse_11 : decode cX4_takeHouse 11 = .ok (.iload_n 1, 1) := by decide +kernel
theorem dX4_takeHouse_12 : decode cX4_takeHouse 12 = .ok (.iconst (-1), 1) := by decide +kernel
theorem dX4_takeHouse_13 : decode cX4_takeHouse 13 = .ok (.iastore, 1) := by decide +kernel
theorem dX4_takeHouse_14 : decode cX4_takeHouse 14 = .ok (.iload_n 2, 1) := by decide +kernel
theorem dX4_takeHouse_15 : decode cX4_takeHouse 15 = .ok (.iconst (-1), 1) := by decide +kernel
theorem dX4_takeHouse_16 : decode cX4_takeHouse 16 = .ok (.if_icmp .eq 20, 3) := by decide +kernel
theorem dX4_takeHouse_19 : decode cX4_takeHouse 19 = .ok (.aload_n 0, 1) := by decide +kernel
theorem dX4_takeHouse_20 : decode cX4_takeHouse 20 = .ok (.getfield 24, 3) := by decide +kernel
theorem dX4_takeHouse_23 : decode cX4_takeHouse 23 = .ok (.iload_n 2, 1) := by decide +kernel
theorem dX4_takeHouse_24 : decode cX4_takeHouse 24 = .ok (.iconst (-1), 1) := by decide +kernel
theorem dX4_takeHouse_25 : decode cX4_takeHouse 25 = .ok (.iastore, 1) := by decide +kernel
theorem dX4_takeHouse_26 : decode cX4_takeHouse 26 = .ok (.aload_n 0, 1) := by decide +kernel
theorem dX4_takeHouse_27 : decode cX4_takeHouse 27 = .ok (.dup, 1) := by decide +kernel
theorem dX4_takeHouse_28 : decode cX4_takeHouse 28 = .ok (.getfield 34, 3) := by decide +kernel
theorem dX4_takeHouse_31 : decode cX4_takeHouse 31 = .ok (.iconst 1, 1) := by decide +kernel
theorem dX4_takeHouse_32 : decode cX4_takeHouse 32 = .ok (.isub, 1) := by decide +kernel
theorem dX4_takeHouse_33 : decode cX4_takeHouse 33 = .ok (.putfield 34, 3) := by decide +kernel
theorem dX4_takeHouse_36 : decode cX4_takeHouse 36 = .ok (.iload_n 2, 1) := by decide +kernel
theorem dX4_takeHouse_37 : decode cX4_takeHouse 37 = .ok (.ireturn, 1) := by decide +kernel
