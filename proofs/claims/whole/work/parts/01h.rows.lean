set_option maxRecDepth 20000 in
theorem ggX6_send_X6_isHouse : GoodIn wsX6_send wsX6_isHouse := goodIn_r _ [5, 6, 7, 4, 8] (by decide +kernel) (by decide +kernel)
set_option maxRecDepth 20000 in
theorem gX6_send_X6_isHouse : GoodIn wsX6_send (va_wsS RX6 158 yX6_isHouse wsX6_isHouse) := goodIn_app (goodIn_of _ (by decide +kernel)) ggX6_send_X6_isHouse
set_option maxRecDepth 20000 in
theorem ggX6_send_X6_isIn : GoodIn wsX6_send wsX6_isIn := goodIn_r _ [8] (by decide +kernel) (by decide +kernel)
set_option maxRecDepth 20000 in
theorem gX6_send_X6_isIn : GoodIn wsX6_send (va_wsS RX6 129 yX6_isIn wsX6_isIn) := goodIn_app (goodIn_of _ (by decide +kernel)) ggX6_send_X6_isIn
set_option maxRecDepth 20000 in
theorem ggX6_send_X6_portOf : GoodIn wsX6_send wsX6_portOf := goodIn_r _ [12, 13, 86, 87, 88, 89, 90, 91, 92, 93, 94, 95, 96, 97, 98, 99, 100, 101, 102, 103, 104, 105, 106, 107, 108, 109, 110, 111, 112, 113, 114, 115, 116, 117, 118, 119, 120, 121, 122, 123, 124, 125, 126] (by decide +kernel) (by decide +kernel)
set_option maxRecDepth 20000 in
theorem gX6_send_X6_portOf : GoodIn wsX6_send (wsV RX6 237 RX6 yX6_portOf wsX6_portOf) := goodIn_app (goodIn_of _ (by decide +kernel)) ggX6_send_X6_portOf
set_option maxRecDepth 20000 in
theorem ggX6_send_X6_fails : GoodIn wsX6_send wsX6_fails := goodIn_r _ [17, 18, 86, 87, 88, 89, 90, 91, 92, 93, 94, 95, 96, 97, 98, 99, 100, 101, 102, 103, 104, 105, 106, 107, 108, 109, 110, 111, 112, 113, 114, 115, 116, 117, 118, 119, 120, 121, 122, 123, 124, 125, 126] (by decide +kernel) (by decide +kernel)
set_option maxRecDepth 20000 in
theorem gX6_send_X6_fails : GoodIn wsX6_send (wsV RX6 144 RX6 yX6_fails wsX6_fails) := goodIn_app (goodIn_of _ (by decide +kernel)) ggX6_send_X6_fails
set_option maxRecDepth 20000 in
theorem ggX6_send_X6_queues : GoodIn wsX6_send wsX6_queues := goodIn_r _ [22, 23, 1, 24, 25, 26, 86, 87, 88, 89, 90, 91, 92, 93, 94, 95, 96, 97, 98, 99, 100, 101, 102, 103, 104, 105, 106, 107, 108, 109, 110, 111, 112, 113, 114, 115, 116, 117, 118, 119, 120, 121, 122, 123, 124, 125, 126] (by decide +kernel) (by decide +kernel)
set_option maxRecDepth 20000 in
theorem gX6_send_X6_queues : GoodIn wsX6_send (wsV RX6 221 RX6 yX6_queues wsX6_queues) := goodIn_app (goodIn_of _ (by decide +kernel)) ggX6_send_X6_queues
set_option maxRecDepth 20000 in
theorem ggX6_send_X6_comes : GoodIn wsX6_send wsX6_comes := goodIn_r _ [30, 23, 24, 25, 31, 32, 26, 33, 34, 35, 36, 37, 38, 39, 4, 40, 41, 42, 43, 44, 45, 46, 47, 48, 49, 50, 51, 52, 53, 54, 55, 56, 57, 58, 59, 13, 60, 61, 62, 63, 64, 65, 66, 19, 20, 21, 22, 1, 67, 68, 69, 70, 71, 72, 73, 74, 75, 76, 77, 78, 79, 80, 81, 82, 83, 84, 85, 86, 87, 88, 89, 90, 91, 92, 93, 94, 95, 96, 97, 98, 99, 100, 101, 102, 103, 104, 105, 106, 107, 108, 109, 110, 111, 112, 113, 114, 115, 116, 117, 118, 119, 120, 121, 122, 123, 124, 125, 126] (by decide +kernel) (by decide +kernel)
set_option maxRecDepth 20000 in
theorem gX6_send_X6_comes : GoodIn wsX6_send (wsV RX6 240 RX6 yX6_comes wsX6_comes) := goodIn_app (goodIn_of _ (by decide +kernel)) ggX6_send_X6_comes
theorem dX6_send_0 : decode cX6_send 0 = .ok (.iload_n 1, 1) := by decide +kernel
theorem dX6_send_1 : decode cX6_send 1 = .ok (.invokestatic 158, 3) := by decide +kernel
theorem dX6_send_4 : decode cX6_send 4 = .ok (.ifCond .eq 17, 3) := by decide +kernel
theorem dX6_send_7 : decode cX6_send 7 = .ok (.iload_n 2, 1) := by decide +kernel
theorem dX6_send_8 : decode cX6_send 8 = .ok (.iconst 0, 1) := by decide +kernel
theorem dX6_send_9 : decode cX6_send 9 = .ok (.bipush 10, 2) := by decide +kernel
theorem dX6_send_11 : decode cX6_send 11 = .ok (.invokestatic 129, 3) := by decide +kernel
theorem dX6_send_14 : decode cX6_send 14 = .ok (.ifCond .eq 7, 3) := by decide +kernel
theorem dX6_send_17 : decode cX6_send 17 = .ok (.iconst 1, 1) := by decide +kernel
theorem dX6_send_18 : decode cX6_send 18 = .ok (.goto 4, 3) := by decide +kernel
theorem dX6_send_21 : decode cX6_send 21 = .ok (.iconst 0, 1) := by decide +kernel
theorem dX6_send_22 : decode cX6_send 22 = .ok (.istore 5, 2) := by decide +kernel
theorem dX6_send_24 : decode cX6_send 24 = .ok (.iload_n 1, 1) := by decide +kernel
theorem dX6_send_25 : decode cX6_send 25 = .ok (.iload_n 2, 1) := by decide +kernel
theorem dX6_send_26 : decode cX6_send 26 = .ok (.if_icmp .eq 34, 3) := by decide +kernel
theorem dX6_send_29 : decode cX6_send 29 = .ok (.iload_n 3, 1) := by decide +kernel
theorem dX6_send_30 : decode cX6_send 30 = .ok (.iconst 0, 1) := by decide +kernel
theorem dX6_send_31 : decode cX6_send 31 = .ok (.iconst 3, 1) := by decide +kernel
theorem dX6_send_32 : decode cX6_send 32 = .ok (.invokestatic 129, 3) := by decide +kernel
theorem dX6_send_35 : decode cX6_send 35 = .ok (.ifCond .eq 25, 3) := by decide +kernel
theorem dX6_send_38 : decode cX6_send 38 = .ok (.iload 4, 2) := by decide +kernel
theorem dX6_send_40 : decode cX6_send 40 = .ok (.iconst 0, 1) := by decide +kernel
theorem dX6_send_41 : decode cX6_send 41 = .ok (.iload_n 3, 1) := by decide +kernel
theorem dX6_send_42 : decode cX6_send 42 = .ok (.ifCond .ne 7, 3) := by decide +kernel
theorem dX6_send_45 : decode cX6_send 45 = .ok (.iconst 0, 1) := by decide +kernel
theorem dX6_send_46 : decode cX6_send 46 = .ok (.goto 4, 3) := by decide +kernel
theorem dX6_send_49 : decode cX6_send 49 = .ok (.iconst 3, 1) := by decide +kernel
theorem dX6_send_50 : decode cX6_send 50 = .ok (.invokestatic 129, 3) := by decide +kernel
theorem dX6_send_53 : decode cX6_send 53 = .ok (.ifCond .eq 7, 3) := by decide +kernel
theorem dX6_send_56 : decode cX6_send 56 = .ok (.iconst 1, 1) := by decide +kernel
theorem dX6_send_57 : decode cX6_send 57 = .ok (.goto 4, 3) := by decide +kernel
theorem dX6_send_60 : decode cX6_send 60 = .ok (.iconst 0, 1) := by decide +kernel
theorem dX6_send_61 : decode cX6_send 61 = .ok (.istore 6, 2) := by decide +kernel
theorem dX6_send_63 : decode cX6_send 63 = .ok (.iload 5, 2) := by decide +kernel
theorem dX6_send_65 : decode cX6_send 65 = .ok (.ifCond .eq 11, 3) := by decide +kernel
theorem dX6_send_68 : decode cX6_send 68 = .ok (.aload_n 0, 1) := by decide +kernel
theorem dX6_send_69 : decode cX6_send 69 = .ok (.iload_n 1, 1) := by decide +kernel
theorem dX6_send_70 : decode cX6_send 70 = .ok (.invokevirtual 237, 3) := by decide +kernel
theorem dX6_send_73 : decode cX6_send 73 = .ok (.goto 4, 3) := by decide +kernel
theorem dX6_send_76 : decode cX6_send 76 = .ok (.iconst (-1), 1) := by decide +kernel
theorem dX6_send_77 : decode cX6_send 77 = .ok (.istore 7, 2) := by decide +kernel
theorem dX6_send_79 : decode cX6_send 79 = .ok (.aload_n 0, 1) := by decide +kernel
theorem dX6_send_80 : decode cX6_send 80 = .ok (.iload 5, 2) := by decide +kernel
theorem dX6_send_82 : decode cX6_send 82 = .ok (.ifCond .ne 7, 3) := by decide +kernel
theorem dX6_send_85 : decode cX6_send 85 = .ok (.iconst 1, 1) := by decide +kernel
theorem dX6_send_86 : decode cX6_send 86 = .ok (.goto 23, 3) := by decide +kernel
theorem dX6_send_89 : decode cX6_send 89 = .ok (.iload 6, 2) := by decide +kernel
theorem dX6_send_91 : decode cX6_send 91 = .ok (.ifCond .ne 7, 3) := by decide +kernel
theorem dX6_send_94 : decode cX6_send 94 = .ok (.iconst 2, 1) := by decide +kernel
theorem dX6_send_95 : decode cX6_send 95 = .ok (.goto 14, 3) := by decide +kernel
theorem dX6_send_98 : decode cX6_send 98 = .ok (.iload 7, 2) := by decide +kernel
theorem dX6_send_100 : decode cX6_send 100 = .ok (.iconst (-1), 1) := by decide +kernel
theorem dX6_send_101 : decode cX6_send 101 = .ok (.if_icmp .ne 7, 3) := by decide +kernel
theorem dX6_send_104 : decode cX6_send 104 = .ok (.iconst 3, 1) := by decide +kernel
theorem dX6_send_105 : decode cX6_send 105 = .ok (.goto 4, 3) := by decide +kernel
theorem dX6_send_108 : decode cX6_send 108 = .ok (.iconst 0, 1) := by decide +kernel
theorem dX6_send_109 : decode cX6_send 109 = .ok (.invokevirtual 144, 3) := by decide +kernel
theorem dX6_send_112 : decode cX6_send 112 = .ok (.ifCond .eq 5, 3) := by decide +kernel
theorem dX6_send_115 : decode cX6_send 115 = .ok (.iconst 0, 1) := by decide +kernel
theorem dX6_send_116 : decode cX6_send 116 = .ok (.ireturn, 1) := by decide +kernel
theorem dX6_send_117 : decode cX6_send 117 = .ok (.aload_n 0, 1) := by decide +kernel
theorem dX6_send_118 : decode cX6_send 118 = .ok (.iconst 0, 1) := by decide +kernel
theorem dX6_send_119 : decode cX6_send 119 = .ok (.putfield 215, 3) := by decide +kernel
theorem dX6_send_122 : decode cX6_send 122 = .ok (.aload_n 0, 1) := by decide +kernel
theorem dX6_send_123 : decode cX6_send 123 = .ok (.iload 7, 2) := by decide +kernel
theorem dX6_send_125 : decode cX6_send 125 = .ok (.iload_n 3, 1) := by decide +kernel
theorem dX6_send_126 : decode cX6_send 126 = .ok (.iload 4, 2) := by decide +kernel
theorem dX6_send_128 : decode cX6_send 128 = .ok (.iconst 0, 1) := by decide +kernel
theorem dX6_send_129 : decode cX6_send 129 = .ok (.invokevirtual 221, 3) := by decide +kernel
theorem dX6_send_132 : decode cX6_send 132 = .ok (.iconst 0, 1) := by decide +kernel
theorem dX6_send_133 : decode cX6_send 133 = .ok (.istore 8, 2) := by decide +kernel
theorem dX6_send_135 : decode cX6_send 135 = .ok (.iconst 0, 1) := by decide +kernel
theorem dX6_send_136 : decode cX6_send 136 = .ok (.istore 9, 2) := by decide +kernel
theorem dX6_send_138 : decode cX6_send 138 = .ok (.iload 9, 2) := by decide +kernel
theorem dX6_send_140 : decode cX6_send 140 = .ok (.aload_n 0, 1) := by decide +kernel
theorem dX6_send_141 : decode cX6_send 141 = .ok (.getfield 215, 3) := by decide +kernel
theorem dX6_send_144 : decode cX6_send 144 = .ok (.if_icmp .ge 30, 3) := by decide +kernel
theorem dX6_send_147 : decode cX6_send 147 = .ok (.iload 9, 2) := by decide +kernel
theorem dX6_send_149 : decode cX6_send 149 = .ok (.sipush 400, 3) := by decide +kernel
theorem dX6_send_152 : decode cX6_send 152 = .ok (.if_icmp .ge 22, 3) := by decide +kernel
theorem dX6_send_155 : decode cX6_send 155 = .ok (.iload 8, 2) := by decide +kernel
theorem dX6_send_157 : decode cX6_send 157 = .ok (.aload_n 0, 1) := by decide +kernel
theorem dX6_send_158 : decode cX6_send 158 = .ok (.iload 9, 2) := by decide +kernel
theorem dX6_send_160 : decode cX6_send 160 = .ok (.iload_n 1, 1) := by decide +kernel
theorem dX6_send_161 : decode cX6_send 161 = .ok (.iload_n 2, 1) := by decide +kernel
theorem dX6_send_162 : decode cX6_send 162 = .ok (.invokevirtual 240, 3) := by decide +kernel
theorem dX6_send_165 : decode cX6_send 165 = .ok (.iadd, 1) := by decide +kernel
theorem dX6_send_166 : decode cX6_send 166 = .ok (.istore 8, 2) := by decide +kernel
theorem dX6_send_168 : decode cX6_send 168 = .ok (.iinc 9 1, 3) := by decide +kernel
theorem dX6_send_171 : decode cX6_send 171 = .ok (.goto (-33), 3) := by decide +kernel
theorem dX6_send_174 : decode cX6_send 174 = .ok (.iload 8, 2) := by decide +kernel
theorem dX6_send_176 : decode cX6_send 176 = .ok (.ireturn, 1) := by decide +kernel
set_option maxRecDepth 20000 in
theorem ggX6_holds__X6_isSwitch : GoodIn wsX6_holds_ wsX6_isSwitch := goodIn_r _ [9, 10, 11, 8, 12] (by decide +kernel) (by decide +kernel)
set_option maxRecDepth 20000 in
theorem gX6_holds__X6_isSwitch : GoodIn wsX6_holds_ (va_wsS RX6 133 yX6_isSwitch wsX6_isSwitch) := goodIn_app (goodIn_of _ (by decide +kernel)) ggX6_holds__X6_isSwitch
set_option maxRecDepth 20000 in
theorem ggX6_holds__X6_isIn : GoodIn wsX6_holds_ wsX6_isIn := goodIn_r _ [12] (by decide +kernel) (by decide +kernel)
set_option maxRecDepth 20000 in
theorem gX6_holds__X6_isIn : GoodIn wsX6_holds_ (va_wsS RX6 129 yX6_isIn wsX6_isIn) := goodIn_app (goodIn_of _ (by decide +kernel)) ggX6_holds__X6_isIn
set_option maxRecDepth 20000 in
theorem ggX6_holds__X6_fails : GoodIn wsX6_holds_ wsX6_fails := goodIn_r _ [16, 17, 18, 19, 20, 21, 22, 23, 24, 25, 26, 27, 28, 29, 30, 31, 32, 33, 34, 35, 36, 37, 38, 39, 40, 41, 42, 43, 44, 45, 46, 47, 48, 49, 50, 51, 52, 53, 54, 55, 56, 57, 58] (by decide +kernel) (by decide +kernel)
set_option maxRecDepth 20000 in
theorem gX6_holds__X6_fails : GoodIn wsX6_holds_ (wsV RX6 144 RX6 yX6_fails wsX6_fails) := goodIn_app (goodIn_of _ (by decide +kernel)) ggX6_holds__X6_fails
theorem dX6_holds__0 : decode cX6_holds_ 0 = .ok (.aload_n 0, 1) := by decide +kernel
theorem dX6_holds__1 : decode cX6_holds_ 1 = .ok (.iload_n 1, 1) := by decide +kernel
theorem dX6_holds__2 : decode cX6_holds_ 2 = .ok (.invokestatic 133, 3) := by decide +kernel
theorem dX6_holds__5 : decode cX6_holds_ 5 = .ok (.ifCond .ne 7, 3) := by decide +kernel
theorem dX6_holds__8 : decode cX6_holds_ 8 = .ok (.iconst 1, 1) := by decide +kernel
theorem dX6_holds__9 : decode cX6_holds_ 9 = .ok (.goto 17, 3) := by decide +kernel
theorem dX6_holds__12 : decode cX6_holds_ 12 = .ok (.iload_n 2, 1) := by decide +kernel
theorem dX6_holds__13 : decode cX6_holds_ 13 = .ok (.iconst 0, 1) := by decide +kernel
theorem dX6_holds__14 : decode cX6_holds_ 14 = .ok (.iconst 4, 1) := by decide +kernel
theorem dX6_holds__15 : decode cX6_holds_ 15 = .ok (.invokestatic 129, 3) := by decide +kernel
theorem dX6_holds__18 : decode cX6_holds_ 18 = .ok (.ifCond .eq 7, 3) := by decide +kernel
theorem dX6_holds__21 : decode cX6_holds_ 21 = .ok (.iconst 0, 1) := by decide +kernel
theorem dX6_holds__22 : decode cX6_holds_ 22 = .ok (.goto 4, 3) := by decide +kernel
theorem dX6_holds__25 : decode cX6_holds_ 25 = .ok (.iconst 2, 1) := by decide +kernel
theorem dX6_holds__26 : decode cX6_holds_ 26 = .ok (.invokevirtual 144, 3) := by decide +kernel
theorem dX6_holds__29 : decode cX6_holds_ 29 = .ok (.ifCond .eq 5, 3) := by decide +kernel
theorem dX6_holds__32 : decode cX6_holds_ 32 = .ok (.iconst 0, 1) := by decide +kernel
theorem dX6_holds__33 : decode cX6_holds_ 33 = .ok (.ireturn, 1) := by decide +kernel
theorem dX6_holds__34 : decode cX6_holds_ 34 = .ok (.iload_n 2, 1) := by decide +kernel
theorem dX6_holds__35 : decode cX6_holds_ 35 = .ok (.ifCond .ne 12, 3) := by decide +kernel
theorem dX6_holds__38 : decode cX6_holds_ 38 = .ok (.aload_n 0, 1) := by decide +kernel
theorem dX6_holds__39 : decode cX6_holds_ 39 = .ok (.getfield 57, 3) := by decide +kernel
theorem dX6_holds__42 : decode cX6_holds_ 42 = .ok (.iload_n 1, 1) := by decide +kernel
theorem dX6_holds__43 : decode cX6_holds_ 43 = .ok (.iaload, 1) := by decide +kernel
theorem dX6_holds__44 : decode cX6_holds_ 44 = .ok (.goto 67, 3) := by decide +kernel
theorem dX6_holds__47 : decode cX6_holds_ 47 = .ok (.iload_n 2, 1) := by decide +kernel
theorem dX6_holds__48 : decode cX6_holds_ 48 = .ok (.iconst 1, 1) := by decide +kernel
theorem dX6_holds__49 : decode cX6_holds_ 49 = .ok (.if_icmp .ne 12, 3) := by decide +kernel
theorem dX6_holds__52 : decode cX6_holds_ 52 = .ok (.aload_n 0, 1) := by decide +kernel
theorem dX6_holds__53 : decode cX6_holds_ 53 = .ok (.getfield 60, 3) := by decide +kernel
theorem dX6_holds__56 : decode cX6_holds_ 56 = .ok (.iload_n 1, 1) := by decide +kernel
theorem dX6_holds__57 : decode cX6_holds_ 57 = .ok (.iaload, 1) := by decide +kernel
theorem dX6_holds__58 : decode cX6_holds_ 58 = .ok (.goto 53, 3) := by decide +kernel
theorem dX6_holds__61 : decode cX6_holds_ 61 = .ok (.iload_n 2, 1) := by decide +kernel
theorem dX6_holds__62 : decode cX6_holds_ 62 = .ok (.iconst 2, 1) := by decide +kernel
theorem dX6_holds__63 : decode cX6_holds_ 63 = .ok (.if_icmp .ne 12, 3) := by decide +kernel
theorem dX6_holds__66 : decode cX6_holds_ 66 = .ok (.aload_n 0, 1) := by decide +kernel
theorem dX6_holds__67 : decode cX6_holds_ 67 = .ok (.getfield 63, 3) := by decide +kernel
theorem dX6_holds__70 : decode cX6_holds_ 70 = .ok (.iload_n 1, 1) := by decide +kernel
theorem dX6_holds__71 : decode cX6_holds_ 71 = .ok (.iaload, 1) := by decide +kernel
theorem dX6_holds__72 : decode cX6_holds_ 72 = .ok (.goto 39, 3) := by decide +kernel
theorem dX6_holds__75 : decode cX6_holds_ 75 = .ok (.iload_n 2, 1) := by decide +kernel
theorem dX6_holds__76 : decode cX6_holds_ 76 = .ok (.iconst 3, 1) := by decide +kernel
theorem dX6_holds__77 : decode cX6_holds_ 77 = .ok (.if_icmp .ne 28, 3) := by decide +kernel
theorem dX6_holds__80 : decode cX6_holds_ 80 = .ok (.aload_n 0, 1) := by decide +kernel
theorem dX6_holds__81 : decode cX6_holds_ 81 = .ok (.getfield 66, 3) := by decide +kernel
theorem dX6_holds__84 : decode cX6_holds_ 84 = .ok (.iload_n 1, 1) := by decide +kernel
theorem dX6_holds__85 : decode cX6_holds_ 85 = .ok (.iaload, 1) := by decide +kernel
theorem dX6_holds__86 : decode cX6_holds_ 86 = .ok (.iconst (-1), 1) := by decide +kernel
theorem dX6_holds__87 : decode cX6_holds_ 87 = .ok (.if_icmp .ne 7, 3) := by decide +kernel
theorem dX6_holds__90 : decode cX6_holds_ 90 = .ok (.iconst (-1), 1) := by decide +kernel
theorem dX6_holds__91 : decode cX6_holds_ 91 = .ok (.goto 20, 3) := by decide +kernel
theorem dX6_holds__94 : decode cX6_holds_ 94 = .ok (.aload_n 0, 1) := by decide +kernel
theorem dX6_holds__95 : decode cX6_holds_ 95 = .ok (.getfield 66, 3) := by decide +kernel
theorem dX6_holds__98 : decode cX6_holds_ 98 = .ok (.iload_n 1, 1) := by decide +kernel
theorem dX6_holds__99 : decode cX6_holds_ 99 = .ok (.iaload, 1) := by decide +kernel
theorem dX6_holds__100 : decode cX6_holds_ 100 = .ok (.iconst 5, 1) := by decide +kernel
theorem dX6_holds__101 : decode cX6_holds_ 101 = .ok (.irem, 1) := by decide +kernel
theorem dX6_holds__102 : decode cX6_holds_ 102 = .ok (.goto 9, 3) := by decide +kernel
theorem dX6_holds__105 : decode cX6_holds_ 105 = .ok (.aload_n 0, 1) := by decide +kernel
theorem dX6_holds__106 : decode cX6_holds_ 106 = .ok (.getfield 81, 3) := by decide +kernel
theorem dX6_holds__109 : decode cX6_holds_ 109 = .ok (.iload_n 1, 1) := by decide +kernel
theorem dX6_holds__110 : decode cX6_holds_ 110 = .ok (.iaload, 1) := by decide +kernel
theorem dX6_holds__111 : decode cX6_holds_ 111 = .ok (.ireturn, 1) := by decide +kernel
set_option maxRecDepth 20000 in
theorem ggX6_port_X6_isPort : GoodIn wsX6_port wsX6_isPort := goodIn_r _ [8, 9, 10, 7, 11, 12, 13, 14] (by decide +kernel) (by decide +kernel)
set_option maxRecDepth 20000 in
theorem gX6_port_X6_isPort : GoodIn wsX6_port (va_wsS RX6 137 yX6_isPort wsX6_isPort) := goodIn_app (goodIn_of _ (by decide +kernel)) ggX6_port_X6_isPort
set_option maxRecDepth 20000 in
theorem ggX6_port_X6_isIn : GoodIn wsX6_port wsX6_isIn := goodIn_r _ [14] (by decide +kernel) (by decide +kernel)
set_option maxRecDepth 20000 in
theorem gX6_port_X6_isIn : GoodIn wsX6_port (va_wsS RX6 129 yX6_isIn wsX6_isIn) := goodIn_app (goodIn_of _ (by decide +kernel)) ggX6_port_X6_isIn
set_option maxRecDepth 20000 in
theorem ggX6_port_X6_fails : GoodIn wsX6_port wsX6_fails := goodIn_r _ [18, 19, 20, 21, 22, 23, 24, 25, 26, 27, 28, 29, 30, 31, 32, 33, 34, 35, 36, 37, 38, 39, 40, 41, 42, 43, 44, 45, 46, 47, 48, 49, 50, 51, 52, 53, 54, 55, 56, 57, 58, 59, 60] (by decide +kernel) (by decide +kernel)
set_option maxRecDepth 20000 in
theorem gX6_port_X6_fails : GoodIn wsX6_port (wsV RX6 144 RX6 yX6_fails wsX6_fails) := goodIn_app (goodIn_of _ (by decide +kernel)) ggX6_port_X6_fails
theorem dX6_port_0 : decode cX6_port 0 = .ok (.aload_n 0, 1) := by decide +kernel
theorem dX6_port_1 : decode cX6_port 1 = .ok (.iload_n 1, 1) := by decide +kernel
theorem dX6_port_2 : decode cX6_port 2 = .ok (.iload_n 2, 1) := by decide +kernel
theorem dX6_port_3 : decode cX6_port 3 = .ok (.invokestatic 137, 3) := by decide +kernel
theorem dX6_port_6 : decode cX6_port 6 = .ok (.ifCond .ne 7, 3) := by decide +kernel
theorem dX6_port_9 : decode cX6_port 9 = .ok (.iconst 1, 1) := by decide +kernel
theorem dX6_port_10 : decode cX6_port 10 = .ok (.goto 17, 3) := by decide +kernel
theorem dX6_port_13 : decode cX6_port 13 = .ok (.iload_n 3, 1) := by decide +kernel
theorem dX6_port_14 : decode cX6_port 14 = .ok (.iconst 0, 1) := by decide +kernel
theorem dX6_port_15 : decode cX6_port 15 = .ok (.iconst 3, 1) := by decide +kernel
theorem dX6_port_16 : decode cX6_port 16 = .ok (.invokestatic 129, 3) := by decide +kernel
theorem dX6_port_19 : decode cX6_port 19 = .ok (.ifCond .eq 7, 3) := by decide +kernel
theorem dX6_port_22 : decode cX6_port 22 = .ok (.iconst 0, 1) := by decide +kernel
theorem dX6_port_23 : decode cX6_port 23 = .ok (.goto 4, 3) := by decide +kernel
theorem dX6_port_26 : decode cX6_port 26 = .ok (.iconst 2, 1) := by decide +kernel
theorem dX6_port_27 : decode cX6_port 27 = .ok (.invokevirtual 144, 3) := by decide +kernel
theorem dX6_port_30 : decode cX6_port 30 = .ok (.ifCond .eq 5, 3) := by decide +kernel
theorem dX6_port_33 : decode cX6_port 33 = .ok (.iconst 0, 1) := by decide +kernel
theorem dX6_port_34 : decode cX6_port 34 = .ok (.ireturn, 1) := by decide +kernel
theorem dX6_port_35 : decode cX6_port 35 = .ok (.iconst 5, 1) := by decide +kernel
theorem dX6_port_36 : decode cX6_port 36 = .ok (.iload_n 1, 1) := by decide +kernel
theorem dX6_port_37 : decode cX6_port 37 = .ok (.imul, 1) := by decide +kernel
theorem dX6_port_38 : decode cX6_port 38 = .ok (.iload_n 2, 1) := by decide +kernel
theorem dX6_port_39 : decode cX6_port 39 = .ok (.iadd, 1) := by decide +kernel
theorem dX6_port_40 : decode cX6_port 40 = .ok (.istore 4, 2) := by decide +kernel
theorem dX6_port_42 : decode cX6_port 42 = .ok (.iload_n 3, 1) := by decide +kernel
theorem dX6_port_43 : decode cX6_port 43 = .ok (.ifCond .ne 21, 3) := by decide +kernel
theorem dX6_port_46 : decode cX6_port 46 = .ok (.aload_n 0, 1) := by decide +kernel
theorem dX6_port_47 : decode cX6_port 47 = .ok (.getfield 45, 3) := by decide +kernel
theorem dX6_port_50 : decode cX6_port 50 = .ok (.iload 4, 2) := by decide +kernel
theorem dX6_port_52 : decode cX6_port 52 = .ok (.baload, 1) := by decide +kernel
theorem dX6_port_53 : decode cX6_port 53 = .ok (.ifCond .eq 7, 3) := by decide +kernel
theorem dX6_port_56 : decode cX6_port 56 = .ok (.iconst 1, 1) := by decide +kernel
theorem dX6_port_57 : decode cX6_port 57 = .ok (.goto 52, 3) := by decide +kernel
theorem dX6_port_60 : decode cX6_port 60 = .ok (.iconst 0, 1) := by decide +kernel
theorem dX6_port_61 : decode cX6_port 61 = .ok (.goto 48, 3) := by decide +kernel
theorem dX6_port_64 : decode cX6_port 64 = .ok (.iload_n 3, 1) := by decide +kernel
theorem dX6_port_65 : decode cX6_port 65 = .ok (.iconst 1, 1) := by decide +kernel
theorem dX6_port_66 : decode cX6_port 66 = .ok (.if_icmp .ne 13, 3) := by decide +kernel
theorem dX6_port_69 : decode cX6_port 69 = .ok (.aload_n 0, 1) := by decide +kernel
theorem dX6_port_70 : decode cX6_port 70 = .ok (.getfield 48, 3) := by decide +kernel
theorem dX6_port_73 : decode cX6_port 73 = .ok (.iload 4, 2) := by decide +kernel
theorem dX6_port_75 : decode cX6_port 75 = .ok (.iaload, 1) := by decide +kernel
theorem dX6_port_76 : decode cX6_port 76 = .ok (.goto 33, 3) := by decide +kernel
theorem dX6_port_79 : decode cX6_port 79 = .ok (.iload_n 3, 1) := by decide +kernel
theorem dX6_port_80 : decode cX6_port 80 = .ok (.iconst 2, 1) := by decide +kernel
theorem dX6_port_81 : decode cX6_port 81 = .ok (.if_icmp .ne 21, 3) := by decide +kernel
theorem dX6_port_84 : decode cX6_port 84 = .ok (.aload_n 0, 1) := by decide +kernel
theorem dX6_port_85 : decode cX6_port 85 = .ok (.getfield 39, 3) := by decide +kernel
theorem dX6_port_88 : decode cX6_port 88 = .ok (.iload 4, 2) := by decide +kernel
theorem dX6_port_90 : decode cX6_port 90 = .ok (.baload, 1) := by decide +kernel
theorem dX6_port_91 : decode cX6_port 91 = .ok (.ifCond .eq 7, 3) := by decide +kernel
theorem dX6_port_94 : decode cX6_port 94 = .ok (.iconst 1, 1) := by decide +kernel
theorem dX6_port_95 : decode cX6_port 95 = .ok (.goto 14, 3) := by decide +kernel
theorem dX6_port_98 : decode cX6_port 98 = .ok (.iconst 0, 1) := by decide +kernel
theorem dX6_port_99 : decode cX6_port 99 = .ok (.goto 10, 3) := by decide +kernel
theorem dX6_port_102 : decode cX6_port 102 = .ok (.aload_n 0, 1) := by decide +kernel
theorem dX6_port_103 : decode cX6_port 103 = .ok (.getfield 54, 3) := by decide +kernel
theorem dX6_port_106 : decode cX6_port 106 = .ok (.iload 4, 2) := by decide +kernel
theorem dX6_port_108 : decode cX6_port 108 = .ok (.iaload, 1) := by decide +kernel
theorem dX6_port_109 : decode cX6_port 109 = .ok (.ireturn, 1) := by decide +kernel
set_option maxRecDepth 20000 in
theorem ggX6_table_X6_isSwitch : GoodIn wsX6_table wsX6_isSwitch := goodIn_r _ [5, 6, 7, 4, 8] (by decide +kernel) (by decide +kernel)
set_option maxRecDepth 20000 in
theorem gX6_table_X6_isSwitch : GoodIn wsX6_table (va_wsS RX6 133 yX6_isSwitch wsX6_isSwitch) := goodIn_app (goodIn_of _ (by decide +kernel)) ggX6_table_X6_isSwitch
set_option maxRecDepth 20000 in
theorem ggX6_table_X6_isLane : GoodIn wsX6_table wsX6_isLane := goodIn_r _ [11, 6, 7, 4, 8] (by decide +kernel) (by decide +kernel)
set_option maxRecDepth 20000 in
theorem gX6_table_X6_isLane : GoodIn wsX6_table (va_wsS RX6 167 yX6_isLane wsX6_isLane) := goodIn_app (goodIn_of _ (by decide +kernel)) ggX6_table_X6_isLane
set_option maxRecDepth 20000 in
theorem ggX6_table_X6_isHouse : GoodIn wsX6_table wsX6_isHouse := goodIn_r _ [14, 6, 7, 4, 8] (by decide +kernel) (by decide +kernel)
set_option maxRecDepth 20000 in
theorem gX6_table_X6_isHouse : GoodIn wsX6_table (va_wsS RX6 158 yX6_isHouse wsX6_isHouse) := goodIn_app (goodIn_of _ (by decide +kernel)) ggX6_table_X6_isHouse
set_option maxRecDepth 20000 in
theorem ggX6_table_X6_fails : GoodIn wsX6_table wsX6_fails := goodIn_r _ [18, 19, 27, 28, 29, 30, 31, 32, 33, 34, 35, 36, 37, 38, 39, 40, 41, 42, 43, 44, 45, 46, 47, 48, 49, 50, 51, 52, 53, 54, 55, 56, 57, 58, 59, 60, 61, 62, 63, 64, 65, 66, 67] (by decide +kernel) (by decide +kernel)
set_option maxRecDepth 20000 in
theorem gX6_table_X6_fails : GoodIn wsX6_table (wsV RX6 144 RX6 yX6_fails wsX6_fails) := goodIn_app (goodIn_of _ (by decide +kernel)) ggX6_table_X6_fails
set_option maxRecDepth 20000 in
theorem ggX6_table_X6_find : GoodIn wsX6_table wsX6_find := goodIn_r _ [23, 24, 25, 26, 27, 28, 29, 30, 31, 32, 33, 34, 35, 36, 37, 38, 39, 40, 41, 42, 43, 44, 45, 46, 47, 48, 49, 50, 51, 52, 53, 54, 55, 56, 57, 58, 59, 60, 61, 62, 63, 64, 65, 66, 67] (by decide +kernel) (by decide +kernel)
set_option maxRecDepth 20000 in
theorem gX6_table_X6_find : GoodIn wsX6_table (wsV RX6 211 RX6 yX6_find wsX6_find) := goodIn_app (goodIn_of _ (by decide +kernel)) ggX6_table_X6_find
theorem dX6_table_0 : decode cX6_table 0 = .ok (.aload_n 0, 1) := by decide +kernel
theorem dX6_table_1 : decode cX6_table 1 = .ok (.iload_n 1, 1) := by decide +kernel
theorem dX6_table_2 : decode cX6_table 2 = .ok (.invokestatic 133, 3) := by decide +kernel
theorem dX6_table_5 : decode cX6_table 5 = .ok (.ifCond .eq 21, 3) := by decide +kernel
theorem dX6_table_8 : decode cX6_table 8 = .ok (.iload_n 2, 1) := by decide +kernel
theorem dX6_table_9 : decode cX6_table 9 = .ok (.invokestatic 167, 3) := by decide +kernel
theorem dX6_table_12 : decode cX6_table 12 = .ok (.ifCond .eq 14, 3) := by decide +kernel
theorem dX6_table_15 : decode cX6_table 15 = .ok (.iload_n 3, 1) := by decide +kernel
theorem dX6_table_16 : decode cX6_table 16 = .ok (.invokestatic 158, 3) := by decide +kernel
theorem dX6_table_19 : decode cX6_table 19 = .ok (.ifCond .eq 7, 3) := by decide +kernel
theorem dX6_table_22 : decode cX6_table 22 = .ok (.iconst 0, 1) := by decide +kernel
theorem dX6_table_23 : decode cX6_table 23 = .ok (.goto 4, 3) := by decide +kernel
theorem dX6_table_26 : decode cX6_table 26 = .ok (.iconst 1, 1) := by decide +kernel
theorem dX6_table_27 : decode cX6_table 27 = .ok (.invokevirtual 144, 3) := by decide +kernel
theorem dX6_table_30 : decode cX6_table 30 = .ok (.ifCond .eq 5, 3) := by decide +kernel
theorem dX6_table_33 : decode cX6_table 33 = .ok (.iconst 0, 1) := by decide +kernel
theorem dX6_table_34 : decode cX6_table 34 = .ok (.ireturn, 1) := by decide +kernel
theorem dX6_table_35 : decode cX6_table 35 = .ok (.aload_n 0, 1) := by decide +kernel
theorem dX6_table_36 : decode cX6_table 36 = .ok (.iload_n 1, 1) := by decide +kernel
theorem dX6_table_37 : decode cX6_table 37 = .ok (.iload_n 2, 1) := by decide +kernel
theorem dX6_table_38 : decode cX6_table 38 = .ok (.iload_n 3, 1) := by decide +kernel
theorem dX6_table_39 : decode cX6_table 39 = .ok (.invokevirtual 211, 3) := by decide +kernel
theorem dX6_table_42 : decode cX6_table 42 = .ok (.istore 4, 2) := by decide +kernel
theorem dX6_table_44 : decode cX6_table 44 = .ok (.iload 4, 2) := by decide +kernel
theorem dX6_table_46 : decode cX6_table 46 = .ok (.iconst (-1), 1) := by decide +kernel
theorem dX6_table_47 : decode cX6_table 47 = .ok (.if_icmp .ne 7, 3) := by decide +kernel
theorem dX6_table_50 : decode cX6_table 50 = .ok (.iconst (-1), 1) := by decide +kernel
theorem dX6_table_51 : decode cX6_table 51 = .ok (.goto 10, 3) := by decide +kernel
theorem dX6_table_54 : decode cX6_table 54 = .ok (.aload_n 0, 1) := by decide +kernel
theorem dX6_table_55 : decode cX6_table 55 = .ok (.getfield 90, 3) := by decide +kernel
theorem dX6_table_58 : decode cX6_table 58 = .ok (.iload 4, 2) := by decide +kernel
theorem dX6_table_60 : decode cX6_table 60 = .ok (.iaload, 1) := by decide +kernel
theorem dX6_table_61 : decode cX6_table 61 = .ok (.ireturn, 1) := by decide +kernel
set_option maxRecDepth 20000 in
theorem ggX6_got_X6_isHouse : GoodIn wsX6_got wsX6_isHouse := goodIn_r _ [6, 7, 8, 5, 9] (by decide +kernel) (by decide +kernel)
set_option maxRecDepth 20000 in
theorem gX6_got_X6_isHouse : GoodIn wsX6_got (va_wsS RX6 158 yX6_isHouse wsX6_isHouse) := goodIn_app (goodIn_of _ (by decide +kernel)) ggX6_got_X6_isHouse
set_option maxRecDepth 20000 in
theorem ggX6_got_X6_fails : GoodIn wsX6_got wsX6_fails := goodIn_r _ [13, 14, 15, 16, 17, 18, 19, 20, 21, 22, 23, 24, 25, 26, 27, 28, 29, 30, 31, 32, 33, 34, 35, 36, 37, 38, 39, 40, 41, 42, 43, 44, 45, 46, 47, 48, 49, 50, 51, 52, 53, 54, 55] (by decide +kernel) (by decide +kernel)
set_option maxRecDepth 20000 in
theorem gX6_got_X6_fails : GoodIn wsX6_got (wsV RX6 144 RX6 yX6_fails wsX6_fails) := goodIn_app (goodIn_of _ (by decide +kernel)) ggX6_got_X6_fails
theorem dX6_got_0 : decode cX6_got 0 = .ok (.aload_n 0, 1) := by decide +kernel
theorem dX6_got_1 : decode cX6_got 1 = .ok (.iload_n 1, 1) := by decide +kernel
theorem dX6_got_2 : decode cX6_got 2 = .ok (.invokestatic 158, 3) := by decide +kernel
theorem dX6_got_5 : decode cX6_got 5 = .ok (.ifCond .eq 7, 3) := by decide +kernel
theorem dX6_got_8 : decode cX6_got 8 = .ok (.iconst 0, 1) := by decide +kernel
theorem dX6_got_9 : decode cX6_got 9 = .ok (.goto 4, 3) := by decide +kernel
theorem dX6_got_12 : decode cX6_got 12 = .ok (.iconst 1, 1) := by decide +kernel
theorem dX6_got_13 : decode cX6_got 13 = .ok (.invokevirtual 144, 3) := by decide +kernel
theorem dX6_got_16 : decode cX6_got 16 = .ok (.ifCond .eq 7, 3) := by decide +kernel
theorem dX6_got_19 : decode cX6_got 19 = .ok (.iconst 0, 1) := by decide +kernel
theorem dX6_got_20 : decode cX6_got 20 = .ok (.goto 22, 3) := by decide +kernel
theorem dX6_got_23 : decode cX6_got 23 = .ok (.iload_n 2, 1) := by decide +kernel
theorem dX6_got_24 : decode cX6_got 24 = .ok (.ifCond .eq 12, 3) := by decide +kernel
theorem dX6_got_27 : decode cX6_got 27 = .ok (.aload_n 0, 1) := by decide +kernel
theorem dX6_got_28 : decode cX6_got 28 = .ok (.getfield 99, 3) := by decide +kernel
theorem dX6_got_31 : decode cX6_got 31 = .ok (.iload_n 1, 1) := by decide +kernel
theorem dX6_got_32 : decode cX6_got 32 = .ok (.iaload, 1) := by decide +kernel
theorem dX6_got_33 : decode cX6_got 33 = .ok (.goto 9, 3) := by decide +kernel
theorem dX6_got_36 : decode cX6_got 36 = .ok (.aload_n 0, 1) := by decide +kernel
theorem dX6_got_37 : decode cX6_got 37 = .ok (.getfield 96, 3) := by decide +kernel
theorem dX6_got_40 : decode cX6_got 40 = .ok (.iload_n 1, 1) := by decide +kernel
theorem dX6_got_41 : decode cX6_got 41 = .ok (.iaload, 1) := by decide +kernel
theorem dX6_got_42 : decode cX6_got 42 = .ok (.ireturn, 1) := by decide +kernel
theorem dX6_keeps_0 : decode cX6_keeps 0 = .ok (.iconst 0, 1) := by decide +kernel
theorem dX6_keeps_1 : decode cX6_keeps 1 = .ok (.istore_n 3, 1) := by decide +kernel
theorem dX6_keeps_2 : decode cX6_keeps 2 = .ok (.iload_n 3, 1) := by decide +kernel
theorem dX6_keeps_3 : decode cX6_keeps 3 = .ok (.aload_n 2, 1) := by decide +kernel
theorem dX6_keeps_4 : decode cX6_keeps 4 = .ok (.arraylength, 1) := by decide +kernel
theorem dX6_keeps_5 : decode cX6_keeps 5 = .ok (.if_icmp .ge 20, 3) := by decide +kernel
theorem dX6_keeps_8 : decode cX6_keeps 8 = .ok (.aload_n 0, 1) := by decide +kernel
theorem dX6_keeps_9 : decode cX6_keeps 9 = .ok (.getfield 114, 3) := by decide +kernel
theorem dX6_keeps_12 : decode cX6_keeps 12 = .ok (.iload_n 1, 1) := by decide +kernel
theorem dX6_keeps_13 : decode cX6_keeps 13 = .ok (.iload_n 3, 1) := by decide +kernel
theorem dX6_keeps_14 : decode cX6_keeps 14 = .ok (.iadd, 1) := by decide +kernel
theorem dX6_keeps_15 : decode cX6_keeps 15 = .ok (.aload_n 2, 1) := by decide +kernel
theorem dX6_keeps_16 : decode cX6_keeps 16 = .ok (.iload_n 3, 1) := by decide +kernel
theorem dX6_keeps_17 : decode cX6_keeps 17 = .ok (.iaload, 1) := by decide +kernel
theorem dX6_keeps_18 : decode cX6_keeps 18 = .ok (.iastore, 1) := by decide +kernel
theorem dX6_keeps_19 : decode cX6_keeps 19 = .ok (.iinc 3 1, 3) := by decide +kernel
theorem dX6_keeps_22 : decode cX6_keeps 22 = .ok (.goto (-20), 3) := by decide +kernel
theorem dX6_keeps_25 : decode cX6_keeps 25 = .ok (.return_, 1) := by decide +kernel
theorem dX6_back_0 : decode cX6_back 0 = .ok (.iconst 0, 1) := by decide +kernel
theorem dX6_back_1 : decode cX6_back 1 = .ok (.istore_n 3, 1) := by decide +kernel
theorem dX6_back_2 : decode cX6_back 2 = .ok (.iload_n 3, 1) := by decide +kernel
theorem dX6_back_3 : decode cX6_back 3 = .ok (.aload_n 2, 1) := by decide +kernel
theorem dX6_back_4 : decode cX6_back 4 = .ok (.arraylength, 1) := by decide +kernel
theorem dX6_back_5 : decode cX6_back 5 = .ok (.if_icmp .ge 20, 3) := by decide +kernel
theorem dX6_back_8 : decode cX6_back 8 = .ok (.aload_n 2, 1) := by decide +kernel
theorem dX6_back_9 : decode cX6_back 9 = .ok (.iload_n 3, 1) := by decide +kernel
theorem dX6_back_10 : decode cX6_back 10 = .ok (.aload_n 0, 1) := by decide +kernel
theorem dX6_back_11 : decode cX6_back 11 = .ok (.getfield 114, 3) := by decide +kernel
theorem dX6_back_14 : decode cX6_back 14 = .ok (.iload_n 1, 1) := by decide +kernel
theorem dX6_back_15 : decode cX6_back 15 = .ok (.iload_n 3, 1) := by decide +kernel
theorem dX6_back_16 : decode cX6_back 16 = .ok (.iadd, 1) := by decide +kernel
theorem dX6_back_17 : decode cX6_back 17 = .ok (.iaload, 1) := by decide +kernel
theorem dX6_back_18 : decode cX6_back 18 = .ok (.iastore, 1) := by decide +kernel
theorem dX6_back_19 : decode cX6_back 19 = .ok (.iinc 3 1, 3) := by decide +kernel
theorem dX6_back_22 : decode cX6_back 22 = .ok (.goto (-20), 3) := by decide +kernel
theorem dX6_back_25 : decode cX6_back 25 = .ok (.return_, 1) := by decide +kernel
theorem dX6_isLike_0 : decode cX6_isLike 0 = .ok (.iconst 1, 1) := by decide +kernel
theorem dX6_isLike_1 : decode cX6_isLike 1 = .ok (.istore_n 3, 1) := by decide +kernel
theorem dX6_isLike_2 : decode cX6_isLike 2 = .ok (.iconst 0, 1) := by decide +kernel
theorem dX6_isLike_3 : decode cX6_isLike 3 = .ok (.istore 4, 2) := by decide +kernel
theorem dX6_isLike_5 : decode cX6_isLike 5 = .ok (.iload 4, 2) := by decide +kernel
theorem dX6_isLike_7 : decode cX6_isLike 7 = .ok (.aload_n 2, 1) := by decide +kernel
theorem dX6_isLike_8 : decode cX6_isLike 8 = .ok (.arraylength, 1) := by decide +kernel
theorem dX6_isLike_9 : decode cX6_isLike 9 = .ok (.if_icmp .ge 35, 3) := by decide +kernel
theorem dX6_isLike_12 : decode cX6_isLike 12 = .ok (.iload_n 3, 1) := by decide +kernel
theorem dX6_isLike_13 : decode cX6_isLike 13 = .ok (.ifCond .eq 23, 3) := by decide +kernel
theorem dX6_isLike_16 : decode cX6_isLike 16 = .ok (.aload_n 2, 1) := by decide +kernel
theorem dX6_isLike_17 : decode cX6_isLike 17 = .ok (.iload 4, 2) := by decide +kernel
theorem dX6_isLike_19 : decode cX6_isLike 19 = .ok (.iaload, 1) := by decide +kernel
theorem dX6_isLike_20 : decode cX6_isLike 20 = .ok (.aload_n 0, 1) := by decide +kernel
theorem dX6_isLike_21 : decode cX6_isLike 21 = .ok (.getfield 114, 3) := by decide +kernel
theorem dX6_isLike_24 : decode cX6_isLike 24 = .ok (.iload_n 1, 1) := by decide +kernel
theorem dX6_isLike_25 : decode cX6_isLike 25 = .ok (.iload 4, 2) := by decide +kernel
theorem dX6_isLike_27 : decode cX6_isLike 27 = .ok (.iadd, 1) := by decide +kernel
theorem dX6_isLike_28 : decode cX6_isLike 28 = .ok (.iaload, 1) := by decide +kernel
theorem dX6_isLike_29 : decode cX6_isLike 29 = .ok (.if_icmp .ne 7, 3) := by decide +kernel
theorem dX6_isLike_32 : decode cX6_isLike 32 = .ok (.iconst 1, 1) := by decide +kernel
theorem dX6_isLike_33 : decode cX6_isLike 33 = .ok (.goto 4, 3) := by decide +kernel
theorem dX6_isLike_36 : decode cX6_isLike 36 = .ok (.iconst 0, 1) := by decide +kernel
theorem dX6_isLike_37 : decode cX6_isLike 37 = .ok (.istore_n 3, 1) := by decide +kernel
theorem dX6_isLike_38 : decode cX6_isLike 38 = .ok (.iinc 4 1, 3) := by decide +kernel
theorem dX6_isLike_41 : decode cX6_isLike 41 = .ok (.goto (-36), 3) := by decide +kernel
theorem dX6_isLike_44 : decode cX6_isLike 44 = .ok (.iload_n 3, 1) := by decide +kernel
theorem dX6_isLike_45 : decode cX6_isLike 45 = .ok (.ireturn, 1) := by decide +kernel
set_option maxRecDepth 20000 in
theorem ggX6_rows_X6_back : GoodIn wsX6_rows wsX6_back := goodIn_r _ [21, 22, 27, 28, 29, 30, 31, 32, 33, 34, 35, 36, 37, 38, 39, 40, 41, 42, 43, 44, 45, 46, 47, 48, 49, 50, 51, 52, 53, 54, 55, 56, 57, 58, 59, 60, 61, 62, 63, 64, 65, 66, 67] (by decide +kernel) (by decide +kernel)
set_option maxRecDepth 20000 in
theorem gX6_rows_X6_back : GoodIn wsX6_rows (wsV RX6 243 RX6 yX6_back wsX6_back) := goodIn_app (goodIn_of _ (by decide +kernel)) ggX6_rows_X6_back
set_option maxRecDepth 20000 in
theorem ggX6_rows_X6_keeps : GoodIn wsX6_rows wsX6_keeps := goodIn_r _ [26, 22, 27, 28, 29, 30, 31, 32, 33, 34, 35, 36, 37, 38, 39, 40, 41, 42, 43, 44, 45, 46, 47, 48, 49, 50, 51, 52, 53, 54, 55, 56, 57, 58, 59, 60, 61, 62, 63, 64, 65, 66, 67] (by decide +kernel) (by decide +kernel)
set_option maxRecDepth 20000 in
theorem gX6_rows_X6_keeps : GoodIn wsX6_rows (wsV RX6 247 RX6 yX6_keeps wsX6_keeps) := goodIn_app (goodIn_of _ (by decide +kernel)) ggX6_rows_X6_keeps
theorem dX6_rows_0 : decode cX6_rows 0 = .ok (.aload_n 0, 1) := by decide +kernel
theorem dX6_rows_1 : decode cX6_rows 1 = .ok (.getfield 57, 3) := by decide +kernel
theorem dX6_rows_4 : decode cX6_rows 4 = .ok (.astore_n 2, 1) := by decide +kernel
theorem dX6_rows_5 : decode cX6_rows 5 = .ok (.iconst 0, 1) := by decide +kernel
theorem dX6_rows_6 : decode cX6_rows 6 = .ok (.istore_n 3, 1) := by decide +kernel
theorem dX6_rows_7 : decode cX6_rows 7 = .ok (.iconst 0, 1) := by decide +kernel
theorem dX6_rows_8 : decode cX6_rows 8 = .ok (.istore 4, 2) := by decide +kernel
theorem dX6_rows_10 : decode cX6_rows 10 = .ok (.iload 4, 2) := by decide +kernel
theorem dX6_rows_12 : decode cX6_rows 12 = .ok (.bipush 13, 2) := by decide +kernel
theorem dX6_rows_14 : decode cX6_rows 14 = .ok (.if_icmp .ge 199, 3) := by decide +kernel
theorem dX6_rows_17 : decode cX6_rows 17 = .ok (.iload 4, 2) := by decide +kernel
theorem dX6_rows_19 : decode cX6_rows 19 = .ok (.ifCond .ne 10, 3) := by decide +kernel
theorem dX6_rows_22 : decode cX6_rows 22 = .ok (.aload_n 0, 1) := by decide +kernel
theorem dX6_rows_23 : decode cX6_rows 23 = .ok (.getfield 57, 3) := by decide +kernel
theorem dX6_rows_26 : decode cX6_rows 26 = .ok (.goto 156, 3) := by decide +kernel
theorem dX6_rows_29 : decode cX6_rows 29 = .ok (.iload 4, 2) := by decide +kernel
theorem dX6_rows_31 : decode cX6_rows 31 = .ok (.iconst 1, 1) := by decide +kernel
theorem dX6_rows_32 : decode cX6_rows 32 = .ok (.if_icmp .ne 10, 3) := by decide +kernel
theorem dX6_rows_35 : decode cX6_rows 35 = .ok (.aload_n 0, 1) := by decide +kernel
theorem dX6_rows_36 : decode cX6_rows 36 = .ok (.getfield 60, 3) := by decide +kernel
theorem dX6_rows_39 : decode cX6_rows 39 = .ok (.goto 143, 3) := by decide +kernel
theorem dX6_rows_42 : decode cX6_rows 42 = .ok (.iload 4, 2) := by decide +kernel
theorem dX6_rows_44 : decode cX6_rows 44 = .ok (.iconst 2, 1) := by decide +kernel
theorem dX6_rows_45 : decode cX6_rows 45 = .ok (.if_icmp .ne 10, 3) := by decide +kernel
theorem dX6_rows_48 : decode cX6_rows 48 = .ok (.aload_n 0, 1) := by decide +kernel
theorem dX6_rows_49 : decode cX6_rows 49 = .ok (.getfield 63, 3) := by decide +kernel
theorem dX6_rows_52 : decode cX6_rows 52 = .ok (.goto 130, 3) := by decide +kernel
theorem dX6_rows_55 : decode cX6_rows 55 = .ok (.iload 4, 2) := by decide +kernel
theorem dX6_rows_57 : decode cX6_rows 57 = .ok (.iconst 3, 1) := by decide +kernel
theorem dX6_rows_58 : decode cX6_rows 58 = .ok (.if_icmp .ne 10, 3) := by decide +kernel
theorem dX6_rows_61 : decode cX6_rows 61 = .ok (.aload_n 0, 1) := by decide +kernel
theorem dX6_rows_62 : decode cX6_rows 62 = .ok (.getfield 66, 3) := by decide +kernel
theorem dX6_rows_65 : decode cX6_rows 65 = .ok (.goto 117, 3) := by decide +kernel
theorem dX6_rows_68 : decode cX6_rows 68 = .ok (.iload 4, 2) := by decide +kernel
theorem dX6_rows_70 : decode cX6_rows 70 = .ok (.iconst 4, 1) := by decide +kernel
theorem dX6_rows_71 : decode cX6_rows 71 = .ok (.if_icmp .ne 10, 3) := by decide +kernel
theorem dX6_rows_74 : decode cX6_rows 74 = .ok (.aload_n 0, 1) := by decide +kernel
theorem dX6_rows_75 : decode cX6_rows 75 = .ok (.getfield 48, 3) := by decide +kernel
theorem dX6_rows_78 : decode cX6_rows 78 = .ok (.goto 104, 3) := by decide +kernel
theorem dX6_rows_81 : decode cX6_rows 81 = .ok (.iload 4, 2) := by decide +kernel
theorem dX6_rows_83 : decode cX6_rows 83 = .ok (.iconst 5, 1) := by decide +kernel
theorem dX6_rows_84 : decode cX6_rows 84 = .ok (.if_icmp .ne 10, 3) := by decide +kernel
theorem dX6_rows_87 : decode cX6_rows 87 = .ok (.aload_n 0, 1) := by decide +kernel
theorem dX6_rows_88 : decode cX6_rows 88 = .ok (.getfield 51, 3) := by decide +kernel
theorem dX6_rows_91 : decode cX6_rows 91 = .ok (.goto 91, 3) := by decide +kernel
theorem dX6_rows_94 : decode cX6_rows 94 = .ok (.iload 4, 2) := by decide +kernel
theorem dX6_rows_96 : decode cX6_rows 96 = .ok (.bipush 6, 2) := by decide +kernel
theorem dX6_rows_98 : decode cX6_rows 98 = .ok (.if_icmp .ne 10, 3) := by decide +kernel
theorem dX6_rows_101 : decode cX6_rows 101 = .ok (.aload_n 0, 1) := by decide +kernel
theorem dX6_rows_102 : decode cX6_rows 102 = .ok (.getfield 42, 3) := by decide +kernel
theorem dX6_rows_105 : decode cX6_rows 105 = .ok (.goto 77, 3) := by decide +kernel
theorem dX6_rows_108 : decode cX6_rows 108 = .ok (.iload 4, 2) := by decide +kernel
theorem dX6_rows_110 : decode cX6_rows 110 = .ok (.bipush 7, 2) := by decide +kernel
theorem dX6_rows_112 : decode cX6_rows 112 = .ok (.if_icmp .ne 10, 3) := by decide +kernel
theorem dX6_rows_115 : decode cX6_rows 115 = .ok (.aload_n 0, 1) := by decide +kernel
theorem dX6_rows_116 : decode cX6_rows 116 = .ok (.getfield 54, 3) := by decide +kernel
theorem dX6_rows_119 : decode cX6_rows 119 = .ok (.goto 63, 3) := by decide +kernel
theorem dX6_rows_122 : decode cX6_rows 122 = .ok (.iload 4, 2) := by decide +kernel
theorem dX6_rows_124 : decode cX6_rows 124 = .ok (.bipush 8, 2) := by decide +kernel
theorem dX6_rows_126 : decode cX6_rows 126 = .ok (.if_icmp .ne 10, 3) := by decide +kernel
theorem dX6_rows_129 : decode cX6_rows 129 = .ok (.aload_n 0, 1) := by decide +kernel
theorem dX6_rows_130 : decode cX6_rows 130 = .ok (.getfield 81, 3) := by decide +kernel
theorem dX6_rows_133 : decode cX6_rows 133 = .ok (.goto 49, 3) := by decide +kernel
theorem dX6_rows_136 : decode cX6_rows 136 = .ok (.iload 4, 2) := by decide +kernel
theorem dX6_rows_138 : decode cX6_rows 138 = .ok (.bipush 9, 2) := by decide +kernel
theorem dX6_rows_140 : decode cX6_rows 140 = .ok (.if_icmp .ne 10, 3) := by decide +kernel
theorem dX6_rows_143 : decode cX6_rows 143 = .ok (.aload_n 0, 1) := by decide +kernel
theorem dX6_rows_144 : decode cX6_rows 144 = .ok (.getfield 84, 3) := by decide +kernel
theorem dX6_rows_147 : decode cX6_rows 147 = .ok (.goto 35, 3) := by decide +kernel
theorem dX6_rows_150 : decode cX6_rows 150 = .ok (.iload 4, 2) := by decide +kernel
theorem dX6_rows_152 : decode cX6_rows 152 = .ok (.bipush 10, 2) := by decide +kernel
theorem dX6_rows_154 : decode cX6_rows 154 = .ok (.if_icmp .ne 10, 3) := by decide +kernel
theorem dX6_rows_157 : decode cX6_rows 157 = .ok (.aload_n 0, 1) := by decide +kernel
theorem dX6_rows_158 : decode cX6_rows 158 = .ok (.getfield 87, 3) := by decide +kernel
theorem dX6_rows_161 : decode cX6_rows 161 = .ok (.goto 21, 3) := by decide +kernel
theorem dX6_rows_164 : decode cX6_rows 164 = .ok (.iload 4, 2) := by decide +kernel
theorem dX6_rows_166 : decode cX6_rows 166 = .ok (.bipush 11, 2) := by decide +kernel
theorem dX6_rows_168 : decode cX6_rows 168 = .ok (.if_icmp .ne 10, 3) := by decide +kernel
theorem dX6_rows_171 : decode cX6_rows 171 = .ok (.aload_n 0, 1) := by decide +kernel
theorem dX6_rows_172 : decode cX6_rows 172 = .ok (.getfield 90, 3) := by decide +kernel
theorem dX6_rows_175 : decode cX6_rows 175 = .ok (.goto 7, 3) := by decide +kernel
theorem dX6_rows_178 : decode cX6_rows 178 = .ok (.aload_n 0, 1) := by decide +kernel
theorem dX6_rows_179 : decode cX6_rows 179 = .ok (.getfield 93, 3) := by decide +kernel
theorem dX6_rows_182 : decode cX6_rows 182 = .ok (.astore_n 2, 1) := by decide +kernel
theorem dX6_rows_183 : decode cX6_rows 183 = .ok (.iload_n 1, 1) := by decide +kernel
theorem dX6_rows_184 : decode cX6_rows 184 = .ok (.ifCond .eq 12, 3) := by decide +kernel
theorem dX6_rows_187 : decode cX6_rows 187 = .ok (.aload_n 0, 1) := by decide +kernel
theorem dX6_rows_188 : decode cX6_rows 188 = .ok (.iload_n 3, 1) := by decide +kernel
theorem dX6_rows_189 : decode cX6_rows 189 = .ok (.aload_n 2, 1) := by decide +kernel
theorem dX6_rows_190 : decode cX6_rows 190 = .ok (.invokevirtual 243, 3) := by decide +kernel
theorem dX6_rows_193 : decode cX6_rows 193 = .ok (.goto 9, 3) := by decide +kernel
theorem dX6_rows_196 : decode cX6_rows 196 = .ok (.aload_n 0, 1) := by decide +kernel
theorem dX6_rows_197 : decode cX6_rows 197 = .ok (.iload_n 3, 1) := by decide +kernel
theorem dX6_rows_198 : decode cX6_rows 198 = .ok (.aload_n 2, 1) := by decide +kernel
theorem dX6_rows_199 : decode cX6_rows 199 = .ok (.invokevirtual 247, 3) := by decide +kernel
theorem dX6_rows_202 : decode cX6_rows 202 = .ok (.iload_n 3, 1) := by decide +kernel
theorem dX6_rows_203 : decode cX6_rows 203 = .ok (.aload_n 2, 1) := by decide +kernel
theorem dX6_rows_204 : decode cX6_rows 204 = .ok (.arraylength, 1) := by decide +kernel
theorem dX6_rows_205 : decode cX6_rows 205 = .ok (.iadd, 1) := by decide +kernel
theorem dX6_rows_206 : decode cX6_rows 206 = .ok (.istore_n 3, 1) := by decide +kernel
theorem dX6_rows_207 : decode cX6_rows 207 = .ok (.iinc 4 1, 3) := by decide +kernel
theorem dX6_rows_210 : decode cX6_rows 210 = .ok (.goto (-200), 3) := by decide +kernel
theorem dX6_rows_213 : decode cX6_rows 213 = .ok (.iconst 0, 1) := by decide +kernel
theorem dX6_rows_214 : decode cX6_rows 214 = .ok (.istore 4, 2) := by decide +kernel
theorem dX6_rows_216 : decode cX6_rows 216 = .ok (.iload 4, 2) := by decide +kernel
theorem dX6_rows_218 : decode cX6_rows 218 = .ok (.bipush 30, 2) := by decide +kernel
theorem dX6_rows_220 : decode cX6_rows 220 = .ok (.if_icmp .ge 75, 3) := by decide +kernel
theorem dX6_rows_223 : decode cX6_rows 223 = .ok (.iload_n 1, 1) := by decide +kernel
theorem dX6_rows_224 : decode cX6_rows 224 = .ok (.ifCond .eq 34, 3) := by decide +kernel
theorem dX6_rows_227 : decode cX6_rows 227 = .ok (.aload_n 0, 1) := by decide +kernel
theorem dX6_rows_228 : decode cX6_rows 228 = .ok (.getfield 45, 3) := by decide +kernel
theorem dX6_rows_231 : decode cX6_rows 231 = .ok (.iload 4, 2) := by decide +kernel
theorem dX6_rows_233 : decode cX6_rows 233 = .ok (.aload_n 0, 1) := by decide +kernel
theorem dX6_rows_234 : decode cX6_rows 234 = .ok (.getfield 117, 3) := by decide +kernel
theorem dX6_rows_237 : decode cX6_rows 237 = .ok (.iload 4, 2) := by decide +kernel
theorem dX6_rows_239 : decode cX6_rows 239 = .ok (.baload, 1) := by decide +kernel
theorem dX6_rows_240 : decode cX6_rows 240 = .ok (.bastore, 1) := by decide +kernel
theorem dX6_rows_241 : decode cX6_rows 241 = .ok (.aload_n 0, 1) := by decide +kernel
theorem dX6_rows_242 : decode cX6_rows 242 = .ok (.getfield 39, 3) := by decide +kernel
theorem dX6_rows_245 : decode cX6_rows 245 = .ok (.iload 4, 2) := by decide +kernel
theorem dX6_rows_247 : decode cX6_rows 247 = .ok (.aload_n 0, 1) := by decide +kernel
theorem dX6_rows_248 : decode cX6_rows 248 = .ok (.getfield 117, 3) := by decide +kernel
theorem dX6_rows_251 : decode cX6_rows 251 = .ok (.bipush 30, 2) := by decide +kernel
theorem dX6_rows_253 : decode cX6_rows 253 = .ok (.iload 4, 2) := by decide +kernel
theorem dX6_rows_255 : decode cX6_rows 255 = .ok (.iadd, 1) := by decide +kernel
theorem dX6_rows_256 : decode cX6_rows 256 = .ok (.baload, 1) := by decide +kernel
theorem dX6_rows_257 : decode cX6_rows 257 = .ok (.bastore, 1) := by decide +kernel
theorem dX6_rows_258 : decode cX6_rows 258 = .ok (.aload_n 0, 1) := by decide +kernel
theorem dX6_rows_259 : decode cX6_rows 259 = .ok (.getfield 117, 3) := by decide +kernel
theorem dX6_rows_262 : decode cX6_rows 262 = .ok (.iload 4, 2) := by decide +kernel
theorem dX6_rows_264 : decode cX6_rows 264 = .ok (.aload_n 0, 1) := by decide +kernel
theorem dX6_rows_265 : decode cX6_rows 265 = .ok (.getfield 45, 3) := by decide +kernel
theorem dX6_rows_268 : decode cX6_rows 268 = .ok (.iload 4, 2) := by decide +kernel
theorem dX6_rows_270 : decode cX6_rows 270 = .ok (.baload, 1) := by decide +kernel
theorem dX6_rows_271 : decode cX6_rows 271 = .ok (.bastore, 1) := by decide +kernel
theorem dX6_rows_272 : decode cX6_rows 272 = .ok (.aload_n 0, 1) := by decide +kernel
theorem dX6_rows_273 : decode cX6_rows 273 = .ok (.getfield 117, 3) := by decide +kernel
theorem dX6_rows_276 : decode cX6_rows 276 = .ok (.bipush 30, 2) := by decide +kernel
theorem dX6_rows_278 : decode cX6_rows 278 = .ok (.iload 4, 2) := by decide +kernel
theorem dX6_rows_280 : decode cX6_rows 280 = .ok (.iadd, 1) := by decide +kernel
theorem dX6_rows_281 : decode cX6_rows 281 = .ok (.aload_n 0, 1) := by decide +kernel
theorem dX6_rows_282 : decode cX6_rows 282 = .ok (.getfield 39, 3) := by decide +kernel
theorem dX6_rows_285 : decode cX6_rows 285 = .ok (.iload 4, 2) := by decide +kernel
theorem dX6_rows_287 : decode cX6_rows 287 = .ok (.baload, 1) := by decide +kernel
theorem dX6_rows_288 : decode cX6_rows 288 = .ok (.bastore, 1) := by decide +kernel
theorem dX6_rows_289 : decode cX6_rows 289 = .ok (.iinc 4 1, 3) := by decide +kernel
theorem dX6_rows_292 : decode cX6_rows 292 = .ok (.goto (-76), 3) := by decide +kernel
theorem dX6_rows_295 : decode cX6_rows 295 = .ok (.return_, 1) := by decide +kernel
set_option maxRecDepth 20000 in
theorem ggX6_isAtRest_X6_rows : GoodIn wsX6_isAtRest wsX6_rows := goodIn_r _ [15, 3, 4, 5, 6, 7, 16, 17, 18, 19, 20, 21, 22, 23, 8, 10, 9, 24, 25, 26, 14, 27, 28, 29, 30, 31, 32, 115, 116, 117, 118, 119, 120, 121, 122, 123, 124, 125, 126, 127, 128, 129, 130, 131, 132, 133, 134, 135, 136, 137, 138, 139, 140, 141, 142, 143, 144, 145, 146, 147, 148, 149, 150, 151, 152, 153, 154, 155] (by decide +kernel) (by decide +kernel)
set_option maxRecDepth 20000 in
theorem gX6_isAtRest_X6_rows : GoodIn wsX6_isAtRest (wsV RX6 250 RX6 yX6_rows wsX6_rows) := goodIn_app (goodIn_of _ (by decide +kernel)) ggX6_isAtRest_X6_rows
set_option maxRecDepth 20000 in
theorem ggX6_isAtRest_X6_beats : GoodIn wsX6_isAtRest wsX6_beats := goodIn_r _ [36, 2, 19, 23, 18, 9, 17, 37, 38, 39, 14, 40, 41, 42, 3, 43, 4, 44, 5, 45, 46, 47, 48, 49, 50, 51, 52, 53, 54, 55, 56, 57, 8, 7, 16, 58, 59, 60, 61, 22, 62, 63, 64, 65, 20, 21, 66, 67, 68, 69, 70, 6, 71, 72, 73, 74, 75, 76, 77, 78, 79, 80, 81, 82, 83, 84, 85, 86, 87, 88, 89, 90, 91, 92, 93, 94, 95, 96, 97, 98, 99, 100, 101, 102, 103, 104, 105, 106, 107, 108, 109, 110, 115, 116, 117, 118, 119, 120, 121, 122, 123, 124, 125, 126, 127, 128, 129, 130, 131, 132, 133, 134, 135, 136, 137, 138, 139, 140, 141, 142, 143, 144, 145, 146, 147, 148, 149, 150, 151, 152, 153, 154, 155] (by decide +kernel) (by decide +kernel)
set_option maxRecDepth 20000 in
theorem gX6_isAtRest_X6_beats : GoodIn wsX6_isAtRest (wsV RX6 208 RX6 yX6_beats wsX6_beats) := goodIn_app (goodIn_of _ (by decide +kernel)) ggX6_isAtRest_X6_beats
set_option maxRecDepth 20000 in
theorem ggX6_isAtRest_X6_isLike : GoodIn wsX6_isAtRest wsX6_isLike := goodIn_r _ [114, 28, 115, 116, 117, 118, 119, 120, 121, 122, 123, 124, 125, 126, 127, 128, 129, 130, 131, 132, 133, 134, 135, 136, 137, 138, 139, 140, 141, 142, 143, 144, 145, 146, 147, 148, 149, 150, 151, 152, 153, 154, 155] (by decide +kernel) (by decide +kernel)
set_option maxRecDepth 20000 in
theorem gX6_isAtRest_X6_isLike : GoodIn wsX6_isAtRest (wsV RX6 254 RX6 yX6_isLike wsX6_isLike) := goodIn_app (goodIn_of _ (by decide +kernel)) ggX6_isAtRest_X6_isLike
theorem dX6_isAtRest_0 : decode cX6_isAtRest 0 = .ok (.aload_n 0, 1) := by decide +kernel
theorem dX6_isAtRest_1 : decode cX6_isAtRest 1 = .ok (.iconst 0, 1) := by decide +kernel
theorem dX6_isAtRest_2 : decode cX6_isAtRest 2 = .ok (.putfield 126, 3) := by decide +kernel
theorem dX6_isAtRest_5 : decode cX6_isAtRest 5 = .ok (.aload_n 0, 1) := by decide +kernel
theorem dX6_isAtRest_6 : decode cX6_isAtRest 6 = .ok (.iconst 0, 1) := by decide +kernel
theorem dX6_isAtRest_7 : decode cX6_isAtRest 7 = .ok (.invokevirtual 250, 3) := by decide +kernel
theorem dX6_isAtRest_10 : decode cX6_isAtRest 10 = .ok (.aload_n 0, 1) := by decide +kernel
theorem dX6_isAtRest_11 : decode cX6_isAtRest 11 = .ok (.getfield 193, 3) := by decide +kernel
theorem dX6_isAtRest_14 : decode cX6_isAtRest 14 = .ok (.istore_n 1, 1) := by decide +kernel
theorem dX6_isAtRest_15 : decode cX6_isAtRest 15 = .ok (.aload_n 0, 1) := by decide +kernel
theorem dX6_isAtRest_16 : decode cX6_isAtRest 16 = .ok (.invokevirtual 208, 3) := by decide +kernel
theorem dX6_isAtRest_19 : decode cX6_isAtRest 19 = .ok (.aload_n 0, 1) := by decide +kernel
theorem dX6_isAtRest_20 : decode cX6_isAtRest 20 = .ok (.iconst 0, 1) := by decide +kernel
theorem dX6_isAtRest_21 : decode cX6_isAtRest 21 = .ok (.aload_n 0, 1) := by decide +kernel
theorem dX6_isAtRest_22 : decode cX6_isAtRest 22 = .ok (.getfield 57, 3) := by decide +kernel
theorem dX6_isAtRest_25 : decode cX6_isAtRest 25 = .ok (.invokevirtual 254, 3) := by decide +kernel
theorem dX6_isAtRest_28 : decode cX6_isAtRest 28 = .ok (.ifCond .eq 59, 3) := by decide +kernel
theorem dX6_isAtRest_31 : decode cX6_isAtRest 31 = .ok (.aload_n 0, 1) := by decide +kernel
theorem dX6_isAtRest_32 : decode cX6_isAtRest 32 = .ok (.bipush 6, 2) := by decide +kernel
theorem dX6_isAtRest_34 : decode cX6_isAtRest 34 = .ok (.aload_n 0, 1) := by decide +kernel
theorem dX6_isAtRest_35 : decode cX6_isAtRest 35 = .ok (.getfield 60, 3) := by decide +kernel
theorem dX6_isAtRest_38 : decode cX6_isAtRest 38 = .ok (.invokevirtual 254, 3) := by decide +kernel
theorem dX6_isAtRest_41 : decode cX6_isAtRest 41 = .ok (.ifCond .eq 46, 3) := by decide +kernel
theorem dX6_isAtRest_44 : decode cX6_isAtRest 44 = .ok (.aload_n 0, 1) := by decide +kernel
theorem dX6_isAtRest_45 : decode cX6_isAtRest 45 = .ok (.bipush 12, 2) := by decide +kernel
theorem dX6_isAtRest_47 : decode cX6_isAtRest 47 = .ok (.aload_n 0, 1) := by decide +kernel
theorem dX6_isAtRest_48 : decode cX6_isAtRest 48 = .ok (.getfield 63, 3) := by decide +kernel
theorem dX6_isAtRest_51 : decode cX6_isAtRest 51 = .ok (.invokevirtual 254, 3) := by decide +kernel
theorem dX6_isAtRest_54 : decode cX6_isAtRest 54 = .ok (.ifCond .eq 33, 3) := by decide +kernel
theorem dX6_isAtRest_57 : decode cX6_isAtRest 57 = .ok (.aload_n 0, 1) := by decide +kernel
theorem dX6_isAtRest_58 : decode cX6_isAtRest 58 = .ok (.bipush 18, 2) := by decide +kernel
theorem dX6_isAtRest_60 : decode cX6_isAtRest 60 = .ok (.aload_n 0, 1) := by decide +kernel
theorem dX6_isAtRest_61 : decode cX6_isAtRest 61 = .ok (.getfield 66, 3) := by decide +kernel
theorem dX6_isAtRest_64 : decode cX6_isAtRest 64 = .ok (.invokevirtual 254, 3) := by decide +kernel
theorem dX6_isAtRest_67 : decode cX6_isAtRest 67 = .ok (.ifCond .eq 20, 3) := by decide +kernel
theorem dX6_isAtRest_70 : decode cX6_isAtRest 70 = .ok (.aload_n 0, 1) := by decide +kernel
theorem dX6_isAtRest_71 : decode cX6_isAtRest 71 = .ok (.bipush 24, 2) := by decide +kernel
theorem dX6_isAtRest_73 : decode cX6_isAtRest 73 = .ok (.aload_n 0, 1) := by decide +kernel
theorem dX6_isAtRest_74 : decode cX6_isAtRest 74 = .ok (.getfield 48, 3) := by decide +kernel
theorem dX6_isAtRest_77 : decode cX6_isAtRest 77 = .ok (.invokevirtual 254, 3) := by decide +kernel
theorem dX6_isAtRest_80 : decode cX6_isAtRest 80 = .ok (.ifCond .eq 7, 3) := by decide +kernel
theorem dX6_isAtRest_83 : decode cX6_isAtRest 83 = .ok (.iconst 1, 1) := by decide +kernel
theorem dX6_isAtRest_84 : decode cX6_isAtRest 84 = .ok (.goto 4, 3) := by decide +kernel
theorem dX6_isAtRest_87 : decode cX6_isAtRest 87 = .ok (.iconst 0, 1) := by decide +kernel
theorem dX6_isAtRest_88 : decode cX6_isAtRest 88 = .ok (.istore_n 2, 1) := by decide +kernel
theorem dX6_isAtRest_89 : decode cX6_isAtRest 89 = .ok (.iconst 0, 1) := by decide +kernel
theorem dX6_isAtRest_90 : decode cX6_isAtRest 90 = .ok (.istore_n 3, 1) := by decide +kernel
theorem dX6_isAtRest_91 : decode cX6_isAtRest 91 = .ok (.iload_n 3, 1) := by decide +kernel
theorem dX6_isAtRest_92 : decode cX6_isAtRest 92 = .ok (.bipush 30, 2) := by decide +kernel
theorem dX6_isAtRest_94 : decode cX6_isAtRest 94 = .ok (.if_icmp .ge 84, 3) := by decide +kernel
theorem dX6_isAtRest_97 : decode cX6_isAtRest 97 = .ok (.aload_n 0, 1) := by decide +kernel
theorem dX6_isAtRest_98 : decode cX6_isAtRest 98 = .ok (.getfield 45, 3) := by decide +kernel
theorem dX6_isAtRest_101 : decode cX6_isAtRest 101 = .ok (.iload_n 3, 1) := by decide +kernel
theorem dX6_isAtRest_102 : decode cX6_isAtRest 102 = .ok (.baload, 1) := by decide +kernel
theorem dX6_isAtRest_103 : decode cX6_isAtRest 103 = .ok (.ifCond .ne 36, 3) := by decide +kernel
theorem dX6_isAtRest_106 : decode cX6_isAtRest 106 = .ok (.aload_n 0, 1) := by decide +kernel
theorem dX6_isAtRest_107 : decode cX6_isAtRest 107 = .ok (.getfield 39, 3) := by decide +kernel
theorem dX6_isAtRest_110 : decode cX6_isAtRest 110 = .ok (.iload_n 3, 1) := by decide +kernel
theorem dX6_isAtRest_111 : decode cX6_isAtRest 111 = .ok (.baload, 1) := by decide +kernel
theorem dX6_isAtRest_112 : decode cX6_isAtRest 112 = .ok (.ifCond .ne 27, 3) := by decide +kernel
theorem dX6_isAtRest_115 : decode cX6_isAtRest 115 = .ok (.aload_n 0, 1) := by decide +kernel
theorem dX6_isAtRest_116 : decode cX6_isAtRest 116 = .ok (.getfield 48, 3) := by decide +kernel
theorem dX6_isAtRest_119 : decode cX6_isAtRest 119 = .ok (.iload_n 3, 1) := by decide +kernel
theorem dX6_isAtRest_120 : decode cX6_isAtRest 120 = .ok (.iaload, 1) := by decide +kernel
theorem dX6_isAtRest_121 : decode cX6_isAtRest 121 = .ok (.iconst 1, 1) := by decide +kernel
theorem dX6_isAtRest_122 : decode cX6_isAtRest 122 = .ok (.if_icmp .eq 13, 3) := by decide +kernel
theorem dX6_isAtRest_125 : decode cX6_isAtRest 125 = .ok (.aload_n 0, 1) := by decide +kernel
theorem dX6_isAtRest_126 : decode cX6_isAtRest 126 = .ok (.getfield 48, 3) := by decide +kernel
theorem dX6_isAtRest_129 : decode cX6_isAtRest 129 = .ok (.iload_n 3, 1) := by decide +kernel
theorem dX6_isAtRest_130 : decode cX6_isAtRest 130 = .ok (.iaload, 1) := by decide +kernel
theorem dX6_isAtRest_131 : decode cX6_isAtRest 131 = .ok (.iconst 2, 1) := by decide +kernel
theorem dX6_isAtRest_132 : decode cX6_isAtRest 132 = .ok (.if_icmp .ne 7, 3) := by decide +kernel
theorem dX6_isAtRest_135 : decode cX6_isAtRest 135 = .ok (.iconst 1, 1) := by decide +kernel
theorem dX6_isAtRest_136 : decode cX6_isAtRest 136 = .ok (.goto 4, 3) := by decide +kernel
theorem dX6_isAtRest_139 : decode cX6_isAtRest 139 = .ok (.iconst 0, 1) := by decide +kernel
theorem dX6_isAtRest_140 : decode cX6_isAtRest 140 = .ok (.istore 4, 2) := by decide +kernel
theorem dX6_isAtRest_142 : decode cX6_isAtRest 142 = .ok (.iload_n 2, 1) := by decide +kernel
theorem dX6_isAtRest_143 : decode cX6_isAtRest 143 = .ok (.ifCond .eq 27, 3) := by decide +kernel
theorem dX6_isAtRest_146 : decode cX6_isAtRest 146 = .ok (.aload_n 0, 1) := by decide +kernel
theorem dX6_isAtRest_147 : decode cX6_isAtRest 147 = .ok (.getfield 45, 3) := by decide +kernel
theorem dX6_isAtRest_150 : decode cX6_isAtRest 150 = .ok (.iload_n 3, 1) := by decide +kernel
theorem dX6_isAtRest_151 : decode cX6_isAtRest 151 = .ok (.baload, 1) := by decide +kernel
theorem dX6_isAtRest_152 : decode cX6_isAtRest 152 = .ok (.aload_n 0, 1) := by decide +kernel
theorem dX6_isAtRest_153 : decode cX6_isAtRest 153 = .ok (.getfield 117, 3) := by decide +kernel
theorem dX6_isAtRest_156 : decode cX6_isAtRest 156 = .ok (.iload_n 3, 1) := by decide +kernel
theorem dX6_isAtRest_157 : decode cX6_isAtRest 157 = .ok (.baload, 1) := by decide +kernel
theorem dX6_isAtRest_158 : decode cX6_isAtRest 158 = .ok (.if_icmp .ne 12, 3) := by decide +kernel
theorem dX6_isAtRest_161 : decode cX6_isAtRest 161 = .ok (.iload 4, 2) := by decide +kernel
theorem dX6_isAtRest_163 : decode cX6_isAtRest 163 = .ok (.ifCond .ne 7, 3) := by decide +kernel
theorem dX6_isAtRest_166 : decode cX6_isAtRest 166 = .ok (.iconst 1, 1) := by decide +kernel
theorem dX6_isAtRest_167 : decode cX6_isAtRest 167 = .ok (.goto 4, 3) := by decide +kernel
theorem dX6_isAtRest_170 : decode cX6_isAtRest 170 = .ok (.iconst 0, 1) := by decide +kernel
theorem dX6_isAtRest_171 : decode cX6_isAtRest 171 = .ok (.istore_n 2, 1) := by decide +kernel
theorem dX6_isAtRest_172 : decode cX6_isAtRest 172 = .ok (.iinc 3 1, 3) := by decide +kernel
theorem dX6_isAtRest_175 : decode cX6_isAtRest 175 = .ok (.goto (-84), 3) := by decide +kernel
theorem dX6_isAtRest_178 : decode cX6_isAtRest 178 = .ok (.aload_n 0, 1) := by decide +kernel
theorem dX6_isAtRest_179 : decode cX6_isAtRest 179 = .ok (.iload_n 1, 1) := by decide +kernel
theorem dX6_isAtRest_180 : decode cX6_isAtRest 180 = .ok (.putfield 193, 3) := by decide +kernel
theorem dX6_isAtRest_183 : decode cX6_isAtRest 183 = .ok (.aload_n 0, 1) := by decide +kernel
theorem dX6_isAtRest_184 : decode cX6_isAtRest 184 = .ok (.iconst 1, 1) := by decide +kernel
theorem dX6_isAtRest_185 : decode cX6_isAtRest 185 = .ok (.invokevirtual 250, 3) := by decide +kernel
theorem dX6_isAtRest_188 : decode cX6_isAtRest 188 = .ok (.iload_n 2, 1) := by decide +kernel
theorem dX6_isAtRest_189 : decode cX6_isAtRest 189 = .ok (.ireturn, 1) := by decide +kernel
set_option maxRecDepth 20000 in
theorem ggX6_found_X6_isSwitch : GoodIn wsX6_found wsX6_isSwitch := goodIn_r _ [8, 9, 10, 7, 11] (by decide +kernel) (by decide +kernel)
set_option maxRecDepth 20000 in
theorem gX6_found_X6_isSwitch : GoodIn wsX6_found (va_wsS RX6 133 yX6_isSwitch wsX6_isSwitch) := goodIn_app (goodIn_of _ (by decide +kernel)) ggX6_found_X6_isSwitch
set_option maxRecDepth 20000 in
theorem ggX6_found_X6_fails : GoodIn wsX6_found wsX6_fails := goodIn_r _ [15, 16, 27, 28, 29, 30, 31, 32, 33, 34, 35, 36, 37, 38, 39, 40, 41, 42, 43, 44, 45, 46, 47, 48, 49, 50, 51, 52, 53, 54, 55, 56, 57, 58, 59, 60, 61, 62, 63, 64, 65, 66, 67] (by decide +kernel) (by decide +kernel)
set_option maxRecDepth 20000 in
theorem gX6_found_X6_fails : GoodIn wsX6_found (wsV RX6 144 RX6 yX6_fails wsX6_fails) := goodIn_app (goodIn_of _ (by decide +kernel)) ggX6_found_X6_fails
set_option maxRecDepth 20000 in
theorem ggX6_found_X6_isPassable : GoodIn wsX6_found wsX6_isPassable := goodIn_r _ [20, 4, 21, 27, 28, 29, 30, 31, 32, 33, 34, 35, 36, 37, 38, 39, 40, 41, 42, 43, 44, 45, 46, 47, 48, 49, 50, 51, 52, 53, 54, 55, 56, 57, 58, 59, 60, 61, 62, 63, 64, 65, 66, 67] (by decide +kernel) (by decide +kernel)
set_option maxRecDepth 20000 in
theorem gX6_found_X6_isPassable : GoodIn wsX6_found (wsV RX6 190 RX6 yX6_isPassable wsX6_isPassable) := goodIn_app (goodIn_of _ (by decide +kernel)) ggX6_found_X6_isPassable
set_option maxRecDepth 20000 in
theorem ggX6_found_X6_isBetter : GoodIn wsX6_found wsX6_isBetter := goodIn_r _ [25, 26, 27, 28, 29, 30, 31, 32, 33, 34, 35, 36, 37, 38, 39, 40, 41, 42, 43, 44, 45, 46, 47, 48, 49, 50, 51, 52, 53, 54, 55, 56, 57, 58, 59, 60, 61, 62, 63, 64, 65, 66, 67] (by decide +kernel) (by decide +kernel)
set_option maxRecDepth 20000 in
theorem gX6_found_X6_isBetter : GoodIn wsX6_found (wsV RX6 170 RX6 yX6_isBetter wsX6_isBetter) := goodIn_app (goodIn_of _ (by decide +kernel)) ggX6_found_X6_isBetter
theorem dX6_found_0 : decode cX6_found 0 = .ok (.aload_n 0, 1) := by decide +kernel
theorem dX6_found_1 : decode cX6_found 1 = .ok (.iload_n 1, 1) := by decide +kernel
theorem dX6_found_2 : decode cX6_found 2 = .ok (.invokestatic 133, 3) := by decide +kernel
theorem dX6_found_5 : decode cX6_found 5 = .ok (.ifCond .eq 7, 3) := by decide +kernel
theorem dX6_found_8 : decode cX6_found 8 = .ok (.iconst 0, 1) := by decide +kernel
theorem dX6_found_9 : decode cX6_found 9 = .ok (.goto 4, 3) := by decide +kernel
theorem dX6_found_12 : decode cX6_found 12 = .ok (.iconst 1, 1) := by decide +kernel
theorem dX6_found_13 : decode cX6_found 13 = .ok (.invokevirtual 144, 3) := by decide +kernel
theorem dX6_found_16 : decode cX6_found 16 = .ok (.ifCond .eq 5, 3) := by decide +kernel
theorem dX6_found_19 : decode cX6_found 19 = .ok (.iconst 0, 1) := by decide +kernel
theorem dX6_found_20 : decode cX6_found 20 = .ok (.ireturn, 1) := by decide +kernel
theorem dX6_found_21 : decode cX6_found 21 = .ok (.iconst 0, 1) := by decide +kernel
theorem dX6_found_22 : decode cX6_found 22 = .ok (.istore_n 2, 1) := by decide +kernel
theorem dX6_found_23 : decode cX6_found 23 = .ok (.iload_n 2, 1) := by decide +kernel
theorem dX6_found_24 : decode cX6_found 24 = .ok (.bipush 6, 2) := by decide +kernel
theorem dX6_found_26 : decode cX6_found 26 = .ok (.if_icmp .ge 27, 3) := by decide +kernel
theorem dX6_found_29 : decode cX6_found 29 = .ok (.aload_n 0, 1) := by decide +kernel
theorem dX6_found_30 : decode cX6_found 30 = .ok (.getfield 120, 3) := by decide +kernel
theorem dX6_found_33 : decode cX6_found 33 = .ok (.iload_n 2, 1) := by decide +kernel
theorem dX6_found_34 : decode cX6_found 34 = .ok (.iload_n 2, 1) := by decide +kernel
theorem dX6_found_35 : decode cX6_found 35 = .ok (.iload_n 1, 1) := by decide +kernel
theorem dX6_found_36 : decode cX6_found 36 = .ok (.if_icmp .ne 7, 3) := by decide +kernel
theorem dX6_found_39 : decode cX6_found 39 = .ok (.iconst 0, 1) := by decide +kernel
theorem dX6_found_40 : decode cX6_found 40 = .ok (.goto 6, 3) := by decide +kernel
theorem dX6_found_43 : decode cX6_found 43 = .ok (.ldc_w 258, 3) := by decide +kernel
theorem dX6_found_46 : decode cX6_found 46 = .ok (.iastore, 1) := by decide +kernel
theorem dX6_found_47 : decode cX6_found 47 = .ok (.iinc 2 1, 3) := by decide +kernel
theorem dX6_found_50 : decode cX6_found 50 = .ok (.goto (-27), 3) := by decide +kernel
theorem dX6_found_53 : decode cX6_found 53 = .ok (.iconst 0, 1) := by decide +kernel
theorem dX6_found_54 : decode cX6_found 54 = .ok (.istore_n 2, 1) := by decide +kernel
theorem dX6_found_55 : decode cX6_found 55 = .ok (.iload_n 2, 1) := by decide +kernel
theorem dX6_found_56 : decode cX6_found 56 = .ok (.bipush 6, 2) := by decide +kernel
theorem dX6_found_58 : decode cX6_found 58 = .ok (.if_icmp .ge 90, 3) := by decide +kernel
theorem dX6_found_61 : decode cX6_found 61 = .ok (.iconst 0, 1) := by decide +kernel
theorem dX6_found_62 : decode cX6_found 62 = .ok (.istore_n 3, 1) := by decide +kernel
theorem dX6_found_63 : decode cX6_found 63 = .ok (.iload_n 3, 1) := by decide +kernel
theorem dX6_found_64 : decode cX6_found 64 = .ok (.bipush 30, 2) := by decide +kernel
theorem dX6_found_66 : decode cX6_found 66 = .ok (.if_icmp .ge 76, 3) := by decide +kernel
theorem dX6_found_69 : decode cX6_found 69 = .ok (.aload_n 0, 1) := by decide +kernel
theorem dX6_found_70 : decode cX6_found 70 = .ok (.iload_n 3, 1) := by decide +kernel
theorem dX6_found_71 : decode cX6_found 71 = .ok (.invokevirtual 190, 3) := by decide +kernel
theorem dX6_found_74 : decode cX6_found 74 = .ok (.ifCond .eq 62, 3) := by decide +kernel
theorem dX6_found_77 : decode cX6_found 77 = .ok (.aload_n 0, 1) := by decide +kernel
theorem dX6_found_78 : decode cX6_found 78 = .ok (.getfield 120, 3) := by decide +kernel
theorem dX6_found_81 : decode cX6_found 81 = .ok (.iload_n 3, 1) := by decide +kernel
theorem dX6_found_82 : decode cX6_found 82 = .ok (.iconst 5, 1) := by decide +kernel
theorem dX6_found_83 : decode cX6_found 83 = .ok (.idiv, 1) := by decide +kernel
theorem dX6_found_84 : decode cX6_found 84 = .ok (.iaload, 1) := by decide +kernel
theorem dX6_found_85 : decode cX6_found 85 = .ok (.aload_n 0, 1) := by decide +kernel
theorem dX6_found_86 : decode cX6_found 86 = .ok (.getfield 20, 3) := by decide +kernel
theorem dX6_found_89 : decode cX6_found 89 = .ok (.iload_n 3, 1) := by decide +kernel
theorem dX6_found_90 : decode cX6_found 90 = .ok (.iaload, 1) := by decide +kernel
theorem dX6_found_91 : decode cX6_found 91 = .ok (.iadd, 1) := by decide +kernel
theorem dX6_found_92 : decode cX6_found 92 = .ok (.aload_n 0, 1) := by decide +kernel
theorem dX6_found_93 : decode cX6_found 93 = .ok (.getfield 120, 3) := by decide +kernel
theorem dX6_found_96 : decode cX6_found 96 = .ok (.aload_n 0, 1) := by decide +kernel
theorem dX6_found_97 : decode cX6_found 97 = .ok (.getfield 17, 3) := by decide +kernel
theorem dX6_found_100 : decode cX6_found 100 = .ok (.iload_n 3, 1) := by decide +kernel
theorem dX6_found_101 : decode cX6_found 101 = .ok (.iaload, 1) := by decide +kernel
theorem dX6_found_102 : decode cX6_found 102 = .ok (.iconst 5, 1) := by decide +kernel
theorem dX6_found_103 : decode cX6_found 103 = .ok (.idiv, 1) := by decide +kernel
theorem dX6_found_104 : decode cX6_found 104 = .ok (.iaload, 1) := by decide +kernel
theorem dX6_found_105 : decode cX6_found 105 = .ok (.if_icmp .ge 31, 3) := by decide +kernel
theorem dX6_found_108 : decode cX6_found 108 = .ok (.aload_n 0, 1) := by decide +kernel
theorem dX6_found_109 : decode cX6_found 109 = .ok (.getfield 120, 3) := by decide +kernel
theorem dX6_found_112 : decode cX6_found 112 = .ok (.aload_n 0, 1) := by decide +kernel
theorem dX6_found_113 : decode cX6_found 113 = .ok (.getfield 17, 3) := by decide +kernel
theorem dX6_found_116 : decode cX6_found 116 = .ok (.iload_n 3, 1) := by decide +kernel
theorem dX6_found_117 : decode cX6_found 117 = .ok (.iaload, 1) := by decide +kernel
theorem dX6_found_118 : decode cX6_found 118 = .ok (.iconst 5, 1) := by decide +kernel
theorem dX6_found_119 : decode cX6_found 119 = .ok (.idiv, 1) := by decide +kernel
theorem dX6_found_120 : decode cX6_found 120 = .ok (.aload_n 0, 1) := by decide +kernel
theorem dX6_found_121 : decode cX6_found 121 = .ok (.getfield 120, 3) := by decide +kernel
theorem dX6_found_124 : decode cX6_found 124 = .ok (.iload_n 3, 1) := by decide +kernel
theorem dX6_found_125 : decode cX6_found 125 = .ok (.iconst 5, 1) := by decide +kernel
theorem dX6_found_126 : decode cX6_found 126 = .ok (.idiv, 1) := by decide +kernel
theorem dX6_found_127 : decode cX6_found 127 = .ok (.iaload, 1) := by decide +kernel
theorem dX6_found_128 : decode cX6_found 128 = .ok (.aload_n 0, 1) := by decide +kernel
theorem dX6_found_129 : decode cX6_found 129 = .ok (.getfield 20, 3) := by decide +kernel
theorem dX6_found_132 : decode cX6_found 132 = .ok (.iload_n 3, 1) := by decide +kernel
theorem dX6_found_133 : decode cX6_found 133 = .ok (.iaload, 1) := by decide +kernel
theorem dX6_found_134 : decode cX6_found 134 = .ok (.iadd, 1) := by decide +kernel
theorem dX6_found_135 : decode cX6_found 135 = .ok (.iastore, 1) := by decide +kernel
theorem dX6_found_136 : decode cX6_found 136 = .ok (.iinc 3 1, 3) := by decide +kernel
theorem dX6_found_139 : decode cX6_found 139 = .ok (.goto (-76), 3) := by decide +kernel
theorem dX6_found_142 : decode cX6_found 142 = .ok (.iinc 2 1, 3) := by decide +kernel
theorem dX6_found_145 : decode cX6_found 145 = .ok (.goto (-90), 3) := by decide +kernel
theorem dX6_found_148 : decode cX6_found 148 = .ok (.iload_n 1, 1) := by decide +kernel
theorem dX6_found_149 : decode cX6_found 149 = .ok (.istore_n 2, 1) := by decide +kernel
theorem dX6_found_150 : decode cX6_found 150 = .ok (.iconst 0, 1) := by decide +kernel
theorem dX6_found_151 : decode cX6_found 151 = .ok (.istore_n 3, 1) := by decide +kernel
theorem dX6_found_152 : decode cX6_found 152 = .ok (.iload_n 3, 1) := by decide +kernel
theorem dX6_found_153 : decode cX6_found 153 = .ok (.bipush 6, 2) := by decide +kernel
theorem dX6_found_155 : decode cX6_found 155 = .ok (.if_icmp .ge 36, 3) := by decide +kernel
theorem dX6_found_158 : decode cX6_found 158 = .ok (.aload_n 0, 1) := by decide +kernel
theorem dX6_found_159 : decode cX6_found 159 = .ok (.getfield 120, 3) := by decide +kernel
theorem dX6_found_162 : decode cX6_found 162 = .ok (.iload_n 3, 1) := by decide +kernel
theorem dX6_found_163 : decode cX6_found 163 = .ok (.iaload, 1) := by decide +kernel
theorem dX6_found_164 : decode cX6_found 164 = .ok (.ldc_w 258, 3) := by decide +kernel
theorem dX6_found_167 : decode cX6_found 167 = .ok (.if_icmp .ge 16, 3) := by decide +kernel
theorem dX6_found_170 : decode cX6_found 170 = .ok (.aload_n 0, 1) := by decide +kernel
theorem dX6_found_171 : decode cX6_found 171 = .ok (.iload_n 3, 1) := by decide +kernel
theorem dX6_found_172 : decode cX6_found 172 = .ok (.iload_n 2, 1) := by decide +kernel
theorem dX6_found_173 : decode cX6_found 173 = .ok (.invokevirtual 170, 3) := by decide +kernel
theorem dX6_found_176 : decode cX6_found 176 = .ok (.ifCond .eq 7, 3) := by decide +kernel
theorem dX6_found_179 : decode cX6_found 179 = .ok (.iload_n 3, 1) := by decide +kernel
theorem dX6_found_180 : decode cX6_found 180 = .ok (.goto 4, 3) := by decide +kernel
theorem dX6_found_183 : decode cX6_found 183 = .ok (.iload_n 2, 1) := by decide +kernel
theorem dX6_found_184 : decode cX6_found 184 = .ok (.istore_n 2, 1) := by decide +kernel
theorem dX6_found_185 : decode cX6_found 185 = .ok (.iinc 3 1, 3) := by decide +kernel
theorem dX6_found_188 : decode cX6_found 188 = .ok (.goto (-36), 3) := by decide +kernel
theorem dX6_found_191 : decode cX6_found 191 = .ok (.sipush 1000, 3) := by decide +kernel
theorem dX6_found_194 : decode cX6_found 194 = .ok (.iload_n 2, 1) := by decide +kernel
theorem dX6_found_195 : decode cX6_found 195 = .ok (.imul, 1) := by decide +kernel
theorem dX6_found_196 : decode cX6_found 196 = .ok (.aload_n 0, 1) := by decide +kernel
theorem dX6_found_197 : decode cX6_found 197 = .ok (.getfield 120, 3) := by decide +kernel
theorem dX6_found_200 : decode cX6_found 200 = .ok (.iload_n 2, 1) := by decide +kernel
theorem dX6_found_201 : decode cX6_found 201 = .ok (.iaload, 1) := by decide +kernel
theorem dX6_found_202 : decode cX6_found 202 = .ok (.iadd, 1) := by decide +kernel
theorem dX6_found_203 : decode cX6_found 203 = .ok (.ireturn, 1) := by decide +kernel
set_option maxRecDepth 20000 in
theorem ggX6_walk_X6_isHouse : GoodIn wsX6_walk wsX6_isHouse := goodIn_r _ [10, 11, 12, 9, 13] (by decide +kernel) (by decide +kernel)
set_option maxRecDepth 20000 in
theorem gX6_walk_X6_isHouse : GoodIn wsX6_walk (va_wsS RX6 158 yX6_isHouse wsX6_isHouse) := goodIn_app (goodIn_of _ (by decide +kernel)) ggX6_walk_X6_isHouse
set_option maxRecDepth 20000 in
theorem ggX6_walk_X6_portOf : GoodIn wsX6_walk wsX6_portOf := goodIn_r _ [17, 3, 39, 40, 41, 42, 43, 44, 45, 46, 47, 48, 49, 50, 51, 52, 53, 54, 55, 56, 57, 58, 59, 60, 61, 62, 63, 64, 65, 66, 67, 68, 69, 70, 71, 72, 73, 74, 75, 76, 77, 78, 79] (by decide +kernel) (by decide +kernel)
set_option maxRecDepth 20000 in
theorem gX6_walk_X6_portOf : GoodIn wsX6_walk (wsV RX6 237 RX6 yX6_portOf wsX6_portOf) := goodIn_app (goodIn_of _ (by decide +kernel)) ggX6_walk_X6_portOf
set_option maxRecDepth 20000 in
theorem ggX6_walk_X6_fails : GoodIn wsX6_walk wsX6_fails := goodIn_r _ [21, 22, 39, 40, 41, 42, 43, 44, 45, 46, 47, 48, 49, 50, 51, 52, 53, 54, 55, 56, 57, 58, 59, 60, 61, 62, 63, 64, 65, 66, 67, 68, 69, 70, 71, 72, 73, 74, 75, 76, 77, 78, 79] (by decide +kernel) (by decide +kernel)
set_option maxRecDepth 20000 in
theorem gX6_walk_X6_fails : GoodIn wsX6_walk (wsV RX6 144 RX6 yX6_fails wsX6_fails) := goodIn_app (goodIn_of _ (by decide +kernel)) ggX6_walk_X6_fails
set_option maxRecDepth 20000 in
theorem ggX6_walk_X6_laneOf : GoodIn wsX6_walk wsX6_laneOf := goodIn_r _ [26, 2, 4, 5, 27, 39, 40, 41, 42, 43, 44, 45, 46, 47, 48, 49, 50, 51, 52, 53, 54, 55, 56, 57, 58, 59, 60, 61, 62, 63, 64, 65, 66, 67, 68, 69, 70, 71, 72, 73, 74, 75, 76, 77, 78, 79] (by decide +kernel) (by decide +kernel)
set_option maxRecDepth 20000 in
theorem gX6_walk_X6_laneOf : GoodIn wsX6_walk (wsV RX6 225 RX6 yX6_laneOf wsX6_laneOf) := goodIn_app (goodIn_of _ (by decide +kernel)) ggX6_walk_X6_laneOf
set_option maxRecDepth 20000 in
theorem ggX6_walk_X6_find : GoodIn wsX6_walk wsX6_find := goodIn_r _ [31, 32, 33, 34, 39, 40, 41, 42, 43, 44, 45, 46, 47, 48, 49, 50, 51, 52, 53, 54, 55, 56, 57, 58, 59, 60, 61, 62, 63, 64, 65, 66, 67, 68, 69, 70, 71, 72, 73, 74, 75, 76, 77, 78, 79] (by decide +kernel) (by decide +kernel)
set_option maxRecDepth 20000 in
theorem gX6_walk_X6_find : GoodIn wsX6_walk (wsV RX6 211 RX6 yX6_find wsX6_find) := goodIn_app (goodIn_of _ (by decide +kernel)) ggX6_walk_X6_find
set_option maxRecDepth 20000 in
theorem ggX6_walk_X6_hasLane : GoodIn wsX6_walk wsX6_hasLane := goodIn_r _ [38, 4, 27, 5, 39, 40, 41, 42, 43, 44, 45, 46, 47, 48, 49, 50, 51, 52, 53, 54, 55, 56, 57, 58, 59, 60, 61, 62, 63, 64, 65, 66, 67, 68, 69, 70, 71, 72, 73, 74, 75, 76, 77, 78, 79] (by decide +kernel) (by decide +kernel)
set_option maxRecDepth 20000 in
theorem gX6_walk_X6_hasLane : GoodIn wsX6_walk (wsV RX6 218 RX6 yX6_hasLane wsX6_hasLane) := goodIn_app (goodIn_of _ (by decide +kernel)) ggX6_walk_X6_hasLane
theorem dX6_walk_0 : decode cX6_walk 0 = .ok (.iload_n 1, 1) := by decide +kernel
theorem dX6_walk_1 : decode cX6_walk 1 = .ok (.invokestatic 158, 3) := by decide +kernel
theorem dX6_walk_4 : decode cX6_walk 4 = .ok (.ifCond .eq 14, 3) := by decide +kernel
theorem dX6_walk_7 : decode cX6_walk 7 = .ok (.iload_n 2, 1) := by decide +kernel
theorem dX6_walk_8 : decode cX6_walk 8 = .ok (.invokestatic 158, 3) := by decide +kernel
theorem dX6_walk_11 : decode cX6_walk 11 = .ok (.ifCond .eq 7, 3) := by decide +kernel
theorem dX6_walk_14 : decode cX6_walk 14 = .ok (.iconst 1, 1) := by decide +kernel
theorem dX6_walk_15 : decode cX6_walk 15 = .ok (.goto 4, 3) := by decide +kernel
theorem dX6_walk_18 : decode cX6_walk 18 = .ok (.iconst 0, 1) := by decide +kernel
theorem dX6_walk_19 : decode cX6_walk 19 = .ok (.istore_n 3, 1) := by decide +kernel
theorem dX6_walk_20 : decode cX6_walk 20 = .ok (.iload_n 3, 1) := by decide +kernel
theorem dX6_walk_21 : decode cX6_walk 21 = .ok (.ifCond .eq 11, 3) := by decide +kernel
theorem dX6_walk_24 : decode cX6_walk 24 = .ok (.aload_n 0, 1) := by decide +kernel
theorem dX6_walk_25 : decode cX6_walk 25 = .ok (.iload_n 1, 1) := by decide +kernel
theorem dX6_walk_26 : decode cX6_walk 26 = .ok (.invokevirtual 237, 3) := by decide +kernel
theorem dX6_walk_29 : decode cX6_walk 29 = .ok (.goto 4, 3) := by decide +kernel
theorem dX6_walk_32 : decode cX6_walk 32 = .ok (.iconst (-1), 1) := by decide +kernel
theorem dX6_walk_33 : decode cX6_walk 33 = .ok (.istore 4, 2) := by decide +kernel
theorem dX6_walk_35 : decode cX6_walk 35 = .ok (.aload_n 0, 1) := by decide +kernel
theorem dX6_walk_36 : decode cX6_walk 36 = .ok (.iload_n 3, 1) := by decide +kernel
theorem dX6_walk_37 : decode cX6_walk 37 = .ok (.ifCond .ne 7, 3) := by decide +kernel
theorem dX6_walk_40 : decode cX6_walk 40 = .ok (.iconst 1, 1) := by decide +kernel
theorem dX6_walk_41 : decode cX6_walk 41 = .ok (.goto 32, 3) := by decide +kernel
theorem dX6_walk_44 : decode cX6_walk 44 = .ok (.iload_n 1, 1) := by decide +kernel
theorem dX6_walk_45 : decode cX6_walk 45 = .ok (.iload_n 2, 1) := by decide +kernel
theorem dX6_walk_46 : decode cX6_walk 46 = .ok (.if_icmp .ne 7, 3) := by decide +kernel
theorem dX6_walk_49 : decode cX6_walk 49 = .ok (.iconst 2, 1) := by decide +kernel
theorem dX6_walk_50 : decode cX6_walk 50 = .ok (.goto 23, 3) := by decide +kernel
theorem dX6_walk_53 : decode cX6_walk 53 = .ok (.iload 4, 2) := by decide +kernel
theorem dX6_walk_55 : decode cX6_walk 55 = .ok (.iconst (-1), 1) := by decide +kernel
theorem dX6_walk_56 : decode cX6_walk 56 = .ok (.if_icmp .eq 12, 3) := by decide +kernel
theorem dX6_walk_59 : decode cX6_walk 59 = .ok (.aload_n 0, 1) := by decide +kernel
theorem dX6_walk_60 : decode cX6_walk 60 = .ok (.iload_n 2, 1) := by decide +kernel
theorem dX6_walk_61 : decode cX6_walk 61 = .ok (.invokevirtual 237, 3) := by decide +kernel
theorem dX6_walk_64 : decode cX6_walk 64 = .ok (.iconst (-1), 1) := by decide +kernel
theorem dX6_walk_65 : decode cX6_walk 65 = .ok (.if_icmp .ne 7, 3) := by decide +kernel
theorem dX6_walk_68 : decode cX6_walk 68 = .ok (.iconst 3, 1) := by decide +kernel
theorem dX6_walk_69 : decode cX6_walk 69 = .ok (.goto 4, 3) := by decide +kernel
theorem dX6_walk_72 : decode cX6_walk 72 = .ok (.iconst 0, 1) := by decide +kernel
theorem dX6_walk_73 : decode cX6_walk 73 = .ok (.invokevirtual 144, 3) := by decide +kernel
theorem dX6_walk_76 : decode cX6_walk 76 = .ok (.ifCond .eq 5, 3) := by decide +kernel
theorem dX6_walk_79 : decode cX6_walk 79 = .ok (.iconst 0, 1) := by decide +kernel
theorem dX6_walk_80 : decode cX6_walk 80 = .ok (.ireturn, 1) := by decide +kernel
theorem dX6_walk_81 : decode cX6_walk 81 = .ok (.iconst 0, 1) := by decide +kernel
theorem dX6_walk_82 : decode cX6_walk 82 = .ok (.istore 5, 2) := by decide +kernel
theorem dX6_walk_84 : decode cX6_walk 84 = .ok (.iconst 1, 1) := by decide +kernel
theorem dX6_walk_85 : decode cX6_walk 85 = .ok (.istore 6, 2) := by decide +kernel
theorem dX6_walk_87 : decode cX6_walk 87 = .ok (.iload 6, 2) := by decide +kernel
theorem dX6_walk_89 : decode cX6_walk 89 = .ok (.bipush 12, 2) := by decide +kernel
theorem dX6_walk_91 : decode cX6_walk 91 = .ok (.if_icmp .gt 165, 3) := by decide +kernel
theorem dX6_walk_94 : decode cX6_walk 94 = .ok (.aload_n 0, 1) := by decide +kernel
theorem dX6_walk_95 : decode cX6_walk 95 = .ok (.iload 4, 2) := by decide +kernel
theorem dX6_walk_97 : decode cX6_walk 97 = .ok (.iload 5, 2) := by decide +kernel
theorem dX6_walk_99 : decode cX6_walk 99 = .ok (.invokevirtual 225, 3) := by decide +kernel
theorem dX6_walk_102 : decode cX6_walk 102 = .ok (.istore 7, 2) := by decide +kernel
theorem dX6_walk_104 : decode cX6_walk 104 = .ok (.iload 7, 2) := by decide +kernel
theorem dX6_walk_106 : decode cX6_walk 106 = .ok (.ifCond .ne 7, 3) := by decide +kernel
theorem dX6_walk_109 : decode cX6_walk 109 = .ok (.iconst (-1), 1) := by decide +kernel
theorem dX6_walk_110 : decode cX6_walk 110 = .ok (.goto 14, 3) := by decide +kernel
theorem dX6_walk_113 : decode cX6_walk 113 = .ok (.aload_n 0, 1) := by decide +kernel
theorem dX6_walk_114 : decode cX6_walk 114 = .ok (.iload 4, 2) := by decide +kernel
theorem dX6_walk_116 : decode cX6_walk 116 = .ok (.iconst 5, 1) := by decide +kernel
theorem dX6_walk_117 : decode cX6_walk 117 = .ok (.idiv, 1) := by decide +kernel
theorem dX6_walk_118 : decode cX6_walk 118 = .ok (.iload 7, 2) := by decide +kernel
theorem dX6_walk_120 : decode cX6_walk 120 = .ok (.iload_n 2, 1) := by decide +kernel
theorem dX6_walk_121 : decode cX6_walk 121 = .ok (.invokevirtual 211, 3) := by decide +kernel
theorem dX6_walk_124 : decode cX6_walk 124 = .ok (.istore 8, 2) := by decide +kernel
theorem dX6_walk_126 : decode cX6_walk 126 = .ok (.iload 8, 2) := by decide +kernel
theorem dX6_walk_128 : decode cX6_walk 128 = .ok (.iconst (-1), 1) := by decide +kernel
theorem dX6_walk_129 : decode cX6_walk 129 = .ok (.if_icmp .ne 7, 3) := by decide +kernel
theorem dX6_walk_132 : decode cX6_walk 132 = .ok (.iconst (-1), 1) := by decide +kernel
theorem dX6_walk_133 : decode cX6_walk 133 = .ok (.goto 18, 3) := by decide +kernel
theorem dX6_walk_136 : decode cX6_walk 136 = .ok (.iload 4, 2) := by decide +kernel
theorem dX6_walk_138 : decode cX6_walk 138 = .ok (.iload 4, 2) := by decide +kernel
theorem dX6_walk_140 : decode cX6_walk 140 = .ok (.iconst 5, 1) := by decide +kernel
theorem dX6_walk_141 : decode cX6_walk 141 = .ok (.irem, 1) := by decide +kernel
theorem dX6_walk_142 : decode cX6_walk 142 = .ok (.isub, 1) := by decide +kernel
theorem dX6_walk_143 : decode cX6_walk 143 = .ok (.aload_n 0, 1) := by decide +kernel
theorem dX6_walk_144 : decode cX6_walk 144 = .ok (.getfield 90, 3) := by decide +kernel
theorem dX6_walk_147 : decode cX6_walk 147 = .ok (.iload 8, 2) := by decide +kernel
theorem dX6_walk_149 : decode cX6_walk 149 = .ok (.iaload, 1) := by decide +kernel
theorem dX6_walk_150 : decode cX6_walk 150 = .ok (.iadd, 1) := by decide +kernel
theorem dX6_walk_151 : decode cX6_walk 151 = .ok (.istore 9, 2) := by decide +kernel
theorem dX6_walk_153 : decode cX6_walk 153 = .ok (.iload 9, 2) := by decide +kernel
theorem dX6_walk_155 : decode cX6_walk 155 = .ok (.iconst (-1), 1) := by decide +kernel
theorem dX6_walk_156 : decode cX6_walk 156 = .ok (.if_icmp .eq 24, 3) := by decide +kernel
theorem dX6_walk_159 : decode cX6_walk 159 = .ok (.aload_n 0, 1) := by decide +kernel
theorem dX6_walk_160 : decode cX6_walk 160 = .ok (.getfield 45, 3) := by decide +kernel
theorem dX6_walk_163 : decode cX6_walk 163 = .ok (.iload 9, 2) := by decide +kernel
theorem dX6_walk_165 : decode cX6_walk 165 = .ok (.baload, 1) := by decide +kernel
theorem dX6_walk_166 : decode cX6_walk 166 = .ok (.ifCond .eq 14, 3) := by decide +kernel
theorem dX6_walk_169 : decode cX6_walk 169 = .ok (.aload_n 0, 1) := by decide +kernel
theorem dX6_walk_170 : decode cX6_walk 170 = .ok (.iload 9, 2) := by decide +kernel
theorem dX6_walk_172 : decode cX6_walk 172 = .ok (.iload 7, 2) := by decide +kernel
theorem dX6_walk_174 : decode cX6_walk 174 = .ok (.invokevirtual 218, 3) := by decide +kernel
theorem dX6_walk_177 : decode cX6_walk 177 = .ok (.ifCond .ne 5, 3) := by decide +kernel
theorem dX6_walk_180 : decode cX6_walk 180 = .ok (.iconst (-1), 1) := by decide +kernel
theorem dX6_walk_181 : decode cX6_walk 181 = .ok (.ireturn, 1) := by decide +kernel
theorem dX6_walk_182 : decode cX6_walk 182 = .ok (.aload_n 0, 1) := by decide +kernel
theorem dX6_walk_183 : decode cX6_walk 183 = .ok (.getfield 23, 3) := by decide +kernel
theorem dX6_walk_186 : decode cX6_walk 186 = .ok (.iload 9, 2) := by decide +kernel
theorem dX6_walk_188 : decode cX6_walk 188 = .ok (.iaload, 1) := by decide +kernel
theorem dX6_walk_189 : decode cX6_walk 189 = .ok (.iconst (-1), 1) := by decide +kernel
theorem dX6_walk_190 : decode cX6_walk 190 = .ok (.if_icmp .eq 21, 3) := by decide +kernel
theorem dX6_walk_193 : decode cX6_walk 193 = .ok (.aload_n 0, 1) := by decide +kernel
theorem dX6_walk_194 : decode cX6_walk 194 = .ok (.getfield 23, 3) := by decide +kernel
theorem dX6_walk_197 : decode cX6_walk 197 = .ok (.iload 9, 2) := by decide +kernel
theorem dX6_walk_199 : decode cX6_walk 199 = .ok (.iaload, 1) := by decide +kernel
theorem dX6_walk_200 : decode cX6_walk 200 = .ok (.iload_n 2, 1) := by decide +kernel
theorem dX6_walk_201 : decode cX6_walk 201 = .ok (.if_icmp .ne 8, 3) := by decide +kernel
theorem dX6_walk_204 : decode cX6_walk 204 = .ok (.iload 6, 2) := by decide +kernel
theorem dX6_walk_206 : decode cX6_walk 206 = .ok (.goto 4, 3) := by decide +kernel
theorem dX6_walk_209 : decode cX6_walk 209 = .ok (.iconst (-1), 1) := by decide +kernel
theorem dX6_walk_210 : decode cX6_walk 210 = .ok (.ireturn, 1) := by decide +kernel
theorem dX6_walk_211 : decode cX6_walk 211 = .ok (.aload_n 0, 1) := by decide +kernel
theorem dX6_walk_212 : decode cX6_walk 212 = .ok (.getfield 29, 3) := by decide +kernel
theorem dX6_walk_215 : decode cX6_walk 215 = .ok (.iload 9, 2) := by decide +kernel
theorem dX6_walk_217 : decode cX6_walk 217 = .ok (.baload, 1) := by decide +kernel
theorem dX6_walk_218 : decode cX6_walk 218 = .ok (.ifCond .eq 20, 3) := by decide +kernel
theorem dX6_walk_221 : decode cX6_walk 221 = .ok (.iload 7, 2) := by decide +kernel
theorem dX6_walk_223 : decode cX6_walk 223 = .ok (.aload_n 0, 1) := by decide +kernel
theorem dX6_walk_224 : decode cX6_walk 224 = .ok (.getfield 36, 3) := by decide +kernel
theorem dX6_walk_227 : decode cX6_walk 227 = .ok (.iload 9, 2) := by decide +kernel
theorem dX6_walk_229 : decode cX6_walk 229 = .ok (.iaload, 1) := by decide +kernel
theorem dX6_walk_230 : decode cX6_walk 230 = .ok (.if_icmp .eq 8, 3) := by decide +kernel
theorem dX6_walk_233 : decode cX6_walk 233 = .ok (.iload 7, 2) := by decide +kernel
theorem dX6_walk_235 : decode cX6_walk 235 = .ok (.goto 4, 3) := by decide +kernel
theorem dX6_walk_238 : decode cX6_walk 238 = .ok (.iconst 0, 1) := by decide +kernel
theorem dX6_walk_239 : decode cX6_walk 239 = .ok (.istore 5, 2) := by decide +kernel
theorem dX6_walk_241 : decode cX6_walk 241 = .ok (.aload_n 0, 1) := by decide +kernel
theorem dX6_walk_242 : decode cX6_walk 242 = .ok (.getfield 17, 3) := by decide +kernel
theorem dX6_walk_245 : decode cX6_walk 245 = .ok (.iload 9, 2) := by decide +kernel
theorem dX6_walk_247 : decode cX6_walk 247 = .ok (.iaload, 1) := by decide +kernel
theorem dX6_walk_248 : decode cX6_walk 248 = .ok (.istore 4, 2) := by decide +kernel
theorem dX6_walk_250 : decode cX6_walk 250 = .ok (.iinc 6 1, 3) := by decide +kernel
theorem dX6_walk_253 : decode cX6_walk 253 = .ok (.goto (-166), 3) := by decide +kernel
theorem dX6_walk_256 : decode cX6_walk 256 = .ok (.iconst (-1), 1) := by decide +kernel
theorem dX6_walk_257 : decode cX6_walk 257 = .ok (.ireturn, 1) := by decide +kernel
