theorem dX5_flood_115 : decode cX5_flood 115 = .ok (.goto (-46), 3) := by decide +kernel
theorem dX5_flood_118 : decode cX5_flood 118 = .ok (.iload 6, 2) := by decide +kernel
theorem dX5_flood_120 : decode cX5_flood 120 = .ok (.ireturn, 1) := by decide +kernel
set_option maxRecDepth 20000 in
theorem ggX5_goOut_X0_carries : GoodIn wsX5_goOut wsX0_carries := goodIn_r _ [12, 13, 14, 15, 11, 16, 62, 63] (by decide +kernel) (by decide +kernel)
set_option maxRecDepth 20000 in
theorem gX5_goOut_X0_carries : GoodIn wsX5_goOut (wsV RX5 288 RX0 yX0_carries wsX0_carries) := goodIn_app (goodIn_of _ (by decide +kernel)) ggX5_goOut_X0_carries
set_option maxRecDepth 20000 in
theorem ggX5_goOut_X5_handOver : GoodIn wsX5_goOut wsX5_handOver := goodIn_r _ [21, 22, 23, 39, 40, 41, 42, 43, 44, 45, 46, 47, 48] (by decide +kernel) (by decide +kernel)
set_option maxRecDepth 20000 in
theorem gX5_goOut_X5_handOver : GoodIn wsX5_goOut (wsV RX5 307 RX5 yX5_handOver wsX5_handOver) := goodIn_app (goodIn_of _ (by decide +kernel)) ggX5_goOut_X5_handOver
set_option maxRecDepth 20000 in
theorem ggX5_goOut_X0_tagOut : GoodIn wsX5_goOut wsX0_tagOut := goodIn_r _ [27, 28, 62, 63] (by decide +kernel) (by decide +kernel)
set_option maxRecDepth 20000 in
theorem gX5_goOut_X0_tagOut : GoodIn wsX5_goOut (wsV RX5 248 RX0 yX0_tagOut wsX0_tagOut) := goodIn_app (goodIn_of _ (by decide +kernel)) ggX5_goOut_X0_tagOut
set_option maxRecDepth 20000 in
theorem ggX5_goOut_X1_add : GoodIn wsX5_goOut wsX1_add := goodIn_r _ [33, 34, 35, 36, 37, 38, 57, 58, 59, 60, 61] (by decide +kernel) (by decide +kernel)
set_option maxRecDepth 20000 in
theorem gX5_goOut_X1_add : GoodIn wsX5_goOut (wsV RX5 170 RX1 yX1_add wsX1_add) := goodIn_app (goodIn_of _ (by decide +kernel)) ggX5_goOut_X1_add
theorem dX5_goOut_0 : decode cX5_goOut 0 = .ok (.aload_n 0, 1) := by decide +kernel
theorem dX5_goOut_1 : decode cX5_goOut 1 = .ok (.getfield 31, 3) := by decide +kernel
theorem dX5_goOut_4 : decode cX5_goOut 4 = .ok (.iload_n 1, 1) := by decide +kernel
theorem dX5_goOut_5 : decode cX5_goOut 5 = .ok (.iload_n 3, 1) := by decide +kernel
theorem dX5_goOut_6 : decode cX5_goOut 6 = .ok (.invokevirtual 288, 3) := by decide +kernel
theorem dX5_goOut_9 : decode cX5_goOut 9 = .ok (.ifCond .ne 5, 3) := by decide +kernel
theorem dX5_goOut_12 : decode cX5_goOut 12 = .ok (.iconst 0, 1) := by decide +kernel
theorem dX5_goOut_13 : decode cX5_goOut 13 = .ok (.ireturn, 1) := by decide +kernel
theorem dX5_goOut_14 : decode cX5_goOut 14 = .ok (.aload_n 0, 1) := by decide +kernel
theorem dX5_goOut_15 : decode cX5_goOut 15 = .ok (.getfield 12, 3) := by decide +kernel
theorem dX5_goOut_18 : decode cX5_goOut 18 = .ok (.getfield 99, 3) := by decide +kernel
theorem dX5_goOut_21 : decode cX5_goOut 21 = .ok (.iload_n 1, 1) := by decide +kernel
theorem dX5_goOut_22 : decode cX5_goOut 22 = .ok (.iaload, 1) := by decide +kernel
theorem dX5_goOut_23 : decode cX5_goOut 23 = .ok (.istore 5, 2) := by decide +kernel
theorem dX5_goOut_25 : decode cX5_goOut 25 = .ok (.iload 5, 2) := by decide +kernel
theorem dX5_goOut_27 : decode cX5_goOut 27 = .ok (.iconst (-1), 1) := by decide +kernel
theorem dX5_goOut_28 : decode cX5_goOut 28 = .ok (.if_icmp .ne 19, 3) := by decide +kernel
theorem dX5_goOut_31 : decode cX5_goOut 31 = .ok (.aload_n 0, 1) := by decide +kernel
theorem dX5_goOut_32 : decode cX5_goOut 32 = .ok (.aload_n 0, 1) := by decide +kernel
theorem dX5_goOut_33 : decode cX5_goOut 33 = .ok (.getfield 12, 3) := by decide +kernel
theorem dX5_goOut_36 : decode cX5_goOut 36 = .ok (.getfield 245, 3) := by decide +kernel
theorem dX5_goOut_39 : decode cX5_goOut 39 = .ok (.iload_n 1, 1) := by decide +kernel
theorem dX5_goOut_40 : decode cX5_goOut 40 = .ok (.iaload, 1) := by decide +kernel
theorem dX5_goOut_41 : decode cX5_goOut 41 = .ok (.iload 4, 2) := by decide +kernel
theorem dX5_goOut_43 : decode cX5_goOut 43 = .ok (.invokevirtual 307, 3) := by decide +kernel
theorem dX5_goOut_46 : decode cX5_goOut 46 = .ok (.ireturn, 1) := by decide +kernel
theorem dX5_goOut_47 : decode cX5_goOut 47 = .ok (.aload_n 0, 1) := by decide +kernel
theorem dX5_goOut_48 : decode cX5_goOut 48 = .ok (.getfield 45, 3) := by decide +kernel
theorem dX5_goOut_51 : decode cX5_goOut 51 = .ok (.getfield 310, 3) := by decide +kernel
theorem dX5_goOut_54 : decode cX5_goOut 54 = .ok (.iload_n 2, 1) := by decide +kernel
theorem dX5_goOut_55 : decode cX5_goOut 55 = .ok (.iaload, 1) := by decide +kernel
theorem dX5_goOut_56 : decode cX5_goOut 56 = .ok (.iconst 1, 1) := by decide +kernel
theorem dX5_goOut_57 : decode cX5_goOut 57 = .ok (.iadd, 1) := by decide +kernel
theorem dX5_goOut_58 : decode cX5_goOut 58 = .ok (.istore 6, 2) := by decide +kernel
theorem dX5_goOut_60 : decode cX5_goOut 60 = .ok (.iload 6, 2) := by decide +kernel
theorem dX5_goOut_62 : decode cX5_goOut 62 = .ok (.bipush 12, 2) := by decide +kernel
theorem dX5_goOut_64 : decode cX5_goOut 64 = .ok (.if_icmp .le 5, 3) := by decide +kernel
theorem dX5_goOut_67 : decode cX5_goOut 67 = .ok (.iconst 0, 1) := by decide +kernel
theorem dX5_goOut_68 : decode cX5_goOut 68 = .ok (.ireturn, 1) := by decide +kernel
theorem dX5_goOut_69 : decode cX5_goOut 69 = .ok (.aload_n 0, 1) := by decide +kernel
theorem dX5_goOut_70 : decode cX5_goOut 70 = .ok (.getfield 45, 3) := by decide +kernel
theorem dX5_goOut_73 : decode cX5_goOut 73 = .ok (.getfield 311, 3) := by decide +kernel
theorem dX5_goOut_76 : decode cX5_goOut 76 = .ok (.iload_n 2, 1) := by decide +kernel
theorem dX5_goOut_77 : decode cX5_goOut 77 = .ok (.iaload, 1) := by decide +kernel
theorem dX5_goOut_78 : decode cX5_goOut 78 = .ok (.istore 7, 2) := by decide +kernel
theorem dX5_goOut_80 : decode cX5_goOut 80 = .ok (.aload_n 0, 1) := by decide +kernel
theorem dX5_goOut_81 : decode cX5_goOut 81 = .ok (.getfield 31, 3) := by decide +kernel
theorem dX5_goOut_84 : decode cX5_goOut 84 = .ok (.iload_n 1, 1) := by decide +kernel
theorem dX5_goOut_85 : decode cX5_goOut 85 = .ok (.iload_n 3, 1) := by decide +kernel
theorem dX5_goOut_86 : decode cX5_goOut 86 = .ok (.invokevirtual 248, 3) := by decide +kernel
theorem dX5_goOut_89 : decode cX5_goOut 89 = .ok (.istore 8, 2) := by decide +kernel
theorem dX5_goOut_91 : decode cX5_goOut 91 = .ok (.iload 8, 2) := by decide +kernel
theorem dX5_goOut_93 : decode cX5_goOut 93 = .ok (.ifCond .ne 20, 3) := by decide +kernel
theorem dX5_goOut_96 : decode cX5_goOut 96 = .ok (.aload_n 0, 1) := by decide +kernel
theorem dX5_goOut_97 : decode cX5_goOut 97 = .ok (.getfield 45, 3) := by decide +kernel
theorem dX5_goOut_100 : decode cX5_goOut 100 = .ok (.iload 5, 2) := by decide +kernel
theorem dX5_goOut_102 : decode cX5_goOut 102 = .ok (.iload 7, 2) := by decide +kernel
theorem dX5_goOut_104 : decode cX5_goOut 104 = .ok (.iconst 0, 1) := by decide +kernel
theorem dX5_goOut_105 : decode cX5_goOut 105 = .ok (.iload 6, 2) := by decide +kernel
theorem dX5_goOut_107 : decode cX5_goOut 107 = .ok (.invokevirtual 170, 3) := by decide +kernel
theorem dX5_goOut_110 : decode cX5_goOut 110 = .ok (.goto 18, 3) := by decide +kernel
theorem dX5_goOut_113 : decode cX5_goOut 113 = .ok (.aload_n 0, 1) := by decide +kernel
theorem dX5_goOut_114 : decode cX5_goOut 114 = .ok (.getfield 45, 3) := by decide +kernel
theorem dX5_goOut_117 : decode cX5_goOut 117 = .ok (.iload 5, 2) := by decide +kernel
theorem dX5_goOut_119 : decode cX5_goOut 119 = .ok (.iload 8, 2) := by decide +kernel
theorem dX5_goOut_121 : decode cX5_goOut 121 = .ok (.iload 7, 2) := by decide +kernel
theorem dX5_goOut_123 : decode cX5_goOut 123 = .ok (.iload 6, 2) := by decide +kernel
theorem dX5_goOut_125 : decode cX5_goOut 125 = .ok (.invokevirtual 170, 3) := by decide +kernel
theorem dX5_goOut_128 : decode cX5_goOut 128 = .ok (.iconst 0, 1) := by decide +kernel
theorem dX5_goOut_129 : decode cX5_goOut 129 = .ok (.ireturn, 1) := by decide +kernel
theorem dX5_handOver_0 : decode cX5_handOver 0 = .ok (.iload_n 1, 1) := by decide +kernel
theorem dX5_handOver_1 : decode cX5_handOver 1 = .ok (.iconst (-1), 1) := by decide +kernel
theorem dX5_handOver_2 : decode cX5_handOver 2 = .ok (.if_icmp .ne 5, 3) := by decide +kernel
theorem dX5_handOver_5 : decode cX5_handOver 5 = .ok (.iconst 0, 1) := by decide +kernel
theorem dX5_handOver_6 : decode cX5_handOver 6 = .ok (.ireturn, 1) := by decide +kernel
theorem dX5_handOver_7 : decode cX5_handOver 7 = .ok (.iload_n 2, 1) := by decide +kernel
theorem dX5_handOver_8 : decode cX5_handOver 8 = .ok (.bipush 10, 2) := by decide +kernel
theorem dX5_handOver_10 : decode cX5_handOver 10 = .ok (.if_icmp .eq 8, 3) := by decide +kernel
theorem dX5_handOver_13 : decode cX5_handOver 13 = .ok (.iload_n 2, 1) := by decide +kernel
theorem dX5_handOver_14 : decode cX5_handOver 14 = .ok (.iload_n 1, 1) := by decide +kernel
theorem dX5_handOver_15 : decode cX5_handOver 15 = .ok (.if_icmp .ne 15, 3) := by decide +kernel
theorem dX5_handOver_18 : decode cX5_handOver 18 = .ok (.aload_n 0, 1) := by decide +kernel
theorem dX5_handOver_19 : decode cX5_handOver 19 = .ok (.getfield 53, 3) := by decide +kernel
theorem dX5_handOver_22 : decode cX5_handOver 22 = .ok (.iload_n 1, 1) := by decide +kernel
theorem dX5_handOver_23 : decode cX5_handOver 23 = .ok (.dup2, 1) := by decide +kernel
theorem dX5_handOver_24 : decode cX5_handOver 24 = .ok (.iaload, 1) := by decide +kernel
theorem dX5_handOver_25 : decode cX5_handOver 25 = .ok (.iconst 1, 1) := by decide +kernel
theorem dX5_handOver_26 : decode cX5_handOver 26 = .ok (.iadd, 1) := by decide +kernel
theorem dX5_handOver_27 : decode cX5_handOver 27 = .ok (.iastore, 1) := by decide +kernel
theorem dX5_handOver_28 : decode cX5_handOver 28 = .ok (.iconst 1, 1) := by decide +kernel
theorem dX5_handOver_29 : decode cX5_handOver 29 = .ok (.ireturn, 1) := by decide +kernel
theorem dX5_handOver_30 : decode cX5_handOver 30 = .ok (.aload_n 0, 1) := by decide +kernel
theorem dX5_handOver_31 : decode cX5_handOver 31 = .ok (.getfield 56, 3) := by decide +kernel
theorem dX5_handOver_34 : decode cX5_handOver 34 = .ok (.iload_n 1, 1) := by decide +kernel
theorem dX5_handOver_35 : decode cX5_handOver 35 = .ok (.dup2, 1) := by decide +kernel
theorem dX5_handOver_36 : decode cX5_handOver 36 = .ok (.iaload, 1) := by decide +kernel
theorem dX5_handOver_37 : decode cX5_handOver 37 = .ok (.iconst 1, 1) := by decide +kernel
theorem dX5_handOver_38 : decode cX5_handOver 38 = .ok (.iadd, 1) := by decide +kernel
theorem dX5_handOver_39 : decode cX5_handOver 39 = .ok (.iastore, 1) := by decide +kernel
theorem dX5_handOver_40 : decode cX5_handOver 40 = .ok (.iconst 0, 1) := by decide +kernel
theorem dX5_handOver_41 : decode cX5_handOver 41 = .ok (.ireturn, 1) := by decide +kernel
theorem dL_part_0 : decode cL_part 0 = .ok (.iload_n 1, 1) := by decide +kernel
theorem dL_part_1 : decode cL_part 1 = .ok (.aload_n 0, 1) := by decide +kernel
theorem dL_part_2 : decode cL_part 2 = .ok (.arraylength, 1) := by decide +kernel
theorem dL_part_3 : decode cL_part 3 = .ok (.if_icmp .ge 9, 3) := by decide +kernel
theorem dL_part_6 : decode cL_part 6 = .ok (.aload_n 0, 1) := by decide +kernel
theorem dL_part_7 : decode cL_part 7 = .ok (.iload_n 1, 1) := by decide +kernel
theorem dL_part_8 : decode cL_part 8 = .ok (.iaload, 1) := by decide +kernel
theorem dL_part_9 : decode cL_part 9 = .ok (.goto 16, 3) := by decide +kernel
theorem dL_part_12 : decode cL_part 12 = .ok (.sipush 761, 3) := by decide +kernel
theorem dL_part_15 : decode cL_part 15 = .ok (.iload_n 1, 1) := by decide +kernel
theorem dL_part_16 : decode cL_part 16 = .ok (.imul, 1) := by decide +kernel
theorem dL_part_17 : decode cL_part 17 = .ok (.sipush 619, 3) := by decide +kernel
theorem dL_part_20 : decode cL_part 20 = .ok (.iload_n 1, 1) := by decide +kernel
theorem dL_part_21 : decode cL_part 21 = .ok (.imul, 1) := by decide +kernel
theorem dL_part_22 : decode cL_part 22 = .ok (.iload_n 1, 1) := by decide +kernel
theorem dL_part_23 : decode cL_part 23 = .ok (.imul, 1) := by decide +kernel
theorem dL_part_24 : decode cL_part 24 = .ok (.iadd, 1) := by decide +kernel
theorem dL_part_25 : decode cL_part 25 = .ok (.istore_n 3, 1) := by decide +kernel
theorem dL_part_26 : decode cL_part 26 = .ok (.iload_n 3, 1) := by decide +kernel
theorem dL_part_27 : decode cL_part 27 = .ok (.ldc 7, 2) := by decide +kernel
theorem dL_part_29 : decode cL_part 29 = .ok (.iand, 1) := by decide +kernel
theorem dL_part_30 : decode cL_part 30 = .ok (.iload_n 2, 1) := by decide +kernel
theorem dL_part_31 : decode cL_part 31 = .ok (.irem, 1) := by decide +kernel
theorem dL_part_32 : decode cL_part 32 = .ok (.ireturn, 1) := by decide +kernel
set_option maxRecDepth 20000 in
theorem ggL_does_X5_wire : GoodIn wsL_does wsX5_wire := goodIn_ca (goodIn_ca (goodIn_ca (goodIn_r _ [8, 9, 10, 11, 12, 13, 14, 15, 16, 7, 17, 18, 19, 20, 21, 22, 23, 24, 25, 26, 27, 28, 29, 30, 31, 32, 33, 34, 35, 36, 37, 38, 39, 40, 41, 380, 381, 382, 383, 384, 385, 386, 387, 388, 389, 390, 391, 392, 393, 394, 395, 396, 397] (by decide +kernel) (by decide +kernel)) (goodIn_sub (fun _ h => List.mem_cons_of_mem _ (List.mem_append_left _ (List.mem_append_left _ (List.mem_append_right _ h)))) (by decide +kernel))) (goodIn_sub (fun _ h => List.mem_cons_of_mem _ (List.mem_append_left _ (List.mem_append_right _ h))) (by decide +kernel))) (goodIn_sub (fun _ h => List.mem_cons_of_mem _ (List.mem_append_right _ h)) (by decide +kernel))
set_option maxRecDepth 20000 in
theorem gL_does_X5_wire : GoodIn wsL_does (wsV RL 8 RX5 yX5_wire wsX5_wire) := goodIn_app (goodIn_of _ (by decide +kernel)) ggL_does_X5_wire
set_option maxRecDepth 20000 in
theorem ggL_does_X5_free : GoodIn wsL_does wsX5_free := goodIn_ca (goodIn_ca (goodIn_r _ [45, 11, 12, 13, 46, 15, 16, 7, 17, 18, 19, 20, 21, 22, 26, 27, 28, 29, 30, 31, 32, 33, 34, 35, 47, 48, 49, 50, 51, 52, 53, 54, 55, 56, 57, 58, 59, 60, 61, 62, 63, 64, 65, 66, 67, 68, 69, 70, 71, 72, 73, 74, 75, 76, 77, 78, 79, 80, 81, 41, 380, 381, 382, 383, 384, 385, 386, 387, 388, 389, 390, 391, 392, 393, 394, 395, 396, 397, 398, 399, 400, 401, 402, 403, 404, 405, 406, 407, 408, 409, 410, 411, 412, 413, 414, 415, 416] (by decide +kernel) (by decide +kernel)) (goodIn_sub (fun _ h => List.mem_cons_of_mem _ (List.mem_append_left _ (List.mem_append_right _ h))) (by decide +kernel))) (goodIn_sub (fun _ h => List.mem_cons_of_mem _ (List.mem_append_right _ h)) (by decide +kernel))
set_option maxRecDepth 20000 in
theorem gL_does_X5_free : GoodIn wsL_does (wsV RL 14 RX5 yX5_free wsX5_free) := goodIn_app (goodIn_of _ (by decide +kernel)) ggL_does_X5_free
set_option maxRecDepth 20000 in
theorem ggL_does_X5_house : GoodIn wsL_does wsX5_house := goodIn_ca (goodIn_ca (goodIn_r _ [85, 11, 12, 13, 86, 51, 87, 15, 16, 7, 17, 18, 19, 20, 21, 22, 88, 89, 90, 26, 27, 28, 29, 30, 31, 32, 33, 34, 35, 91, 92, 93, 94, 76, 77, 95, 96, 97, 56, 98, 58, 99, 100, 101, 102, 103, 104, 105, 380, 381, 382, 383, 384, 385, 386, 387, 388, 389, 390, 391, 392, 393, 394, 395, 396, 397, 398, 399, 400, 401, 402, 403, 404, 405, 406, 407, 408, 409, 410, 411, 412, 413] (by decide +kernel) (by decide +kernel)) (goodIn_sub (fun _ h => List.mem_cons_of_mem _ (List.mem_append_left _ (List.mem_append_right _ h))) (by decide +kernel))) (goodIn_sub (fun _ h => List.mem_cons_of_mem _ (List.mem_append_right _ h)) (by decide +kernel))
set_option maxRecDepth 20000 in
theorem gL_does_X5_house : GoodIn wsL_does (wsV RL 18 RX5 yX5_house wsX5_house) := goodIn_app (goodIn_of _ (by decide +kernel)) ggL_does_X5_house
set_option maxRecDepth 20000 in
theorem ggL_does_X5_rank : GoodIn wsL_does wsX5_rank := goodIn_ca (goodIn_ca (goodIn_r _ [109, 13, 110, 20, 21, 7, 22, 18, 19, 23, 24, 25, 9, 10, 380, 381, 382, 383, 384, 385, 386, 387, 388, 389, 390, 391, 392, 393, 394, 395, 396, 397] (by decide +kernel) (by decide +kernel)) (goodIn_sub (fun _ h => List.mem_cons_of_mem _ (List.mem_append_right _ h)) (by decide +kernel))) (goodIn_sub (fun _ h => List.mem_cons_of_mem _ (List.mem_append_left _ (List.mem_append_left _ (List.mem_append_right _ h)))) (by decide +kernel))
set_option maxRecDepth 20000 in
theorem gL_does_X5_rank : GoodIn wsL_does (wsV RL 22 RX5 yX5_rank wsX5_rank) := goodIn_app (goodIn_of _ (by decide +kernel)) ggL_does_X5_rank
set_option maxRecDepth 20000 in
theorem ggL_does_X5_shut : GoodIn wsL_does wsX5_shut := goodIn_ca (goodIn_r _ [114, 51, 15, 16, 7, 17, 18, 19, 20, 21, 22, 26, 27, 28, 115, 102, 103, 56, 104, 105, 116, 117, 118, 119, 120, 96, 97, 98, 58, 99, 100, 101, 121, 122, 123, 124, 52, 125, 126, 127, 128, 129, 54, 55, 57, 59, 60, 61, 62, 63, 64, 65, 66, 67, 68, 69, 70, 71, 380, 381, 382, 383, 384, 385, 386, 387, 388, 389, 398, 399, 400, 401, 402, 403, 404, 405, 406, 407, 408, 409, 410, 411, 412, 413, 390, 391, 392, 393, 394, 395, 396, 397, 414, 415, 416] (by decide +kernel) (by decide +kernel)) (goodIn_sub (fun _ h => List.mem_cons_of_mem _ (List.mem_append_right _ h)) (by decide +kernel))
set_option maxRecDepth 20000 in
theorem gL_does_X5_shut : GoodIn wsL_does (wsV RL 25 RX5 yX5_shut wsX5_shut) := goodIn_app (goodIn_of _ (by decide +kernel)) ggL_does_X5_shut
set_option maxRecDepth 20000 in
theorem ggL_does_X5_guard : GoodIn wsL_does wsX5_guard := goodIn_ca (goodIn_ca (goodIn_r _ [133, 13, 134, 15, 16, 7, 17, 18, 19, 20, 21, 22, 23, 24, 25, 9, 10, 26, 27, 28, 380, 381, 382, 383, 384, 385, 386, 387, 388, 389, 390, 391, 392, 393, 394, 395, 396, 397] (by decide +kernel) (by decide +kernel)) (goodIn_sub (fun _ h => List.mem_cons_of_mem _ (List.mem_append_right _ h)) (by decide +kernel))) (goodIn_sub (fun _ h => List.mem_cons_of_mem _ (List.mem_append_left _ (List.mem_append_left _ (List.mem_append_right _ h)))) (by decide +kernel))
set_option maxRecDepth 20000 in
theorem gL_does_X5_guard : GoodIn wsL_does (wsV RL 29 RX5 yX5_guard wsX5_guard) := goodIn_app (goodIn_of _ (by decide +kernel)) ggL_does_X5_guard
set_option maxRecDepth 20000 in
theorem ggL_does_L_plained : GoodIn wsL_does wsL_plained := goodIn_ca (goodIn_r _ [138, 139, 140, 141, 7, 142, 143, 15, 16, 17, 18, 19, 20, 21, 22, 144, 145, 146, 26, 27, 28, 147, 148, 149, 150, 151, 152, 153, 154, 155, 156, 380, 381, 382, 383, 384, 385, 386, 387, 388, 389, 417, 418] (by decide +kernel) (by decide +kernel)) (goodIn_sub (fun _ h => List.mem_cons_of_mem _ (List.mem_append_right _ h)) (by decide +kernel))
set_option maxRecDepth 20000 in
theorem gL_does_L_plained : GoodIn wsL_does (va_wsS RL 32 yL_plained wsL_plained) := goodIn_app (goodIn_of _ (by decide +kernel)) ggL_does_L_plained
set_option maxRecDepth 20000 in
theorem ggL_does_L_trunked : GoodIn wsL_does wsL_trunked := goodIn_ca (goodIn_ca (goodIn_r _ [159, 160, 161, 162, 7, 163, 143, 15, 16, 17, 18, 19, 20, 21, 22, 144, 145, 146, 23, 24, 25, 9, 10, 26, 27, 28, 151, 152, 153, 149, 154, 155, 156, 380, 381, 382, 383, 384, 385, 386, 387, 388, 389, 417, 418] (by decide +kernel) (by decide +kernel)) (goodIn_sub (fun _ h => List.mem_cons_of_mem _ (List.mem_append_right _ h)) (by decide +kernel))) (goodIn_sub (fun _ h => List.mem_cons_of_mem _ (List.mem_append_left _ (List.mem_append_left _ (List.mem_append_right _ h)))) (by decide +kernel))
set_option maxRecDepth 20000 in
theorem gL_does_L_trunked : GoodIn wsL_does (va_wsS RL 38 yL_trunked wsL_trunked) := goodIn_app (goodIn_of _ (by decide +kernel)) ggL_does_L_trunked
set_option maxRecDepth 20000 in
theorem ggL_does_X5_limit : GoodIn wsL_does wsX5_limit := goodIn_ca (goodIn_r _ [167, 168, 23, 24, 7, 25, 9, 10, 380, 381, 382, 383, 384, 385, 386, 387, 388, 389] (by decide +kernel) (by decide +kernel)) (goodIn_sub (fun _ h => List.mem_cons_of_mem _ (List.mem_append_left _ (List.mem_append_left _ (List.mem_append_right _ h)))) (by decide +kernel))
set_option maxRecDepth 20000 in
theorem gL_does_X5_limit : GoodIn wsL_does (wsV RL 42 RX5 yX5_limit wsX5_limit) := goodIn_app (goodIn_of _ (by decide +kernel)) ggL_does_X5_limit
set_option maxRecDepth 20000 in
theorem ggL_does_X5_beat : GoodIn wsL_does wsX5_beat := goodIn_ca (goodIn_r _ [172, 51, 173, 23, 24, 7, 25, 9, 10, 174, 175, 176, 177, 178, 179, 52, 180, 181, 182, 183, 56, 184, 185, 186, 187, 188, 189, 190, 191, 99, 192, 193, 194, 195, 196, 197, 198, 199, 200, 201, 101, 102, 103, 104, 105, 202, 203, 204, 205, 206, 207, 208, 126, 127, 128, 129, 54, 55, 57, 58, 59, 60, 209, 210, 211, 212, 213, 27, 28, 214, 215, 216, 217, 218, 219, 220, 221, 222, 223, 224, 225, 32, 226, 227, 228, 229, 230, 231, 232, 233, 234, 235, 236, 237, 238, 239, 240, 241, 242, 243, 244, 245, 246, 247, 248, 249, 250, 251, 252, 117, 118, 119, 120, 96, 97, 98, 100, 61, 62, 63, 64, 65, 66, 67, 68, 69, 70, 71, 253, 254, 255, 256, 257, 258, 259, 260, 261, 380, 381, 382, 383, 384, 385, 386, 387, 388, 389, 398, 399, 400, 401, 402, 403, 404, 405, 406, 407, 408, 409, 410, 411, 412, 413, 390, 391, 392, 393, 394, 395, 396, 397, 414, 415, 416] (by decide +kernel) (by decide +kernel)) (goodIn_sub (fun _ h => List.mem_cons_of_mem _ (List.mem_append_left _ (List.mem_append_left _ (List.mem_append_right _ h)))) (by decide +kernel))
set_option maxRecDepth 20000 in
theorem gL_does_X5_beat : GoodIn wsL_does (wsV RL 46 RX5 yX5_beat wsX5_beat) := goodIn_app (goodIn_of _ (by decide +kernel)) ggL_does_X5_beat
set_option maxRecDepth 20000 in
theorem ggL_does_X5_send : GoodIn wsL_does wsX5_send := goodIn_ca (goodIn_ca (goodIn_ca (goodIn_r _ [265, 9, 10, 11, 12, 13, 86, 266, 267, 88, 89, 7, 90, 18, 19, 23, 24, 25, 268, 269, 270, 271, 272, 273, 274, 275, 276, 277, 278, 279, 280, 281, 282, 283, 284, 285, 286, 287, 52, 51, 173, 288, 289, 290, 291, 292, 143, 293, 294, 295, 149, 296, 156, 297, 298, 299, 300, 155, 301, 148, 150, 302, 303, 304, 64, 305, 66, 71, 261, 306, 307, 308, 309, 310, 311, 312, 26, 27, 28, 313, 314, 315, 316, 178, 168, 121, 122, 123, 124, 125, 126, 127, 56, 128, 105, 129, 54, 55, 57, 58, 59, 60, 61, 62, 63, 65, 67, 68, 69, 70, 317, 318, 319, 320, 46, 321, 322, 323, 324, 325, 326, 327, 328, 329, 330, 331, 332, 333, 334, 380, 381, 382, 383, 384, 385, 386, 387, 388, 389, 390, 391, 392, 393, 394, 395, 396, 397, 419, 420, 421, 422, 423, 398, 399, 400, 401, 402, 403, 404, 405, 406, 407, 408, 409, 410, 411, 412, 413, 417, 418, 414, 415, 416] (by decide +kernel) (by decide +kernel)) (goodIn_sub (fun _ h => List.mem_cons_of_mem _ (List.mem_append_left _ (List.mem_append_left _ (List.mem_append_right _ h)))) (by decide +kernel))) (goodIn_sub (fun _ h => List.mem_cons_of_mem _ (List.mem_append_left _ (List.mem_append_right _ h))) (by decide +kernel))) (goodIn_sub (fun _ h => List.mem_cons_of_mem _ (List.mem_append_right _ h)) (by decide +kernel))
set_option maxRecDepth 20000 in
theorem gL_does_X5_send : GoodIn wsL_does (wsV RL 49 RX5 yX5_send wsX5_send) := goodIn_app (goodIn_of _ (by decide +kernel)) ggL_does_X5_send
set_option maxRecDepth 20000 in
theorem ggL_does_X5_holds : GoodIn wsL_does wsX5_holds := goodIn_ca (goodIn_ca (goodIn_r _ [338, 9, 10, 51, 339, 340, 341, 342, 52, 343, 20, 21, 7, 22, 18, 19, 380, 381, 382, 383, 384, 385, 386, 387, 388, 389, 398, 399, 400, 401, 402, 403, 404, 405, 406, 407, 408, 409, 410, 411, 412, 413, 414, 415, 416] (by decide +kernel) (by decide +kernel)) (goodIn_sub (fun _ h => List.mem_cons_of_mem _ (List.mem_append_left _ (List.mem_append_left _ (List.mem_append_right _ h)))) (by decide +kernel))) (goodIn_sub (fun _ h => List.mem_cons_of_mem _ (List.mem_append_right _ h)) (by decide +kernel))
set_option maxRecDepth 20000 in
theorem gL_does_X5_holds : GoodIn wsL_does (wsV RL 53 RX5 yX5_holds wsX5_holds) := goodIn_app (goodIn_of _ (by decide +kernel)) ggL_does_X5_holds
set_option maxRecDepth 20000 in
theorem ggL_does_X5_port : GoodIn wsL_does wsX5_port := goodIn_ca (goodIn_ca (goodIn_r _ [347, 9, 10, 51, 288, 348, 178, 15, 16, 7, 17, 18, 19, 20, 21, 22, 26, 27, 28, 115, 102, 103, 56, 104, 105, 380, 381, 382, 383, 384, 385, 386, 387, 388, 389, 398, 399, 400, 401, 402, 403, 404, 405, 406, 407, 408, 409, 410, 411, 412, 413] (by decide +kernel) (by decide +kernel)) (goodIn_sub (fun _ h => List.mem_cons_of_mem _ (List.mem_append_left _ (List.mem_append_left _ (List.mem_append_right _ h)))) (by decide +kernel))) (goodIn_sub (fun _ h => List.mem_cons_of_mem _ (List.mem_append_right _ h)) (by decide +kernel))
set_option maxRecDepth 20000 in
theorem gL_does_X5_port : GoodIn wsL_does (wsV RL 56 RX5 yX5_port wsX5_port) := goodIn_app (goodIn_of _ (by decide +kernel)) ggL_does_X5_port
set_option maxRecDepth 20000 in
theorem ggL_does_X5_table : GoodIn wsL_does wsX5_table := goodIn_ca (goodIn_r _ [352, 52, 20, 21, 7, 22, 18, 19, 144, 145, 146, 88, 89, 90, 309, 310, 311, 64, 312, 66, 306, 307, 308, 380, 381, 382, 383, 384, 385, 386, 387, 388, 389, 414, 415, 416] (by decide +kernel) (by decide +kernel)) (goodIn_sub (fun _ h => List.mem_cons_of_mem _ (List.mem_append_right _ h)) (by decide +kernel))
set_option maxRecDepth 20000 in
theorem gL_does_X5_table : GoodIn wsL_does (wsV RL 59 RX5 yX5_table wsX5_table) := goodIn_app (goodIn_of _ (by decide +kernel)) ggL_does_X5_table
set_option maxRecDepth 20000 in
theorem ggL_does_X5_got : GoodIn wsL_does wsX5_got := goodIn_ca (goodIn_r _ [356, 330, 329, 88, 89, 7, 90, 18, 19, 380, 381, 382, 383, 384, 385, 386, 387, 388, 389] (by decide +kernel) (by decide +kernel)) (goodIn_sub (fun _ h => List.mem_cons_of_mem _ (List.mem_append_right _ h)) (by decide +kernel))
set_option maxRecDepth 20000 in
theorem gL_does_X5_got : GoodIn wsL_does (wsV RL 62 RX5 yX5_got wsX5_got) := goodIn_app (goodIn_of _ (by decide +kernel)) ggL_does_X5_got
set_option maxRecDepth 20000 in
theorem ggL_does_X5_found : GoodIn wsL_does wsX5_found := goodIn_ca (goodIn_r _ [360, 51, 361, 13, 20, 21, 7, 22, 18, 19, 362, 363, 364, 56, 365, 366, 99, 192, 218, 198, 199, 200, 201, 101, 102, 103, 104, 105, 367, 368, 369, 370, 371, 224, 225, 32, 226, 227, 380, 381, 382, 383, 384, 385, 386, 387, 388, 389, 398, 399, 400, 401, 402, 403, 404, 405, 406, 407, 408, 409, 410, 411, 412, 413, 390, 391, 392, 393, 394, 395, 396, 397] (by decide +kernel) (by decide +kernel)) (goodIn_sub (fun _ h => List.mem_cons_of_mem _ (List.mem_append_right _ h)) (by decide +kernel))
set_option maxRecDepth 20000 in
theorem gL_does_X5_found : GoodIn wsL_does (wsV RL 66 RX5 yX5_found wsX5_found) := goodIn_app (goodIn_of _ (by decide +kernel)) ggL_does_X5_found
set_option maxRecDepth 20000 in
theorem ggL_does_X5_walk : GoodIn wsL_does wsX5_walk := goodIn_ca (goodIn_ca (goodIn_ca (goodIn_r _ [375, 9, 10, 11, 12, 13, 86, 46, 321, 143, 88, 89, 7, 90, 18, 19, 289, 290, 291, 292, 51, 288, 293, 294, 295, 149, 296, 156, 297, 298, 299, 300, 155, 301, 148, 150, 376, 377, 378, 379, 52, 309, 310, 311, 64, 312, 66, 306, 307, 308, 26, 27, 28, 324, 331, 332, 333, 334, 380, 381, 382, 383, 384, 385, 386, 387, 388, 389, 390, 391, 392, 393, 394, 395, 396, 397, 398, 399, 400, 401, 402, 403, 404, 405, 406, 407, 408, 409, 410, 411, 412, 413, 417, 418, 414, 415, 416] (by decide +kernel) (by decide +kernel)) (goodIn_sub (fun _ h => List.mem_cons_of_mem _ (List.mem_append_left _ (List.mem_append_left _ (List.mem_append_right _ h)))) (by decide +kernel))) (goodIn_sub (fun _ h => List.mem_cons_of_mem _ (List.mem_append_left _ (List.mem_append_right _ h))) (by decide +kernel))) (goodIn_sub (fun _ h => List.mem_cons_of_mem _ (List.mem_append_right _ h)) (by decide +kernel))
set_option maxRecDepth 20000 in
theorem gL_does_X5_walk : GoodIn wsL_does (wsV RL 69 RX5 yX5_walk wsX5_walk) := goodIn_app (goodIn_of _ (by decide +kernel)) ggL_does_X5_walk
theorem dL_does_0 : decode cL_does 0 = .ok (.iload_n 1, 1) := by decide +kernel
theorem dL_does_1 : decode cL_does 1 = .ok (.ifCond .ne 18, 3) := by decide +kernel
theorem dL_does_4 : decode cL_does 4 = .ok (.aload_n 0, 1) := by decide +kernel
theorem dL_does_5 : decode cL_does 5 = .ok (.iload_n 2, 1) := by decide +kernel
theorem dL_does_6 : decode cL_does 6 = .ok (.iload_n 3, 1) := by decide +kernel
theorem dL_does_7 : decode cL_does 7 = .ok (.iload 4, 2) := by decide +kernel
theorem dL_does_9 : decode cL_does 9 = .ok (.iload 5, 2) := by decide +kernel
theorem dL_does_11 : decode cL_does 11 = .ok (.iload 6, 2) := by decide +kernel
theorem dL_does_13 : decode cL_does 13 = .ok (.invokevirtual 8, 3) := by decide +kernel
theorem dL_does_16 : decode cL_does 16 = .ok (.goto 252, 3) := by decide +kernel
theorem dL_does_19 : decode cL_does 19 = .ok (.iload_n 1, 1) := by decide +kernel
theorem dL_does_20 : decode cL_does 20 = .ok (.iconst 1, 1) := by decide +kernel
theorem dL_does_21 : decode cL_does 21 = .ok (.if_icmp .ne 12, 3) := by decide +kernel
theorem dL_does_24 : decode cL_does 24 = .ok (.aload_n 0, 1) := by decide +kernel
theorem dL_does_25 : decode cL_does 25 = .ok (.iload_n 2, 1) := by decide +kernel
theorem dL_does_26 : decode cL_does 26 = .ok (.iload_n 3, 1) := by decide +kernel
theorem dL_does_27 : decode cL_does 27 = .ok (.invokevirtual 14, 3) := by decide +kernel
theorem dL_does_30 : decode cL_does 30 = .ok (.goto 238, 3) := by decide +kernel
theorem dL_does_33 : decode cL_does 33 = .ok (.iload_n 1, 1) := by decide +kernel
theorem dL_does_34 : decode cL_does 34 = .ok (.iconst 2, 1) := by decide +kernel
theorem dL_does_35 : decode cL_does 35 = .ok (.if_icmp .ne 14, 3) := by decide +kernel
theorem dL_does_38 : decode cL_does 38 = .ok (.aload_n 0, 1) := by decide +kernel
theorem dL_does_39 : decode cL_does 39 = .ok (.iload_n 2, 1) := by decide +kernel
theorem dL_does_40 : decode cL_does 40 = .ok (.iload_n 3, 1) := by decide +kernel
theorem dL_does_41 : decode cL_does 41 = .ok (.iload 4, 2) := by decide +kernel
theorem dL_does_43 : decode cL_does 43 = .ok (.invokevirtual 18, 3) := by decide +kernel
theorem dL_does_46 : decode cL_does 46 = .ok (.goto 222, 3) := by decide +kernel
theorem dL_does_49 : decode cL_does 49 = .ok (.iload_n 1, 1) := by decide +kernel
theorem dL_does_50 : decode cL_does 50 = .ok (.iconst 3, 1) := by decide +kernel
theorem dL_does_51 : decode cL_does 51 = .ok (.if_icmp .ne 12, 3) := by decide +kernel
theorem dL_does_54 : decode cL_does 54 = .ok (.aload_n 0, 1) := by decide +kernel
theorem dL_does_55 : decode cL_does 55 = .ok (.iload_n 2, 1) := by decide +kernel
theorem dL_does_56 : decode cL_does 56 = .ok (.iload_n 3, 1) := by decide +kernel
theorem dL_does_57 : decode cL_does 57 = .ok (.invokevirtual 22, 3) := by decide +kernel
theorem dL_does_60 : decode cL_does 60 = .ok (.goto 208, 3) := by decide +kernel
theorem dL_does_63 : decode cL_does 63 = .ok (.iload_n 1, 1) := by decide +kernel
theorem dL_does_64 : decode cL_does 64 = .ok (.iconst 4, 1) := by decide +kernel
theorem dL_does_65 : decode cL_does 65 = .ok (.if_icmp .ne 20, 3) := by decide +kernel
theorem dL_does_68 : decode cL_does 68 = .ok (.aload_n 0, 1) := by decide +kernel
theorem dL_does_69 : decode cL_does 69 = .ok (.iload_n 2, 1) := by decide +kernel
theorem dL_does_70 : decode cL_does 70 = .ok (.iload_n 3, 1) := by decide +kernel
theorem dL_does_71 : decode cL_does 71 = .ok (.invokevirtual 25, 3) := by decide +kernel
theorem dL_does_74 : decode cL_does 74 = .ok (.ifCond .eq 7, 3) := by decide +kernel
theorem dL_does_77 : decode cL_does 77 = .ok (.iconst 1, 1) := by decide +kernel
theorem dL_does_78 : decode cL_does 78 = .ok (.goto 190, 3) := by decide +kernel
theorem dL_does_81 : decode cL_does 81 = .ok (.iconst 0, 1) := by decide +kernel
theorem dL_does_82 : decode cL_does 82 = .ok (.goto 186, 3) := by decide +kernel
theorem dL_does_85 : decode cL_does 85 = .ok (.iload_n 1, 1) := by decide +kernel
theorem dL_does_86 : decode cL_does 86 = .ok (.iconst 5, 1) := by decide +kernel
theorem dL_does_87 : decode cL_does 87 = .ok (.if_icmp .ne 14, 3) := by decide +kernel
theorem dL_does_90 : decode cL_does 90 = .ok (.aload_n 0, 1) := by decide +kernel
theorem dL_does_91 : decode cL_does 91 = .ok (.iload_n 2, 1) := by decide +kernel
theorem dL_does_92 : decode cL_does 92 = .ok (.iload_n 3, 1) := by decide +kernel
theorem dL_does_93 : decode cL_does 93 = .ok (.iload 4, 2) := by decide +kernel
theorem dL_does_95 : decode cL_does 95 = .ok (.invokevirtual 29, 3) := by decide +kernel
theorem dL_does_98 : decode cL_does 98 = .ok (.goto 170, 3) := by decide +kernel
theorem dL_does_101 : decode cL_does 101 = .ok (.iload_n 1, 1) := by decide +kernel
theorem dL_does_102 : decode cL_does 102 = .ok (.bipush 6, 2) := by decide +kernel
theorem dL_does_104 : decode cL_does 104 = .ok (.if_icmp .ne 14, 3) := by decide +kernel
theorem dL_does_107 : decode cL_does 107 = .ok (.aload_n 0, 1) := by decide +kernel
theorem dL_does_108 : decode cL_does 108 = .ok (.iload_n 2, 1) := by decide +kernel
theorem dL_does_109 : decode cL_does 109 = .ok (.iload_n 3, 1) := by decide +kernel
theorem dL_does_110 : decode cL_does 110 = .ok (.iload 4, 2) := by decide +kernel
theorem dL_does_112 : decode cL_does 112 = .ok (.invokestatic 32, 3) := by decide +kernel
theorem dL_does_115 : decode cL_does 115 = .ok (.goto 153, 3) := by decide +kernel
theorem dL_does_118 : decode cL_does 118 = .ok (.iload_n 1, 1) := by decide +kernel
theorem dL_does_119 : decode cL_does 119 = .ok (.bipush 7, 2) := by decide +kernel
theorem dL_does_121 : decode cL_does 121 = .ok (.if_icmp .ne 16, 3) := by decide +kernel
theorem dL_does_124 : decode cL_does 124 = .ok (.aload_n 0, 1) := by decide +kernel
theorem dL_does_125 : decode cL_does 125 = .ok (.iload_n 2, 1) := by decide +kernel
theorem dL_does_126 : decode cL_does 126 = .ok (.iload_n 3, 1) := by decide +kernel
theorem dL_does_127 : decode cL_does 127 = .ok (.iload 4, 2) := by decide +kernel
theorem dL_does_129 : decode cL_does 129 = .ok (.iload 5, 2) := by decide +kernel
theorem dL_does_131 : decode cL_does 131 = .ok (.invokestatic 38, 3) := by decide +kernel
theorem dL_does_134 : decode cL_does 134 = .ok (.goto 134, 3) := by decide +kernel
theorem dL_does_137 : decode cL_does 137 = .ok (.iload_n 1, 1) := by decide +kernel
theorem dL_does_138 : decode cL_does 138 = .ok (.bipush 8, 2) := by decide +kernel
theorem dL_does_140 : decode cL_does 140 = .ok (.if_icmp .ne 11, 3) := by decide +kernel
theorem dL_does_143 : decode cL_does 143 = .ok (.aload_n 0, 1) := by decide +kernel
theorem dL_does_144 : decode cL_does 144 = .ok (.iload_n 2, 1) := by decide +kernel
theorem dL_does_145 : decode cL_does 145 = .ok (.invokevirtual 42, 3) := by decide +kernel
theorem dL_does_148 : decode cL_does 148 = .ok (.goto 120, 3) := by decide +kernel
theorem dL_does_151 : decode cL_does 151 = .ok (.iload_n 1, 1) := by decide +kernel
theorem dL_does_152 : decode cL_does 152 = .ok (.bipush 9, 2) := by decide +kernel
theorem dL_does_154 : decode cL_does 154 = .ok (.if_icmp .ne 11, 3) := by decide +kernel
theorem dL_does_157 : decode cL_does 157 = .ok (.aload_n 0, 1) := by decide +kernel
theorem dL_does_158 : decode cL_does 158 = .ok (.iload_n 2, 1) := by decide +kernel
theorem dL_does_159 : decode cL_does 159 = .ok (.invokevirtual 46, 3) := by decide +kernel
theorem dL_does_162 : decode cL_does 162 = .ok (.goto 106, 3) := by decide +kernel
theorem dL_does_165 : decode cL_does 165 = .ok (.iload_n 1, 1) := by decide +kernel
theorem dL_does_166 : decode cL_does 166 = .ok (.bipush 10, 2) := by decide +kernel
theorem dL_does_168 : decode cL_does 168 = .ok (.if_icmp .ne 16, 3) := by decide +kernel
theorem dL_does_171 : decode cL_does 171 = .ok (.aload_n 0, 1) := by decide +kernel
theorem dL_does_172 : decode cL_does 172 = .ok (.iload_n 2, 1) := by decide +kernel
theorem dL_does_173 : decode cL_does 173 = .ok (.iload_n 3, 1) := by decide +kernel
theorem dL_does_174 : decode cL_does 174 = .ok (.iload 4, 2) := by decide +kernel
theorem dL_does_176 : decode cL_does 176 = .ok (.iload 5, 2) := by decide +kernel
theorem dL_does_178 : decode cL_does 178 = .ok (.invokevirtual 49, 3) := by decide +kernel
theorem dL_does_181 : decode cL_does 181 = .ok (.goto 87, 3) := by decide +kernel
theorem dL_does_184 : decode cL_does 184 = .ok (.iload_n 1, 1) := by decide +kernel
theorem dL_does_185 : decode cL_does 185 = .ok (.bipush 11, 2) := by decide +kernel
theorem dL_does_187 : decode cL_does 187 = .ok (.if_icmp .ne 12, 3) := by decide +kernel
theorem dL_does_190 : decode cL_does 190 = .ok (.aload_n 0, 1) := by decide +kernel
theorem dL_does_191 : decode cL_does 191 = .ok (.iload_n 2, 1) := by decide +kernel
theorem dL_does_192 : decode cL_does 192 = .ok (.iload_n 3, 1) := by decide +kernel
theorem dL_does_193 : decode cL_does 193 = .ok (.invokevirtual 53, 3) := by decide +kernel
theorem dL_does_196 : decode cL_does 196 = .ok (.goto 72, 3) := by decide +kernel
theorem dL_does_199 : decode cL_does 199 = .ok (.iload_n 1, 1) := by decide +kernel
theorem dL_does_200 : decode cL_does 200 = .ok (.bipush 12, 2) := by decide +kernel
theorem dL_does_202 : decode cL_does 202 = .ok (.if_icmp .ne 14, 3) := by decide +kernel
theorem dL_does_205 : decode cL_does 205 = .ok (.aload_n 0, 1) := by decide +kernel
theorem dL_does_206 : decode cL_does 206 = .ok (.iload_n 2, 1) := by decide +kernel
theorem dL_does_207 : decode cL_does 207 = .ok (.iload_n 3, 1) := by decide +kernel
theorem dL_does_208 : decode cL_does 208 = .ok (.iload 4, 2) := by decide +kernel
theorem dL_does_210 : decode cL_does 210 = .ok (.invokevirtual 56, 3) := by decide +kernel
theorem dL_does_213 : decode cL_does 213 = .ok (.goto 55, 3) := by decide +kernel
theorem dL_does_216 : decode cL_does 216 = .ok (.iload_n 1, 1) := by decide +kernel
theorem dL_does_217 : decode cL_does 217 = .ok (.bipush 13, 2) := by decide +kernel
theorem dL_does_219 : decode cL_does 219 = .ok (.if_icmp .ne 14, 3) := by decide +kernel
theorem dL_does_222 : decode cL_does 222 = .ok (.aload_n 0, 1) := by decide +kernel
theorem dL_does_223 : decode cL_does 223 = .ok (.iload_n 2, 1) := by decide +kernel
theorem dL_does_224 : decode cL_does 224 = .ok (.iload_n 3, 1) := by decide +kernel
theorem dL_does_225 : decode cL_does 225 = .ok (.iload 4, 2) := by decide +kernel
theorem dL_does_227 : decode cL_does 227 = .ok (.invokevirtual 59, 3) := by decide +kernel
theorem dL_does_230 : decode cL_does 230 = .ok (.goto 38, 3) := by decide +kernel
theorem dL_does_233 : decode cL_does 233 = .ok (.iload_n 1, 1) := by decide +kernel
theorem dL_does_234 : decode cL_does 234 = .ok (.bipush 14, 2) := by decide +kernel
theorem dL_does_236 : decode cL_does 236 = .ok (.if_icmp .ne 12, 3) := by decide +kernel
theorem dL_does_239 : decode cL_does 239 = .ok (.aload_n 0, 1) := by decide +kernel
theorem dL_does_240 : decode cL_does 240 = .ok (.iload_n 2, 1) := by decide +kernel
theorem dL_does_241 : decode cL_does 241 = .ok (.iconst 0, 1) := by decide +kernel
theorem dL_does_242 : decode cL_does 242 = .ok (.invokevirtual 62, 3) := by decide +kernel
theorem dL_does_245 : decode cL_does 245 = .ok (.goto 23, 3) := by decide +kernel
theorem dL_does_248 : decode cL_does 248 = .ok (.iload_n 1, 1) := by decide +kernel
theorem dL_does_249 : decode cL_does 249 = .ok (.bipush 15, 2) := by decide +kernel
theorem dL_does_251 : decode cL_does 251 = .ok (.if_icmp .ne 11, 3) := by decide +kernel
theorem dL_does_254 : decode cL_does 254 = .ok (.aload_n 0, 1) := by decide +kernel
theorem dL_does_255 : decode cL_does 255 = .ok (.iload_n 2, 1) := by decide +kernel
theorem dL_does_256 : decode cL_does 256 = .ok (.invokevirtual 66, 3) := by decide +kernel
theorem dL_does_259 : decode cL_does 259 = .ok (.goto 9, 3) := by decide +kernel
theorem dL_does_262 : decode cL_does 262 = .ok (.aload_n 0, 1) := by decide +kernel
theorem dL_does_263 : decode cL_does 263 = .ok (.iload_n 2, 1) := by decide +kernel
theorem dL_does_264 : decode cL_does 264 = .ok (.iload_n 3, 1) := by decide +kernel
theorem dL_does_265 : decode cL_does 265 = .ok (.invokevirtual 69, 3) := by decide +kernel
theorem dL_does_268 : decode cL_does 268 = .ok (.ireturn, 1) := by decide +kernel
theorem dL_does_269 : decode cL_does 269 = .ok (.astore 7, 2) := by decide +kernel
theorem dL_does_271 : decode cL_does 271 = .ok (.sipush (-3000), 3) := by decide +kernel
theorem dL_does_274 : decode cL_does 274 = .ok (.ireturn, 1) := by decide +kernel
theorem dL_does_275 : decode cL_does 275 = .ok (.astore 7, 2) := by decide +kernel
theorem dL_does_277 : decode cL_does 277 = .ok (.sipush (-2000), 3) := by decide +kernel
theorem dL_does_280 : decode cL_does 280 = .ok (.ireturn, 1) := by decide +kernel
theorem dL_does_281 : decode cL_does 281 = .ok (.astore 7, 2) := by decide +kernel
theorem dL_does_283 : decode cL_does 283 = .ok (.sipush (-1000), 3) := by decide +kernel
theorem dL_does_286 : decode cL_does 286 = .ok (.ireturn, 1) := by decide +kernel
set_option maxRecDepth 20000 in
theorem ggL_plained_X5_plain : GoodIn wsL_plained wsX5_plain := goodIn_ca (goodIn_r _ [5, 6, 7, 8, 4, 9, 10, 11, 12, 13, 14, 15, 16, 17, 18, 19, 20, 21, 22, 23, 24, 25, 26, 27, 28, 29, 30, 31, 32, 33, 34, 35, 36, 37, 38, 39, 40, 41, 42] (by decide +kernel) (by decide +kernel)) (goodIn_sub (fun _ h => List.mem_cons_of_mem _ (List.mem_append_right _ h)) (by decide +kernel))
set_option maxRecDepth 20000 in
theorem gL_plained_X5_plain : GoodIn wsL_plained (wsV RL 78 RX5 yX5_plain wsX5_plain) := goodIn_app (goodIn_of _ (by decide +kernel)) ggL_plained_X5_plain
theorem dL_plained_0 : decode cL_plained 0 = .ok (.aload_n 0, 1) := by decide +kernel
theorem dL_plained_1 : decode cL_plained 1 = .ok (.iload_n 1, 1) := by decide +kernel
theorem dL_plained_2 : decode cL_plained 2 = .ok (.iload_n 2, 1) := by decide +kernel
theorem dL_plained_3 : decode cL_plained 3 = .ok (.iload_n 3, 1) := by decide +kernel
theorem dL_plained_4 : decode cL_plained 4 = .ok (.invokevirtual 78, 3) := by decide +kernel
theorem dL_plained_7 : decode cL_plained 7 = .ok (.iconst 0, 1) := by decide +kernel
theorem dL_plained_8 : decode cL_plained 8 = .ok (.ireturn, 1) := by decide +kernel
set_option maxRecDepth 20000 in
theorem ggL_trunked_X5_trunk : GoodIn wsL_trunked wsX5_trunk := goodIn_ca (goodIn_ca (goodIn_r _ [5, 6, 7, 8, 4, 9, 10, 11, 12, 13, 14, 15, 16, 17, 18, 19, 20, 21, 22, 23, 24, 25, 26, 27, 28, 29, 30, 31, 32, 33, 34, 35, 36, 37, 38, 39, 40, 41, 42, 43, 44] (by decide +kernel) (by decide +kernel)) (goodIn_sub (fun _ h => List.mem_cons_of_mem _ (List.mem_append_left _ (List.mem_append_right _ h))) (by decide +kernel))) (goodIn_sub (fun _ h => List.mem_cons_of_mem _ (List.mem_append_right _ h)) (by decide +kernel))
set_option maxRecDepth 20000 in
theorem gL_trunked_X5_trunk : GoodIn wsL_trunked (wsV RL 82 RX5 yX5_trunk wsX5_trunk) := goodIn_app (goodIn_of _ (by decide +kernel)) ggL_trunked_X5_trunk
theorem dL_trunked_0 : decode cL_trunked 0 = .ok (.aload_n 0, 1) := by decide +kernel
theorem dL_trunked_1 : decode cL_trunked 1 = .ok (.iload_n 1, 1) := by decide +kernel
theorem dL_trunked_2 : decode cL_trunked 2 = .ok (.iload_n 2, 1) := by decide +kernel
theorem dL_trunked_3 : decode cL_trunked 3 = .ok (.iload_n 3, 1) := by decide +kernel
theorem dL_trunked_4 : decode cL_trunked 4 = .ok (.iload 4, 2) := by decide +kernel
theorem dL_trunked_6 : decode cL_trunked 6 = .ok (.invokevirtual 82, 3) := by decide +kernel
theorem dL_trunked_9 : decode cL_trunked 9 = .ok (.iconst 0, 1) := by decide +kernel
theorem dL_trunked_10 : decode cL_trunked 10 = .ok (.ireturn, 1) := by decide +kernel
set_option maxRecDepth 20000 in
theorem ggL_isPassable_X5_port : GoodIn wsL_isPassable wsX5_port := goodIn_ca (goodIn_ca (goodIn_r _ [5, 6, 7, 8, 9, 10, 11, 12, 13, 4, 14, 15, 16, 17, 18, 19, 20, 21, 22, 23, 24, 25, 26, 27, 28, 29, 30, 31, 32, 33, 34, 35, 36, 37, 38, 39, 40, 41, 42, 43, 44, 45, 46, 47, 48, 49, 50, 51, 52, 53, 54] (by decide +kernel) (by decide +kernel)) (goodIn_sub (fun _ h => List.mem_cons_of_mem _ (List.mem_append_left _ (List.mem_append_right _ h))) (by decide +kernel))) (goodIn_sub (fun _ h => List.mem_cons_of_mem _ (List.mem_append_right _ h)) (by decide +kernel))
set_option maxRecDepth 20000 in
theorem gL_isPassable_X5_port : GoodIn wsL_isPassable (wsV RL 56 RX5 yX5_port wsX5_port) := goodIn_app (goodIn_of _ (by decide +kernel)) ggL_isPassable_X5_port
theorem dL_isPassable_0 : decode cL_isPassable 0 = .ok (.aload_n 1, 1) := by decide +kernel
theorem dL_isPassable_1 : decode cL_isPassable 1 = .ok (.iload_n 2, 1) := by decide +kernel
theorem dL_isPassable_2 : decode cL_isPassable 2 = .ok (.iaload, 1) := by decide +kernel
theorem dL_isPassable_3 : decode cL_isPassable 3 = .ok (.ifCond .lt 47, 3) := by decide +kernel
theorem dL_isPassable_6 : decode cL_isPassable 6 = .ok (.aload_n 1, 1) := by decide +kernel
theorem dL_isPassable_7 : decode cL_isPassable 7 = .ok (.iload_n 2, 1) := by decide +kernel
theorem dL_isPassable_8 : decode cL_isPassable 8 = .ok (.iaload, 1) := by decide +kernel
theorem dL_isPassable_9 : decode cL_isPassable 9 = .ok (.bipush 100, 2) := by decide +kernel
theorem dL_isPassable_11 : decode cL_isPassable 11 = .ok (.if_icmp .ge 39, 3) := by decide +kernel
theorem dL_isPassable_14 : decode cL_isPassable 14 = .ok (.aload_n 0, 1) := by decide +kernel
theorem dL_isPassable_15 : decode cL_isPassable 15 = .ok (.iload_n 2, 1) := by decide +kernel
theorem dL_isPassable_16 : decode cL_isPassable 16 = .ok (.iconst 5, 1) := by decide +kernel
theorem dL_isPassable_17 : decode cL_isPassable 17 = .ok (.idiv, 1) := by decide +kernel
theorem dL_isPassable_18 : decode cL_isPassable 18 = .ok (.iload_n 2, 1) := by decide +kernel
theorem dL_isPassable_19 : decode cL_isPassable 19 = .ok (.iconst 5, 1) := by decide +kernel
theorem dL_isPassable_20 : decode cL_isPassable 20 = .ok (.irem, 1) := by decide +kernel
theorem dL_isPassable_21 : decode cL_isPassable 21 = .ok (.iconst 2, 1) := by decide +kernel
theorem dL_isPassable_22 : decode cL_isPassable 22 = .ok (.invokevirtual 56, 3) := by decide +kernel
theorem dL_isPassable_25 : decode cL_isPassable 25 = .ok (.ifCond .ne 25, 3) := by decide +kernel
theorem dL_isPassable_28 : decode cL_isPassable 28 = .ok (.aload_n 0, 1) := by decide +kernel
theorem dL_isPassable_29 : decode cL_isPassable 29 = .ok (.aload_n 1, 1) := by decide +kernel
theorem dL_isPassable_30 : decode cL_isPassable 30 = .ok (.iload_n 2, 1) := by decide +kernel
theorem dL_isPassable_31 : decode cL_isPassable 31 = .ok (.iaload, 1) := by decide +kernel
theorem dL_isPassable_32 : decode cL_isPassable 32 = .ok (.iconst 5, 1) := by decide +kernel
theorem dL_isPassable_33 : decode cL_isPassable 33 = .ok (.idiv, 1) := by decide +kernel
theorem dL_isPassable_34 : decode cL_isPassable 34 = .ok (.aload_n 1, 1) := by decide +kernel
theorem dL_isPassable_35 : decode cL_isPassable 35 = .ok (.iload_n 2, 1) := by decide +kernel
theorem dL_isPassable_36 : decode cL_isPassable 36 = .ok (.iaload, 1) := by decide +kernel
theorem dL_isPassable_37 : decode cL_isPassable 37 = .ok (.iconst 5, 1) := by decide +kernel
theorem dL_isPassable_38 : decode cL_isPassable 38 = .ok (.irem, 1) := by decide +kernel
theorem dL_isPassable_39 : decode cL_isPassable 39 = .ok (.iconst 2, 1) := by decide +kernel
theorem dL_isPassable_40 : decode cL_isPassable 40 = .ok (.invokevirtual 56, 3) := by decide +kernel
theorem dL_isPassable_43 : decode cL_isPassable 43 = .ok (.ifCond .ne 7, 3) := by decide +kernel
theorem dL_isPassable_46 : decode cL_isPassable 46 = .ok (.iconst 1, 1) := by decide +kernel
theorem dL_isPassable_47 : decode cL_isPassable 47 = .ok (.goto 4, 3) := by decide +kernel
theorem dL_isPassable_50 : decode cL_isPassable 50 = .ok (.iconst 0, 1) := by decide +kernel
theorem dL_isPassable_51 : decode cL_isPassable 51 = .ok (.ireturn, 1) := by decide +kernel
theorem dL_isBetter_0 : decode cL_isBetter 0 = .ok (.aload_n 0, 1) := by decide +kernel
theorem dL_isBetter_1 : decode cL_isBetter 1 = .ok (.iload_n 1, 1) := by decide +kernel
theorem dL_isBetter_2 : decode cL_isBetter 2 = .ok (.iaload, 1) := by decide +kernel
theorem dL_isBetter_3 : decode cL_isBetter 3 = .ok (.aload_n 0, 1) := by decide +kernel
theorem dL_isBetter_4 : decode cL_isBetter 4 = .ok (.iload_n 2, 1) := by decide +kernel
theorem dL_isBetter_5 : decode cL_isBetter 5 = .ok (.iaload, 1) := by decide +kernel
theorem dL_isBetter_6 : decode cL_isBetter 6 = .ok (.if_icmp .lt 17, 3) := by decide +kernel
theorem dL_isBetter_9 : decode cL_isBetter 9 = .ok (.aload_n 0, 1) := by decide +kernel
theorem dL_isBetter_10 : decode cL_isBetter 10 = .ok (.iload_n 1, 1) := by decide +kernel
theorem dL_isBetter_11 : decode cL_isBetter 11 = .ok (.iaload, 1) := by decide +kernel
theorem dL_isBetter_12 : decode cL_isBetter 12 = .ok (.aload_n 0, 1) := by decide +kernel
theorem dL_isBetter_13 : decode cL_isBetter 13 = .ok (.iload_n 2, 1) := by decide +kernel
theorem dL_isBetter_14 : decode cL_isBetter 14 = .ok (.iaload, 1) := by decide +kernel
theorem dL_isBetter_15 : decode cL_isBetter 15 = .ok (.if_icmp .ne 12, 3) := by decide +kernel
theorem dL_isBetter_18 : decode cL_isBetter 18 = .ok (.iload_n 1, 1) := by decide +kernel
theorem dL_isBetter_19 : decode cL_isBetter 19 = .ok (.iload_n 2, 1) := by decide +kernel
theorem dL_isBetter_20 : decode cL_isBetter 20 = .ok (.if_icmp .ge 7, 3) := by decide +kernel
theorem dL_isBetter_23 : decode cL_isBetter 23 = .ok (.iconst 1, 1) := by decide +kernel
theorem dL_isBetter_24 : decode cL_isBetter 24 = .ok (.goto 4, 3) := by decide +kernel
theorem dL_isBetter_27 : decode cL_isBetter 27 = .ok (.iconst 0, 1) := by decide +kernel
theorem dL_isBetter_28 : decode cL_isBetter 28 = .ok (.ireturn, 1) := by decide +kernel
set_option maxRecDepth 20000 in
theorem ggL_found_L_isPassable : GoodIn wsL_found wsL_isPassable := goodIn_ca (goodIn_ca (goodIn_r _ [6, 7, 8, 9, 10, 11, 12, 13, 14, 15, 16, 17, 18, 19, 20, 21, 22, 23, 24, 25, 26, 27, 28, 29, 30, 31, 32, 33, 34, 38, 39, 40, 41, 42, 43, 44, 45, 46, 47, 48, 49, 50, 51, 52, 53, 54, 55, 56, 57, 58, 59, 60, 61, 62, 63] (by decide +kernel) (by decide +kernel)) (goodIn_sub (fun _ h => List.mem_cons_of_mem _ (List.mem_append_left _ (List.mem_append_right _ h))) (by decide +kernel))) (goodIn_sub (fun _ h => List.mem_cons_of_mem _ (List.mem_append_right _ h)) (by decide +kernel))
set_option maxRecDepth 20000 in
theorem gL_found_L_isPassable : GoodIn wsL_found (va_wsS RL 87 yL_isPassable wsL_isPassable) := goodIn_app (goodIn_of _ (by decide +kernel)) ggL_found_L_isPassable
set_option maxRecDepth 20000 in
theorem ggL_found_L_isBetter : GoodIn wsL_found wsL_isBetter := goodIn_r _ [37] (by decide +kernel) (by decide +kernel)
set_option maxRecDepth 20000 in
theorem gL_found_L_isBetter : GoodIn wsL_found (va_wsS RL 91 yL_isBetter wsL_isBetter) := goodIn_app (goodIn_of _ (by decide +kernel)) ggL_found_L_isBetter
theorem dL_found_0 : decode cL_found 0 = .ok (.bipush 6, 2) := by decide +kernel
theorem dL_found_2 : decode cL_found 2 = .ok (.newarray .int, 2) := by decide +kernel
theorem dL_found_4 : decode cL_found 4 = .ok (.astore 5, 2) := by decide +kernel
theorem dL_found_6 : decode cL_found 6 = .ok (.iconst 0, 1) := by decide +kernel
theorem dL_found_7 : decode cL_found 7 = .ok (.istore 6, 2) := by decide +kernel
theorem dL_found_9 : decode cL_found 9 = .ok (.iload 6, 2) := by decide +kernel
theorem dL_found_11 : decode cL_found 11 = .ok (.bipush 6, 2) := by decide +kernel
theorem dL_found_13 : decode cL_found 13 = .ok (.if_icmp .ge 27, 3) := by decide +kernel
theorem dL_found_16 : decode cL_found 16 = .ok (.aload 5, 2) := by decide +kernel
theorem dL_found_18 : decode cL_found 18 = .ok (.iload 6, 2) := by decide +kernel
theorem dL_found_20 : decode cL_found 20 = .ok (.iload 6, 2) := by decide +kernel
theorem dL_found_22 : decode cL_found 22 = .ok (.iload 4, 2) := by decide +kernel
theorem dL_found_24 : decode cL_found 24 = .ok (.if_icmp .ne 7, 3) := by decide +kernel
theorem dL_found_27 : decode cL_found 27 = .ok (.iconst 0, 1) := by decide +kernel
theorem dL_found_28 : decode cL_found 28 = .ok (.goto 5, 3) := by decide +kernel
theorem dL_found_31 : decode cL_found 31 = .ok (.ldc 86, 2) := by decide +kernel
theorem dL_found_33 : decode cL_found 33 = .ok (.iastore, 1) := by decide +kernel
theorem dL_found_34 : decode cL_found 34 = .ok (.iinc 6 1, 3) := by decide +kernel
theorem dL_found_37 : decode cL_found 37 = .ok (.goto (-28), 3) := by decide +kernel
theorem dL_found_40 : decode cL_found 40 = .ok (.iconst 0, 1) := by decide +kernel
theorem dL_found_41 : decode cL_found 41 = .ok (.istore 6, 2) := by decide +kernel
theorem dL_found_43 : decode cL_found 43 = .ok (.iload 6, 2) := by decide +kernel
theorem dL_found_45 : decode cL_found 45 = .ok (.sipush 180, 3) := by decide +kernel
theorem dL_found_48 : decode cL_found 48 = .ok (.if_icmp .ge 77, 3) := by decide +kernel
theorem dL_found_51 : decode cL_found 51 = .ok (.iload 6, 2) := by decide +kernel
theorem dL_found_53 : decode cL_found 53 = .ok (.bipush 30, 2) := by decide +kernel
theorem dL_found_55 : decode cL_found 55 = .ok (.irem, 1) := by decide +kernel
theorem dL_found_56 : decode cL_found 56 = .ok (.istore 7, 2) := by decide +kernel
theorem dL_found_58 : decode cL_found 58 = .ok (.aload_n 0, 1) := by decide +kernel
theorem dL_found_59 : decode cL_found 59 = .ok (.aload_n 1, 1) := by decide +kernel
theorem dL_found_60 : decode cL_found 60 = .ok (.iload 7, 2) := by decide +kernel
theorem dL_found_62 : decode cL_found 62 = .ok (.invokestatic 87, 3) := by decide +kernel
theorem dL_found_65 : decode cL_found 65 = .ok (.ifCond .eq 54, 3) := by decide +kernel
theorem dL_found_68 : decode cL_found 68 = .ok (.aload 5, 2) := by decide +kernel
theorem dL_found_70 : decode cL_found 70 = .ok (.iload 7, 2) := by decide +kernel
theorem dL_found_72 : decode cL_found 72 = .ok (.iconst 5, 1) := by decide +kernel
theorem dL_found_73 : decode cL_found 73 = .ok (.idiv, 1) := by decide +kernel
theorem dL_found_74 : decode cL_found 74 = .ok (.iaload, 1) := by decide +kernel
theorem dL_found_75 : decode cL_found 75 = .ok (.aload_n 2, 1) := by decide +kernel
theorem dL_found_76 : decode cL_found 76 = .ok (.iload 7, 2) := by decide +kernel
theorem dL_found_78 : decode cL_found 78 = .ok (.iaload, 1) := by decide +kernel
theorem dL_found_79 : decode cL_found 79 = .ok (.iadd, 1) := by decide +kernel
theorem dL_found_80 : decode cL_found 80 = .ok (.istore 8, 2) := by decide +kernel
theorem dL_found_82 : decode cL_found 82 = .ok (.aload 5, 2) := by decide +kernel
theorem dL_found_84 : decode cL_found 84 = .ok (.aload_n 1, 1) := by decide +kernel
theorem dL_found_85 : decode cL_found 85 = .ok (.iload 7, 2) := by decide +kernel
theorem dL_found_87 : decode cL_found 87 = .ok (.iaload, 1) := by decide +kernel
theorem dL_found_88 : decode cL_found 88 = .ok (.iconst 5, 1) := by decide +kernel
theorem dL_found_89 : decode cL_found 89 = .ok (.idiv, 1) := by decide +kernel
theorem dL_found_90 : decode cL_found 90 = .ok (.iload 8, 2) := by decide +kernel
theorem dL_found_92 : decode cL_found 92 = .ok (.aload 5, 2) := by decide +kernel
theorem dL_found_94 : decode cL_found 94 = .ok (.aload_n 1, 1) := by decide +kernel
theorem dL_found_95 : decode cL_found 95 = .ok (.iload 7, 2) := by decide +kernel
theorem dL_found_97 : decode cL_found 97 = .ok (.iaload, 1) := by decide +kernel
theorem dL_found_98 : decode cL_found 98 = .ok (.iconst 5, 1) := by decide +kernel
theorem dL_found_99 : decode cL_found 99 = .ok (.idiv, 1) := by decide +kernel
theorem dL_found_100 : decode cL_found 100 = .ok (.iaload, 1) := by decide +kernel
theorem dL_found_101 : decode cL_found 101 = .ok (.if_icmp .ge 8, 3) := by decide +kernel
theorem dL_found_104 : decode cL_found 104 = .ok (.iload 8, 2) := by decide +kernel
theorem dL_found_106 : decode cL_found 106 = .ok (.goto 12, 3) := by decide +kernel
theorem dL_found_109 : decode cL_found 109 = .ok (.aload 5, 2) := by decide +kernel
theorem dL_found_111 : decode cL_found 111 = .ok (.aload_n 1, 1) := by decide +kernel
theorem dL_found_112 : decode cL_found 112 = .ok (.iload 7, 2) := by decide +kernel
theorem dL_found_114 : decode cL_found 114 = .ok (.iaload, 1) := by decide +kernel
theorem dL_found_115 : decode cL_found 115 = .ok (.iconst 5, 1) := by decide +kernel
theorem dL_found_116 : decode cL_found 116 = .ok (.idiv, 1) := by decide +kernel
theorem dL_found_117 : decode cL_found 117 = .ok (.iaload, 1) := by decide +kernel
theorem dL_found_118 : decode cL_found 118 = .ok (.iastore, 1) := by decide +kernel
theorem dL_found_119 : decode cL_found 119 = .ok (.iinc 6 1, 3) := by decide +kernel
theorem dL_found_122 : decode cL_found 122 = .ok (.goto (-79), 3) := by decide +kernel
theorem dL_found_125 : decode cL_found 125 = .ok (.iload 4, 2) := by decide +kernel
theorem dL_found_127 : decode cL_found 127 = .ok (.istore 6, 2) := by decide +kernel
theorem dL_found_129 : decode cL_found 129 = .ok (.iconst 0, 1) := by decide +kernel
theorem dL_found_130 : decode cL_found 130 = .ok (.istore 7, 2) := by decide +kernel
theorem dL_found_132 : decode cL_found 132 = .ok (.iload 7, 2) := by decide +kernel
theorem dL_found_134 : decode cL_found 134 = .ok (.bipush 6, 2) := by decide +kernel
theorem dL_found_136 : decode cL_found 136 = .ok (.if_icmp .ge 39, 3) := by decide +kernel
theorem dL_found_139 : decode cL_found 139 = .ok (.aload 5, 2) := by decide +kernel
theorem dL_found_141 : decode cL_found 141 = .ok (.iload 7, 2) := by decide +kernel
theorem dL_found_143 : decode cL_found 143 = .ok (.iaload, 1) := by decide +kernel
theorem dL_found_144 : decode cL_found 144 = .ok (.ldc 86, 2) := by decide +kernel
theorem dL_found_146 : decode cL_found 146 = .ok (.if_icmp .ge 19, 3) := by decide +kernel
theorem dL_found_149 : decode cL_found 149 = .ok (.aload_n 3, 1) := by decide +kernel
theorem dL_found_150 : decode cL_found 150 = .ok (.iload 7, 2) := by decide +kernel
theorem dL_found_152 : decode cL_found 152 = .ok (.iload 6, 2) := by decide +kernel
theorem dL_found_154 : decode cL_found 154 = .ok (.invokestatic 91, 3) := by decide +kernel
theorem dL_found_157 : decode cL_found 157 = .ok (.ifCond .eq 8, 3) := by decide +kernel
theorem dL_found_160 : decode cL_found 160 = .ok (.iload 7, 2) := by decide +kernel
theorem dL_found_162 : decode cL_found 162 = .ok (.goto 5, 3) := by decide +kernel
theorem dL_found_165 : decode cL_found 165 = .ok (.iload 6, 2) := by decide +kernel
theorem dL_found_167 : decode cL_found 167 = .ok (.istore 6, 2) := by decide +kernel
theorem dL_found_169 : decode cL_found 169 = .ok (.iinc 7 1, 3) := by decide +kernel
theorem dL_found_172 : decode cL_found 172 = .ok (.goto (-40), 3) := by decide +kernel
theorem dL_found_175 : decode cL_found 175 = .ok (.sipush 1000, 3) := by decide +kernel
theorem dL_found_178 : decode cL_found 178 = .ok (.iload 6, 2) := by decide +kernel
theorem dL_found_180 : decode cL_found 180 = .ok (.imul, 1) := by decide +kernel
theorem dL_found_181 : decode cL_found 181 = .ok (.aload 5, 2) := by decide +kernel
theorem dL_found_183 : decode cL_found 183 = .ok (.iload 6, 2) := by decide +kernel
theorem dL_found_185 : decode cL_found 185 = .ok (.iaload, 1) := by decide +kernel
theorem dL_found_186 : decode cL_found 186 = .ok (.iadd, 1) := by decide +kernel
theorem dL_found_187 : decode cL_found 187 = .ok (.ireturn, 1) := by decide +kernel
set_option maxRecDepth 20000 in
theorem ggL_isTree_X5_holds : GoodIn wsL_isTree wsX5_holds := goodIn_ca (goodIn_ca (goodIn_r _ [5, 6, 7, 8, 9, 10, 11, 12, 13, 14, 15, 16, 4, 17, 18, 19, 51, 52, 53, 54, 55, 56, 57, 58, 59, 60, 61, 62, 63, 64, 65, 66, 67, 68, 69, 70, 71, 72, 73, 74, 75, 76, 77, 78, 79] (by decide +kernel) (by decide +kernel)) (goodIn_sub (fun _ h => List.mem_cons_of_mem _ (List.mem_append_left _ (List.mem_append_right _ h))) (by decide +kernel))) (goodIn_sub (fun _ h => List.mem_cons_of_mem _ (List.mem_append_right _ h)) (by decide +kernel))
set_option maxRecDepth 20000 in
theorem gL_isTree_X5_holds : GoodIn wsL_isTree (wsV RL 53 RX5 yX5_holds wsX5_holds) := goodIn_app (goodIn_of _ (by decide +kernel)) ggL_isTree_X5_holds
set_option maxRecDepth 20000 in
theorem ggL_isTree_L_found : GoodIn wsL_isTree wsL_found := goodIn_ca (goodIn_ca (goodIn_r _ [23, 24, 25, 26, 27, 22, 28, 29, 30, 31, 4, 32, 6, 7, 8, 33, 34, 35, 36, 37, 38, 18, 19, 15, 16, 17, 39, 40, 41, 42, 43, 44, 45, 46, 47, 48, 49, 50, 51, 52, 53, 54, 55, 56, 57, 58, 59, 60, 61, 62, 63, 64, 65, 66, 67, 68, 69, 70, 71, 72, 73, 74, 75, 76] (by decide +kernel) (by decide +kernel)) (goodIn_sub (fun _ h => List.mem_cons_of_mem _ (List.mem_append_left _ (List.mem_append_right _ h))) (by decide +kernel))) (goodIn_sub (fun _ h => List.mem_cons_of_mem _ (List.mem_append_right _ h)) (by decide +kernel))
set_option maxRecDepth 20000 in
theorem gL_isTree_L_found : GoodIn wsL_isTree (va_wsS RL 95 yL_found wsL_found) := goodIn_app (goodIn_of _ (by decide +kernel)) ggL_isTree_L_found
set_option maxRecDepth 20000 in
theorem ggL_isTree_X5_port : GoodIn wsL_isTree wsX5_port := goodIn_ca (goodIn_ca (goodIn_r _ [32, 6, 7, 8, 33, 34, 35, 36, 37, 4, 38, 18, 19, 15, 16, 17, 39, 40, 41, 42, 43, 44, 45, 46, 47, 51, 52, 53, 54, 55, 56, 57, 58, 59, 60, 61, 62, 63, 64, 65, 66, 67, 68, 69, 70, 71, 72, 73, 74, 75, 76] (by decide +kernel) (by decide +kernel)) (goodIn_sub (fun _ h => List.mem_cons_of_mem _ (List.mem_append_left _ (List.mem_append_right _ h))) (by decide +kernel))) (goodIn_sub (fun _ h => List.mem_cons_of_mem _ (List.mem_append_right _ h)) (by decide +kernel))
set_option maxRecDepth 20000 in
theorem gL_isTree_X5_port : GoodIn wsL_isTree (wsV RL 56 RX5 yX5_port wsX5_port) := goodIn_app (goodIn_of _ (by decide +kernel)) ggL_isTree_X5_port
set_option maxRecDepth 20000 in
theorem ggL_isTree_L_isPassable : GoodIn wsL_isTree wsL_isPassable := goodIn_ca (goodIn_ca (goodIn_r _ [28, 29, 30, 31, 4, 32, 6, 7, 8, 33, 34, 35, 36, 37, 38, 18, 19, 15, 16, 17, 39, 40, 41, 42, 43, 44, 45, 46, 47, 51, 52, 53, 54, 55, 56, 57, 58, 59, 60, 61, 62, 63, 64, 65, 66, 67, 68, 69, 70, 71, 72, 73, 74, 75, 76] (by decide +kernel) (by decide +kernel)) (goodIn_sub (fun _ h => List.mem_cons_of_mem _ (List.mem_append_left _ (List.mem_append_right _ h))) (by decide +kernel))) (goodIn_sub (fun _ h => List.mem_cons_of_mem _ (List.mem_append_right _ h)) (by decide +kernel))
set_option maxRecDepth 20000 in
theorem gL_isTree_L_isPassable : GoodIn wsL_isTree (va_wsS RL 87 yL_isPassable wsL_isPassable) := goodIn_app (goodIn_of _ (by decide +kernel)) ggL_isTree_L_isPassable
theorem dL_isTree_0 : decode cL_isTree 0 = .ok (.iconst 1, 1) := by decide +kernel
theorem dL_isTree_1 : decode cL_isTree 1 = .ok (.istore 4, 2) := by decide +kernel
theorem dL_isTree_3 : decode cL_isTree 3 = .ok (.iconst 0, 1) := by decide +kernel
theorem dL_isTree_4 : decode cL_isTree 4 = .ok (.istore 5, 2) := by decide +kernel
theorem dL_isTree_6 : decode cL_isTree 6 = .ok (.iconst 0, 1) := by decide +kernel
theorem dL_isTree_7 : decode cL_isTree 7 = .ok (.istore 6, 2) := by decide +kernel
theorem dL_isTree_9 : decode cL_isTree 9 = .ok (.iconst 0, 1) := by decide +kernel
theorem dL_isTree_10 : decode cL_isTree 10 = .ok (.istore 7, 2) := by decide +kernel
theorem dL_isTree_12 : decode cL_isTree 12 = .ok (.iload 7, 2) := by decide +kernel
theorem dL_isTree_14 : decode cL_isTree 14 = .ok (.bipush 6, 2) := by decide +kernel
theorem dL_isTree_16 : decode cL_isTree 16 = .ok (.if_icmp .ge 211, 3) := by decide +kernel
theorem dL_isTree_19 : decode cL_isTree 19 = .ok (.iload 4, 2) := by decide +kernel
theorem dL_isTree_21 : decode cL_isTree 21 = .ok (.ifCond .eq 206, 3) := by decide +kernel
theorem dL_isTree_24 : decode cL_isTree 24 = .ok (.aload_n 0, 1) := by decide +kernel
theorem dL_isTree_25 : decode cL_isTree 25 = .ok (.iload 7, 2) := by decide +kernel
theorem dL_isTree_27 : decode cL_isTree 27 = .ok (.iconst 0, 1) := by decide +kernel
theorem dL_isTree_28 : decode cL_isTree 28 = .ok (.invokevirtual 53, 3) := by decide +kernel
theorem dL_isTree_31 : decode cL_isTree 31 = .ok (.istore 8, 2) := by decide +kernel
theorem dL_isTree_33 : decode cL_isTree 33 = .ok (.aload_n 0, 1) := by decide +kernel
theorem dL_isTree_34 : decode cL_isTree 34 = .ok (.iload 7, 2) := by decide +kernel
theorem dL_isTree_36 : decode cL_isTree 36 = .ok (.iconst 1, 1) := by decide +kernel
theorem dL_isTree_37 : decode cL_isTree 37 = .ok (.invokevirtual 53, 3) := by decide +kernel
theorem dL_isTree_40 : decode cL_isTree 40 = .ok (.istore 9, 2) := by decide +kernel
theorem dL_isTree_42 : decode cL_isTree 42 = .ok (.aload_n 0, 1) := by decide +kernel
theorem dL_isTree_43 : decode cL_isTree 43 = .ok (.aload_n 1, 1) := by decide +kernel
theorem dL_isTree_44 : decode cL_isTree 44 = .ok (.aload_n 2, 1) := by decide +kernel
theorem dL_isTree_45 : decode cL_isTree 45 = .ok (.aload_n 3, 1) := by decide +kernel
theorem dL_isTree_46 : decode cL_isTree 46 = .ok (.iload 7, 2) := by decide +kernel
theorem dL_isTree_48 : decode cL_isTree 48 = .ok (.invokestatic 95, 3) := by decide +kernel
theorem dL_isTree_51 : decode cL_isTree 51 = .ok (.sipush 1000, 3) := by decide +kernel
theorem dL_isTree_54 : decode cL_isTree 54 = .ok (.iload 8, 2) := by decide +kernel
theorem dL_isTree_56 : decode cL_isTree 56 = .ok (.imul, 1) := by decide +kernel
theorem dL_isTree_57 : decode cL_isTree 57 = .ok (.iload 9, 2) := by decide +kernel
theorem dL_isTree_59 : decode cL_isTree 59 = .ok (.iadd, 1) := by decide +kernel
theorem dL_isTree_60 : decode cL_isTree 60 = .ok (.if_icmp .ne 7, 3) := by decide +kernel
theorem dL_isTree_63 : decode cL_isTree 63 = .ok (.iconst 1, 1) := by decide +kernel
theorem dL_isTree_64 : decode cL_isTree 64 = .ok (.goto 4, 3) := by decide +kernel
theorem dL_isTree_67 : decode cL_isTree 67 = .ok (.iconst 0, 1) := by decide +kernel
theorem dL_isTree_68 : decode cL_isTree 68 = .ok (.istore 4, 2) := by decide +kernel
theorem dL_isTree_70 : decode cL_isTree 70 = .ok (.iload 6, 2) := by decide +kernel
theorem dL_isTree_72 : decode cL_isTree 72 = .ok (.iload 8, 2) := by decide +kernel
theorem dL_isTree_74 : decode cL_isTree 74 = .ok (.iload 7, 2) := by decide +kernel
theorem dL_isTree_76 : decode cL_isTree 76 = .ok (.if_icmp .ne 7, 3) := by decide +kernel
theorem dL_isTree_79 : decode cL_isTree 79 = .ok (.iconst 1, 1) := by decide +kernel
theorem dL_isTree_80 : decode cL_isTree 80 = .ok (.goto 4, 3) := by decide +kernel
theorem dL_isTree_83 : decode cL_isTree 83 = .ok (.iconst 0, 1) := by decide +kernel
theorem dL_isTree_84 : decode cL_isTree 84 = .ok (.iadd, 1) := by decide +kernel
theorem dL_isTree_85 : decode cL_isTree 85 = .ok (.istore 6, 2) := by decide +kernel
theorem dL_isTree_87 : decode cL_isTree 87 = .ok (.aload_n 0, 1) := by decide +kernel
theorem dL_isTree_88 : decode cL_isTree 88 = .ok (.iload 7, 2) := by decide +kernel
theorem dL_isTree_90 : decode cL_isTree 90 = .ok (.iconst 3, 1) := by decide +kernel
theorem dL_isTree_91 : decode cL_isTree 91 = .ok (.invokevirtual 53, 3) := by decide +kernel
theorem dL_isTree_94 : decode cL_isTree 94 = .ok (.istore 10, 2) := by decide +kernel
theorem dL_isTree_96 : decode cL_isTree 96 = .ok (.iload 4, 2) := by decide +kernel
theorem dL_isTree_98 : decode cL_isTree 98 = .ok (.ifCond .eq 120, 3) := by decide +kernel
theorem dL_isTree_101 : decode cL_isTree 101 = .ok (.iload 10, 2) := by decide +kernel
theorem dL_isTree_103 : decode cL_isTree 103 = .ok (.ifCond .ge 7, 3) := by decide +kernel
theorem dL_isTree_106 : decode cL_isTree 106 = .ok (.iconst 1, 1) := by decide +kernel
theorem dL_isTree_107 : decode cL_isTree 107 = .ok (.goto 4, 3) := by decide +kernel
theorem dL_isTree_110 : decode cL_isTree 110 = .ok (.iconst 0, 1) := by decide +kernel
theorem dL_isTree_111 : decode cL_isTree 111 = .ok (.iload 8, 2) := by decide +kernel
theorem dL_isTree_113 : decode cL_isTree 113 = .ok (.iload 7, 2) := by decide +kernel
theorem dL_isTree_115 : decode cL_isTree 115 = .ok (.if_icmp .ne 7, 3) := by decide +kernel
theorem dL_isTree_118 : decode cL_isTree 118 = .ok (.iconst 1, 1) := by decide +kernel
theorem dL_isTree_119 : decode cL_isTree 119 = .ok (.goto 4, 3) := by decide +kernel
theorem dL_isTree_122 : decode cL_isTree 122 = .ok (.iconst 0, 1) := by decide +kernel
theorem dL_isTree_123 : decode cL_isTree 123 = .ok (.if_icmp .ne 95, 3) := by decide +kernel
theorem dL_isTree_126 : decode cL_isTree 126 = .ok (.iload 10, 2) := by decide +kernel
theorem dL_isTree_128 : decode cL_isTree 128 = .ok (.ifCond .lt 86, 3) := by decide +kernel
theorem dL_isTree_131 : decode cL_isTree 131 = .ok (.aload_n 1, 1) := by decide +kernel
theorem dL_isTree_132 : decode cL_isTree 132 = .ok (.iconst 5, 1) := by decide +kernel
theorem dL_isTree_133 : decode cL_isTree 133 = .ok (.iload 7, 2) := by decide +kernel
theorem dL_isTree_135 : decode cL_isTree 135 = .ok (.imul, 1) := by decide +kernel
theorem dL_isTree_136 : decode cL_isTree 136 = .ok (.iload 10, 2) := by decide +kernel
theorem dL_isTree_138 : decode cL_isTree 138 = .ok (.iadd, 1) := by decide +kernel
theorem dL_isTree_139 : decode cL_isTree 139 = .ok (.iaload, 1) := by decide +kernel
theorem dL_isTree_140 : decode cL_isTree 140 = .ok (.ifCond .lt 78, 3) := by decide +kernel
theorem dL_isTree_143 : decode cL_isTree 143 = .ok (.aload_n 1, 1) := by decide +kernel
theorem dL_isTree_144 : decode cL_isTree 144 = .ok (.iconst 5, 1) := by decide +kernel
theorem dL_isTree_145 : decode cL_isTree 145 = .ok (.iload 7, 2) := by decide +kernel
theorem dL_isTree_147 : decode cL_isTree 147 = .ok (.imul, 1) := by decide +kernel
theorem dL_isTree_148 : decode cL_isTree 148 = .ok (.iload 10, 2) := by decide +kernel
theorem dL_isTree_150 : decode cL_isTree 150 = .ok (.iadd, 1) := by decide +kernel
theorem dL_isTree_151 : decode cL_isTree 151 = .ok (.iaload, 1) := by decide +kernel
theorem dL_isTree_152 : decode cL_isTree 152 = .ok (.bipush 100, 2) := by decide +kernel
theorem dL_isTree_154 : decode cL_isTree 154 = .ok (.if_icmp .ge 64, 3) := by decide +kernel
theorem dL_isTree_157 : decode cL_isTree 157 = .ok (.aload_n 0, 1) := by decide +kernel
theorem dL_isTree_158 : decode cL_isTree 158 = .ok (.iload 7, 2) := by decide +kernel
theorem dL_isTree_160 : decode cL_isTree 160 = .ok (.iload 10, 2) := by decide +kernel
theorem dL_isTree_162 : decode cL_isTree 162 = .ok (.iconst 0, 1) := by decide +kernel
theorem dL_isTree_163 : decode cL_isTree 163 = .ok (.invokevirtual 56, 3) := by decide +kernel
theorem dL_isTree_166 : decode cL_isTree 166 = .ok (.iconst 1, 1) := by decide +kernel
theorem dL_isTree_167 : decode cL_isTree 167 = .ok (.if_icmp .ne 51, 3) := by decide +kernel
theorem dL_isTree_170 : decode cL_isTree 170 = .ok (.aload_n 0, 1) := by decide +kernel
theorem dL_isTree_171 : decode cL_isTree 171 = .ok (.iload 7, 2) := by decide +kernel
theorem dL_isTree_173 : decode cL_isTree 173 = .ok (.iload 10, 2) := by decide +kernel
theorem dL_isTree_175 : decode cL_isTree 175 = .ok (.iconst 1, 1) := by decide +kernel
theorem dL_isTree_176 : decode cL_isTree 176 = .ok (.invokevirtual 56, 3) := by decide +kernel
theorem dL_isTree_179 : decode cL_isTree 179 = .ok (.iconst 1, 1) := by decide +kernel
theorem dL_isTree_180 : decode cL_isTree 180 = .ok (.if_icmp .ne 38, 3) := by decide +kernel
theorem dL_isTree_183 : decode cL_isTree 183 = .ok (.aload_n 0, 1) := by decide +kernel
theorem dL_isTree_184 : decode cL_isTree 184 = .ok (.aload_n 1, 1) := by decide +kernel
theorem dL_isTree_185 : decode cL_isTree 185 = .ok (.iconst 5, 1) := by decide +kernel
theorem dL_isTree_186 : decode cL_isTree 186 = .ok (.iload 7, 2) := by decide +kernel
theorem dL_isTree_188 : decode cL_isTree 188 = .ok (.imul, 1) := by decide +kernel
theorem dL_isTree_189 : decode cL_isTree 189 = .ok (.iload 10, 2) := by decide +kernel
theorem dL_isTree_191 : decode cL_isTree 191 = .ok (.iadd, 1) := by decide +kernel
theorem dL_isTree_192 : decode cL_isTree 192 = .ok (.iaload, 1) := by decide +kernel
theorem dL_isTree_193 : decode cL_isTree 193 = .ok (.iconst 5, 1) := by decide +kernel
theorem dL_isTree_194 : decode cL_isTree 194 = .ok (.idiv, 1) := by decide +kernel
theorem dL_isTree_195 : decode cL_isTree 195 = .ok (.iconst 1, 1) := by decide +kernel
theorem dL_isTree_196 : decode cL_isTree 196 = .ok (.invokevirtual 53, 3) := by decide +kernel
theorem dL_isTree_199 : decode cL_isTree 199 = .ok (.aload_n 2, 1) := by decide +kernel
theorem dL_isTree_200 : decode cL_isTree 200 = .ok (.iconst 5, 1) := by decide +kernel
theorem dL_isTree_201 : decode cL_isTree 201 = .ok (.iload 7, 2) := by decide +kernel
theorem dL_isTree_203 : decode cL_isTree 203 = .ok (.imul, 1) := by decide +kernel
theorem dL_isTree_204 : decode cL_isTree 204 = .ok (.iload 10, 2) := by decide +kernel
theorem dL_isTree_206 : decode cL_isTree 206 = .ok (.iadd, 1) := by decide +kernel
theorem dL_isTree_207 : decode cL_isTree 207 = .ok (.iaload, 1) := by decide +kernel
theorem dL_isTree_208 : decode cL_isTree 208 = .ok (.iadd, 1) := by decide +kernel
theorem dL_isTree_209 : decode cL_isTree 209 = .ok (.iload 9, 2) := by decide +kernel
theorem dL_isTree_211 : decode cL_isTree 211 = .ok (.if_icmp .ne 7, 3) := by decide +kernel
theorem dL_isTree_214 : decode cL_isTree 214 = .ok (.iconst 1, 1) := by decide +kernel
theorem dL_isTree_215 : decode cL_isTree 215 = .ok (.goto 4, 3) := by decide +kernel
theorem dL_isTree_218 : decode cL_isTree 218 = .ok (.iconst 0, 1) := by decide +kernel
theorem dL_isTree_219 : decode cL_isTree 219 = .ok (.istore 4, 2) := by decide +kernel
theorem dL_isTree_221 : decode cL_isTree 221 = .ok (.iinc 7 1, 3) := by decide +kernel
theorem dL_isTree_224 : decode cL_isTree 224 = .ok (.goto (-212), 3) := by decide +kernel
theorem dL_isTree_227 : decode cL_isTree 227 = .ok (.iconst 0, 1) := by decide +kernel
theorem dL_isTree_228 : decode cL_isTree 228 = .ok (.istore 7, 2) := by decide +kernel
theorem dL_isTree_230 : decode cL_isTree 230 = .ok (.iload 7, 2) := by decide +kernel
theorem dL_isTree_232 : decode cL_isTree 232 = .ok (.bipush 30, 2) := by decide +kernel
theorem dL_isTree_234 : decode cL_isTree 234 = .ok (.if_icmp .ge 159, 3) := by decide +kernel
theorem dL_isTree_237 : decode cL_isTree 237 = .ok (.iload 4, 2) := by decide +kernel
theorem dL_isTree_239 : decode cL_isTree 239 = .ok (.ifCond .eq 154, 3) := by decide +kernel
theorem dL_isTree_242 : decode cL_isTree 242 = .ok (.aload_n 1, 1) := by decide +kernel
theorem dL_isTree_243 : decode cL_isTree 243 = .ok (.iload 7, 2) := by decide +kernel
theorem dL_isTree_245 : decode cL_isTree 245 = .ok (.iaload, 1) := by decide +kernel
theorem dL_isTree_246 : decode cL_isTree 246 = .ok (.ifCond .lt 16, 3) := by decide +kernel
theorem dL_isTree_249 : decode cL_isTree 249 = .ok (.aload_n 1, 1) := by decide +kernel
theorem dL_isTree_250 : decode cL_isTree 250 = .ok (.iload 7, 2) := by decide +kernel
theorem dL_isTree_252 : decode cL_isTree 252 = .ok (.iaload, 1) := by decide +kernel
theorem dL_isTree_253 : decode cL_isTree 253 = .ok (.bipush 100, 2) := by decide +kernel
theorem dL_isTree_255 : decode cL_isTree 255 = .ok (.if_icmp .ge 7, 3) := by decide +kernel
theorem dL_isTree_258 : decode cL_isTree 258 = .ok (.iconst 1, 1) := by decide +kernel
theorem dL_isTree_259 : decode cL_isTree 259 = .ok (.goto 4, 3) := by decide +kernel
theorem dL_isTree_262 : decode cL_isTree 262 = .ok (.iconst 0, 1) := by decide +kernel
theorem dL_isTree_263 : decode cL_isTree 263 = .ok (.istore 8, 2) := by decide +kernel
theorem dL_isTree_265 : decode cL_isTree 265 = .ok (.iload 5, 2) := by decide +kernel
theorem dL_isTree_267 : decode cL_isTree 267 = .ok (.iload 8, 2) := by decide +kernel
theorem dL_isTree_269 : decode cL_isTree 269 = .ok (.ifCond .eq 54, 3) := by decide +kernel
theorem dL_isTree_272 : decode cL_isTree 272 = .ok (.aload_n 0, 1) := by decide +kernel
theorem dL_isTree_273 : decode cL_isTree 273 = .ok (.iload 7, 2) := by decide +kernel
theorem dL_isTree_275 : decode cL_isTree 275 = .ok (.iconst 5, 1) := by decide +kernel
theorem dL_isTree_276 : decode cL_isTree 276 = .ok (.idiv, 1) := by decide +kernel
theorem dL_isTree_277 : decode cL_isTree 277 = .ok (.iload 7, 2) := by decide +kernel
theorem dL_isTree_279 : decode cL_isTree 279 = .ok (.iconst 5, 1) := by decide +kernel
theorem dL_isTree_280 : decode cL_isTree 280 = .ok (.irem, 1) := by decide +kernel
theorem dL_isTree_281 : decode cL_isTree 281 = .ok (.iconst 0, 1) := by decide +kernel
theorem dL_isTree_282 : decode cL_isTree 282 = .ok (.invokevirtual 56, 3) := by decide +kernel
theorem dL_isTree_285 : decode cL_isTree 285 = .ok (.iconst 1, 1) := by decide +kernel
theorem dL_isTree_286 : decode cL_isTree 286 = .ok (.if_icmp .ne 37, 3) := by decide +kernel
theorem dL_isTree_289 : decode cL_isTree 289 = .ok (.aload_n 0, 1) := by decide +kernel
theorem dL_isTree_290 : decode cL_isTree 290 = .ok (.aload_n 1, 1) := by decide +kernel
theorem dL_isTree_291 : decode cL_isTree 291 = .ok (.iload 7, 2) := by decide +kernel
theorem dL_isTree_293 : decode cL_isTree 293 = .ok (.iaload, 1) := by decide +kernel
theorem dL_isTree_294 : decode cL_isTree 294 = .ok (.iconst 5, 1) := by decide +kernel
theorem dL_isTree_295 : decode cL_isTree 295 = .ok (.idiv, 1) := by decide +kernel
theorem dL_isTree_296 : decode cL_isTree 296 = .ok (.aload_n 1, 1) := by decide +kernel
theorem dL_isTree_297 : decode cL_isTree 297 = .ok (.iload 7, 2) := by decide +kernel
theorem dL_isTree_299 : decode cL_isTree 299 = .ok (.iaload, 1) := by decide +kernel
theorem dL_isTree_300 : decode cL_isTree 300 = .ok (.iconst 5, 1) := by decide +kernel
theorem dL_isTree_301 : decode cL_isTree 301 = .ok (.irem, 1) := by decide +kernel
theorem dL_isTree_302 : decode cL_isTree 302 = .ok (.iconst 0, 1) := by decide +kernel
theorem dL_isTree_303 : decode cL_isTree 303 = .ok (.invokevirtual 56, 3) := by decide +kernel
theorem dL_isTree_306 : decode cL_isTree 306 = .ok (.iconst 1, 1) := by decide +kernel
theorem dL_isTree_307 : decode cL_isTree 307 = .ok (.if_icmp .ne 16, 3) := by decide +kernel
theorem dL_isTree_310 : decode cL_isTree 310 = .ok (.iload 7, 2) := by decide +kernel
theorem dL_isTree_312 : decode cL_isTree 312 = .ok (.aload_n 1, 1) := by decide +kernel
theorem dL_isTree_313 : decode cL_isTree 313 = .ok (.iload 7, 2) := by decide +kernel
theorem dL_isTree_315 : decode cL_isTree 315 = .ok (.iaload, 1) := by decide +kernel
theorem dL_isTree_316 : decode cL_isTree 316 = .ok (.if_icmp .ge 7, 3) := by decide +kernel
theorem dL_isTree_319 : decode cL_isTree 319 = .ok (.iconst 1, 1) := by decide +kernel
theorem dL_isTree_320 : decode cL_isTree 320 = .ok (.goto 4, 3) := by decide +kernel
theorem dL_isTree_323 : decode cL_isTree 323 = .ok (.iconst 0, 1) := by decide +kernel
theorem dL_isTree_324 : decode cL_isTree 324 = .ok (.iadd, 1) := by decide +kernel
theorem dL_isTree_325 : decode cL_isTree 325 = .ok (.istore 5, 2) := by decide +kernel
theorem dL_isTree_327 : decode cL_isTree 327 = .ok (.iload 8, 2) := by decide +kernel
theorem dL_isTree_329 : decode cL_isTree 329 = .ok (.ifCond .eq 51, 3) := by decide +kernel
theorem dL_isTree_332 : decode cL_isTree 332 = .ok (.aload_n 0, 1) := by decide +kernel
theorem dL_isTree_333 : decode cL_isTree 333 = .ok (.aload_n 1, 1) := by decide +kernel
theorem dL_isTree_334 : decode cL_isTree 334 = .ok (.iload 7, 2) := by decide +kernel
theorem dL_isTree_336 : decode cL_isTree 336 = .ok (.invokestatic 87, 3) := by decide +kernel
theorem dL_isTree_339 : decode cL_isTree 339 = .ok (.ifCond .eq 41, 3) := by decide +kernel
theorem dL_isTree_342 : decode cL_isTree 342 = .ok (.aload_n 0, 1) := by decide +kernel
theorem dL_isTree_343 : decode cL_isTree 343 = .ok (.iload 7, 2) := by decide +kernel
theorem dL_isTree_345 : decode cL_isTree 345 = .ok (.iconst 5, 1) := by decide +kernel
theorem dL_isTree_346 : decode cL_isTree 346 = .ok (.idiv, 1) := by decide +kernel
theorem dL_isTree_347 : decode cL_isTree 347 = .ok (.iload 7, 2) := by decide +kernel
theorem dL_isTree_349 : decode cL_isTree 349 = .ok (.iconst 5, 1) := by decide +kernel
theorem dL_isTree_350 : decode cL_isTree 350 = .ok (.irem, 1) := by decide +kernel
theorem dL_isTree_351 : decode cL_isTree 351 = .ok (.iconst 1, 1) := by decide +kernel
theorem dL_isTree_352 : decode cL_isTree 352 = .ok (.invokevirtual 56, 3) := by decide +kernel
theorem dL_isTree_355 : decode cL_isTree 355 = .ok (.iconst 2, 1) := by decide +kernel
theorem dL_isTree_356 : decode cL_isTree 356 = .ok (.if_icmp .eq 24, 3) := by decide +kernel
theorem dL_isTree_359 : decode cL_isTree 359 = .ok (.aload_n 0, 1) := by decide +kernel
theorem dL_isTree_360 : decode cL_isTree 360 = .ok (.aload_n 1, 1) := by decide +kernel
theorem dL_isTree_361 : decode cL_isTree 361 = .ok (.iload 7, 2) := by decide +kernel
theorem dL_isTree_363 : decode cL_isTree 363 = .ok (.iaload, 1) := by decide +kernel
theorem dL_isTree_364 : decode cL_isTree 364 = .ok (.iconst 5, 1) := by decide +kernel
theorem dL_isTree_365 : decode cL_isTree 365 = .ok (.idiv, 1) := by decide +kernel
theorem dL_isTree_366 : decode cL_isTree 366 = .ok (.aload_n 1, 1) := by decide +kernel
theorem dL_isTree_367 : decode cL_isTree 367 = .ok (.iload 7, 2) := by decide +kernel
theorem dL_isTree_369 : decode cL_isTree 369 = .ok (.iaload, 1) := by decide +kernel
theorem dL_isTree_370 : decode cL_isTree 370 = .ok (.iconst 5, 1) := by decide +kernel
theorem dL_isTree_371 : decode cL_isTree 371 = .ok (.irem, 1) := by decide +kernel
theorem dL_isTree_372 : decode cL_isTree 372 = .ok (.iconst 1, 1) := by decide +kernel
theorem dL_isTree_373 : decode cL_isTree 373 = .ok (.invokevirtual 56, 3) := by decide +kernel
theorem dL_isTree_376 : decode cL_isTree 376 = .ok (.iconst 2, 1) := by decide +kernel
theorem dL_isTree_377 : decode cL_isTree 377 = .ok (.if_icmp .ne 7, 3) := by decide +kernel
theorem dL_isTree_380 : decode cL_isTree 380 = .ok (.iconst 1, 1) := by decide +kernel
theorem dL_isTree_381 : decode cL_isTree 381 = .ok (.goto 4, 3) := by decide +kernel
theorem dL_isTree_384 : decode cL_isTree 384 = .ok (.iconst 0, 1) := by decide +kernel
theorem dL_isTree_385 : decode cL_isTree 385 = .ok (.istore 4, 2) := by decide +kernel
theorem dL_isTree_387 : decode cL_isTree 387 = .ok (.iinc 7 1, 3) := by decide +kernel
theorem dL_isTree_390 : decode cL_isTree 390 = .ok (.goto (-160), 3) := by decide +kernel
theorem dL_isTree_393 : decode cL_isTree 393 = .ok (.iload 4, 2) := by decide +kernel
theorem dL_isTree_395 : decode cL_isTree 395 = .ok (.ifCond .eq 17, 3) := by decide +kernel
theorem dL_isTree_398 : decode cL_isTree 398 = .ok (.iload 5, 2) := by decide +kernel
theorem dL_isTree_400 : decode cL_isTree 400 = .ok (.bipush 6, 2) := by decide +kernel
theorem dL_isTree_402 : decode cL_isTree 402 = .ok (.iload 6, 2) := by decide +kernel
theorem dL_isTree_404 : decode cL_isTree 404 = .ok (.isub, 1) := by decide +kernel
theorem dL_isTree_405 : decode cL_isTree 405 = .ok (.if_icmp .ne 7, 3) := by decide +kernel
theorem dL_isTree_408 : decode cL_isTree 408 = .ok (.iconst 1, 1) := by decide +kernel
theorem dL_isTree_409 : decode cL_isTree 409 = .ok (.goto 4, 3) := by decide +kernel
theorem dL_isTree_412 : decode cL_isTree 412 = .ok (.iconst 0, 1) := by decide +kernel
theorem dL_isTree_413 : decode cL_isTree 413 = .ok (.ireturn, 1) := by decide +kernel
set_option maxRecDepth 20000 in
theorem ggL_areAll_X5_port : GoodIn wsL_areAll wsX5_port := goodIn_ca (goodIn_ca (goodIn_r _ [5, 6, 7, 8, 9, 10, 11, 12, 13, 4, 14, 15, 16, 17, 18, 19, 20, 21, 22, 23, 24, 25, 26, 27, 28, 105, 106, 107, 108, 109, 110, 111, 112, 113, 114, 115, 116, 117, 118, 119, 120, 121, 122, 123, 124, 125, 126, 127, 128, 129, 130] (by decide +kernel) (by decide +kernel)) (goodIn_sub (fun _ h => List.mem_cons_of_mem _ (List.mem_append_left _ (List.mem_append_right _ h))) (by decide +kernel))) (goodIn_sub (fun _ h => List.mem_cons_of_mem _ (List.mem_append_right _ h)) (by decide +kernel))
set_option maxRecDepth 20000 in
theorem gL_areAll_X5_port : GoodIn wsL_areAll (wsV RL 56 RX5 yX5_port wsX5_port) := goodIn_app (goodIn_of _ (by decide +kernel)) ggL_areAll_X5_port
set_option maxRecDepth 20000 in
theorem ggL_areAll_X5_table : GoodIn wsL_areAll wsX5_table := goodIn_ca (goodIn_r _ [32, 33, 17, 18, 4, 19, 15, 16, 34, 35, 36, 37, 38, 39, 40, 41, 42, 43, 44, 45, 46, 47, 48, 105, 106, 107, 108, 109, 110, 111, 112, 113, 114, 131, 132, 133] (by decide +kernel) (by decide +kernel)) (goodIn_sub (fun _ h => List.mem_cons_of_mem _ (List.mem_append_right _ h)) (by decide +kernel))
set_option maxRecDepth 20000 in
theorem gL_areAll_X5_table : GoodIn wsL_areAll (wsV RL 59 RX5 yX5_table wsX5_table) := goodIn_app (goodIn_of _ (by decide +kernel)) ggL_areAll_X5_table
set_option maxRecDepth 20000 in
theorem ggL_areAll_X5_holds : GoodIn wsL_areAll wsX5_holds := goodIn_ca (goodIn_ca (goodIn_r _ [52, 6, 7, 8, 53, 54, 55, 56, 33, 57, 17, 18, 4, 19, 15, 16, 105, 106, 107, 108, 109, 110, 111, 112, 113, 114, 115, 116, 117, 118, 119, 120, 121, 122, 123, 124, 125, 126, 127, 128, 129, 130, 131, 132, 133] (by decide +kernel) (by decide +kernel)) (goodIn_sub (fun _ h => List.mem_cons_of_mem _ (List.mem_append_left _ (List.mem_append_right _ h))) (by decide +kernel))) (goodIn_sub (fun _ h => List.mem_cons_of_mem _ (List.mem_append_right _ h)) (by decide +kernel))
set_option maxRecDepth 20000 in
theorem gL_areAll_X5_holds : GoodIn wsL_areAll (wsV RL 53 RX5 yX5_holds wsX5_holds) := goodIn_app (goodIn_of _ (by decide +kernel)) ggL_areAll_X5_holds
set_option maxRecDepth 20000 in
theorem ggL_areAll_X5_found : GoodIn wsL_areAll wsX5_found := goodIn_ca (goodIn_r _ [61, 8, 62, 63, 17, 18, 4, 19, 15, 16, 64, 65, 66, 26, 67, 68, 69, 70, 71, 72, 73, 74, 75, 76, 24, 25, 27, 28, 77, 78, 79, 80, 81, 82, 83, 84, 85, 86, 105, 106, 107, 108, 109, 110, 111, 112, 113, 114, 115, 116, 117, 118, 119, 120, 121, 122, 123, 124, 125, 126, 127, 128, 129, 130, 134, 135, 136, 137, 138, 139, 140, 141] (by decide +kernel) (by decide +kernel)) (goodIn_sub (fun _ h => List.mem_cons_of_mem _ (List.mem_append_right _ h)) (by decide +kernel))
set_option maxRecDepth 20000 in
theorem gL_areAll_X5_found : GoodIn wsL_areAll (wsV RL 66 RX5 yX5_found wsX5_found) := goodIn_app (goodIn_of _ (by decide +kernel)) ggL_areAll_X5_found
set_option maxRecDepth 20000 in
theorem ggL_areAll_L_found : GoodIn wsL_areAll wsL_found := goodIn_ca (goodIn_ca (goodIn_r _ [90, 91, 92, 93, 94, 89, 95, 1, 2, 3, 4, 5, 6, 7, 8, 9, 10, 11, 12, 13, 14, 15, 16, 17, 18, 19, 20, 21, 22, 23, 24, 25, 26, 27, 28, 96, 97, 98, 105, 106, 107, 108, 109, 110, 111, 112, 113, 114, 115, 116, 117, 118, 119, 120, 121, 122, 123, 124, 125, 126, 127, 128, 129, 130] (by decide +kernel) (by decide +kernel)) (goodIn_sub (fun _ h => List.mem_cons_of_mem _ (List.mem_append_left _ (List.mem_append_right _ h))) (by decide +kernel))) (goodIn_sub (fun _ h => List.mem_cons_of_mem _ (List.mem_append_right _ h)) (by decide +kernel))
set_option maxRecDepth 20000 in
theorem gL_areAll_L_found : GoodIn wsL_areAll (va_wsS RL 95 yL_found wsL_found) := goodIn_app (goodIn_of _ (by decide +kernel)) ggL_areAll_L_found
set_option maxRecDepth 20000 in
theorem ggL_areAll_X5_got : GoodIn wsL_areAll wsX5_got := goodIn_ca (goodIn_r _ [102, 103, 104, 37, 38, 4, 39, 15, 16, 105, 106, 107, 108, 109, 110, 111, 112, 113, 114] (by decide +kernel) (by decide +kernel)) (goodIn_sub (fun _ h => List.mem_cons_of_mem _ (List.mem_append_right _ h)) (by decide +kernel))
set_option maxRecDepth 20000 in
theorem gL_areAll_X5_got : GoodIn wsL_areAll (wsV RL 62 RX5 yX5_got wsX5_got) := goodIn_app (goodIn_of _ (by decide +kernel)) ggL_areAll_X5_got
theorem dL_areAll_0 : decode cL_areAll 0 = .ok (.iconst 1, 1) := by decide +kernel
theorem dL_areAll_1 : decode cL_areAll 1 = .ok (.istore 6, 2) := by decide +kernel
theorem dL_areAll_3 : decode cL_areAll 3 = .ok (.iconst 0, 1) := by decide +kernel
theorem dL_areAll_4 : decode cL_areAll 4 = .ok (.istore 7, 2) := by decide +kernel
theorem dL_areAll_6 : decode cL_areAll 6 = .ok (.iconst 0, 1) := by decide +kernel
theorem dL_areAll_7 : decode cL_areAll 7 = .ok (.istore 8, 2) := by decide +kernel
theorem dL_areAll_9 : decode cL_areAll 9 = .ok (.iload 8, 2) := by decide +kernel
theorem dL_areAll_11 : decode cL_areAll 11 = .ok (.bipush 30, 2) := by decide +kernel
theorem dL_areAll_13 : decode cL_areAll 13 = .ok (.if_icmp .ge 226, 3) := by decide +kernel
theorem dL_areAll_16 : decode cL_areAll 16 = .ok (.iload 6, 2) := by decide +kernel
theorem dL_areAll_18 : decode cL_areAll 18 = .ok (.ifCond .eq 221, 3) := by decide +kernel
theorem dL_areAll_21 : decode cL_areAll 21 = .ok (.iload 8, 2) := by decide +kernel
theorem dL_areAll_23 : decode cL_areAll 23 = .ok (.iconst 5, 1) := by decide +kernel
theorem dL_areAll_24 : decode cL_areAll 24 = .ok (.idiv, 1) := by decide +kernel
theorem dL_areAll_25 : decode cL_areAll 25 = .ok (.istore 9, 2) := by decide +kernel
theorem dL_areAll_27 : decode cL_areAll 27 = .ok (.aload_n 0, 1) := by decide +kernel
theorem dL_areAll_28 : decode cL_areAll 28 = .ok (.iload 9, 2) := by decide +kernel
theorem dL_areAll_30 : decode cL_areAll 30 = .ok (.iload 8, 2) := by decide +kernel
theorem dL_areAll_32 : decode cL_areAll 32 = .ok (.iconst 5, 1) := by decide +kernel
theorem dL_areAll_33 : decode cL_areAll 33 = .ok (.irem, 1) := by decide +kernel
theorem dL_areAll_34 : decode cL_areAll 34 = .ok (.iconst 0, 1) := by decide +kernel
theorem dL_areAll_35 : decode cL_areAll 35 = .ok (.invokevirtual 56, 3) := by decide +kernel
theorem dL_areAll_38 : decode cL_areAll 38 = .ok (.iconst 1, 1) := by decide +kernel
theorem dL_areAll_39 : decode cL_areAll 39 = .ok (.if_icmp .ne 7, 3) := by decide +kernel
theorem dL_areAll_42 : decode cL_areAll 42 = .ok (.iconst 1, 1) := by decide +kernel
theorem dL_areAll_43 : decode cL_areAll 43 = .ok (.goto 4, 3) := by decide +kernel
theorem dL_areAll_46 : decode cL_areAll 46 = .ok (.iconst 0, 1) := by decide +kernel
theorem dL_areAll_47 : decode cL_areAll 47 = .ok (.istore 10, 2) := by decide +kernel
theorem dL_areAll_49 : decode cL_areAll 49 = .ok (.aload_n 0, 1) := by decide +kernel
theorem dL_areAll_50 : decode cL_areAll 50 = .ok (.iload 9, 2) := by decide +kernel
theorem dL_areAll_52 : decode cL_areAll 52 = .ok (.iload 8, 2) := by decide +kernel
theorem dL_areAll_54 : decode cL_areAll 54 = .ok (.iconst 5, 1) := by decide +kernel
theorem dL_areAll_55 : decode cL_areAll 55 = .ok (.irem, 1) := by decide +kernel
theorem dL_areAll_56 : decode cL_areAll 56 = .ok (.iconst 2, 1) := by decide +kernel
theorem dL_areAll_57 : decode cL_areAll 57 = .ok (.invokevirtual 56, 3) := by decide +kernel
theorem dL_areAll_60 : decode cL_areAll 60 = .ok (.iconst 1, 1) := by decide +kernel
theorem dL_areAll_61 : decode cL_areAll 61 = .ok (.if_icmp .ne 7, 3) := by decide +kernel
theorem dL_areAll_64 : decode cL_areAll 64 = .ok (.iconst 1, 1) := by decide +kernel
theorem dL_areAll_65 : decode cL_areAll 65 = .ok (.goto 4, 3) := by decide +kernel
theorem dL_areAll_68 : decode cL_areAll 68 = .ok (.iconst 0, 1) := by decide +kernel
theorem dL_areAll_69 : decode cL_areAll 69 = .ok (.istore 11, 2) := by decide +kernel
theorem dL_areAll_71 : decode cL_areAll 71 = .ok (.aload_n 0, 1) := by decide +kernel
theorem dL_areAll_72 : decode cL_areAll 72 = .ok (.iload 9, 2) := by decide +kernel
theorem dL_areAll_74 : decode cL_areAll 74 = .ok (.iload 8, 2) := by decide +kernel
theorem dL_areAll_76 : decode cL_areAll 76 = .ok (.iconst 5, 1) := by decide +kernel
theorem dL_areAll_77 : decode cL_areAll 77 = .ok (.irem, 1) := by decide +kernel
theorem dL_areAll_78 : decode cL_areAll 78 = .ok (.iconst 1, 1) := by decide +kernel
theorem dL_areAll_79 : decode cL_areAll 79 = .ok (.invokevirtual 56, 3) := by decide +kernel
theorem dL_areAll_82 : decode cL_areAll 82 = .ok (.istore 12, 2) := by decide +kernel
theorem dL_areAll_84 : decode cL_areAll 84 = .ok (.aload_n 1, 1) := by decide +kernel
theorem dL_areAll_85 : decode cL_areAll 85 = .ok (.iload 8, 2) := by decide +kernel
theorem dL_areAll_87 : decode cL_areAll 87 = .ok (.iaload, 1) := by decide +kernel
theorem dL_areAll_88 : decode cL_areAll 88 = .ok (.ifCond .lt 16, 3) := by decide +kernel
theorem dL_areAll_91 : decode cL_areAll 91 = .ok (.aload_n 1, 1) := by decide +kernel
theorem dL_areAll_92 : decode cL_areAll 92 = .ok (.iload 8, 2) := by decide +kernel
theorem dL_areAll_94 : decode cL_areAll 94 = .ok (.iaload, 1) := by decide +kernel
theorem dL_areAll_95 : decode cL_areAll 95 = .ok (.bipush 100, 2) := by decide +kernel
theorem dL_areAll_97 : decode cL_areAll 97 = .ok (.if_icmp .ge 7, 3) := by decide +kernel
theorem dL_areAll_100 : decode cL_areAll 100 = .ok (.iconst 1, 1) := by decide +kernel
theorem dL_areAll_101 : decode cL_areAll 101 = .ok (.goto 4, 3) := by decide +kernel
theorem dL_areAll_104 : decode cL_areAll 104 = .ok (.iconst 0, 1) := by decide +kernel
theorem dL_areAll_105 : decode cL_areAll 105 = .ok (.istore 13, 2) := by decide +kernel
theorem dL_areAll_107 : decode cL_areAll 107 = .ok (.iload 10, 2) := by decide +kernel
theorem dL_areAll_109 : decode cL_areAll 109 = .ok (.ifCond .eq 8, 3) := by decide +kernel
theorem dL_areAll_112 : decode cL_areAll 112 = .ok (.iload 11, 2) := by decide +kernel
theorem dL_areAll_114 : decode cL_areAll 114 = .ok (.ifCond .ne 116, 3) := by decide +kernel
theorem dL_areAll_117 : decode cL_areAll 117 = .ok (.iload 13, 2) := by decide +kernel
theorem dL_areAll_119 : decode cL_areAll 119 = .ok (.ifCond .ne 8, 3) := by decide +kernel
theorem dL_areAll_122 : decode cL_areAll 122 = .ok (.iload 12, 2) := by decide +kernel
theorem dL_areAll_124 : decode cL_areAll 124 = .ok (.ifCond .ne 106, 3) := by decide +kernel
theorem dL_areAll_127 : decode cL_areAll 127 = .ok (.iload 11, 2) := by decide +kernel
theorem dL_areAll_129 : decode cL_areAll 129 = .ok (.ifCond .eq 8, 3) := by decide +kernel
theorem dL_areAll_132 : decode cL_areAll 132 = .ok (.iload 12, 2) := by decide +kernel
theorem dL_areAll_134 : decode cL_areAll 134 = .ok (.ifCond .ne 96, 3) := by decide +kernel
theorem dL_areAll_137 : decode cL_areAll 137 = .ok (.aload_n 1, 1) := by decide +kernel
theorem dL_areAll_138 : decode cL_areAll 138 = .ok (.iload 8, 2) := by decide +kernel
theorem dL_areAll_140 : decode cL_areAll 140 = .ok (.iaload, 1) := by decide +kernel
theorem dL_areAll_141 : decode cL_areAll 141 = .ok (.ifCond .ge 8, 3) := by decide +kernel
theorem dL_areAll_144 : decode cL_areAll 144 = .ok (.iload 10, 2) := by decide +kernel
theorem dL_areAll_146 : decode cL_areAll 146 = .ok (.ifCond .ne 84, 3) := by decide +kernel
theorem dL_areAll_149 : decode cL_areAll 149 = .ok (.aload_n 1, 1) := by decide +kernel
theorem dL_areAll_150 : decode cL_areAll 150 = .ok (.iload 8, 2) := by decide +kernel
theorem dL_areAll_152 : decode cL_areAll 152 = .ok (.iaload, 1) := by decide +kernel
theorem dL_areAll_153 : decode cL_areAll 153 = .ok (.bipush 100, 2) := by decide +kernel
theorem dL_areAll_155 : decode cL_areAll 155 = .ok (.if_icmp .lt 18, 3) := by decide +kernel
theorem dL_areAll_158 : decode cL_areAll 158 = .ok (.iload 10, 2) := by decide +kernel
theorem dL_areAll_160 : decode cL_areAll 160 = .ok (.iload 11, 2) := by decide +kernel
theorem dL_areAll_162 : decode cL_areAll 162 = .ok (.ifCond .ne 7, 3) := by decide +kernel
theorem dL_areAll_165 : decode cL_areAll 165 = .ok (.iconst 1, 1) := by decide +kernel
theorem dL_areAll_166 : decode cL_areAll 166 = .ok (.goto 4, 3) := by decide +kernel
theorem dL_areAll_169 : decode cL_areAll 169 = .ok (.iconst 0, 1) := by decide +kernel
theorem dL_areAll_170 : decode cL_areAll 170 = .ok (.if_icmp .ne 60, 3) := by decide +kernel
theorem dL_areAll_173 : decode cL_areAll 173 = .ok (.iload 13, 2) := by decide +kernel
theorem dL_areAll_175 : decode cL_areAll 175 = .ok (.ifCond .eq 20, 3) := by decide +kernel
theorem dL_areAll_178 : decode cL_areAll 178 = .ok (.iload 10, 2) := by decide +kernel
theorem dL_areAll_180 : decode cL_areAll 180 = .ok (.ifCond .eq 15, 3) := by decide +kernel
theorem dL_areAll_183 : decode cL_areAll 183 = .ok (.iload 12, 2) := by decide +kernel
