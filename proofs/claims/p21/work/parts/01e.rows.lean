theorem dX5_guard_7 : decode cX5_guard 7 = .ok (.iconst 2, 1) := by decide +kernel
theorem dX5_guard_8 : decode cX5_guard 8 = .ok (.invokestatic 74, 3) := by decide +kernel
theorem dX5_guard_11 : decode cX5_guard 11 = .ok (.iload_n 1, 1) := by decide +kernel
theorem dX5_guard_12 : decode cX5_guard 12 = .ok (.iload_n 2, 1) := by decide +kernel
theorem dX5_guard_13 : decode cX5_guard 13 = .ok (.invokestatic 78, 3) := by decide +kernel
theorem dX5_guard_16 : decode cX5_guard 16 = .ok (.istore 4, 2) := by decide +kernel
theorem dX5_guard_18 : decode cX5_guard 18 = .ok (.aload_n 0, 1) := by decide +kernel
theorem dX5_guard_19 : decode cX5_guard 19 = .ok (.getfield 12, 3) := by decide +kernel
theorem dX5_guard_22 : decode cX5_guard 22 = .ok (.getfield 145, 3) := by decide +kernel
theorem dX5_guard_25 : decode cX5_guard 25 = .ok (.iload 4, 2) := by decide +kernel
theorem dX5_guard_27 : decode cX5_guard 27 = .ok (.iaload, 1) := by decide +kernel
theorem dX5_guard_28 : decode cX5_guard 28 = .ok (.istore 5, 2) := by decide +kernel
theorem dX5_guard_30 : decode cX5_guard 30 = .ok (.aload_n 0, 1) := by decide +kernel
theorem dX5_guard_31 : decode cX5_guard 31 = .ok (.getfield 12, 3) := by decide +kernel
theorem dX5_guard_34 : decode cX5_guard 34 = .ok (.getfield 145, 3) := by decide +kernel
theorem dX5_guard_37 : decode cX5_guard 37 = .ok (.iload 4, 2) := by decide +kernel
theorem dX5_guard_39 : decode cX5_guard 39 = .ok (.iload_n 3, 1) := by decide +kernel
theorem dX5_guard_40 : decode cX5_guard 40 = .ok (.iastore, 1) := by decide +kernel
theorem dX5_guard_41 : decode cX5_guard 41 = .ok (.iload 5, 2) := by decide +kernel
theorem dX5_guard_43 : decode cX5_guard 43 = .ok (.ireturn, 1) := by decide +kernel
set_option maxRecDepth 20000 in
theorem ggX5_plain_X5_needPort : GoodIn wsX5_plain wsX5_needPort := goodIn_ca (goodIn_r _ [5, 6, 7, 8, 9, 4, 10] (by decide +kernel) (by decide +kernel)) (goodIn_sub (fun _ h => List.mem_cons_of_mem _ (List.mem_append_right _ h)) (by decide +kernel))
set_option maxRecDepth 20000 in
theorem gX5_plain_X5_needPort : GoodIn wsX5_plain (va_wsS RX5 63 yX5_needPort wsX5_needPort) := goodIn_app (goodIn_of _ (by decide +kernel)) ggX5_plain_X5_needPort
set_option maxRecDepth 20000 in
theorem ggX5_plain_X5_needLane : GoodIn wsX5_plain wsX5_needLane := goodIn_ca (goodIn_r _ [13, 6, 7] (by decide +kernel) (by decide +kernel)) (goodIn_sub (fun _ h => List.mem_cons_of_mem _ (List.mem_append_right _ h)) (by decide +kernel))
set_option maxRecDepth 20000 in
theorem gX5_plain_X5_needLane : GoodIn wsX5_plain (va_wsS RX5 148 yX5_needLane wsX5_needLane) := goodIn_app (goodIn_of _ (by decide +kernel)) ggX5_plain_X5_needLane
set_option maxRecDepth 20000 in
theorem ggX5_plain_X5_spotOf : GoodIn wsX5_plain wsX5_spotOf := goodIn_r _ [16] (by decide +kernel) (by decide +kernel)
set_option maxRecDepth 20000 in
theorem gX5_plain_X5_spotOf : GoodIn wsX5_plain (va_wsS RX5 78 yX5_spotOf wsX5_spotOf) := goodIn_app (goodIn_of _ (by decide +kernel)) ggX5_plain_X5_spotOf
set_option maxRecDepth 20000 in
theorem ggX5_plain_X0_bitOf : GoodIn wsX5_plain wsX0_bitOf := goodIn_r _ [20] (by decide +kernel) (by decide +kernel)
set_option maxRecDepth 20000 in
theorem gX5_plain_X0_bitOf : GoodIn wsX5_plain (va_wsS RX5 151 yX0_bitOf wsX0_bitOf) := goodIn_app (goodIn_of _ (by decide +kernel)) ggX5_plain_X0_bitOf
set_option maxRecDepth 20000 in
theorem ggX5_plain_X0_setUp : GoodIn wsX5_plain wsX0_setUp := goodIn_r _ [24, 25, 26, 37, 38] (by decide +kernel) (by decide +kernel)
set_option maxRecDepth 20000 in
theorem gX5_plain_X0_setUp : GoodIn wsX5_plain (wsV RX5 154 RX0 yX0_setUp wsX0_setUp) := goodIn_app (goodIn_of _ (by decide +kernel)) ggX5_plain_X0_setUp
theorem dX5_plain_0 : decode cX5_plain 0 = .ok (.iload_n 1, 1) := by decide +kernel
theorem dX5_plain_1 : decode cX5_plain 1 = .ok (.iload_n 2, 1) := by decide +kernel
theorem dX5_plain_2 : decode cX5_plain 2 = .ok (.invokestatic 63, 3) := by decide +kernel
theorem dX5_plain_5 : decode cX5_plain 5 = .ok (.iload_n 3, 1) := by decide +kernel
theorem dX5_plain_6 : decode cX5_plain 6 = .ok (.invokestatic 148, 3) := by decide +kernel
theorem dX5_plain_9 : decode cX5_plain 9 = .ok (.aload_n 0, 1) := by decide +kernel
theorem dX5_plain_10 : decode cX5_plain 10 = .ok (.getfield 31, 3) := by decide +kernel
theorem dX5_plain_13 : decode cX5_plain 13 = .ok (.iload_n 1, 1) := by decide +kernel
theorem dX5_plain_14 : decode cX5_plain 14 = .ok (.iload_n 2, 1) := by decide +kernel
theorem dX5_plain_15 : decode cX5_plain 15 = .ok (.invokestatic 78, 3) := by decide +kernel
theorem dX5_plain_18 : decode cX5_plain 18 = .ok (.iload_n 3, 1) := by decide +kernel
theorem dX5_plain_19 : decode cX5_plain 19 = .ok (.invokestatic 151, 3) := by decide +kernel
theorem dX5_plain_22 : decode cX5_plain 22 = .ok (.iload_n 3, 1) := by decide +kernel
theorem dX5_plain_23 : decode cX5_plain 23 = .ok (.invokevirtual 154, 3) := by decide +kernel
theorem dX5_plain_26 : decode cX5_plain 26 = .ok (.return_, 1) := by decide +kernel
set_option maxRecDepth 20000 in
theorem ggX5_trunk_X5_needPort : GoodIn wsX5_trunk wsX5_needPort := goodIn_ca (goodIn_r _ [5, 6, 7, 8, 9, 4, 10] (by decide +kernel) (by decide +kernel)) (goodIn_sub (fun _ h => List.mem_cons_of_mem _ (List.mem_append_left _ (List.mem_append_right _ h))) (by decide +kernel))
set_option maxRecDepth 20000 in
theorem gX5_trunk_X5_needPort : GoodIn wsX5_trunk (va_wsS RX5 63 yX5_needPort wsX5_needPort) := goodIn_app (goodIn_of _ (by decide +kernel)) ggX5_trunk_X5_needPort
set_option maxRecDepth 20000 in
theorem ggX5_trunk_X5_needLane : GoodIn wsX5_trunk wsX5_needLane := goodIn_ca (goodIn_r _ [13, 6, 7] (by decide +kernel) (by decide +kernel)) (goodIn_sub (fun _ h => List.mem_cons_of_mem _ (List.mem_append_left _ (List.mem_append_right _ h))) (by decide +kernel))
set_option maxRecDepth 20000 in
theorem gX5_trunk_X5_needLane : GoodIn wsX5_trunk (va_wsS RX5 148 yX5_needLane wsX5_needLane) := goodIn_app (goodIn_of _ (by decide +kernel)) ggX5_trunk_X5_needLane
set_option maxRecDepth 20000 in
theorem ggX5_trunk_X5_needWithin : GoodIn wsX5_trunk wsX5_needWithin := goodIn_ca (goodIn_r _ [16, 17, 18] (by decide +kernel) (by decide +kernel)) (goodIn_sub (fun _ h => List.mem_cons_of_mem _ (List.mem_append_right _ h)) (by decide +kernel))
set_option maxRecDepth 20000 in
theorem gX5_trunk_X5_needWithin : GoodIn wsX5_trunk (va_wsS RX5 74 yX5_needWithin wsX5_needWithin) := goodIn_app (goodIn_of _ (by decide +kernel)) ggX5_trunk_X5_needWithin
set_option maxRecDepth 20000 in
theorem ggX5_trunk_X5_spotOf : GoodIn wsX5_trunk wsX5_spotOf := goodIn_r _ [21] (by decide +kernel) (by decide +kernel)
set_option maxRecDepth 20000 in
theorem gX5_trunk_X5_spotOf : GoodIn wsX5_trunk (va_wsS RX5 78 yX5_spotOf wsX5_spotOf) := goodIn_app (goodIn_of _ (by decide +kernel)) ggX5_trunk_X5_spotOf
set_option maxRecDepth 20000 in
theorem ggX5_trunk_X0_setUp : GoodIn wsX5_trunk wsX0_setUp := goodIn_r _ [26, 27, 28, 39, 40] (by decide +kernel) (by decide +kernel)
set_option maxRecDepth 20000 in
theorem gX5_trunk_X0_setUp : GoodIn wsX5_trunk (wsV RX5 154 RX0 yX0_setUp wsX0_setUp) := goodIn_app (goodIn_of _ (by decide +kernel)) ggX5_trunk_X0_setUp
theorem dX5_trunk_0 : decode cX5_trunk 0 = .ok (.iload_n 1, 1) := by decide +kernel
theorem dX5_trunk_1 : decode cX5_trunk 1 = .ok (.iload_n 2, 1) := by decide +kernel
theorem dX5_trunk_2 : decode cX5_trunk 2 = .ok (.invokestatic 63, 3) := by decide +kernel
theorem dX5_trunk_5 : decode cX5_trunk 5 = .ok (.iload 4, 2) := by decide +kernel
theorem dX5_trunk_7 : decode cX5_trunk 7 = .ok (.invokestatic 148, 3) := by decide +kernel
theorem dX5_trunk_10 : decode cX5_trunk 10 = .ok (.iload_n 3, 1) := by decide +kernel
theorem dX5_trunk_11 : decode cX5_trunk 11 = .ok (.iconst 1, 1) := by decide +kernel
theorem dX5_trunk_12 : decode cX5_trunk 12 = .ok (.bipush 7, 2) := by decide +kernel
theorem dX5_trunk_14 : decode cX5_trunk 14 = .ok (.invokestatic 74, 3) := by decide +kernel
theorem dX5_trunk_17 : decode cX5_trunk 17 = .ok (.aload_n 0, 1) := by decide +kernel
theorem dX5_trunk_18 : decode cX5_trunk 18 = .ok (.getfield 31, 3) := by decide +kernel
theorem dX5_trunk_21 : decode cX5_trunk 21 = .ok (.iload_n 1, 1) := by decide +kernel
theorem dX5_trunk_22 : decode cX5_trunk 22 = .ok (.iload_n 2, 1) := by decide +kernel
theorem dX5_trunk_23 : decode cX5_trunk 23 = .ok (.invokestatic 78, 3) := by decide +kernel
theorem dX5_trunk_26 : decode cX5_trunk 26 = .ok (.iload_n 3, 1) := by decide +kernel
theorem dX5_trunk_27 : decode cX5_trunk 27 = .ok (.iload 4, 2) := by decide +kernel
theorem dX5_trunk_29 : decode cX5_trunk 29 = .ok (.invokevirtual 154, 3) := by decide +kernel
theorem dX5_trunk_32 : decode cX5_trunk 32 = .ok (.return_, 1) := by decide +kernel
set_option maxRecDepth 20000 in
theorem ggX5_limit_X5_needWithin : GoodIn wsX5_limit wsX5_needWithin := goodIn_ca (goodIn_r _ [5, 6, 7] (by decide +kernel) (by decide +kernel)) (goodIn_sub (fun _ h => List.mem_cons_of_mem _ (List.mem_append_right _ h)) (by decide +kernel))
set_option maxRecDepth 20000 in
theorem gX5_limit_X5_needWithin : GoodIn wsX5_limit (va_wsS RX5 74 yX5_needWithin wsX5_needWithin) := goodIn_app (goodIn_of _ (by decide +kernel)) ggX5_limit_X5_needWithin
theorem dX5_limit_0 : decode cX5_limit 0 = .ok (.iload_n 1, 1) := by decide +kernel
theorem dX5_limit_1 : decode cX5_limit 1 = .ok (.iconst 1, 1) := by decide +kernel
theorem dX5_limit_2 : decode cX5_limit 2 = .ok (.bipush 100, 2) := by decide +kernel
theorem dX5_limit_4 : decode cX5_limit 4 = .ok (.invokestatic 74, 3) := by decide +kernel
theorem dX5_limit_7 : decode cX5_limit 7 = .ok (.aload_n 0, 1) := by decide +kernel
theorem dX5_limit_8 : decode cX5_limit 8 = .ok (.getfield 59, 3) := by decide +kernel
theorem dX5_limit_11 : decode cX5_limit 11 = .ok (.istore_n 2, 1) := by decide +kernel
theorem dX5_limit_12 : decode cX5_limit 12 = .ok (.aload_n 0, 1) := by decide +kernel
theorem dX5_limit_13 : decode cX5_limit 13 = .ok (.iload_n 1, 1) := by decide +kernel
theorem dX5_limit_14 : decode cX5_limit 14 = .ok (.putfield 59, 3) := by decide +kernel
theorem dX5_limit_17 : decode cX5_limit 17 = .ok (.iload_n 2, 1) := by decide +kernel
theorem dX5_limit_18 : decode cX5_limit 18 = .ok (.ireturn, 1) := by decide +kernel
set_option maxRecDepth 20000 in
theorem ggX5_beat_X5_needWithin : GoodIn wsX5_beat wsX5_needWithin := goodIn_ca (goodIn_r _ [6, 7, 8] (by decide +kernel) (by decide +kernel)) (goodIn_sub (fun _ h => List.mem_cons_of_mem _ (List.mem_append_right _ h)) (by decide +kernel))
set_option maxRecDepth 20000 in
theorem gX5_beat_X5_needWithin : GoodIn wsX5_beat (va_wsS RX5 74 yX5_needWithin wsX5_needWithin) := goodIn_app (goodIn_of _ (by decide +kernel)) ggX5_beat_X5_needWithin
set_option maxRecDepth 20000 in
theorem ggX5_beat_X5_passBeat : GoodIn wsX5_beat wsX5_passBeat := goodIn_r _ [12, 1, 13, 14, 15, 16, 2, 17, 18, 19, 20, 21, 22, 23, 24, 25, 26, 27, 28, 29, 30, 31, 32, 33, 34, 35, 36, 37, 38, 39, 40, 41, 42, 43, 44, 45, 46, 47, 48, 49, 50, 51, 52, 53, 54, 55, 56, 57, 58, 59, 60, 61, 62, 63, 64, 65, 66, 67, 5, 68, 69, 70, 71, 72, 73, 74, 75, 76, 77, 78, 79, 80, 81, 82, 83, 84, 85, 86, 87, 88, 89, 90, 91, 92, 93, 94, 95, 96, 97, 98, 99, 100, 101, 102, 103, 104, 105, 106, 107, 108, 109, 110, 111, 112, 113, 114, 115, 116, 117, 118, 119, 120, 121, 122, 123, 124, 125, 126, 127, 128, 129, 130, 131, 132, 133, 134, 135, 136, 137, 138, 139, 140, 141, 142, 143, 144, 145, 146, 147, 148, 149, 150, 151, 152, 153, 154, 155, 156, 157, 158, 159, 160, 161, 162, 163, 164, 165, 166, 167, 168, 169, 170, 171, 172, 173] (by decide +kernel) (by decide +kernel)
set_option maxRecDepth 20000 in
theorem gX5_beat_X5_passBeat : GoodIn wsX5_beat (wsV RX5 157 RX5 yX5_passBeat wsX5_passBeat) := goodIn_app (goodIn_of _ (by decide +kernel)) ggX5_beat_X5_passBeat
theorem dX5_beat_0 : decode cX5_beat 0 = .ok (.iload_n 1, 1) := by decide +kernel
theorem dX5_beat_1 : decode cX5_beat 1 = .ok (.iconst 1, 1) := by decide +kernel
theorem dX5_beat_2 : decode cX5_beat 2 = .ok (.bipush 30, 2) := by decide +kernel
theorem dX5_beat_4 : decode cX5_beat 4 = .ok (.invokestatic 74, 3) := by decide +kernel
theorem dX5_beat_7 : decode cX5_beat 7 = .ok (.iconst 0, 1) := by decide +kernel
theorem dX5_beat_8 : decode cX5_beat 8 = .ok (.istore_n 2, 1) := by decide +kernel
theorem dX5_beat_9 : decode cX5_beat 9 = .ok (.iload_n 2, 1) := by decide +kernel
theorem dX5_beat_10 : decode cX5_beat 10 = .ok (.iload_n 1, 1) := by decide +kernel
theorem dX5_beat_11 : decode cX5_beat 11 = .ok (.if_icmp .ge 13, 3) := by decide +kernel
theorem dX5_beat_14 : decode cX5_beat 14 = .ok (.aload_n 0, 1) := by decide +kernel
theorem dX5_beat_15 : decode cX5_beat 15 = .ok (.invokevirtual 157, 3) := by decide +kernel
theorem dX5_beat_18 : decode cX5_beat 18 = .ok (.iinc 2 1, 3) := by decide +kernel
theorem dX5_beat_21 : decode cX5_beat 21 = .ok (.goto (-12), 3) := by decide +kernel
theorem dX5_beat_24 : decode cX5_beat 24 = .ok (.aload_n 0, 1) := by decide +kernel
theorem dX5_beat_25 : decode cX5_beat 25 = .ok (.getfield 21, 3) := by decide +kernel
theorem dX5_beat_28 : decode cX5_beat 28 = .ok (.getfield 160, 3) := by decide +kernel
theorem dX5_beat_31 : decode cX5_beat 31 = .ok (.ireturn, 1) := by decide +kernel
set_option maxRecDepth 20000 in
theorem ggX5_send_X5_needHouse : GoodIn wsX5_send wsX5_needHouse := goodIn_ca (goodIn_r _ [12, 13, 14] (by decide +kernel) (by decide +kernel)) (goodIn_sub (fun _ h => List.mem_cons_of_mem _ (List.mem_append_right _ h)) (by decide +kernel))
set_option maxRecDepth 20000 in
theorem gX5_send_X5_needHouse : GoodIn wsX5_send (va_wsS RX5 113 yX5_needHouse wsX5_needHouse) := goodIn_app (goodIn_of _ (by decide +kernel)) ggX5_send_X5_needHouse
set_option maxRecDepth 20000 in
theorem ggX5_send_X5_needWithin : GoodIn wsX5_send wsX5_needWithin := goodIn_ca (goodIn_r _ [17, 1, 2] (by decide +kernel) (by decide +kernel)) (goodIn_sub (fun _ h => List.mem_cons_of_mem _ (List.mem_append_left _ (List.mem_append_left _ (List.mem_append_right _ h)))) (by decide +kernel))
set_option maxRecDepth 20000 in
theorem gX5_send_X5_needWithin : GoodIn wsX5_send (va_wsS RX5 74 yX5_needWithin wsX5_needWithin) := goodIn_app (goodIn_of _ (by decide +kernel)) ggX5_send_X5_needWithin
set_option maxRecDepth 20000 in
theorem ggX5_send_X1_restart : GoodIn wsX5_send wsX1_restart := goodIn_r _ [22, 23, 147, 148, 149, 150, 151] (by decide +kernel) (by decide +kernel)
set_option maxRecDepth 20000 in
theorem gX5_send_X1_restart : GoodIn wsX5_send (wsV RX5 167 RX1 yX1_restart wsX1_restart) := goodIn_app (goodIn_of _ (by decide +kernel)) ggX5_send_X1_restart
set_option maxRecDepth 20000 in
theorem ggX5_send_X1_add : GoodIn wsX5_send wsX1_add := goodIn_r _ [27, 23, 28, 29, 30, 31, 147, 148, 149, 150, 151] (by decide +kernel) (by decide +kernel)
set_option maxRecDepth 20000 in
theorem gX5_send_X1_add : GoodIn wsX5_send (wsV RX5 170 RX1 yX1_add wsX1_add) := goodIn_app (goodIn_of _ (by decide +kernel)) ggX5_send_X1_add
set_option maxRecDepth 20000 in
theorem ggX5_send_X5_takeStep : GoodIn wsX5_send wsX5_takeStep := goodIn_r _ [35, 7, 36, 37, 38, 39, 40, 41, 42, 43, 44, 11, 45, 46, 47, 48, 49, 50, 51, 52, 53, 54, 55, 56, 57, 58, 59, 60, 61, 62, 63, 64, 65, 66, 67, 68, 69, 70, 71, 72, 73, 74, 75, 76, 77, 78, 79, 80, 81, 82, 83, 84, 85, 86, 87, 88, 89, 90, 91, 92, 93, 94, 95, 96, 97, 98, 99, 100, 101, 102, 103, 104, 105, 106, 107, 108, 109, 110, 111, 112, 113, 5, 114, 115, 116, 117, 118, 119, 120, 121, 122, 123, 124, 125, 126, 127, 128, 24, 25, 26, 21, 27, 23, 28, 29, 30, 31, 129, 130, 131, 132, 133, 134, 135, 136, 137, 138, 147, 148, 149, 150, 151, 152, 153, 154, 155, 156, 157, 158, 159, 160, 161, 162, 163, 164, 165, 166, 167, 168, 169, 170, 171, 172, 139, 140, 141, 142, 143, 144, 145, 146] (by decide +kernel) (by decide +kernel)
set_option maxRecDepth 20000 in
theorem gX5_send_X5_takeStep : GoodIn wsX5_send (wsV RX5 177 RX5 yX5_takeStep wsX5_takeStep) := goodIn_app (goodIn_of _ (by decide +kernel)) ggX5_send_X5_takeStep
theorem dX5_send_0 : decode cX5_send 0 = .ok (.iload_n 1, 1) := by decide +kernel
theorem dX5_send_1 : decode cX5_send 1 = .ok (.invokestatic 113, 3) := by decide +kernel
theorem dX5_send_4 : decode cX5_send 4 = .ok (.iload_n 2, 1) := by decide +kernel
theorem dX5_send_5 : decode cX5_send 5 = .ok (.bipush 10, 2) := by decide +kernel
theorem dX5_send_7 : decode cX5_send 7 = .ok (.if_icmp .eq 7, 3) := by decide +kernel
theorem dX5_send_10 : decode cX5_send 10 = .ok (.iload_n 2, 1) := by decide +kernel
theorem dX5_send_11 : decode cX5_send 11 = .ok (.invokestatic 113, 3) := by decide +kernel
theorem dX5_send_14 : decode cX5_send 14 = .ok (.iload_n 3, 1) := by decide +kernel
theorem dX5_send_15 : decode cX5_send 15 = .ok (.iconst 0, 1) := by decide +kernel
theorem dX5_send_16 : decode cX5_send 16 = .ok (.iconst 3, 1) := by decide +kernel
theorem dX5_send_17 : decode cX5_send 17 = .ok (.invokestatic 74, 3) := by decide +kernel
theorem dX5_send_20 : decode cX5_send 20 = .ok (.iload 4, 2) := by decide +kernel
theorem dX5_send_22 : decode cX5_send 22 = .ok (.iconst 0, 1) := by decide +kernel
theorem dX5_send_23 : decode cX5_send 23 = .ok (.iconst 3, 1) := by decide +kernel
theorem dX5_send_24 : decode cX5_send 24 = .ok (.invokestatic 74, 3) := by decide +kernel
theorem dX5_send_27 : decode cX5_send 27 = .ok (.iload_n 1, 1) := by decide +kernel
theorem dX5_send_28 : decode cX5_send 28 = .ok (.iload_n 2, 1) := by decide +kernel
theorem dX5_send_29 : decode cX5_send 29 = .ok (.if_icmp .eq 12, 3) := by decide +kernel
theorem dX5_send_32 : decode cX5_send 32 = .ok (.iload_n 3, 1) := by decide +kernel
theorem dX5_send_33 : decode cX5_send 33 = .ok (.ifCond .ne 18, 3) := by decide +kernel
theorem dX5_send_36 : decode cX5_send 36 = .ok (.iload 4, 2) := by decide +kernel
theorem dX5_send_38 : decode cX5_send 38 = .ok (.ifCond .eq 13, 3) := by decide +kernel
theorem dX5_send_41 : decode cX5_send 41 = .ok (.new 67, 3) := by decide +kernel
theorem dX5_send_44 : decode cX5_send 44 = .ok (.dup, 1) := by decide +kernel
theorem dX5_send_45 : decode cX5_send 45 = .ok (.ldc 163, 2) := by decide +kernel
theorem dX5_send_47 : decode cX5_send 47 = .ok (.invokespecial 71, 3) := by decide +kernel
theorem dX5_send_50 : decode cX5_send 50 = .ok (.athrow, 1) := by decide +kernel
theorem dX5_send_51 : decode cX5_send 51 = .ok (.aload_n 0, 1) := by decide +kernel
theorem dX5_send_52 : decode cX5_send 52 = .ok (.getfield 12, 3) := by decide +kernel
theorem dX5_send_55 : decode cX5_send 55 = .ok (.getfield 116, 3) := by decide +kernel
theorem dX5_send_58 : decode cX5_send 58 = .ok (.iload_n 1, 1) := by decide +kernel
theorem dX5_send_59 : decode cX5_send 59 = .ok (.iaload, 1) := by decide +kernel
theorem dX5_send_60 : decode cX5_send 60 = .ok (.istore 5, 2) := by decide +kernel
theorem dX5_send_62 : decode cX5_send 62 = .ok (.iload 5, 2) := by decide +kernel
theorem dX5_send_64 : decode cX5_send 64 = .ok (.iconst (-1), 1) := by decide +kernel
theorem dX5_send_65 : decode cX5_send 65 = .ok (.if_icmp .ne 13, 3) := by decide +kernel
theorem dX5_send_68 : decode cX5_send 68 = .ok (.new 86, 3) := by decide +kernel
theorem dX5_send_71 : decode cX5_send 71 = .ok (.dup, 1) := by decide +kernel
theorem dX5_send_72 : decode cX5_send 72 = .ok (.ldc 165, 2) := by decide +kernel
theorem dX5_send_74 : decode cX5_send 74 = .ok (.invokespecial 90, 3) := by decide +kernel
theorem dX5_send_77 : decode cX5_send 77 = .ok (.athrow, 1) := by decide +kernel
theorem dX5_send_78 : decode cX5_send 78 = .ok (.aload_n 0, 1) := by decide +kernel
theorem dX5_send_79 : decode cX5_send 79 = .ok (.getfield 45, 3) := by decide +kernel
theorem dX5_send_82 : decode cX5_send 82 = .ok (.invokevirtual 167, 3) := by decide +kernel
theorem dX5_send_85 : decode cX5_send 85 = .ok (.aload_n 0, 1) := by decide +kernel
theorem dX5_send_86 : decode cX5_send 86 = .ok (.getfield 45, 3) := by decide +kernel
theorem dX5_send_89 : decode cX5_send 89 = .ok (.iload 5, 2) := by decide +kernel
theorem dX5_send_91 : decode cX5_send 91 = .ok (.iload_n 3, 1) := by decide +kernel
theorem dX5_send_92 : decode cX5_send 92 = .ok (.iload 4, 2) := by decide +kernel
theorem dX5_send_94 : decode cX5_send 94 = .ok (.iconst 0, 1) := by decide +kernel
theorem dX5_send_95 : decode cX5_send 95 = .ok (.invokevirtual 170, 3) := by decide +kernel
theorem dX5_send_98 : decode cX5_send 98 = .ok (.iconst 0, 1) := by decide +kernel
theorem dX5_send_99 : decode cX5_send 99 = .ok (.istore 6, 2) := by decide +kernel
theorem dX5_send_101 : decode cX5_send 101 = .ok (.iconst 0, 1) := by decide +kernel
theorem dX5_send_102 : decode cX5_send 102 = .ok (.istore 7, 2) := by decide +kernel
theorem dX5_send_104 : decode cX5_send 104 = .ok (.iload 7, 2) := by decide +kernel
theorem dX5_send_106 : decode cX5_send 106 = .ok (.sipush 400, 3) := by decide +kernel
theorem dX5_send_109 : decode cX5_send 109 = .ok (.if_icmp .ge 34, 3) := by decide +kernel
theorem dX5_send_112 : decode cX5_send 112 = .ok (.iload 7, 2) := by decide +kernel
theorem dX5_send_114 : decode cX5_send 114 = .ok (.aload_n 0, 1) := by decide +kernel
theorem dX5_send_115 : decode cX5_send 115 = .ok (.getfield 45, 3) := by decide +kernel
theorem dX5_send_118 : decode cX5_send 118 = .ok (.getfield 174, 3) := by decide +kernel
theorem dX5_send_121 : decode cX5_send 121 = .ok (.if_icmp .ge 22, 3) := by decide +kernel
theorem dX5_send_124 : decode cX5_send 124 = .ok (.iload 6, 2) := by decide +kernel
theorem dX5_send_126 : decode cX5_send 126 = .ok (.aload_n 0, 1) := by decide +kernel
theorem dX5_send_127 : decode cX5_send 127 = .ok (.iload 7, 2) := by decide +kernel
theorem dX5_send_129 : decode cX5_send 129 = .ok (.iload_n 1, 1) := by decide +kernel
theorem dX5_send_130 : decode cX5_send 130 = .ok (.iload_n 2, 1) := by decide +kernel
theorem dX5_send_131 : decode cX5_send 131 = .ok (.invokevirtual 177, 3) := by decide +kernel
theorem dX5_send_134 : decode cX5_send 134 = .ok (.iadd, 1) := by decide +kernel
theorem dX5_send_135 : decode cX5_send 135 = .ok (.istore 6, 2) := by decide +kernel
theorem dX5_send_137 : decode cX5_send 137 = .ok (.iinc 7 1, 3) := by decide +kernel
theorem dX5_send_140 : decode cX5_send 140 = .ok (.goto (-36), 3) := by decide +kernel
theorem dX5_send_143 : decode cX5_send 143 = .ok (.iload 6, 2) := by decide +kernel
theorem dX5_send_145 : decode cX5_send 145 = .ok (.ireturn, 1) := by decide +kernel
set_option maxRecDepth 20000 in
theorem ggX5_holds_X5_needSwitch : GoodIn wsX5_holds wsX5_needSwitch := goodIn_ca (goodIn_r _ [13, 14, 15] (by decide +kernel) (by decide +kernel)) (goodIn_sub (fun _ h => List.mem_cons_of_mem _ (List.mem_append_right _ h)) (by decide +kernel))
set_option maxRecDepth 20000 in
theorem gX5_holds_X5_needSwitch : GoodIn wsX5_holds (va_wsS RX5 130 yX5_needSwitch wsX5_needSwitch) := goodIn_app (goodIn_of _ (by decide +kernel)) ggX5_holds_X5_needSwitch
theorem dX5_holds_0 : decode cX5_holds 0 = .ok (.iload_n 1, 1) := by decide +kernel
theorem dX5_holds_1 : decode cX5_holds 1 = .ok (.invokestatic 130, 3) := by decide +kernel
theorem dX5_holds_4 : decode cX5_holds 4 = .ok (.iload_n 2, 1) := by decide +kernel
theorem dX5_holds_5 : decode cX5_holds 5 = .ok (.tableswitch 85 0 4 #[35, 45, 55, 65, 75], 35) := by decide +kernel
theorem dX5_holds_40 : decode cX5_holds 40 = .ok (.aload_n 0, 1) := by decide +kernel
theorem dX5_holds_41 : decode cX5_holds 41 = .ok (.getfield 21, 3) := by decide +kernel
theorem dX5_holds_44 : decode cX5_holds 44 = .ok (.getfield 181, 3) := by decide +kernel
theorem dX5_holds_47 : decode cX5_holds 47 = .ok (.iload_n 1, 1) := by decide +kernel
theorem dX5_holds_48 : decode cX5_holds 48 = .ok (.iaload, 1) := by decide +kernel
theorem dX5_holds_49 : decode cX5_holds 49 = .ok (.ireturn, 1) := by decide +kernel
theorem dX5_holds_50 : decode cX5_holds 50 = .ok (.aload_n 0, 1) := by decide +kernel
theorem dX5_holds_51 : decode cX5_holds 51 = .ok (.getfield 21, 3) := by decide +kernel
theorem dX5_holds_54 : decode cX5_holds 54 = .ok (.getfield 184, 3) := by decide +kernel
theorem dX5_holds_57 : decode cX5_holds 57 = .ok (.iload_n 1, 1) := by decide +kernel
theorem dX5_holds_58 : decode cX5_holds 58 = .ok (.iaload, 1) := by decide +kernel
theorem dX5_holds_59 : decode cX5_holds 59 = .ok (.ireturn, 1) := by decide +kernel
theorem dX5_holds_60 : decode cX5_holds 60 = .ok (.aload_n 0, 1) := by decide +kernel
theorem dX5_holds_61 : decode cX5_holds 61 = .ok (.getfield 21, 3) := by decide +kernel
theorem dX5_holds_64 : decode cX5_holds 64 = .ok (.getfield 187, 3) := by decide +kernel
theorem dX5_holds_67 : decode cX5_holds 67 = .ok (.iload_n 1, 1) := by decide +kernel
theorem dX5_holds_68 : decode cX5_holds 68 = .ok (.iaload, 1) := by decide +kernel
theorem dX5_holds_69 : decode cX5_holds 69 = .ok (.ireturn, 1) := by decide +kernel
theorem dX5_holds_70 : decode cX5_holds 70 = .ok (.aload_n 0, 1) := by decide +kernel
theorem dX5_holds_71 : decode cX5_holds 71 = .ok (.getfield 21, 3) := by decide +kernel
theorem dX5_holds_74 : decode cX5_holds 74 = .ok (.getfield 190, 3) := by decide +kernel
theorem dX5_holds_77 : decode cX5_holds 77 = .ok (.iload_n 1, 1) := by decide +kernel
theorem dX5_holds_78 : decode cX5_holds 78 = .ok (.iaload, 1) := by decide +kernel
theorem dX5_holds_79 : decode cX5_holds 79 = .ok (.ireturn, 1) := by decide +kernel
theorem dX5_holds_80 : decode cX5_holds 80 = .ok (.aload_n 0, 1) := by decide +kernel
theorem dX5_holds_81 : decode cX5_holds 81 = .ok (.getfield 38, 3) := by decide +kernel
theorem dX5_holds_84 : decode cX5_holds 84 = .ok (.getfield 193, 3) := by decide +kernel
theorem dX5_holds_87 : decode cX5_holds 87 = .ok (.iload_n 1, 1) := by decide +kernel
theorem dX5_holds_88 : decode cX5_holds 88 = .ok (.iaload, 1) := by decide +kernel
theorem dX5_holds_89 : decode cX5_holds 89 = .ok (.ireturn, 1) := by decide +kernel
theorem dX5_holds_90 : decode cX5_holds 90 = .ok (.new 67, 3) := by decide +kernel
theorem dX5_holds_93 : decode cX5_holds 93 = .ok (.dup, 1) := by decide +kernel
theorem dX5_holds_94 : decode cX5_holds 94 = .ok (.ldc 196, 2) := by decide +kernel
theorem dX5_holds_96 : decode cX5_holds 96 = .ok (.invokespecial 71, 3) := by decide +kernel
theorem dX5_holds_99 : decode cX5_holds 99 = .ok (.athrow, 1) := by decide +kernel
set_option maxRecDepth 20000 in
theorem ggX5_port_X5_needPort : GoodIn wsX5_port wsX5_needPort := goodIn_ca (goodIn_r _ [10, 11, 12, 13, 14, 9, 15] (by decide +kernel) (by decide +kernel)) (goodIn_sub (fun _ h => List.mem_cons_of_mem _ (List.mem_append_right _ h)) (by decide +kernel))
set_option maxRecDepth 20000 in
theorem gX5_port_X5_needPort : GoodIn wsX5_port (va_wsS RX5 63 yX5_needPort wsX5_needPort) := goodIn_app (goodIn_of _ (by decide +kernel)) ggX5_port_X5_needPort
set_option maxRecDepth 20000 in
theorem ggX5_port_X5_spotOf : GoodIn wsX5_port wsX5_spotOf := goodIn_r _ [18] (by decide +kernel) (by decide +kernel)
set_option maxRecDepth 20000 in
theorem gX5_port_X5_spotOf : GoodIn wsX5_port (va_wsS RX5 78 yX5_spotOf wsX5_spotOf) := goodIn_app (goodIn_of _ (by decide +kernel)) ggX5_port_X5_spotOf
set_option maxRecDepth 20000 in
theorem ggX5_port_X3_isShut : GoodIn wsX5_port wsX3_isShut := goodIn_r _ [23, 24, 35, 36, 37, 38, 39, 40, 41, 42, 43, 44, 45, 46, 47, 48, 49, 50] (by decide +kernel) (by decide +kernel)
set_option maxRecDepth 20000 in
theorem gX5_port_X3_isShut : GoodIn wsX5_port (wsV RX5 136 RX3 yX3_isShut wsX3_isShut) := goodIn_app (goodIn_of _ (by decide +kernel)) ggX5_port_X3_isShut
theorem dX5_port_0 : decode cX5_port 0 = .ok (.iload_n 1, 1) := by decide +kernel
theorem dX5_port_1 : decode cX5_port 1 = .ok (.iload_n 2, 1) := by decide +kernel
theorem dX5_port_2 : decode cX5_port 2 = .ok (.invokestatic 63, 3) := by decide +kernel
theorem dX5_port_5 : decode cX5_port 5 = .ok (.iload_n 1, 1) := by decide +kernel
theorem dX5_port_6 : decode cX5_port 6 = .ok (.iload_n 2, 1) := by decide +kernel
theorem dX5_port_7 : decode cX5_port 7 = .ok (.invokestatic 78, 3) := by decide +kernel
theorem dX5_port_10 : decode cX5_port 10 = .ok (.istore 4, 2) := by decide +kernel
theorem dX5_port_12 : decode cX5_port 12 = .ok (.iload_n 3, 1) := by decide +kernel
theorem dX5_port_13 : decode cX5_port 13 = .ok (.tableswitch 87 0 3 #[31, 50, 61, 79], 31) := by decide +kernel
theorem dX5_port_44 : decode cX5_port 44 = .ok (.aload_n 0, 1) := by decide +kernel
theorem dX5_port_45 : decode cX5_port 45 = .ok (.getfield 21, 3) := by decide +kernel
theorem dX5_port_48 : decode cX5_port 48 = .ok (.getfield 198, 3) := by decide +kernel
theorem dX5_port_51 : decode cX5_port 51 = .ok (.iload 4, 2) := by decide +kernel
theorem dX5_port_53 : decode cX5_port 53 = .ok (.baload, 1) := by decide +kernel
theorem dX5_port_54 : decode cX5_port 54 = .ok (.ifCond .eq 7, 3) := by decide +kernel
theorem dX5_port_57 : decode cX5_port 57 = .ok (.iconst 1, 1) := by decide +kernel
theorem dX5_port_58 : decode cX5_port 58 = .ok (.goto 4, 3) := by decide +kernel
theorem dX5_port_61 : decode cX5_port 61 = .ok (.iconst 0, 1) := by decide +kernel
theorem dX5_port_62 : decode cX5_port 62 = .ok (.ireturn, 1) := by decide +kernel
theorem dX5_port_63 : decode cX5_port 63 = .ok (.aload_n 0, 1) := by decide +kernel
theorem dX5_port_64 : decode cX5_port 64 = .ok (.getfield 21, 3) := by decide +kernel
theorem dX5_port_67 : decode cX5_port 67 = .ok (.getfield 202, 3) := by decide +kernel
theorem dX5_port_70 : decode cX5_port 70 = .ok (.iload 4, 2) := by decide +kernel
theorem dX5_port_72 : decode cX5_port 72 = .ok (.iaload, 1) := by decide +kernel
theorem dX5_port_73 : decode cX5_port 73 = .ok (.ireturn, 1) := by decide +kernel
theorem dX5_port_74 : decode cX5_port 74 = .ok (.aload_n 0, 1) := by decide +kernel
theorem dX5_port_75 : decode cX5_port 75 = .ok (.getfield 21, 3) := by decide +kernel
theorem dX5_port_78 : decode cX5_port 78 = .ok (.iload 4, 2) := by decide +kernel
theorem dX5_port_80 : decode cX5_port 80 = .ok (.invokevirtual 136, 3) := by decide +kernel
theorem dX5_port_83 : decode cX5_port 83 = .ok (.ifCond .eq 7, 3) := by decide +kernel
theorem dX5_port_86 : decode cX5_port 86 = .ok (.iconst 1, 1) := by decide +kernel
theorem dX5_port_87 : decode cX5_port 87 = .ok (.goto 4, 3) := by decide +kernel
theorem dX5_port_90 : decode cX5_port 90 = .ok (.iconst 0, 1) := by decide +kernel
theorem dX5_port_91 : decode cX5_port 91 = .ok (.ireturn, 1) := by decide +kernel
theorem dX5_port_92 : decode cX5_port 92 = .ok (.aload_n 0, 1) := by decide +kernel
theorem dX5_port_93 : decode cX5_port 93 = .ok (.getfield 49, 3) := by decide +kernel
theorem dX5_port_96 : decode cX5_port 96 = .ok (.iload 4, 2) := by decide +kernel
theorem dX5_port_98 : decode cX5_port 98 = .ok (.iaload, 1) := by decide +kernel
theorem dX5_port_99 : decode cX5_port 99 = .ok (.ireturn, 1) := by decide +kernel
theorem dX5_port_100 : decode cX5_port 100 = .ok (.new 67, 3) := by decide +kernel
theorem dX5_port_103 : decode cX5_port 103 = .ok (.dup, 1) := by decide +kernel
theorem dX5_port_104 : decode cX5_port 104 = .ok (.ldc 205, 2) := by decide +kernel
theorem dX5_port_106 : decode cX5_port 106 = .ok (.invokespecial 71, 3) := by decide +kernel
theorem dX5_port_109 : decode cX5_port 109 = .ok (.athrow, 1) := by decide +kernel
set_option maxRecDepth 20000 in
theorem ggX5_table_X5_needSwitch : GoodIn wsX5_table wsX5_needSwitch := goodIn_ca (goodIn_r _ [5, 6, 7] (by decide +kernel) (by decide +kernel)) (goodIn_sub (fun _ h => List.mem_cons_of_mem _ (List.mem_append_right _ h)) (by decide +kernel))
set_option maxRecDepth 20000 in
theorem gX5_table_X5_needSwitch : GoodIn wsX5_table (va_wsS RX5 130 yX5_needSwitch wsX5_needSwitch) := goodIn_app (goodIn_of _ (by decide +kernel)) ggX5_table_X5_needSwitch
set_option maxRecDepth 20000 in
theorem ggX5_table_X5_needLane : GoodIn wsX5_table wsX5_needLane := goodIn_ca (goodIn_r _ [10, 6, 7] (by decide +kernel) (by decide +kernel)) (goodIn_sub (fun _ h => List.mem_cons_of_mem _ (List.mem_append_right _ h)) (by decide +kernel))
set_option maxRecDepth 20000 in
theorem gX5_table_X5_needLane : GoodIn wsX5_table (va_wsS RX5 148 yX5_needLane wsX5_needLane) := goodIn_app (goodIn_of _ (by decide +kernel)) ggX5_table_X5_needLane
set_option maxRecDepth 20000 in
theorem ggX5_table_X5_needHouse : GoodIn wsX5_table wsX5_needHouse := goodIn_ca (goodIn_r _ [13, 6, 7] (by decide +kernel) (by decide +kernel)) (goodIn_sub (fun _ h => List.mem_cons_of_mem _ (List.mem_append_right _ h)) (by decide +kernel))
set_option maxRecDepth 20000 in
theorem gX5_table_X5_needHouse : GoodIn wsX5_table (va_wsS RX5 113 yX5_needHouse wsX5_needHouse) := goodIn_app (goodIn_of _ (by decide +kernel)) ggX5_table_X5_needHouse
set_option maxRecDepth 20000 in
theorem ggX5_table_X2_portFor : GoodIn wsX5_table wsX2_portFor := goodIn_r _ [18, 19, 20, 21, 17, 22, 33, 34, 35] (by decide +kernel) (by decide +kernel)
set_option maxRecDepth 20000 in
theorem gX5_table_X2_portFor : GoodIn wsX5_table (wsV RX5 207 RX2 yX2_portFor wsX2_portFor) := goodIn_app (goodIn_of _ (by decide +kernel)) ggX5_table_X2_portFor
theorem dX5_table_0 : decode cX5_table 0 = .ok (.iload_n 1, 1) := by decide +kernel
theorem dX5_table_1 : decode cX5_table 1 = .ok (.invokestatic 130, 3) := by decide +kernel
theorem dX5_table_4 : decode cX5_table 4 = .ok (.iload_n 2, 1) := by decide +kernel
theorem dX5_table_5 : decode cX5_table 5 = .ok (.invokestatic 148, 3) := by decide +kernel
theorem dX5_table_8 : decode cX5_table 8 = .ok (.iload_n 3, 1) := by decide +kernel
theorem dX5_table_9 : decode cX5_table 9 = .ok (.invokestatic 113, 3) := by decide +kernel
theorem dX5_table_12 : decode cX5_table 12 = .ok (.aload_n 0, 1) := by decide +kernel
theorem dX5_table_13 : decode cX5_table 13 = .ok (.getfield 38, 3) := by decide +kernel
theorem dX5_table_16 : decode cX5_table 16 = .ok (.iload_n 1, 1) := by decide +kernel
theorem dX5_table_17 : decode cX5_table 17 = .ok (.iload_n 2, 1) := by decide +kernel
theorem dX5_table_18 : decode cX5_table 18 = .ok (.iload_n 3, 1) := by decide +kernel
theorem dX5_table_19 : decode cX5_table 19 = .ok (.invokevirtual 207, 3) := by decide +kernel
theorem dX5_table_22 : decode cX5_table 22 = .ok (.ireturn, 1) := by decide +kernel
set_option maxRecDepth 20000 in
theorem ggX5_got_X5_needHouse : GoodIn wsX5_got wsX5_needHouse := goodIn_ca (goodIn_r _ [6, 7, 8] (by decide +kernel) (by decide +kernel)) (goodIn_sub (fun _ h => List.mem_cons_of_mem _ (List.mem_append_right _ h)) (by decide +kernel))
set_option maxRecDepth 20000 in
theorem gX5_got_X5_needHouse : GoodIn wsX5_got (va_wsS RX5 113 yX5_needHouse wsX5_needHouse) := goodIn_app (goodIn_of _ (by decide +kernel)) ggX5_got_X5_needHouse
theorem dX5_got_0 : decode cX5_got 0 = .ok (.iload_n 1, 1) := by decide +kernel
theorem dX5_got_1 : decode cX5_got 1 = .ok (.invokestatic 113, 3) := by decide +kernel
theorem dX5_got_4 : decode cX5_got 4 = .ok (.iload_n 2, 1) := by decide +kernel
theorem dX5_got_5 : decode cX5_got 5 = .ok (.ifCond .eq 12, 3) := by decide +kernel
theorem dX5_got_8 : decode cX5_got 8 = .ok (.aload_n 0, 1) := by decide +kernel
theorem dX5_got_9 : decode cX5_got 9 = .ok (.getfield 56, 3) := by decide +kernel
theorem dX5_got_12 : decode cX5_got 12 = .ok (.iload_n 1, 1) := by decide +kernel
theorem dX5_got_13 : decode cX5_got 13 = .ok (.iaload, 1) := by decide +kernel
theorem dX5_got_14 : decode cX5_got 14 = .ok (.goto 9, 3) := by decide +kernel
theorem dX5_got_17 : decode cX5_got 17 = .ok (.aload_n 0, 1) := by decide +kernel
theorem dX5_got_18 : decode cX5_got 18 = .ok (.getfield 53, 3) := by decide +kernel
theorem dX5_got_21 : decode cX5_got 21 = .ok (.iload_n 1, 1) := by decide +kernel
theorem dX5_got_22 : decode cX5_got 22 = .ok (.iaload, 1) := by decide +kernel
theorem dX5_got_23 : decode cX5_got 23 = .ok (.ireturn, 1) := by decide +kernel
set_option maxRecDepth 20000 in
theorem ggX5_isAtRest_X3_copyFrom : GoodIn wsX5_isAtRest wsX3_copyFrom := goodIn_r _ [7, 8, 9, 10, 11, 12, 13, 14, 15, 16, 126, 127, 128, 129, 130, 131, 132, 133, 134, 135, 136, 137, 138, 139, 140, 141] (by decide +kernel) (by decide +kernel)
set_option maxRecDepth 20000 in
theorem gX5_isAtRest_X3_copyFrom : GoodIn wsX5_isAtRest (wsV RX5 210 RX3 yX3_copyFrom wsX3_copyFrom) := goodIn_app (goodIn_of _ (by decide +kernel)) ggX5_isAtRest_X3_copyFrom
set_option maxRecDepth 20000 in
theorem ggX5_isAtRest_X3_pass : GoodIn wsX5_isAtRest wsX3_pass := goodIn_r _ [20, 16, 21, 22, 23, 24, 6, 25, 26, 27, 28, 8, 29, 9, 30, 10, 31, 32, 33, 34, 35, 36, 37, 38, 12, 39, 40, 41, 42, 43, 44, 45, 46, 47, 48, 49, 50, 51, 52, 13, 14, 15, 53, 54, 55, 56, 11, 57, 58, 59, 60, 61, 62, 63, 64, 65, 66, 67, 68, 69, 70, 71, 72, 73, 74, 75, 76, 77, 78, 79, 80, 81, 82, 83, 84, 85, 86, 87, 88, 89, 90, 91, 92, 93, 94, 95, 96, 97, 98, 99, 100, 101, 102, 103, 104, 105, 106, 107, 126, 127, 128, 129, 130, 131, 132, 133, 134, 135, 136, 137, 138, 139, 140, 141, 142, 143, 144, 145, 146, 147, 148, 149] (by decide +kernel) (by decide +kernel)
set_option maxRecDepth 20000 in
theorem gX5_isAtRest_X3_pass : GoodIn wsX5_isAtRest (wsV RX5 214 RX3 yX3_pass wsX3_pass) := goodIn_app (goodIn_of _ (by decide +kernel)) ggX5_isAtRest_X3_pass
set_option maxRecDepth 20000 in
theorem ggX5_isAtRest_X3_looksLike : GoodIn wsX5_isAtRest wsX3_looksLike := goodIn_r _ [111, 8, 9, 10, 13, 14, 126, 127, 128, 129, 130, 131, 132, 133, 134, 135, 136, 137, 138, 139, 140, 141] (by decide +kernel) (by decide +kernel)
set_option maxRecDepth 20000 in
theorem gX5_isAtRest_X3_looksLike : GoodIn wsX5_isAtRest (wsV RX5 217 RX3 yX3_looksLike wsX3_looksLike) := goodIn_app (goodIn_of _ (by decide +kernel)) ggX5_isAtRest_X3_looksLike
set_option maxRecDepth 20000 in
theorem ggX5_isAtRest_X3_hasWaitingPort : GoodIn wsX5_isAtRest wsX3_hasWaitingPort := goodIn_r _ [115, 15, 126, 127, 128, 129, 130, 131, 132, 133, 134, 135, 136, 137, 138, 139, 140, 141] (by decide +kernel) (by decide +kernel)
set_option maxRecDepth 20000 in
theorem gX5_isAtRest_X3_hasWaitingPort : GoodIn wsX5_isAtRest (wsV RX5 221 RX3 yX3_hasWaitingPort wsX3_hasWaitingPort) := goodIn_app (goodIn_of _ (by decide +kernel)) ggX5_isAtRest_X3_hasWaitingPort
theorem dX5_isAtRest_0 : decode cX5_isAtRest 0 = .ok (.aload_n 0, 1) := by decide +kernel
theorem dX5_isAtRest_1 : decode cX5_isAtRest 1 = .ok (.getfield 25, 3) := by decide +kernel
theorem dX5_isAtRest_4 : decode cX5_isAtRest 4 = .ok (.aload_n 0, 1) := by decide +kernel
theorem dX5_isAtRest_5 : decode cX5_isAtRest 5 = .ok (.getfield 21, 3) := by decide +kernel
theorem dX5_isAtRest_8 : decode cX5_isAtRest 8 = .ok (.invokevirtual 210, 3) := by decide +kernel
theorem dX5_isAtRest_11 : decode cX5_isAtRest 11 = .ok (.aload_n 0, 1) := by decide +kernel
theorem dX5_isAtRest_12 : decode cX5_isAtRest 12 = .ok (.getfield 25, 3) := by decide +kernel
theorem dX5_isAtRest_15 : decode cX5_isAtRest 15 = .ok (.invokevirtual 214, 3) := by decide +kernel
theorem dX5_isAtRest_18 : decode cX5_isAtRest 18 = .ok (.aload_n 0, 1) := by decide +kernel
theorem dX5_isAtRest_19 : decode cX5_isAtRest 19 = .ok (.getfield 25, 3) := by decide +kernel
theorem dX5_isAtRest_22 : decode cX5_isAtRest 22 = .ok (.aload_n 0, 1) := by decide +kernel
theorem dX5_isAtRest_23 : decode cX5_isAtRest 23 = .ok (.getfield 21, 3) := by decide +kernel
theorem dX5_isAtRest_26 : decode cX5_isAtRest 26 = .ok (.invokevirtual 217, 3) := by decide +kernel
theorem dX5_isAtRest_29 : decode cX5_isAtRest 29 = .ok (.ifCond .eq 17, 3) := by decide +kernel
theorem dX5_isAtRest_32 : decode cX5_isAtRest 32 = .ok (.aload_n 0, 1) := by decide +kernel
theorem dX5_isAtRest_33 : decode cX5_isAtRest 33 = .ok (.getfield 25, 3) := by decide +kernel
theorem dX5_isAtRest_36 : decode cX5_isAtRest 36 = .ok (.invokevirtual 221, 3) := by decide +kernel
theorem dX5_isAtRest_39 : decode cX5_isAtRest 39 = .ok (.ifCond .ne 7, 3) := by decide +kernel
theorem dX5_isAtRest_42 : decode cX5_isAtRest 42 = .ok (.iconst 1, 1) := by decide +kernel
theorem dX5_isAtRest_43 : decode cX5_isAtRest 43 = .ok (.goto 4, 3) := by decide +kernel
theorem dX5_isAtRest_46 : decode cX5_isAtRest 46 = .ok (.iconst 0, 1) := by decide +kernel
theorem dX5_isAtRest_47 : decode cX5_isAtRest 47 = .ok (.ireturn, 1) := by decide +kernel
set_option maxRecDepth 20000 in
theorem ggX5_found_X5_needSwitch : GoodIn wsX5_found wsX5_needSwitch := goodIn_ca (goodIn_r _ [7, 8, 9] (by decide +kernel) (by decide +kernel)) (goodIn_sub (fun _ h => List.mem_cons_of_mem _ (List.mem_append_right _ h)) (by decide +kernel))
set_option maxRecDepth 20000 in
theorem gX5_found_X5_needSwitch : GoodIn wsX5_found (va_wsS RX5 130 yX5_needSwitch wsX5_needSwitch) := goodIn_app (goodIn_of _ (by decide +kernel)) ggX5_found_X5_needSwitch
set_option maxRecDepth 20000 in
theorem ggX5_found_X3_measureWays : GoodIn wsX5_found wsX3_measureWays := goodIn_r _ [14, 15, 16, 17, 18, 19, 20, 21, 13, 22, 23, 24, 25, 26, 27, 28, 29, 30, 31, 48, 49, 50, 51, 52, 53, 54, 55, 56, 57, 58, 59, 60, 61, 62, 63, 64, 65, 66, 67, 68, 69, 70, 71] (by decide +kernel) (by decide +kernel)
set_option maxRecDepth 20000 in
theorem gX5_found_X3_measureWays : GoodIn wsX5_found (wsV RX5 225 RX3 yX3_measureWays wsX3_measureWays) := goodIn_app (goodIn_of _ (by decide +kernel)) ggX5_found_X3_measureWays
set_option maxRecDepth 20000 in
theorem ggX5_found_X4_isBetterName : GoodIn wsX5_found wsX4_isBetterName := goodIn_r _ [36, 37, 64, 65, 66, 67, 68, 69, 70, 71] (by decide +kernel) (by decide +kernel)
set_option maxRecDepth 20000 in
theorem gX5_found_X4_isBetterName : GoodIn wsX5_found (wsV RX5 231 RX4 yX4_isBetterName wsX4_isBetterName) := goodIn_app (goodIn_of _ (by decide +kernel)) ggX5_found_X4_isBetterName
theorem dX5_found_0 : decode cX5_found 0 = .ok (.iload_n 1, 1) := by decide +kernel
theorem dX5_found_1 : decode cX5_found 1 = .ok (.invokestatic 130, 3) := by decide +kernel
theorem dX5_found_4 : decode cX5_found 4 = .ok (.aload_n 0, 1) := by decide +kernel
theorem dX5_found_5 : decode cX5_found 5 = .ok (.getfield 21, 3) := by decide +kernel
theorem dX5_found_8 : decode cX5_found 8 = .ok (.iload_n 1, 1) := by decide +kernel
theorem dX5_found_9 : decode cX5_found 9 = .ok (.invokevirtual 225, 3) := by decide +kernel
theorem dX5_found_12 : decode cX5_found 12 = .ok (.iload_n 1, 1) := by decide +kernel
theorem dX5_found_13 : decode cX5_found 13 = .ok (.istore_n 2, 1) := by decide +kernel
theorem dX5_found_14 : decode cX5_found 14 = .ok (.iconst 0, 1) := by decide +kernel
theorem dX5_found_15 : decode cX5_found 15 = .ok (.istore_n 3, 1) := by decide +kernel
theorem dX5_found_16 : decode cX5_found 16 = .ok (.iload_n 3, 1) := by decide +kernel
theorem dX5_found_17 : decode cX5_found 17 = .ok (.bipush 6, 2) := by decide +kernel
theorem dX5_found_19 : decode cX5_found 19 = .ok (.if_icmp .ge 36, 3) := by decide +kernel
theorem dX5_found_22 : decode cX5_found 22 = .ok (.aload_n 0, 1) := by decide +kernel
theorem dX5_found_23 : decode cX5_found 23 = .ok (.getfield 21, 3) := by decide +kernel
theorem dX5_found_26 : decode cX5_found 26 = .ok (.getfield 228, 3) := by decide +kernel
theorem dX5_found_29 : decode cX5_found 29 = .ok (.iload_n 3, 1) := by decide +kernel
theorem dX5_found_30 : decode cX5_found 30 = .ok (.iaload, 1) := by decide +kernel
theorem dX5_found_31 : decode cX5_found 31 = .ok (.iconst (-1), 1) := by decide +kernel
theorem dX5_found_32 : decode cX5_found 32 = .ok (.if_icmp .eq 17, 3) := by decide +kernel
theorem dX5_found_35 : decode cX5_found 35 = .ok (.aload_n 0, 1) := by decide +kernel
theorem dX5_found_36 : decode cX5_found 36 = .ok (.getfield 12, 3) := by decide +kernel
theorem dX5_found_39 : decode cX5_found 39 = .ok (.iload_n 3, 1) := by decide +kernel
theorem dX5_found_40 : decode cX5_found 40 = .ok (.iload_n 2, 1) := by decide +kernel
theorem dX5_found_41 : decode cX5_found 41 = .ok (.invokevirtual 231, 3) := by decide +kernel
theorem dX5_found_44 : decode cX5_found 44 = .ok (.ifCond .eq 5, 3) := by decide +kernel
theorem dX5_found_47 : decode cX5_found 47 = .ok (.iload_n 3, 1) := by decide +kernel
theorem dX5_found_48 : decode cX5_found 48 = .ok (.istore_n 2, 1) := by decide +kernel
theorem dX5_found_49 : decode cX5_found 49 = .ok (.iinc 3 1, 3) := by decide +kernel
theorem dX5_found_52 : decode cX5_found 52 = .ok (.goto (-36), 3) := by decide +kernel
theorem dX5_found_55 : decode cX5_found 55 = .ok (.sipush 1000, 3) := by decide +kernel
theorem dX5_found_58 : decode cX5_found 58 = .ok (.iload_n 2, 1) := by decide +kernel
theorem dX5_found_59 : decode cX5_found 59 = .ok (.imul, 1) := by decide +kernel
theorem dX5_found_60 : decode cX5_found 60 = .ok (.aload_n 0, 1) := by decide +kernel
theorem dX5_found_61 : decode cX5_found 61 = .ok (.getfield 21, 3) := by decide +kernel
theorem dX5_found_64 : decode cX5_found 64 = .ok (.getfield 228, 3) := by decide +kernel
theorem dX5_found_67 : decode cX5_found 67 = .ok (.iload_n 2, 1) := by decide +kernel
theorem dX5_found_68 : decode cX5_found 68 = .ok (.iaload, 1) := by decide +kernel
theorem dX5_found_69 : decode cX5_found 69 = .ok (.iadd, 1) := by decide +kernel
theorem dX5_found_70 : decode cX5_found 70 = .ok (.ireturn, 1) := by decide +kernel
set_option maxRecDepth 20000 in
theorem ggX5_walk_X5_needHouse : GoodIn wsX5_walk wsX5_needHouse := goodIn_ca (goodIn_r _ [13, 14, 15] (by decide +kernel) (by decide +kernel)) (goodIn_sub (fun _ h => List.mem_cons_of_mem _ (List.mem_append_right _ h)) (by decide +kernel))
set_option maxRecDepth 20000 in
theorem gX5_walk_X5_needHouse : GoodIn wsX5_walk (va_wsS RX5 113 yX5_needHouse wsX5_needHouse) := goodIn_app (goodIn_of _ (by decide +kernel)) ggX5_walk_X5_needHouse
set_option maxRecDepth 20000 in
theorem ggX5_walk_X5_laneLetIn : GoodIn wsX5_walk wsX5_laneLetIn := goodIn_r _ [19, 20, 21, 9, 22, 23, 24, 25, 26, 27, 28, 29, 30, 31, 32, 33, 34, 35, 58, 59, 60, 61, 62, 63, 64, 65, 66, 67, 76, 77, 78, 79, 80, 81, 82, 83, 84, 85, 86, 87, 88, 89, 90, 91, 92, 93] (by decide +kernel) (by decide +kernel)
set_option maxRecDepth 20000 in
theorem gX5_walk_X5_laneLetIn : GoodIn wsX5_walk (wsV RX5 239 RX5 yX5_laneLetIn wsX5_laneLetIn) := goodIn_app (goodIn_of _ (by decide +kernel)) ggX5_walk_X5_laneLetIn
set_option maxRecDepth 20000 in
theorem ggX5_walk_X5_wayTold : GoodIn wsX5_walk wsX5_wayTold := goodIn_r _ [39, 40, 20, 21, 9, 41, 42, 43, 44, 45, 46, 47, 48, 49, 50, 51, 12, 52, 53, 29, 30, 25, 31, 32, 33, 34, 35, 58, 59, 60, 61, 62, 63, 64, 65, 66, 67, 76, 77, 78, 79, 80, 81, 82, 83, 84, 85, 86, 87, 88, 89, 90, 91, 94, 95, 96, 92, 93] (by decide +kernel) (by decide +kernel)
set_option maxRecDepth 20000 in
theorem gX5_walk_X5_wayTold : GoodIn wsX5_walk (wsV RX5 242 RX5 yX5_wayTold wsX5_wayTold) := goodIn_app (goodIn_of _ (by decide +kernel)) ggX5_walk_X5_wayTold
set_option maxRecDepth 20000 in
theorem ggX5_walk_X0_tagOut : GoodIn wsX5_walk wsX0_tagOut := goodIn_r _ [57, 27, 92, 93] (by decide +kernel) (by decide +kernel)
set_option maxRecDepth 20000 in
theorem gX5_walk_X0_tagOut : GoodIn wsX5_walk (wsV RX5 248 RX0 yX0_tagOut wsX0_tagOut) := goodIn_app (goodIn_of _ (by decide +kernel)) ggX5_walk_X0_tagOut
theorem dX5_walk_0 : decode cX5_walk 0 = .ok (.iload_n 1, 1) := by decide +kernel
theorem dX5_walk_1 : decode cX5_walk 1 = .ok (.invokestatic 113, 3) := by decide +kernel
theorem dX5_walk_4 : decode cX5_walk 4 = .ok (.iload_n 2, 1) := by decide +kernel
theorem dX5_walk_5 : decode cX5_walk 5 = .ok (.invokestatic 113, 3) := by decide +kernel
theorem dX5_walk_8 : decode cX5_walk 8 = .ok (.iload_n 1, 1) := by decide +kernel
theorem dX5_walk_9 : decode cX5_walk 9 = .ok (.iload_n 2, 1) := by decide +kernel
theorem dX5_walk_10 : decode cX5_walk 10 = .ok (.if_icmp .ne 13, 3) := by decide +kernel
theorem dX5_walk_13 : decode cX5_walk 13 = .ok (.new 67, 3) := by decide +kernel
theorem dX5_walk_16 : decode cX5_walk 16 = .ok (.dup, 1) := by decide +kernel
theorem dX5_walk_17 : decode cX5_walk 17 = .ok (.ldc 235, 2) := by decide +kernel
theorem dX5_walk_19 : decode cX5_walk 19 = .ok (.invokespecial 71, 3) := by decide +kernel
theorem dX5_walk_22 : decode cX5_walk 22 = .ok (.athrow, 1) := by decide +kernel
theorem dX5_walk_23 : decode cX5_walk 23 = .ok (.aload_n 0, 1) := by decide +kernel
theorem dX5_walk_24 : decode cX5_walk 24 = .ok (.getfield 12, 3) := by decide +kernel
theorem dX5_walk_27 : decode cX5_walk 27 = .ok (.getfield 116, 3) := by decide +kernel
theorem dX5_walk_30 : decode cX5_walk 30 = .ok (.iload_n 1, 1) := by decide +kernel
theorem dX5_walk_31 : decode cX5_walk 31 = .ok (.iaload, 1) := by decide +kernel
theorem dX5_walk_32 : decode cX5_walk 32 = .ok (.iconst (-1), 1) := by decide +kernel
theorem dX5_walk_33 : decode cX5_walk 33 = .ok (.if_icmp .eq 16, 3) := by decide +kernel
theorem dX5_walk_36 : decode cX5_walk 36 = .ok (.aload_n 0, 1) := by decide +kernel
theorem dX5_walk_37 : decode cX5_walk 37 = .ok (.getfield 12, 3) := by decide +kernel
theorem dX5_walk_40 : decode cX5_walk 40 = .ok (.getfield 116, 3) := by decide +kernel
theorem dX5_walk_43 : decode cX5_walk 43 = .ok (.iload_n 2, 1) := by decide +kernel
theorem dX5_walk_44 : decode cX5_walk 44 = .ok (.iaload, 1) := by decide +kernel
theorem dX5_walk_45 : decode cX5_walk 45 = .ok (.iconst (-1), 1) := by decide +kernel
theorem dX5_walk_46 : decode cX5_walk 46 = .ok (.if_icmp .ne 13, 3) := by decide +kernel
theorem dX5_walk_49 : decode cX5_walk 49 = .ok (.new 86, 3) := by decide +kernel
theorem dX5_walk_52 : decode cX5_walk 52 = .ok (.dup, 1) := by decide +kernel
theorem dX5_walk_53 : decode cX5_walk 53 = .ok (.ldc 237, 2) := by decide +kernel
theorem dX5_walk_55 : decode cX5_walk 55 = .ok (.invokespecial 90, 3) := by decide +kernel
theorem dX5_walk_58 : decode cX5_walk 58 = .ok (.athrow, 1) := by decide +kernel
theorem dX5_walk_59 : decode cX5_walk 59 = .ok (.aload_n 0, 1) := by decide +kernel
theorem dX5_walk_60 : decode cX5_walk 60 = .ok (.getfield 12, 3) := by decide +kernel
theorem dX5_walk_63 : decode cX5_walk 63 = .ok (.getfield 116, 3) := by decide +kernel
theorem dX5_walk_66 : decode cX5_walk 66 = .ok (.iload_n 1, 1) := by decide +kernel
theorem dX5_walk_67 : decode cX5_walk 67 = .ok (.iaload, 1) := by decide +kernel
theorem dX5_walk_68 : decode cX5_walk 68 = .ok (.istore_n 3, 1) := by decide +kernel
theorem dX5_walk_69 : decode cX5_walk 69 = .ok (.iconst 0, 1) := by decide +kernel
theorem dX5_walk_70 : decode cX5_walk 70 = .ok (.istore 4, 2) := by decide +kernel
theorem dX5_walk_72 : decode cX5_walk 72 = .ok (.iconst 1, 1) := by decide +kernel
theorem dX5_walk_73 : decode cX5_walk 73 = .ok (.istore 5, 2) := by decide +kernel
theorem dX5_walk_75 : decode cX5_walk 75 = .ok (.iload 5, 2) := by decide +kernel
theorem dX5_walk_77 : decode cX5_walk 77 = .ok (.bipush 12, 2) := by decide +kernel
theorem dX5_walk_79 : decode cX5_walk 79 = .ok (.if_icmp .gt 106, 3) := by decide +kernel
theorem dX5_walk_82 : decode cX5_walk 82 = .ok (.aload_n 0, 1) := by decide +kernel
theorem dX5_walk_83 : decode cX5_walk 83 = .ok (.iload_n 3, 1) := by decide +kernel
theorem dX5_walk_84 : decode cX5_walk 84 = .ok (.iload 4, 2) := by decide +kernel
theorem dX5_walk_86 : decode cX5_walk 86 = .ok (.invokevirtual 239, 3) := by decide +kernel
theorem dX5_walk_89 : decode cX5_walk 89 = .ok (.istore 6, 2) := by decide +kernel
theorem dX5_walk_91 : decode cX5_walk 91 = .ok (.iload 6, 2) := by decide +kernel
theorem dX5_walk_93 : decode cX5_walk 93 = .ok (.ifCond .ne 7, 3) := by decide +kernel
theorem dX5_walk_96 : decode cX5_walk 96 = .ok (.iconst (-1), 1) := by decide +kernel
theorem dX5_walk_97 : decode cX5_walk 97 = .ok (.goto 13, 3) := by decide +kernel
theorem dX5_walk_100 : decode cX5_walk 100 = .ok (.aload_n 0, 1) := by decide +kernel
theorem dX5_walk_101 : decode cX5_walk 101 = .ok (.iload_n 3, 1) := by decide +kernel
theorem dX5_walk_102 : decode cX5_walk 102 = .ok (.iconst 5, 1) := by decide +kernel
theorem dX5_walk_103 : decode cX5_walk 103 = .ok (.idiv, 1) := by decide +kernel
theorem dX5_walk_104 : decode cX5_walk 104 = .ok (.iload 6, 2) := by decide +kernel
theorem dX5_walk_106 : decode cX5_walk 106 = .ok (.iload_n 2, 1) := by decide +kernel
theorem dX5_walk_107 : decode cX5_walk 107 = .ok (.invokevirtual 242, 3) := by decide +kernel
theorem dX5_walk_110 : decode cX5_walk 110 = .ok (.istore 7, 2) := by decide +kernel
theorem dX5_walk_112 : decode cX5_walk 112 = .ok (.iload 7, 2) := by decide +kernel
theorem dX5_walk_114 : decode cX5_walk 114 = .ok (.iconst (-1), 1) := by decide +kernel
theorem dX5_walk_115 : decode cX5_walk 115 = .ok (.if_icmp .ne 5, 3) := by decide +kernel
theorem dX5_walk_118 : decode cX5_walk 118 = .ok (.iconst (-1), 1) := by decide +kernel
theorem dX5_walk_119 : decode cX5_walk 119 = .ok (.ireturn, 1) := by decide +kernel
theorem dX5_walk_120 : decode cX5_walk 120 = .ok (.aload_n 0, 1) := by decide +kernel
theorem dX5_walk_121 : decode cX5_walk 121 = .ok (.getfield 12, 3) := by decide +kernel
theorem dX5_walk_124 : decode cX5_walk 124 = .ok (.getfield 99, 3) := by decide +kernel
theorem dX5_walk_127 : decode cX5_walk 127 = .ok (.iload 7, 2) := by decide +kernel
theorem dX5_walk_129 : decode cX5_walk 129 = .ok (.iaload, 1) := by decide +kernel
theorem dX5_walk_130 : decode cX5_walk 130 = .ok (.iconst (-1), 1) := by decide +kernel
theorem dX5_walk_131 : decode cX5_walk 131 = .ok (.if_icmp .ne 24, 3) := by decide +kernel
theorem dX5_walk_134 : decode cX5_walk 134 = .ok (.aload_n 0, 1) := by decide +kernel
theorem dX5_walk_135 : decode cX5_walk 135 = .ok (.getfield 12, 3) := by decide +kernel
theorem dX5_walk_138 : decode cX5_walk 138 = .ok (.getfield 245, 3) := by decide +kernel
theorem dX5_walk_141 : decode cX5_walk 141 = .ok (.iload 7, 2) := by decide +kernel
theorem dX5_walk_143 : decode cX5_walk 143 = .ok (.iaload, 1) := by decide +kernel
theorem dX5_walk_144 : decode cX5_walk 144 = .ok (.iload_n 2, 1) := by decide +kernel
theorem dX5_walk_145 : decode cX5_walk 145 = .ok (.if_icmp .ne 8, 3) := by decide +kernel
theorem dX5_walk_148 : decode cX5_walk 148 = .ok (.iload 5, 2) := by decide +kernel
theorem dX5_walk_150 : decode cX5_walk 150 = .ok (.goto 4, 3) := by decide +kernel
theorem dX5_walk_153 : decode cX5_walk 153 = .ok (.iconst (-1), 1) := by decide +kernel
theorem dX5_walk_154 : decode cX5_walk 154 = .ok (.ireturn, 1) := by decide +kernel
theorem dX5_walk_155 : decode cX5_walk 155 = .ok (.aload_n 0, 1) := by decide +kernel
theorem dX5_walk_156 : decode cX5_walk 156 = .ok (.getfield 31, 3) := by decide +kernel
theorem dX5_walk_159 : decode cX5_walk 159 = .ok (.iload 7, 2) := by decide +kernel
theorem dX5_walk_161 : decode cX5_walk 161 = .ok (.iload 6, 2) := by decide +kernel
theorem dX5_walk_163 : decode cX5_walk 163 = .ok (.invokevirtual 248, 3) := by decide +kernel
theorem dX5_walk_166 : decode cX5_walk 166 = .ok (.istore 4, 2) := by decide +kernel
theorem dX5_walk_168 : decode cX5_walk 168 = .ok (.aload_n 0, 1) := by decide +kernel
theorem dX5_walk_169 : decode cX5_walk 169 = .ok (.getfield 12, 3) := by decide +kernel
theorem dX5_walk_172 : decode cX5_walk 172 = .ok (.getfield 99, 3) := by decide +kernel
theorem dX5_walk_175 : decode cX5_walk 175 = .ok (.iload 7, 2) := by decide +kernel
theorem dX5_walk_177 : decode cX5_walk 177 = .ok (.iaload, 1) := by decide +kernel
theorem dX5_walk_178 : decode cX5_walk 178 = .ok (.istore_n 3, 1) := by decide +kernel
theorem dX5_walk_179 : decode cX5_walk 179 = .ok (.iinc 5 1, 3) := by decide +kernel
theorem dX5_walk_182 : decode cX5_walk 182 = .ok (.goto (-107), 3) := by decide +kernel
theorem dX5_walk_185 : decode cX5_walk 185 = .ok (.iconst (-1), 1) := by decide +kernel
theorem dX5_walk_186 : decode cX5_walk 186 = .ok (.ireturn, 1) := by decide +kernel
theorem dX5_needSwitch_0 : decode cX5_needSwitch 0 = .ok (.iload_n 0, 1) := by decide +kernel
theorem dX5_needSwitch_1 : decode cX5_needSwitch 1 = .ok (.ifCond .lt 9, 3) := by decide +kernel
theorem dX5_needSwitch_4 : decode cX5_needSwitch 4 = .ok (.iload_n 0, 1) := by decide +kernel
theorem dX5_needSwitch_5 : decode cX5_needSwitch 5 = .ok (.bipush 6, 2) := by decide +kernel
theorem dX5_needSwitch_7 : decode cX5_needSwitch 7 = .ok (.if_icmp .lt 13, 3) := by decide +kernel
theorem dX5_needSwitch_10 : decode cX5_needSwitch 10 = .ok (.new 251, 3) := by decide +kernel
theorem dX5_needSwitch_13 : decode cX5_needSwitch 13 = .ok (.dup, 1) := by decide +kernel
theorem dX5_needSwitch_14 : decode cX5_needSwitch 14 = .ok (.ldc 253, 2) := by decide +kernel
theorem dX5_needSwitch_16 : decode cX5_needSwitch 16 = .ok (.invokespecial 255, 3) := by decide +kernel
theorem dX5_needSwitch_19 : decode cX5_needSwitch 19 = .ok (.athrow, 1) := by decide +kernel
theorem dX5_needSwitch_20 : decode cX5_needSwitch 20 = .ok (.return_, 1) := by decide +kernel
set_option maxRecDepth 20000 in
theorem ggX5_needPort_X5_needSwitch : GoodIn wsX5_needPort wsX5_needSwitch := goodIn_ca (goodIn_r _ [6, 1, 2] (by decide +kernel) (by decide +kernel)) (goodIn_sub (fun _ h => List.mem_cons_of_mem _ (List.mem_append_right _ h)) (by decide +kernel))
set_option maxRecDepth 20000 in
theorem gX5_needPort_X5_needSwitch : GoodIn wsX5_needPort (va_wsS RX5 130 yX5_needSwitch wsX5_needSwitch) := goodIn_app (goodIn_of _ (by decide +kernel)) ggX5_needPort_X5_needSwitch
theorem dX5_needPort_0 : decode cX5_needPort 0 = .ok (.iload_n 0, 1) := by decide +kernel
theorem dX5_needPort_1 : decode cX5_needPort 1 = .ok (.invokestatic 130, 3) := by decide +kernel
theorem dX5_needPort_4 : decode cX5_needPort 4 = .ok (.iload_n 1, 1) := by decide +kernel
theorem dX5_needPort_5 : decode cX5_needPort 5 = .ok (.ifCond .lt 8, 3) := by decide +kernel
theorem dX5_needPort_8 : decode cX5_needPort 8 = .ok (.iload_n 1, 1) := by decide +kernel
theorem dX5_needPort_9 : decode cX5_needPort 9 = .ok (.iconst 5, 1) := by decide +kernel
theorem dX5_needPort_10 : decode cX5_needPort 10 = .ok (.if_icmp .lt 14, 3) := by decide +kernel
theorem dX5_needPort_13 : decode cX5_needPort 13 = .ok (.new 251, 3) := by decide +kernel
theorem dX5_needPort_16 : decode cX5_needPort 16 = .ok (.dup, 1) := by decide +kernel
theorem dX5_needPort_17 : decode cX5_needPort 17 = .ok (.ldc_w 256, 3) := by decide +kernel
theorem dX5_needPort_20 : decode cX5_needPort 20 = .ok (.invokespecial 255, 3) := by decide +kernel
theorem dX5_needPort_23 : decode cX5_needPort 23 = .ok (.athrow, 1) := by decide +kernel
theorem dX5_needPort_24 : decode cX5_needPort 24 = .ok (.return_, 1) := by decide +kernel
theorem dX5_needHouse_0 : decode cX5_needHouse 0 = .ok (.iload_n 0, 1) := by decide +kernel
theorem dX5_needHouse_1 : decode cX5_needHouse 1 = .ok (.ifCond .lt 9, 3) := by decide +kernel
theorem dX5_needHouse_4 : decode cX5_needHouse 4 = .ok (.iload_n 0, 1) := by decide +kernel
theorem dX5_needHouse_5 : decode cX5_needHouse 5 = .ok (.bipush 10, 2) := by decide +kernel
theorem dX5_needHouse_7 : decode cX5_needHouse 7 = .ok (.if_icmp .lt 14, 3) := by decide +kernel
theorem dX5_needHouse_10 : decode cX5_needHouse 10 = .ok (.new 251, 3) := by decide +kernel
theorem dX5_needHouse_13 : decode cX5_needHouse 13 = .ok (.dup, 1) := by decide +kernel
theorem dX5_needHouse_14 : decode cX5_needHouse 14 = .ok (.ldc_w 258, 3) := by decide +kernel
theorem dX5_needHouse_17 : decode cX5_needHouse 17 = .ok (.invokespecial 255, 3) := by decide +kernel
theorem dX5_needHouse_20 : decode cX5_needHouse 20 = .ok (.athrow, 1) := by decide +kernel
theorem dX5_needHouse_21 : decode cX5_needHouse 21 = .ok (.return_, 1) := by decide +kernel
theorem dX5_needLane_0 : decode cX5_needLane 0 = .ok (.iload_n 0, 1) := by decide +kernel
theorem dX5_needLane_1 : decode cX5_needLane 1 = .ok (.iconst 1, 1) := by decide +kernel
theorem dX5_needLane_2 : decode cX5_needLane 2 = .ok (.if_icmp .lt 8, 3) := by decide +kernel
theorem dX5_needLane_5 : decode cX5_needLane 5 = .ok (.iload_n 0, 1) := by decide +kernel
theorem dX5_needLane_6 : decode cX5_needLane 6 = .ok (.iconst 3, 1) := by decide +kernel
theorem dX5_needLane_7 : decode cX5_needLane 7 = .ok (.if_icmp .le 14, 3) := by decide +kernel
theorem dX5_needLane_10 : decode cX5_needLane 10 = .ok (.new 251, 3) := by decide +kernel
theorem dX5_needLane_13 : decode cX5_needLane 13 = .ok (.dup, 1) := by decide +kernel
theorem dX5_needLane_14 : decode cX5_needLane 14 = .ok (.ldc_w 260, 3) := by decide +kernel
theorem dX5_needLane_17 : decode cX5_needLane 17 = .ok (.invokespecial 255, 3) := by decide +kernel
theorem dX5_needLane_20 : decode cX5_needLane 20 = .ok (.athrow, 1) := by decide +kernel
theorem dX5_needLane_21 : decode cX5_needLane 21 = .ok (.return_, 1) := by decide +kernel
theorem dX5_needWithin_0 : decode cX5_needWithin 0 = .ok (.iload_n 0, 1) := by decide +kernel
theorem dX5_needWithin_1 : decode cX5_needWithin 1 = .ok (.iload_n 1, 1) := by decide +kernel
theorem dX5_needWithin_2 : decode cX5_needWithin 2 = .ok (.if_icmp .lt 8, 3) := by decide +kernel
theorem dX5_needWithin_5 : decode cX5_needWithin 5 = .ok (.iload_n 0, 1) := by decide +kernel
theorem dX5_needWithin_6 : decode cX5_needWithin 6 = .ok (.iload_n 2, 1) := by decide +kernel
theorem dX5_needWithin_7 : decode cX5_needWithin 7 = .ok (.if_icmp .le 14, 3) := by decide +kernel
theorem dX5_needWithin_10 : decode cX5_needWithin 10 = .ok (.new 67, 3) := by decide +kernel
theorem dX5_needWithin_13 : decode cX5_needWithin 13 = .ok (.dup, 1) := by decide +kernel
theorem dX5_needWithin_14 : decode cX5_needWithin 14 = .ok (.ldc_w 262, 3) := by decide +kernel
theorem dX5_needWithin_17 : decode cX5_needWithin 17 = .ok (.invokespecial 71, 3) := by decide +kernel
theorem dX5_needWithin_20 : decode cX5_needWithin 20 = .ok (.athrow, 1) := by decide +kernel
theorem dX5_needWithin_21 : decode cX5_needWithin 21 = .ok (.return_, 1) := by decide +kernel
theorem dX5_spotOf_0 : decode cX5_spotOf 0 = .ok (.iload_n 0, 1) := by decide +kernel
theorem dX5_spotOf_1 : decode cX5_spotOf 1 = .ok (.iconst 5, 1) := by decide +kernel
theorem dX5_spotOf_2 : decode cX5_spotOf 2 = .ok (.imul, 1) := by decide +kernel
theorem dX5_spotOf_3 : decode cX5_spotOf 3 = .ok (.iload_n 1, 1) := by decide +kernel
theorem dX5_spotOf_4 : decode cX5_spotOf 4 = .ok (.iadd, 1) := by decide +kernel
theorem dX5_spotOf_5 : decode cX5_spotOf 5 = .ok (.ireturn, 1) := by decide +kernel
set_option maxRecDepth 20000 in
theorem ggX5_dropUse_X3_close : GoodIn wsX5_dropUse wsX3_close := goodIn_r _ [7, 8, 9, 10, 32, 33, 34, 35, 36, 37, 38, 39, 40, 41, 42, 43, 44, 45, 46, 47] (by decide +kernel) (by decide +kernel)
set_option maxRecDepth 20000 in
theorem gX5_dropUse_X3_close : GoodIn wsX5_dropUse (wsV RX5 264 RX3 yX3_close wsX3_close) := goodIn_app (goodIn_of _ (by decide +kernel)) ggX5_dropUse_X3_close
set_option maxRecDepth 20000 in
theorem ggX5_dropUse_X2_forgetPort : GoodIn wsX5_dropUse wsX2_forgetPort := goodIn_r _ [15, 16, 17, 18, 19, 14, 20, 21, 48, 49, 50] (by decide +kernel) (by decide +kernel)
set_option maxRecDepth 20000 in
theorem gX5_dropUse_X2_forgetPort : GoodIn wsX5_dropUse (wsV RX5 267 RX2 yX2_forgetPort wsX2_forgetPort) := goodIn_app (goodIn_of _ (by decide +kernel)) ggX5_dropUse_X2_forgetPort
theorem dX5_dropUse_0 : decode cX5_dropUse 0 = .ok (.aload_n 0, 1) := by decide +kernel
theorem dX5_dropUse_1 : decode cX5_dropUse 1 = .ok (.getfield 21, 3) := by decide +kernel
theorem dX5_dropUse_4 : decode cX5_dropUse 4 = .ok (.iload_n 1, 1) := by decide +kernel
theorem dX5_dropUse_5 : decode cX5_dropUse 5 = .ok (.invokevirtual 264, 3) := by decide +kernel
theorem dX5_dropUse_8 : decode cX5_dropUse 8 = .ok (.aload_n 0, 1) := by decide +kernel
theorem dX5_dropUse_9 : decode cX5_dropUse 9 = .ok (.getfield 38, 3) := by decide +kernel
theorem dX5_dropUse_12 : decode cX5_dropUse 12 = .ok (.iload_n 1, 1) := by decide +kernel
theorem dX5_dropUse_13 : decode cX5_dropUse 13 = .ok (.invokevirtual 267, 3) := by decide +kernel
theorem dX5_dropUse_16 : decode cX5_dropUse 16 = .ok (.return_, 1) := by decide +kernel
set_option maxRecDepth 20000 in
theorem ggX5_shutUntil_X3_beginShut : GoodIn wsX5_shutUntil wsX3_beginShut := goodIn_r _ [7, 8, 9, 10, 11, 6, 12, 13, 14, 15, 37, 38, 39, 40, 41, 42, 43, 44, 45, 46, 47, 48, 49, 50, 51, 52] (by decide +kernel) (by decide +kernel)
set_option maxRecDepth 20000 in
theorem gX5_shutUntil_X3_beginShut : GoodIn wsX5_shutUntil (wsV RX5 270 RX3 yX3_beginShut wsX3_beginShut) := goodIn_app (goodIn_of _ (by decide +kernel)) ggX5_shutUntil_X3_beginShut
set_option maxRecDepth 20000 in
theorem ggX5_shutUntil_X2_forgetPort : GoodIn wsX5_shutUntil wsX2_forgetPort := goodIn_r _ [20, 21, 22, 23, 24, 19, 25, 26, 53, 54, 55] (by decide +kernel) (by decide +kernel)
set_option maxRecDepth 20000 in
theorem gX5_shutUntil_X2_forgetPort : GoodIn wsX5_shutUntil (wsV RX5 267 RX2 yX2_forgetPort wsX2_forgetPort) := goodIn_app (goodIn_of _ (by decide +kernel)) ggX5_shutUntil_X2_forgetPort
theorem dX5_shutUntil_0 : decode cX5_shutUntil 0 = .ok (.aload_n 0, 1) := by decide +kernel
theorem dX5_shutUntil_1 : decode cX5_shutUntil 1 = .ok (.getfield 21, 3) := by decide +kernel
theorem dX5_shutUntil_4 : decode cX5_shutUntil 4 = .ok (.iload_n 1, 1) := by decide +kernel
theorem dX5_shutUntil_5 : decode cX5_shutUntil 5 = .ok (.iload_n 2, 1) := by decide +kernel
theorem dX5_shutUntil_6 : decode cX5_shutUntil 6 = .ok (.invokevirtual 270, 3) := by decide +kernel
theorem dX5_shutUntil_9 : decode cX5_shutUntil 9 = .ok (.aload_n 0, 1) := by decide +kernel
theorem dX5_shutUntil_10 : decode cX5_shutUntil 10 = .ok (.getfield 38, 3) := by decide +kernel
theorem dX5_shutUntil_13 : decode cX5_shutUntil 13 = .ok (.iload_n 1, 1) := by decide +kernel
theorem dX5_shutUntil_14 : decode cX5_shutUntil 14 = .ok (.invokevirtual 267, 3) := by decide +kernel
theorem dX5_shutUntil_17 : decode cX5_shutUntil 17 = .ok (.return_, 1) := by decide +kernel
set_option maxRecDepth 20000 in
theorem ggX5_passBeat_X3_pass : GoodIn wsX5_passBeat wsX3_pass := goodIn_r _ [11, 12, 13, 14, 15, 16, 10, 17, 18, 19, 20, 21, 22, 23, 24, 25, 26, 27, 28, 29, 30, 31, 32, 33, 34, 35, 36, 37, 38, 39, 40, 41, 42, 43, 44, 45, 46, 47, 48, 49, 50, 51, 52, 53, 54, 55, 56, 57, 58, 59, 60, 61, 62, 63, 64, 65, 66, 67, 68, 69, 70, 71, 72, 73, 74, 75, 76, 77, 78, 79, 80, 81, 82, 83, 84, 85, 86, 87, 88, 89, 90, 91, 92, 93, 94, 95, 96, 97, 98, 99, 100, 101, 102, 103, 104, 105, 106, 107, 138, 139, 140, 141, 142, 143, 144, 145, 146, 147, 148, 149, 150, 151, 152, 153, 154, 155, 156, 157, 158, 159, 160, 161] (by decide +kernel) (by decide +kernel)
set_option maxRecDepth 20000 in
theorem gX5_passBeat_X3_pass : GoodIn wsX5_passBeat (wsV RX5 214 RX3 yX3_pass wsX3_pass) := goodIn_app (goodIn_of _ (by decide +kernel)) ggX5_passBeat_X3_pass
set_option maxRecDepth 20000 in
theorem ggX5_passBeat_X2_forgetPort : GoodIn wsX5_passBeat wsX2_forgetPort := goodIn_r _ [112, 113, 114, 115, 116, 111, 117, 118, 162, 163, 164] (by decide +kernel) (by decide +kernel)
set_option maxRecDepth 20000 in
theorem gX5_passBeat_X2_forgetPort : GoodIn wsX5_passBeat (wsV RX5 267 RX2 yX2_forgetPort wsX2_forgetPort) := goodIn_app (goodIn_of _ (by decide +kernel)) ggX5_passBeat_X2_forgetPort
set_option maxRecDepth 20000 in
theorem ggX5_passBeat_X2_empty : GoodIn wsX5_passBeat wsX2_empty := goodIn_r _ [122, 113, 118, 162, 163, 164] (by decide +kernel) (by decide +kernel)
set_option maxRecDepth 20000 in
theorem gX5_passBeat_X2_empty : GoodIn wsX5_passBeat (wsV RX5 279 RX2 yX2_empty wsX2_empty) := goodIn_app (goodIn_of _ (by decide +kernel)) ggX5_passBeat_X2_empty
set_option maxRecDepth 20000 in
theorem ggX5_passBeat_X2_dropOld : GoodIn wsX5_passBeat wsX2_dropOld := goodIn_r _ [126, 113, 127, 114, 115, 116, 111, 117, 118, 162, 163, 164] (by decide +kernel) (by decide +kernel)
set_option maxRecDepth 20000 in
theorem gX5_passBeat_X2_dropOld : GoodIn wsX5_passBeat (wsV RX5 282 RX2 yX2_dropOld wsX2_dropOld) := goodIn_app (goodIn_of _ (by decide +kernel)) ggX5_passBeat_X2_dropOld
theorem dX5_passBeat_0 : decode cX5_passBeat 0 = .ok (.aload_n 0, 1) := by decide +kernel
theorem dX5_passBeat_1 : decode cX5_passBeat 1 = .ok (.getfield 21, 3) := by decide +kernel
theorem dX5_passBeat_4 : decode cX5_passBeat 4 = .ok (.invokevirtual 214, 3) := by decide +kernel
theorem dX5_passBeat_7 : decode cX5_passBeat 7 = .ok (.iconst 0, 1) := by decide +kernel
theorem dX5_passBeat_8 : decode cX5_passBeat 8 = .ok (.istore_n 1, 1) := by decide +kernel
theorem dX5_passBeat_9 : decode cX5_passBeat 9 = .ok (.iload_n 1, 1) := by decide +kernel
theorem dX5_passBeat_10 : decode cX5_passBeat 10 = .ok (.bipush 30, 2) := by decide +kernel
theorem dX5_passBeat_12 : decode cX5_passBeat 12 = .ok (.if_icmp .ge 36, 3) := by decide +kernel
theorem dX5_passBeat_15 : decode cX5_passBeat 15 = .ok (.aload_n 0, 1) := by decide +kernel
theorem dX5_passBeat_16 : decode cX5_passBeat 16 = .ok (.getfield 49, 3) := by decide +kernel
theorem dX5_passBeat_19 : decode cX5_passBeat 19 = .ok (.iload_n 1, 1) := by decide +kernel
theorem dX5_passBeat_20 : decode cX5_passBeat 20 = .ok (.iconst 0, 1) := by decide +kernel
theorem dX5_passBeat_21 : decode cX5_passBeat 21 = .ok (.iastore, 1) := by decide +kernel
theorem dX5_passBeat_22 : decode cX5_passBeat 22 = .ok (.aload_n 0, 1) := by decide +kernel
theorem dX5_passBeat_23 : decode cX5_passBeat 23 = .ok (.getfield 21, 3) := by decide +kernel
theorem dX5_passBeat_26 : decode cX5_passBeat 26 = .ok (.getfield 273, 3) := by decide +kernel
theorem dX5_passBeat_29 : decode cX5_passBeat 29 = .ok (.iload_n 1, 1) := by decide +kernel
theorem dX5_passBeat_30 : decode cX5_passBeat 30 = .ok (.baload, 1) := by decide +kernel
theorem dX5_passBeat_31 : decode cX5_passBeat 31 = .ok (.ifCond .eq 11, 3) := by decide +kernel
theorem dX5_passBeat_34 : decode cX5_passBeat 34 = .ok (.aload_n 0, 1) := by decide +kernel
theorem dX5_passBeat_35 : decode cX5_passBeat 35 = .ok (.getfield 38, 3) := by decide +kernel
theorem dX5_passBeat_38 : decode cX5_passBeat 38 = .ok (.iload_n 1, 1) := by decide +kernel
theorem dX5_passBeat_39 : decode cX5_passBeat 39 = .ok (.invokevirtual 267, 3) := by decide +kernel
theorem dX5_passBeat_42 : decode cX5_passBeat 42 = .ok (.iinc 1 1, 3) := by decide +kernel
theorem dX5_passBeat_45 : decode cX5_passBeat 45 = .ok (.goto (-36), 3) := by decide +kernel
theorem dX5_passBeat_48 : decode cX5_passBeat 48 = .ok (.iconst 0, 1) := by decide +kernel
theorem dX5_passBeat_49 : decode cX5_passBeat 49 = .ok (.istore_n 1, 1) := by decide +kernel
theorem dX5_passBeat_50 : decode cX5_passBeat 50 = .ok (.iload_n 1, 1) := by decide +kernel
theorem dX5_passBeat_51 : decode cX5_passBeat 51 = .ok (.bipush 6, 2) := by decide +kernel
theorem dX5_passBeat_53 : decode cX5_passBeat 53 = .ok (.if_icmp .ge 29, 3) := by decide +kernel
theorem dX5_passBeat_56 : decode cX5_passBeat 56 = .ok (.aload_n 0, 1) := by decide +kernel
theorem dX5_passBeat_57 : decode cX5_passBeat 57 = .ok (.getfield 21, 3) := by decide +kernel
theorem dX5_passBeat_60 : decode cX5_passBeat 60 = .ok (.getfield 276, 3) := by decide +kernel
theorem dX5_passBeat_63 : decode cX5_passBeat 63 = .ok (.iload_n 1, 1) := by decide +kernel
theorem dX5_passBeat_64 : decode cX5_passBeat 64 = .ok (.baload, 1) := by decide +kernel
theorem dX5_passBeat_65 : decode cX5_passBeat 65 = .ok (.ifCond .eq 11, 3) := by decide +kernel
theorem dX5_passBeat_68 : decode cX5_passBeat 68 = .ok (.aload_n 0, 1) := by decide +kernel
theorem dX5_passBeat_69 : decode cX5_passBeat 69 = .ok (.getfield 38, 3) := by decide +kernel
theorem dX5_passBeat_72 : decode cX5_passBeat 72 = .ok (.iload_n 1, 1) := by decide +kernel
theorem dX5_passBeat_73 : decode cX5_passBeat 73 = .ok (.invokevirtual 279, 3) := by decide +kernel
theorem dX5_passBeat_76 : decode cX5_passBeat 76 = .ok (.iinc 1 1, 3) := by decide +kernel
theorem dX5_passBeat_79 : decode cX5_passBeat 79 = .ok (.goto (-29), 3) := by decide +kernel
theorem dX5_passBeat_82 : decode cX5_passBeat 82 = .ok (.aload_n 0, 1) := by decide +kernel
theorem dX5_passBeat_83 : decode cX5_passBeat 83 = .ok (.getfield 38, 3) := by decide +kernel
theorem dX5_passBeat_86 : decode cX5_passBeat 86 = .ok (.aload_n 0, 1) := by decide +kernel
theorem dX5_passBeat_87 : decode cX5_passBeat 87 = .ok (.getfield 21, 3) := by decide +kernel
theorem dX5_passBeat_90 : decode cX5_passBeat 90 = .ok (.getfield 160, 3) := by decide +kernel
theorem dX5_passBeat_93 : decode cX5_passBeat 93 = .ok (.invokevirtual 282, 3) := by decide +kernel
theorem dX5_passBeat_96 : decode cX5_passBeat 96 = .ok (.return_, 1) := by decide +kernel
set_option maxRecDepth 20000 in
theorem ggX5_laneLetIn_X0_laneIn : GoodIn wsX5_laneLetIn wsX0_laneIn := goodIn_r _ [8, 9, 10, 11, 12, 7, 13, 14, 15, 16, 17, 44, 45] (by decide +kernel) (by decide +kernel)
set_option maxRecDepth 20000 in
theorem gX5_laneLetIn_X0_laneIn : GoodIn wsX5_laneLetIn (wsV RX5 285 RX0 yX0_laneIn wsX0_laneIn) := goodIn_app (goodIn_of _ (by decide +kernel)) ggX5_laneLetIn_X0_laneIn
theorem dX5_laneLetIn_0 : decode cX5_laneLetIn 0 = .ok (.aload_n 0, 1) := by decide +kernel
theorem dX5_laneLetIn_1 : decode cX5_laneLetIn 1 = .ok (.getfield 21, 3) := by decide +kernel
theorem dX5_laneLetIn_4 : decode cX5_laneLetIn 4 = .ok (.getfield 198, 3) := by decide +kernel
theorem dX5_laneLetIn_7 : decode cX5_laneLetIn 7 = .ok (.iload_n 1, 1) := by decide +kernel
theorem dX5_laneLetIn_8 : decode cX5_laneLetIn 8 = .ok (.baload, 1) := by decide +kernel
theorem dX5_laneLetIn_9 : decode cX5_laneLetIn 9 = .ok (.ifCond .eq 15, 3) := by decide +kernel
theorem dX5_laneLetIn_12 : decode cX5_laneLetIn 12 = .ok (.aload_n 0, 1) := by decide +kernel
theorem dX5_laneLetIn_13 : decode cX5_laneLetIn 13 = .ok (.getfield 31, 3) := by decide +kernel
theorem dX5_laneLetIn_16 : decode cX5_laneLetIn 16 = .ok (.iload_n 1, 1) := by decide +kernel
theorem dX5_laneLetIn_17 : decode cX5_laneLetIn 17 = .ok (.iload_n 2, 1) := by decide +kernel
theorem dX5_laneLetIn_18 : decode cX5_laneLetIn 18 = .ok (.invokevirtual 285, 3) := by decide +kernel
theorem dX5_laneLetIn_21 : decode cX5_laneLetIn 21 = .ok (.goto 4, 3) := by decide +kernel
theorem dX5_laneLetIn_24 : decode cX5_laneLetIn 24 = .ok (.iconst 0, 1) := by decide +kernel
theorem dX5_laneLetIn_25 : decode cX5_laneLetIn 25 = .ok (.ireturn, 1) := by decide +kernel
set_option maxRecDepth 20000 in
theorem ggX5_wayTold_X2_portFor : GoodIn wsX5_wayTold wsX2_portFor := goodIn_r _ [9, 10, 11, 12, 8, 13, 53, 54, 55] (by decide +kernel) (by decide +kernel)
set_option maxRecDepth 20000 in
theorem gX5_wayTold_X2_portFor : GoodIn wsX5_wayTold (wsV RX5 207 RX2 yX2_portFor wsX2_portFor) := goodIn_app (goodIn_of _ (by decide +kernel)) ggX5_wayTold_X2_portFor
set_option maxRecDepth 20000 in
theorem ggX5_wayTold_X5_spotOf : GoodIn wsX5_wayTold wsX5_spotOf := goodIn_r _ [17] (by decide +kernel) (by decide +kernel)
set_option maxRecDepth 20000 in
theorem gX5_wayTold_X5_spotOf : GoodIn wsX5_wayTold (va_wsS RX5 78 yX5_spotOf wsX5_spotOf) := goodIn_app (goodIn_of _ (by decide +kernel)) ggX5_wayTold_X5_spotOf
set_option maxRecDepth 20000 in
theorem ggX5_wayTold_X0_carries : GoodIn wsX5_wayTold wsX0_carries := goodIn_r _ [22, 23, 24, 25, 21, 26, 56, 57] (by decide +kernel) (by decide +kernel)
set_option maxRecDepth 20000 in
theorem gX5_wayTold_X0_carries : GoodIn wsX5_wayTold (wsV RX5 288 RX0 yX0_carries wsX0_carries) := goodIn_app (goodIn_of _ (by decide +kernel)) ggX5_wayTold_X0_carries
theorem dX5_wayTold_0 : decode cX5_wayTold 0 = .ok (.aload_n 0, 1) := by decide +kernel
theorem dX5_wayTold_1 : decode cX5_wayTold 1 = .ok (.getfield 38, 3) := by decide +kernel
theorem dX5_wayTold_4 : decode cX5_wayTold 4 = .ok (.iload_n 1, 1) := by decide +kernel
theorem dX5_wayTold_5 : decode cX5_wayTold 5 = .ok (.iload_n 2, 1) := by decide +kernel
theorem dX5_wayTold_6 : decode cX5_wayTold 6 = .ok (.iload_n 3, 1) := by decide +kernel
theorem dX5_wayTold_7 : decode cX5_wayTold 7 = .ok (.invokevirtual 207, 3) := by decide +kernel
theorem dX5_wayTold_10 : decode cX5_wayTold 10 = .ok (.istore 4, 2) := by decide +kernel
theorem dX5_wayTold_12 : decode cX5_wayTold 12 = .ok (.iload 4, 2) := by decide +kernel
theorem dX5_wayTold_14 : decode cX5_wayTold 14 = .ok (.iconst (-1), 1) := by decide +kernel
theorem dX5_wayTold_15 : decode cX5_wayTold 15 = .ok (.if_icmp .ne 5, 3) := by decide +kernel
theorem dX5_wayTold_18 : decode cX5_wayTold 18 = .ok (.iconst (-1), 1) := by decide +kernel
theorem dX5_wayTold_19 : decode cX5_wayTold 19 = .ok (.ireturn, 1) := by decide +kernel
theorem dX5_wayTold_20 : decode cX5_wayTold 20 = .ok (.iload_n 1, 1) := by decide +kernel
theorem dX5_wayTold_21 : decode cX5_wayTold 21 = .ok (.iload 4, 2) := by decide +kernel
theorem dX5_wayTold_23 : decode cX5_wayTold 23 = .ok (.invokestatic 78, 3) := by decide +kernel
theorem dX5_wayTold_26 : decode cX5_wayTold 26 = .ok (.istore 5, 2) := by decide +kernel
theorem dX5_wayTold_28 : decode cX5_wayTold 28 = .ok (.aload_n 0, 1) := by decide +kernel
theorem dX5_wayTold_29 : decode cX5_wayTold 29 = .ok (.getfield 21, 3) := by decide +kernel
theorem dX5_wayTold_32 : decode cX5_wayTold 32 = .ok (.getfield 198, 3) := by decide +kernel
theorem dX5_wayTold_35 : decode cX5_wayTold 35 = .ok (.iload 5, 2) := by decide +kernel
theorem dX5_wayTold_37 : decode cX5_wayTold 37 = .ok (.baload, 1) := by decide +kernel
theorem dX5_wayTold_38 : decode cX5_wayTold 38 = .ok (.ifCond .eq 21, 3) := by decide +kernel
theorem dX5_wayTold_41 : decode cX5_wayTold 41 = .ok (.aload_n 0, 1) := by decide +kernel
theorem dX5_wayTold_42 : decode cX5_wayTold 42 = .ok (.getfield 31, 3) := by decide +kernel
theorem dX5_wayTold_45 : decode cX5_wayTold 45 = .ok (.iload 5, 2) := by decide +kernel
theorem dX5_wayTold_47 : decode cX5_wayTold 47 = .ok (.iload_n 2, 1) := by decide +kernel
theorem dX5_wayTold_48 : decode cX5_wayTold 48 = .ok (.invokevirtual 288, 3) := by decide +kernel
theorem dX5_wayTold_51 : decode cX5_wayTold 51 = .ok (.ifCond .eq 8, 3) := by decide +kernel
theorem dX5_wayTold_54 : decode cX5_wayTold 54 = .ok (.iload 5, 2) := by decide +kernel
theorem dX5_wayTold_56 : decode cX5_wayTold 56 = .ok (.goto 4, 3) := by decide +kernel
theorem dX5_wayTold_59 : decode cX5_wayTold 59 = .ok (.iconst (-1), 1) := by decide +kernel
theorem dX5_wayTold_60 : decode cX5_wayTold 60 = .ok (.ireturn, 1) := by decide +kernel
set_option maxRecDepth 20000 in
theorem ggX5_takeStep_X5_laneLetIn : GoodIn wsX5_takeStep wsX5_laneLetIn := goodIn_r _ [12, 5, 7, 13, 14, 15, 16, 17, 18, 19, 20, 21, 22, 23, 24, 25, 26, 27, 107, 108, 109, 110, 111, 112, 113, 114, 115, 116, 122, 123, 124, 125, 126, 127, 128, 129, 130, 131, 132, 133, 134, 135, 136, 137, 138, 139] (by decide +kernel) (by decide +kernel)
set_option maxRecDepth 20000 in
theorem gX5_takeStep_X5_laneLetIn : GoodIn wsX5_takeStep (wsV RX5 239 RX5 yX5_laneLetIn wsX5_laneLetIn) := goodIn_app (goodIn_of _ (by decide +kernel)) ggX5_takeStep_X5_laneLetIn
set_option maxRecDepth 20000 in
theorem ggX5_takeStep_X2_hear : GoodIn wsX5_takeStep wsX2_hear := goodIn_r _ [32, 33, 34, 35, 36, 37, 31, 38, 140, 141, 142] (by decide +kernel) (by decide +kernel)
set_option maxRecDepth 20000 in
theorem gX5_takeStep_X2_hear : GoodIn wsX5_takeStep (wsV RX5 297 RX2 yX2_hear wsX2_hear) := goodIn_app (goodIn_of _ (by decide +kernel)) ggX5_takeStep_X2_hear
set_option maxRecDepth 20000 in
theorem ggX5_takeStep_X2_portFor : GoodIn wsX5_takeStep wsX2_portFor := goodIn_r _ [42, 33, 36, 37, 31, 38, 140, 141, 142] (by decide +kernel) (by decide +kernel)
set_option maxRecDepth 20000 in
theorem gX5_takeStep_X2_portFor : GoodIn wsX5_takeStep (wsV RX5 207 RX2 yX2_portFor wsX2_portFor) := goodIn_app (goodIn_of _ (by decide +kernel)) ggX5_takeStep_X2_portFor
set_option maxRecDepth 20000 in
theorem ggX5_takeStep_X5_spotOf : GoodIn wsX5_takeStep wsX5_spotOf := goodIn_r _ [45] (by decide +kernel) (by decide +kernel)
set_option maxRecDepth 20000 in
theorem gX5_takeStep_X5_spotOf : GoodIn wsX5_takeStep (va_wsS RX5 78 yX5_spotOf wsX5_spotOf) := goodIn_app (goodIn_of _ (by decide +kernel)) ggX5_takeStep_X5_spotOf
set_option maxRecDepth 20000 in
theorem ggX5_takeStep_X5_flood : GoodIn wsX5_takeStep wsX5_flood := goodIn_r _ [49, 1, 2, 50, 51, 5, 6, 7, 52, 53, 54, 11, 55, 4, 56, 57, 58, 59, 60, 61, 62, 63, 64, 65, 66, 67, 68, 69, 70, 71, 31, 72, 33, 73, 74, 75, 76, 34, 77, 78, 79, 80, 13, 81, 82, 83, 84, 85, 86, 21, 22, 17, 23, 24, 25, 26, 27, 87, 88, 89, 90, 91, 92, 93, 94, 95, 96, 19, 97, 98, 99, 100, 101, 102, 103, 104, 105, 106, 107, 108, 109, 110, 111, 112, 113, 114, 115, 116, 117, 118, 119, 120, 121, 122, 123, 124, 125, 126, 127, 128, 129, 130, 131, 132, 133, 134, 135, 136, 137, 140, 141, 142, 143, 144, 145, 146, 147, 148, 149, 150, 138, 139] (by decide +kernel) (by decide +kernel)
set_option maxRecDepth 20000 in
theorem gX5_takeStep_X5_flood : GoodIn wsX5_takeStep (wsV RX5 300 RX5 yX5_flood wsX5_flood) := goodIn_app (goodIn_of _ (by decide +kernel)) ggX5_takeStep_X5_flood
set_option maxRecDepth 20000 in
theorem ggX5_takeStep_X5_goOut : GoodIn wsX5_takeStep wsX5_goOut := goodIn_r _ [80, 13, 81, 82, 83, 1, 84, 85, 86, 21, 22, 17, 23, 24, 25, 26, 27, 87, 88, 89, 11, 90, 91, 92, 93, 94, 95, 96, 19, 97, 98, 99, 100, 101, 102, 103, 104, 105, 106, 107, 108, 109, 110, 111, 112, 113, 114, 115, 116, 143, 144, 145, 146, 147, 148, 149, 150, 117, 118, 119, 120, 121, 138, 139] (by decide +kernel) (by decide +kernel)
set_option maxRecDepth 20000 in
theorem gX5_takeStep_X5_goOut : GoodIn wsX5_takeStep (wsV RX5 303 RX5 yX5_goOut wsX5_goOut) := goodIn_app (goodIn_of _ (by decide +kernel)) ggX5_takeStep_X5_goOut
theorem dX5_takeStep_0 : decode cX5_takeStep 0 = .ok (.aload_n 0, 1) := by decide +kernel
theorem dX5_takeStep_1 : decode cX5_takeStep 1 = .ok (.getfield 45, 3) := by decide +kernel
theorem dX5_takeStep_4 : decode cX5_takeStep 4 = .ok (.getfield 291, 3) := by decide +kernel
theorem dX5_takeStep_7 : decode cX5_takeStep 7 = .ok (.iload_n 1, 1) := by decide +kernel
theorem dX5_takeStep_8 : decode cX5_takeStep 8 = .ok (.iaload, 1) := by decide +kernel
theorem dX5_takeStep_9 : decode cX5_takeStep 9 = .ok (.istore 4, 2) := by decide +kernel
theorem dX5_takeStep_11 : decode cX5_takeStep 11 = .ok (.aload_n 0, 1) := by decide +kernel
theorem dX5_takeStep_12 : decode cX5_takeStep 12 = .ok (.iload 4, 2) := by decide +kernel
theorem dX5_takeStep_14 : decode cX5_takeStep 14 = .ok (.aload_n 0, 1) := by decide +kernel
theorem dX5_takeStep_15 : decode cX5_takeStep 15 = .ok (.getfield 45, 3) := by decide +kernel
theorem dX5_takeStep_18 : decode cX5_takeStep 18 = .ok (.getfield 294, 3) := by decide +kernel
theorem dX5_takeStep_21 : decode cX5_takeStep 21 = .ok (.iload_n 1, 1) := by decide +kernel
theorem dX5_takeStep_22 : decode cX5_takeStep 22 = .ok (.iaload, 1) := by decide +kernel
theorem dX5_takeStep_23 : decode cX5_takeStep 23 = .ok (.invokevirtual 239, 3) := by decide +kernel
theorem dX5_takeStep_26 : decode cX5_takeStep 26 = .ok (.istore 5, 2) := by decide +kernel
theorem dX5_takeStep_28 : decode cX5_takeStep 28 = .ok (.iload 5, 2) := by decide +kernel
theorem dX5_takeStep_30 : decode cX5_takeStep 30 = .ok (.ifCond .ne 5, 3) := by decide +kernel
theorem dX5_takeStep_33 : decode cX5_takeStep 33 = .ok (.iconst 0, 1) := by decide +kernel
theorem dX5_takeStep_34 : decode cX5_takeStep 34 = .ok (.ireturn, 1) := by decide +kernel
theorem dX5_takeStep_35 : decode cX5_takeStep 35 = .ok (.iload 4, 2) := by decide +kernel
theorem dX5_takeStep_37 : decode cX5_takeStep 37 = .ok (.iconst 5, 1) := by decide +kernel
theorem dX5_takeStep_38 : decode cX5_takeStep 38 = .ok (.idiv, 1) := by decide +kernel
theorem dX5_takeStep_39 : decode cX5_takeStep 39 = .ok (.istore 6, 2) := by decide +kernel
theorem dX5_takeStep_41 : decode cX5_takeStep 41 = .ok (.aload_n 0, 1) := by decide +kernel
theorem dX5_takeStep_42 : decode cX5_takeStep 42 = .ok (.getfield 38, 3) := by decide +kernel
theorem dX5_takeStep_45 : decode cX5_takeStep 45 = .ok (.iload 4, 2) := by decide +kernel
theorem dX5_takeStep_47 : decode cX5_takeStep 47 = .ok (.iload 5, 2) := by decide +kernel
theorem dX5_takeStep_49 : decode cX5_takeStep 49 = .ok (.iload_n 2, 1) := by decide +kernel
theorem dX5_takeStep_50 : decode cX5_takeStep 50 = .ok (.aload_n 0, 1) := by decide +kernel
theorem dX5_takeStep_51 : decode cX5_takeStep 51 = .ok (.getfield 21, 3) := by decide +kernel
theorem dX5_takeStep_54 : decode cX5_takeStep 54 = .ok (.getfield 160, 3) := by decide +kernel
theorem dX5_takeStep_57 : decode cX5_takeStep 57 = .ok (.invokevirtual 297, 3) := by decide +kernel
theorem dX5_takeStep_60 : decode cX5_takeStep 60 = .ok (.iload_n 3, 1) := by decide +kernel
theorem dX5_takeStep_61 : decode cX5_takeStep 61 = .ok (.bipush 10, 2) := by decide +kernel
theorem dX5_takeStep_63 : decode cX5_takeStep 63 = .ok (.if_icmp .ne 7, 3) := by decide +kernel
theorem dX5_takeStep_66 : decode cX5_takeStep 66 = .ok (.iconst (-1), 1) := by decide +kernel
theorem dX5_takeStep_67 : decode cX5_takeStep 67 = .ok (.goto 15, 3) := by decide +kernel
theorem dX5_takeStep_70 : decode cX5_takeStep 70 = .ok (.aload_n 0, 1) := by decide +kernel
theorem dX5_takeStep_71 : decode cX5_takeStep 71 = .ok (.getfield 38, 3) := by decide +kernel
theorem dX5_takeStep_74 : decode cX5_takeStep 74 = .ok (.iload 6, 2) := by decide +kernel
theorem dX5_takeStep_76 : decode cX5_takeStep 76 = .ok (.iload 5, 2) := by decide +kernel
theorem dX5_takeStep_78 : decode cX5_takeStep 78 = .ok (.iload_n 3, 1) := by decide +kernel
theorem dX5_takeStep_79 : decode cX5_takeStep 79 = .ok (.invokevirtual 207, 3) := by decide +kernel
theorem dX5_takeStep_82 : decode cX5_takeStep 82 = .ok (.istore 7, 2) := by decide +kernel
theorem dX5_takeStep_84 : decode cX5_takeStep 84 = .ok (.iload 7, 2) := by decide +kernel
theorem dX5_takeStep_86 : decode cX5_takeStep 86 = .ok (.iconst (-1), 1) := by decide +kernel
theorem dX5_takeStep_87 : decode cX5_takeStep 87 = .ok (.if_icmp .eq 21, 3) := by decide +kernel
theorem dX5_takeStep_90 : decode cX5_takeStep 90 = .ok (.aload_n 0, 1) := by decide +kernel
theorem dX5_takeStep_91 : decode cX5_takeStep 91 = .ok (.getfield 21, 3) := by decide +kernel
theorem dX5_takeStep_94 : decode cX5_takeStep 94 = .ok (.getfield 198, 3) := by decide +kernel
theorem dX5_takeStep_97 : decode cX5_takeStep 97 = .ok (.iload 6, 2) := by decide +kernel
theorem dX5_takeStep_99 : decode cX5_takeStep 99 = .ok (.iload 7, 2) := by decide +kernel
theorem dX5_takeStep_101 : decode cX5_takeStep 101 = .ok (.invokestatic 78, 3) := by decide +kernel
theorem dX5_takeStep_104 : decode cX5_takeStep 104 = .ok (.baload, 1) := by decide +kernel
theorem dX5_takeStep_105 : decode cX5_takeStep 105 = .ok (.ifCond .ne 12, 3) := by decide +kernel
theorem dX5_takeStep_108 : decode cX5_takeStep 108 = .ok (.aload_n 0, 1) := by decide +kernel
theorem dX5_takeStep_109 : decode cX5_takeStep 109 = .ok (.iload_n 1, 1) := by decide +kernel
theorem dX5_takeStep_110 : decode cX5_takeStep 110 = .ok (.iload 5, 2) := by decide +kernel
theorem dX5_takeStep_112 : decode cX5_takeStep 112 = .ok (.iload_n 3, 1) := by decide +kernel
theorem dX5_takeStep_113 : decode cX5_takeStep 113 = .ok (.invokevirtual 300, 3) := by decide +kernel
theorem dX5_takeStep_116 : decode cX5_takeStep 116 = .ok (.ireturn, 1) := by decide +kernel
theorem dX5_takeStep_117 : decode cX5_takeStep 117 = .ok (.iload 6, 2) := by decide +kernel
theorem dX5_takeStep_119 : decode cX5_takeStep 119 = .ok (.iload 7, 2) := by decide +kernel
theorem dX5_takeStep_121 : decode cX5_takeStep 121 = .ok (.invokestatic 78, 3) := by decide +kernel
theorem dX5_takeStep_124 : decode cX5_takeStep 124 = .ok (.istore 8, 2) := by decide +kernel
theorem dX5_takeStep_126 : decode cX5_takeStep 126 = .ok (.iload 8, 2) := by decide +kernel
theorem dX5_takeStep_128 : decode cX5_takeStep 128 = .ok (.iload 4, 2) := by decide +kernel
theorem dX5_takeStep_130 : decode cX5_takeStep 130 = .ok (.if_icmp .ne 7, 3) := by decide +kernel
theorem dX5_takeStep_133 : decode cX5_takeStep 133 = .ok (.iconst 0, 1) := by decide +kernel
theorem dX5_takeStep_134 : decode cX5_takeStep 134 = .ok (.goto 13, 3) := by decide +kernel
theorem dX5_takeStep_137 : decode cX5_takeStep 137 = .ok (.aload_n 0, 1) := by decide +kernel
theorem dX5_takeStep_138 : decode cX5_takeStep 138 = .ok (.iload 8, 2) := by decide +kernel
theorem dX5_takeStep_140 : decode cX5_takeStep 140 = .ok (.iload_n 1, 1) := by decide +kernel
theorem dX5_takeStep_141 : decode cX5_takeStep 141 = .ok (.iload 5, 2) := by decide +kernel
theorem dX5_takeStep_143 : decode cX5_takeStep 143 = .ok (.iload_n 3, 1) := by decide +kernel
theorem dX5_takeStep_144 : decode cX5_takeStep 144 = .ok (.invokevirtual 303, 3) := by decide +kernel
theorem dX5_takeStep_147 : decode cX5_takeStep 147 = .ok (.ireturn, 1) := by decide +kernel
set_option maxRecDepth 20000 in
theorem ggX5_flood_X5_shutUntil : GoodIn wsX5_flood wsX5_shutUntil := goodIn_r _ [12, 5, 13, 14, 15, 16, 17, 18, 19, 20, 21, 22, 23, 24, 25, 26, 27, 28, 29, 30, 31, 32, 33, 34, 35, 36, 37, 78, 79, 80, 81, 82, 83, 84, 85, 86, 87, 93, 94, 95, 96, 97, 98, 99, 100, 101, 102, 103, 104, 105, 106, 107, 108, 109, 110, 111] (by decide +kernel) (by decide +kernel)
set_option maxRecDepth 20000 in
theorem gX5_flood_X5_shutUntil : GoodIn wsX5_flood (wsV RX5 142 RX5 yX5_shutUntil wsX5_shutUntil) := goodIn_app (goodIn_of _ (by decide +kernel)) ggX5_flood_X5_shutUntil
set_option maxRecDepth 20000 in
theorem ggX5_flood_X5_goOut : GoodIn wsX5_flood wsX5_goOut := goodIn_r _ [41, 42, 43, 44, 45, 1, 46, 47, 48, 49, 50, 51, 52, 53, 54, 55, 56, 57, 58, 59, 11, 60, 61, 62, 63, 64, 65, 66, 67, 68, 69, 70, 71, 72, 73, 74, 75, 76, 77, 78, 79, 80, 81, 82, 83, 84, 85, 86, 87, 112, 113, 114, 115, 116, 117, 118, 119, 88, 89, 90, 91, 92, 120, 121] (by decide +kernel) (by decide +kernel)
set_option maxRecDepth 20000 in
theorem gX5_flood_X5_goOut : GoodIn wsX5_flood (wsV RX5 303 RX5 yX5_goOut wsX5_goOut) := goodIn_app (goodIn_of _ (by decide +kernel)) ggX5_flood_X5_goOut
theorem dX5_flood_0 : decode cX5_flood 0 = .ok (.aload_n 0, 1) := by decide +kernel
theorem dX5_flood_1 : decode cX5_flood 1 = .ok (.getfield 45, 3) := by decide +kernel
theorem dX5_flood_4 : decode cX5_flood 4 = .ok (.getfield 291, 3) := by decide +kernel
theorem dX5_flood_7 : decode cX5_flood 7 = .ok (.iload_n 1, 1) := by decide +kernel
theorem dX5_flood_8 : decode cX5_flood 8 = .ok (.iaload, 1) := by decide +kernel
theorem dX5_flood_9 : decode cX5_flood 9 = .ok (.istore 4, 2) := by decide +kernel
theorem dX5_flood_11 : decode cX5_flood 11 = .ok (.aload_n 0, 1) := by decide +kernel
theorem dX5_flood_12 : decode cX5_flood 12 = .ok (.getfield 49, 3) := by decide +kernel
theorem dX5_flood_15 : decode cX5_flood 15 = .ok (.iload 4, 2) := by decide +kernel
theorem dX5_flood_17 : decode cX5_flood 17 = .ok (.dup2, 1) := by decide +kernel
theorem dX5_flood_18 : decode cX5_flood 18 = .ok (.iaload, 1) := by decide +kernel
theorem dX5_flood_19 : decode cX5_flood 19 = .ok (.iconst 1, 1) := by decide +kernel
theorem dX5_flood_20 : decode cX5_flood 20 = .ok (.iadd, 1) := by decide +kernel
theorem dX5_flood_21 : decode cX5_flood 21 = .ok (.iastore, 1) := by decide +kernel
theorem dX5_flood_22 : decode cX5_flood 22 = .ok (.aload_n 0, 1) := by decide +kernel
theorem dX5_flood_23 : decode cX5_flood 23 = .ok (.getfield 49, 3) := by decide +kernel
theorem dX5_flood_26 : decode cX5_flood 26 = .ok (.iload 4, 2) := by decide +kernel
theorem dX5_flood_28 : decode cX5_flood 28 = .ok (.iaload, 1) := by decide +kernel
theorem dX5_flood_29 : decode cX5_flood 29 = .ok (.aload_n 0, 1) := by decide +kernel
theorem dX5_flood_30 : decode cX5_flood 30 = .ok (.getfield 59, 3) := by decide +kernel
theorem dX5_flood_33 : decode cX5_flood 33 = .ok (.if_icmp .le 20, 3) := by decide +kernel
theorem dX5_flood_36 : decode cX5_flood 36 = .ok (.aload_n 0, 1) := by decide +kernel
theorem dX5_flood_37 : decode cX5_flood 37 = .ok (.iload 4, 2) := by decide +kernel
theorem dX5_flood_39 : decode cX5_flood 39 = .ok (.aload_n 0, 1) := by decide +kernel
theorem dX5_flood_40 : decode cX5_flood 40 = .ok (.getfield 21, 3) := by decide +kernel
theorem dX5_flood_43 : decode cX5_flood 43 = .ok (.getfield 160, 3) := by decide +kernel
theorem dX5_flood_46 : decode cX5_flood 46 = .ok (.iconst 5, 1) := by decide +kernel
theorem dX5_flood_47 : decode cX5_flood 47 = .ok (.iadd, 1) := by decide +kernel
theorem dX5_flood_48 : decode cX5_flood 48 = .ok (.invokevirtual 142, 3) := by decide +kernel
theorem dX5_flood_51 : decode cX5_flood 51 = .ok (.iconst 0, 1) := by decide +kernel
theorem dX5_flood_52 : decode cX5_flood 52 = .ok (.ireturn, 1) := by decide +kernel
theorem dX5_flood_53 : decode cX5_flood 53 = .ok (.iload 4, 2) := by decide +kernel
theorem dX5_flood_55 : decode cX5_flood 55 = .ok (.iload 4, 2) := by decide +kernel
theorem dX5_flood_57 : decode cX5_flood 57 = .ok (.iconst 5, 1) := by decide +kernel
theorem dX5_flood_58 : decode cX5_flood 58 = .ok (.irem, 1) := by decide +kernel
theorem dX5_flood_59 : decode cX5_flood 59 = .ok (.isub, 1) := by decide +kernel
theorem dX5_flood_60 : decode cX5_flood 60 = .ok (.istore 5, 2) := by decide +kernel
theorem dX5_flood_62 : decode cX5_flood 62 = .ok (.iconst 0, 1) := by decide +kernel
theorem dX5_flood_63 : decode cX5_flood 63 = .ok (.istore 6, 2) := by decide +kernel
theorem dX5_flood_65 : decode cX5_flood 65 = .ok (.iload 5, 2) := by decide +kernel
theorem dX5_flood_67 : decode cX5_flood 67 = .ok (.istore 7, 2) := by decide +kernel
theorem dX5_flood_69 : decode cX5_flood 69 = .ok (.iload 7, 2) := by decide +kernel
theorem dX5_flood_71 : decode cX5_flood 71 = .ok (.iload 5, 2) := by decide +kernel
theorem dX5_flood_73 : decode cX5_flood 73 = .ok (.iconst 5, 1) := by decide +kernel
theorem dX5_flood_74 : decode cX5_flood 74 = .ok (.iadd, 1) := by decide +kernel
theorem dX5_flood_75 : decode cX5_flood 75 = .ok (.if_icmp .ge 43, 3) := by decide +kernel
theorem dX5_flood_78 : decode cX5_flood 78 = .ok (.iload 7, 2) := by decide +kernel
theorem dX5_flood_80 : decode cX5_flood 80 = .ok (.iload 4, 2) := by decide +kernel
theorem dX5_flood_82 : decode cX5_flood 82 = .ok (.if_icmp .eq 30, 3) := by decide +kernel
theorem dX5_flood_85 : decode cX5_flood 85 = .ok (.aload_n 0, 1) := by decide +kernel
theorem dX5_flood_86 : decode cX5_flood 86 = .ok (.getfield 21, 3) := by decide +kernel
theorem dX5_flood_89 : decode cX5_flood 89 = .ok (.getfield 198, 3) := by decide +kernel
theorem dX5_flood_92 : decode cX5_flood 92 = .ok (.iload 7, 2) := by decide +kernel
theorem dX5_flood_94 : decode cX5_flood 94 = .ok (.baload, 1) := by decide +kernel
theorem dX5_flood_95 : decode cX5_flood 95 = .ok (.ifCond .eq 17, 3) := by decide +kernel
theorem dX5_flood_98 : decode cX5_flood 98 = .ok (.iload 6, 2) := by decide +kernel
theorem dX5_flood_100 : decode cX5_flood 100 = .ok (.aload_n 0, 1) := by decide +kernel
theorem dX5_flood_101 : decode cX5_flood 101 = .ok (.iload 7, 2) := by decide +kernel
theorem dX5_flood_103 : decode cX5_flood 103 = .ok (.iload_n 1, 1) := by decide +kernel
theorem dX5_flood_104 : decode cX5_flood 104 = .ok (.iload_n 2, 1) := by decide +kernel
theorem dX5_flood_105 : decode cX5_flood 105 = .ok (.iload_n 3, 1) := by decide +kernel
theorem dX5_flood_106 : decode cX5_flood 106 = .ok (.invokevirtual 303, 3) := by decide +kernel
theorem dX5_flood_109 : decode cX5_flood 109 = .ok (.iadd, 1) := by decide +kernel
theorem dX5_flood_110 : decode cX5_flood 110 = .ok (.istore 6, 2) := by decide +kernel
theorem dX5_flood_112 : decode cX5_flood 112 = .ok (.iinc 7 1, 3) := by decide +kernel
