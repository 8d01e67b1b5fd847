theorem dX0_init_0 : decode cX0_init 0 = .ok (.aload_n 0, 1) := by decide +kernel
theorem dX0_init_1 : decode cX0_init 1 = .ok (.invokespecial 3, 3) := by decide +kernel
theorem dX0_init_4 : decode cX0_init 4 = .ok (.aload_n 0, 1) := by decide +kernel
theorem dX0_init_5 : decode cX0_init 5 = .ok (.bipush 30, 2) := by decide +kernel
theorem dX0_init_7 : decode cX0_init 7 = .ok (.newarray .int, 2) := by decide +kernel
theorem dX0_init_9 : decode cX0_init 9 = .ok (.putfield 9, 3) := by decide +kernel
theorem dX0_init_12 : decode cX0_init 12 = .ok (.aload_n 0, 1) := by decide +kernel
theorem dX0_init_13 : decode cX0_init 13 = .ok (.bipush 30, 2) := by decide +kernel
theorem dX0_init_15 : decode cX0_init 15 = .ok (.newarray .int, 2) := by decide +kernel
theorem dX0_init_17 : decode cX0_init 17 = .ok (.putfield 15, 3) := by decide +kernel
theorem dX0_init_20 : decode cX0_init 20 = .ok (.iconst 0, 1) := by decide +kernel
theorem dX0_init_21 : decode cX0_init 21 = .ok (.istore_n 1, 1) := by decide +kernel
theorem dX0_init_22 : decode cX0_init 22 = .ok (.iload_n 1, 1) := by decide +kernel
theorem dX0_init_23 : decode cX0_init 23 = .ok (.bipush 30, 2) := by decide +kernel
theorem dX0_init_25 : decode cX0_init 25 = .ok (.if_icmp .ge 23, 3) := by decide +kernel
theorem dX0_init_28 : decode cX0_init 28 = .ok (.aload_n 0, 1) := by decide +kernel
theorem dX0_init_29 : decode cX0_init 29 = .ok (.getfield 9, 3) := by decide +kernel
theorem dX0_init_32 : decode cX0_init 32 = .ok (.iload_n 1, 1) := by decide +kernel
theorem dX0_init_33 : decode cX0_init 33 = .ok (.iconst 1, 1) := by decide +kernel
theorem dX0_init_34 : decode cX0_init 34 = .ok (.iastore, 1) := by decide +kernel
theorem dX0_init_35 : decode cX0_init 35 = .ok (.aload_n 0, 1) := by decide +kernel
theorem dX0_init_36 : decode cX0_init 36 = .ok (.getfield 15, 3) := by decide +kernel
theorem dX0_init_39 : decode cX0_init 39 = .ok (.iload_n 1, 1) := by decide +kernel
theorem dX0_init_40 : decode cX0_init 40 = .ok (.iconst 1, 1) := by decide +kernel
theorem dX0_init_41 : decode cX0_init 41 = .ok (.iastore, 1) := by decide +kernel
theorem dX0_init_42 : decode cX0_init 42 = .ok (.iinc 1 1, 3) := by decide +kernel
theorem dX0_init_45 : decode cX0_init 45 = .ok (.goto (-23), 3) := by decide +kernel
theorem dX0_init_48 : decode cX0_init 48 = .ok (.return_, 1) := by decide +kernel
theorem dX0_bitOf_0 : decode cX0_bitOf 0 = .ok (.iconst 1, 1) := by decide +kernel
theorem dX0_bitOf_1 : decode cX0_bitOf 1 = .ok (.iload_n 0, 1) := by decide +kernel
theorem dX0_bitOf_2 : decode cX0_bitOf 2 = .ok (.iconst 1, 1) := by decide +kernel
theorem dX0_bitOf_3 : decode cX0_bitOf 3 = .ok (.isub, 1) := by decide +kernel
theorem dX0_bitOf_4 : decode cX0_bitOf 4 = .ok (.ishl, 1) := by decide +kernel
theorem dX0_bitOf_5 : decode cX0_bitOf 5 = .ok (.ireturn, 1) := by decide +kernel
theorem dX0_setUp_0 : decode cX0_setUp 0 = .ok (.aload_n 0, 1) := by decide +kernel
theorem dX0_setUp_1 : decode cX0_setUp 1 = .ok (.getfield 9, 3) := by decide +kernel
theorem dX0_setUp_4 : decode cX0_setUp 4 = .ok (.iload_n 1, 1) := by decide +kernel
theorem dX0_setUp_5 : decode cX0_setUp 5 = .ok (.iload_n 2, 1) := by decide +kernel
theorem dX0_setUp_6 : decode cX0_setUp 6 = .ok (.iastore, 1) := by decide +kernel
theorem dX0_setUp_7 : decode cX0_setUp 7 = .ok (.aload_n 0, 1) := by decide +kernel
theorem dX0_setUp_8 : decode cX0_setUp 8 = .ok (.getfield 15, 3) := by decide +kernel
theorem dX0_setUp_11 : decode cX0_setUp 11 = .ok (.iload_n 1, 1) := by decide +kernel
theorem dX0_setUp_12 : decode cX0_setUp 12 = .ok (.iload_n 3, 1) := by decide +kernel
theorem dX0_setUp_13 : decode cX0_setUp 13 = .ok (.iastore, 1) := by decide +kernel
theorem dX0_setUp_14 : decode cX0_setUp 14 = .ok (.return_, 1) := by decide +kernel
set_option maxRecDepth 20000 in
theorem ggX0_carries_X0_bitOf : GoodIn wsX0_carries wsX0_bitOf := goodIn_r _ [5] (by decide +kernel) (by decide +kernel)
set_option maxRecDepth 20000 in
theorem gX0_carries_X0_bitOf : GoodIn wsX0_carries (va_wsS RX0 18 yX0_bitOf wsX0_bitOf) := goodIn_app (goodIn_of _ (by decide +kernel)) ggX0_carries_X0_bitOf
theorem dX0_carries_0 : decode cX0_carries 0 = .ok (.aload_n 0, 1) := by decide +kernel
theorem dX0_carries_1 : decode cX0_carries 1 = .ok (.getfield 9, 3) := by decide +kernel
theorem dX0_carries_4 : decode cX0_carries 4 = .ok (.iload_n 1, 1) := by decide +kernel
theorem dX0_carries_5 : decode cX0_carries 5 = .ok (.iaload, 1) := by decide +kernel
theorem dX0_carries_6 : decode cX0_carries 6 = .ok (.iload_n 2, 1) := by decide +kernel
theorem dX0_carries_7 : decode cX0_carries 7 = .ok (.invokestatic 18, 3) := by decide +kernel
theorem dX0_carries_10 : decode cX0_carries 10 = .ok (.iand, 1) := by decide +kernel
theorem dX0_carries_11 : decode cX0_carries 11 = .ok (.ifCond .eq 7, 3) := by decide +kernel
theorem dX0_carries_14 : decode cX0_carries 14 = .ok (.iconst 1, 1) := by decide +kernel
theorem dX0_carries_15 : decode cX0_carries 15 = .ok (.goto 4, 3) := by decide +kernel
theorem dX0_carries_18 : decode cX0_carries 18 = .ok (.iconst 0, 1) := by decide +kernel
theorem dX0_carries_19 : decode cX0_carries 19 = .ok (.ireturn, 1) := by decide +kernel
set_option maxRecDepth 20000 in
theorem ggX0_laneIn_X0_carries : GoodIn wsX0_laneIn wsX0_carries := goodIn_r _ [6, 7, 8, 9, 5, 10, 11, 12] (by decide +kernel) (by decide +kernel)
set_option maxRecDepth 20000 in
theorem gX0_laneIn_X0_carries : GoodIn wsX0_laneIn (wsV RX0 22 RX0 yX0_carries wsX0_carries) := goodIn_app (goodIn_of _ (by decide +kernel)) ggX0_laneIn_X0_carries
theorem dX0_laneIn_0 : decode cX0_laneIn 0 = .ok (.iload_n 2, 1) := by decide +kernel
theorem dX0_laneIn_1 : decode cX0_laneIn 1 = .ok (.ifCond .ne 12, 3) := by decide +kernel
theorem dX0_laneIn_4 : decode cX0_laneIn 4 = .ok (.aload_n 0, 1) := by decide +kernel
theorem dX0_laneIn_5 : decode cX0_laneIn 5 = .ok (.getfield 15, 3) := by decide +kernel
theorem dX0_laneIn_8 : decode cX0_laneIn 8 = .ok (.iload_n 1, 1) := by decide +kernel
theorem dX0_laneIn_9 : decode cX0_laneIn 9 = .ok (.iaload, 1) := by decide +kernel
theorem dX0_laneIn_10 : decode cX0_laneIn 10 = .ok (.goto 4, 3) := by decide +kernel
theorem dX0_laneIn_13 : decode cX0_laneIn 13 = .ok (.iload_n 2, 1) := by decide +kernel
theorem dX0_laneIn_14 : decode cX0_laneIn 14 = .ok (.istore_n 3, 1) := by decide +kernel
theorem dX0_laneIn_15 : decode cX0_laneIn 15 = .ok (.aload_n 0, 1) := by decide +kernel
theorem dX0_laneIn_16 : decode cX0_laneIn 16 = .ok (.iload_n 1, 1) := by decide +kernel
theorem dX0_laneIn_17 : decode cX0_laneIn 17 = .ok (.iload_n 3, 1) := by decide +kernel
theorem dX0_laneIn_18 : decode cX0_laneIn 18 = .ok (.invokevirtual 22, 3) := by decide +kernel
theorem dX0_laneIn_21 : decode cX0_laneIn 21 = .ok (.ifCond .eq 7, 3) := by decide +kernel
theorem dX0_laneIn_24 : decode cX0_laneIn 24 = .ok (.iload_n 3, 1) := by decide +kernel
theorem dX0_laneIn_25 : decode cX0_laneIn 25 = .ok (.goto 4, 3) := by decide +kernel
theorem dX0_laneIn_28 : decode cX0_laneIn 28 = .ok (.iconst 0, 1) := by decide +kernel
theorem dX0_laneIn_29 : decode cX0_laneIn 29 = .ok (.ireturn, 1) := by decide +kernel
theorem dX0_tagOut_0 : decode cX0_tagOut 0 = .ok (.iload_n 2, 1) := by decide +kernel
theorem dX0_tagOut_1 : decode cX0_tagOut 1 = .ok (.aload_n 0, 1) := by decide +kernel
theorem dX0_tagOut_2 : decode cX0_tagOut 2 = .ok (.getfield 15, 3) := by decide +kernel
theorem dX0_tagOut_5 : decode cX0_tagOut 5 = .ok (.iload_n 1, 1) := by decide +kernel
theorem dX0_tagOut_6 : decode cX0_tagOut 6 = .ok (.iaload, 1) := by decide +kernel
theorem dX0_tagOut_7 : decode cX0_tagOut 7 = .ok (.if_icmp .ne 7, 3) := by decide +kernel
theorem dX0_tagOut_10 : decode cX0_tagOut 10 = .ok (.iconst 0, 1) := by decide +kernel
theorem dX0_tagOut_11 : decode cX0_tagOut 11 = .ok (.goto 4, 3) := by decide +kernel
theorem dX0_tagOut_14 : decode cX0_tagOut 14 = .ok (.iload_n 2, 1) := by decide +kernel
theorem dX0_tagOut_15 : decode cX0_tagOut 15 = .ok (.ireturn, 1) := by decide +kernel
theorem dX1_init_0 : decode cX1_init 0 = .ok (.aload_n 0, 1) := by decide +kernel
theorem dX1_init_1 : decode cX1_init 1 = .ok (.invokespecial 3, 3) := by decide +kernel
theorem dX1_init_4 : decode cX1_init 4 = .ok (.aload_n 0, 1) := by decide +kernel
theorem dX1_init_5 : decode cX1_init 5 = .ok (.sipush 400, 3) := by decide +kernel
theorem dX1_init_8 : decode cX1_init 8 = .ok (.newarray .int, 2) := by decide +kernel
theorem dX1_init_10 : decode cX1_init 10 = .ok (.putfield 9, 3) := by decide +kernel
theorem dX1_init_13 : decode cX1_init 13 = .ok (.aload_n 0, 1) := by decide +kernel
theorem dX1_init_14 : decode cX1_init 14 = .ok (.sipush 400, 3) := by decide +kernel
theorem dX1_init_17 : decode cX1_init 17 = .ok (.newarray .int, 2) := by decide +kernel
theorem dX1_init_19 : decode cX1_init 19 = .ok (.putfield 15, 3) := by decide +kernel
theorem dX1_init_22 : decode cX1_init 22 = .ok (.aload_n 0, 1) := by decide +kernel
theorem dX1_init_23 : decode cX1_init 23 = .ok (.sipush 400, 3) := by decide +kernel
theorem dX1_init_26 : decode cX1_init 26 = .ok (.newarray .int, 2) := by decide +kernel
theorem dX1_init_28 : decode cX1_init 28 = .ok (.putfield 18, 3) := by decide +kernel
theorem dX1_init_31 : decode cX1_init 31 = .ok (.aload_n 0, 1) := by decide +kernel
theorem dX1_init_32 : decode cX1_init 32 = .ok (.sipush 400, 3) := by decide +kernel
theorem dX1_init_35 : decode cX1_init 35 = .ok (.newarray .int, 2) := by decide +kernel
theorem dX1_init_37 : decode cX1_init 37 = .ok (.putfield 21, 3) := by decide +kernel
theorem dX1_init_40 : decode cX1_init 40 = .ok (.return_, 1) := by decide +kernel
theorem dX1_restart_0 : decode cX1_restart 0 = .ok (.aload_n 0, 1) := by decide +kernel
theorem dX1_restart_1 : decode cX1_restart 1 = .ok (.iconst 0, 1) := by decide +kernel
theorem dX1_restart_2 : decode cX1_restart 2 = .ok (.putfield 24, 3) := by decide +kernel
theorem dX1_restart_5 : decode cX1_restart 5 = .ok (.return_, 1) := by decide +kernel
theorem dX1_add_0 : decode cX1_add 0 = .ok (.aload_n 0, 1) := by decide +kernel
theorem dX1_add_1 : decode cX1_add 1 = .ok (.getfield 24, 3) := by decide +kernel
theorem dX1_add_4 : decode cX1_add 4 = .ok (.sipush 400, 3) := by decide +kernel
theorem dX1_add_7 : decode cX1_add 7 = .ok (.if_icmp .lt 4, 3) := by decide +kernel
theorem dX1_add_10 : decode cX1_add 10 = .ok (.return_, 1) := by decide +kernel
theorem dX1_add_11 : decode cX1_add 11 = .ok (.aload_n 0, 1) := by decide +kernel
theorem dX1_add_12 : decode cX1_add 12 = .ok (.getfield 9, 3) := by decide +kernel
theorem dX1_add_15 : decode cX1_add 15 = .ok (.aload_n 0, 1) := by decide +kernel
theorem dX1_add_16 : decode cX1_add 16 = .ok (.getfield 24, 3) := by decide +kernel
theorem dX1_add_19 : decode cX1_add 19 = .ok (.iload_n 1, 1) := by decide +kernel
theorem dX1_add_20 : decode cX1_add 20 = .ok (.iastore, 1) := by decide +kernel
theorem dX1_add_21 : decode cX1_add 21 = .ok (.aload_n 0, 1) := by decide +kernel
theorem dX1_add_22 : decode cX1_add 22 = .ok (.getfield 15, 3) := by decide +kernel
theorem dX1_add_25 : decode cX1_add 25 = .ok (.aload_n 0, 1) := by decide +kernel
theorem dX1_add_26 : decode cX1_add 26 = .ok (.getfield 24, 3) := by decide +kernel
theorem dX1_add_29 : decode cX1_add 29 = .ok (.iload_n 2, 1) := by decide +kernel
theorem dX1_add_30 : decode cX1_add 30 = .ok (.iastore, 1) := by decide +kernel
theorem dX1_add_31 : decode cX1_add 31 = .ok (.aload_n 0, 1) := by decide +kernel
theorem dX1_add_32 : decode cX1_add 32 = .ok (.getfield 18, 3) := by decide +kernel
theorem dX1_add_35 : decode cX1_add 35 = .ok (.aload_n 0, 1) := by decide +kernel
theorem dX1_add_36 : decode cX1_add 36 = .ok (.getfield 24, 3) := by decide +kernel
theorem dX1_add_39 : decode cX1_add 39 = .ok (.iload_n 3, 1) := by decide +kernel
theorem dX1_add_40 : decode cX1_add 40 = .ok (.iastore, 1) := by decide +kernel
theorem dX1_add_41 : decode cX1_add 41 = .ok (.aload_n 0, 1) := by decide +kernel
theorem dX1_add_42 : decode cX1_add 42 = .ok (.getfield 21, 3) := by decide +kernel
theorem dX1_add_45 : decode cX1_add 45 = .ok (.aload_n 0, 1) := by decide +kernel
theorem dX1_add_46 : decode cX1_add 46 = .ok (.getfield 24, 3) := by decide +kernel
theorem dX1_add_49 : decode cX1_add 49 = .ok (.iload 4, 2) := by decide +kernel
theorem dX1_add_51 : decode cX1_add 51 = .ok (.iastore, 1) := by decide +kernel
theorem dX1_add_52 : decode cX1_add 52 = .ok (.aload_n 0, 1) := by decide +kernel
theorem dX1_add_53 : decode cX1_add 53 = .ok (.dup, 1) := by decide +kernel
theorem dX1_add_54 : decode cX1_add 54 = .ok (.getfield 24, 3) := by decide +kernel
theorem dX1_add_57 : decode cX1_add 57 = .ok (.iconst 1, 1) := by decide +kernel
theorem dX1_add_58 : decode cX1_add 58 = .ok (.iadd, 1) := by decide +kernel
theorem dX1_add_59 : decode cX1_add 59 = .ok (.putfield 24, 3) := by decide +kernel
theorem dX1_add_62 : decode cX1_add 62 = .ok (.return_, 1) := by decide +kernel
theorem dX2_init_0 : decode cX2_init 0 = .ok (.aload_n 0, 1) := by decide +kernel
theorem dX2_init_1 : decode cX2_init 1 = .ok (.invokespecial 3, 3) := by decide +kernel
theorem dX2_init_4 : decode cX2_init 4 = .ok (.aload_n 0, 1) := by decide +kernel
theorem dX2_init_5 : decode cX2_init 5 = .ok (.sipush 180, 3) := by decide +kernel
theorem dX2_init_8 : decode cX2_init 8 = .ok (.newarray .int, 2) := by decide +kernel
theorem dX2_init_10 : decode cX2_init 10 = .ok (.putfield 11, 3) := by decide +kernel
theorem dX2_init_13 : decode cX2_init 13 = .ok (.aload_n 0, 1) := by decide +kernel
theorem dX2_init_14 : decode cX2_init 14 = .ok (.sipush 180, 3) := by decide +kernel
theorem dX2_init_17 : decode cX2_init 17 = .ok (.newarray .int, 2) := by decide +kernel
theorem dX2_init_19 : decode cX2_init 19 = .ok (.putfield 15, 3) := by decide +kernel
theorem dX2_init_22 : decode cX2_init 22 = .ok (.aload_n 0, 1) := by decide +kernel
theorem dX2_init_23 : decode cX2_init 23 = .ok (.bipush 6, 2) := by decide +kernel
theorem dX2_init_25 : decode cX2_init 25 = .ok (.newarray .int, 2) := by decide +kernel
theorem dX2_init_27 : decode cX2_init 27 = .ok (.putfield 18, 3) := by decide +kernel
theorem dX2_init_30 : decode cX2_init 30 = .ok (.iconst 0, 1) := by decide +kernel
theorem dX2_init_31 : decode cX2_init 31 = .ok (.istore_n 1, 1) := by decide +kernel
theorem dX2_init_32 : decode cX2_init 32 = .ok (.iload_n 1, 1) := by decide +kernel
theorem dX2_init_33 : decode cX2_init 33 = .ok (.sipush 180, 3) := by decide +kernel
theorem dX2_init_36 : decode cX2_init 36 = .ok (.if_icmp .ge 16, 3) := by decide +kernel
theorem dX2_init_39 : decode cX2_init 39 = .ok (.aload_n 0, 1) := by decide +kernel
theorem dX2_init_40 : decode cX2_init 40 = .ok (.getfield 11, 3) := by decide +kernel
theorem dX2_init_43 : decode cX2_init 43 = .ok (.iload_n 1, 1) := by decide +kernel
theorem dX2_init_44 : decode cX2_init 44 = .ok (.iconst (-1), 1) := by decide +kernel
theorem dX2_init_45 : decode cX2_init 45 = .ok (.iastore, 1) := by decide +kernel
theorem dX2_init_46 : decode cX2_init 46 = .ok (.iinc 1 1, 3) := by decide +kernel
theorem dX2_init_49 : decode cX2_init 49 = .ok (.goto (-17), 3) := by decide +kernel
theorem dX2_init_52 : decode cX2_init 52 = .ok (.return_, 1) := by decide +kernel
theorem dX2_indexOf_0 : decode cX2_indexOf 0 = .ok (.iload_n 0, 1) := by decide +kernel
theorem dX2_indexOf_1 : decode cX2_indexOf 1 = .ok (.bipush 30, 2) := by decide +kernel
theorem dX2_indexOf_3 : decode cX2_indexOf 3 = .ok (.imul, 1) := by decide +kernel
theorem dX2_indexOf_4 : decode cX2_indexOf 4 = .ok (.iload_n 1, 1) := by decide +kernel
theorem dX2_indexOf_5 : decode cX2_indexOf 5 = .ok (.iconst 1, 1) := by decide +kernel
theorem dX2_indexOf_6 : decode cX2_indexOf 6 = .ok (.isub, 1) := by decide +kernel
theorem dX2_indexOf_7 : decode cX2_indexOf 7 = .ok (.bipush 10, 2) := by decide +kernel
theorem dX2_indexOf_9 : decode cX2_indexOf 9 = .ok (.imul, 1) := by decide +kernel
theorem dX2_indexOf_10 : decode cX2_indexOf 10 = .ok (.iadd, 1) := by decide +kernel
theorem dX2_indexOf_11 : decode cX2_indexOf 11 = .ok (.iload_n 2, 1) := by decide +kernel
theorem dX2_indexOf_12 : decode cX2_indexOf 12 = .ok (.iadd, 1) := by decide +kernel
theorem dX2_indexOf_13 : decode cX2_indexOf 13 = .ok (.ireturn, 1) := by decide +kernel
set_option maxRecDepth 20000 in
theorem ggX2_portFor_X2_indexOf : GoodIn wsX2_portFor wsX2_indexOf := goodIn_r _ [5] (by decide +kernel) (by decide +kernel)
set_option maxRecDepth 20000 in
theorem gX2_portFor_X2_indexOf : GoodIn wsX2_portFor (va_wsS RX2 21 yX2_indexOf wsX2_indexOf) := goodIn_app (goodIn_of _ (by decide +kernel)) ggX2_portFor_X2_indexOf
theorem dX2_portFor_0 : decode cX2_portFor 0 = .ok (.aload_n 0, 1) := by decide +kernel
theorem dX2_portFor_1 : decode cX2_portFor 1 = .ok (.getfield 11, 3) := by decide +kernel
theorem dX2_portFor_4 : decode cX2_portFor 4 = .ok (.iload_n 1, 1) := by decide +kernel
theorem dX2_portFor_5 : decode cX2_portFor 5 = .ok (.iload_n 2, 1) := by decide +kernel
theorem dX2_portFor_6 : decode cX2_portFor 6 = .ok (.iload_n 3, 1) := by decide +kernel
theorem dX2_portFor_7 : decode cX2_portFor 7 = .ok (.invokestatic 21, 3) := by decide +kernel
theorem dX2_portFor_10 : decode cX2_portFor 10 = .ok (.iaload, 1) := by decide +kernel
theorem dX2_portFor_11 : decode cX2_portFor 11 = .ok (.ireturn, 1) := by decide +kernel
set_option maxRecDepth 20000 in
theorem ggX2_hear_X2_indexOf : GoodIn wsX2_hear wsX2_indexOf := goodIn_r _ [7] (by decide +kernel) (by decide +kernel)
set_option maxRecDepth 20000 in
theorem gX2_hear_X2_indexOf : GoodIn wsX2_hear (va_wsS RX2 21 yX2_indexOf wsX2_indexOf) := goodIn_app (goodIn_of _ (by decide +kernel)) ggX2_hear_X2_indexOf
theorem dX2_hear_0 : decode cX2_hear 0 = .ok (.iload_n 1, 1) := by decide +kernel
theorem dX2_hear_1 : decode cX2_hear 1 = .ok (.iconst 5, 1) := by decide +kernel
theorem dX2_hear_2 : decode cX2_hear 2 = .ok (.idiv, 1) := by decide +kernel
theorem dX2_hear_3 : decode cX2_hear 3 = .ok (.istore 5, 2) := by decide +kernel
theorem dX2_hear_5 : decode cX2_hear 5 = .ok (.iload 5, 2) := by decide +kernel
theorem dX2_hear_7 : decode cX2_hear 7 = .ok (.iload_n 2, 1) := by decide +kernel
theorem dX2_hear_8 : decode cX2_hear 8 = .ok (.iload_n 3, 1) := by decide +kernel
theorem dX2_hear_9 : decode cX2_hear 9 = .ok (.invokestatic 21, 3) := by decide +kernel
theorem dX2_hear_12 : decode cX2_hear 12 = .ok (.istore 6, 2) := by decide +kernel
theorem dX2_hear_14 : decode cX2_hear 14 = .ok (.aload_n 0, 1) := by decide +kernel
theorem dX2_hear_15 : decode cX2_hear 15 = .ok (.getfield 11, 3) := by decide +kernel
theorem dX2_hear_18 : decode cX2_hear 18 = .ok (.iload 6, 2) := by decide +kernel
theorem dX2_hear_20 : decode cX2_hear 20 = .ok (.iaload, 1) := by decide +kernel
theorem dX2_hear_21 : decode cX2_hear 21 = .ok (.iconst (-1), 1) := by decide +kernel
theorem dX2_hear_22 : decode cX2_hear 22 = .ok (.if_icmp .ne 27, 3) := by decide +kernel
theorem dX2_hear_25 : decode cX2_hear 25 = .ok (.aload_n 0, 1) := by decide +kernel
theorem dX2_hear_26 : decode cX2_hear 26 = .ok (.getfield 18, 3) := by decide +kernel
theorem dX2_hear_29 : decode cX2_hear 29 = .ok (.iload 5, 2) := by decide +kernel
theorem dX2_hear_31 : decode cX2_hear 31 = .ok (.iaload, 1) := by decide +kernel
theorem dX2_hear_32 : decode cX2_hear 32 = .ok (.bipush 8, 2) := by decide +kernel
theorem dX2_hear_34 : decode cX2_hear 34 = .ok (.if_icmp .lt 4, 3) := by decide +kernel
theorem dX2_hear_37 : decode cX2_hear 37 = .ok (.return_, 1) := by decide +kernel
theorem dX2_hear_38 : decode cX2_hear 38 = .ok (.aload_n 0, 1) := by decide +kernel
theorem dX2_hear_39 : decode cX2_hear 39 = .ok (.getfield 18, 3) := by decide +kernel
theorem dX2_hear_42 : decode cX2_hear 42 = .ok (.iload 5, 2) := by decide +kernel
theorem dX2_hear_44 : decode cX2_hear 44 = .ok (.dup2, 1) := by decide +kernel
theorem dX2_hear_45 : decode cX2_hear 45 = .ok (.iaload, 1) := by decide +kernel
theorem dX2_hear_46 : decode cX2_hear 46 = .ok (.iconst 1, 1) := by decide +kernel
theorem dX2_hear_47 : decode cX2_hear 47 = .ok (.iadd, 1) := by decide +kernel
theorem dX2_hear_48 : decode cX2_hear 48 = .ok (.iastore, 1) := by decide +kernel
theorem dX2_hear_49 : decode cX2_hear 49 = .ok (.aload_n 0, 1) := by decide +kernel
theorem dX2_hear_50 : decode cX2_hear 50 = .ok (.getfield 11, 3) := by decide +kernel
theorem dX2_hear_53 : decode cX2_hear 53 = .ok (.iload 6, 2) := by decide +kernel
theorem dX2_hear_55 : decode cX2_hear 55 = .ok (.iload_n 1, 1) := by decide +kernel
theorem dX2_hear_56 : decode cX2_hear 56 = .ok (.iconst 5, 1) := by decide +kernel
theorem dX2_hear_57 : decode cX2_hear 57 = .ok (.irem, 1) := by decide +kernel
theorem dX2_hear_58 : decode cX2_hear 58 = .ok (.iastore, 1) := by decide +kernel
theorem dX2_hear_59 : decode cX2_hear 59 = .ok (.aload_n 0, 1) := by decide +kernel
theorem dX2_hear_60 : decode cX2_hear 60 = .ok (.getfield 15, 3) := by decide +kernel
theorem dX2_hear_63 : decode cX2_hear 63 = .ok (.iload 6, 2) := by decide +kernel
theorem dX2_hear_65 : decode cX2_hear 65 = .ok (.iload 4, 2) := by decide +kernel
theorem dX2_hear_67 : decode cX2_hear 67 = .ok (.iastore, 1) := by decide +kernel
theorem dX2_hear_68 : decode cX2_hear 68 = .ok (.return_, 1) := by decide +kernel
set_option maxRecDepth 20000 in
theorem ggX2_forgetPort_X2_drop : GoodIn wsX2_forgetPort wsX2_drop := goodIn_r _ [6, 1, 7, 8, 9, 10] (by decide +kernel) (by decide +kernel)
set_option maxRecDepth 20000 in
theorem gX2_forgetPort_X2_drop : GoodIn wsX2_forgetPort (wsV RX2 25 RX2 yX2_drop wsX2_drop) := goodIn_app (goodIn_of _ (by decide +kernel)) ggX2_forgetPort_X2_drop
theorem dX2_forgetPort_0 : decode cX2_forgetPort 0 = .ok (.iload_n 1, 1) := by decide +kernel
theorem dX2_forgetPort_1 : decode cX2_forgetPort 1 = .ok (.iconst 5, 1) := by decide +kernel
theorem dX2_forgetPort_2 : decode cX2_forgetPort 2 = .ok (.idiv, 1) := by decide +kernel
theorem dX2_forgetPort_3 : decode cX2_forgetPort 3 = .ok (.bipush 30, 2) := by decide +kernel
theorem dX2_forgetPort_5 : decode cX2_forgetPort 5 = .ok (.imul, 1) := by decide +kernel
theorem dX2_forgetPort_6 : decode cX2_forgetPort 6 = .ok (.istore_n 2, 1) := by decide +kernel
theorem dX2_forgetPort_7 : decode cX2_forgetPort 7 = .ok (.iload_n 2, 1) := by decide +kernel
theorem dX2_forgetPort_8 : decode cX2_forgetPort 8 = .ok (.istore_n 3, 1) := by decide +kernel
theorem dX2_forgetPort_9 : decode cX2_forgetPort 9 = .ok (.iload_n 3, 1) := by decide +kernel
theorem dX2_forgetPort_10 : decode cX2_forgetPort 10 = .ok (.iload_n 2, 1) := by decide +kernel
theorem dX2_forgetPort_11 : decode cX2_forgetPort 11 = .ok (.bipush 30, 2) := by decide +kernel
theorem dX2_forgetPort_13 : decode cX2_forgetPort 13 = .ok (.iadd, 1) := by decide +kernel
theorem dX2_forgetPort_14 : decode cX2_forgetPort 14 = .ok (.if_icmp .ge 26, 3) := by decide +kernel
theorem dX2_forgetPort_17 : decode cX2_forgetPort 17 = .ok (.aload_n 0, 1) := by decide +kernel
theorem dX2_forgetPort_18 : decode cX2_forgetPort 18 = .ok (.getfield 11, 3) := by decide +kernel
theorem dX2_forgetPort_21 : decode cX2_forgetPort 21 = .ok (.iload_n 3, 1) := by decide +kernel
theorem dX2_forgetPort_22 : decode cX2_forgetPort 22 = .ok (.iaload, 1) := by decide +kernel
theorem dX2_forgetPort_23 : decode cX2_forgetPort 23 = .ok (.iload_n 1, 1) := by decide +kernel
theorem dX2_forgetPort_24 : decode cX2_forgetPort 24 = .ok (.iconst 5, 1) := by decide +kernel
theorem dX2_forgetPort_25 : decode cX2_forgetPort 25 = .ok (.irem, 1) := by decide +kernel
theorem dX2_forgetPort_26 : decode cX2_forgetPort 26 = .ok (.if_icmp .ne 8, 3) := by decide +kernel
theorem dX2_forgetPort_29 : decode cX2_forgetPort 29 = .ok (.aload_n 0, 1) := by decide +kernel
theorem dX2_forgetPort_30 : decode cX2_forgetPort 30 = .ok (.iload_n 3, 1) := by decide +kernel
theorem dX2_forgetPort_31 : decode cX2_forgetPort 31 = .ok (.invokevirtual 25, 3) := by decide +kernel
theorem dX2_forgetPort_34 : decode cX2_forgetPort 34 = .ok (.iinc 3 1, 3) := by decide +kernel
theorem dX2_forgetPort_37 : decode cX2_forgetPort 37 = .ok (.goto (-28), 3) := by decide +kernel
theorem dX2_forgetPort_40 : decode cX2_forgetPort 40 = .ok (.return_, 1) := by decide +kernel
theorem dX2_empty_0 : decode cX2_empty 0 = .ok (.iload_n 1, 1) := by decide +kernel
theorem dX2_empty_1 : decode cX2_empty 1 = .ok (.bipush 30, 2) := by decide +kernel
theorem dX2_empty_3 : decode cX2_empty 3 = .ok (.imul, 1) := by decide +kernel
theorem dX2_empty_4 : decode cX2_empty 4 = .ok (.istore_n 2, 1) := by decide +kernel
theorem dX2_empty_5 : decode cX2_empty 5 = .ok (.iload_n 2, 1) := by decide +kernel
theorem dX2_empty_6 : decode cX2_empty 6 = .ok (.istore_n 3, 1) := by decide +kernel
theorem dX2_empty_7 : decode cX2_empty 7 = .ok (.iload_n 3, 1) := by decide +kernel
theorem dX2_empty_8 : decode cX2_empty 8 = .ok (.iload_n 2, 1) := by decide +kernel
theorem dX2_empty_9 : decode cX2_empty 9 = .ok (.bipush 30, 2) := by decide +kernel
theorem dX2_empty_11 : decode cX2_empty 11 = .ok (.iadd, 1) := by decide +kernel
theorem dX2_empty_12 : decode cX2_empty 12 = .ok (.if_icmp .ge 16, 3) := by decide +kernel
theorem dX2_empty_15 : decode cX2_empty 15 = .ok (.aload_n 0, 1) := by decide +kernel
theorem dX2_empty_16 : decode cX2_empty 16 = .ok (.getfield 11, 3) := by decide +kernel
theorem dX2_empty_19 : decode cX2_empty 19 = .ok (.iload_n 3, 1) := by decide +kernel
theorem dX2_empty_20 : decode cX2_empty 20 = .ok (.iconst (-1), 1) := by decide +kernel
theorem dX2_empty_21 : decode cX2_empty 21 = .ok (.iastore, 1) := by decide +kernel
theorem dX2_empty_22 : decode cX2_empty 22 = .ok (.iinc 3 1, 3) := by decide +kernel
theorem dX2_empty_25 : decode cX2_empty 25 = .ok (.goto (-18), 3) := by decide +kernel
theorem dX2_empty_28 : decode cX2_empty 28 = .ok (.aload_n 0, 1) := by decide +kernel
theorem dX2_empty_29 : decode cX2_empty 29 = .ok (.getfield 18, 3) := by decide +kernel
theorem dX2_empty_32 : decode cX2_empty 32 = .ok (.iload_n 1, 1) := by decide +kernel
theorem dX2_empty_33 : decode cX2_empty 33 = .ok (.iconst 0, 1) := by decide +kernel
theorem dX2_empty_34 : decode cX2_empty 34 = .ok (.iastore, 1) := by decide +kernel
theorem dX2_empty_35 : decode cX2_empty 35 = .ok (.return_, 1) := by decide +kernel
set_option maxRecDepth 20000 in
theorem ggX2_dropOld_X2_drop : GoodIn wsX2_dropOld wsX2_drop := goodIn_r _ [7, 1, 8, 9, 10, 11] (by decide +kernel) (by decide +kernel)
set_option maxRecDepth 20000 in
theorem gX2_dropOld_X2_drop : GoodIn wsX2_dropOld (wsV RX2 25 RX2 yX2_drop wsX2_drop) := goodIn_app (goodIn_of _ (by decide +kernel)) ggX2_dropOld_X2_drop
theorem dX2_dropOld_0 : decode cX2_dropOld 0 = .ok (.iconst 0, 1) := by decide +kernel
theorem dX2_dropOld_1 : decode cX2_dropOld 1 = .ok (.istore_n 2, 1) := by decide +kernel
theorem dX2_dropOld_2 : decode cX2_dropOld 2 = .ok (.iload_n 2, 1) := by decide +kernel
theorem dX2_dropOld_3 : decode cX2_dropOld 3 = .ok (.sipush 180, 3) := by decide +kernel
theorem dX2_dropOld_6 : decode cX2_dropOld 6 = .ok (.if_icmp .ge 37, 3) := by decide +kernel
theorem dX2_dropOld_9 : decode cX2_dropOld 9 = .ok (.aload_n 0, 1) := by decide +kernel
theorem dX2_dropOld_10 : decode cX2_dropOld 10 = .ok (.getfield 11, 3) := by decide +kernel
theorem dX2_dropOld_13 : decode cX2_dropOld 13 = .ok (.iload_n 2, 1) := by decide +kernel
theorem dX2_dropOld_14 : decode cX2_dropOld 14 = .ok (.iaload, 1) := by decide +kernel
theorem dX2_dropOld_15 : decode cX2_dropOld 15 = .ok (.iconst (-1), 1) := by decide +kernel
theorem dX2_dropOld_16 : decode cX2_dropOld 16 = .ok (.if_icmp .eq 21, 3) := by decide +kernel
theorem dX2_dropOld_19 : decode cX2_dropOld 19 = .ok (.iload_n 1, 1) := by decide +kernel
theorem dX2_dropOld_20 : decode cX2_dropOld 20 = .ok (.aload_n 0, 1) := by decide +kernel
theorem dX2_dropOld_21 : decode cX2_dropOld 21 = .ok (.getfield 15, 3) := by decide +kernel
theorem dX2_dropOld_24 : decode cX2_dropOld 24 = .ok (.iload_n 2, 1) := by decide +kernel
theorem dX2_dropOld_25 : decode cX2_dropOld 25 = .ok (.iaload, 1) := by decide +kernel
theorem dX2_dropOld_26 : decode cX2_dropOld 26 = .ok (.isub, 1) := by decide +kernel
theorem dX2_dropOld_27 : decode cX2_dropOld 27 = .ok (.bipush 10, 2) := by decide +kernel
theorem dX2_dropOld_29 : decode cX2_dropOld 29 = .ok (.if_icmp .lt 8, 3) := by decide +kernel
theorem dX2_dropOld_32 : decode cX2_dropOld 32 = .ok (.aload_n 0, 1) := by decide +kernel
theorem dX2_dropOld_33 : decode cX2_dropOld 33 = .ok (.iload_n 2, 1) := by decide +kernel
theorem dX2_dropOld_34 : decode cX2_dropOld 34 = .ok (.invokevirtual 25, 3) := by decide +kernel
theorem dX2_dropOld_37 : decode cX2_dropOld 37 = .ok (.iinc 2 1, 3) := by decide +kernel
theorem dX2_dropOld_40 : decode cX2_dropOld 40 = .ok (.goto (-38), 3) := by decide +kernel
theorem dX2_dropOld_43 : decode cX2_dropOld 43 = .ok (.return_, 1) := by decide +kernel
theorem dX2_drop_0 : decode cX2_drop 0 = .ok (.aload_n 0, 1) := by decide +kernel
theorem dX2_drop_1 : decode cX2_drop 1 = .ok (.getfield 11, 3) := by decide +kernel
theorem dX2_drop_4 : decode cX2_drop 4 = .ok (.iload_n 1, 1) := by decide +kernel
theorem dX2_drop_5 : decode cX2_drop 5 = .ok (.iconst (-1), 1) := by decide +kernel
theorem dX2_drop_6 : decode cX2_drop 6 = .ok (.iastore, 1) := by decide +kernel
theorem dX2_drop_7 : decode cX2_drop 7 = .ok (.aload_n 0, 1) := by decide +kernel
theorem dX2_drop_8 : decode cX2_drop 8 = .ok (.getfield 18, 3) := by decide +kernel
theorem dX2_drop_11 : decode cX2_drop 11 = .ok (.iload_n 1, 1) := by decide +kernel
theorem dX2_drop_12 : decode cX2_drop 12 = .ok (.bipush 30, 2) := by decide +kernel
theorem dX2_drop_14 : decode cX2_drop 14 = .ok (.idiv, 1) := by decide +kernel
theorem dX2_drop_15 : decode cX2_drop 15 = .ok (.dup2, 1) := by decide +kernel
theorem dX2_drop_16 : decode cX2_drop 16 = .ok (.iaload, 1) := by decide +kernel
theorem dX2_drop_17 : decode cX2_drop 17 = .ok (.iconst 1, 1) := by decide +kernel
theorem dX2_drop_18 : decode cX2_drop 18 = .ok (.isub, 1) := by decide +kernel
theorem dX2_drop_19 : decode cX2_drop 19 = .ok (.iastore, 1) := by decide +kernel
theorem dX2_drop_20 : decode cX2_drop 20 = .ok (.return_, 1) := by decide +kernel
theorem dX3_init_0 : decode cX3_init 0 = .ok (.aload_n 0, 1) := by decide +kernel
theorem dX3_init_1 : decode cX3_init 1 = .ok (.invokespecial 3, 3) := by decide +kernel
theorem dX3_init_4 : decode cX3_init 4 = .ok (.aload_n 0, 1) := by decide +kernel
theorem dX3_init_5 : decode cX3_init 5 = .ok (.bipush 6, 2) := by decide +kernel
theorem dX3_init_7 : decode cX3_init 7 = .ok (.newarray .int, 2) := by decide +kernel
theorem dX3_init_9 : decode cX3_init 9 = .ok (.putfield 9, 3) := by decide +kernel
theorem dX3_init_12 : decode cX3_init 12 = .ok (.aload_n 0, 1) := by decide +kernel
theorem dX3_init_13 : decode cX3_init 13 = .ok (.bipush 6, 2) := by decide +kernel
theorem dX3_init_15 : decode cX3_init 15 = .ok (.newarray .int, 2) := by decide +kernel
theorem dX3_init_17 : decode cX3_init 17 = .ok (.putfield 15, 3) := by decide +kernel
theorem dX3_init_20 : decode cX3_init 20 = .ok (.aload_n 0, 1) := by decide +kernel
theorem dX3_init_21 : decode cX3_init 21 = .ok (.bipush 6, 2) := by decide +kernel
theorem dX3_init_23 : decode cX3_init 23 = .ok (.newarray .int, 2) := by decide +kernel
theorem dX3_init_25 : decode cX3_init 25 = .ok (.putfield 18, 3) := by decide +kernel
theorem dX3_init_28 : decode cX3_init 28 = .ok (.aload_n 0, 1) := by decide +kernel
theorem dX3_init_29 : decode cX3_init 29 = .ok (.bipush 6, 2) := by decide +kernel
theorem dX3_init_31 : decode cX3_init 31 = .ok (.newarray .int, 2) := by decide +kernel
theorem dX3_init_33 : decode cX3_init 33 = .ok (.putfield 21, 3) := by decide +kernel
theorem dX3_init_36 : decode cX3_init 36 = .ok (.aload_n 0, 1) := by decide +kernel
theorem dX3_init_37 : decode cX3_init 37 = .ok (.bipush 30, 2) := by decide +kernel
theorem dX3_init_39 : decode cX3_init 39 = .ok (.newarray .int, 2) := by decide +kernel
theorem dX3_init_41 : decode cX3_init 41 = .ok (.putfield 24, 3) := by decide +kernel
theorem dX3_init_44 : decode cX3_init 44 = .ok (.aload_n 0, 1) := by decide +kernel
theorem dX3_init_45 : decode cX3_init 45 = .ok (.bipush 30, 2) := by decide +kernel
theorem dX3_init_47 : decode cX3_init 47 = .ok (.newarray .boolean, 2) := by decide +kernel
theorem dX3_init_49 : decode cX3_init 49 = .ok (.putfield 27, 3) := by decide +kernel
theorem dX3_init_52 : decode cX3_init 52 = .ok (.aload_n 0, 1) := by decide +kernel
theorem dX3_init_53 : decode cX3_init 53 = .ok (.bipush 30, 2) := by decide +kernel
theorem dX3_init_55 : decode cX3_init 55 = .ok (.newarray .int, 2) := by decide +kernel
theorem dX3_init_57 : decode cX3_init 57 = .ok (.putfield 31, 3) := by decide +kernel
theorem dX3_init_60 : decode cX3_init 60 = .ok (.aload_n 0, 1) := by decide +kernel
theorem dX3_init_61 : decode cX3_init 61 = .ok (.bipush 30, 2) := by decide +kernel
theorem dX3_init_63 : decode cX3_init 63 = .ok (.newarray .int, 2) := by decide +kernel
theorem dX3_init_65 : decode cX3_init 65 = .ok (.putfield 34, 3) := by decide +kernel
theorem dX3_init_68 : decode cX3_init 68 = .ok (.aload_n 0, 1) := by decide +kernel
theorem dX3_init_69 : decode cX3_init 69 = .ok (.bipush 30, 2) := by decide +kernel
theorem dX3_init_71 : decode cX3_init 71 = .ok (.newarray .int, 2) := by decide +kernel
theorem dX3_init_73 : decode cX3_init 73 = .ok (.putfield 37, 3) := by decide +kernel
theorem dX3_init_76 : decode cX3_init 76 = .ok (.aload_n 0, 1) := by decide +kernel
theorem dX3_init_77 : decode cX3_init 77 = .ok (.bipush 30, 2) := by decide +kernel
theorem dX3_init_79 : decode cX3_init 79 = .ok (.newarray .int, 2) := by decide +kernel
theorem dX3_init_81 : decode cX3_init 81 = .ok (.putfield 40, 3) := by decide +kernel
theorem dX3_init_84 : decode cX3_init 84 = .ok (.aload_n 0, 1) := by decide +kernel
theorem dX3_init_85 : decode cX3_init 85 = .ok (.bipush 30, 2) := by decide +kernel
theorem dX3_init_87 : decode cX3_init 87 = .ok (.newarray .int, 2) := by decide +kernel
theorem dX3_init_89 : decode cX3_init 89 = .ok (.putfield 43, 3) := by decide +kernel
theorem dX3_init_92 : decode cX3_init 92 = .ok (.aload_n 0, 1) := by decide +kernel
theorem dX3_init_93 : decode cX3_init 93 = .ok (.bipush 30, 2) := by decide +kernel
theorem dX3_init_95 : decode cX3_init 95 = .ok (.newarray .boolean, 2) := by decide +kernel
theorem dX3_init_97 : decode cX3_init 97 = .ok (.putfield 46, 3) := by decide +kernel
theorem dX3_init_100 : decode cX3_init 100 = .ok (.aload_n 0, 1) := by decide +kernel
theorem dX3_init_101 : decode cX3_init 101 = .ok (.bipush 6, 2) := by decide +kernel
theorem dX3_init_103 : decode cX3_init 103 = .ok (.newarray .boolean, 2) := by decide +kernel
theorem dX3_init_105 : decode cX3_init 105 = .ok (.putfield 49, 3) := by decide +kernel
theorem dX3_init_108 : decode cX3_init 108 = .ok (.aload_n 0, 1) := by decide +kernel
theorem dX3_init_109 : decode cX3_init 109 = .ok (.bipush 6, 2) := by decide +kernel
theorem dX3_init_111 : decode cX3_init 111 = .ok (.newarray .int, 2) := by decide +kernel
theorem dX3_init_113 : decode cX3_init 113 = .ok (.putfield 52, 3) := by decide +kernel
theorem dX3_init_116 : decode cX3_init 116 = .ok (.aload_n 0, 1) := by decide +kernel
theorem dX3_init_117 : decode cX3_init 117 = .ok (.aload_n 1, 1) := by decide +kernel
theorem dX3_init_118 : decode cX3_init 118 = .ok (.putfield 55, 3) := by decide +kernel
theorem dX3_init_121 : decode cX3_init 121 = .ok (.iconst 0, 1) := by decide +kernel
theorem dX3_init_122 : decode cX3_init 122 = .ok (.istore_n 2, 1) := by decide +kernel
theorem dX3_init_123 : decode cX3_init 123 = .ok (.iload_n 2, 1) := by decide +kernel
theorem dX3_init_124 : decode cX3_init 124 = .ok (.bipush 6, 2) := by decide +kernel
theorem dX3_init_126 : decode cX3_init 126 = .ok (.if_icmp .ge 23, 3) := by decide +kernel
theorem dX3_init_129 : decode cX3_init 129 = .ok (.aload_n 0, 1) := by decide +kernel
theorem dX3_init_130 : decode cX3_init 130 = .ok (.getfield 9, 3) := by decide +kernel
theorem dX3_init_133 : decode cX3_init 133 = .ok (.iload_n 2, 1) := by decide +kernel
theorem dX3_init_134 : decode cX3_init 134 = .ok (.iload_n 2, 1) := by decide +kernel
theorem dX3_init_135 : decode cX3_init 135 = .ok (.iastore, 1) := by decide +kernel
theorem dX3_init_136 : decode cX3_init 136 = .ok (.aload_n 0, 1) := by decide +kernel
theorem dX3_init_137 : decode cX3_init 137 = .ok (.getfield 21, 3) := by decide +kernel
theorem dX3_init_140 : decode cX3_init 140 = .ok (.iload_n 2, 1) := by decide +kernel
theorem dX3_init_141 : decode cX3_init 141 = .ok (.iconst (-1), 1) := by decide +kernel
theorem dX3_init_142 : decode cX3_init 142 = .ok (.iastore, 1) := by decide +kernel
theorem dX3_init_143 : decode cX3_init 143 = .ok (.iinc 2 1, 3) := by decide +kernel
theorem dX3_init_146 : decode cX3_init 146 = .ok (.goto (-23), 3) := by decide +kernel
theorem dX3_init_149 : decode cX3_init 149 = .ok (.return_, 1) := by decide +kernel
theorem dX3_copyFrom_0 : decode cX3_copyFrom 0 = .ok (.iconst 0, 1) := by decide +kernel
theorem dX3_copyFrom_1 : decode cX3_copyFrom 1 = .ok (.istore_n 2, 1) := by decide +kernel
theorem dX3_copyFrom_2 : decode cX3_copyFrom 2 = .ok (.iload_n 2, 1) := by decide +kernel
theorem dX3_copyFrom_3 : decode cX3_copyFrom 3 = .ok (.bipush 6, 2) := by decide +kernel
theorem dX3_copyFrom_5 : decode cX3_copyFrom 5 = .ok (.if_icmp .ge 57, 3) := by decide +kernel
theorem dX3_copyFrom_8 : decode cX3_copyFrom 8 = .ok (.aload_n 0, 1) := by decide +kernel
theorem dX3_copyFrom_9 : decode cX3_copyFrom 9 = .ok (.getfield 9, 3) := by decide +kernel
theorem dX3_copyFrom_12 : decode cX3_copyFrom 12 = .ok (.iload_n 2, 1) := by decide +kernel
theorem dX3_copyFrom_13 : decode cX3_copyFrom 13 = .ok (.aload_n 1, 1) := by decide +kernel
theorem dX3_copyFrom_14 : decode cX3_copyFrom 14 = .ok (.getfield 9, 3) := by decide +kernel
theorem dX3_copyFrom_17 : decode cX3_copyFrom 17 = .ok (.iload_n 2, 1) := by decide +kernel
theorem dX3_copyFrom_18 : decode cX3_copyFrom 18 = .ok (.iaload, 1) := by decide +kernel
theorem dX3_copyFrom_19 : decode cX3_copyFrom 19 = .ok (.iastore, 1) := by decide +kernel
theorem dX3_copyFrom_20 : decode cX3_copyFrom 20 = .ok (.aload_n 0, 1) := by decide +kernel
theorem dX3_copyFrom_21 : decode cX3_copyFrom 21 = .ok (.getfield 15, 3) := by decide +kernel
theorem dX3_copyFrom_24 : decode cX3_copyFrom 24 = .ok (.iload_n 2, 1) := by decide +kernel
theorem dX3_copyFrom_25 : decode cX3_copyFrom 25 = .ok (.aload_n 1, 1) := by decide +kernel
theorem dX3_copyFrom_26 : decode cX3_copyFrom 26 = .ok (.getfield 15, 3) := by decide +kernel
theorem dX3_copyFrom_29 : decode cX3_copyFrom 29 = .ok (.iload_n 2, 1) := by decide +kernel
theorem dX3_copyFrom_30 : decode cX3_copyFrom 30 = .ok (.iaload, 1) := by decide +kernel
theorem dX3_copyFrom_31 : decode cX3_copyFrom 31 = .ok (.iastore, 1) := by decide +kernel
theorem dX3_copyFrom_32 : decode cX3_copyFrom 32 = .ok (.aload_n 0, 1) := by decide +kernel
theorem dX3_copyFrom_33 : decode cX3_copyFrom 33 = .ok (.getfield 18, 3) := by decide +kernel
theorem dX3_copyFrom_36 : decode cX3_copyFrom 36 = .ok (.iload_n 2, 1) := by decide +kernel
theorem dX3_copyFrom_37 : decode cX3_copyFrom 37 = .ok (.aload_n 1, 1) := by decide +kernel
theorem dX3_copyFrom_38 : decode cX3_copyFrom 38 = .ok (.getfield 18, 3) := by decide +kernel
theorem dX3_copyFrom_41 : decode cX3_copyFrom 41 = .ok (.iload_n 2, 1) := by decide +kernel
theorem dX3_copyFrom_42 : decode cX3_copyFrom 42 = .ok (.iaload, 1) := by decide +kernel
theorem dX3_copyFrom_43 : decode cX3_copyFrom 43 = .ok (.iastore, 1) := by decide +kernel
theorem dX3_copyFrom_44 : decode cX3_copyFrom 44 = .ok (.aload_n 0, 1) := by decide +kernel
theorem dX3_copyFrom_45 : decode cX3_copyFrom 45 = .ok (.getfield 21, 3) := by decide +kernel
theorem dX3_copyFrom_48 : decode cX3_copyFrom 48 = .ok (.iload_n 2, 1) := by decide +kernel
theorem dX3_copyFrom_49 : decode cX3_copyFrom 49 = .ok (.aload_n 1, 1) := by decide +kernel
theorem dX3_copyFrom_50 : decode cX3_copyFrom 50 = .ok (.getfield 21, 3) := by decide +kernel
theorem dX3_copyFrom_53 : decode cX3_copyFrom 53 = .ok (.iload_n 2, 1) := by decide +kernel
theorem dX3_copyFrom_54 : decode cX3_copyFrom 54 = .ok (.iaload, 1) := by decide +kernel
theorem dX3_copyFrom_55 : decode cX3_copyFrom 55 = .ok (.iastore, 1) := by decide +kernel
theorem dX3_copyFrom_56 : decode cX3_copyFrom 56 = .ok (.iinc 2 1, 3) := by decide +kernel
theorem dX3_copyFrom_59 : decode cX3_copyFrom 59 = .ok (.goto (-57), 3) := by decide +kernel
theorem dX3_copyFrom_62 : decode cX3_copyFrom 62 = .ok (.iconst 0, 1) := by decide +kernel
theorem dX3_copyFrom_63 : decode cX3_copyFrom 63 = .ok (.istore_n 2, 1) := by decide +kernel
theorem dX3_copyFrom_64 : decode cX3_copyFrom 64 = .ok (.iload_n 2, 1) := by decide +kernel
theorem dX3_copyFrom_65 : decode cX3_copyFrom 65 = .ok (.bipush 30, 2) := by decide +kernel
theorem dX3_copyFrom_67 : decode cX3_copyFrom 67 = .ok (.if_icmp .ge 57, 3) := by decide +kernel
theorem dX3_copyFrom_70 : decode cX3_copyFrom 70 = .ok (.aload_n 0, 1) := by decide +kernel
theorem dX3_copyFrom_71 : decode cX3_copyFrom 71 = .ok (.getfield 24, 3) := by decide +kernel
theorem dX3_copyFrom_74 : decode cX3_copyFrom 74 = .ok (.iload_n 2, 1) := by decide +kernel
theorem dX3_copyFrom_75 : decode cX3_copyFrom 75 = .ok (.aload_n 1, 1) := by decide +kernel
theorem dX3_copyFrom_76 : decode cX3_copyFrom 76 = .ok (.getfield 24, 3) := by decide +kernel
theorem dX3_copyFrom_79 : decode cX3_copyFrom 79 = .ok (.iload_n 2, 1) := by decide +kernel
theorem dX3_copyFrom_80 : decode cX3_copyFrom 80 = .ok (.iaload, 1) := by decide +kernel
theorem dX3_copyFrom_81 : decode cX3_copyFrom 81 = .ok (.iastore, 1) := by decide +kernel
theorem dX3_copyFrom_82 : decode cX3_copyFrom 82 = .ok (.aload_n 0, 1) := by decide +kernel
theorem dX3_copyFrom_83 : decode cX3_copyFrom 83 = .ok (.getfield 27, 3) := by decide +kernel
theorem dX3_copyFrom_86 : decode cX3_copyFrom 86 = .ok (.iload_n 2, 1) := by decide +kernel
theorem dX3_copyFrom_87 : decode cX3_copyFrom 87 = .ok (.aload_n 1, 1) := by decide +kernel
theorem dX3_copyFrom_88 : decode cX3_copyFrom 88 = .ok (.getfield 27, 3) := by decide +kernel
theorem dX3_copyFrom_91 : decode cX3_copyFrom 91 = .ok (.iload_n 2, 1) := by decide +kernel
theorem dX3_copyFrom_92 : decode cX3_copyFrom 92 = .ok (.baload, 1) := by decide +kernel
theorem dX3_copyFrom_93 : decode cX3_copyFrom 93 = .ok (.bastore, 1) := by decide +kernel
theorem dX3_copyFrom_94 : decode cX3_copyFrom 94 = .ok (.aload_n 0, 1) := by decide +kernel
theorem dX3_copyFrom_95 : decode cX3_copyFrom 95 = .ok (.getfield 31, 3) := by decide +kernel
theorem dX3_copyFrom_98 : decode cX3_copyFrom 98 = .ok (.iload_n 2, 1) := by decide +kernel
theorem dX3_copyFrom_99 : decode cX3_copyFrom 99 = .ok (.aload_n 1, 1) := by decide +kernel
theorem dX3_copyFrom_100 : decode cX3_copyFrom 100 = .ok (.getfield 31, 3) := by decide +kernel
theorem dX3_copyFrom_103 : decode cX3_copyFrom 103 = .ok (.iload_n 2, 1) := by decide +kernel
theorem dX3_copyFrom_104 : decode cX3_copyFrom 104 = .ok (.iaload, 1) := by decide +kernel
theorem dX3_copyFrom_105 : decode cX3_copyFrom 105 = .ok (.iastore, 1) := by decide +kernel
theorem dX3_copyFrom_106 : decode cX3_copyFrom 106 = .ok (.aload_n 0, 1) := by decide +kernel
theorem dX3_copyFrom_107 : decode cX3_copyFrom 107 = .ok (.getfield 34, 3) := by decide +kernel
theorem dX3_copyFrom_110 : decode cX3_copyFrom 110 = .ok (.iload_n 2, 1) := by decide +kernel
theorem dX3_copyFrom_111 : decode cX3_copyFrom 111 = .ok (.aload_n 1, 1) := by decide +kernel
theorem dX3_copyFrom_112 : decode cX3_copyFrom 112 = .ok (.getfield 34, 3) := by decide +kernel
theorem dX3_copyFrom_115 : decode cX3_copyFrom 115 = .ok (.iload_n 2, 1) := by decide +kernel
theorem dX3_copyFrom_116 : decode cX3_copyFrom 116 = .ok (.iaload, 1) := by decide +kernel
theorem dX3_copyFrom_117 : decode cX3_copyFrom 117 = .ok (.iastore, 1) := by decide +kernel
theorem dX3_copyFrom_118 : decode cX3_copyFrom 118 = .ok (.iinc 2 1, 3) := by decide +kernel
theorem dX3_copyFrom_121 : decode cX3_copyFrom 121 = .ok (.goto (-57), 3) := by decide +kernel
theorem dX3_copyFrom_124 : decode cX3_copyFrom 124 = .ok (.aload_n 0, 1) := by decide +kernel
theorem dX3_copyFrom_125 : decode cX3_copyFrom 125 = .ok (.aload_n 1, 1) := by decide +kernel
theorem dX3_copyFrom_126 : decode cX3_copyFrom 126 = .ok (.getfield 59, 3) := by decide +kernel
theorem dX3_copyFrom_129 : decode cX3_copyFrom 129 = .ok (.putfield 59, 3) := by decide +kernel
theorem dX3_copyFrom_132 : decode cX3_copyFrom 132 = .ok (.return_, 1) := by decide +kernel
theorem dX3_looksLike_0 : decode cX3_looksLike 0 = .ok (.iconst 0, 1) := by decide +kernel
theorem dX3_looksLike_1 : decode cX3_looksLike 1 = .ok (.istore_n 2, 1) := by decide +kernel
theorem dX3_looksLike_2 : decode cX3_looksLike 2 = .ok (.iload_n 2, 1) := by decide +kernel
theorem dX3_looksLike_3 : decode cX3_looksLike 3 = .ok (.bipush 6, 2) := by decide +kernel
theorem dX3_looksLike_5 : decode cX3_looksLike 5 = .ok (.if_icmp .ge 56, 3) := by decide +kernel
theorem dX3_looksLike_8 : decode cX3_looksLike 8 = .ok (.aload_n 0, 1) := by decide +kernel
theorem dX3_looksLike_9 : decode cX3_looksLike 9 = .ok (.getfield 9, 3) := by decide +kernel
theorem dX3_looksLike_12 : decode cX3_looksLike 12 = .ok (.iload_n 2, 1) := by decide +kernel
theorem dX3_looksLike_13 : decode cX3_looksLike 13 = .ok (.iaload, 1) := by decide +kernel
theorem dX3_looksLike_14 : decode cX3_looksLike 14 = .ok (.aload_n 1, 1) := by decide +kernel
theorem dX3_looksLike_15 : decode cX3_looksLike 15 = .ok (.getfield 9, 3) := by decide +kernel
theorem dX3_looksLike_18 : decode cX3_looksLike 18 = .ok (.iload_n 2, 1) := by decide +kernel
theorem dX3_looksLike_19 : decode cX3_looksLike 19 = .ok (.iaload, 1) := by decide +kernel
theorem dX3_looksLike_20 : decode cX3_looksLike 20 = .ok (.if_icmp .ne 33, 3) := by decide +kernel
theorem dX3_looksLike_23 : decode cX3_looksLike 23 = .ok (.aload_n 0, 1) := by decide +kernel
theorem dX3_looksLike_24 : decode cX3_looksLike 24 = .ok (.getfield 15, 3) := by decide +kernel
theorem dX3_looksLike_27 : decode cX3_looksLike 27 = .ok (.iload_n 2, 1) := by decide +kernel
theorem dX3_looksLike_28 : decode cX3_looksLike 28 = .ok (.iaload, 1) := by decide +kernel
theorem dX3_looksLike_29 : decode cX3_looksLike 29 = .ok (.aload_n 1, 1) := by decide +kernel
theorem dX3_looksLike_30 : decode cX3_looksLike 30 = .ok (.getfield 15, 3) := by decide +kernel
theorem dX3_looksLike_33 : decode cX3_looksLike 33 = .ok (.iload_n 2, 1) := by decide +kernel
theorem dX3_looksLike_34 : decode cX3_looksLike 34 = .ok (.iaload, 1) := by decide +kernel
theorem dX3_looksLike_35 : decode cX3_looksLike 35 = .ok (.if_icmp .ne 18, 3) := by decide +kernel
theorem dX3_looksLike_38 : decode cX3_looksLike 38 = .ok (.aload_n 0, 1) := by decide +kernel
theorem dX3_looksLike_39 : decode cX3_looksLike 39 = .ok (.getfield 18, 3) := by decide +kernel
theorem dX3_looksLike_42 : decode cX3_looksLike 42 = .ok (.iload_n 2, 1) := by decide +kernel
theorem dX3_looksLike_43 : decode cX3_looksLike 43 = .ok (.iaload, 1) := by decide +kernel
theorem dX3_looksLike_44 : decode cX3_looksLike 44 = .ok (.aload_n 1, 1) := by decide +kernel
theorem dX3_looksLike_45 : decode cX3_looksLike 45 = .ok (.getfield 18, 3) := by decide +kernel
theorem dX3_looksLike_48 : decode cX3_looksLike 48 = .ok (.iload_n 2, 1) := by decide +kernel
theorem dX3_looksLike_49 : decode cX3_looksLike 49 = .ok (.iaload, 1) := by decide +kernel
theorem dX3_looksLike_50 : decode cX3_looksLike 50 = .ok (.if_icmp .eq 5, 3) := by decide +kernel
theorem dX3_looksLike_53 : decode cX3_looksLike 53 = .ok (.iconst 0, 1) := by decide +kernel
theorem dX3_looksLike_54 : decode cX3_looksLike 54 = .ok (.ireturn, 1) := by decide +kernel
theorem dX3_looksLike_55 : decode cX3_looksLike 55 = .ok (.iinc 2 1, 3) := by decide +kernel
theorem dX3_looksLike_58 : decode cX3_looksLike 58 = .ok (.goto (-56), 3) := by decide +kernel
theorem dX3_looksLike_61 : decode cX3_looksLike 61 = .ok (.iconst 0, 1) := by decide +kernel
theorem dX3_looksLike_62 : decode cX3_looksLike 62 = .ok (.istore_n 2, 1) := by decide +kernel
theorem dX3_looksLike_63 : decode cX3_looksLike 63 = .ok (.iload_n 2, 1) := by decide +kernel
theorem dX3_looksLike_64 : decode cX3_looksLike 64 = .ok (.bipush 30, 2) := by decide +kernel
theorem dX3_looksLike_66 : decode cX3_looksLike 66 = .ok (.if_icmp .ge 41, 3) := by decide +kernel
theorem dX3_looksLike_69 : decode cX3_looksLike 69 = .ok (.aload_n 0, 1) := by decide +kernel
theorem dX3_looksLike_70 : decode cX3_looksLike 70 = .ok (.getfield 27, 3) := by decide +kernel
theorem dX3_looksLike_73 : decode cX3_looksLike 73 = .ok (.iload_n 2, 1) := by decide +kernel
theorem dX3_looksLike_74 : decode cX3_looksLike 74 = .ok (.baload, 1) := by decide +kernel
theorem dX3_looksLike_75 : decode cX3_looksLike 75 = .ok (.aload_n 1, 1) := by decide +kernel
theorem dX3_looksLike_76 : decode cX3_looksLike 76 = .ok (.getfield 27, 3) := by decide +kernel
theorem dX3_looksLike_79 : decode cX3_looksLike 79 = .ok (.iload_n 2, 1) := by decide +kernel
theorem dX3_looksLike_80 : decode cX3_looksLike 80 = .ok (.baload, 1) := by decide +kernel
theorem dX3_looksLike_81 : decode cX3_looksLike 81 = .ok (.if_icmp .ne 18, 3) := by decide +kernel
theorem dX3_looksLike_84 : decode cX3_looksLike 84 = .ok (.aload_n 0, 1) := by decide +kernel
theorem dX3_looksLike_85 : decode cX3_looksLike 85 = .ok (.getfield 31, 3) := by decide +kernel
theorem dX3_looksLike_88 : decode cX3_looksLike 88 = .ok (.iload_n 2, 1) := by decide +kernel
theorem dX3_looksLike_89 : decode cX3_looksLike 89 = .ok (.iaload, 1) := by decide +kernel
theorem dX3_looksLike_90 : decode cX3_looksLike 90 = .ok (.aload_n 1, 1) := by decide +kernel
theorem dX3_looksLike_91 : decode cX3_looksLike 91 = .ok (.getfield 31, 3) := by decide +kernel
theorem dX3_looksLike_94 : decode cX3_looksLike 94 = .ok (.iload_n 2, 1) := by decide +kernel
theorem dX3_looksLike_95 : decode cX3_looksLike 95 = .ok (.iaload, 1) := by decide +kernel
theorem dX3_looksLike_96 : decode cX3_looksLike 96 = .ok (.if_icmp .eq 5, 3) := by decide +kernel
theorem dX3_looksLike_99 : decode cX3_looksLike 99 = .ok (.iconst 0, 1) := by decide +kernel
theorem dX3_looksLike_100 : decode cX3_looksLike 100 = .ok (.ireturn, 1) := by decide +kernel
theorem dX3_looksLike_101 : decode cX3_looksLike 101 = .ok (.iinc 2 1, 3) := by decide +kernel
theorem dX3_looksLike_104 : decode cX3_looksLike 104 = .ok (.goto (-41), 3) := by decide +kernel
theorem dX3_looksLike_107 : decode cX3_looksLike 107 = .ok (.iconst 1, 1) := by decide +kernel
theorem dX3_looksLike_108 : decode cX3_looksLike 108 = .ok (.ireturn, 1) := by decide +kernel
theorem dX3_hasWaitingPort_0 : decode cX3_hasWaitingPort 0 = .ok (.iconst 0, 1) := by decide +kernel
theorem dX3_hasWaitingPort_1 : decode cX3_hasWaitingPort 1 = .ok (.istore_n 1, 1) := by decide +kernel
theorem dX3_hasWaitingPort_2 : decode cX3_hasWaitingPort 2 = .ok (.iload_n 1, 1) := by decide +kernel
theorem dX3_hasWaitingPort_3 : decode cX3_hasWaitingPort 3 = .ok (.bipush 30, 2) := by decide +kernel
theorem dX3_hasWaitingPort_5 : decode cX3_hasWaitingPort 5 = .ok (.if_icmp .ge 20, 3) := by decide +kernel
theorem dX3_hasWaitingPort_8 : decode cX3_hasWaitingPort 8 = .ok (.aload_n 0, 1) := by decide +kernel
theorem dX3_hasWaitingPort_9 : decode cX3_hasWaitingPort 9 = .ok (.getfield 34, 3) := by decide +kernel
theorem dX3_hasWaitingPort_12 : decode cX3_hasWaitingPort 12 = .ok (.iload_n 1, 1) := by decide +kernel
theorem dX3_hasWaitingPort_13 : decode cX3_hasWaitingPort 13 = .ok (.iaload, 1) := by decide +kernel
theorem dX3_hasWaitingPort_14 : decode cX3_hasWaitingPort 14 = .ok (.ifCond .le 5, 3) := by decide +kernel
theorem dX3_hasWaitingPort_17 : decode cX3_hasWaitingPort 17 = .ok (.iconst 1, 1) := by decide +kernel
theorem dX3_hasWaitingPort_18 : decode cX3_hasWaitingPort 18 = .ok (.ireturn, 1) := by decide +kernel
theorem dX3_hasWaitingPort_19 : decode cX3_hasWaitingPort 19 = .ok (.iinc 1 1, 3) := by decide +kernel
theorem dX3_hasWaitingPort_22 : decode cX3_hasWaitingPort 22 = .ok (.goto (-20), 3) := by decide +kernel
theorem dX3_hasWaitingPort_25 : decode cX3_hasWaitingPort 25 = .ok (.iconst 0, 1) := by decide +kernel
theorem dX3_hasWaitingPort_26 : decode cX3_hasWaitingPort 26 = .ok (.ireturn, 1) := by decide +kernel
theorem dX3_isShut_0 : decode cX3_isShut 0 = .ok (.aload_n 0, 1) := by decide +kernel
theorem dX3_isShut_1 : decode cX3_isShut 1 = .ok (.getfield 24, 3) := by decide +kernel
theorem dX3_isShut_4 : decode cX3_isShut 4 = .ok (.iload_n 1, 1) := by decide +kernel
theorem dX3_isShut_5 : decode cX3_isShut 5 = .ok (.iaload, 1) := by decide +kernel
theorem dX3_isShut_6 : decode cX3_isShut 6 = .ok (.ifCond .eq 7, 3) := by decide +kernel
theorem dX3_isShut_9 : decode cX3_isShut 9 = .ok (.iconst 1, 1) := by decide +kernel
theorem dX3_isShut_10 : decode cX3_isShut 10 = .ok (.goto 4, 3) := by decide +kernel
theorem dX3_isShut_13 : decode cX3_isShut 13 = .ok (.iconst 0, 1) := by decide +kernel
theorem dX3_isShut_14 : decode cX3_isShut 14 = .ok (.ireturn, 1) := by decide +kernel
set_option maxRecDepth 20000 in
theorem ggX3_isJoined_X3_isShut : GoodIn wsX3_isJoined wsX3_isShut := goodIn_r _ [7, 8, 9, 10, 11, 12, 13, 14, 15, 16, 17, 18, 19, 20, 21, 22, 23, 24] (by decide +kernel) (by decide +kernel)
set_option maxRecDepth 20000 in
theorem gX3_isJoined_X3_isShut : GoodIn wsX3_isJoined (wsV RX3 68 RX3 yX3_isShut wsX3_isShut) := goodIn_app (goodIn_of _ (by decide +kernel)) ggX3_isJoined_X3_isShut
theorem dX3_isJoined_0 : decode cX3_isJoined 0 = .ok (.aload_n 0, 1) := by decide +kernel
theorem dX3_isJoined_1 : decode cX3_isJoined 1 = .ok (.getfield 55, 3) := by decide +kernel
theorem dX3_isJoined_4 : decode cX3_isJoined 4 = .ok (.getfield 63, 3) := by decide +kernel
theorem dX3_isJoined_7 : decode cX3_isJoined 7 = .ok (.iload_n 1, 1) := by decide +kernel
theorem dX3_isJoined_8 : decode cX3_isJoined 8 = .ok (.iaload, 1) := by decide +kernel
theorem dX3_isJoined_9 : decode cX3_isJoined 9 = .ok (.istore_n 2, 1) := by decide +kernel
theorem dX3_isJoined_10 : decode cX3_isJoined 10 = .ok (.iload_n 2, 1) := by decide +kernel
theorem dX3_isJoined_11 : decode cX3_isJoined 11 = .ok (.iconst (-1), 1) := by decide +kernel
theorem dX3_isJoined_12 : decode cX3_isJoined 12 = .ok (.if_icmp .eq 23, 3) := by decide +kernel
theorem dX3_isJoined_15 : decode cX3_isJoined 15 = .ok (.aload_n 0, 1) := by decide +kernel
theorem dX3_isJoined_16 : decode cX3_isJoined 16 = .ok (.iload_n 1, 1) := by decide +kernel
theorem dX3_isJoined_17 : decode cX3_isJoined 17 = .ok (.invokevirtual 68, 3) := by decide +kernel
theorem dX3_isJoined_20 : decode cX3_isJoined 20 = .ok (.ifCond .ne 15, 3) := by decide +kernel
theorem dX3_isJoined_23 : decode cX3_isJoined 23 = .ok (.aload_n 0, 1) := by decide +kernel
theorem dX3_isJoined_24 : decode cX3_isJoined 24 = .ok (.iload_n 2, 1) := by decide +kernel
theorem dX3_isJoined_25 : decode cX3_isJoined 25 = .ok (.invokevirtual 68, 3) := by decide +kernel
theorem dX3_isJoined_28 : decode cX3_isJoined 28 = .ok (.ifCond .ne 7, 3) := by decide +kernel
theorem dX3_isJoined_31 : decode cX3_isJoined 31 = .ok (.iconst 1, 1) := by decide +kernel
theorem dX3_isJoined_32 : decode cX3_isJoined 32 = .ok (.goto 4, 3) := by decide +kernel
theorem dX3_isJoined_35 : decode cX3_isJoined 35 = .ok (.iconst 0, 1) := by decide +kernel
theorem dX3_isJoined_36 : decode cX3_isJoined 36 = .ok (.ireturn, 1) := by decide +kernel
theorem dX3_close_0 : decode cX3_close 0 = .ok (.aload_n 0, 1) := by decide +kernel
theorem dX3_close_1 : decode cX3_close 1 = .ok (.getfield 27, 3) := by decide +kernel
theorem dX3_close_4 : decode cX3_close 4 = .ok (.iload_n 1, 1) := by decide +kernel
theorem dX3_close_5 : decode cX3_close 5 = .ok (.iconst 0, 1) := by decide +kernel
theorem dX3_close_6 : decode cX3_close 6 = .ok (.bastore, 1) := by decide +kernel
theorem dX3_close_7 : decode cX3_close 7 = .ok (.aload_n 0, 1) := by decide +kernel
theorem dX3_close_8 : decode cX3_close 8 = .ok (.getfield 31, 3) := by decide +kernel
theorem dX3_close_11 : decode cX3_close 11 = .ok (.iload_n 1, 1) := by decide +kernel
theorem dX3_close_12 : decode cX3_close 12 = .ok (.iconst 0, 1) := by decide +kernel
theorem dX3_close_13 : decode cX3_close 13 = .ok (.iastore, 1) := by decide +kernel
theorem dX3_close_14 : decode cX3_close 14 = .ok (.aload_n 0, 1) := by decide +kernel
theorem dX3_close_15 : decode cX3_close 15 = .ok (.getfield 34, 3) := by decide +kernel
theorem dX3_close_18 : decode cX3_close 18 = .ok (.iload_n 1, 1) := by decide +kernel
theorem dX3_close_19 : decode cX3_close 19 = .ok (.iconst 0, 1) := by decide +kernel
theorem dX3_close_20 : decode cX3_close 20 = .ok (.iastore, 1) := by decide +kernel
theorem dX3_close_21 : decode cX3_close 21 = .ok (.return_, 1) := by decide +kernel
set_option maxRecDepth 20000 in
theorem ggX3_openForHouse_X3_isShut : GoodIn wsX3_openForHouse wsX3_isShut := goodIn_r _ [8, 9, 10, 11, 12, 13, 14, 15, 16, 17, 18, 19, 20, 21, 22, 23, 24, 25] (by decide +kernel) (by decide +kernel)
set_option maxRecDepth 20000 in
theorem gX3_openForHouse_X3_isShut : GoodIn wsX3_openForHouse (wsV RX3 68 RX3 yX3_isShut wsX3_isShut) := goodIn_app (goodIn_of _ (by decide +kernel)) ggX3_openForHouse_X3_isShut
theorem dX3_openForHouse_0 : decode cX3_openForHouse 0 = .ok (.aload_n 0, 1) := by decide +kernel
theorem dX3_openForHouse_1 : decode cX3_openForHouse 1 = .ok (.getfield 27, 3) := by decide +kernel
theorem dX3_openForHouse_4 : decode cX3_openForHouse 4 = .ok (.iload_n 1, 1) := by decide +kernel
theorem dX3_openForHouse_5 : decode cX3_openForHouse 5 = .ok (.aload_n 0, 1) := by decide +kernel
theorem dX3_openForHouse_6 : decode cX3_openForHouse 6 = .ok (.iload_n 1, 1) := by decide +kernel
theorem dX3_openForHouse_7 : decode cX3_openForHouse 7 = .ok (.invokevirtual 68, 3) := by decide +kernel
theorem dX3_openForHouse_10 : decode cX3_openForHouse 10 = .ok (.ifCond .ne 20, 3) := by decide +kernel
theorem dX3_openForHouse_13 : decode cX3_openForHouse 13 = .ok (.aload_n 0, 1) := by decide +kernel
theorem dX3_openForHouse_14 : decode cX3_openForHouse 14 = .ok (.getfield 55, 3) := by decide +kernel
theorem dX3_openForHouse_17 : decode cX3_openForHouse 17 = .ok (.getfield 72, 3) := by decide +kernel
theorem dX3_openForHouse_20 : decode cX3_openForHouse 20 = .ok (.iload_n 1, 1) := by decide +kernel
theorem dX3_openForHouse_21 : decode cX3_openForHouse 21 = .ok (.iaload, 1) := by decide +kernel
theorem dX3_openForHouse_22 : decode cX3_openForHouse 22 = .ok (.iconst (-1), 1) := by decide +kernel
theorem dX3_openForHouse_23 : decode cX3_openForHouse 23 = .ok (.if_icmp .eq 7, 3) := by decide +kernel
theorem dX3_openForHouse_26 : decode cX3_openForHouse 26 = .ok (.iconst 1, 1) := by decide +kernel
theorem dX3_openForHouse_27 : decode cX3_openForHouse 27 = .ok (.goto 4, 3) := by decide +kernel
theorem dX3_openForHouse_30 : decode cX3_openForHouse 30 = .ok (.iconst 0, 1) := by decide +kernel
theorem dX3_openForHouse_31 : decode cX3_openForHouse 31 = .ok (.bastore, 1) := by decide +kernel
theorem dX3_openForHouse_32 : decode cX3_openForHouse 32 = .ok (.return_, 1) := by decide +kernel
set_option maxRecDepth 20000 in
theorem ggX3_beginShut_X3_close : GoodIn wsX3_beginShut wsX3_close := goodIn_r _ [6, 7, 8, 9, 10, 11, 12, 13, 14, 15, 16, 17, 18, 19, 20, 21, 22, 23, 24, 25] (by decide +kernel) (by decide +kernel)
set_option maxRecDepth 20000 in
theorem gX3_beginShut_X3_close : GoodIn wsX3_beginShut (wsV RX3 75 RX3 yX3_close wsX3_close) := goodIn_app (goodIn_of _ (by decide +kernel)) ggX3_beginShut_X3_close
theorem dX3_beginShut_0 : decode cX3_beginShut 0 = .ok (.aload_n 0, 1) := by decide +kernel
theorem dX3_beginShut_1 : decode cX3_beginShut 1 = .ok (.getfield 24, 3) := by decide +kernel
theorem dX3_beginShut_4 : decode cX3_beginShut 4 = .ok (.iload_n 1, 1) := by decide +kernel
theorem dX3_beginShut_5 : decode cX3_beginShut 5 = .ok (.iload_n 2, 1) := by decide +kernel
theorem dX3_beginShut_6 : decode cX3_beginShut 6 = .ok (.iastore, 1) := by decide +kernel
theorem dX3_beginShut_7 : decode cX3_beginShut 7 = .ok (.aload_n 0, 1) := by decide +kernel
theorem dX3_beginShut_8 : decode cX3_beginShut 8 = .ok (.iload_n 1, 1) := by decide +kernel
theorem dX3_beginShut_9 : decode cX3_beginShut 9 = .ok (.invokevirtual 75, 3) := by decide +kernel
theorem dX3_beginShut_12 : decode cX3_beginShut 12 = .ok (.return_, 1) := by decide +kernel
set_option maxRecDepth 20000 in
theorem ggX3_endShut_X3_openForHouse : GoodIn wsX3_endShut wsX3_openForHouse := goodIn_r _ [6, 7, 8, 9, 10, 11, 12, 5, 13, 1, 14, 15, 16, 17, 18, 19, 20, 21, 22, 23, 24, 25, 26, 27, 28, 29, 30, 31, 32, 33, 34, 35, 36, 37] (by decide +kernel) (by decide +kernel)
set_option maxRecDepth 20000 in
theorem gX3_endShut_X3_openForHouse : GoodIn wsX3_endShut (wsV RX3 79 RX3 yX3_openForHouse wsX3_openForHouse) := goodIn_app (goodIn_of _ (by decide +kernel)) ggX3_endShut_X3_openForHouse
theorem dX3_endShut_0 : decode cX3_endShut 0 = .ok (.aload_n 0, 1) := by decide +kernel
theorem dX3_endShut_1 : decode cX3_endShut 1 = .ok (.getfield 24, 3) := by decide +kernel
theorem dX3_endShut_4 : decode cX3_endShut 4 = .ok (.iload_n 1, 1) := by decide +kernel
theorem dX3_endShut_5 : decode cX3_endShut 5 = .ok (.iconst 0, 1) := by decide +kernel
theorem dX3_endShut_6 : decode cX3_endShut 6 = .ok (.iastore, 1) := by decide +kernel
theorem dX3_endShut_7 : decode cX3_endShut 7 = .ok (.aload_n 0, 1) := by decide +kernel
theorem dX3_endShut_8 : decode cX3_endShut 8 = .ok (.iload_n 1, 1) := by decide +kernel
theorem dX3_endShut_9 : decode cX3_endShut 9 = .ok (.invokevirtual 79, 3) := by decide +kernel
theorem dX3_endShut_12 : decode cX3_endShut 12 = .ok (.return_, 1) := by decide +kernel
set_option maxRecDepth 20000 in
theorem ggX3_pass_X3_tell : GoodIn wsX3_pass wsX3_tell := goodIn_r _ [7, 8, 9, 10, 11, 12, 13, 14, 15, 16, 17, 18, 6, 19, 20, 21, 22, 23, 24, 98, 99, 100, 101, 102, 103, 104, 105, 106, 107, 108, 109, 110, 111, 112, 113, 114, 115, 116, 117, 118, 119, 120, 121] (by decide +kernel) (by decide +kernel)
set_option maxRecDepth 20000 in
theorem gX3_pass_X3_tell : GoodIn wsX3_pass (wsV RX3 82 RX3 yX3_tell wsX3_tell) := goodIn_app (goodIn_of _ (by decide +kernel)) ggX3_pass_X3_tell
set_option maxRecDepth 20000 in
theorem ggX3_pass_X3_guardForHouses : GoodIn wsX3_pass wsX3_guardForHouses := goodIn_r _ [28, 29, 9, 30, 8, 31, 32, 33, 6, 34, 24, 35, 36, 37, 38, 39, 40, 41, 98, 99, 100, 101, 102, 103, 104, 105, 106, 107, 108, 109, 110, 111, 112, 113, 114, 115, 116, 117, 118, 119, 120, 121] (by decide +kernel) (by decide +kernel)
set_option maxRecDepth 20000 in
theorem gX3_pass_X3_guardForHouses : GoodIn wsX3_pass (wsV RX3 85 RX3 yX3_guardForHouses wsX3_guardForHouses) := goodIn_app (goodIn_of _ (by decide +kernel)) ggX3_pass_X3_guardForHouses
set_option maxRecDepth 20000 in
theorem ggX3_pass_X3_takeBest : GoodIn wsX3_pass wsX3_takeBest := goodIn_r _ [45, 11, 13, 15, 46, 9, 30, 8, 47, 48, 49, 50, 51, 52, 6, 53, 14, 12, 54, 55, 56, 57, 58, 10, 59, 60, 61, 62, 63, 64, 98, 99, 100, 101, 102, 103, 104, 105, 106, 107, 108, 109, 110, 111, 112, 113, 114, 115, 116, 117, 118, 119, 120, 121] (by decide +kernel) (by decide +kernel)
set_option maxRecDepth 20000 in
theorem gX3_pass_X3_takeBest : GoodIn wsX3_pass (wsV RX3 88 RX3 yX3_takeBest wsX3_takeBest) := goodIn_app (goodIn_of _ (by decide +kernel)) ggX3_pass_X3_takeBest
set_option maxRecDepth 20000 in
theorem ggX3_pass_X3_turn : GoodIn wsX3_pass wsX3_turn := goodIn_r _ [68, 40, 9, 10, 41, 39, 69, 70, 71, 6, 72, 46, 8, 20, 21, 22, 23, 24, 73, 74, 75, 76, 11, 13, 12, 59, 60, 61, 62, 63, 64, 77, 78, 79, 80, 2, 98, 99, 100, 101, 102, 103, 104, 105, 106, 107, 108, 109, 110, 111, 112, 113, 114, 115, 116, 117, 118, 119, 120, 121] (by decide +kernel) (by decide +kernel)
set_option maxRecDepth 20000 in
theorem gX3_pass_X3_turn : GoodIn wsX3_pass (wsV RX3 91 RX3 yX3_turn wsX3_turn) := goodIn_app (goodIn_of _ (by decide +kernel)) ggX3_pass_X3_turn
set_option maxRecDepth 20000 in
theorem ggX3_pass_X3_spreadStale : GoodIn wsX3_pass wsX3_spreadStale := goodIn_r _ [84, 2, 9, 10, 16, 17, 18, 6, 19, 20, 21, 22, 23, 24, 98, 99, 100, 101, 102, 103, 104, 105, 106, 107, 108, 109, 110, 111, 112, 113, 114, 115, 116, 117, 118, 119, 120, 121] (by decide +kernel) (by decide +kernel)
set_option maxRecDepth 20000 in
theorem gX3_pass_X3_spreadStale : GoodIn wsX3_pass (wsV RX3 94 RX3 yX3_spreadStale wsX3_spreadStale) := goodIn_app (goodIn_of _ (by decide +kernel)) ggX3_pass_X3_spreadStale
set_option maxRecDepth 20000 in
theorem ggX3_pass_X3_endStorms : GoodIn wsX3_pass wsX3_endStorms := goodIn_r _ [88, 24, 1, 89, 90, 91, 6, 92, 93, 94, 95, 96, 39, 9, 97, 20, 21, 22, 23, 98, 99, 100, 101, 102, 103, 104, 105, 106, 107, 108, 109, 110, 111, 112, 113, 114, 115, 116, 117, 118, 119, 120, 121] (by decide +kernel) (by decide +kernel)
set_option maxRecDepth 20000 in
theorem gX3_pass_X3_endStorms : GoodIn wsX3_pass (wsV RX3 97 RX3 yX3_endStorms wsX3_endStorms) := goodIn_app (goodIn_of _ (by decide +kernel)) ggX3_pass_X3_endStorms
theorem dX3_pass_0 : decode cX3_pass 0 = .ok (.aload_n 0, 1) := by decide +kernel
theorem dX3_pass_1 : decode cX3_pass 1 = .ok (.dup, 1) := by decide +kernel
theorem dX3_pass_2 : decode cX3_pass 2 = .ok (.getfield 59, 3) := by decide +kernel
theorem dX3_pass_5 : decode cX3_pass 5 = .ok (.iconst 1, 1) := by decide +kernel
theorem dX3_pass_6 : decode cX3_pass 6 = .ok (.iadd, 1) := by decide +kernel
theorem dX3_pass_7 : decode cX3_pass 7 = .ok (.putfield 59, 3) := by decide +kernel
theorem dX3_pass_10 : decode cX3_pass 10 = .ok (.aload_n 0, 1) := by decide +kernel
theorem dX3_pass_11 : decode cX3_pass 11 = .ok (.invokevirtual 82, 3) := by decide +kernel
theorem dX3_pass_14 : decode cX3_pass 14 = .ok (.aload_n 0, 1) := by decide +kernel
theorem dX3_pass_15 : decode cX3_pass 15 = .ok (.invokevirtual 85, 3) := by decide +kernel
theorem dX3_pass_18 : decode cX3_pass 18 = .ok (.iconst 0, 1) := by decide +kernel
theorem dX3_pass_19 : decode cX3_pass 19 = .ok (.istore_n 1, 1) := by decide +kernel
theorem dX3_pass_20 : decode cX3_pass 20 = .ok (.iload_n 1, 1) := by decide +kernel
theorem dX3_pass_21 : decode cX3_pass 21 = .ok (.bipush 6, 2) := by decide +kernel
theorem dX3_pass_23 : decode cX3_pass 23 = .ok (.if_icmp .ge 21, 3) := by decide +kernel
theorem dX3_pass_26 : decode cX3_pass 26 = .ok (.aload_n 0, 1) := by decide +kernel
theorem dX3_pass_27 : decode cX3_pass 27 = .ok (.getfield 49, 3) := by decide +kernel
theorem dX3_pass_30 : decode cX3_pass 30 = .ok (.iload_n 1, 1) := by decide +kernel
theorem dX3_pass_31 : decode cX3_pass 31 = .ok (.iconst 0, 1) := by decide +kernel
theorem dX3_pass_32 : decode cX3_pass 32 = .ok (.bastore, 1) := by decide +kernel
theorem dX3_pass_33 : decode cX3_pass 33 = .ok (.aload_n 0, 1) := by decide +kernel
theorem dX3_pass_34 : decode cX3_pass 34 = .ok (.iload_n 1, 1) := by decide +kernel
theorem dX3_pass_35 : decode cX3_pass 35 = .ok (.invokevirtual 88, 3) := by decide +kernel
theorem dX3_pass_38 : decode cX3_pass 38 = .ok (.iinc 1 1, 3) := by decide +kernel
theorem dX3_pass_41 : decode cX3_pass 41 = .ok (.goto (-21), 3) := by decide +kernel
theorem dX3_pass_44 : decode cX3_pass 44 = .ok (.iconst 0, 1) := by decide +kernel
theorem dX3_pass_45 : decode cX3_pass 45 = .ok (.istore_n 1, 1) := by decide +kernel
theorem dX3_pass_46 : decode cX3_pass 46 = .ok (.iload_n 1, 1) := by decide +kernel
theorem dX3_pass_47 : decode cX3_pass 47 = .ok (.bipush 30, 2) := by decide +kernel
theorem dX3_pass_49 : decode cX3_pass 49 = .ok (.if_icmp .ge 14, 3) := by decide +kernel
theorem dX3_pass_52 : decode cX3_pass 52 = .ok (.aload_n 0, 1) := by decide +kernel
theorem dX3_pass_53 : decode cX3_pass 53 = .ok (.iload_n 1, 1) := by decide +kernel
theorem dX3_pass_54 : decode cX3_pass 54 = .ok (.invokevirtual 91, 3) := by decide +kernel
theorem dX3_pass_57 : decode cX3_pass 57 = .ok (.iinc 1 1, 3) := by decide +kernel
theorem dX3_pass_60 : decode cX3_pass 60 = .ok (.goto (-14), 3) := by decide +kernel
theorem dX3_pass_63 : decode cX3_pass 63 = .ok (.aload_n 0, 1) := by decide +kernel
theorem dX3_pass_64 : decode cX3_pass 64 = .ok (.invokevirtual 94, 3) := by decide +kernel
theorem dX3_pass_67 : decode cX3_pass 67 = .ok (.aload_n 0, 1) := by decide +kernel
theorem dX3_pass_68 : decode cX3_pass 68 = .ok (.invokevirtual 97, 3) := by decide +kernel
theorem dX3_pass_71 : decode cX3_pass 71 = .ok (.return_, 1) := by decide +kernel
set_option maxRecDepth 20000 in
theorem ggX3_tell_X3_isJoined : GoodIn wsX3_tell wsX3_isJoined := goodIn_r _ [13, 2, 3, 14, 15, 16, 12, 17, 18, 19, 20, 21, 22, 23, 24, 25, 26, 27, 28, 29, 30, 31, 32, 33, 34, 35, 36, 37, 38, 39, 40, 41, 42] (by decide +kernel) (by decide +kernel)
set_option maxRecDepth 20000 in
theorem gX3_tell_X3_isJoined : GoodIn wsX3_tell (wsV RX3 100 RX3 yX3_isJoined wsX3_isJoined) := goodIn_app (goodIn_of _ (by decide +kernel)) ggX3_tell_X3_isJoined
theorem dX3_tell_0 : decode cX3_tell 0 = .ok (.iconst 0, 1) := by decide +kernel
theorem dX3_tell_1 : decode cX3_tell 1 = .ok (.istore_n 1, 1) := by decide +kernel
theorem dX3_tell_2 : decode cX3_tell 2 = .ok (.iload_n 1, 1) := by decide +kernel
theorem dX3_tell_3 : decode cX3_tell 3 = .ok (.bipush 30, 2) := by decide +kernel
theorem dX3_tell_5 : decode cX3_tell 5 = .ok (.if_icmp .ge 72, 3) := by decide +kernel
theorem dX3_tell_8 : decode cX3_tell 8 = .ok (.aload_n 0, 1) := by decide +kernel
theorem dX3_tell_9 : decode cX3_tell 9 = .ok (.getfield 37, 3) := by decide +kernel
theorem dX3_tell_12 : decode cX3_tell 12 = .ok (.iload_n 1, 1) := by decide +kernel
theorem dX3_tell_13 : decode cX3_tell 13 = .ok (.iconst (-1), 1) := by decide +kernel
theorem dX3_tell_14 : decode cX3_tell 14 = .ok (.iastore, 1) := by decide +kernel
theorem dX3_tell_15 : decode cX3_tell 15 = .ok (.aload_n 0, 1) := by decide +kernel
theorem dX3_tell_16 : decode cX3_tell 16 = .ok (.iload_n 1, 1) := by decide +kernel
theorem dX3_tell_17 : decode cX3_tell 17 = .ok (.invokevirtual 100, 3) := by decide +kernel
theorem dX3_tell_20 : decode cX3_tell 20 = .ok (.ifCond .eq 51, 3) := by decide +kernel
theorem dX3_tell_23 : decode cX3_tell 23 = .ok (.aload_n 0, 1) := by decide +kernel
theorem dX3_tell_24 : decode cX3_tell 24 = .ok (.getfield 55, 3) := by decide +kernel
theorem dX3_tell_27 : decode cX3_tell 27 = .ok (.getfield 63, 3) := by decide +kernel
theorem dX3_tell_30 : decode cX3_tell 30 = .ok (.iload_n 1, 1) := by decide +kernel
theorem dX3_tell_31 : decode cX3_tell 31 = .ok (.iaload, 1) := by decide +kernel
theorem dX3_tell_32 : decode cX3_tell 32 = .ok (.iconst 5, 1) := by decide +kernel
theorem dX3_tell_33 : decode cX3_tell 33 = .ok (.idiv, 1) := by decide +kernel
theorem dX3_tell_34 : decode cX3_tell 34 = .ok (.istore_n 2, 1) := by decide +kernel
theorem dX3_tell_35 : decode cX3_tell 35 = .ok (.aload_n 0, 1) := by decide +kernel
theorem dX3_tell_36 : decode cX3_tell 36 = .ok (.getfield 37, 3) := by decide +kernel
theorem dX3_tell_39 : decode cX3_tell 39 = .ok (.iload_n 1, 1) := by decide +kernel
theorem dX3_tell_40 : decode cX3_tell 40 = .ok (.aload_n 0, 1) := by decide +kernel
theorem dX3_tell_41 : decode cX3_tell 41 = .ok (.getfield 9, 3) := by decide +kernel
theorem dX3_tell_44 : decode cX3_tell 44 = .ok (.iload_n 2, 1) := by decide +kernel
theorem dX3_tell_45 : decode cX3_tell 45 = .ok (.iaload, 1) := by decide +kernel
theorem dX3_tell_46 : decode cX3_tell 46 = .ok (.iastore, 1) := by decide +kernel
theorem dX3_tell_47 : decode cX3_tell 47 = .ok (.aload_n 0, 1) := by decide +kernel
theorem dX3_tell_48 : decode cX3_tell 48 = .ok (.getfield 40, 3) := by decide +kernel
theorem dX3_tell_51 : decode cX3_tell 51 = .ok (.iload_n 1, 1) := by decide +kernel
theorem dX3_tell_52 : decode cX3_tell 52 = .ok (.aload_n 0, 1) := by decide +kernel
theorem dX3_tell_53 : decode cX3_tell 53 = .ok (.getfield 15, 3) := by decide +kernel
theorem dX3_tell_56 : decode cX3_tell 56 = .ok (.iload_n 2, 1) := by decide +kernel
theorem dX3_tell_57 : decode cX3_tell 57 = .ok (.iaload, 1) := by decide +kernel
theorem dX3_tell_58 : decode cX3_tell 58 = .ok (.iastore, 1) := by decide +kernel
theorem dX3_tell_59 : decode cX3_tell 59 = .ok (.aload_n 0, 1) := by decide +kernel
theorem dX3_tell_60 : decode cX3_tell 60 = .ok (.getfield 43, 3) := by decide +kernel
theorem dX3_tell_63 : decode cX3_tell 63 = .ok (.iload_n 1, 1) := by decide +kernel
theorem dX3_tell_64 : decode cX3_tell 64 = .ok (.aload_n 0, 1) := by decide +kernel
theorem dX3_tell_65 : decode cX3_tell 65 = .ok (.getfield 18, 3) := by decide +kernel
theorem dX3_tell_68 : decode cX3_tell 68 = .ok (.iload_n 2, 1) := by decide +kernel
theorem dX3_tell_69 : decode cX3_tell 69 = .ok (.iaload, 1) := by decide +kernel
theorem dX3_tell_70 : decode cX3_tell 70 = .ok (.iastore, 1) := by decide +kernel
theorem dX3_tell_71 : decode cX3_tell 71 = .ok (.iinc 1 1, 3) := by decide +kernel
theorem dX3_tell_74 : decode cX3_tell 74 = .ok (.goto (-72), 3) := by decide +kernel
theorem dX3_tell_77 : decode cX3_tell 77 = .ok (.return_, 1) := by decide +kernel
set_option maxRecDepth 20000 in
theorem ggX3_guardForHouses_X3_beginShut : GoodIn wsX3_guardForHouses wsX3_beginShut := goodIn_r _ [9, 10, 11, 12, 13, 8, 14, 15, 16, 17, 18, 19, 20, 21, 22, 23, 24, 25, 26, 27, 28, 29, 30, 31, 32, 33] (by decide +kernel) (by decide +kernel)
set_option maxRecDepth 20000 in
theorem gX3_guardForHouses_X3_beginShut : GoodIn wsX3_guardForHouses (wsV RX3 106 RX3 yX3_beginShut wsX3_beginShut) := goodIn_app (goodIn_of _ (by decide +kernel)) ggX3_guardForHouses_X3_beginShut
theorem dX3_guardForHouses_0 : decode cX3_guardForHouses 0 = .ok (.iconst 0, 1) := by decide +kernel
theorem dX3_guardForHouses_1 : decode cX3_guardForHouses 1 = .ok (.istore_n 1, 1) := by decide +kernel
theorem dX3_guardForHouses_2 : decode cX3_guardForHouses 2 = .ok (.iload_n 1, 1) := by decide +kernel
theorem dX3_guardForHouses_3 : decode cX3_guardForHouses 3 = .ok (.bipush 30, 2) := by decide +kernel
theorem dX3_guardForHouses_5 : decode cX3_guardForHouses 5 = .ok (.if_icmp .ge 65, 3) := by decide +kernel
theorem dX3_guardForHouses_8 : decode cX3_guardForHouses 8 = .ok (.aload_n 0, 1) := by decide +kernel
theorem dX3_guardForHouses_9 : decode cX3_guardForHouses 9 = .ok (.getfield 46, 3) := by decide +kernel
theorem dX3_guardForHouses_12 : decode cX3_guardForHouses 12 = .ok (.iload_n 1, 1) := by decide +kernel
theorem dX3_guardForHouses_13 : decode cX3_guardForHouses 13 = .ok (.aload_n 0, 1) := by decide +kernel
theorem dX3_guardForHouses_14 : decode cX3_guardForHouses 14 = .ok (.getfield 55, 3) := by decide +kernel
theorem dX3_guardForHouses_17 : decode cX3_guardForHouses 17 = .ok (.getfield 103, 3) := by decide +kernel
theorem dX3_guardForHouses_20 : decode cX3_guardForHouses 20 = .ok (.iload_n 1, 1) := by decide +kernel
theorem dX3_guardForHouses_21 : decode cX3_guardForHouses 21 = .ok (.iaload, 1) := by decide +kernel
theorem dX3_guardForHouses_22 : decode cX3_guardForHouses 22 = .ok (.iconst 2, 1) := by decide +kernel
theorem dX3_guardForHouses_23 : decode cX3_guardForHouses 23 = .ok (.if_icmp .ne 17, 3) := by decide +kernel
theorem dX3_guardForHouses_26 : decode cX3_guardForHouses 26 = .ok (.aload_n 0, 1) := by decide +kernel
theorem dX3_guardForHouses_27 : decode cX3_guardForHouses 27 = .ok (.getfield 37, 3) := by decide +kernel
theorem dX3_guardForHouses_30 : decode cX3_guardForHouses 30 = .ok (.iload_n 1, 1) := by decide +kernel
theorem dX3_guardForHouses_31 : decode cX3_guardForHouses 31 = .ok (.iaload, 1) := by decide +kernel
theorem dX3_guardForHouses_32 : decode cX3_guardForHouses 32 = .ok (.iconst (-1), 1) := by decide +kernel
theorem dX3_guardForHouses_33 : decode cX3_guardForHouses 33 = .ok (.if_icmp .eq 7, 3) := by decide +kernel
theorem dX3_guardForHouses_36 : decode cX3_guardForHouses 36 = .ok (.iconst 1, 1) := by decide +kernel
theorem dX3_guardForHouses_37 : decode cX3_guardForHouses 37 = .ok (.goto 4, 3) := by decide +kernel
theorem dX3_guardForHouses_40 : decode cX3_guardForHouses 40 = .ok (.iconst 0, 1) := by decide +kernel
theorem dX3_guardForHouses_41 : decode cX3_guardForHouses 41 = .ok (.bastore, 1) := by decide +kernel
theorem dX3_guardForHouses_42 : decode cX3_guardForHouses 42 = .ok (.aload_n 0, 1) := by decide +kernel
theorem dX3_guardForHouses_43 : decode cX3_guardForHouses 43 = .ok (.getfield 46, 3) := by decide +kernel
theorem dX3_guardForHouses_46 : decode cX3_guardForHouses 46 = .ok (.iload_n 1, 1) := by decide +kernel
theorem dX3_guardForHouses_47 : decode cX3_guardForHouses 47 = .ok (.baload, 1) := by decide +kernel
theorem dX3_guardForHouses_48 : decode cX3_guardForHouses 48 = .ok (.ifCond .eq 16, 3) := by decide +kernel
theorem dX3_guardForHouses_51 : decode cX3_guardForHouses 51 = .ok (.aload_n 0, 1) := by decide +kernel
theorem dX3_guardForHouses_52 : decode cX3_guardForHouses 52 = .ok (.getfield 37, 3) := by decide +kernel
theorem dX3_guardForHouses_55 : decode cX3_guardForHouses 55 = .ok (.iload_n 1, 1) := by decide +kernel
theorem dX3_guardForHouses_56 : decode cX3_guardForHouses 56 = .ok (.iconst (-1), 1) := by decide +kernel
theorem dX3_guardForHouses_57 : decode cX3_guardForHouses 57 = .ok (.iastore, 1) := by decide +kernel
theorem dX3_guardForHouses_58 : decode cX3_guardForHouses 58 = .ok (.aload_n 0, 1) := by decide +kernel
theorem dX3_guardForHouses_59 : decode cX3_guardForHouses 59 = .ok (.iload_n 1, 1) := by decide +kernel
theorem dX3_guardForHouses_60 : decode cX3_guardForHouses 60 = .ok (.iconst (-1), 1) := by decide +kernel
theorem dX3_guardForHouses_61 : decode cX3_guardForHouses 61 = .ok (.invokevirtual 106, 3) := by decide +kernel
theorem dX3_guardForHouses_64 : decode cX3_guardForHouses 64 = .ok (.iinc 1 1, 3) := by decide +kernel
theorem dX3_guardForHouses_67 : decode cX3_guardForHouses 67 = .ok (.goto (-65), 3) := by decide +kernel
theorem dX3_guardForHouses_70 : decode cX3_guardForHouses 70 = .ok (.return_, 1) := by decide +kernel
set_option maxRecDepth 20000 in
theorem ggX3_takeBest_X5_spotOf : GoodIn wsX3_takeBest wsX5_spotOf := goodIn_r _ [10] (by decide +kernel) (by decide +kernel)
set_option maxRecDepth 20000 in
theorem gX3_takeBest_X5_spotOf_n110 : GoodIn wsX3_takeBest (wsX5_spotOf) := ggX3_takeBest_X5_spotOf
set_option maxRecDepth 20000 in
theorem ggX3_takeBest_X3_offer : GoodIn wsX3_takeBest wsX3_offer := goodIn_r _ [15, 7, 16, 1, 2, 17, 5, 18, 3, 4, 19, 20, 21, 14, 22, 23, 24, 25, 26, 27, 28, 29, 8, 9, 10, 30, 31, 32, 33, 34, 35, 36, 37, 38, 39, 40, 41, 42, 43, 44, 45, 46, 47, 48, 49, 50, 51, 52, 53] (by decide +kernel) (by decide +kernel)
set_option maxRecDepth 20000 in
theorem gX3_takeBest_X3_offer : GoodIn wsX3_takeBest (wsV RX3 114 RX3 yX3_offer wsX3_offer) := goodIn_app (goodIn_of _ (by decide +kernel)) ggX3_takeBest_X3_offer
set_option maxRecDepth 20000 in
theorem ggX3_takeBest_X4_isBetterName : GoodIn wsX3_takeBest wsX4_isBetterName := goodIn_r _ [28, 29, 46, 47, 48, 49, 50, 51, 52, 53] (by decide +kernel) (by decide +kernel)
set_option maxRecDepth 20000 in
theorem gX3_takeBest_X4_isBetterName : GoodIn wsX3_takeBest (wsV RX3 117 RX4 yX4_isBetterName wsX4_isBetterName) := goodIn_app (goodIn_of _ (by decide +kernel)) ggX3_takeBest_X4_isBetterName
theorem dX3_takeBest_0 : decode cX3_takeBest 0 = .ok (.aload_n 0, 1) := by decide +kernel
theorem dX3_takeBest_1 : decode cX3_takeBest 1 = .ok (.getfield 9, 3) := by decide +kernel
theorem dX3_takeBest_4 : decode cX3_takeBest 4 = .ok (.iload_n 1, 1) := by decide +kernel
theorem dX3_takeBest_5 : decode cX3_takeBest 5 = .ok (.iload_n 1, 1) := by decide +kernel
theorem dX3_takeBest_6 : decode cX3_takeBest 6 = .ok (.iastore, 1) := by decide +kernel
theorem dX3_takeBest_7 : decode cX3_takeBest 7 = .ok (.aload_n 0, 1) := by decide +kernel
theorem dX3_takeBest_8 : decode cX3_takeBest 8 = .ok (.getfield 15, 3) := by decide +kernel
theorem dX3_takeBest_11 : decode cX3_takeBest 11 = .ok (.iload_n 1, 1) := by decide +kernel
theorem dX3_takeBest_12 : decode cX3_takeBest 12 = .ok (.iconst 0, 1) := by decide +kernel
theorem dX3_takeBest_13 : decode cX3_takeBest 13 = .ok (.iastore, 1) := by decide +kernel
theorem dX3_takeBest_14 : decode cX3_takeBest 14 = .ok (.aload_n 0, 1) := by decide +kernel
theorem dX3_takeBest_15 : decode cX3_takeBest 15 = .ok (.getfield 18, 3) := by decide +kernel
theorem dX3_takeBest_18 : decode cX3_takeBest 18 = .ok (.iload_n 1, 1) := by decide +kernel
theorem dX3_takeBest_19 : decode cX3_takeBest 19 = .ok (.iconst 0, 1) := by decide +kernel
theorem dX3_takeBest_20 : decode cX3_takeBest 20 = .ok (.iastore, 1) := by decide +kernel
theorem dX3_takeBest_21 : decode cX3_takeBest 21 = .ok (.aload_n 0, 1) := by decide +kernel
theorem dX3_takeBest_22 : decode cX3_takeBest 22 = .ok (.getfield 21, 3) := by decide +kernel
theorem dX3_takeBest_25 : decode cX3_takeBest 25 = .ok (.iload_n 1, 1) := by decide +kernel
theorem dX3_takeBest_26 : decode cX3_takeBest 26 = .ok (.iconst (-1), 1) := by decide +kernel
theorem dX3_takeBest_27 : decode cX3_takeBest 27 = .ok (.iastore, 1) := by decide +kernel
theorem dX3_takeBest_28 : decode cX3_takeBest 28 = .ok (.iload_n 1, 1) := by decide +kernel
theorem dX3_takeBest_29 : decode cX3_takeBest 29 = .ok (.iconst 0, 1) := by decide +kernel
theorem dX3_takeBest_30 : decode cX3_takeBest 30 = .ok (.invokestatic 110, 3) := by decide +kernel
theorem dX3_takeBest_33 : decode cX3_takeBest 33 = .ok (.istore_n 2, 1) := by decide +kernel
theorem dX3_takeBest_34 : decode cX3_takeBest 34 = .ok (.iload_n 2, 1) := by decide +kernel
theorem dX3_takeBest_35 : decode cX3_takeBest 35 = .ok (.istore_n 3, 1) := by decide +kernel
theorem dX3_takeBest_36 : decode cX3_takeBest 36 = .ok (.iload_n 3, 1) := by decide +kernel
theorem dX3_takeBest_37 : decode cX3_takeBest 37 = .ok (.iload_n 2, 1) := by decide +kernel
theorem dX3_takeBest_38 : decode cX3_takeBest 38 = .ok (.iconst 5, 1) := by decide +kernel
theorem dX3_takeBest_39 : decode cX3_takeBest 39 = .ok (.iadd, 1) := by decide +kernel
theorem dX3_takeBest_40 : decode cX3_takeBest 40 = .ok (.if_icmp .ge 28, 3) := by decide +kernel
theorem dX3_takeBest_43 : decode cX3_takeBest 43 = .ok (.aload_n 0, 1) := by decide +kernel
theorem dX3_takeBest_44 : decode cX3_takeBest 44 = .ok (.getfield 55, 3) := by decide +kernel
theorem dX3_takeBest_47 : decode cX3_takeBest 47 = .ok (.getfield 103, 3) := by decide +kernel
theorem dX3_takeBest_50 : decode cX3_takeBest 50 = .ok (.iload_n 3, 1) := by decide +kernel
theorem dX3_takeBest_51 : decode cX3_takeBest 51 = .ok (.iaload, 1) := by decide +kernel
theorem dX3_takeBest_52 : decode cX3_takeBest 52 = .ok (.iconst 1, 1) := by decide +kernel
theorem dX3_takeBest_53 : decode cX3_takeBest 53 = .ok (.if_icmp .eq 9, 3) := by decide +kernel
theorem dX3_takeBest_56 : decode cX3_takeBest 56 = .ok (.aload_n 0, 1) := by decide +kernel
theorem dX3_takeBest_57 : decode cX3_takeBest 57 = .ok (.iload_n 1, 1) := by decide +kernel
theorem dX3_takeBest_58 : decode cX3_takeBest 58 = .ok (.iload_n 3, 1) := by decide +kernel
theorem dX3_takeBest_59 : decode cX3_takeBest 59 = .ok (.invokevirtual 114, 3) := by decide +kernel
theorem dX3_takeBest_62 : decode cX3_takeBest 62 = .ok (.iinc 3 1, 3) := by decide +kernel
theorem dX3_takeBest_65 : decode cX3_takeBest 65 = .ok (.goto (-29), 3) := by decide +kernel
theorem dX3_takeBest_68 : decode cX3_takeBest 68 = .ok (.aload_n 0, 1) := by decide +kernel
theorem dX3_takeBest_69 : decode cX3_takeBest 69 = .ok (.getfield 9, 3) := by decide +kernel
theorem dX3_takeBest_72 : decode cX3_takeBest 72 = .ok (.iload_n 1, 1) := by decide +kernel
theorem dX3_takeBest_73 : decode cX3_takeBest 73 = .ok (.iaload, 1) := by decide +kernel
theorem dX3_takeBest_74 : decode cX3_takeBest 74 = .ok (.istore_n 3, 1) := by decide +kernel
theorem dX3_takeBest_75 : decode cX3_takeBest 75 = .ok (.iload_n 2, 1) := by decide +kernel
theorem dX3_takeBest_76 : decode cX3_takeBest 76 = .ok (.istore 4, 2) := by decide +kernel
theorem dX3_takeBest_78 : decode cX3_takeBest 78 = .ok (.iload 4, 2) := by decide +kernel
theorem dX3_takeBest_80 : decode cX3_takeBest 80 = .ok (.iload_n 2, 1) := by decide +kernel
theorem dX3_takeBest_81 : decode cX3_takeBest 81 = .ok (.iconst 5, 1) := by decide +kernel
theorem dX3_takeBest_82 : decode cX3_takeBest 82 = .ok (.iadd, 1) := by decide +kernel
theorem dX3_takeBest_83 : decode cX3_takeBest 83 = .ok (.if_icmp .ge 59, 3) := by decide +kernel
theorem dX3_takeBest_86 : decode cX3_takeBest 86 = .ok (.aload_n 0, 1) := by decide +kernel
theorem dX3_takeBest_87 : decode cX3_takeBest 87 = .ok (.getfield 55, 3) := by decide +kernel
theorem dX3_takeBest_90 : decode cX3_takeBest 90 = .ok (.getfield 103, 3) := by decide +kernel
theorem dX3_takeBest_93 : decode cX3_takeBest 93 = .ok (.iload 4, 2) := by decide +kernel
theorem dX3_takeBest_95 : decode cX3_takeBest 95 = .ok (.iaload, 1) := by decide +kernel
theorem dX3_takeBest_96 : decode cX3_takeBest 96 = .ok (.iconst 1, 1) := by decide +kernel
theorem dX3_takeBest_97 : decode cX3_takeBest 97 = .ok (.if_icmp .ne 39, 3) := by decide +kernel
theorem dX3_takeBest_100 : decode cX3_takeBest 100 = .ok (.aload_n 0, 1) := by decide +kernel
theorem dX3_takeBest_101 : decode cX3_takeBest 101 = .ok (.getfield 37, 3) := by decide +kernel
theorem dX3_takeBest_104 : decode cX3_takeBest 104 = .ok (.iload 4, 2) := by decide +kernel
theorem dX3_takeBest_106 : decode cX3_takeBest 106 = .ok (.iaload, 1) := by decide +kernel
theorem dX3_takeBest_107 : decode cX3_takeBest 107 = .ok (.iconst (-1), 1) := by decide +kernel
theorem dX3_takeBest_108 : decode cX3_takeBest 108 = .ok (.if_icmp .eq 28, 3) := by decide +kernel
theorem dX3_takeBest_111 : decode cX3_takeBest 111 = .ok (.aload_n 0, 1) := by decide +kernel
theorem dX3_takeBest_112 : decode cX3_takeBest 112 = .ok (.getfield 55, 3) := by decide +kernel
theorem dX3_takeBest_115 : decode cX3_takeBest 115 = .ok (.aload_n 0, 1) := by decide +kernel
theorem dX3_takeBest_116 : decode cX3_takeBest 116 = .ok (.getfield 37, 3) := by decide +kernel
theorem dX3_takeBest_119 : decode cX3_takeBest 119 = .ok (.iload 4, 2) := by decide +kernel
theorem dX3_takeBest_121 : decode cX3_takeBest 121 = .ok (.iaload, 1) := by decide +kernel
theorem dX3_takeBest_122 : decode cX3_takeBest 122 = .ok (.iload_n 3, 1) := by decide +kernel
theorem dX3_takeBest_123 : decode cX3_takeBest 123 = .ok (.invokevirtual 117, 3) := by decide +kernel
theorem dX3_takeBest_126 : decode cX3_takeBest 126 = .ok (.ifCond .ne 10, 3) := by decide +kernel
theorem dX3_takeBest_129 : decode cX3_takeBest 129 = .ok (.aload_n 0, 1) := by decide +kernel
theorem dX3_takeBest_130 : decode cX3_takeBest 130 = .ok (.iload_n 1, 1) := by decide +kernel
theorem dX3_takeBest_131 : decode cX3_takeBest 131 = .ok (.iload 4, 2) := by decide +kernel
theorem dX3_takeBest_133 : decode cX3_takeBest 133 = .ok (.invokevirtual 114, 3) := by decide +kernel
theorem dX3_takeBest_136 : decode cX3_takeBest 136 = .ok (.iinc 4 1, 3) := by decide +kernel
theorem dX3_takeBest_139 : decode cX3_takeBest 139 = .ok (.goto (-61), 3) := by decide +kernel
theorem dX3_takeBest_142 : decode cX3_takeBest 142 = .ok (.return_, 1) := by decide +kernel
set_option maxRecDepth 20000 in
theorem ggX3_offer_X3_isBetterThanHeld : GoodIn wsX3_offer wsX3_isBetterThanHeld := goodIn_r _ [14, 1, 3, 6, 5, 7, 4, 9, 15, 16, 17, 18, 19, 20, 21, 22, 23, 24, 25, 26, 27, 28, 29, 30, 31, 32, 33, 34, 35, 36, 37, 38, 39, 40, 41, 42, 43, 44, 45, 46, 47, 48] (by decide +kernel) (by decide +kernel)
set_option maxRecDepth 20000 in
theorem gX3_offer_X3_isBetterThanHeld : GoodIn wsX3_offer (wsV RX3 121 RX3 yX3_isBetterThanHeld wsX3_isBetterThanHeld) := goodIn_app (goodIn_of _ (by decide +kernel)) ggX3_offer_X3_isBetterThanHeld
theorem dX3_offer_0 : decode cX3_offer 0 = .ok (.aload_n 0, 1) := by decide +kernel
theorem dX3_offer_1 : decode cX3_offer 1 = .ok (.getfield 37, 3) := by decide +kernel
theorem dX3_offer_4 : decode cX3_offer 4 = .ok (.iload_n 2, 1) := by decide +kernel
theorem dX3_offer_5 : decode cX3_offer 5 = .ok (.iaload, 1) := by decide +kernel
theorem dX3_offer_6 : decode cX3_offer 6 = .ok (.iconst (-1), 1) := by decide +kernel
theorem dX3_offer_7 : decode cX3_offer 7 = .ok (.if_icmp .eq 23, 3) := by decide +kernel
theorem dX3_offer_10 : decode cX3_offer 10 = .ok (.aload_n 0, 1) := by decide +kernel
theorem dX3_offer_11 : decode cX3_offer 11 = .ok (.getfield 43, 3) := by decide +kernel
theorem dX3_offer_14 : decode cX3_offer 14 = .ok (.iload_n 2, 1) := by decide +kernel
theorem dX3_offer_15 : decode cX3_offer 15 = .ok (.iaload, 1) := by decide +kernel
theorem dX3_offer_16 : decode cX3_offer 16 = .ok (.bipush 7, 2) := by decide +kernel
theorem dX3_offer_18 : decode cX3_offer 18 = .ok (.if_icmp .ge 12, 3) := by decide +kernel
theorem dX3_offer_21 : decode cX3_offer 21 = .ok (.aload_n 0, 1) := by decide +kernel
theorem dX3_offer_22 : decode cX3_offer 22 = .ok (.iload_n 1, 1) := by decide +kernel
theorem dX3_offer_23 : decode cX3_offer 23 = .ok (.iload_n 2, 1) := by decide +kernel
theorem dX3_offer_24 : decode cX3_offer 24 = .ok (.invokevirtual 121, 3) := by decide +kernel
theorem dX3_offer_27 : decode cX3_offer 27 = .ok (.ifCond .ne 4, 3) := by decide +kernel
theorem dX3_offer_30 : decode cX3_offer 30 = .ok (.return_, 1) := by decide +kernel
theorem dX3_offer_31 : decode cX3_offer 31 = .ok (.aload_n 0, 1) := by decide +kernel
theorem dX3_offer_32 : decode cX3_offer 32 = .ok (.getfield 9, 3) := by decide +kernel
theorem dX3_offer_35 : decode cX3_offer 35 = .ok (.iload_n 1, 1) := by decide +kernel
theorem dX3_offer_36 : decode cX3_offer 36 = .ok (.aload_n 0, 1) := by decide +kernel
theorem dX3_offer_37 : decode cX3_offer 37 = .ok (.getfield 37, 3) := by decide +kernel
theorem dX3_offer_40 : decode cX3_offer 40 = .ok (.iload_n 2, 1) := by decide +kernel
theorem dX3_offer_41 : decode cX3_offer 41 = .ok (.iaload, 1) := by decide +kernel
theorem dX3_offer_42 : decode cX3_offer 42 = .ok (.iastore, 1) := by decide +kernel
theorem dX3_offer_43 : decode cX3_offer 43 = .ok (.aload_n 0, 1) := by decide +kernel
theorem dX3_offer_44 : decode cX3_offer 44 = .ok (.getfield 15, 3) := by decide +kernel
theorem dX3_offer_47 : decode cX3_offer 47 = .ok (.iload_n 1, 1) := by decide +kernel
theorem dX3_offer_48 : decode cX3_offer 48 = .ok (.aload_n 0, 1) := by decide +kernel
theorem dX3_offer_49 : decode cX3_offer 49 = .ok (.getfield 40, 3) := by decide +kernel
theorem dX3_offer_52 : decode cX3_offer 52 = .ok (.iload_n 2, 1) := by decide +kernel
theorem dX3_offer_53 : decode cX3_offer 53 = .ok (.iaload, 1) := by decide +kernel
theorem dX3_offer_54 : decode cX3_offer 54 = .ok (.aload_n 0, 1) := by decide +kernel
theorem dX3_offer_55 : decode cX3_offer 55 = .ok (.getfield 55, 3) := by decide +kernel
theorem dX3_offer_58 : decode cX3_offer 58 = .ok (.getfield 124, 3) := by decide +kernel
theorem dX3_offer_61 : decode cX3_offer 61 = .ok (.iload_n 2, 1) := by decide +kernel
theorem dX3_offer_62 : decode cX3_offer 62 = .ok (.iaload, 1) := by decide +kernel
theorem dX3_offer_63 : decode cX3_offer 63 = .ok (.iadd, 1) := by decide +kernel
theorem dX3_offer_64 : decode cX3_offer 64 = .ok (.iastore, 1) := by decide +kernel
theorem dX3_offer_65 : decode cX3_offer 65 = .ok (.aload_n 0, 1) := by decide +kernel
theorem dX3_offer_66 : decode cX3_offer 66 = .ok (.getfield 18, 3) := by decide +kernel
theorem dX3_offer_69 : decode cX3_offer 69 = .ok (.iload_n 1, 1) := by decide +kernel
theorem dX3_offer_70 : decode cX3_offer 70 = .ok (.aload_n 0, 1) := by decide +kernel
theorem dX3_offer_71 : decode cX3_offer 71 = .ok (.getfield 43, 3) := by decide +kernel
theorem dX3_offer_74 : decode cX3_offer 74 = .ok (.iload_n 2, 1) := by decide +kernel
theorem dX3_offer_75 : decode cX3_offer 75 = .ok (.iaload, 1) := by decide +kernel
theorem dX3_offer_76 : decode cX3_offer 76 = .ok (.iconst 1, 1) := by decide +kernel
theorem dX3_offer_77 : decode cX3_offer 77 = .ok (.iadd, 1) := by decide +kernel
theorem dX3_offer_78 : decode cX3_offer 78 = .ok (.iastore, 1) := by decide +kernel
theorem dX3_offer_79 : decode cX3_offer 79 = .ok (.aload_n 0, 1) := by decide +kernel
theorem dX3_offer_80 : decode cX3_offer 80 = .ok (.getfield 21, 3) := by decide +kernel
theorem dX3_offer_83 : decode cX3_offer 83 = .ok (.iload_n 1, 1) := by decide +kernel
theorem dX3_offer_84 : decode cX3_offer 84 = .ok (.iload_n 2, 1) := by decide +kernel
theorem dX3_offer_85 : decode cX3_offer 85 = .ok (.iconst 5, 1) := by decide +kernel
theorem dX3_offer_86 : decode cX3_offer 86 = .ok (.irem, 1) := by decide +kernel
theorem dX3_offer_87 : decode cX3_offer 87 = .ok (.iastore, 1) := by decide +kernel
theorem dX3_offer_88 : decode cX3_offer 88 = .ok (.return_, 1) := by decide +kernel
set_option maxRecDepth 20000 in
theorem ggX3_isBetterThanHeld_X4_isBetterName : GoodIn wsX3_isBetterThanHeld wsX4_isBetterName := goodIn_r _ [13, 14, 34, 35, 36, 37, 38, 39, 40, 41] (by decide +kernel) (by decide +kernel)
set_option maxRecDepth 20000 in
theorem gX3_isBetterThanHeld_X4_isBetterName : GoodIn wsX3_isBetterThanHeld (wsV RX3 117 RX4 yX4_isBetterName wsX4_isBetterName) := goodIn_app (goodIn_of _ (by decide +kernel)) ggX3_isBetterThanHeld_X4_isBetterName
set_option maxRecDepth 20000 in
theorem ggX3_isBetterThanHeld_X5_spotOf : GoodIn wsX3_isBetterThanHeld wsX5_spotOf := goodIn_r _ [17] (by decide +kernel) (by decide +kernel)
set_option maxRecDepth 20000 in
theorem gX3_isBetterThanHeld_X5_spotOf_n110 : GoodIn wsX3_isBetterThanHeld (wsX5_spotOf) := ggX3_isBetterThanHeld_X5_spotOf
theorem dX3_isBetterThanHeld_0 : decode cX3_isBetterThanHeld 0 = .ok (.aload_n 0, 1) := by decide +kernel
theorem dX3_isBetterThanHeld_1 : decode cX3_isBetterThanHeld 1 = .ok (.getfield 37, 3) := by decide +kernel
theorem dX3_isBetterThanHeld_4 : decode cX3_isBetterThanHeld 4 = .ok (.iload_n 2, 1) := by decide +kernel
theorem dX3_isBetterThanHeld_5 : decode cX3_isBetterThanHeld 5 = .ok (.iaload, 1) := by decide +kernel
theorem dX3_isBetterThanHeld_6 : decode cX3_isBetterThanHeld 6 = .ok (.aload_n 0, 1) := by decide +kernel
theorem dX3_isBetterThanHeld_7 : decode cX3_isBetterThanHeld 7 = .ok (.getfield 9, 3) := by decide +kernel
theorem dX3_isBetterThanHeld_10 : decode cX3_isBetterThanHeld 10 = .ok (.iload_n 1, 1) := by decide +kernel
theorem dX3_isBetterThanHeld_11 : decode cX3_isBetterThanHeld 11 = .ok (.iaload, 1) := by decide +kernel
theorem dX3_isBetterThanHeld_12 : decode cX3_isBetterThanHeld 12 = .ok (.if_icmp .eq 23, 3) := by decide +kernel
theorem dX3_isBetterThanHeld_15 : decode cX3_isBetterThanHeld 15 = .ok (.aload_n 0, 1) := by decide +kernel
theorem dX3_isBetterThanHeld_16 : decode cX3_isBetterThanHeld 16 = .ok (.getfield 55, 3) := by decide +kernel
theorem dX3_isBetterThanHeld_19 : decode cX3_isBetterThanHeld 19 = .ok (.aload_n 0, 1) := by decide +kernel
theorem dX3_isBetterThanHeld_20 : decode cX3_isBetterThanHeld 20 = .ok (.getfield 37, 3) := by decide +kernel
theorem dX3_isBetterThanHeld_23 : decode cX3_isBetterThanHeld 23 = .ok (.iload_n 2, 1) := by decide +kernel
theorem dX3_isBetterThanHeld_24 : decode cX3_isBetterThanHeld 24 = .ok (.iaload, 1) := by decide +kernel
