theorem dX0_init_0 : decode cX0_init 0 = .ok (.aload_n 0, 1) := by decide +kernel
theorem dX0_init_1 : decode cX0_init 1 = .ok (.invokespecial 3, 3) := by decide +kernel
theorem dX0_init_4 : decode cX0_init 4 = .ok (.aload_n 0, 1) := by decide +kernel
theorem dX0_init_5 : decode cX0_init 5 = .ok (.bipush 30, 2) := by decide +kernel
theorem dX0_init_7 : decode cX0_init 7 = .ok (.newarray .int, 2) := by decide +kernel
theorem dX0_init_9 : decode cX0_init 9 = .ok (.putfield 9, 3) := by decide +kernel
theorem dX0_init_12 : decode cX0_init 12 = .ok (.aload_n 0, 1) := by decide +kernel
theorem dX0_init_13 : decode cX0_init 13 = .ok (.bipush 30, 2) := by decide +kernel
theorem dX0_init_15 : decode cX0_init 15 = .ok (.newarray .int, 2) := by decide +kernel
theorem dX0_init_17 : decode cX0_init 17 = .ok (.putfield 15, 3) := by decide +kernel
theorem dX0_init_20 : decode cX0_init 20 = .ok (.iconst 0, 1) := by decide +kernel
theorem dX0_init_21 : decode cX0_init 21 = .ok (.istore_n 1, 1) := by decide +kernel
theorem dX0_init_22 : decode cX0_init 22 = .ok (.iload_n 1, 1) := by decide +kernel
theorem dX0_init_23 : decode cX0_init 23 = .ok (.bipush 30, 2) := by decide +kernel
theorem dX0_init_25 : decode cX0_init 25 = .ok (.if_icmp .ge 23, 3) := by decide +kernel
theorem dX0_init_28 : decode cX0_init 28 = .ok (.aload_n 0, 1) := by decide +kernel
theorem dX0_init_29 : decode cX0_init 29 = .ok (.getfield 9, 3) := by decide +kernel
theorem dX0_init_32 : decode cX0_init 32 = .ok (.iload_n 1, 1) := by decide +kernel
theorem dX0_init_33 : decode cX0_init 33 = .ok (.iconst 1, 1) := by decide +kernel
theorem dX0_init_34 : decode cX0_init 34 = .ok (.iastore, 1) := by decide +kernel
theorem dX0_init_35 : decode cX0_init 35 = .ok (.aload_n 0, 1) := by decide +kernel
theorem dX0_init_36 : decode cX0_init 36 = .ok (.getfield 15, 3) := by decide +kernel
theorem dX0_init_39 : decode cX0_init 39 = .ok (.iload_n 1, 1) := by decide +kernel
theorem dX0_init_40 : decode cX0_init 40 = .ok (.iconst 1, 1) := by decide +kernel
theorem dX0_init_41 : decode cX0_init 41 = .ok (.iastore, 1) := by decide +kernel
theorem dX0_init_42 : decode cX0_init 42 = .ok (.iinc 1 1, 3) := by decide +kernel
theorem dX0_init_45 : decode cX0_init 45 = .ok (.goto (-23), 3) := by decide +kernel
theorem dX0_init_48 : decode cX0_init 48 = .ok (.return_, 1) := by decide +kernel
theorem dX0_bitOf_0 : decode cX0_bitOf 0 = .ok (.iconst 1, 1) := by decide +kernel
theorem dX0_bitOf_1 : decode cX0_bitOf 1 = .ok (.iload_n 0, 1) := by decide +kernel
theorem dX0_bitOf_2 : decode cX0_bitOf 2 = .ok (.iconst 1, 1) := by decide +kernel
theorem dX0_bitOf_3 : decode cX0_bitOf 3 = .ok (.isub, 1) := by decide +kernel
theorem dX0_bitOf_4 : decode cX0_bitOf 4 = .ok (.ishl, 1) := by decide +kernel
theorem dX0_bitOf_5 : decode cX0_bitOf 5 = .ok (.ireturn, 1) := by decide +kernel
theorem dX0_setUp_0 : decode cX0_setUp 0 = .ok (.aload_n 0, 1) := by decide +kernel
theorem dX0_setUp_1 : decode cX0_setUp 1 = .ok (.getfield 9, 3) := by decide +kernel
theorem dX0_setUp_4 : decode cX0_setUp 4 = .ok (.iload_n 1, 1) := by decide +kernel
theorem dX0_setUp_5 : decode cX0_setUp 5 = .ok (.iload_n 2, 1) := by decide +kernel
theorem dX0_setUp_6 : decode cX0_setUp 6 = .ok (.iastore, 1) := by decide +kernel
theorem dX0_setUp_7 : decode cX0_setUp 7 = .ok (.aload_n 0, 1) := by decide +kernel
theorem dX0_setUp_8 : decode cX0_setUp 8 = .ok (.getfield 15, 3) := by decide +kernel
theorem dX0_setUp_11 : decode cX0_setUp 11 = .ok (.iload_n 1, 1) := by decide +kernel
theorem dX0_setUp_12 : decode cX0_setUp 12 = .ok (.iload_n 3, 1) := by decide +kernel
theorem dX0_setUp_13 : decode cX0_setUp 13 = .ok (.iastore, 1) := by decide +kernel
theorem dX0_setUp_14 : decode cX0_setUp 14 = .ok (.return_, 1) := by decide +kernel
set_option maxRecDepth 20000 in
theorem ggX0_carries_X0_bitOf : GoodIn wsX0_carries wsX0_bitOf := goodIn_r _ [5] (by decide +kernel) (by decide +kernel)
set_option maxRecDepth 20000 in
theorem gX0_carries_X0_bitOf : GoodIn wsX0_carries (va_wsS RX0 18 yX0_bitOf wsX0_bitOf) := goodIn_app (goodIn_of _ (by decide +kernel)) ggX0_carries_X0_bitOf
theorem dX0_carries_0 : decode cX0_carries 0 = .ok (.aload_n 0, 1) := by decide +kernel
theorem dX0_carries_1 : decode cX0_carries 1 = .ok (.getfield 9, 3) := by decide +kernel
theorem dX0_carries_4 : decode cX0_carries 4 = .ok (.iload_n 1, 1) := by decide +kernel
theorem dX0_carries_5 : decode cX0_carries 5 = .ok (.iaload, 1) := by decide +kernel
theorem dX0_carries_6 : decode cX0_carries 6 = .ok (.iload_n 2, 1) := by decide +kernel
theorem dX0_carries_7 : decode cX0_carries 7 = .ok (.invokestatic 18, 3) := by decide +kernel
theorem dX0_carries_10 : decode cX0_carries 10 = .ok (.iand, 1) := by decide +kernel
theorem dX0_carries_11 : decode cX0_carries 11 = .ok (.ifCond .eq 7, 3) := by decide +kernel
theorem dX0_carries_14 : decode cX0_carries 14 = .ok (.iconst 1, 1) := by decide +kernel
theorem dX0_carries_15 : decode cX0_carries 15 = .ok (.goto 4, 3) := by decide +kernel
theorem dX0_carries_18 : decode cX0_carries 18 = .ok (.iconst 0, 1) := by decide +kernel
theorem dX0_carries_19 : decode cX0_carries 19 = .ok (.ireturn, 1) := by decide +kernel
set_option maxRecDepth 20000 in
theorem ggX0_laneIn_X0_carries : GoodIn wsX0_laneIn wsX0_carries := goodIn_r _ [6, 7, 8, 9, 5, 10, 11, 12] (by decide +kernel) (by decide +kernel)
set_option maxRecDepth 20000 in
theorem gX0_laneIn_X0_carries : GoodIn wsX0_laneIn (wsV RX0 22 RX0 yX0_carries wsX0_carries) := goodIn_app (goodIn_of _ (by decide +kernel)) ggX0_laneIn_X0_carries
theorem dX0_laneIn_0 : decode cX0_laneIn 0 = .ok (.iload_n 2, 1) := by decide +kernel
theorem dX0_laneIn_1 : decode cX0_laneIn 1 = .ok (.ifCond .ne 12, 3) := by decide +kernel
theorem dX0_laneIn_4 : decode cX0_laneIn 4 = .ok (.aload_n 0, 1) := by decide +kernel
theorem dX0_laneIn_5 : decode cX0_laneIn 5 = .ok (.getfield 15, 3) := by decide +kernel
theorem dX0_laneIn_8 : decode cX0_laneIn 8 = .ok (.iload_n 1, 1) := by decide +kernel
theorem dX0_laneIn_9 : decode cX0_laneIn 9 = .ok (.iaload, 1) := by decide +kernel
theorem dX0_laneIn_10 : decode cX0_laneIn 10 = .ok (.goto 4, 3) := by decide +kernel
theorem dX0_laneIn_13 : decode cX0_laneIn 13 = .ok (.iload_n 2, 1) := by decide +kernel
theorem dX0_laneIn_14 : decode cX0_laneIn 14 = .ok (.istore_n 3, 1) := by decide +kernel
theorem dX0_laneIn_15 : decode cX0_laneIn 15 = .ok (.aload_n 0, 1) := by decide +kernel
theorem dX0_laneIn_16 : decode cX0_laneIn 16 = .ok (.iload_n 1, 1) := by decide +kernel
theorem dX0_laneIn_17 : decode cX0_laneIn 17 = .ok (.iload_n 3, 1) := by decide +kernel
theorem dX0_laneIn_18 : decode cX0_laneIn 18 = .ok (.invokevirtual 22, 3) := by decide +kernel
theorem dX0_laneIn_21 : decode cX0_laneIn 21 = .ok (.ifCond .eq 7, 3) := by decide +kernel
theorem dX0_laneIn_24 : decode cX0_laneIn 24 = .ok (.iload_n 3, 1) := by decide +kernel
theorem dX0_laneIn_25 : decode cX0_laneIn 25 = .ok (.goto 4, 3) := by decide +kernel
theorem dX0_laneIn_28 : decode cX0_laneIn 28 = .ok (.iconst 0, 1) := by decide +kernel
theorem dX0_laneIn_29 : decode cX0_laneIn 29 = .ok (.ireturn, 1) := by decide +kernel
theorem dX0_tagOut_0 : decode cX0_tagOut 0 = .ok (.iload_n 2, 1) := by decide +kernel
theorem dX0_tagOut_1 : decode cX0_tagOut 1 = .ok (.aload_n 0, 1) := by decide +kernel
theorem dX0_tagOut_2 : decode cX0_tagOut 2 = .ok (.getfield 15, 3) := by decide +kernel
theorem dX0_tagOut_5 : decode cX0_tagOut 5 = .ok (.iload_n 1, 1) := by decide +kernel
theorem dX0_tagOut_6 : decode cX0_tagOut 6 = .ok (.iaload, 1) := by decide +kernel
theorem dX0_tagOut_7 : decode cX0_tagOut 7 = .ok (.if_icmp .ne 7, 3) := by decide +kernel
theorem dX0_tagOut_10 : decode cX0_tagOut 10 = .ok (.iconst 0, 1) := by decide +kernel
theorem dX0_tagOut_11 : decode cX0_tagOut 11 = .ok (.goto 4, 3) := by decide +kernel
theorem dX0_tagOut_14 : decode cX0_tagOut 14 = .ok (.iload_n 2, 1) := by decide +kernel
theorem dX0_tagOut_15 : decode cX0_tagOut 15 = .ok (.ireturn, 1) := by decide +kernel
theorem dX1_init_0 : decode cX1_init 0 = .ok (.aload_n 0, 1) := by decide +kernel
theorem dX1_init_1 : decode cX1_init 1 = .ok (.invokespecial 3, 3) := by decide +kernel
theorem dX1_init_4 : decode cX1_init 4 = .ok (.aload_n 0, 1) := by decide +kernel
theorem dX1_init_5 : decode cX1_init 5 = .ok (.sipush 400, 3) := by decide +kernel
theorem dX1_init_8 : decode cX1_init 8 = .ok (.newarray .int, 2) := by decide +kernel
theorem dX1_init_10 : decode cX1_init 10 = .ok (.putfield 9, 3) := by decide +kernel
theorem dX1_init_13 : decode cX1_init 13 = .ok (.aload_n 0, 1) := by decide +kernel
theorem dX1_init_14 : decode cX1_init 14 = .ok (.sipush 400, 3) := by decide +kernel
theorem dX1_init_17 : decode cX1_init 17 = .ok (.newarray .int, 2) := by decide +kernel
theorem dX1_init_19 : decode cX1_init 19 = .ok (.putfield 15, 3) := by decide +kernel
theorem dX1_init_22 : decode cX1_init 22 = .ok (.aload_n 0, 1) := by decide +kernel
theorem dX1_init_23 : decode cX1_init 23 = .ok (.sipush 400, 3) := by decide +kernel
theorem dX1_init_26 : decode cX1_init 26 = .ok (.newarray .int, 2) := by decide +kernel
theorem dX1_init_28 : decode cX1_init 28 = .ok (.putfield 18, 3) := by decide +kernel
theorem dX1_init_31 : decode cX1_init 31 = .ok (.aload_n 0, 1) := by decide +kernel
theorem dX1_init_32 : decode cX1_init 32 = .ok (.sipush 400, 3) := by decide +kernel
theorem dX1_init_35 : decode cX1_init 35 = .ok (.newarray .int, 2) := by decide +kernel
theorem dX1_init_37 : decode cX1_init 37 = .ok (.putfield 21, 3) := by decide +kernel
theorem dX1_init_40 : decode cX1_init 40 = .ok (.return_, 1) := by decide +kernel
theorem dX1_restart_0 : decode cX1_restart 0 = .ok (.aload_n 0, 1) := by decide +kernel
theorem dX1_restart_1 : decode cX1_restart 1 = .ok (.iconst 0, 1) := by decide +kernel
theorem dX1_restart_2 : decode cX1_restart 2 = .ok (.putfield 24, 3) := by decide +kernel
theorem dX1_restart_5 : decode cX1_restart 5 = .ok (.return_, 1) := by decide +kernel
theorem dX1_add_0 : decode cX1_add 0 = .ok (.aload_n 0, 1) := by decide +kernel
theorem dX1_add_1 : decode cX1_add 1 = .ok (.getfield 24, 3) := by decide +kernel
theorem dX1_add_4 : decode cX1_add 4 = .ok (.sipush 400, 3) := by decide +kernel
theorem dX1_add_7 : decode cX1_add 7 = .ok (.if_icmp .lt 4, 3) := by decide +kernel
theorem dX1_add_10 : decode cX1_add 10 = .ok (.return_, 1) := by decide +kernel
theorem dX1_add_11 : decode cX1_add 11 = .ok (.aload_n 0, 1) := by decide +kernel
theorem dX1_add_12 : decode cX1_add 12 = .ok (.getfield 9, 3) := by decide +kernel
theorem dX1_add_15 : decode cX1_add 15 = .ok (.aload_n 0, 1) := by decide +kernel
theorem dX1_add_16 : decode cX1_add 16 = .ok (.getfield 24, 3) := by decide +kernel
theorem dX1_add_19 : decode cX1_add 19 = .ok (.iload_n 1, 1) := by decide +kernel
theorem dX1_add_20 : decode cX1_add 20 = .ok (.iastore, 1) := by decide +kernel
theorem dX1_add_21 : decode cX1_add 21 = .ok (.aload_n 0, 1) := by decide +kernel
theorem dX1_add_22 : decode cX1_add 22 = .ok (.getfield 15, 3) := by decide +kernel
theorem dX1_add_25 : decode cX1_add 25 = .ok (.aload_n 0, 1) := by decide +kernel
theorem dX1_add_26 : decode cX1_add 26 = .ok (.getfield 24, 3) := by decide +kernel
theorem dX1_add_29 : decode cX1_add 29 = .ok (.iload_n 2, 1) := by decide +kernel
theorem dX1_add_30 : decode cX1_add 30 = .ok (.iastore, 1) := by decide +kernel
theorem dX1_add_31 : decode cX1_add 31 = .ok (.aload_n 0, 1) := by decide +kernel
theorem dX1_add_32 : decode cX1_add 32 = .ok (.getfield 18, 3) := by decide +kernel
theorem dX1_add_35 : decode cX1_add 35 = .ok (.aload_n 0, 1) := by decide +kernel
theorem dX1_add_36 : decode cX1_add 36 = .ok (.getfield 24, 3) := by decide +kernel
theorem dX1_add_39 : decode cX1_add 39 = .ok (.iload_n 3, 1) := by decide +kernel
theorem dX1_add_40 : decode cX1_add 40 = .ok (.iastore, 1) := by decide +kernel
theorem dX1_add_41 : decode cX1_add 41 = .ok (.aload_n 0, 1) := by decide +kernel
theorem dX1_add_42 : decode cX1_add 42 = .ok (.getfield 21, 3) := by decide +kernel
theorem dX1_add_45 : decode cX1_add 45 = .ok (.aload_n 0, 1) := by decide +kernel
theorem dX1_add_46 : decode cX1_add 46 = .ok (.getfield 24, 3) := by decide +kernel
theorem dX1_add_49 : decode cX1_add 49 = .ok (.iload 4, 2) := by decide +kernel
theorem dX1_add_51 : decode cX1_add 51 = .ok (.iastore, 1) := by decide +kernel
theorem dX1_add_52 : decode cX1_add 52 = .ok (.aload_n 0, 1) := by decide +kernel
theorem dX1_add_53 : decode cX1_add 53 = .ok (.dup, 1) := by decide +kernel
theorem dX1_add_54 : decode cX1_add 54 = .ok (.getfield 24, 3) := by decide +kernel
theorem dX1_add_57 : decode cX1_add 57 = .ok (.iconst 1, 1) := by decide +kernel
theorem dX1_add_58 : decode cX1_add 58 = .ok (.iadd, 1) := by decide +kernel
theorem dX1_add_59 : decode cX1_add 59 = .ok (.putfield 24, 3) := by decide +kernel
theorem dX1_add_62 : decode cX1_add 62 = .ok (.return_, 1) := by decide +kernel
theorem dX2_init_0 : decode cX2_init 0 = .ok (.aload_n 0, 1) := by decide +kernel
theorem dX2_init_1 : decode cX2_init 1 = .ok (.invokespecial 3, 3) := by decide +kernel
theorem dX2_init_4 : decode cX2_init 4 = .ok (.aload_n 0, 1) := by decide +kernel
theorem dX2_init_5 : decode cX2_init 5 = .ok (.sipush 180, 3) := by decide +kernel
theorem dX2_init_8 : decode cX2_init 8 = .ok (.newarray .int, 2) := by decide +kernel
theorem dX2_init_10 : decode cX2_init 10 = .ok (.putfield 11, 3) := by decide +kernel
theorem dX2_init_13 : decode cX2_init 13 = .ok (.aload_n 0, 1) := by decide +kernel
theorem dX2_init_14 : decode cX2_init 14 = .ok (.sipush 180, 3) := by decide +kernel
theorem dX2_init_17 : decode cX2_init 17 = .ok (.newarray .int, 2) := by decide +kernel
theorem dX2_init_19 : decode cX2_init 19 = .ok (.putfield 15, 3) := by decide +kernel
theorem dX2_init_22 : decode cX2_init 22 = .ok (.aload_n 0, 1) := by decide +kernel
theorem dX2_init_23 : decode cX2_init 23 = .ok (.bipush 6, 2) := by decide +kernel
theorem dX2_init_25 : decode cX2_init 25 = .ok (.newarray .int, 2) := by decide +kernel
theorem dX2_init_27 : decode cX2_init 27 = .ok (.putfield 18, 3) := by decide +kernel
theorem dX2_init_30 : decode cX2_init 30 = .ok (.iconst 0, 1) := by decide +kernel
theorem dX2_init_31 : decode cX2_init 31 = .ok (.istore_n 1, 1) := by decide +kernel
theorem dX2_init_32 : decode cX2_init 32 = .ok (.iload_n 1, 1) := by decide +kernel
theorem dX2_init_33 : decode cX2_init 33 = .ok (.sipush 180, 3) := by decide +kernel
theorem dX2_init_36 : decode cX2_init 36 = .ok (.if_icmp .ge 16, 3) := by decide +kernel
theorem dX2_init_39 : decode cX2_init 39 = .ok (.aload_n 0, 1) := by decide +kernel
theorem dX2_init_40 : decode cX2_init 40 = .ok (.getfield 11, 3) := by decide +kernel
theorem dX2_init_43 : decode cX2_init 43 = .ok (.iload_n 1, 1) := by decide +kernel
theorem dX2_init_44 : decode cX2_init 44 = .ok (.iconst (-1), 1) := by decide +kernel
theorem dX2_init_45 : decode cX2_init 45 = .ok (.iastore, 1) := by decide +kernel
theorem dX2_init_46 : decode cX2_init 46 = .ok (.iinc 1 1, 3) := by decide +kernel
theorem dX2_init_49 : decode cX2_init 49 = .ok (.goto (-17), 3) := by decide +kernel
theorem dX2_init_52 : decode cX2_init 52 = .ok (.return_, 1) := by decide +kernel
theorem dX2_indexOf_0 : decode cX2_indexOf 0 = .ok (.iload_n 0, 1) := by decide +kernel
theorem dX2_indexOf_1 : decode cX2_indexOf 1 = .ok (.bipush 30, 2) := by decide +kernel
theorem dX2_indexOf_3 : decode cX2_indexOf 3 = .ok (.imul, 1) := by decide +kernel
theorem dX2_indexOf_4 : decode cX2_indexOf 4 = .ok (.iload_n 1, 1) := by decide +kernel
theorem dX2_indexOf_5 : decode cX2_indexOf 5 = .ok (.iconst 1, 1) := by decide +kernel
theorem dX2_indexOf_6 : decode cX2_indexOf 6 = .ok (.isub, 1) := by decide +kernel
theorem dX2_indexOf_7 : decode cX2_indexOf 7 = .ok (.bipush 10, 2) := by decide +kernel
theorem dX2_indexOf_9 : decode cX2_indexOf 9 = .ok (.imul, 1) := by decide +kernel
theorem dX2_indexOf_10 : decode cX2_indexOf 10 = .ok (.iadd, 1) := by decide +kernel
theorem dX2_indexOf_11 : decode cX2_indexOf 11 = .ok (.iload_n 2, 1) := by decide +kernel
theorem dX2_indexOf_12 : decode cX2_indexOf 12 = .ok (.iadd, 1) := by decide +kernel
theorem dX2_indexOf_13 : decode cX2_indexOf 13 = .ok (.ireturn, 1) := by decide +kernel
set_option maxRecDepth 20000 in
theorem ggX2_portFor_X2_indexOf : GoodIn wsX2_portFor wsX2_indexOf := goodIn_r _ [5] (by decide +kernel) (by decide +kernel)
set_option maxRecDepth 20000 in
theorem gX2_portFor_X2_indexOf : GoodIn wsX2_portFor (va_wsS RX2 21 yX2_indexOf wsX2_indexOf) := goodIn_app (goodIn_of _ (by decide +kernel)) ggX2_portFor_X2_indexOf
theorem dX2_portFor_0 : decode cX2_portFor 0 = .ok (.aload_n 0, 1) := by decide +kernel
theorem dX2_portFor_1 : decode cX2_portFor 1 = .ok (.getfield 11, 3) := by decide +kernel
theorem dX2_portFor_4 : decode cX2_portFor 4 = .ok (.iload_n 1, 1) := by decide +kernel
theorem dX2_portFor_5 : decode cX2_portFor 5 = .ok (.iload_n 2, 1) := by decide +kernel
theorem dX2_portFor_6 : decode cX2_portFor 6 = .ok (.iload_n 3, 1) := by decide +kernel
theorem dX2_portFor_7 : decode cX2_portFor 7 = .ok (.invokestatic 21, 3) := by decide +kernel
theorem dX2_portFor_10 : decode cX2_portFor 10 = .ok (.iaload, 1) := by decide +kernel
theorem dX2_portFor_11 : decode cX2_portFor 11 = .ok (.ireturn, 1) := by decide +kernel
set_option maxRecDepth 20000 in
theorem ggX2_hear_X2_indexOf : GoodIn wsX2_hear wsX2_indexOf := goodIn_r _ [7] (by decide +kernel) (by decide +kernel)
set_option maxRecDepth 20000 in
theorem gX2_hear_X2_indexOf : GoodIn wsX2_hear (va_wsS RX2 21 yX2_indexOf wsX2_indexOf) := goodIn_app (goodIn_of _ (by decide +kernel)) ggX2_hear_X2_indexOf
theorem dX2_hear_0 : decode cX2_hear 0 = .ok (.iload_n 1, 1) := by decide +kernel
theorem dX2_hear_1 : decode cX2_hear 1 = .ok (.iconst 5, 1) := by decide +kernel
theorem dX2_hear_2 : decode cX2_hear 2 = .ok (.idiv, 1) := by decide +kernel
theorem dX2_hear_3 : decode cX2_hear 3 = .ok (.istore 5, 2) := by decide +kernel
theorem dX2_hear_5 : decode cX2_hear 5 = .ok (.iload 5, 2) := by decide +kernel
theorem dX2_hear_7 : decode cX2_hear 7 = .ok (.iload_n 2, 1) := by decide +kernel
theorem dX2_hear_8 : decode cX2_hear 8 = .ok (.iload_n 3, 1) := by decide +kernel
theorem dX2_hear_9 : decode cX2_hear 9 = .ok (.invokestatic 21, 3) := by decide +kernel
theorem dX2_hear_12 : decode cX2_hear 12 = .ok (.istore 6, 2) := by decide +kernel
theorem dX2_hear_14 : decode cX2_hear 14 = .ok (.aload_n 0, 1) := by decide +kernel
theorem dX2_hear_15 : decode cX2_hear 15 = .ok (.getfield 11, 3) := by decide +kernel
theorem dX2_hear_18 : decode cX2_hear 18 = .ok (.iload 6, 2) := by decide +kernel
theorem dX2_hear_20 : decode cX2_hear 20 = .ok (.iaload, 1) := by decide +kernel
theorem dX2_hear_21 : decode cX2_hear 21 = .ok (.iconst (-1), 1) := by decide +kernel
theorem dX2_hear_22 : decode cX2_hear 22 = .ok (.if_icmp .ne 27, 3) := by decide +kernel
theorem dX2_hear_25 : decode cX2_hear 25 = .ok (.aload_n 0, 1) := by decide +kernel
theorem dX2_hear_26 : decode cX2_hear 26 = .ok (.getfield 18, 3) := by decide +kernel
theorem dX2_hear_29 : decode cX2_hear 29 = .ok (.iload 5, 2) := by decide +kernel
theorem dX2_hear_31 : decode cX2_hear 31 = .ok (.iaload, 1) := by decide +kernel
theorem dX2_hear_32 : decode cX2_hear 32 = .ok (.bipush 8, 2) := by decide +kernel
theorem dX2_hear_34 : decode cX2_hear 34 = .ok (.if_icmp .lt 4, 3) := by decide +kernel
theorem dX2_hear_37 : decode cX2_hear 37 = .ok (.return_, 1) := by decide +kernel
theorem dX2_hear_38 : decode cX2_hear 38 = .ok (.aload_n 0, 1) := by decide +kernel
theorem dX2_hear_39 : decode cX2_hear 39 = .ok (.getfield 18, 3) := by decide +kernel
theorem dX2_hear_42 : decode cX2_hear 42 = .ok (.iload 5, 2) := by decide +kernel
theorem dX2_hear_44 : decode cX2_hear 44 = .ok (.dup2, 1) := by decide +kernel
theorem dX2_hear_45 : decode cX2_hear 45 = .ok (.iaload, 1) := by decide +kernel
theorem dX2_hear_46 : decode cX2_hear 46 = .ok (.iconst 1, 1) := by decide +kernel
theorem dX2_hear_47 : decode cX2_hear 47 = .ok (.iadd, 1) := by decide +kernel
theorem dX2_hear_48 : decode cX2_hear 48 = .ok (.iastore, 1) := by decide +kernel
theorem dX2_hear_49 : decode cX2_hear 49 = .ok (.aload_n 0, 1) := by decide +kernel
theorem dX2_hear_50 : decode cX2_hear 50 = .ok (.getfield 11, 3) := by decide +kernel
theorem dX2_hear_53 : decode cX2_hear 53 = .ok (.iload 6, 2) := by decide +kernel
theorem dX2_hear_55 : decode cX2_hear 55 = .ok (.iload_n 1, 1) := by decide +kernel
theorem dX2_hear_56 : decode cX2_hear 56 = .ok (.iconst 5, 1) := by decide +kernel
theorem dX2_hear_57 : decode cX2_hear 57 = .ok (.irem, 1) := by decide +kernel
theorem dX2_hear_58 : decode cX2_hear 58 = .ok (.iastore, 1) := by decide +kernel
theorem dX2_hear_59 : decode cX2_hear 59 = .ok (.aload_n 0, 1) := by decide +kernel
theorem dX2_hear_60 : decode cX2_hear 60 = .ok (.getfield 15, 3) := by decide +kernel
theorem dX2_hear_63 : decode cX2_hear 63 = .ok (.iload 6, 2) := by decide +kernel
theorem dX2_hear_65 : decode cX2_hear 65 = .ok (.iload 4, 2) := by decide +kernel
theorem dX2_hear_67 : decode cX2_hear 67 = .ok (.iastore, 1) := by decide +kernel
theorem dX2_hear_68 : decode cX2_hear 68 = .ok (.return_, 1) := by decide +kernel
set_option maxRecDepth 20000 in
theorem ggX2_forgetPort_X2_drop : GoodIn wsX2_forgetPort wsX2_drop := goodIn_r _ [6, 1, 7, 8, 9, 10] (by decide +kernel) (by decide +kernel)
set_option maxRecDepth 20000 in
theorem gX2_forgetPort_X2_drop : GoodIn wsX2_forgetPort (wsV RX2 25 RX2 yX2_drop wsX2_drop) := goodIn_app (goodIn_of _ (by decide +kernel)) ggX2_forgetPort_X2_drop
theorem dX2_forgetPort_0 : decode cX2_forgetPort 0 = .ok (.iload_n 1, 1) := by decide +kernel
theorem dX2_forgetPort_1 : decode cX2_forgetPort 1 = .ok (.iconst 5, 1) := by decide +kernel
theorem dX2_forgetPort_2 : decode cX2_forgetPort 2 = .ok (.idiv, 1) := by decide +kernel
theorem dX2_forgetPort_3 : decode cX2_forgetPort 3 = .ok (.bipush 30, 2) := by decide +kernel
theorem dX2_forgetPort_5 : decode cX2_forgetPort 5 = .ok (.imul, 1) := by decide +kernel
theorem dX2_forgetPort_6 : decode cX2_forgetPort 6 = .ok (.istore_n 2, 1) := by decide +kernel
theorem dX2_forgetPort_7 : decode cX2_forgetPort 7 = .ok (.iload_n 2, 1) := by decide +kernel
theorem dX2_forgetPort_8 : decode cX2_forgetPort 8 = .ok (.istore_n 3, 1) := by decide +kernel
theorem dX2_forgetPort_9 : decode cX2_forgetPort 9 = .ok (.iload_n 3, 1) := by decide +kernel
theorem dX2_forgetPort_10 : decode cX2_forgetPort 10 = .ok (.iload_n 2, 1) := by decide +kernel
theorem dX2_forgetPort_11 : decode cX2_forgetPort 11 = .ok (.bipush 30, 2) := by decide +kernel
theorem dX2_forgetPort_13 : decode cX2_forgetPort 13 = .ok (.iadd, 1) := by decide +kernel
theorem dX2_forgetPort_14 : decode cX2_forgetPort 14 = .ok (.if_icmp .ge 26, 3) := by decide +kernel
theorem dX2_forgetPort_17 : decode cX2_forgetPort 17 = .ok (.aload_n 0, 1) := by decide +kernel
theorem dX2_forgetPort_18 : decode cX2_forgetPort 18 = .ok (.getfield 11, 3) := by decide +kernel
theorem dX2_forgetPort_21 : decode cX2_forgetPort 21 = .ok (.iload_n 3, 1) := by decide +kernel
theorem dX2_forgetPort_22 : decode cX2_forgetPort 22 = .ok (.iaload, 1) := by decide +kernel
theorem dX2_forgetPort_23 : decode cX2_forgetPort 23 = .ok (.iload_n 1, 1) := by decide +kernel
theorem dX2_forgetPort_24 : decode cX2_forgetPort 24 = .ok (.iconst 5, 1) := by decide +kernel
theorem dX2_forgetPort_25 : decode cX2_forgetPort 25 = .ok (.irem, 1) := by decide +kernel
theorem dX2_forgetPort_26 : decode cX2_forgetPort 26 = .ok (.if_icmp .ne 8, 3) := by decide +kernel
theorem dX2_forgetPort_29 : decode cX2_forgetPort 29 = .ok (.aload_n 0, 1) := by decide +kernel
theorem dX2_forgetPort_30 : decode cX2_forgetPort 30 = .ok (.iload_n 3, 1) := by decide +kernel
theorem dX2_forgetPort_31 : decode cX2_forgetPort 31 = .ok (.invokevirtual 25, 3) := by decide +kernel
theorem dX2_forgetPort_34 : decode cX2_forgetPort 34 = .ok (.iinc 3 1, 3) := by decide +kernel
theorem dX2_forgetPort_37 : decode cX2_forgetPort 37 = .ok (.goto (-28), 3) := by decide +kernel
theorem dX2_forgetPort_40 : decode cX2_forgetPort 40 = .ok (.return_, 1) := by decide +kernel
theorem dX2_empty_0 : decode cX2_empty 0 = .ok (.iload_n 1, 1) := by decide +kernel
theorem dX2_empty_1 : decode cX2_empty 1 = .ok (.bipush 30, 2) := by decide +kernel
theorem dX2_empty_3 : decode cX2_empty 3 = .ok (.imul, 1) := by decide +kernel
theorem dX2_empty_4 : decode cX2_empty 4 = .ok (.istore_n 2, 1) := by decide +kernel
theorem dX2_empty_5 : decode cX2_empty 5 = .ok (.iload_n 2, 1) := by decide +kernel
theorem dX2_empty_6 : decode cX2_empty 6 = .ok (.istore_n 3, 1) := by decide +kernel
theorem dX2_empty_7 : decode cX2_empty 7 = .ok (.iload_n 3, 1) := by decide +kernel
theorem dX2_empty_8 : decode cX2_empty 8 = .ok (.iload_n 2, 1) := by decide +kernel
theorem dX2_empty_9 : decode cX2_empty 9 = .ok (.bipush 30, 2) := by decide +kernel
theorem dX2_empty_11 : decode cX2_empty 11 = .ok (.iadd, 1) := by decide +kernel
theorem dX2_empty_12 : decode cX2_empty 12 = .ok (.if_icmp .ge 16, 3) := by decide +kernel
theorem dX2_empty_15 : decode cX2_empty 15 = .ok (.aload_n 0, 1) := by decide +kernel
theorem dX2_empty_16 : decode cX2_empty 16 = .ok (.getfield 11, 3) := by decide +kernel
theorem dX2_empty_19 : decode cX2_empty 19 = .ok (.iload_n 3, 1) := by decide +kernel
theorem dX2_empty_20 : decode cX2_empty 20 = .ok (.iconst (-1), 1) := by decide +kernel
theorem dX2_empty_21 : decode cX2_empty 21 = .ok (.iastore, 1) := by decide +kernel
theorem dX2_empty_22 : decode cX2_empty 22 = .ok (.iinc 3 1, 3) := by decide +kernel
theorem dX2_empty_25 : decode cX2_empty 25 = .ok (.goto (-18), 3) := by decide +kernel
theorem dX2_empty_28 : decode cX2_empty 28 = .ok (.aload_n 0, 1) := by decide +kernel
theorem dX2_empty_29 : decode cX2_empty 29 = .ok (.getfield 18, 3) := by decide +kernel
theorem dX2_empty_32 : decode cX2_empty 32 = .ok (.iload_n 1, 1) := by decide +kernel
theorem dX2_empty_33 : decode cX2_empty 33 = .ok (.iconst 0, 1) := by decide +kernel
theorem dX2_empty_34 : decode cX2_empty 34 = .ok (.iastore, 1) := by decide +kernel
theorem dX2_empty_35 : decode cX2_empty 35 = .ok (.return_, 1) := by decide +kernel
set_option maxRecDepth 20000 in
theorem ggX2_dropOld_X2_drop : GoodIn wsX2_dropOld wsX2_drop := goodIn_r _ [7, 1, 8, 9, 10, 11] (by decide +kernel) (by decide +kernel)
set_option maxRecDepth 20000 in
theorem gX2_dropOld_X2_drop : GoodIn wsX2_dropOld (wsV RX2 25 RX2 yX2_drop wsX2_drop) := goodIn_app (goodIn_of _ (by decide +kernel)) ggX2_dropOld_X2_drop
theorem dX2_dropOld_0 : decode cX2_dropOld 0 = .ok (.iconst 0, 1) := by decide +kernel
theorem dX2_dropOld_1 : decode cX2_dropOld 1 = .ok (.istore_n 2, 1) := by decide +kernel
theorem dX2_dropOld_2 : decode cX2_dropOld 2 = .ok (.iload_n 2, 1) := by decide +kernel
theorem dX2_dropOld_3 : decode cX2_dropOld 3 = .ok (.sipush 180, 3) := by decide +kernel
theorem dX2_dropOld_6 : decode cX2_dropOld 6 = .ok (.if_icmp .ge 37, 3) := by decide +kernel
theorem dX2_dropOld_9 : decode cX2_dropOld 9 = .ok (.aload_n 0, 1) := by decide +kernel
theorem dX2_dropOld_10 : decode cX2_dropOld 10 = .ok (.getfield 11, 3) := by decide +kernel
theorem dX2_dropOld_13 : decode cX2_dropOld 13 = .ok (.iload_n 2, 1) := by decide +kernel
theorem dX2_dropOld_14 : decode cX2_dropOld 14 = .ok (.iaload, 1) := by decide +kernel
theorem dX2_dropOld_15 : decode cX2_dropOld 15 = .ok (.iconst (-1), 1) := by decide +kernel
theorem dX2_dropOld_16 : decode cX2_dropOld 16 = .ok (.if_icmp .eq 21, 3) := by decide +kernel
theorem dX2_dropOld_19 : decode cX2_dropOld 19 = .ok (.iload_n 1, 1) := by decide +kernel
theorem dX2_dropOld_20 : decode cX2_dropOld 20 = .ok (.aload_n 0, 1) := by decide +kernel
theorem dX2_dropOld_21 : decode cX2_dropOld 21 = .ok (.getfield 15, 3) := by decide +kernel
theorem dX2_dropOld_24 : decode cX2_dropOld 24 = .ok (.iload_n 2, 1) := by decide +kernel
theorem dX2_dropOld_25 : decode cX2_dropOld 25 = .ok (.iaload, 1) := by decide +kernel
theorem dX2_dropOld_26 : decode cX2_dropOld 26 = .ok (.isub, 1) := by decide +kernel
theorem dX2_dropOld_27 : decode cX2_dropOld 27 = .ok (.bipush 10, 2) := by decide +kernel
theorem dX2_dropOld_29 : decode cX2_dropOld 29 = .ok (.if_icmp .lt 8, 3) := by decide +kernel
theorem dX2_dropOld_32 : decode cX2_dropOld 32 = .ok (.aload_n 0, 1) := by decide +kernel
theorem dX2_dropOld_33 : decode cX2_dropOld 33 = .ok (.iload_n 2, 1) := by decide +kernel
theorem dX2_dropOld_34 : decode cX2_dropOld 34 = .ok (.invokevirtual 25, 3) := by decide +kernel
theorem dX2_dropOld_37 : decode cX2_dropOld 37 = .ok (.iinc 2 1, 3) := by decide +kernel
theorem dX2_dropOld_40 : decode cX2_dropOld 40 = .ok (.goto (-38), 3) := by decide +kernel
theorem dX2_dropOld_43 : decode cX2_dropOld 43 = .ok (.return_, 1) := by decide +kernel
theorem dX2_drop_0 : decode cX2_drop 0 = .ok (.aload_n 0, 1) := by decide +kernel
theorem dX2_drop_1 : decode cX2_drop 1 = .ok (.getfield 11, 3) := by decide +kernel
theorem dX2_drop_4 : decode cX2_drop 4 = .ok (.iload_n 1, 1) := by decide +kernel
theorem dX2_drop_5 : decode cX2_drop 5 = .ok (.iconst (-1), 1) := by decide +kernel
theorem dX2_drop_6 : decode cX2_drop 6 = .ok (.iastore, 1) := by decide +kernel
theorem dX2_drop_7 : decode cX2_drop 7 = .ok (.aload_n 0, 1) := by decide +kernel
theorem dX2_drop_8 : decode cX2_drop 8 = .ok (.getfield 18, 3) := by decide +kernel
theorem dX2_drop_11 : decode cX2_drop 11 = .ok (.iload_n 1, 1) := by decide +kernel
theorem dX2_drop_12 : decode cX2_drop 12 = .ok (.bipush 30, 2) := by decide +kernel
theorem dX2_drop_14 : decode cX2_drop 14 = .ok (.idiv, 1) := by decide +kernel
theorem dX2_drop_15 : decode cX2_drop 15 = .ok (.dup2, 1) := by decide +kernel
theorem dX2_drop_16 : decode cX2_drop 16 = .ok (.iaload, 1) := by decide +kernel
theorem dX2_drop_17 : decode cX2_drop 17 = .ok (.iconst 1, 1) := by decide +kernel
theorem dX2_drop_18 : decode cX2_drop 18 = .ok (.isub, 1) := by decide +kernel
theorem dX2_drop_19 : decode cX2_drop 19 = .ok (.iastore, 1) := by decide +kernel
theorem dX2_drop_20 : decode cX2_drop 20 = .ok (.return_, 1) := by decide +kernel
