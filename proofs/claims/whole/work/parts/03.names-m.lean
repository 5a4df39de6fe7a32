set_option maxRecDepth 20000 in
theorem ggX1_init_X1_forgetAll : GoodIn wsX1_init wsX1_forgetAll := goodIn_r _ [16, 5, 6, 8, 10, 17, 18, 19, 20, 21, 22, 23, 24] (by decide +kernel) (by decide +kernel)
set_option maxRecDepth 20000 in
theorem gX1_init_X1_forgetAll : GoodIn wsX1_init (wsV RX1 32 RX1 yX1_forgetAll wsX1_forgetAll) := goodIn_app (goodIn_of _ (by decide +kernel)) ggX1_init_X1_forgetAll
theorem dX1_init_0 : decode cX1_init 0 = .ok (.aload_n 0, 1) := by decide +kernel
theorem dX1_init_1 : decode cX1_init 1 = .ok (.invokespecial 1, 3) := by decide +kernel
theorem dX1_init_4 : decode cX1_init 4 = .ok (.aload_n 0, 1) := by decide +kernel
theorem dX1_init_5 : decode cX1_init 5 = .ok (.bipush 10, 2) := by decide +kernel
theorem dX1_init_7 : decode cX1_init 7 = .ok (.newarray .int, 2) := by decide +kernel
theorem dX1_init_9 : decode cX1_init 9 = .ok (.putfield 7, 3) := by decide +kernel
theorem dX1_init_12 : decode cX1_init 12 = .ok (.aload_n 0, 1) := by decide +kernel
theorem dX1_init_13 : decode cX1_init 13 = .ok (.bipush 8, 2) := by decide +kernel
theorem dX1_init_15 : decode cX1_init 15 = .ok (.newarray .int, 2) := by decide +kernel
theorem dX1_init_17 : decode cX1_init 17 = .ok (.putfield 13, 3) := by decide +kernel
theorem dX1_init_20 : decode cX1_init 20 = .ok (.aload_n 0, 1) := by decide +kernel
theorem dX1_init_21 : decode cX1_init 21 = .ok (.bipush 8, 2) := by decide +kernel
theorem dX1_init_23 : decode cX1_init 23 = .ok (.newarray .int, 2) := by decide +kernel
theorem dX1_init_25 : decode cX1_init 25 = .ok (.putfield 16, 3) := by decide +kernel
theorem dX1_init_28 : decode cX1_init 28 = .ok (.aload_n 0, 1) := by decide +kernel
theorem dX1_init_29 : decode cX1_init 29 = .ok (.sipush 136, 3) := by decide +kernel
theorem dX1_init_32 : decode cX1_init 32 = .ok (.newarray .int, 2) := by decide +kernel
theorem dX1_init_34 : decode cX1_init 34 = .ok (.putfield 19, 3) := by decide +kernel
theorem dX1_init_37 : decode cX1_init 37 = .ok (.aload_n 0, 1) := by decide +kernel
theorem dX1_init_38 : decode cX1_init 38 = .ok (.sipush 136, 3) := by decide +kernel
theorem dX1_init_41 : decode cX1_init 41 = .ok (.newarray .int, 2) := by decide +kernel
theorem dX1_init_43 : decode cX1_init 43 = .ok (.putfield 22, 3) := by decide +kernel
theorem dX1_init_46 : decode cX1_init 46 = .ok (.aload_n 0, 1) := by decide +kernel
theorem dX1_init_47 : decode cX1_init 47 = .ok (.sipush 128, 3) := by decide +kernel
theorem dX1_init_50 : decode cX1_init 50 = .ok (.newarray .int, 2) := by decide +kernel
theorem dX1_init_52 : decode cX1_init 52 = .ok (.putfield 25, 3) := by decide +kernel
theorem dX1_init_55 : decode cX1_init 55 = .ok (.aload_n 0, 1) := by decide +kernel
theorem dX1_init_56 : decode cX1_init 56 = .ok (.iload_n 1, 1) := by decide +kernel
theorem dX1_init_57 : decode cX1_init 57 = .ok (.ifCond .ge 7, 3) := by decide +kernel
theorem dX1_init_60 : decode cX1_init 60 = .ok (.iconst 0, 1) := by decide +kernel
theorem dX1_init_61 : decode cX1_init 61 = .ok (.goto 15, 3) := by decide +kernel
theorem dX1_init_64 : decode cX1_init 64 = .ok (.iload_n 1, 1) := by decide +kernel
theorem dX1_init_65 : decode cX1_init 65 = .ok (.bipush 9, 2) := by decide +kernel
theorem dX1_init_67 : decode cX1_init 67 = .ok (.if_icmp .le 8, 3) := by decide +kernel
theorem dX1_init_70 : decode cX1_init 70 = .ok (.bipush 9, 2) := by decide +kernel
theorem dX1_init_72 : decode cX1_init 72 = .ok (.goto 4, 3) := by decide +kernel
theorem dX1_init_75 : decode cX1_init 75 = .ok (.iload_n 1, 1) := by decide +kernel
theorem dX1_init_76 : decode cX1_init 76 = .ok (.putfield 28, 3) := by decide +kernel
theorem dX1_init_79 : decode cX1_init 79 = .ok (.aload_n 0, 1) := by decide +kernel
theorem dX1_init_80 : decode cX1_init 80 = .ok (.invokevirtual 32, 3) := by decide +kernel
theorem dX1_init_83 : decode cX1_init 83 = .ok (.return_, 1) := by decide +kernel
theorem dX1_forgetAll_0 : decode cX1_forgetAll 0 = .ok (.iconst 0, 1) := by decide +kernel
theorem dX1_forgetAll_1 : decode cX1_forgetAll 1 = .ok (.istore_n 1, 1) := by decide +kernel
theorem dX1_forgetAll_2 : decode cX1_forgetAll 2 = .ok (.iload_n 1, 1) := by decide +kernel
theorem dX1_forgetAll_3 : decode cX1_forgetAll 3 = .ok (.bipush 10, 2) := by decide +kernel
theorem dX1_forgetAll_5 : decode cX1_forgetAll 5 = .ok (.if_icmp .ge 16, 3) := by decide +kernel
theorem dX1_forgetAll_8 : decode cX1_forgetAll 8 = .ok (.aload_n 0, 1) := by decide +kernel
theorem dX1_forgetAll_9 : decode cX1_forgetAll 9 = .ok (.getfield 7, 3) := by decide +kernel
theorem dX1_forgetAll_12 : decode cX1_forgetAll 12 = .ok (.iload_n 1, 1) := by decide +kernel
theorem dX1_forgetAll_13 : decode cX1_forgetAll 13 = .ok (.iconst (-1), 1) := by decide +kernel
theorem dX1_forgetAll_14 : decode cX1_forgetAll 14 = .ok (.iastore, 1) := by decide +kernel
theorem dX1_forgetAll_15 : decode cX1_forgetAll 15 = .ok (.iinc 1 1, 3) := by decide +kernel
theorem dX1_forgetAll_18 : decode cX1_forgetAll 18 = .ok (.goto (-16), 3) := by decide +kernel
theorem dX1_forgetAll_21 : decode cX1_forgetAll 21 = .ok (.iconst 0, 1) := by decide +kernel
theorem dX1_forgetAll_22 : decode cX1_forgetAll 22 = .ok (.istore_n 1, 1) := by decide +kernel
theorem dX1_forgetAll_23 : decode cX1_forgetAll 23 = .ok (.iload_n 1, 1) := by decide +kernel
theorem dX1_forgetAll_24 : decode cX1_forgetAll 24 = .ok (.bipush 8, 2) := by decide +kernel
theorem dX1_forgetAll_26 : decode cX1_forgetAll 26 = .ok (.if_icmp .ge 16, 3) := by decide +kernel
theorem dX1_forgetAll_29 : decode cX1_forgetAll 29 = .ok (.aload_n 0, 1) := by decide +kernel
theorem dX1_forgetAll_30 : decode cX1_forgetAll 30 = .ok (.getfield 13, 3) := by decide +kernel
theorem dX1_forgetAll_33 : decode cX1_forgetAll 33 = .ok (.iload_n 1, 1) := by decide +kernel
theorem dX1_forgetAll_34 : decode cX1_forgetAll 34 = .ok (.iconst (-1), 1) := by decide +kernel
theorem dX1_forgetAll_35 : decode cX1_forgetAll 35 = .ok (.iastore, 1) := by decide +kernel
theorem dX1_forgetAll_36 : decode cX1_forgetAll 36 = .ok (.iinc 1 1, 3) := by decide +kernel
theorem dX1_forgetAll_39 : decode cX1_forgetAll 39 = .ok (.goto (-16), 3) := by decide +kernel
theorem dX1_forgetAll_42 : decode cX1_forgetAll 42 = .ok (.iconst 0, 1) := by decide +kernel
theorem dX1_forgetAll_43 : decode cX1_forgetAll 43 = .ok (.istore_n 1, 1) := by decide +kernel
theorem dX1_forgetAll_44 : decode cX1_forgetAll 44 = .ok (.iload_n 1, 1) := by decide +kernel
theorem dX1_forgetAll_45 : decode cX1_forgetAll 45 = .ok (.sipush 136, 3) := by decide +kernel
theorem dX1_forgetAll_48 : decode cX1_forgetAll 48 = .ok (.if_icmp .ge 16, 3) := by decide +kernel
theorem dX1_forgetAll_51 : decode cX1_forgetAll 51 = .ok (.aload_n 0, 1) := by decide +kernel
theorem dX1_forgetAll_52 : decode cX1_forgetAll 52 = .ok (.getfield 19, 3) := by decide +kernel
theorem dX1_forgetAll_55 : decode cX1_forgetAll 55 = .ok (.iload_n 1, 1) := by decide +kernel
theorem dX1_forgetAll_56 : decode cX1_forgetAll 56 = .ok (.iconst (-1), 1) := by decide +kernel
theorem dX1_forgetAll_57 : decode cX1_forgetAll 57 = .ok (.iastore, 1) := by decide +kernel
theorem dX1_forgetAll_58 : decode cX1_forgetAll 58 = .ok (.iinc 1 1, 3) := by decide +kernel
theorem dX1_forgetAll_61 : decode cX1_forgetAll 61 = .ok (.goto (-17), 3) := by decide +kernel
theorem dX1_forgetAll_64 : decode cX1_forgetAll 64 = .ok (.iconst 0, 1) := by decide +kernel
theorem dX1_forgetAll_65 : decode cX1_forgetAll 65 = .ok (.istore_n 1, 1) := by decide +kernel
theorem dX1_forgetAll_66 : decode cX1_forgetAll 66 = .ok (.iload_n 1, 1) := by decide +kernel
theorem dX1_forgetAll_67 : decode cX1_forgetAll 67 = .ok (.sipush 128, 3) := by decide +kernel
theorem dX1_forgetAll_70 : decode cX1_forgetAll 70 = .ok (.if_icmp .ge 16, 3) := by decide +kernel
theorem dX1_forgetAll_73 : decode cX1_forgetAll 73 = .ok (.aload_n 0, 1) := by decide +kernel
theorem dX1_forgetAll_74 : decode cX1_forgetAll 74 = .ok (.getfield 25, 3) := by decide +kernel
theorem dX1_forgetAll_77 : decode cX1_forgetAll 77 = .ok (.iload_n 1, 1) := by decide +kernel
theorem dX1_forgetAll_78 : decode cX1_forgetAll 78 = .ok (.iconst (-1), 1) := by decide +kernel
theorem dX1_forgetAll_79 : decode cX1_forgetAll 79 = .ok (.iastore, 1) := by decide +kernel
theorem dX1_forgetAll_80 : decode cX1_forgetAll 80 = .ok (.iinc 1 1, 3) := by decide +kernel
theorem dX1_forgetAll_83 : decode cX1_forgetAll 83 = .ok (.goto (-17), 3) := by decide +kernel
theorem dX1_forgetAll_86 : decode cX1_forgetAll 86 = .ok (.return_, 1) := by decide +kernel
theorem dX1_isGroup_0 : decode cX1_isGroup 0 = .ok (.iload_n 0, 1) := by decide +kernel
theorem dX1_isGroup_1 : decode cX1_isGroup 1 = .ok (.ifCond .lt 13, 3) := by decide +kernel
theorem dX1_isGroup_4 : decode cX1_isGroup 4 = .ok (.iload_n 0, 1) := by decide +kernel
theorem dX1_isGroup_5 : decode cX1_isGroup 5 = .ok (.bipush 8, 2) := by decide +kernel
theorem dX1_isGroup_7 : decode cX1_isGroup 7 = .ok (.if_icmp .ge 7, 3) := by decide +kernel
theorem dX1_isGroup_10 : decode cX1_isGroup 10 = .ok (.iconst 1, 1) := by decide +kernel
theorem dX1_isGroup_11 : decode cX1_isGroup 11 = .ok (.goto 4, 3) := by decide +kernel
theorem dX1_isGroup_14 : decode cX1_isGroup 14 = .ok (.iconst 0, 1) := by decide +kernel
theorem dX1_isGroup_15 : decode cX1_isGroup 15 = .ok (.ireturn, 1) := by decide +kernel
set_option maxRecDepth 20000 in
theorem ggX1_isBranch_X1_isGroup : GoodIn wsX1_isBranch wsX1_isGroup := goodIn_r _ [4] (by decide +kernel) (by decide +kernel)
set_option maxRecDepth 20000 in
theorem gX1_isBranch_X1_isGroup : GoodIn wsX1_isBranch (va_wsS RX1 35 yX1_isGroup wsX1_isGroup) := goodIn_app (goodIn_of _ (by decide +kernel)) ggX1_isBranch_X1_isGroup
theorem dX1_isBranch_0 : decode cX1_isBranch 0 = .ok (.iload_n 0, 1) := by decide +kernel
theorem dX1_isBranch_1 : decode cX1_isBranch 1 = .ok (.invokestatic 35, 3) := by decide +kernel
theorem dX1_isBranch_4 : decode cX1_isBranch 4 = .ok (.ifCond .eq 18, 3) := by decide +kernel
theorem dX1_isBranch_7 : decode cX1_isBranch 7 = .ok (.iload_n 1, 1) := by decide +kernel
theorem dX1_isBranch_8 : decode cX1_isBranch 8 = .ok (.iconst (-1), 1) := by decide +kernel
theorem dX1_isBranch_9 : decode cX1_isBranch 9 = .ok (.if_icmp .lt 13, 3) := by decide +kernel
theorem dX1_isBranch_12 : decode cX1_isBranch 12 = .ok (.iload_n 1, 1) := by decide +kernel
theorem dX1_isBranch_13 : decode cX1_isBranch 13 = .ok (.bipush 16, 2) := by decide +kernel
theorem dX1_isBranch_15 : decode cX1_isBranch 15 = .ok (.if_icmp .ge 7, 3) := by decide +kernel
theorem dX1_isBranch_18 : decode cX1_isBranch 18 = .ok (.iconst 1, 1) := by decide +kernel
theorem dX1_isBranch_19 : decode cX1_isBranch 19 = .ok (.goto 4, 3) := by decide +kernel
theorem dX1_isBranch_22 : decode cX1_isBranch 22 = .ok (.iconst 0, 1) := by decide +kernel
theorem dX1_isBranch_23 : decode cX1_isBranch 23 = .ok (.ireturn, 1) := by decide +kernel
theorem dX1_tick_0 : decode cX1_tick 0 = .ok (.iload_n 1, 1) := by decide +kernel
theorem dX1_tick_1 : decode cX1_tick 1 = .ok (.iconst 1, 1) := by decide +kernel
theorem dX1_tick_2 : decode cX1_tick 2 = .ok (.if_icmp .lt 20, 3) := by decide +kernel
theorem dX1_tick_5 : decode cX1_tick 5 = .ok (.iload_n 1, 1) := by decide +kernel
theorem dX1_tick_6 : decode cX1_tick 6 = .ok (.bipush 100, 2) := by decide +kernel
theorem dX1_tick_8 : decode cX1_tick 8 = .ok (.if_icmp .gt 14, 3) := by decide +kernel
theorem dX1_tick_11 : decode cX1_tick 11 = .ok (.aload_n 0, 1) := by decide +kernel
theorem dX1_tick_12 : decode cX1_tick 12 = .ok (.getfield 39, 3) := by decide +kernel
theorem dX1_tick_15 : decode cX1_tick 15 = .ok (.iload_n 1, 1) := by decide +kernel
theorem dX1_tick_16 : decode cX1_tick 16 = .ok (.iadd, 1) := by decide +kernel
theorem dX1_tick_17 : decode cX1_tick 17 = .ok (.ldc 42, 2) := by decide +kernel
theorem dX1_tick_19 : decode cX1_tick 19 = .ok (.if_icmp .le 5, 3) := by decide +kernel
theorem dX1_tick_22 : decode cX1_tick 22 = .ok (.iconst (-1), 1) := by decide +kernel
theorem dX1_tick_23 : decode cX1_tick 23 = .ok (.ireturn, 1) := by decide +kernel
theorem dX1_tick_24 : decode cX1_tick 24 = .ok (.aload_n 0, 1) := by decide +kernel
theorem dX1_tick_25 : decode cX1_tick 25 = .ok (.dup, 1) := by decide +kernel
theorem dX1_tick_26 : decode cX1_tick 26 = .ok (.getfield 39, 3) := by decide +kernel
theorem dX1_tick_29 : decode cX1_tick 29 = .ok (.iload_n 1, 1) := by decide +kernel
theorem dX1_tick_30 : decode cX1_tick 30 = .ok (.iadd, 1) := by decide +kernel
theorem dX1_tick_31 : decode cX1_tick 31 = .ok (.putfield 39, 3) := by decide +kernel
theorem dX1_tick_34 : decode cX1_tick 34 = .ok (.aload_n 0, 1) := by decide +kernel
theorem dX1_tick_35 : decode cX1_tick 35 = .ok (.getfield 39, 3) := by decide +kernel
theorem dX1_tick_38 : decode cX1_tick 38 = .ok (.ireturn, 1) := by decide +kernel
theorem dX1_neighbours_0 : decode cX1_neighbours 0 = .ok (.iconst 0, 1) := by decide +kernel
theorem dX1_neighbours_1 : decode cX1_neighbours 1 = .ok (.istore_n 1, 1) := by decide +kernel
theorem dX1_neighbours_2 : decode cX1_neighbours 2 = .ok (.iconst 0, 1) := by decide +kernel
theorem dX1_neighbours_3 : decode cX1_neighbours 3 = .ok (.istore_n 2, 1) := by decide +kernel
theorem dX1_neighbours_4 : decode cX1_neighbours 4 = .ok (.iload_n 2, 1) := by decide +kernel
theorem dX1_neighbours_5 : decode cX1_neighbours 5 = .ok (.bipush 10, 2) := by decide +kernel
theorem dX1_neighbours_7 : decode cX1_neighbours 7 = .ok (.if_icmp .ge 41, 3) := by decide +kernel
theorem dX1_neighbours_10 : decode cX1_neighbours 10 = .ok (.aload_n 0, 1) := by decide +kernel
theorem dX1_neighbours_11 : decode cX1_neighbours 11 = .ok (.getfield 7, 3) := by decide +kernel
theorem dX1_neighbours_14 : decode cX1_neighbours 14 = .ok (.iload_n 2, 1) := by decide +kernel
theorem dX1_neighbours_15 : decode cX1_neighbours 15 = .ok (.iaload, 1) := by decide +kernel
theorem dX1_neighbours_16 : decode cX1_neighbours 16 = .ok (.iconst (-1), 1) := by decide +kernel
theorem dX1_neighbours_17 : decode cX1_neighbours 17 = .ok (.if_icmp .eq 25, 3) := by decide +kernel
theorem dX1_neighbours_20 : decode cX1_neighbours 20 = .ok (.aload_n 0, 1) := by decide +kernel
theorem dX1_neighbours_21 : decode cX1_neighbours 21 = .ok (.getfield 39, 3) := by decide +kernel
theorem dX1_neighbours_24 : decode cX1_neighbours 24 = .ok (.aload_n 0, 1) := by decide +kernel
theorem dX1_neighbours_25 : decode cX1_neighbours 25 = .ok (.getfield 7, 3) := by decide +kernel
theorem dX1_neighbours_28 : decode cX1_neighbours 28 = .ok (.iload_n 2, 1) := by decide +kernel
theorem dX1_neighbours_29 : decode cX1_neighbours 29 = .ok (.iaload, 1) := by decide +kernel
theorem dX1_neighbours_30 : decode cX1_neighbours 30 = .ok (.bipush 65, 2) := by decide +kernel
theorem dX1_neighbours_32 : decode cX1_neighbours 32 = .ok (.iadd, 1) := by decide +kernel
theorem dX1_neighbours_33 : decode cX1_neighbours 33 = .ok (.if_icmp .ge 9, 3) := by decide +kernel
theorem dX1_neighbours_36 : decode cX1_neighbours 36 = .ok (.iload_n 1, 1) := by decide +kernel
theorem dX1_neighbours_37 : decode cX1_neighbours 37 = .ok (.iconst 1, 1) := by decide +kernel
theorem dX1_neighbours_38 : decode cX1_neighbours 38 = .ok (.iload_n 2, 1) := by decide +kernel
theorem dX1_neighbours_39 : decode cX1_neighbours 39 = .ok (.ishl, 1) := by decide +kernel
theorem dX1_neighbours_40 : decode cX1_neighbours 40 = .ok (.ior, 1) := by decide +kernel
theorem dX1_neighbours_41 : decode cX1_neighbours 41 = .ok (.istore_n 1, 1) := by decide +kernel
theorem dX1_neighbours_42 : decode cX1_neighbours 42 = .ok (.iinc 2 1, 3) := by decide +kernel
theorem dX1_neighbours_45 : decode cX1_neighbours 45 = .ok (.goto (-41), 3) := by decide +kernel
theorem dX1_neighbours_48 : decode cX1_neighbours 48 = .ok (.iload_n 1, 1) := by decide +kernel
theorem dX1_neighbours_49 : decode cX1_neighbours 49 = .ok (.ireturn, 1) := by decide +kernel
set_option maxRecDepth 20000 in
theorem ggX1_isFirst_X1_neighbours : GoodIn wsX1_isFirst wsX1_neighbours := goodIn_r _ [6, 7, 8, 9, 10, 11, 12, 13, 14, 15, 16] (by decide +kernel) (by decide +kernel)
set_option maxRecDepth 20000 in
theorem gX1_isFirst_X1_neighbours : GoodIn wsX1_isFirst (wsV RX1 43 RX1 yX1_neighbours wsX1_neighbours) := goodIn_app (goodIn_of _ (by decide +kernel)) ggX1_isFirst_X1_neighbours
theorem dX1_isFirst_0 : decode cX1_isFirst 0 = .ok (.aload_n 0, 1) := by decide +kernel
theorem dX1_isFirst_1 : decode cX1_isFirst 1 = .ok (.invokevirtual 43, 3) := by decide +kernel
theorem dX1_isFirst_4 : decode cX1_isFirst 4 = .ok (.aload_n 0, 1) := by decide +kernel
theorem dX1_isFirst_5 : decode cX1_isFirst 5 = .ok (.getfield 28, 3) := by decide +kernel
theorem dX1_isFirst_8 : decode cX1_isFirst 8 = .ok (.ishr, 1) := by decide +kernel
theorem dX1_isFirst_9 : decode cX1_isFirst 9 = .ok (.ifCond .ne 7, 3) := by decide +kernel
theorem dX1_isFirst_12 : decode cX1_isFirst 12 = .ok (.iconst 1, 1) := by decide +kernel
theorem dX1_isFirst_13 : decode cX1_isFirst 13 = .ok (.goto 4, 3) := by decide +kernel
theorem dX1_isFirst_16 : decode cX1_isFirst 16 = .ok (.iconst 0, 1) := by decide +kernel
theorem dX1_isFirst_17 : decode cX1_isFirst 17 = .ok (.ireturn, 1) := by decide +kernel
set_option maxRecDepth 20000 in
theorem ggX1_isAsking_X1_neighbours : GoodIn wsX1_isAsking wsX1_neighbours := goodIn_r _ [6, 7, 8, 9, 10, 11, 12, 13, 14, 15, 16] (by decide +kernel) (by decide +kernel)
set_option maxRecDepth 20000 in
theorem gX1_isAsking_X1_neighbours : GoodIn wsX1_isAsking (wsV RX1 43 RX1 yX1_neighbours wsX1_neighbours) := goodIn_app (goodIn_of _ (by decide +kernel)) ggX1_isAsking_X1_neighbours
theorem dX1_isAsking_0 : decode cX1_isAsking 0 = .ok (.aload_n 0, 1) := by decide +kernel
theorem dX1_isAsking_1 : decode cX1_isAsking 1 = .ok (.invokevirtual 43, 3) := by decide +kernel
theorem dX1_isAsking_4 : decode cX1_isAsking 4 = .ok (.iconst 1, 1) := by decide +kernel
theorem dX1_isAsking_5 : decode cX1_isAsking 5 = .ok (.aload_n 0, 1) := by decide +kernel
theorem dX1_isAsking_6 : decode cX1_isAsking 6 = .ok (.getfield 28, 3) := by decide +kernel
theorem dX1_isAsking_9 : decode cX1_isAsking 9 = .ok (.ishl, 1) := by decide +kernel
theorem dX1_isAsking_10 : decode cX1_isAsking 10 = .ok (.irem, 1) := by decide +kernel
theorem dX1_isAsking_11 : decode cX1_isAsking 11 = .ok (.ifCond .ne 7, 3) := by decide +kernel
theorem dX1_isAsking_14 : decode cX1_isAsking 14 = .ok (.iconst 1, 1) := by decide +kernel
theorem dX1_isAsking_15 : decode cX1_isAsking 15 = .ok (.goto 4, 3) := by decide +kernel
theorem dX1_isAsking_18 : decode cX1_isAsking 18 = .ok (.iconst 0, 1) := by decide +kernel
theorem dX1_isAsking_19 : decode cX1_isAsking 19 = .ok (.ireturn, 1) := by decide +kernel
set_option maxRecDepth 20000 in
theorem ggX1_isCrowded_X1_neighbours : GoodIn wsX1_isCrowded wsX1_neighbours := goodIn_r _ [5, 6, 7, 8, 9, 10, 11, 12, 13, 14, 15] (by decide +kernel) (by decide +kernel)
set_option maxRecDepth 20000 in
theorem gX1_isCrowded_X1_neighbours : GoodIn wsX1_isCrowded (wsV RX1 43 RX1 yX1_neighbours wsX1_neighbours) := goodIn_app (goodIn_of _ (by decide +kernel)) ggX1_isCrowded_X1_neighbours
theorem dX1_isCrowded_0 : decode cX1_isCrowded 0 = .ok (.iconst 0, 1) := by decide +kernel
theorem dX1_isCrowded_1 : decode cX1_isCrowded 1 = .ok (.istore_n 1, 1) := by decide +kernel
theorem dX1_isCrowded_2 : decode cX1_isCrowded 2 = .ok (.aload_n 0, 1) := by decide +kernel
theorem dX1_isCrowded_3 : decode cX1_isCrowded 3 = .ok (.invokevirtual 43, 3) := by decide +kernel
theorem dX1_isCrowded_6 : decode cX1_isCrowded 6 = .ok (.istore_n 2, 1) := by decide +kernel
theorem dX1_isCrowded_7 : decode cX1_isCrowded 7 = .ok (.iload_n 2, 1) := by decide +kernel
theorem dX1_isCrowded_8 : decode cX1_isCrowded 8 = .ok (.ifCond .eq 16, 3) := by decide +kernel
theorem dX1_isCrowded_11 : decode cX1_isCrowded 11 = .ok (.iload_n 1, 1) := by decide +kernel
theorem dX1_isCrowded_12 : decode cX1_isCrowded 12 = .ok (.iload_n 2, 1) := by decide +kernel
theorem dX1_isCrowded_13 : decode cX1_isCrowded 13 = .ok (.iconst 2, 1) := by decide +kernel
theorem dX1_isCrowded_14 : decode cX1_isCrowded 14 = .ok (.irem, 1) := by decide +kernel
theorem dX1_isCrowded_15 : decode cX1_isCrowded 15 = .ok (.iadd, 1) := by decide +kernel
theorem dX1_isCrowded_16 : decode cX1_isCrowded 16 = .ok (.istore_n 1, 1) := by decide +kernel
theorem dX1_isCrowded_17 : decode cX1_isCrowded 17 = .ok (.iload_n 2, 1) := by decide +kernel
theorem dX1_isCrowded_18 : decode cX1_isCrowded 18 = .ok (.iconst 2, 1) := by decide +kernel
theorem dX1_isCrowded_19 : decode cX1_isCrowded 19 = .ok (.idiv, 1) := by decide +kernel
theorem dX1_isCrowded_20 : decode cX1_isCrowded 20 = .ok (.istore_n 2, 1) := by decide +kernel
theorem dX1_isCrowded_21 : decode cX1_isCrowded 21 = .ok (.goto (-14), 3) := by decide +kernel
theorem dX1_isCrowded_24 : decode cX1_isCrowded 24 = .ok (.iload_n 1, 1) := by decide +kernel
theorem dX1_isCrowded_25 : decode cX1_isCrowded 25 = .ok (.iconst 1, 1) := by decide +kernel
theorem dX1_isCrowded_26 : decode cX1_isCrowded 26 = .ok (.if_icmp .le 7, 3) := by decide +kernel
theorem dX1_isCrowded_29 : decode cX1_isCrowded 29 = .ok (.iconst 1, 1) := by decide +kernel
theorem dX1_isCrowded_30 : decode cX1_isCrowded 30 = .ok (.goto 4, 3) := by decide +kernel
theorem dX1_isCrowded_33 : decode cX1_isCrowded 33 = .ok (.iconst 0, 1) := by decide +kernel
theorem dX1_isCrowded_34 : decode cX1_isCrowded 34 = .ok (.ireturn, 1) := by decide +kernel
theorem dX1_hello_0 : decode cX1_hello 0 = .ok (.iload_n 1, 1) := by decide +kernel
theorem dX1_hello_1 : decode cX1_hello 1 = .ok (.ifCond .lt 17, 3) := by decide +kernel
theorem dX1_hello_4 : decode cX1_hello 4 = .ok (.iload_n 1, 1) := by decide +kernel
theorem dX1_hello_5 : decode cX1_hello 5 = .ok (.bipush 9, 2) := by decide +kernel
theorem dX1_hello_7 : decode cX1_hello 7 = .ok (.if_icmp .gt 11, 3) := by decide +kernel
theorem dX1_hello_10 : decode cX1_hello 10 = .ok (.iload_n 1, 1) := by decide +kernel
theorem dX1_hello_11 : decode cX1_hello 11 = .ok (.aload_n 0, 1) := by decide +kernel
theorem dX1_hello_12 : decode cX1_hello 12 = .ok (.getfield 28, 3) := by decide +kernel
theorem dX1_hello_15 : decode cX1_hello 15 = .ok (.if_icmp .ne 5, 3) := by decide +kernel
theorem dX1_hello_18 : decode cX1_hello 18 = .ok (.iconst 0, 1) := by decide +kernel
theorem dX1_hello_19 : decode cX1_hello 19 = .ok (.ireturn, 1) := by decide +kernel
theorem dX1_hello_20 : decode cX1_hello 20 = .ok (.aload_n 0, 1) := by decide +kernel
theorem dX1_hello_21 : decode cX1_hello 21 = .ok (.getfield 7, 3) := by decide +kernel
theorem dX1_hello_24 : decode cX1_hello 24 = .ok (.iload_n 1, 1) := by decide +kernel
theorem dX1_hello_25 : decode cX1_hello 25 = .ok (.aload_n 0, 1) := by decide +kernel
theorem dX1_hello_26 : decode cX1_hello 26 = .ok (.getfield 39, 3) := by decide +kernel
theorem dX1_hello_29 : decode cX1_hello 29 = .ok (.iastore, 1) := by decide +kernel
theorem dX1_hello_30 : decode cX1_hello 30 = .ok (.iconst 1, 1) := by decide +kernel
theorem dX1_hello_31 : decode cX1_hello 31 = .ok (.ireturn, 1) := by decide +kernel
theorem dX1_memberTill_0 : decode cX1_memberTill 0 = .ok (.aload_n 0, 1) := by decide +kernel
theorem dX1_memberTill_1 : decode cX1_memberTill 1 = .ok (.getfield 13, 3) := by decide +kernel
theorem dX1_memberTill_4 : decode cX1_memberTill 4 = .ok (.iload_n 1, 1) := by decide +kernel
theorem dX1_memberTill_5 : decode cX1_memberTill 5 = .ok (.iaload, 1) := by decide +kernel
theorem dX1_memberTill_6 : decode cX1_memberTill 6 = .ok (.iconst (-1), 1) := by decide +kernel
theorem dX1_memberTill_7 : decode cX1_memberTill 7 = .ok (.if_icmp .ne 5, 3) := by decide +kernel
theorem dX1_memberTill_10 : decode cX1_memberTill 10 = .ok (.iconst 0, 1) := by decide +kernel
theorem dX1_memberTill_11 : decode cX1_memberTill 11 = .ok (.ireturn, 1) := by decide +kernel
theorem dX1_memberTill_12 : decode cX1_memberTill 12 = .ok (.aload_n 0, 1) := by decide +kernel
theorem dX1_memberTill_13 : decode cX1_memberTill 13 = .ok (.getfield 13, 3) := by decide +kernel
theorem dX1_memberTill_16 : decode cX1_memberTill 16 = .ok (.iload_n 1, 1) := by decide +kernel
theorem dX1_memberTill_17 : decode cX1_memberTill 17 = .ok (.iaload, 1) := by decide +kernel
theorem dX1_memberTill_18 : decode cX1_memberTill 18 = .ok (.bipush 60, 2) := by decide +kernel
theorem dX1_memberTill_20 : decode cX1_memberTill 20 = .ok (.iadd, 1) := by decide +kernel
theorem dX1_memberTill_21 : decode cX1_memberTill 21 = .ok (.istore_n 2, 1) := by decide +kernel
theorem dX1_memberTill_22 : decode cX1_memberTill 22 = .ok (.aload_n 0, 1) := by decide +kernel
theorem dX1_memberTill_23 : decode cX1_memberTill 23 = .ok (.getfield 16, 3) := by decide +kernel
theorem dX1_memberTill_26 : decode cX1_memberTill 26 = .ok (.iload_n 1, 1) := by decide +kernel
theorem dX1_memberTill_27 : decode cX1_memberTill 27 = .ok (.iaload, 1) := by decide +kernel
theorem dX1_memberTill_28 : decode cX1_memberTill 28 = .ok (.iload_n 2, 1) := by decide +kernel
theorem dX1_memberTill_29 : decode cX1_memberTill 29 = .ok (.if_icmp .ge 12, 3) := by decide +kernel
theorem dX1_memberTill_32 : decode cX1_memberTill 32 = .ok (.aload_n 0, 1) := by decide +kernel
theorem dX1_memberTill_33 : decode cX1_memberTill 33 = .ok (.getfield 16, 3) := by decide +kernel
theorem dX1_memberTill_36 : decode cX1_memberTill 36 = .ok (.iload_n 1, 1) := by decide +kernel
theorem dX1_memberTill_37 : decode cX1_memberTill 37 = .ok (.iaload, 1) := by decide +kernel
theorem dX1_memberTill_38 : decode cX1_memberTill 38 = .ok (.goto 4, 3) := by decide +kernel
theorem dX1_memberTill_41 : decode cX1_memberTill 41 = .ok (.iload_n 2, 1) := by decide +kernel
theorem dX1_memberTill_42 : decode cX1_memberTill 42 = .ok (.istore_n 2, 1) := by decide +kernel
theorem dX1_memberTill_43 : decode cX1_memberTill 43 = .ok (.aload_n 0, 1) := by decide +kernel
theorem dX1_memberTill_44 : decode cX1_memberTill 44 = .ok (.getfield 39, 3) := by decide +kernel
theorem dX1_memberTill_47 : decode cX1_memberTill 47 = .ok (.iload_n 2, 1) := by decide +kernel
theorem dX1_memberTill_48 : decode cX1_memberTill 48 = .ok (.if_icmp .ge 7, 3) := by decide +kernel
theorem dX1_memberTill_51 : decode cX1_memberTill 51 = .ok (.iload_n 2, 1) := by decide +kernel
theorem dX1_memberTill_52 : decode cX1_memberTill 52 = .ok (.goto 4, 3) := by decide +kernel
theorem dX1_memberTill_55 : decode cX1_memberTill 55 = .ok (.iconst 0, 1) := by decide +kernel
theorem dX1_memberTill_56 : decode cX1_memberTill 56 = .ok (.ireturn, 1) := by decide +kernel
set_option maxRecDepth 20000 in
theorem ggX1_report_X1_isGroup : GoodIn wsX1_report wsX1_isGroup := goodIn_r _ [8] (by decide +kernel) (by decide +kernel)
set_option maxRecDepth 20000 in
theorem gX1_report_X1_isGroup : GoodIn wsX1_report (va_wsS RX1 35 yX1_isGroup wsX1_isGroup) := goodIn_app (goodIn_of _ (by decide +kernel)) ggX1_report_X1_isGroup
theorem dX1_report_0 : decode cX1_report 0 = .ok (.iload_n 1, 1) := by decide +kernel
theorem dX1_report_1 : decode cX1_report 1 = .ok (.invokestatic 35, 3) := by decide +kernel
theorem dX1_report_4 : decode cX1_report 4 = .ok (.ifCond .ne 5, 3) := by decide +kernel
theorem dX1_report_7 : decode cX1_report 7 = .ok (.iconst 0, 1) := by decide +kernel
theorem dX1_report_8 : decode cX1_report 8 = .ok (.ireturn, 1) := by decide +kernel
theorem dX1_report_9 : decode cX1_report 9 = .ok (.aload_n 0, 1) := by decide +kernel
theorem dX1_report_10 : decode cX1_report 10 = .ok (.getfield 13, 3) := by decide +kernel
theorem dX1_report_13 : decode cX1_report 13 = .ok (.iload_n 1, 1) := by decide +kernel
theorem dX1_report_14 : decode cX1_report 14 = .ok (.aload_n 0, 1) := by decide +kernel
theorem dX1_report_15 : decode cX1_report 15 = .ok (.getfield 39, 3) := by decide +kernel
theorem dX1_report_18 : decode cX1_report 18 = .ok (.iastore, 1) := by decide +kernel
theorem dX1_report_19 : decode cX1_report 19 = .ok (.aload_n 0, 1) := by decide +kernel
theorem dX1_report_20 : decode cX1_report 20 = .ok (.getfield 16, 3) := by decide +kernel
theorem dX1_report_23 : decode cX1_report 23 = .ok (.iload_n 1, 1) := by decide +kernel
theorem dX1_report_24 : decode cX1_report 24 = .ok (.ldc 47, 2) := by decide +kernel
theorem dX1_report_26 : decode cX1_report 26 = .ok (.iastore, 1) := by decide +kernel
theorem dX1_report_27 : decode cX1_report 27 = .ok (.iconst 1, 1) := by decide +kernel
theorem dX1_report_28 : decode cX1_report 28 = .ok (.ireturn, 1) := by decide +kernel
set_option maxRecDepth 20000 in
theorem ggX1_leave_X1_isGroup : GoodIn wsX1_leave wsX1_isGroup := goodIn_r _ [6] (by decide +kernel) (by decide +kernel)
set_option maxRecDepth 20000 in
theorem gX1_leave_X1_isGroup : GoodIn wsX1_leave (va_wsS RX1 35 yX1_isGroup wsX1_isGroup) := goodIn_app (goodIn_of _ (by decide +kernel)) ggX1_leave_X1_isGroup
set_option maxRecDepth 20000 in
theorem ggX1_leave_X1_memberTill : GoodIn wsX1_leave wsX1_memberTill := goodIn_r _ [10, 11, 1, 2, 22, 23, 24, 25, 26, 27, 28, 29] (by decide +kernel) (by decide +kernel)
set_option maxRecDepth 20000 in
theorem gX1_leave_X1_memberTill : GoodIn wsX1_leave (wsV RX1 48 RX1 yX1_memberTill wsX1_memberTill) := goodIn_app (goodIn_of _ (by decide +kernel)) ggX1_leave_X1_memberTill
set_option maxRecDepth 20000 in
theorem ggX1_leave_X1_isAsking : GoodIn wsX1_leave wsX1_isAsking := goodIn_r _ [15, 16, 17, 18, 19, 5, 20, 21, 2, 22, 23, 24, 25, 26, 27, 28, 29] (by decide +kernel) (by decide +kernel)
set_option maxRecDepth 20000 in
theorem gX1_leave_X1_isAsking : GoodIn wsX1_leave (wsV RX1 52 RX1 yX1_isAsking wsX1_isAsking) := goodIn_app (goodIn_of _ (by decide +kernel)) ggX1_leave_X1_isAsking
theorem dX1_leave_0 : decode cX1_leave 0 = .ok (.iload_n 1, 1) := by decide +kernel
theorem dX1_leave_1 : decode cX1_leave 1 = .ok (.invokestatic 35, 3) := by decide +kernel
theorem dX1_leave_4 : decode cX1_leave 4 = .ok (.ifCond .eq 18, 3) := by decide +kernel
theorem dX1_leave_7 : decode cX1_leave 7 = .ok (.aload_n 0, 1) := by decide +kernel
theorem dX1_leave_8 : decode cX1_leave 8 = .ok (.iload_n 1, 1) := by decide +kernel
theorem dX1_leave_9 : decode cX1_leave 9 = .ok (.invokevirtual 48, 3) := by decide +kernel
theorem dX1_leave_12 : decode cX1_leave 12 = .ok (.ifCond .eq 10, 3) := by decide +kernel
theorem dX1_leave_15 : decode cX1_leave 15 = .ok (.aload_n 0, 1) := by decide +kernel
theorem dX1_leave_16 : decode cX1_leave 16 = .ok (.invokevirtual 52, 3) := by decide +kernel
theorem dX1_leave_19 : decode cX1_leave 19 = .ok (.ifCond .ne 5, 3) := by decide +kernel
theorem dX1_leave_22 : decode cX1_leave 22 = .ok (.iconst 0, 1) := by decide +kernel
theorem dX1_leave_23 : decode cX1_leave 23 = .ok (.ireturn, 1) := by decide +kernel
theorem dX1_leave_24 : decode cX1_leave 24 = .ok (.aload_n 0, 1) := by decide +kernel
theorem dX1_leave_25 : decode cX1_leave 25 = .ok (.getfield 16, 3) := by decide +kernel
theorem dX1_leave_28 : decode cX1_leave 28 = .ok (.iload_n 1, 1) := by decide +kernel
theorem dX1_leave_29 : decode cX1_leave 29 = .ok (.aload_n 0, 1) := by decide +kernel
theorem dX1_leave_30 : decode cX1_leave 30 = .ok (.getfield 39, 3) := by decide +kernel
theorem dX1_leave_33 : decode cX1_leave 33 = .ok (.iconst 4, 1) := by decide +kernel
theorem dX1_leave_34 : decode cX1_leave 34 = .ok (.iadd, 1) := by decide +kernel
theorem dX1_leave_35 : decode cX1_leave 35 = .ok (.aload_n 0, 1) := by decide +kernel
theorem dX1_leave_36 : decode cX1_leave 36 = .ok (.getfield 16, 3) := by decide +kernel
theorem dX1_leave_39 : decode cX1_leave 39 = .ok (.iload_n 1, 1) := by decide +kernel
theorem dX1_leave_40 : decode cX1_leave 40 = .ok (.iaload, 1) := by decide +kernel
theorem dX1_leave_41 : decode cX1_leave 41 = .ok (.if_icmp .ge 12, 3) := by decide +kernel
theorem dX1_leave_44 : decode cX1_leave 44 = .ok (.aload_n 0, 1) := by decide +kernel
theorem dX1_leave_45 : decode cX1_leave 45 = .ok (.getfield 39, 3) := by decide +kernel
theorem dX1_leave_48 : decode cX1_leave 48 = .ok (.iconst 4, 1) := by decide +kernel
theorem dX1_leave_49 : decode cX1_leave 49 = .ok (.iadd, 1) := by decide +kernel
theorem dX1_leave_50 : decode cX1_leave 50 = .ok (.goto 9, 3) := by decide +kernel
theorem dX1_leave_53 : decode cX1_leave 53 = .ok (.aload_n 0, 1) := by decide +kernel
theorem dX1_leave_54 : decode cX1_leave 54 = .ok (.getfield 16, 3) := by decide +kernel
theorem dX1_leave_57 : decode cX1_leave 57 = .ok (.iload_n 1, 1) := by decide +kernel
theorem dX1_leave_58 : decode cX1_leave 58 = .ok (.iaload, 1) := by decide +kernel
theorem dX1_leave_59 : decode cX1_leave 59 = .ok (.iastore, 1) := by decide +kernel
theorem dX1_leave_60 : decode cX1_leave 60 = .ok (.iconst 1, 1) := by decide +kernel
theorem dX1_leave_61 : decode cX1_leave 61 = .ok (.ireturn, 1) := by decide +kernel
set_option maxRecDepth 20000 in
theorem ggX1_members_X1_isGroup : GoodIn wsX1_members wsX1_isGroup := goodIn_r _ [4] (by decide +kernel) (by decide +kernel)
set_option maxRecDepth 20000 in
theorem gX1_members_X1_isGroup : GoodIn wsX1_members (va_wsS RX1 35 yX1_isGroup wsX1_isGroup) := goodIn_app (goodIn_of _ (by decide +kernel)) ggX1_members_X1_isGroup
set_option maxRecDepth 20000 in
theorem ggX1_members_X1_memberTill : GoodIn wsX1_members wsX1_memberTill := goodIn_r _ [8, 9, 10, 11, 12, 13, 14, 15, 16, 17, 18, 19] (by decide +kernel) (by decide +kernel)
set_option maxRecDepth 20000 in
theorem gX1_members_X1_memberTill : GoodIn wsX1_members (wsV RX1 48 RX1 yX1_memberTill wsX1_memberTill) := goodIn_app (goodIn_of _ (by decide +kernel)) ggX1_members_X1_memberTill
theorem dX1_members_0 : decode cX1_members 0 = .ok (.iload_n 1, 1) := by decide +kernel
theorem dX1_members_1 : decode cX1_members 1 = .ok (.invokestatic 35, 3) := by decide +kernel
theorem dX1_members_4 : decode cX1_members 4 = .ok (.ifCond .eq 11, 3) := by decide +kernel
theorem dX1_members_7 : decode cX1_members 7 = .ok (.aload_n 0, 1) := by decide +kernel
theorem dX1_members_8 : decode cX1_members 8 = .ok (.iload_n 1, 1) := by decide +kernel
theorem dX1_members_9 : decode cX1_members 9 = .ok (.invokevirtual 48, 3) := by decide +kernel
theorem dX1_members_12 : decode cX1_members 12 = .ok (.goto 4, 3) := by decide +kernel
theorem dX1_members_15 : decode cX1_members 15 = .ok (.iconst (-1), 1) := by decide +kernel
theorem dX1_members_16 : decode cX1_members 16 = .ok (.ireturn, 1) := by decide +kernel
theorem dX1_till_0 : decode cX1_till 0 = .ok (.bipush 17, 2) := by decide +kernel
theorem dX1_till_2 : decode cX1_till 2 = .ok (.iload_n 1, 1) := by decide +kernel
theorem dX1_till_3 : decode cX1_till 3 = .ok (.imul, 1) := by decide +kernel
theorem dX1_till_4 : decode cX1_till 4 = .ok (.iload_n 2, 1) := by decide +kernel
theorem dX1_till_5 : decode cX1_till 5 = .ok (.iadd, 1) := by decide +kernel
theorem dX1_till_6 : decode cX1_till 6 = .ok (.iconst 1, 1) := by decide +kernel
theorem dX1_till_7 : decode cX1_till 7 = .ok (.iadd, 1) := by decide +kernel
theorem dX1_till_8 : decode cX1_till 8 = .ok (.istore_n 3, 1) := by decide +kernel
theorem dX1_till_9 : decode cX1_till 9 = .ok (.aload_n 0, 1) := by decide +kernel
theorem dX1_till_10 : decode cX1_till 10 = .ok (.getfield 19, 3) := by decide +kernel
theorem dX1_till_13 : decode cX1_till 13 = .ok (.iload_n 3, 1) := by decide +kernel
theorem dX1_till_14 : decode cX1_till 14 = .ok (.iaload, 1) := by decide +kernel
theorem dX1_till_15 : decode cX1_till 15 = .ok (.iconst (-1), 1) := by decide +kernel
theorem dX1_till_16 : decode cX1_till 16 = .ok (.if_icmp .ne 5, 3) := by decide +kernel
theorem dX1_till_19 : decode cX1_till 19 = .ok (.iconst 0, 1) := by decide +kernel
theorem dX1_till_20 : decode cX1_till 20 = .ok (.ireturn, 1) := by decide +kernel
theorem dX1_till_21 : decode cX1_till 21 = .ok (.aload_n 0, 1) := by decide +kernel
theorem dX1_till_22 : decode cX1_till 22 = .ok (.getfield 19, 3) := by decide +kernel
theorem dX1_till_25 : decode cX1_till 25 = .ok (.iload_n 3, 1) := by decide +kernel
theorem dX1_till_26 : decode cX1_till 26 = .ok (.iaload, 1) := by decide +kernel
theorem dX1_till_27 : decode cX1_till 27 = .ok (.bipush 70, 2) := by decide +kernel
theorem dX1_till_29 : decode cX1_till 29 = .ok (.iadd, 1) := by decide +kernel
theorem dX1_till_30 : decode cX1_till 30 = .ok (.istore 4, 2) := by decide +kernel
theorem dX1_till_32 : decode cX1_till 32 = .ok (.aload_n 0, 1) := by decide +kernel
theorem dX1_till_33 : decode cX1_till 33 = .ok (.getfield 22, 3) := by decide +kernel
theorem dX1_till_36 : decode cX1_till 36 = .ok (.iload_n 3, 1) := by decide +kernel
theorem dX1_till_37 : decode cX1_till 37 = .ok (.iaload, 1) := by decide +kernel
theorem dX1_till_38 : decode cX1_till 38 = .ok (.iload 4, 2) := by decide +kernel
theorem dX1_till_40 : decode cX1_till 40 = .ok (.if_icmp .ge 12, 3) := by decide +kernel
theorem dX1_till_43 : decode cX1_till 43 = .ok (.aload_n 0, 1) := by decide +kernel
theorem dX1_till_44 : decode cX1_till 44 = .ok (.getfield 22, 3) := by decide +kernel
theorem dX1_till_47 : decode cX1_till 47 = .ok (.iload_n 3, 1) := by decide +kernel
theorem dX1_till_48 : decode cX1_till 48 = .ok (.iaload, 1) := by decide +kernel
theorem dX1_till_49 : decode cX1_till 49 = .ok (.goto 5, 3) := by decide +kernel
theorem dX1_till_52 : decode cX1_till 52 = .ok (.iload 4, 2) := by decide +kernel
theorem dX1_till_54 : decode cX1_till 54 = .ok (.istore 4, 2) := by decide +kernel
theorem dX1_till_56 : decode cX1_till 56 = .ok (.aload_n 0, 1) := by decide +kernel
theorem dX1_till_57 : decode cX1_till 57 = .ok (.getfield 39, 3) := by decide +kernel
theorem dX1_till_60 : decode cX1_till 60 = .ok (.iload 4, 2) := by decide +kernel
theorem dX1_till_62 : decode cX1_till 62 = .ok (.if_icmp .ge 8, 3) := by decide +kernel
theorem dX1_till_65 : decode cX1_till 65 = .ok (.iload 4, 2) := by decide +kernel
theorem dX1_till_67 : decode cX1_till 67 = .ok (.goto 4, 3) := by decide +kernel
theorem dX1_till_70 : decode cX1_till 70 = .ok (.iconst 0, 1) := by decide +kernel
theorem dX1_till_71 : decode cX1_till 71 = .ok (.ireturn, 1) := by decide +kernel
set_option maxRecDepth 20000 in
theorem ggX1_join_X1_isBranch : GoodIn wsX1_join wsX1_isBranch := goodIn_r _ [9, 10, 11, 8, 12] (by decide +kernel) (by decide +kernel)
set_option maxRecDepth 20000 in
theorem gX1_join_X1_isBranch : GoodIn wsX1_join (va_wsS RX1 56 yX1_isBranch wsX1_isBranch) := goodIn_app (goodIn_of _ (by decide +kernel)) ggX1_join_X1_isBranch
set_option maxRecDepth 20000 in
theorem ggX1_join_X1_till : GoodIn wsX1_join wsX1_till := goodIn_r _ [16, 1, 3, 2, 26, 27, 28, 29, 30, 31, 32, 33] (by decide +kernel) (by decide +kernel)
set_option maxRecDepth 20000 in
theorem gX1_join_X1_till : GoodIn wsX1_join (wsV RX1 60 RX1 yX1_till wsX1_till) := goodIn_app (goodIn_of _ (by decide +kernel)) ggX1_join_X1_till
set_option maxRecDepth 20000 in
theorem ggX1_join_X1_isCrowded : GoodIn wsX1_join wsX1_isCrowded := goodIn_r _ [20, 21, 22, 23, 8, 24, 25, 2, 26, 27, 28, 29, 30, 31, 32, 33] (by decide +kernel) (by decide +kernel)
set_option maxRecDepth 20000 in
theorem gX1_join_X1_isCrowded : GoodIn wsX1_join (wsV RX1 64 RX1 yX1_isCrowded wsX1_isCrowded) := goodIn_app (goodIn_of _ (by decide +kernel)) ggX1_join_X1_isCrowded
theorem dX1_join_0 : decode cX1_join 0 = .ok (.iload_n 1, 1) := by decide +kernel
theorem dX1_join_1 : decode cX1_join 1 = .ok (.iload_n 2, 1) := by decide +kernel
theorem dX1_join_2 : decode cX1_join 2 = .ok (.invokestatic 56, 3) := by decide +kernel
theorem dX1_join_5 : decode cX1_join 5 = .ok (.ifCond .ne 5, 3) := by decide +kernel
theorem dX1_join_8 : decode cX1_join 8 = .ok (.iconst 0, 1) := by decide +kernel
theorem dX1_join_9 : decode cX1_join 9 = .ok (.ireturn, 1) := by decide +kernel
theorem dX1_join_10 : decode cX1_join 10 = .ok (.aload_n 0, 1) := by decide +kernel
theorem dX1_join_11 : decode cX1_join 11 = .ok (.iload_n 1, 1) := by decide +kernel
theorem dX1_join_12 : decode cX1_join 12 = .ok (.iload_n 2, 1) := by decide +kernel
theorem dX1_join_13 : decode cX1_join 13 = .ok (.invokevirtual 60, 3) := by decide +kernel
theorem dX1_join_16 : decode cX1_join 16 = .ok (.ifCond .le 7, 3) := by decide +kernel
theorem dX1_join_19 : decode cX1_join 19 = .ok (.iconst 1, 1) := by decide +kernel
theorem dX1_join_20 : decode cX1_join 20 = .ok (.goto 4, 3) := by decide +kernel
theorem dX1_join_23 : decode cX1_join 23 = .ok (.iconst 0, 1) := by decide +kernel
theorem dX1_join_24 : decode cX1_join 24 = .ok (.istore 4, 2) := by decide +kernel
theorem dX1_join_26 : decode cX1_join 26 = .ok (.aload_n 0, 1) := by decide +kernel
theorem dX1_join_27 : decode cX1_join 27 = .ok (.getfield 19, 3) := by decide +kernel
theorem dX1_join_30 : decode cX1_join 30 = .ok (.bipush 17, 2) := by decide +kernel
theorem dX1_join_32 : decode cX1_join 32 = .ok (.iload_n 1, 1) := by decide +kernel
theorem dX1_join_33 : decode cX1_join 33 = .ok (.imul, 1) := by decide +kernel
theorem dX1_join_34 : decode cX1_join 34 = .ok (.iload_n 2, 1) := by decide +kernel
theorem dX1_join_35 : decode cX1_join 35 = .ok (.iadd, 1) := by decide +kernel
theorem dX1_join_36 : decode cX1_join 36 = .ok (.iconst 1, 1) := by decide +kernel
theorem dX1_join_37 : decode cX1_join 37 = .ok (.iadd, 1) := by decide +kernel
theorem dX1_join_38 : decode cX1_join 38 = .ok (.aload_n 0, 1) := by decide +kernel
theorem dX1_join_39 : decode cX1_join 39 = .ok (.getfield 39, 3) := by decide +kernel
theorem dX1_join_42 : decode cX1_join 42 = .ok (.iastore, 1) := by decide +kernel
theorem dX1_join_43 : decode cX1_join 43 = .ok (.aload_n 0, 1) := by decide +kernel
theorem dX1_join_44 : decode cX1_join 44 = .ok (.getfield 22, 3) := by decide +kernel
theorem dX1_join_47 : decode cX1_join 47 = .ok (.bipush 17, 2) := by decide +kernel
theorem dX1_join_49 : decode cX1_join 49 = .ok (.iload_n 1, 1) := by decide +kernel
theorem dX1_join_50 : decode cX1_join 50 = .ok (.imul, 1) := by decide +kernel
theorem dX1_join_51 : decode cX1_join 51 = .ok (.iload_n 2, 1) := by decide +kernel
theorem dX1_join_52 : decode cX1_join 52 = .ok (.iadd, 1) := by decide +kernel
theorem dX1_join_53 : decode cX1_join 53 = .ok (.iconst 1, 1) := by decide +kernel
theorem dX1_join_54 : decode cX1_join 54 = .ok (.iadd, 1) := by decide +kernel
theorem dX1_join_55 : decode cX1_join 55 = .ok (.ldc 47, 2) := by decide +kernel
theorem dX1_join_57 : decode cX1_join 57 = .ok (.iastore, 1) := by decide +kernel
theorem dX1_join_58 : decode cX1_join 58 = .ok (.iload_n 2, 1) := by decide +kernel
theorem dX1_join_59 : decode cX1_join 59 = .ok (.iconst (-1), 1) := by decide +kernel
theorem dX1_join_60 : decode cX1_join 60 = .ok (.if_icmp .eq 5, 3) := by decide +kernel
theorem dX1_join_63 : decode cX1_join 63 = .ok (.iconst 1, 1) := by decide +kernel
theorem dX1_join_64 : decode cX1_join 64 = .ok (.ireturn, 1) := by decide +kernel
theorem dX1_join_65 : decode cX1_join 65 = .ok (.iconst 0, 1) := by decide +kernel
theorem dX1_join_66 : decode cX1_join 66 = .ok (.istore 5, 2) := by decide +kernel
theorem dX1_join_68 : decode cX1_join 68 = .ok (.iload 5, 2) := by decide +kernel
theorem dX1_join_70 : decode cX1_join 70 = .ok (.bipush 16, 2) := by decide +kernel
theorem dX1_join_72 : decode cX1_join 72 = .ok (.if_icmp .ge 112, 3) := by decide +kernel
theorem dX1_join_75 : decode cX1_join 75 = .ok (.iload_n 3, 1) := by decide +kernel
theorem dX1_join_76 : decode cX1_join 76 = .ok (.iload 5, 2) := by decide +kernel
theorem dX1_join_78 : decode cX1_join 78 = .ok (.ishr, 1) := by decide +kernel
theorem dX1_join_79 : decode cX1_join 79 = .ok (.iconst 1, 1) := by decide +kernel
theorem dX1_join_80 : decode cX1_join 80 = .ok (.iand, 1) := by decide +kernel
theorem dX1_join_81 : decode cX1_join 81 = .ok (.iconst 1, 1) := by decide +kernel
theorem dX1_join_82 : decode cX1_join 82 = .ok (.if_icmp .ne 7, 3) := by decide +kernel
theorem dX1_join_85 : decode cX1_join 85 = .ok (.iconst 1, 1) := by decide +kernel
theorem dX1_join_86 : decode cX1_join 86 = .ok (.goto 4, 3) := by decide +kernel
theorem dX1_join_89 : decode cX1_join 89 = .ok (.iconst 0, 1) := by decide +kernel
theorem dX1_join_90 : decode cX1_join 90 = .ok (.istore 6, 2) := by decide +kernel
theorem dX1_join_92 : decode cX1_join 92 = .ok (.iload 4, 2) := by decide +kernel
theorem dX1_join_94 : decode cX1_join 94 = .ok (.ifCond .eq 19, 3) := by decide +kernel
theorem dX1_join_97 : decode cX1_join 97 = .ok (.aload_n 0, 1) := by decide +kernel
theorem dX1_join_98 : decode cX1_join 98 = .ok (.getfield 25, 3) := by decide +kernel
theorem dX1_join_101 : decode cX1_join 101 = .ok (.bipush 16, 2) := by decide +kernel
theorem dX1_join_103 : decode cX1_join 103 = .ok (.iload_n 1, 1) := by decide +kernel
theorem dX1_join_104 : decode cX1_join 104 = .ok (.imul, 1) := by decide +kernel
theorem dX1_join_105 : decode cX1_join 105 = .ok (.iload 5, 2) := by decide +kernel
theorem dX1_join_107 : decode cX1_join 107 = .ok (.iadd, 1) := by decide +kernel
theorem dX1_join_108 : decode cX1_join 108 = .ok (.iaload, 1) := by decide +kernel
theorem dX1_join_109 : decode cX1_join 109 = .ok (.iconst (-1), 1) := by decide +kernel
theorem dX1_join_110 : decode cX1_join 110 = .ok (.if_icmp .ne 7, 3) := by decide +kernel
theorem dX1_join_113 : decode cX1_join 113 = .ok (.iconst 1, 1) := by decide +kernel
theorem dX1_join_114 : decode cX1_join 114 = .ok (.goto 4, 3) := by decide +kernel
theorem dX1_join_117 : decode cX1_join 117 = .ok (.iconst 0, 1) := by decide +kernel
theorem dX1_join_118 : decode cX1_join 118 = .ok (.istore 7, 2) := by decide +kernel
theorem dX1_join_120 : decode cX1_join 120 = .ok (.iload 6, 2) := by decide +kernel
theorem dX1_join_122 : decode cX1_join 122 = .ok (.ifCond .ne 19, 3) := by decide +kernel
theorem dX1_join_125 : decode cX1_join 125 = .ok (.aload_n 0, 1) := by decide +kernel
theorem dX1_join_126 : decode cX1_join 126 = .ok (.getfield 25, 3) := by decide +kernel
theorem dX1_join_129 : decode cX1_join 129 = .ok (.bipush 16, 2) := by decide +kernel
theorem dX1_join_131 : decode cX1_join 131 = .ok (.iload_n 1, 1) := by decide +kernel
theorem dX1_join_132 : decode cX1_join 132 = .ok (.imul, 1) := by decide +kernel
theorem dX1_join_133 : decode cX1_join 133 = .ok (.iload 5, 2) := by decide +kernel
theorem dX1_join_135 : decode cX1_join 135 = .ok (.iadd, 1) := by decide +kernel
theorem dX1_join_136 : decode cX1_join 136 = .ok (.iconst (-1), 1) := by decide +kernel
theorem dX1_join_137 : decode cX1_join 137 = .ok (.iastore, 1) := by decide +kernel
theorem dX1_join_138 : decode cX1_join 138 = .ok (.goto 40, 3) := by decide +kernel
theorem dX1_join_141 : decode cX1_join 141 = .ok (.iload 7, 2) := by decide +kernel
theorem dX1_join_143 : decode cX1_join 143 = .ok (.ifCond .eq 35, 3) := by decide +kernel
theorem dX1_join_146 : decode cX1_join 146 = .ok (.aload_n 0, 1) := by decide +kernel
theorem dX1_join_147 : decode cX1_join 147 = .ok (.getfield 25, 3) := by decide +kernel
theorem dX1_join_150 : decode cX1_join 150 = .ok (.bipush 16, 2) := by decide +kernel
theorem dX1_join_152 : decode cX1_join 152 = .ok (.iload_n 1, 1) := by decide +kernel
theorem dX1_join_153 : decode cX1_join 153 = .ok (.imul, 1) := by decide +kernel
theorem dX1_join_154 : decode cX1_join 154 = .ok (.iload 5, 2) := by decide +kernel
theorem dX1_join_156 : decode cX1_join 156 = .ok (.iadd, 1) := by decide +kernel
theorem dX1_join_157 : decode cX1_join 157 = .ok (.aload_n 0, 1) := by decide +kernel
theorem dX1_join_158 : decode cX1_join 158 = .ok (.invokevirtual 64, 3) := by decide +kernel
theorem dX1_join_161 : decode cX1_join 161 = .ok (.ifCond .eq 12, 3) := by decide +kernel
theorem dX1_join_164 : decode cX1_join 164 = .ok (.aload_n 0, 1) := by decide +kernel
theorem dX1_join_165 : decode cX1_join 165 = .ok (.getfield 39, 3) := by decide +kernel
theorem dX1_join_168 : decode cX1_join 168 = .ok (.iconst 3, 1) := by decide +kernel
theorem dX1_join_169 : decode cX1_join 169 = .ok (.iadd, 1) := by decide +kernel
theorem dX1_join_170 : decode cX1_join 170 = .ok (.goto 7, 3) := by decide +kernel
theorem dX1_join_173 : decode cX1_join 173 = .ok (.aload_n 0, 1) := by decide +kernel
theorem dX1_join_174 : decode cX1_join 174 = .ok (.getfield 39, 3) := by decide +kernel
theorem dX1_join_177 : decode cX1_join 177 = .ok (.iastore, 1) := by decide +kernel
theorem dX1_join_178 : decode cX1_join 178 = .ok (.iinc 5 1, 3) := by decide +kernel
theorem dX1_join_181 : decode cX1_join 181 = .ok (.goto (-113), 3) := by decide +kernel
theorem dX1_join_184 : decode cX1_join 184 = .ok (.iconst 1, 1) := by decide +kernel
theorem dX1_join_185 : decode cX1_join 185 = .ok (.ireturn, 1) := by decide +kernel
set_option maxRecDepth 20000 in
theorem ggX1_prune_X1_isBranch : GoodIn wsX1_prune wsX1_isBranch := goodIn_r _ [6, 7, 8, 5, 9] (by decide +kernel) (by decide +kernel)
set_option maxRecDepth 20000 in
theorem gX1_prune_X1_isBranch : GoodIn wsX1_prune (va_wsS RX1 56 yX1_isBranch wsX1_isBranch) := goodIn_app (goodIn_of _ (by decide +kernel)) ggX1_prune_X1_isBranch
set_option maxRecDepth 20000 in
theorem ggX1_prune_X1_till : GoodIn wsX1_prune wsX1_till := goodIn_r _ [13, 14, 2, 1, 24, 25, 26, 27, 28, 29, 30, 31] (by decide +kernel) (by decide +kernel)
set_option maxRecDepth 20000 in
theorem gX1_prune_X1_till : GoodIn wsX1_prune (wsV RX1 60 RX1 yX1_till wsX1_till) := goodIn_app (goodIn_of _ (by decide +kernel)) ggX1_prune_X1_till
set_option maxRecDepth 20000 in
theorem ggX1_prune_X1_isCrowded : GoodIn wsX1_prune wsX1_isCrowded := goodIn_r _ [18, 19, 20, 21, 5, 22, 23, 1, 24, 25, 26, 27, 28, 29, 30, 31] (by decide +kernel) (by decide +kernel)
set_option maxRecDepth 20000 in
theorem gX1_prune_X1_isCrowded : GoodIn wsX1_prune (wsV RX1 64 RX1 yX1_isCrowded wsX1_isCrowded) := goodIn_app (goodIn_of _ (by decide +kernel)) ggX1_prune_X1_isCrowded
theorem dX1_prune_0 : decode cX1_prune 0 = .ok (.iload_n 1, 1) := by decide +kernel
theorem dX1_prune_1 : decode cX1_prune 1 = .ok (.iload_n 2, 1) := by decide +kernel
theorem dX1_prune_2 : decode cX1_prune 2 = .ok (.invokestatic 56, 3) := by decide +kernel
theorem dX1_prune_5 : decode cX1_prune 5 = .ok (.ifCond .eq 12, 3) := by decide +kernel
theorem dX1_prune_8 : decode cX1_prune 8 = .ok (.aload_n 0, 1) := by decide +kernel
theorem dX1_prune_9 : decode cX1_prune 9 = .ok (.iload_n 1, 1) := by decide +kernel
theorem dX1_prune_10 : decode cX1_prune 10 = .ok (.iload_n 2, 1) := by decide +kernel
theorem dX1_prune_11 : decode cX1_prune 11 = .ok (.invokevirtual 60, 3) := by decide +kernel
theorem dX1_prune_14 : decode cX1_prune 14 = .ok (.ifCond .ne 5, 3) := by decide +kernel
theorem dX1_prune_17 : decode cX1_prune 17 = .ok (.iconst 0, 1) := by decide +kernel
theorem dX1_prune_18 : decode cX1_prune 18 = .ok (.ireturn, 1) := by decide +kernel
theorem dX1_prune_19 : decode cX1_prune 19 = .ok (.bipush 17, 2) := by decide +kernel
theorem dX1_prune_21 : decode cX1_prune 21 = .ok (.iload_n 1, 1) := by decide +kernel
theorem dX1_prune_22 : decode cX1_prune 22 = .ok (.imul, 1) := by decide +kernel
theorem dX1_prune_23 : decode cX1_prune 23 = .ok (.iload_n 2, 1) := by decide +kernel
theorem dX1_prune_24 : decode cX1_prune 24 = .ok (.iadd, 1) := by decide +kernel
theorem dX1_prune_25 : decode cX1_prune 25 = .ok (.iconst 1, 1) := by decide +kernel
theorem dX1_prune_26 : decode cX1_prune 26 = .ok (.iadd, 1) := by decide +kernel
theorem dX1_prune_27 : decode cX1_prune 27 = .ok (.istore_n 3, 1) := by decide +kernel
theorem dX1_prune_28 : decode cX1_prune 28 = .ok (.aload_n 0, 1) := by decide +kernel
theorem dX1_prune_29 : decode cX1_prune 29 = .ok (.invokevirtual 64, 3) := by decide +kernel
theorem dX1_prune_32 : decode cX1_prune 32 = .ok (.ifCond .eq 12, 3) := by decide +kernel
theorem dX1_prune_35 : decode cX1_prune 35 = .ok (.aload_n 0, 1) := by decide +kernel
theorem dX1_prune_36 : decode cX1_prune 36 = .ok (.getfield 39, 3) := by decide +kernel
theorem dX1_prune_39 : decode cX1_prune 39 = .ok (.iconst 3, 1) := by decide +kernel
theorem dX1_prune_40 : decode cX1_prune 40 = .ok (.iadd, 1) := by decide +kernel
theorem dX1_prune_41 : decode cX1_prune 41 = .ok (.goto 7, 3) := by decide +kernel
theorem dX1_prune_44 : decode cX1_prune 44 = .ok (.aload_n 0, 1) := by decide +kernel
theorem dX1_prune_45 : decode cX1_prune 45 = .ok (.getfield 39, 3) := by decide +kernel
theorem dX1_prune_48 : decode cX1_prune 48 = .ok (.istore 4, 2) := by decide +kernel
theorem dX1_prune_50 : decode cX1_prune 50 = .ok (.aload_n 0, 1) := by decide +kernel
theorem dX1_prune_51 : decode cX1_prune 51 = .ok (.getfield 22, 3) := by decide +kernel
theorem dX1_prune_54 : decode cX1_prune 54 = .ok (.iload_n 3, 1) := by decide +kernel
theorem dX1_prune_55 : decode cX1_prune 55 = .ok (.iload 4, 2) := by decide +kernel
theorem dX1_prune_57 : decode cX1_prune 57 = .ok (.aload_n 0, 1) := by decide +kernel
theorem dX1_prune_58 : decode cX1_prune 58 = .ok (.getfield 22, 3) := by decide +kernel
theorem dX1_prune_61 : decode cX1_prune 61 = .ok (.iload_n 3, 1) := by decide +kernel
theorem dX1_prune_62 : decode cX1_prune 62 = .ok (.iaload, 1) := by decide +kernel
theorem dX1_prune_63 : decode cX1_prune 63 = .ok (.if_icmp .ge 8, 3) := by decide +kernel
theorem dX1_prune_66 : decode cX1_prune 66 = .ok (.iload 4, 2) := by decide +kernel
theorem dX1_prune_68 : decode cX1_prune 68 = .ok (.goto 9, 3) := by decide +kernel
theorem dX1_prune_71 : decode cX1_prune 71 = .ok (.aload_n 0, 1) := by decide +kernel
theorem dX1_prune_72 : decode cX1_prune 72 = .ok (.getfield 22, 3) := by decide +kernel
theorem dX1_prune_75 : decode cX1_prune 75 = .ok (.iload_n 3, 1) := by decide +kernel
theorem dX1_prune_76 : decode cX1_prune 76 = .ok (.iaload, 1) := by decide +kernel
theorem dX1_prune_77 : decode cX1_prune 77 = .ok (.iastore, 1) := by decide +kernel
theorem dX1_prune_78 : decode cX1_prune 78 = .ok (.iconst 1, 1) := by decide +kernel
theorem dX1_prune_79 : decode cX1_prune 79 = .ok (.ireturn, 1) := by decide +kernel
set_option maxRecDepth 20000 in
theorem ggX1_forget_X1_forgetAll : GoodIn wsX1_forget wsX1_forgetAll := goodIn_r _ [5, 6, 7, 8, 9, 10, 11, 12, 13, 14, 15, 16, 17] (by decide +kernel) (by decide +kernel)
set_option maxRecDepth 20000 in
theorem gX1_forget_X1_forgetAll : GoodIn wsX1_forget (wsV RX1 32 RX1 yX1_forgetAll wsX1_forgetAll) := goodIn_app (goodIn_of _ (by decide +kernel)) ggX1_forget_X1_forgetAll
theorem dX1_forget_0 : decode cX1_forget 0 = .ok (.aload_n 0, 1) := by decide +kernel
theorem dX1_forget_1 : decode cX1_forget 1 = .ok (.invokevirtual 32, 3) := by decide +kernel
theorem dX1_forget_4 : decode cX1_forget 4 = .ok (.return_, 1) := by decide +kernel
set_option maxRecDepth 20000 in
theorem ggX1_joined_X1_isBranch : GoodIn wsX1_joined wsX1_isBranch := goodIn_r _ [4, 5, 6, 3, 7] (by decide +kernel) (by decide +kernel)
set_option maxRecDepth 20000 in
theorem gX1_joined_X1_isBranch : GoodIn wsX1_joined (va_wsS RX1 56 yX1_isBranch wsX1_isBranch) := goodIn_app (goodIn_of _ (by decide +kernel)) ggX1_joined_X1_isBranch
set_option maxRecDepth 20000 in
theorem ggX1_joined_X1_till : GoodIn wsX1_joined wsX1_till := goodIn_r _ [11, 12, 13, 14, 15, 16, 17, 18, 19, 20, 21, 22] (by decide +kernel) (by decide +kernel)
set_option maxRecDepth 20000 in
theorem gX1_joined_X1_till : GoodIn wsX1_joined (wsV RX1 60 RX1 yX1_till wsX1_till) := goodIn_app (goodIn_of _ (by decide +kernel)) ggX1_joined_X1_till
theorem dX1_joined_0 : decode cX1_joined 0 = .ok (.iload_n 1, 1) := by decide +kernel
theorem dX1_joined_1 : decode cX1_joined 1 = .ok (.iload_n 2, 1) := by decide +kernel
theorem dX1_joined_2 : decode cX1_joined 2 = .ok (.invokestatic 56, 3) := by decide +kernel
theorem dX1_joined_5 : decode cX1_joined 5 = .ok (.ifCond .eq 12, 3) := by decide +kernel
theorem dX1_joined_8 : decode cX1_joined 8 = .ok (.aload_n 0, 1) := by decide +kernel
theorem dX1_joined_9 : decode cX1_joined 9 = .ok (.iload_n 1, 1) := by decide +kernel
theorem dX1_joined_10 : decode cX1_joined 10 = .ok (.iload_n 2, 1) := by decide +kernel
theorem dX1_joined_11 : decode cX1_joined 11 = .ok (.invokevirtual 60, 3) := by decide +kernel
theorem dX1_joined_14 : decode cX1_joined 14 = .ok (.goto 4, 3) := by decide +kernel
theorem dX1_joined_17 : decode cX1_joined 17 = .ok (.iconst (-1), 1) := by decide +kernel
theorem dX1_joined_18 : decode cX1_joined 18 = .ok (.ireturn, 1) := by decide +kernel
set_option maxRecDepth 20000 in
theorem ggX1_cut_X1_isBranch : GoodIn wsX1_cut wsX1_isBranch := goodIn_r _ [5, 6, 7, 4, 8] (by decide +kernel) (by decide +kernel)
set_option maxRecDepth 20000 in
theorem gX1_cut_X1_isBranch : GoodIn wsX1_cut (va_wsS RX1 56 yX1_isBranch wsX1_isBranch) := goodIn_app (goodIn_of _ (by decide +kernel)) ggX1_cut_X1_isBranch
set_option maxRecDepth 20000 in
theorem ggX1_cut_X1_till : GoodIn wsX1_cut wsX1_till := goodIn_r _ [12, 13, 14, 15, 16, 17, 18, 19, 20, 21, 22, 23] (by decide +kernel) (by decide +kernel)
set_option maxRecDepth 20000 in
theorem gX1_cut_X1_till : GoodIn wsX1_cut (wsV RX1 60 RX1 yX1_till wsX1_till) := goodIn_app (goodIn_of _ (by decide +kernel)) ggX1_cut_X1_till
theorem dX1_cut_0 : decode cX1_cut 0 = .ok (.iload_n 1, 1) := by decide +kernel
theorem dX1_cut_1 : decode cX1_cut 1 = .ok (.iload_n 2, 1) := by decide +kernel
theorem dX1_cut_2 : decode cX1_cut 2 = .ok (.invokestatic 56, 3) := by decide +kernel
theorem dX1_cut_5 : decode cX1_cut 5 = .ok (.ifCond .eq 8, 3) := by decide +kernel
theorem dX1_cut_8 : decode cX1_cut 8 = .ok (.iload_n 2, 1) := by decide +kernel
theorem dX1_cut_9 : decode cX1_cut 9 = .ok (.iconst (-1), 1) := by decide +kernel
theorem dX1_cut_10 : decode cX1_cut 10 = .ok (.if_icmp .ne 5, 3) := by decide +kernel
theorem dX1_cut_13 : decode cX1_cut 13 = .ok (.iconst (-1), 1) := by decide +kernel
theorem dX1_cut_14 : decode cX1_cut 14 = .ok (.ireturn, 1) := by decide +kernel
theorem dX1_cut_15 : decode cX1_cut 15 = .ok (.aload_n 0, 1) := by decide +kernel
theorem dX1_cut_16 : decode cX1_cut 16 = .ok (.iload_n 1, 1) := by decide +kernel
theorem dX1_cut_17 : decode cX1_cut 17 = .ok (.iconst (-1), 1) := by decide +kernel
theorem dX1_cut_18 : decode cX1_cut 18 = .ok (.invokevirtual 60, 3) := by decide +kernel
theorem dX1_cut_21 : decode cX1_cut 21 = .ok (.ifCond .eq 18, 3) := by decide +kernel
theorem dX1_cut_24 : decode cX1_cut 24 = .ok (.aload_n 0, 1) := by decide +kernel
theorem dX1_cut_25 : decode cX1_cut 25 = .ok (.getfield 25, 3) := by decide +kernel
theorem dX1_cut_28 : decode cX1_cut 28 = .ok (.bipush 16, 2) := by decide +kernel
theorem dX1_cut_30 : decode cX1_cut 30 = .ok (.iload_n 1, 1) := by decide +kernel
theorem dX1_cut_31 : decode cX1_cut 31 = .ok (.imul, 1) := by decide +kernel
theorem dX1_cut_32 : decode cX1_cut 32 = .ok (.iload_n 2, 1) := by decide +kernel
theorem dX1_cut_33 : decode cX1_cut 33 = .ok (.iadd, 1) := by decide +kernel
theorem dX1_cut_34 : decode cX1_cut 34 = .ok (.iaload, 1) := by decide +kernel
theorem dX1_cut_35 : decode cX1_cut 35 = .ok (.iconst (-1), 1) := by decide +kernel
theorem dX1_cut_36 : decode cX1_cut 36 = .ok (.if_icmp .ne 7, 3) := by decide +kernel
theorem dX1_cut_39 : decode cX1_cut 39 = .ok (.iconst 0, 1) := by decide +kernel
theorem dX1_cut_40 : decode cX1_cut 40 = .ok (.goto 14, 3) := by decide +kernel
theorem dX1_cut_43 : decode cX1_cut 43 = .ok (.aload_n 0, 1) := by decide +kernel
theorem dX1_cut_44 : decode cX1_cut 44 = .ok (.getfield 25, 3) := by decide +kernel
theorem dX1_cut_47 : decode cX1_cut 47 = .ok (.bipush 16, 2) := by decide +kernel
theorem dX1_cut_49 : decode cX1_cut 49 = .ok (.iload_n 1, 1) := by decide +kernel
theorem dX1_cut_50 : decode cX1_cut 50 = .ok (.imul, 1) := by decide +kernel
theorem dX1_cut_51 : decode cX1_cut 51 = .ok (.iload_n 2, 1) := by decide +kernel
theorem dX1_cut_52 : decode cX1_cut 52 = .ok (.iadd, 1) := by decide +kernel
theorem dX1_cut_53 : decode cX1_cut 53 = .ok (.iaload, 1) := by decide +kernel
theorem dX1_cut_54 : decode cX1_cut 54 = .ok (.ireturn, 1) := by decide +kernel
theorem dX1_isCutOff_0 : decode cX1_isCutOff 0 = .ok (.aload_n 0, 1) := by decide +kernel
theorem dX1_isCutOff_1 : decode cX1_isCutOff 1 = .ok (.getfield 25, 3) := by decide +kernel
theorem dX1_isCutOff_4 : decode cX1_isCutOff 4 = .ok (.bipush 16, 2) := by decide +kernel
theorem dX1_isCutOff_6 : decode cX1_isCutOff 6 = .ok (.iload_n 1, 1) := by decide +kernel
theorem dX1_isCutOff_7 : decode cX1_isCutOff 7 = .ok (.imul, 1) := by decide +kernel
theorem dX1_isCutOff_8 : decode cX1_isCutOff 8 = .ok (.iload_n 2, 1) := by decide +kernel
theorem dX1_isCutOff_9 : decode cX1_isCutOff 9 = .ok (.iadd, 1) := by decide +kernel
theorem dX1_isCutOff_10 : decode cX1_isCutOff 10 = .ok (.iaload, 1) := by decide +kernel
theorem dX1_isCutOff_11 : decode cX1_isCutOff 11 = .ok (.iconst (-1), 1) := by decide +kernel
theorem dX1_isCutOff_12 : decode cX1_isCutOff 12 = .ok (.if_icmp .eq 25, 3) := by decide +kernel
theorem dX1_isCutOff_15 : decode cX1_isCutOff 15 = .ok (.aload_n 0, 1) := by decide +kernel
theorem dX1_isCutOff_16 : decode cX1_isCutOff 16 = .ok (.getfield 39, 3) := by decide +kernel
theorem dX1_isCutOff_19 : decode cX1_isCutOff 19 = .ok (.aload_n 0, 1) := by decide +kernel
theorem dX1_isCutOff_20 : decode cX1_isCutOff 20 = .ok (.getfield 25, 3) := by decide +kernel
theorem dX1_isCutOff_23 : decode cX1_isCutOff 23 = .ok (.bipush 16, 2) := by decide +kernel
theorem dX1_isCutOff_25 : decode cX1_isCutOff 25 = .ok (.iload_n 1, 1) := by decide +kernel
theorem dX1_isCutOff_26 : decode cX1_isCutOff 26 = .ok (.imul, 1) := by decide +kernel
theorem dX1_isCutOff_27 : decode cX1_isCutOff 27 = .ok (.iload_n 2, 1) := by decide +kernel
theorem dX1_isCutOff_28 : decode cX1_isCutOff 28 = .ok (.iadd, 1) := by decide +kernel
theorem dX1_isCutOff_29 : decode cX1_isCutOff 29 = .ok (.iaload, 1) := by decide +kernel
theorem dX1_isCutOff_30 : decode cX1_isCutOff 30 = .ok (.if_icmp .lt 7, 3) := by decide +kernel
theorem dX1_isCutOff_33 : decode cX1_isCutOff 33 = .ok (.iconst 1, 1) := by decide +kernel
theorem dX1_isCutOff_34 : decode cX1_isCutOff 34 = .ok (.goto 4, 3) := by decide +kernel
theorem dX1_isCutOff_37 : decode cX1_isCutOff 37 = .ok (.iconst 0, 1) := by decide +kernel
theorem dX1_isCutOff_38 : decode cX1_isCutOff 38 = .ok (.ireturn, 1) := by decide +kernel
set_option maxRecDepth 20000 in
theorem ggX1_goes_X1_isGroup : GoodIn wsX1_goes wsX1_isGroup := goodIn_r _ [4] (by decide +kernel) (by decide +kernel)
set_option maxRecDepth 20000 in
theorem gX1_goes_X1_isGroup : GoodIn wsX1_goes (va_wsS RX1 35 yX1_isGroup wsX1_isGroup) := goodIn_app (goodIn_of _ (by decide +kernel)) ggX1_goes_X1_isGroup
set_option maxRecDepth 20000 in
theorem ggX1_goes_X1_memberTill : GoodIn wsX1_goes wsX1_memberTill := goodIn_r _ [8, 9, 10, 11, 33, 34, 35, 36, 37, 38, 39, 40] (by decide +kernel) (by decide +kernel)
set_option maxRecDepth 20000 in
theorem gX1_goes_X1_memberTill : GoodIn wsX1_goes (wsV RX1 48 RX1 yX1_memberTill wsX1_memberTill) := goodIn_app (goodIn_of _ (by decide +kernel)) ggX1_goes_X1_memberTill
set_option maxRecDepth 20000 in
theorem ggX1_goes_X1_isFirst : GoodIn wsX1_goes wsX1_isFirst := goodIn_r _ [15, 16, 17, 18, 19, 3, 20, 21, 11, 33, 34, 35, 36, 37, 38, 39, 40] (by decide +kernel) (by decide +kernel)
set_option maxRecDepth 20000 in
theorem gX1_goes_X1_isFirst : GoodIn wsX1_goes (wsV RX1 67 RX1 yX1_isFirst wsX1_isFirst) := goodIn_app (goodIn_of _ (by decide +kernel)) ggX1_goes_X1_isFirst
set_option maxRecDepth 20000 in
theorem ggX1_goes_X1_till : GoodIn wsX1_goes wsX1_till := goodIn_r _ [25, 26, 27, 11, 33, 34, 35, 36, 37, 38, 39, 40] (by decide +kernel) (by decide +kernel)
set_option maxRecDepth 20000 in
theorem gX1_goes_X1_till : GoodIn wsX1_goes (wsV RX1 60 RX1 yX1_till wsX1_till) := goodIn_app (goodIn_of _ (by decide +kernel)) ggX1_goes_X1_till
set_option maxRecDepth 20000 in
theorem ggX1_goes_X1_isCutOff : GoodIn wsX1_goes wsX1_isCutOff := goodIn_r _ [31, 32, 11, 33, 34, 35, 36, 37, 38, 39, 40] (by decide +kernel) (by decide +kernel)
set_option maxRecDepth 20000 in
theorem gX1_goes_X1_isCutOff : GoodIn wsX1_goes (wsV RX1 70 RX1 yX1_isCutOff wsX1_isCutOff) := goodIn_app (goodIn_of _ (by decide +kernel)) ggX1_goes_X1_isCutOff
theorem dX1_goes_0 : decode cX1_goes 0 = .ok (.iload_n 1, 1) := by decide +kernel
theorem dX1_goes_1 : decode cX1_goes 1 = .ok (.invokestatic 35, 3) := by decide +kernel
theorem dX1_goes_4 : decode cX1_goes 4 = .ok (.ifCond .ne 5, 3) := by decide +kernel
theorem dX1_goes_7 : decode cX1_goes 7 = .ok (.iconst (-1), 1) := by decide +kernel
theorem dX1_goes_8 : decode cX1_goes 8 = .ok (.ireturn, 1) := by decide +kernel
theorem dX1_goes_9 : decode cX1_goes 9 = .ok (.aload_n 0, 1) := by decide +kernel
theorem dX1_goes_10 : decode cX1_goes 10 = .ok (.iload_n 1, 1) := by decide +kernel
theorem dX1_goes_11 : decode cX1_goes 11 = .ok (.invokevirtual 48, 3) := by decide +kernel
theorem dX1_goes_14 : decode cX1_goes 14 = .ok (.ifCond .le 14, 3) := by decide +kernel
theorem dX1_goes_17 : decode cX1_goes 17 = .ok (.aload_n 0, 1) := by decide +kernel
theorem dX1_goes_18 : decode cX1_goes 18 = .ok (.invokevirtual 67, 3) := by decide +kernel
theorem dX1_goes_21 : decode cX1_goes 21 = .ok (.ifCond .eq 7, 3) := by decide +kernel
theorem dX1_goes_24 : decode cX1_goes 24 = .ok (.iconst 1, 1) := by decide +kernel
theorem dX1_goes_25 : decode cX1_goes 25 = .ok (.goto 4, 3) := by decide +kernel
theorem dX1_goes_28 : decode cX1_goes 28 = .ok (.iconst 0, 1) := by decide +kernel
theorem dX1_goes_29 : decode cX1_goes 29 = .ok (.istore_n 2, 1) := by decide +kernel
theorem dX1_goes_30 : decode cX1_goes 30 = .ok (.iconst 0, 1) := by decide +kernel
theorem dX1_goes_31 : decode cX1_goes 31 = .ok (.istore_n 3, 1) := by decide +kernel
theorem dX1_goes_32 : decode cX1_goes 32 = .ok (.iconst 0, 1) := by decide +kernel
theorem dX1_goes_33 : decode cX1_goes 33 = .ok (.istore 4, 2) := by decide +kernel
theorem dX1_goes_35 : decode cX1_goes 35 = .ok (.iload 4, 2) := by decide +kernel
theorem dX1_goes_37 : decode cX1_goes 37 = .ok (.bipush 16, 2) := by decide +kernel
theorem dX1_goes_39 : decode cX1_goes 39 = .ok (.if_icmp .ge 61, 3) := by decide +kernel
theorem dX1_goes_42 : decode cX1_goes 42 = .ok (.iload_n 2, 1) := by decide +kernel
theorem dX1_goes_43 : decode cX1_goes 43 = .ok (.ifCond .ne 32, 3) := by decide +kernel
theorem dX1_goes_46 : decode cX1_goes 46 = .ok (.aload_n 0, 1) := by decide +kernel
theorem dX1_goes_47 : decode cX1_goes 47 = .ok (.iload_n 1, 1) := by decide +kernel
theorem dX1_goes_48 : decode cX1_goes 48 = .ok (.iload 4, 2) := by decide +kernel
theorem dX1_goes_50 : decode cX1_goes 50 = .ok (.invokevirtual 60, 3) := by decide +kernel
theorem dX1_goes_53 : decode cX1_goes 53 = .ok (.ifCond .gt 22, 3) := by decide +kernel
theorem dX1_goes_56 : decode cX1_goes 56 = .ok (.aload_n 0, 1) := by decide +kernel
theorem dX1_goes_57 : decode cX1_goes 57 = .ok (.iload_n 1, 1) := by decide +kernel
theorem dX1_goes_58 : decode cX1_goes 58 = .ok (.iconst (-1), 1) := by decide +kernel
theorem dX1_goes_59 : decode cX1_goes 59 = .ok (.invokevirtual 60, 3) := by decide +kernel
theorem dX1_goes_62 : decode cX1_goes 62 = .ok (.ifCond .le 17, 3) := by decide +kernel
theorem dX1_goes_65 : decode cX1_goes 65 = .ok (.aload_n 0, 1) := by decide +kernel
theorem dX1_goes_66 : decode cX1_goes 66 = .ok (.iload_n 1, 1) := by decide +kernel
theorem dX1_goes_67 : decode cX1_goes 67 = .ok (.iload 4, 2) := by decide +kernel
theorem dX1_goes_69 : decode cX1_goes 69 = .ok (.invokevirtual 70, 3) := by decide +kernel
theorem dX1_goes_72 : decode cX1_goes 72 = .ok (.ifCond .ne 7, 3) := by decide +kernel
theorem dX1_goes_75 : decode cX1_goes 75 = .ok (.iconst 1, 1) := by decide +kernel
theorem dX1_goes_76 : decode cX1_goes 76 = .ok (.goto 4, 3) := by decide +kernel
theorem dX1_goes_79 : decode cX1_goes 79 = .ok (.iconst 0, 1) := by decide +kernel
theorem dX1_goes_80 : decode cX1_goes 80 = .ok (.istore 5, 2) := by decide +kernel
theorem dX1_goes_82 : decode cX1_goes 82 = .ok (.iload 5, 2) := by decide +kernel
theorem dX1_goes_84 : decode cX1_goes 84 = .ok (.ifCond .eq 10, 3) := by decide +kernel
theorem dX1_goes_87 : decode cX1_goes 87 = .ok (.iload_n 3, 1) := by decide +kernel
theorem dX1_goes_88 : decode cX1_goes 88 = .ok (.iconst 1, 1) := by decide +kernel
theorem dX1_goes_89 : decode cX1_goes 89 = .ok (.iload 4, 2) := by decide +kernel
theorem dX1_goes_91 : decode cX1_goes 91 = .ok (.ishl, 1) := by decide +kernel
theorem dX1_goes_92 : decode cX1_goes 92 = .ok (.ior, 1) := by decide +kernel
theorem dX1_goes_93 : decode cX1_goes 93 = .ok (.istore_n 3, 1) := by decide +kernel
theorem dX1_goes_94 : decode cX1_goes 94 = .ok (.iinc 4 1, 3) := by decide +kernel
theorem dX1_goes_97 : decode cX1_goes 97 = .ok (.goto (-62), 3) := by decide +kernel
theorem dX1_goes_100 : decode cX1_goes 100 = .ok (.iload_n 3, 1) := by decide +kernel
theorem dX1_goes_101 : decode cX1_goes 101 = .ok (.ireturn, 1) := by decide +kernel
set_option maxRecDepth 20000 in
theorem ggX1_look_X1_neighbours : GoodIn wsX1_look wsX1_neighbours := goodIn_r _ [7, 8, 1, 53, 54, 55, 56, 57, 58, 59, 60] (by decide +kernel) (by decide +kernel)
set_option maxRecDepth 20000 in
theorem gX1_look_X1_neighbours : GoodIn wsX1_look (wsV RX1 43 RX1 yX1_neighbours wsX1_neighbours) := goodIn_app (goodIn_of _ (by decide +kernel)) ggX1_look_X1_neighbours
set_option maxRecDepth 20000 in
theorem ggX1_look_X1_isFirst : GoodIn wsX1_look wsX1_isFirst := goodIn_r _ [12, 2, 3, 4, 5, 6, 7, 8, 1, 53, 54, 55, 56, 57, 58, 59, 60] (by decide +kernel) (by decide +kernel)
set_option maxRecDepth 20000 in
theorem gX1_look_X1_isFirst : GoodIn wsX1_look (wsV RX1 67 RX1 yX1_isFirst wsX1_isFirst) := goodIn_app (goodIn_of _ (by decide +kernel)) ggX1_look_X1_isFirst
set_option maxRecDepth 20000 in
theorem ggX1_look_X1_isAsking : GoodIn wsX1_look wsX1_isAsking := goodIn_r _ [16, 2, 3, 4, 5, 6, 7, 8, 1, 53, 54, 55, 56, 57, 58, 59, 60] (by decide +kernel) (by decide +kernel)
set_option maxRecDepth 20000 in
theorem gX1_look_X1_isAsking : GoodIn wsX1_look (wsV RX1 52 RX1 yX1_isAsking wsX1_isAsking) := goodIn_app (goodIn_of _ (by decide +kernel)) ggX1_look_X1_isAsking
set_option maxRecDepth 20000 in
theorem ggX1_look_X1_isCrowded : GoodIn wsX1_look wsX1_isCrowded := goodIn_r _ [20, 3, 4, 5, 6, 7, 8, 1, 53, 54, 55, 56, 57, 58, 59, 60] (by decide +kernel) (by decide +kernel)
set_option maxRecDepth 20000 in
theorem gX1_look_X1_isCrowded : GoodIn wsX1_look (wsV RX1 64 RX1 yX1_isCrowded wsX1_isCrowded) := goodIn_app (goodIn_of _ (by decide +kernel)) ggX1_look_X1_isCrowded
set_option maxRecDepth 20000 in
theorem ggX1_look_X1_going : GoodIn wsX1_look wsX1_going := goodIn_r _ [24, 25, 26, 27, 6, 28, 29, 30, 31, 32, 33, 34, 35, 36, 37, 1, 9, 10, 11, 12, 2, 3, 4, 5, 7, 8, 38, 39, 40, 41, 42, 43, 44, 45, 46, 47, 48, 53, 54, 55, 56, 57, 58, 59, 60] (by decide +kernel) (by decide +kernel)
set_option maxRecDepth 20000 in
theorem gX1_look_X1_going : GoodIn wsX1_look (wsV RX1 73 RX1 yX1_going wsX1_going) := goodIn_app (goodIn_of _ (by decide +kernel)) ggX1_look_X1_going
set_option maxRecDepth 20000 in
theorem ggX1_look_X1_branches : GoodIn wsX1_look wsX1_branches := goodIn_r _ [52, 38, 39, 40, 6, 41, 42, 43, 1, 53, 54, 55, 56, 57, 58, 59, 60] (by decide +kernel) (by decide +kernel)
set_option maxRecDepth 20000 in
theorem gX1_look_X1_branches : GoodIn wsX1_look (wsV RX1 76 RX1 yX1_branches wsX1_branches) := goodIn_app (goodIn_of _ (by decide +kernel)) ggX1_look_X1_branches
theorem dX1_look_0 : decode cX1_look 0 = .ok (.iload_n 1, 1) := by decide +kernel
theorem dX1_look_1 : decode cX1_look 1 = .ok (.tableswitch 111 0 7 #[47, 52, 57, 70, 83, 96, 101, 106], 47) := by decide +kernel
theorem dX1_look_48 : decode cX1_look 48 = .ok (.aload_n 0, 1) := by decide +kernel
theorem dX1_look_49 : decode cX1_look 49 = .ok (.getfield 39, 3) := by decide +kernel
theorem dX1_look_52 : decode cX1_look 52 = .ok (.ireturn, 1) := by decide +kernel
theorem dX1_look_53 : decode cX1_look 53 = .ok (.aload_n 0, 1) := by decide +kernel
theorem dX1_look_54 : decode cX1_look 54 = .ok (.invokevirtual 43, 3) := by decide +kernel
theorem dX1_look_57 : decode cX1_look 57 = .ok (.ireturn, 1) := by decide +kernel
theorem dX1_look_58 : decode cX1_look 58 = .ok (.aload_n 0, 1) := by decide +kernel
theorem dX1_look_59 : decode cX1_look 59 = .ok (.invokevirtual 67, 3) := by decide +kernel
theorem dX1_look_62 : decode cX1_look 62 = .ok (.ifCond .eq 7, 3) := by decide +kernel
theorem dX1_look_65 : decode cX1_look 65 = .ok (.iconst 1, 1) := by decide +kernel
theorem dX1_look_66 : decode cX1_look 66 = .ok (.goto 4, 3) := by decide +kernel
theorem dX1_look_69 : decode cX1_look 69 = .ok (.iconst 0, 1) := by decide +kernel
theorem dX1_look_70 : decode cX1_look 70 = .ok (.ireturn, 1) := by decide +kernel
theorem dX1_look_71 : decode cX1_look 71 = .ok (.aload_n 0, 1) := by decide +kernel
theorem dX1_look_72 : decode cX1_look 72 = .ok (.invokevirtual 52, 3) := by decide +kernel
theorem dX1_look_75 : decode cX1_look 75 = .ok (.ifCond .eq 7, 3) := by decide +kernel
theorem dX1_look_78 : decode cX1_look 78 = .ok (.iconst 1, 1) := by decide +kernel
theorem dX1_look_79 : decode cX1_look 79 = .ok (.goto 4, 3) := by decide +kernel
theorem dX1_look_82 : decode cX1_look 82 = .ok (.iconst 0, 1) := by decide +kernel
theorem dX1_look_83 : decode cX1_look 83 = .ok (.ireturn, 1) := by decide +kernel
theorem dX1_look_84 : decode cX1_look 84 = .ok (.aload_n 0, 1) := by decide +kernel
theorem dX1_look_85 : decode cX1_look 85 = .ok (.invokevirtual 64, 3) := by decide +kernel
theorem dX1_look_88 : decode cX1_look 88 = .ok (.ifCond .eq 7, 3) := by decide +kernel
theorem dX1_look_91 : decode cX1_look 91 = .ok (.iconst 1, 1) := by decide +kernel
theorem dX1_look_92 : decode cX1_look 92 = .ok (.goto 4, 3) := by decide +kernel
theorem dX1_look_95 : decode cX1_look 95 = .ok (.iconst 0, 1) := by decide +kernel
theorem dX1_look_96 : decode cX1_look 96 = .ok (.ireturn, 1) := by decide +kernel
theorem dX1_look_97 : decode cX1_look 97 = .ok (.aload_n 0, 1) := by decide +kernel
theorem dX1_look_98 : decode cX1_look 98 = .ok (.getfield 28, 3) := by decide +kernel
theorem dX1_look_101 : decode cX1_look 101 = .ok (.ireturn, 1) := by decide +kernel
theorem dX1_look_102 : decode cX1_look 102 = .ok (.aload_n 0, 1) := by decide +kernel
theorem dX1_look_103 : decode cX1_look 103 = .ok (.invokevirtual 73, 3) := by decide +kernel
theorem dX1_look_106 : decode cX1_look 106 = .ok (.ireturn, 1) := by decide +kernel
theorem dX1_look_107 : decode cX1_look 107 = .ok (.aload_n 0, 1) := by decide +kernel
theorem dX1_look_108 : decode cX1_look 108 = .ok (.invokevirtual 76, 3) := by decide +kernel
theorem dX1_look_111 : decode cX1_look 111 = .ok (.ireturn, 1) := by decide +kernel
theorem dX1_look_112 : decode cX1_look 112 = .ok (.iconst (-1), 1) := by decide +kernel
theorem dX1_look_113 : decode cX1_look 113 = .ok (.ireturn, 1) := by decide +kernel
set_option maxRecDepth 20000 in
theorem ggX1_going_X1_goes : GoodIn wsX1_going wsX1_goes := goodIn_r _ [5, 6, 7, 4, 8, 9, 10, 11, 12, 13, 14, 15, 16, 17, 18, 19, 20, 21, 22, 23, 24, 25, 26, 27, 28, 29, 30, 31, 32, 33, 34, 35, 36, 37, 38, 39, 40, 41, 42, 43, 44] (by decide +kernel) (by decide +kernel)
set_option maxRecDepth 20000 in
theorem gX1_going_X1_goes : GoodIn wsX1_going (wsV RX1 79 RX1 yX1_goes wsX1_goes) := goodIn_app (goodIn_of _ (by decide +kernel)) ggX1_going_X1_goes
theorem dX1_going_0 : decode cX1_going 0 = .ok (.iconst 0, 1) := by decide +kernel
theorem dX1_going_1 : decode cX1_going 1 = .ok (.istore_n 1, 1) := by decide +kernel
theorem dX1_going_2 : decode cX1_going 2 = .ok (.iconst 0, 1) := by decide +kernel
theorem dX1_going_3 : decode cX1_going 3 = .ok (.istore_n 2, 1) := by decide +kernel
theorem dX1_going_4 : decode cX1_going 4 = .ok (.iload_n 2, 1) := by decide +kernel
theorem dX1_going_5 : decode cX1_going 5 = .ok (.bipush 8, 2) := by decide +kernel
theorem dX1_going_7 : decode cX1_going 7 = .ok (.if_icmp .ge 23, 3) := by decide +kernel
theorem dX1_going_10 : decode cX1_going 10 = .ok (.aload_n 0, 1) := by decide +kernel
theorem dX1_going_11 : decode cX1_going 11 = .ok (.iload_n 2, 1) := by decide +kernel
theorem dX1_going_12 : decode cX1_going 12 = .ok (.invokevirtual 79, 3) := by decide +kernel
theorem dX1_going_15 : decode cX1_going 15 = .ok (.ifCond .eq 9, 3) := by decide +kernel
theorem dX1_going_18 : decode cX1_going 18 = .ok (.iload_n 1, 1) := by decide +kernel
theorem dX1_going_19 : decode cX1_going 19 = .ok (.iconst 1, 1) := by decide +kernel
theorem dX1_going_20 : decode cX1_going 20 = .ok (.iload_n 2, 1) := by decide +kernel
theorem dX1_going_21 : decode cX1_going 21 = .ok (.ishl, 1) := by decide +kernel
theorem dX1_going_22 : decode cX1_going 22 = .ok (.ior, 1) := by decide +kernel
theorem dX1_going_23 : decode cX1_going 23 = .ok (.istore_n 1, 1) := by decide +kernel
theorem dX1_going_24 : decode cX1_going 24 = .ok (.iinc 2 1, 3) := by decide +kernel
theorem dX1_going_27 : decode cX1_going 27 = .ok (.goto (-23), 3) := by decide +kernel
theorem dX1_going_30 : decode cX1_going 30 = .ok (.iload_n 1, 1) := by decide +kernel
theorem dX1_going_31 : decode cX1_going 31 = .ok (.ireturn, 1) := by decide +kernel
set_option maxRecDepth 20000 in
theorem ggX1_branches_X1_till : GoodIn wsX1_branches wsX1_till := goodIn_r _ [5, 6, 7, 8, 9, 10, 11, 12, 13, 14, 15, 16] (by decide +kernel) (by decide +kernel)
set_option maxRecDepth 20000 in
theorem gX1_branches_X1_till : GoodIn wsX1_branches (wsV RX1 60 RX1 yX1_till wsX1_till) := goodIn_app (goodIn_of _ (by decide +kernel)) ggX1_branches_X1_till
theorem dX1_branches_0 : decode cX1_branches 0 = .ok (.iconst 0, 1) := by decide +kernel
theorem dX1_branches_1 : decode cX1_branches 1 = .ok (.istore_n 1, 1) := by decide +kernel
theorem dX1_branches_2 : decode cX1_branches 2 = .ok (.iconst 0, 1) := by decide +kernel
theorem dX1_branches_3 : decode cX1_branches 3 = .ok (.istore_n 2, 1) := by decide +kernel
theorem dX1_branches_4 : decode cX1_branches 4 = .ok (.iload_n 2, 1) := by decide +kernel
theorem dX1_branches_5 : decode cX1_branches 5 = .ok (.sipush 136, 3) := by decide +kernel
theorem dX1_branches_8 : decode cX1_branches 8 = .ok (.if_icmp .ge 34, 3) := by decide +kernel
theorem dX1_branches_11 : decode cX1_branches 11 = .ok (.iload_n 1, 1) := by decide +kernel
theorem dX1_branches_12 : decode cX1_branches 12 = .ok (.aload_n 0, 1) := by decide +kernel
theorem dX1_branches_13 : decode cX1_branches 13 = .ok (.iload_n 2, 1) := by decide +kernel
theorem dX1_branches_14 : decode cX1_branches 14 = .ok (.bipush 17, 2) := by decide +kernel
theorem dX1_branches_16 : decode cX1_branches 16 = .ok (.idiv, 1) := by decide +kernel
theorem dX1_branches_17 : decode cX1_branches 17 = .ok (.iload_n 2, 1) := by decide +kernel
theorem dX1_branches_18 : decode cX1_branches 18 = .ok (.bipush 17, 2) := by decide +kernel
theorem dX1_branches_20 : decode cX1_branches 20 = .ok (.irem, 1) := by decide +kernel
theorem dX1_branches_21 : decode cX1_branches 21 = .ok (.iconst 1, 1) := by decide +kernel
theorem dX1_branches_22 : decode cX1_branches 22 = .ok (.isub, 1) := by decide +kernel
theorem dX1_branches_23 : decode cX1_branches 23 = .ok (.invokevirtual 60, 3) := by decide +kernel
theorem dX1_branches_26 : decode cX1_branches 26 = .ok (.ifCond .le 7, 3) := by decide +kernel
theorem dX1_branches_29 : decode cX1_branches 29 = .ok (.iconst 1, 1) := by decide +kernel
theorem dX1_branches_30 : decode cX1_branches 30 = .ok (.goto 4, 3) := by decide +kernel
theorem dX1_branches_33 : decode cX1_branches 33 = .ok (.iconst 0, 1) := by decide +kernel
theorem dX1_branches_34 : decode cX1_branches 34 = .ok (.iadd, 1) := by decide +kernel
theorem dX1_branches_35 : decode cX1_branches 35 = .ok (.istore_n 1, 1) := by decide +kernel
theorem dX1_branches_36 : decode cX1_branches 36 = .ok (.iinc 2 1, 3) := by decide +kernel
theorem dX1_branches_39 : decode cX1_branches 39 = .ok (.goto (-35), 3) := by decide +kernel
theorem dX1_branches_42 : decode cX1_branches 42 = .ok (.iload_n 1, 1) := by decide +kernel
theorem dX1_branches_43 : decode cX1_branches 43 = .ok (.ireturn, 1) := by decide +kernel
