theorem dX0_init_0 : decode cX0_init 0 = .ok (.aload_n 0, 1) := by decide +kernel
theorem dX0_init_1 : decode cX0_init 1 = .ok (.invokespecial 3, 3) := by decide +kernel
theorem dX0_init_4 : decode cX0_init 4 = .ok (.aload_n 0, 1) := by decide +kernel
theorem dX0_init_5 : decode cX0_init 5 = .ok (.bipush 10, 2) := by decide +kernel
theorem dX0_init_7 : decode cX0_init 7 = .ok (.newarray .int, 2) := by decide +kernel
theorem dX0_init_9 : decode cX0_init 9 = .ok (.putfield 9, 3) := by decide +kernel
theorem dX0_init_12 : decode cX0_init 12 = .ok (.aload_n 0, 1) := by decide +kernel
theorem dX0_init_13 : decode cX0_init 13 = .ok (.bipush 8, 2) := by decide +kernel
theorem dX0_init_15 : decode cX0_init 15 = .ok (.newarray .int, 2) := by decide +kernel
theorem dX0_init_17 : decode cX0_init 17 = .ok (.putfield 13, 3) := by decide +kernel
theorem dX0_init_20 : decode cX0_init 20 = .ok (.aload_n 0, 1) := by decide +kernel
theorem dX0_init_21 : decode cX0_init 21 = .ok (.sipush 136, 3) := by decide +kernel
theorem dX0_init_24 : decode cX0_init 24 = .ok (.newarray .int, 2) := by decide +kernel
theorem dX0_init_26 : decode cX0_init 26 = .ok (.putfield 16, 3) := by decide +kernel
theorem dX0_init_29 : decode cX0_init 29 = .ok (.aload_n 0, 1) := by decide +kernel
theorem dX0_init_30 : decode cX0_init 30 = .ok (.bipush 8, 2) := by decide +kernel
theorem dX0_init_32 : decode cX0_init 32 = .ok (.newarray .int, 2) := by decide +kernel
theorem dX0_init_34 : decode cX0_init 34 = .ok (.putfield 19, 3) := by decide +kernel
theorem dX0_init_37 : decode cX0_init 37 = .ok (.aload_n 0, 1) := by decide +kernel
theorem dX0_init_38 : decode cX0_init 38 = .ok (.sipush 128, 3) := by decide +kernel
theorem dX0_init_41 : decode cX0_init 41 = .ok (.newarray .int, 2) := by decide +kernel
theorem dX0_init_43 : decode cX0_init 43 = .ok (.putfield 22, 3) := by decide +kernel
theorem dX0_init_46 : decode cX0_init 46 = .ok (.aload_n 0, 1) := by decide +kernel
theorem dX0_init_47 : decode cX0_init 47 = .ok (.iconst 0, 1) := by decide +kernel
theorem dX0_init_48 : decode cX0_init 48 = .ok (.bipush 9, 2) := by decide +kernel
theorem dX0_init_50 : decode cX0_init 50 = .ok (.iload_n 1, 1) := by decide +kernel
theorem dX0_init_51 : decode cX0_init 51 = .ok (.invokestatic 25, 3) := by decide +kernel
theorem dX0_init_54 : decode cX0_init 54 = .ok (.invokestatic 31, 3) := by decide +kernel
theorem dX0_init_57 : decode cX0_init 57 = .ok (.putfield 34, 3) := by decide +kernel
theorem dX0_init_60 : decode cX0_init 60 = .ok (.aload_n 0, 1) := by decide +kernel
theorem dX0_init_61 : decode cX0_init 61 = .ok (.iconst 0, 1) := by decide +kernel
theorem dX0_init_62 : decode cX0_init 62 = .ok (.putfield 38, 3) := by decide +kernel
theorem dX0_init_65 : decode cX0_init 65 = .ok (.return_, 1) := by decide +kernel
theorem dX0_tick_0 : decode cX0_tick 0 = .ok (.iload_n 1, 1) := by decide +kernel
theorem dX0_tick_1 : decode cX0_tick 1 = .ok (.iconst 1, 1) := by decide +kernel
theorem dX0_tick_2 : decode cX0_tick 2 = .ok (.if_icmp .lt 20, 3) := by decide +kernel
theorem dX0_tick_5 : decode cX0_tick 5 = .ok (.iload_n 1, 1) := by decide +kernel
theorem dX0_tick_6 : decode cX0_tick 6 = .ok (.bipush 100, 2) := by decide +kernel
theorem dX0_tick_8 : decode cX0_tick 8 = .ok (.if_icmp .gt 14, 3) := by decide +kernel
theorem dX0_tick_11 : decode cX0_tick 11 = .ok (.aload_n 0, 1) := by decide +kernel
theorem dX0_tick_12 : decode cX0_tick 12 = .ok (.getfield 38, 3) := by decide +kernel
theorem dX0_tick_15 : decode cX0_tick 15 = .ok (.iload_n 1, 1) := by decide +kernel
theorem dX0_tick_16 : decode cX0_tick 16 = .ok (.iadd, 1) := by decide +kernel
theorem dX0_tick_17 : decode cX0_tick 17 = .ok (.ldc 41, 2) := by decide +kernel
theorem dX0_tick_19 : decode cX0_tick 19 = .ok (.if_icmp .le 5, 3) := by decide +kernel
theorem dX0_tick_22 : decode cX0_tick 22 = .ok (.iconst (-1), 1) := by decide +kernel
theorem dX0_tick_23 : decode cX0_tick 23 = .ok (.ireturn, 1) := by decide +kernel
theorem dX0_tick_24 : decode cX0_tick 24 = .ok (.aload_n 0, 1) := by decide +kernel
theorem dX0_tick_25 : decode cX0_tick 25 = .ok (.dup, 1) := by decide +kernel
theorem dX0_tick_26 : decode cX0_tick 26 = .ok (.getfield 38, 3) := by decide +kernel
theorem dX0_tick_29 : decode cX0_tick 29 = .ok (.iload_n 1, 1) := by decide +kernel
theorem dX0_tick_30 : decode cX0_tick 30 = .ok (.iadd, 1) := by decide +kernel
theorem dX0_tick_31 : decode cX0_tick 31 = .ok (.putfield 38, 3) := by decide +kernel
theorem dX0_tick_34 : decode cX0_tick 34 = .ok (.aload_n 0, 1) := by decide +kernel
theorem dX0_tick_35 : decode cX0_tick 35 = .ok (.getfield 38, 3) := by decide +kernel
theorem dX0_tick_38 : decode cX0_tick 38 = .ok (.ireturn, 1) := by decide +kernel
theorem dX0_hello_0 : decode cX0_hello 0 = .ok (.iload_n 1, 1) := by decide +kernel
theorem dX0_hello_1 : decode cX0_hello 1 = .ok (.ifCond .lt 17, 3) := by decide +kernel
theorem dX0_hello_4 : decode cX0_hello 4 = .ok (.iload_n 1, 1) := by decide +kernel
theorem dX0_hello_5 : decode cX0_hello 5 = .ok (.bipush 10, 2) := by decide +kernel
theorem dX0_hello_7 : decode cX0_hello 7 = .ok (.if_icmp .ge 11, 3) := by decide +kernel
theorem dX0_hello_10 : decode cX0_hello 10 = .ok (.iload_n 1, 1) := by decide +kernel
theorem dX0_hello_11 : decode cX0_hello 11 = .ok (.aload_n 0, 1) := by decide +kernel
theorem dX0_hello_12 : decode cX0_hello 12 = .ok (.getfield 34, 3) := by decide +kernel
theorem dX0_hello_15 : decode cX0_hello 15 = .ok (.if_icmp .ne 5, 3) := by decide +kernel
theorem dX0_hello_18 : decode cX0_hello 18 = .ok (.iconst 0, 1) := by decide +kernel
theorem dX0_hello_19 : decode cX0_hello 19 = .ok (.ireturn, 1) := by decide +kernel
theorem dX0_hello_20 : decode cX0_hello 20 = .ok (.aload_n 0, 1) := by decide +kernel
theorem dX0_hello_21 : decode cX0_hello 21 = .ok (.getfield 9, 3) := by decide +kernel
theorem dX0_hello_24 : decode cX0_hello 24 = .ok (.iload_n 1, 1) := by decide +kernel
theorem dX0_hello_25 : decode cX0_hello 25 = .ok (.aload_n 0, 1) := by decide +kernel
theorem dX0_hello_26 : decode cX0_hello 26 = .ok (.getfield 38, 3) := by decide +kernel
theorem dX0_hello_29 : decode cX0_hello 29 = .ok (.bipush 65, 2) := by decide +kernel
theorem dX0_hello_31 : decode cX0_hello 31 = .ok (.iadd, 1) := by decide +kernel
theorem dX0_hello_32 : decode cX0_hello 32 = .ok (.iastore, 1) := by decide +kernel
theorem dX0_hello_33 : decode cX0_hello 33 = .ok (.iconst 1, 1) := by decide +kernel
theorem dX0_hello_34 : decode cX0_hello 34 = .ok (.ireturn, 1) := by decide +kernel
set_option maxRecDepth 20000 in
theorem ggX0_report_X0_isGroup : GoodIn wsX0_report wsX0_isGroup := goodIn_r _ [6] (by decide +kernel) (by decide +kernel)
set_option maxRecDepth 20000 in
theorem gX0_report_X0_isGroup : GoodIn wsX0_report (va_wsS RX0 42 yX0_isGroup wsX0_isGroup) := goodIn_app (goodIn_of _ (by decide +kernel)) ggX0_report_X0_isGroup
theorem dX0_report_0 : decode cX0_report 0 = .ok (.iload_n 1, 1) := by decide +kernel
theorem dX0_report_1 : decode cX0_report 1 = .ok (.invokestatic 42, 3) := by decide +kernel
theorem dX0_report_4 : decode cX0_report 4 = .ok (.ifCond .ne 5, 3) := by decide +kernel
theorem dX0_report_7 : decode cX0_report 7 = .ok (.iconst 0, 1) := by decide +kernel
theorem dX0_report_8 : decode cX0_report 8 = .ok (.ireturn, 1) := by decide +kernel
theorem dX0_report_9 : decode cX0_report 9 = .ok (.aload_n 0, 1) := by decide +kernel
theorem dX0_report_10 : decode cX0_report 10 = .ok (.getfield 13, 3) := by decide +kernel
theorem dX0_report_13 : decode cX0_report 13 = .ok (.iload_n 1, 1) := by decide +kernel
theorem dX0_report_14 : decode cX0_report 14 = .ok (.aload_n 0, 1) := by decide +kernel
theorem dX0_report_15 : decode cX0_report 15 = .ok (.getfield 38, 3) := by decide +kernel
theorem dX0_report_18 : decode cX0_report 18 = .ok (.bipush 60, 2) := by decide +kernel
theorem dX0_report_20 : decode cX0_report 20 = .ok (.iadd, 1) := by decide +kernel
theorem dX0_report_21 : decode cX0_report 21 = .ok (.iastore, 1) := by decide +kernel
theorem dX0_report_22 : decode cX0_report 22 = .ok (.iconst 1, 1) := by decide +kernel
theorem dX0_report_23 : decode cX0_report 23 = .ok (.ireturn, 1) := by decide +kernel
set_option maxRecDepth 20000 in
theorem ggX0_leave_X0_isGroup : GoodIn wsX0_leave wsX0_isGroup := goodIn_r _ [10] (by decide +kernel) (by decide +kernel)
set_option maxRecDepth 20000 in
theorem gX0_leave_X0_isGroup : GoodIn wsX0_leave (va_wsS RX0 42 yX0_isGroup wsX0_isGroup) := goodIn_app (goodIn_of _ (by decide +kernel)) ggX0_leave_X0_isGroup
set_option maxRecDepth 20000 in
theorem ggX0_leave_X0_stands : GoodIn wsX0_leave wsX0_stands := goodIn_r _ [14, 2, 25, 26, 27, 28, 29, 30, 31] (by decide +kernel) (by decide +kernel)
set_option maxRecDepth 20000 in
theorem gX0_leave_X0_stands : GoodIn wsX0_leave (wsV RX0 46 RX0 yX0_stands wsX0_stands) := goodIn_app (goodIn_of _ (by decide +kernel)) ggX0_leave_X0_stands
set_option maxRecDepth 20000 in
theorem ggX0_leave_X0_isAsking : GoodIn wsX0_leave wsX0_isAsking := goodIn_r _ [18, 19, 20, 21, 22, 9, 23, 24, 11, 12, 13, 14, 2, 25, 26, 27, 28, 29, 30, 31] (by decide +kernel) (by decide +kernel)
set_option maxRecDepth 20000 in
theorem gX0_leave_X0_isAsking : GoodIn wsX0_leave (wsV RX0 49 RX0 yX0_isAsking wsX0_isAsking) := goodIn_app (goodIn_of _ (by decide +kernel)) ggX0_leave_X0_isAsking
theorem dX0_leave_0 : decode cX0_leave 0 = .ok (.iload_n 1, 1) := by decide +kernel
theorem dX0_leave_1 : decode cX0_leave 1 = .ok (.invokestatic 42, 3) := by decide +kernel
theorem dX0_leave_4 : decode cX0_leave 4 = .ok (.ifCond .eq 23, 3) := by decide +kernel
theorem dX0_leave_7 : decode cX0_leave 7 = .ok (.aload_n 0, 1) := by decide +kernel
theorem dX0_leave_8 : decode cX0_leave 8 = .ok (.aload_n 0, 1) := by decide +kernel
theorem dX0_leave_9 : decode cX0_leave 9 = .ok (.getfield 13, 3) := by decide +kernel
theorem dX0_leave_12 : decode cX0_leave 12 = .ok (.iload_n 1, 1) := by decide +kernel
theorem dX0_leave_13 : decode cX0_leave 13 = .ok (.iaload, 1) := by decide +kernel
theorem dX0_leave_14 : decode cX0_leave 14 = .ok (.invokevirtual 46, 3) := by decide +kernel
theorem dX0_leave_17 : decode cX0_leave 17 = .ok (.ifCond .eq 10, 3) := by decide +kernel
theorem dX0_leave_20 : decode cX0_leave 20 = .ok (.aload_n 0, 1) := by decide +kernel
theorem dX0_leave_21 : decode cX0_leave 21 = .ok (.invokevirtual 49, 3) := by decide +kernel
theorem dX0_leave_24 : decode cX0_leave 24 = .ok (.ifCond .ne 5, 3) := by decide +kernel
theorem dX0_leave_27 : decode cX0_leave 27 = .ok (.iconst 0, 1) := by decide +kernel
theorem dX0_leave_28 : decode cX0_leave 28 = .ok (.ireturn, 1) := by decide +kernel
theorem dX0_leave_29 : decode cX0_leave 29 = .ok (.aload_n 0, 1) := by decide +kernel
theorem dX0_leave_30 : decode cX0_leave 30 = .ok (.getfield 13, 3) := by decide +kernel
theorem dX0_leave_33 : decode cX0_leave 33 = .ok (.iload_n 1, 1) := by decide +kernel
theorem dX0_leave_34 : decode cX0_leave 34 = .ok (.aload_n 0, 1) := by decide +kernel
theorem dX0_leave_35 : decode cX0_leave 35 = .ok (.getfield 13, 3) := by decide +kernel
theorem dX0_leave_38 : decode cX0_leave 38 = .ok (.iload_n 1, 1) := by decide +kernel
theorem dX0_leave_39 : decode cX0_leave 39 = .ok (.iaload, 1) := by decide +kernel
theorem dX0_leave_40 : decode cX0_leave 40 = .ok (.aload_n 0, 1) := by decide +kernel
theorem dX0_leave_41 : decode cX0_leave 41 = .ok (.getfield 38, 3) := by decide +kernel
theorem dX0_leave_44 : decode cX0_leave 44 = .ok (.iconst 4, 1) := by decide +kernel
theorem dX0_leave_45 : decode cX0_leave 45 = .ok (.iadd, 1) := by decide +kernel
theorem dX0_leave_46 : decode cX0_leave 46 = .ok (.invokestatic 25, 3) := by decide +kernel
theorem dX0_leave_49 : decode cX0_leave 49 = .ok (.iastore, 1) := by decide +kernel
theorem dX0_leave_50 : decode cX0_leave 50 = .ok (.iconst 1, 1) := by decide +kernel
theorem dX0_leave_51 : decode cX0_leave 51 = .ok (.ireturn, 1) := by decide +kernel
set_option maxRecDepth 20000 in
theorem ggX0_join_X0_isGroup : GoodIn wsX0_join wsX0_isGroup := goodIn_r _ [7] (by decide +kernel) (by decide +kernel)
set_option maxRecDepth 20000 in
theorem gX0_join_X0_isGroup : GoodIn wsX0_join (va_wsS RX0 42 yX0_isGroup wsX0_isGroup) := goodIn_app (goodIn_of _ (by decide +kernel)) ggX0_join_X0_isGroup
set_option maxRecDepth 20000 in
theorem ggX0_join_X0_isBranch : GoodIn wsX0_join wsX0_isBranch := goodIn_r _ [10, 11, 12, 6, 13] (by decide +kernel) (by decide +kernel)
set_option maxRecDepth 20000 in
theorem gX0_join_X0_isBranch : GoodIn wsX0_join (va_wsS RX0 53 yX0_isBranch wsX0_isBranch) := goodIn_app (goodIn_of _ (by decide +kernel)) ggX0_join_X0_isBranch
set_option maxRecDepth 20000 in
theorem ggX0_join_X0_tellCuts : GoodIn wsX0_join wsX0_tellCuts := goodIn_r _ [17, 18, 19, 20, 21, 22, 6, 23, 2, 24, 25, 26, 27, 28, 29, 30, 3, 31, 32, 33, 34, 35, 36, 37, 38, 39, 40, 41, 42, 43, 44, 45, 46, 47, 48, 49, 50, 51, 52, 53, 54, 55, 56, 57, 58, 59, 60, 61, 62, 63] (by decide +kernel) (by decide +kernel)
set_option maxRecDepth 20000 in
theorem gX0_join_X0_tellCuts : GoodIn wsX0_join (wsV RX0 57 RX0 yX0_tellCuts wsX0_tellCuts) := goodIn_app (goodIn_of _ (by decide +kernel)) ggX0_join_X0_tellCuts
set_option maxRecDepth 20000 in
theorem ggX0_join_X0_branchPlace : GoodIn wsX0_join wsX0_branchPlace := goodIn_r _ [26] (by decide +kernel) (by decide +kernel)
set_option maxRecDepth 20000 in
theorem gX0_join_X0_branchPlace : GoodIn wsX0_join (va_wsS RX0 61 yX0_branchPlace wsX0_branchPlace) := goodIn_app (goodIn_of _ (by decide +kernel)) ggX0_join_X0_branchPlace
theorem dX0_join_0 : decode cX0_join 0 = .ok (.iload_n 1, 1) := by decide +kernel
theorem dX0_join_1 : decode cX0_join 1 = .ok (.invokestatic 42, 3) := by decide +kernel
theorem dX0_join_4 : decode cX0_join 4 = .ok (.ifCond .eq 10, 3) := by decide +kernel
theorem dX0_join_7 : decode cX0_join 7 = .ok (.iload_n 2, 1) := by decide +kernel
theorem dX0_join_8 : decode cX0_join 8 = .ok (.invokestatic 53, 3) := by decide +kernel
theorem dX0_join_11 : decode cX0_join 11 = .ok (.ifCond .ne 5, 3) := by decide +kernel
theorem dX0_join_14 : decode cX0_join 14 = .ok (.iconst 0, 1) := by decide +kernel
theorem dX0_join_15 : decode cX0_join 15 = .ok (.ireturn, 1) := by decide +kernel
theorem dX0_join_16 : decode cX0_join 16 = .ok (.iload_n 2, 1) := by decide +kernel
theorem dX0_join_17 : decode cX0_join 17 = .ok (.iconst (-1), 1) := by decide +kernel
theorem dX0_join_18 : decode cX0_join 18 = .ok (.if_icmp .ne 12, 3) := by decide +kernel
theorem dX0_join_21 : decode cX0_join 21 = .ok (.aload_n 0, 1) := by decide +kernel
theorem dX0_join_22 : decode cX0_join 22 = .ok (.iload_n 1, 1) := by decide +kernel
theorem dX0_join_23 : decode cX0_join 23 = .ok (.iload_n 3, 1) := by decide +kernel
theorem dX0_join_24 : decode cX0_join 24 = .ok (.ldc 56, 2) := by decide +kernel
theorem dX0_join_26 : decode cX0_join 26 = .ok (.iand, 1) := by decide +kernel
theorem dX0_join_27 : decode cX0_join 27 = .ok (.invokevirtual 57, 3) := by decide +kernel
theorem dX0_join_30 : decode cX0_join 30 = .ok (.aload_n 0, 1) := by decide +kernel
theorem dX0_join_31 : decode cX0_join 31 = .ok (.getfield 16, 3) := by decide +kernel
theorem dX0_join_34 : decode cX0_join 34 = .ok (.iload_n 1, 1) := by decide +kernel
theorem dX0_join_35 : decode cX0_join 35 = .ok (.iload_n 2, 1) := by decide +kernel
theorem dX0_join_36 : decode cX0_join 36 = .ok (.invokestatic 61, 3) := by decide +kernel
theorem dX0_join_39 : decode cX0_join 39 = .ok (.aload_n 0, 1) := by decide +kernel
theorem dX0_join_40 : decode cX0_join 40 = .ok (.getfield 38, 3) := by decide +kernel
theorem dX0_join_43 : decode cX0_join 43 = .ok (.bipush 70, 2) := by decide +kernel
theorem dX0_join_45 : decode cX0_join 45 = .ok (.iadd, 1) := by decide +kernel
theorem dX0_join_46 : decode cX0_join 46 = .ok (.iastore, 1) := by decide +kernel
theorem dX0_join_47 : decode cX0_join 47 = .ok (.iconst 1, 1) := by decide +kernel
theorem dX0_join_48 : decode cX0_join 48 = .ok (.ireturn, 1) := by decide +kernel
set_option maxRecDepth 20000 in
theorem ggX0_prune_X0_isGroup : GoodIn wsX0_prune wsX0_isGroup := goodIn_r _ [9] (by decide +kernel) (by decide +kernel)
set_option maxRecDepth 20000 in
theorem gX0_prune_X0_isGroup : GoodIn wsX0_prune (va_wsS RX0 42 yX0_isGroup wsX0_isGroup) := goodIn_app (goodIn_of _ (by decide +kernel)) ggX0_prune_X0_isGroup
set_option maxRecDepth 20000 in
theorem ggX0_prune_X0_isBranch : GoodIn wsX0_prune wsX0_isBranch := goodIn_r _ [12, 13, 14, 8, 15] (by decide +kernel) (by decide +kernel)
set_option maxRecDepth 20000 in
theorem gX0_prune_X0_isBranch : GoodIn wsX0_prune (va_wsS RX0 53 yX0_isBranch wsX0_isBranch) := goodIn_app (goodIn_of _ (by decide +kernel)) ggX0_prune_X0_isBranch
set_option maxRecDepth 20000 in
theorem ggX0_prune_X0_branchPlace : GoodIn wsX0_prune wsX0_branchPlace := goodIn_r _ [18] (by decide +kernel) (by decide +kernel)
set_option maxRecDepth 20000 in
theorem gX0_prune_X0_branchPlace : GoodIn wsX0_prune (va_wsS RX0 61 yX0_branchPlace wsX0_branchPlace) := goodIn_app (goodIn_of _ (by decide +kernel)) ggX0_prune_X0_branchPlace
set_option maxRecDepth 20000 in
theorem ggX0_prune_X0_stands : GoodIn wsX0_prune wsX0_stands := goodIn_r _ [22, 23, 44, 45, 46, 47, 48, 49, 50] (by decide +kernel) (by decide +kernel)
set_option maxRecDepth 20000 in
theorem gX0_prune_X0_stands : GoodIn wsX0_prune (wsV RX0 46 RX0 yX0_stands wsX0_stands) := goodIn_app (goodIn_of _ (by decide +kernel)) ggX0_prune_X0_stands
set_option maxRecDepth 20000 in
theorem ggX0_prune_X0_timeOfEffect : GoodIn wsX0_prune wsX0_timeOfEffect := goodIn_r _ [27, 23, 28, 29, 30, 8, 31, 32, 33, 34, 35, 36, 19, 20, 21, 22, 37, 38, 39, 40, 41, 42, 43, 44, 45, 46, 47, 48, 49, 50] (by decide +kernel) (by decide +kernel)
set_option maxRecDepth 20000 in
theorem gX0_prune_X0_timeOfEffect : GoodIn wsX0_prune (wsV RX0 64 RX0 yX0_timeOfEffect wsX0_timeOfEffect) := goodIn_app (goodIn_of _ (by decide +kernel)) ggX0_prune_X0_timeOfEffect
theorem dX0_prune_0 : decode cX0_prune 0 = .ok (.iload_n 1, 1) := by decide +kernel
theorem dX0_prune_1 : decode cX0_prune 1 = .ok (.invokestatic 42, 3) := by decide +kernel
theorem dX0_prune_4 : decode cX0_prune 4 = .ok (.ifCond .eq 10, 3) := by decide +kernel
theorem dX0_prune_7 : decode cX0_prune 7 = .ok (.iload_n 2, 1) := by decide +kernel
theorem dX0_prune_8 : decode cX0_prune 8 = .ok (.invokestatic 53, 3) := by decide +kernel
theorem dX0_prune_11 : decode cX0_prune 11 = .ok (.ifCond .ne 5, 3) := by decide +kernel
theorem dX0_prune_14 : decode cX0_prune 14 = .ok (.iconst 0, 1) := by decide +kernel
theorem dX0_prune_15 : decode cX0_prune 15 = .ok (.ireturn, 1) := by decide +kernel
theorem dX0_prune_16 : decode cX0_prune 16 = .ok (.iload_n 1, 1) := by decide +kernel
theorem dX0_prune_17 : decode cX0_prune 17 = .ok (.iload_n 2, 1) := by decide +kernel
theorem dX0_prune_18 : decode cX0_prune 18 = .ok (.invokestatic 61, 3) := by decide +kernel
theorem dX0_prune_21 : decode cX0_prune 21 = .ok (.istore_n 3, 1) := by decide +kernel
theorem dX0_prune_22 : decode cX0_prune 22 = .ok (.aload_n 0, 1) := by decide +kernel
theorem dX0_prune_23 : decode cX0_prune 23 = .ok (.aload_n 0, 1) := by decide +kernel
theorem dX0_prune_24 : decode cX0_prune 24 = .ok (.getfield 16, 3) := by decide +kernel
theorem dX0_prune_27 : decode cX0_prune 27 = .ok (.iload_n 3, 1) := by decide +kernel
theorem dX0_prune_28 : decode cX0_prune 28 = .ok (.iaload, 1) := by decide +kernel
theorem dX0_prune_29 : decode cX0_prune 29 = .ok (.invokevirtual 46, 3) := by decide +kernel
theorem dX0_prune_32 : decode cX0_prune 32 = .ok (.ifCond .ne 5, 3) := by decide +kernel
theorem dX0_prune_35 : decode cX0_prune 35 = .ok (.iconst 0, 1) := by decide +kernel
theorem dX0_prune_36 : decode cX0_prune 36 = .ok (.ireturn, 1) := by decide +kernel
theorem dX0_prune_37 : decode cX0_prune 37 = .ok (.aload_n 0, 1) := by decide +kernel
theorem dX0_prune_38 : decode cX0_prune 38 = .ok (.getfield 16, 3) := by decide +kernel
theorem dX0_prune_41 : decode cX0_prune 41 = .ok (.iload_n 3, 1) := by decide +kernel
theorem dX0_prune_42 : decode cX0_prune 42 = .ok (.aload_n 0, 1) := by decide +kernel
theorem dX0_prune_43 : decode cX0_prune 43 = .ok (.getfield 16, 3) := by decide +kernel
theorem dX0_prune_46 : decode cX0_prune 46 = .ok (.iload_n 3, 1) := by decide +kernel
theorem dX0_prune_47 : decode cX0_prune 47 = .ok (.iaload, 1) := by decide +kernel
theorem dX0_prune_48 : decode cX0_prune 48 = .ok (.aload_n 0, 1) := by decide +kernel
theorem dX0_prune_49 : decode cX0_prune 49 = .ok (.invokevirtual 64, 3) := by decide +kernel
theorem dX0_prune_52 : decode cX0_prune 52 = .ok (.invokestatic 25, 3) := by decide +kernel
theorem dX0_prune_55 : decode cX0_prune 55 = .ok (.iastore, 1) := by decide +kernel
theorem dX0_prune_56 : decode cX0_prune 56 = .ok (.iconst 1, 1) := by decide +kernel
theorem dX0_prune_57 : decode cX0_prune 57 = .ok (.ireturn, 1) := by decide +kernel
set_option maxRecDepth 20000 in
theorem ggX0_forget_J7_fill_53178 : GoodIn wsX0_forget wsJ7_fill_53178 := goodIn_r _ [9] (by decide +kernel) (by decide +kernel)
set_option maxRecDepth 20000 in
theorem gX0_forget_J7_fill_53178 : GoodIn wsX0_forget (va_wsS RX0 68 yJ7_fill_53178 wsJ7_fill_53178) := goodIn_app (goodIn_of _ (by decide +kernel)) ggX0_forget_J7_fill_53178
theorem dX0_forget_0 : decode cX0_forget 0 = .ok (.aload_n 0, 1) := by decide +kernel
theorem dX0_forget_1 : decode cX0_forget 1 = .ok (.getfield 9, 3) := by decide +kernel
theorem dX0_forget_4 : decode cX0_forget 4 = .ok (.iconst 0, 1) := by decide +kernel
theorem dX0_forget_5 : decode cX0_forget 5 = .ok (.invokestatic 68, 3) := by decide +kernel
theorem dX0_forget_8 : decode cX0_forget 8 = .ok (.aload_n 0, 1) := by decide +kernel
theorem dX0_forget_9 : decode cX0_forget 9 = .ok (.getfield 13, 3) := by decide +kernel
theorem dX0_forget_12 : decode cX0_forget 12 = .ok (.iconst 0, 1) := by decide +kernel
theorem dX0_forget_13 : decode cX0_forget 13 = .ok (.invokestatic 68, 3) := by decide +kernel
theorem dX0_forget_16 : decode cX0_forget 16 = .ok (.aload_n 0, 1) := by decide +kernel
theorem dX0_forget_17 : decode cX0_forget 17 = .ok (.getfield 16, 3) := by decide +kernel
theorem dX0_forget_20 : decode cX0_forget 20 = .ok (.iconst 0, 1) := by decide +kernel
theorem dX0_forget_21 : decode cX0_forget 21 = .ok (.invokestatic 68, 3) := by decide +kernel
theorem dX0_forget_24 : decode cX0_forget 24 = .ok (.aload_n 0, 1) := by decide +kernel
theorem dX0_forget_25 : decode cX0_forget 25 = .ok (.getfield 19, 3) := by decide +kernel
theorem dX0_forget_28 : decode cX0_forget 28 = .ok (.iconst 0, 1) := by decide +kernel
theorem dX0_forget_29 : decode cX0_forget 29 = .ok (.invokestatic 68, 3) := by decide +kernel
theorem dX0_forget_32 : decode cX0_forget 32 = .ok (.aload_n 0, 1) := by decide +kernel
theorem dX0_forget_33 : decode cX0_forget 33 = .ok (.getfield 22, 3) := by decide +kernel
theorem dX0_forget_36 : decode cX0_forget 36 = .ok (.iconst 0, 1) := by decide +kernel
theorem dX0_forget_37 : decode cX0_forget 37 = .ok (.invokestatic 68, 3) := by decide +kernel
theorem dX0_forget_40 : decode cX0_forget 40 = .ok (.return_, 1) := by decide +kernel
set_option maxRecDepth 20000 in
theorem ggX0_joined_X0_isGroup : GoodIn wsX0_joined wsX0_isGroup := goodIn_r _ [5] (by decide +kernel) (by decide +kernel)
set_option maxRecDepth 20000 in
theorem gX0_joined_X0_isGroup : GoodIn wsX0_joined (va_wsS RX0 42 yX0_isGroup wsX0_isGroup) := goodIn_app (goodIn_of _ (by decide +kernel)) ggX0_joined_X0_isGroup
set_option maxRecDepth 20000 in
theorem ggX0_joined_X0_isBranch : GoodIn wsX0_joined wsX0_isBranch := goodIn_r _ [8, 9, 10, 4, 11] (by decide +kernel) (by decide +kernel)
set_option maxRecDepth 20000 in
theorem gX0_joined_X0_isBranch : GoodIn wsX0_joined (va_wsS RX0 53 yX0_isBranch wsX0_isBranch) := goodIn_app (goodIn_of _ (by decide +kernel)) ggX0_joined_X0_isBranch
set_option maxRecDepth 20000 in
theorem ggX0_joined_X0_branchPlace : GoodIn wsX0_joined wsX0_branchPlace := goodIn_r _ [14] (by decide +kernel) (by decide +kernel)
set_option maxRecDepth 20000 in
theorem gX0_joined_X0_branchPlace : GoodIn wsX0_joined (va_wsS RX0 61 yX0_branchPlace wsX0_branchPlace) := goodIn_app (goodIn_of _ (by decide +kernel)) ggX0_joined_X0_branchPlace
set_option maxRecDepth 20000 in
theorem ggX0_joined_X0_tillOrZero : GoodIn wsX0_joined wsX0_tillOrZero := goodIn_r _ [18, 19, 20, 21, 4, 22, 23, 24, 25, 26, 27, 28, 29, 30] (by decide +kernel) (by decide +kernel)
set_option maxRecDepth 20000 in
theorem gX0_joined_X0_tillOrZero : GoodIn wsX0_joined (wsV RX0 74 RX0 yX0_tillOrZero wsX0_tillOrZero) := goodIn_app (goodIn_of _ (by decide +kernel)) ggX0_joined_X0_tillOrZero
theorem dX0_joined_0 : decode cX0_joined 0 = .ok (.iload_n 1, 1) := by decide +kernel
theorem dX0_joined_1 : decode cX0_joined 1 = .ok (.invokestatic 42, 3) := by decide +kernel
theorem dX0_joined_4 : decode cX0_joined 4 = .ok (.ifCond .eq 10, 3) := by decide +kernel
theorem dX0_joined_7 : decode cX0_joined 7 = .ok (.iload_n 2, 1) := by decide +kernel
theorem dX0_joined_8 : decode cX0_joined 8 = .ok (.invokestatic 53, 3) := by decide +kernel
theorem dX0_joined_11 : decode cX0_joined 11 = .ok (.ifCond .ne 5, 3) := by decide +kernel
theorem dX0_joined_14 : decode cX0_joined 14 = .ok (.iconst (-1), 1) := by decide +kernel
theorem dX0_joined_15 : decode cX0_joined 15 = .ok (.ireturn, 1) := by decide +kernel
theorem dX0_joined_16 : decode cX0_joined 16 = .ok (.aload_n 0, 1) := by decide +kernel
theorem dX0_joined_17 : decode cX0_joined 17 = .ok (.aload_n 0, 1) := by decide +kernel
theorem dX0_joined_18 : decode cX0_joined 18 = .ok (.getfield 16, 3) := by decide +kernel
theorem dX0_joined_21 : decode cX0_joined 21 = .ok (.iload_n 1, 1) := by decide +kernel
theorem dX0_joined_22 : decode cX0_joined 22 = .ok (.iload_n 2, 1) := by decide +kernel
theorem dX0_joined_23 : decode cX0_joined 23 = .ok (.invokestatic 61, 3) := by decide +kernel
theorem dX0_joined_26 : decode cX0_joined 26 = .ok (.iaload, 1) := by decide +kernel
theorem dX0_joined_27 : decode cX0_joined 27 = .ok (.invokevirtual 74, 3) := by decide +kernel
theorem dX0_joined_30 : decode cX0_joined 30 = .ok (.ireturn, 1) := by decide +kernel
set_option maxRecDepth 20000 in
theorem ggX0_cut_X0_isGroup : GoodIn wsX0_cut wsX0_isGroup := goodIn_r _ [6] (by decide +kernel) (by decide +kernel)
set_option maxRecDepth 20000 in
theorem gX0_cut_X0_isGroup : GoodIn wsX0_cut (va_wsS RX0 42 yX0_isGroup wsX0_isGroup) := goodIn_app (goodIn_of _ (by decide +kernel)) ggX0_cut_X0_isGroup
set_option maxRecDepth 20000 in
theorem ggX0_cut_X0_isSource : GoodIn wsX0_cut wsX0_isSource := goodIn_r _ [9] (by decide +kernel) (by decide +kernel)
set_option maxRecDepth 20000 in
theorem gX0_cut_X0_isSource : GoodIn wsX0_cut (va_wsS RX0 78 yX0_isSource wsX0_isSource) := goodIn_app (goodIn_of _ (by decide +kernel)) ggX0_cut_X0_isSource
set_option maxRecDepth 20000 in
theorem ggX0_cut_X0_isJoinedForStar : GoodIn wsX0_cut wsX0_isJoinedForStar := goodIn_r _ [13, 14, 15, 16, 5, 17, 18, 19, 20, 21, 22, 29, 30, 31, 32, 33, 34, 35] (by decide +kernel) (by decide +kernel)
set_option maxRecDepth 20000 in
theorem gX0_cut_X0_isJoinedForStar : GoodIn wsX0_cut (wsV RX0 81 RX0 yX0_isJoinedForStar wsX0_isJoinedForStar) := goodIn_app (goodIn_of _ (by decide +kernel)) ggX0_cut_X0_isJoinedForStar
set_option maxRecDepth 20000 in
theorem ggX0_cut_X0_hasBit : GoodIn wsX0_cut wsX0_hasBit := goodIn_r _ [25] (by decide +kernel) (by decide +kernel)
set_option maxRecDepth 20000 in
theorem gX0_cut_X0_hasBit : GoodIn wsX0_cut (va_wsS RX0 84 yX0_hasBit wsX0_hasBit) := goodIn_app (goodIn_of _ (by decide +kernel)) ggX0_cut_X0_hasBit
set_option maxRecDepth 20000 in
theorem ggX0_cut_X0_cutPlace : GoodIn wsX0_cut wsX0_cutPlace := goodIn_r _ [28] (by decide +kernel) (by decide +kernel)
set_option maxRecDepth 20000 in
theorem gX0_cut_X0_cutPlace : GoodIn wsX0_cut (va_wsS RX0 88 yX0_cutPlace wsX0_cutPlace) := goodIn_app (goodIn_of _ (by decide +kernel)) ggX0_cut_X0_cutPlace
theorem dX0_cut_0 : decode cX0_cut 0 = .ok (.iload_n 1, 1) := by decide +kernel
theorem dX0_cut_1 : decode cX0_cut 1 = .ok (.invokestatic 42, 3) := by decide +kernel
theorem dX0_cut_4 : decode cX0_cut 4 = .ok (.ifCond .eq 10, 3) := by decide +kernel
theorem dX0_cut_7 : decode cX0_cut 7 = .ok (.iload_n 2, 1) := by decide +kernel
theorem dX0_cut_8 : decode cX0_cut 8 = .ok (.invokestatic 78, 3) := by decide +kernel
theorem dX0_cut_11 : decode cX0_cut 11 = .ok (.ifCond .ne 5, 3) := by decide +kernel
theorem dX0_cut_14 : decode cX0_cut 14 = .ok (.iconst (-1), 1) := by decide +kernel
theorem dX0_cut_15 : decode cX0_cut 15 = .ok (.ireturn, 1) := by decide +kernel
theorem dX0_cut_16 : decode cX0_cut 16 = .ok (.aload_n 0, 1) := by decide +kernel
theorem dX0_cut_17 : decode cX0_cut 17 = .ok (.iload_n 1, 1) := by decide +kernel
theorem dX0_cut_18 : decode cX0_cut 18 = .ok (.invokevirtual 81, 3) := by decide +kernel
theorem dX0_cut_21 : decode cX0_cut 21 = .ok (.ifCond .eq 16, 3) := by decide +kernel
theorem dX0_cut_24 : decode cX0_cut 24 = .ok (.aload_n 0, 1) := by decide +kernel
theorem dX0_cut_25 : decode cX0_cut 25 = .ok (.getfield 19, 3) := by decide +kernel
theorem dX0_cut_28 : decode cX0_cut 28 = .ok (.iload_n 1, 1) := by decide +kernel
theorem dX0_cut_29 : decode cX0_cut 29 = .ok (.iaload, 1) := by decide +kernel
theorem dX0_cut_30 : decode cX0_cut 30 = .ok (.iload_n 2, 1) := by decide +kernel
theorem dX0_cut_31 : decode cX0_cut 31 = .ok (.invokestatic 84, 3) := by decide +kernel
theorem dX0_cut_34 : decode cX0_cut 34 = .ok (.ifCond .ne 5, 3) := by decide +kernel
theorem dX0_cut_37 : decode cX0_cut 37 = .ok (.iconst 0, 1) := by decide +kernel
theorem dX0_cut_38 : decode cX0_cut 38 = .ok (.ireturn, 1) := by decide +kernel
theorem dX0_cut_39 : decode cX0_cut 39 = .ok (.aload_n 0, 1) := by decide +kernel
theorem dX0_cut_40 : decode cX0_cut 40 = .ok (.getfield 22, 3) := by decide +kernel
theorem dX0_cut_43 : decode cX0_cut 43 = .ok (.iload_n 1, 1) := by decide +kernel
theorem dX0_cut_44 : decode cX0_cut 44 = .ok (.iload_n 2, 1) := by decide +kernel
theorem dX0_cut_45 : decode cX0_cut 45 = .ok (.invokestatic 88, 3) := by decide +kernel
theorem dX0_cut_48 : decode cX0_cut 48 = .ok (.iaload, 1) := by decide +kernel
theorem dX0_cut_49 : decode cX0_cut 49 = .ok (.ireturn, 1) := by decide +kernel
set_option maxRecDepth 20000 in
theorem ggX0_members_X0_isGroup : GoodIn wsX0_members wsX0_isGroup := goodIn_r _ [5] (by decide +kernel) (by decide +kernel)
set_option maxRecDepth 20000 in
theorem gX0_members_X0_isGroup : GoodIn wsX0_members (va_wsS RX0 42 yX0_isGroup wsX0_isGroup) := goodIn_app (goodIn_of _ (by decide +kernel)) ggX0_members_X0_isGroup
set_option maxRecDepth 20000 in
theorem ggX0_members_X0_tillOrZero : GoodIn wsX0_members wsX0_tillOrZero := goodIn_r _ [9, 10, 11, 12, 4, 13, 14, 15, 16, 17, 18, 19, 20, 21] (by decide +kernel) (by decide +kernel)
set_option maxRecDepth 20000 in
theorem gX0_members_X0_tillOrZero : GoodIn wsX0_members (wsV RX0 74 RX0 yX0_tillOrZero wsX0_tillOrZero) := goodIn_app (goodIn_of _ (by decide +kernel)) ggX0_members_X0_tillOrZero
theorem dX0_members_0 : decode cX0_members 0 = .ok (.iload_n 1, 1) := by decide +kernel
theorem dX0_members_1 : decode cX0_members 1 = .ok (.invokestatic 42, 3) := by decide +kernel
theorem dX0_members_4 : decode cX0_members 4 = .ok (.ifCond .ne 5, 3) := by decide +kernel
theorem dX0_members_7 : decode cX0_members 7 = .ok (.iconst (-1), 1) := by decide +kernel
theorem dX0_members_8 : decode cX0_members 8 = .ok (.ireturn, 1) := by decide +kernel
theorem dX0_members_9 : decode cX0_members 9 = .ok (.aload_n 0, 1) := by decide +kernel
theorem dX0_members_10 : decode cX0_members 10 = .ok (.aload_n 0, 1) := by decide +kernel
theorem dX0_members_11 : decode cX0_members 11 = .ok (.getfield 13, 3) := by decide +kernel
theorem dX0_members_14 : decode cX0_members 14 = .ok (.iload_n 1, 1) := by decide +kernel
theorem dX0_members_15 : decode cX0_members 15 = .ok (.iaload, 1) := by decide +kernel
theorem dX0_members_16 : decode cX0_members 16 = .ok (.invokevirtual 74, 3) := by decide +kernel
theorem dX0_members_19 : decode cX0_members 19 = .ok (.ireturn, 1) := by decide +kernel
set_option maxRecDepth 20000 in
theorem ggX0_goes_X0_isGroup : GoodIn wsX0_goes wsX0_isGroup := goodIn_r _ [4] (by decide +kernel) (by decide +kernel)
set_option maxRecDepth 20000 in
theorem gX0_goes_X0_isGroup : GoodIn wsX0_goes (va_wsS RX0 42 yX0_isGroup wsX0_isGroup) := goodIn_app (goodIn_of _ (by decide +kernel)) ggX0_goes_X0_isGroup
set_option maxRecDepth 20000 in
theorem ggX0_goes_X0_sourcesThatGo : GoodIn wsX0_goes wsX0_sourcesThatGo := goodIn_r _ [8, 9, 10, 11, 12, 13, 14, 3, 15, 16, 17, 18, 19, 20, 21, 22, 23, 24, 25, 26, 27, 28, 29, 30, 31, 32, 33, 34, 35, 36, 37, 38, 39, 40, 41, 42, 43, 44, 45, 46, 47, 48, 49, 50, 51, 52] (by decide +kernel) (by decide +kernel)
set_option maxRecDepth 20000 in
theorem gX0_goes_X0_sourcesThatGo : GoodIn wsX0_goes (wsV RX0 91 RX0 yX0_sourcesThatGo wsX0_sourcesThatGo) := goodIn_app (goodIn_of _ (by decide +kernel)) ggX0_goes_X0_sourcesThatGo
theorem dX0_goes_0 : decode cX0_goes 0 = .ok (.iload_n 1, 1) := by decide +kernel
theorem dX0_goes_1 : decode cX0_goes 1 = .ok (.invokestatic 42, 3) := by decide +kernel
theorem dX0_goes_4 : decode cX0_goes 4 = .ok (.ifCond .ne 5, 3) := by decide +kernel
theorem dX0_goes_7 : decode cX0_goes 7 = .ok (.iconst (-1), 1) := by decide +kernel
theorem dX0_goes_8 : decode cX0_goes 8 = .ok (.ireturn, 1) := by decide +kernel
theorem dX0_goes_9 : decode cX0_goes 9 = .ok (.aload_n 0, 1) := by decide +kernel
theorem dX0_goes_10 : decode cX0_goes 10 = .ok (.iload_n 1, 1) := by decide +kernel
theorem dX0_goes_11 : decode cX0_goes 11 = .ok (.invokevirtual 91, 3) := by decide +kernel
theorem dX0_goes_14 : decode cX0_goes 14 = .ok (.ireturn, 1) := by decide +kernel
set_option maxRecDepth 20000 in
theorem ggX0_look_X0_neighbourBits : GoodIn wsX0_look wsX0_neighbourBits := goodIn_r _ [7, 8, 9, 10, 11, 6, 12, 1, 69, 70, 71, 72, 73, 74, 75] (by decide +kernel) (by decide +kernel)
set_option maxRecDepth 20000 in
theorem gX0_look_X0_neighbourBits : GoodIn wsX0_look (wsV RX0 94 RX0 yX0_neighbourBits wsX0_neighbourBits) := goodIn_app (goodIn_of _ (by decide +kernel)) ggX0_look_X0_neighbourBits
set_option maxRecDepth 20000 in
theorem ggX0_look_X0_isFirst : GoodIn wsX0_look wsX0_isFirst := goodIn_r _ [16, 2, 3, 4, 5, 6, 7, 8, 9, 10, 11, 12, 1, 69, 70, 71, 72, 73, 74, 75] (by decide +kernel) (by decide +kernel)
set_option maxRecDepth 20000 in
theorem gX0_look_X0_isFirst : GoodIn wsX0_look (wsV RX0 97 RX0 yX0_isFirst wsX0_isFirst) := goodIn_app (goodIn_of _ (by decide +kernel)) ggX0_look_X0_isFirst
set_option maxRecDepth 20000 in
theorem ggX0_look_X0_oneIf : GoodIn wsX0_look wsX0_oneIf := goodIn_r _ [19] (by decide +kernel) (by decide +kernel)
set_option maxRecDepth 20000 in
theorem gX0_look_X0_oneIf : GoodIn wsX0_look (va_wsS RX0 100 yX0_oneIf wsX0_oneIf) := goodIn_app (goodIn_of _ (by decide +kernel)) ggX0_look_X0_oneIf
set_option maxRecDepth 20000 in
theorem ggX0_look_X0_isAsking : GoodIn wsX0_look wsX0_isAsking := goodIn_r _ [23, 2, 3, 4, 5, 6, 7, 8, 9, 10, 11, 12, 1, 69, 70, 71, 72, 73, 74, 75] (by decide +kernel) (by decide +kernel)
set_option maxRecDepth 20000 in
theorem gX0_look_X0_isAsking : GoodIn wsX0_look (wsV RX0 49 RX0 yX0_isAsking wsX0_isAsking) := goodIn_app (goodIn_of _ (by decide +kernel)) ggX0_look_X0_isAsking
set_option maxRecDepth 20000 in
theorem ggX0_look_X0_isCrowded : GoodIn wsX0_look wsX0_isCrowded := goodIn_r _ [27, 3, 4, 5, 6, 7, 8, 9, 10, 11, 12, 1, 28, 29, 30, 31, 32, 33, 34, 69, 70, 71, 72, 73, 74, 75] (by decide +kernel) (by decide +kernel)
set_option maxRecDepth 20000 in
theorem gX0_look_X0_isCrowded : GoodIn wsX0_look (wsV RX0 104 RX0 yX0_isCrowded wsX0_isCrowded) := goodIn_app (goodIn_of _ (by decide +kernel)) ggX0_look_X0_isCrowded
set_option maxRecDepth 20000 in
theorem ggX0_look_X0_groupsThatGo : GoodIn wsX0_look wsX0_groupsThatGo := goodIn_r _ [38, 39, 40, 41, 6, 42, 43, 44, 45, 9, 10, 11, 12, 1, 13, 14, 15, 16, 2, 3, 4, 5, 7, 8, 46, 47, 48, 49, 50, 51, 52, 53, 54, 55, 56, 57, 58, 59, 60, 61, 62, 63, 64, 69, 70, 71, 72, 73, 74, 75] (by decide +kernel) (by decide +kernel)
set_option maxRecDepth 20000 in
theorem gX0_look_X0_groupsThatGo : GoodIn wsX0_look (wsV RX0 107 RX0 yX0_groupsThatGo wsX0_groupsThatGo) := goodIn_app (goodIn_of _ (by decide +kernel)) ggX0_look_X0_groupsThatGo
set_option maxRecDepth 20000 in
theorem ggX0_look_X0_countJoined : GoodIn wsX0_look wsX0_countJoined := goodIn_r _ [68, 45, 9, 10, 11, 6, 12, 1, 69, 70, 71, 72, 73, 74, 75] (by decide +kernel) (by decide +kernel)
set_option maxRecDepth 20000 in
theorem gX0_look_X0_countJoined : GoodIn wsX0_look (wsV RX0 110 RX0 yX0_countJoined wsX0_countJoined) := goodIn_app (goodIn_of _ (by decide +kernel)) ggX0_look_X0_countJoined
theorem dX0_look_0 : decode cX0_look 0 = .ok (.iload_n 1, 1) := by decide +kernel
theorem dX0_look_1 : decode cX0_look 1 = .ok (.tableswitch 96 0 7 #[47, 52, 57, 65, 73, 81, 86, 91], 47) := by decide +kernel
theorem dX0_look_48 : decode cX0_look 48 = .ok (.aload_n 0, 1) := by decide +kernel
theorem dX0_look_49 : decode cX0_look 49 = .ok (.getfield 38, 3) := by decide +kernel
theorem dX0_look_52 : decode cX0_look 52 = .ok (.ireturn, 1) := by decide +kernel
theorem dX0_look_53 : decode cX0_look 53 = .ok (.aload_n 0, 1) := by decide +kernel
theorem dX0_look_54 : decode cX0_look 54 = .ok (.invokevirtual 94, 3) := by decide +kernel
theorem dX0_look_57 : decode cX0_look 57 = .ok (.ireturn, 1) := by decide +kernel
theorem dX0_look_58 : decode cX0_look 58 = .ok (.aload_n 0, 1) := by decide +kernel
theorem dX0_look_59 : decode cX0_look 59 = .ok (.invokevirtual 97, 3) := by decide +kernel
theorem dX0_look_62 : decode cX0_look 62 = .ok (.invokestatic 100, 3) := by decide +kernel
theorem dX0_look_65 : decode cX0_look 65 = .ok (.ireturn, 1) := by decide +kernel
theorem dX0_look_66 : decode cX0_look 66 = .ok (.aload_n 0, 1) := by decide +kernel
theorem dX0_look_67 : decode cX0_look 67 = .ok (.invokevirtual 49, 3) := by decide +kernel
theorem dX0_look_70 : decode cX0_look 70 = .ok (.invokestatic 100, 3) := by decide +kernel
theorem dX0_look_73 : decode cX0_look 73 = .ok (.ireturn, 1) := by decide +kernel
theorem dX0_look_74 : decode cX0_look 74 = .ok (.aload_n 0, 1) := by decide +kernel
theorem dX0_look_75 : decode cX0_look 75 = .ok (.invokevirtual 104, 3) := by decide +kernel
theorem dX0_look_78 : decode cX0_look 78 = .ok (.invokestatic 100, 3) := by decide +kernel
theorem dX0_look_81 : decode cX0_look 81 = .ok (.ireturn, 1) := by decide +kernel
theorem dX0_look_82 : decode cX0_look 82 = .ok (.aload_n 0, 1) := by decide +kernel
theorem dX0_look_83 : decode cX0_look 83 = .ok (.getfield 34, 3) := by decide +kernel
theorem dX0_look_86 : decode cX0_look 86 = .ok (.ireturn, 1) := by decide +kernel
theorem dX0_look_87 : decode cX0_look 87 = .ok (.aload_n 0, 1) := by decide +kernel
theorem dX0_look_88 : decode cX0_look 88 = .ok (.invokevirtual 107, 3) := by decide +kernel
theorem dX0_look_91 : decode cX0_look 91 = .ok (.ireturn, 1) := by decide +kernel
theorem dX0_look_92 : decode cX0_look 92 = .ok (.aload_n 0, 1) := by decide +kernel
theorem dX0_look_93 : decode cX0_look 93 = .ok (.invokevirtual 110, 3) := by decide +kernel
theorem dX0_look_96 : decode cX0_look 96 = .ok (.ireturn, 1) := by decide +kernel
theorem dX0_look_97 : decode cX0_look 97 = .ok (.iconst (-1), 1) := by decide +kernel
theorem dX0_look_98 : decode cX0_look 98 = .ok (.ireturn, 1) := by decide +kernel
theorem dX0_isGroup_0 : decode cX0_isGroup 0 = .ok (.iload_n 0, 1) := by decide +kernel
theorem dX0_isGroup_1 : decode cX0_isGroup 1 = .ok (.ifCond .lt 13, 3) := by decide +kernel
theorem dX0_isGroup_4 : decode cX0_isGroup 4 = .ok (.iload_n 0, 1) := by decide +kernel
theorem dX0_isGroup_5 : decode cX0_isGroup 5 = .ok (.bipush 8, 2) := by decide +kernel
theorem dX0_isGroup_7 : decode cX0_isGroup 7 = .ok (.if_icmp .ge 7, 3) := by decide +kernel
theorem dX0_isGroup_10 : decode cX0_isGroup 10 = .ok (.iconst 1, 1) := by decide +kernel
theorem dX0_isGroup_11 : decode cX0_isGroup 11 = .ok (.goto 4, 3) := by decide +kernel
theorem dX0_isGroup_14 : decode cX0_isGroup 14 = .ok (.iconst 0, 1) := by decide +kernel
theorem dX0_isGroup_15 : decode cX0_isGroup 15 = .ok (.ireturn, 1) := by decide +kernel
theorem dX0_isSource_0 : decode cX0_isSource 0 = .ok (.iload_n 0, 1) := by decide +kernel
theorem dX0_isSource_1 : decode cX0_isSource 1 = .ok (.ifCond .lt 13, 3) := by decide +kernel
theorem dX0_isSource_4 : decode cX0_isSource 4 = .ok (.iload_n 0, 1) := by decide +kernel
theorem dX0_isSource_5 : decode cX0_isSource 5 = .ok (.bipush 16, 2) := by decide +kernel
theorem dX0_isSource_7 : decode cX0_isSource 7 = .ok (.if_icmp .ge 7, 3) := by decide +kernel
theorem dX0_isSource_10 : decode cX0_isSource 10 = .ok (.iconst 1, 1) := by decide +kernel
theorem dX0_isSource_11 : decode cX0_isSource 11 = .ok (.goto 4, 3) := by decide +kernel
theorem dX0_isSource_14 : decode cX0_isSource 14 = .ok (.iconst 0, 1) := by decide +kernel
theorem dX0_isSource_15 : decode cX0_isSource 15 = .ok (.ireturn, 1) := by decide +kernel
set_option maxRecDepth 20000 in
theorem ggX0_isBranch_X0_isSource : GoodIn wsX0_isBranch wsX0_isSource := goodIn_r _ [4] (by decide +kernel) (by decide +kernel)
set_option maxRecDepth 20000 in
theorem gX0_isBranch_X0_isSource : GoodIn wsX0_isBranch (va_wsS RX0 78 yX0_isSource wsX0_isSource) := goodIn_app (goodIn_of _ (by decide +kernel)) ggX0_isBranch_X0_isSource
theorem dX0_isBranch_0 : decode cX0_isBranch 0 = .ok (.iload_n 0, 1) := by decide +kernel
theorem dX0_isBranch_1 : decode cX0_isBranch 1 = .ok (.iconst (-1), 1) := by decide +kernel
theorem dX0_isBranch_2 : decode cX0_isBranch 2 = .ok (.if_icmp .eq 10, 3) := by decide +kernel
theorem dX0_isBranch_5 : decode cX0_isBranch 5 = .ok (.iload_n 0, 1) := by decide +kernel
theorem dX0_isBranch_6 : decode cX0_isBranch 6 = .ok (.invokestatic 78, 3) := by decide +kernel
theorem dX0_isBranch_9 : decode cX0_isBranch 9 = .ok (.ifCond .eq 7, 3) := by decide +kernel
theorem dX0_isBranch_12 : decode cX0_isBranch 12 = .ok (.iconst 1, 1) := by decide +kernel
theorem dX0_isBranch_13 : decode cX0_isBranch 13 = .ok (.goto 4, 3) := by decide +kernel
theorem dX0_isBranch_16 : decode cX0_isBranch 16 = .ok (.iconst 0, 1) := by decide +kernel
theorem dX0_isBranch_17 : decode cX0_isBranch 17 = .ok (.ireturn, 1) := by decide +kernel
theorem dX0_branchPlace_0 : decode cX0_branchPlace 0 = .ok (.iload_n 0, 1) := by decide +kernel
theorem dX0_branchPlace_1 : decode cX0_branchPlace 1 = .ok (.bipush 17, 2) := by decide +kernel
theorem dX0_branchPlace_3 : decode cX0_branchPlace 3 = .ok (.imul, 1) := by decide +kernel
theorem dX0_branchPlace_4 : decode cX0_branchPlace 4 = .ok (.iload_n 1, 1) := by decide +kernel
theorem dX0_branchPlace_5 : decode cX0_branchPlace 5 = .ok (.iconst (-1), 1) := by decide +kernel
theorem dX0_branchPlace_6 : decode cX0_branchPlace 6 = .ok (.if_icmp .ne 8, 3) := by decide +kernel
theorem dX0_branchPlace_9 : decode cX0_branchPlace 9 = .ok (.bipush 16, 2) := by decide +kernel
theorem dX0_branchPlace_11 : decode cX0_branchPlace 11 = .ok (.goto 4, 3) := by decide +kernel
theorem dX0_branchPlace_14 : decode cX0_branchPlace 14 = .ok (.iload_n 1, 1) := by decide +kernel
theorem dX0_branchPlace_15 : decode cX0_branchPlace 15 = .ok (.iadd, 1) := by decide +kernel
theorem dX0_branchPlace_16 : decode cX0_branchPlace 16 = .ok (.ireturn, 1) := by decide +kernel
theorem dX0_cutPlace_0 : decode cX0_cutPlace 0 = .ok (.iload_n 0, 1) := by decide +kernel
theorem dX0_cutPlace_1 : decode cX0_cutPlace 1 = .ok (.bipush 16, 2) := by decide +kernel
theorem dX0_cutPlace_3 : decode cX0_cutPlace 3 = .ok (.imul, 1) := by decide +kernel
theorem dX0_cutPlace_4 : decode cX0_cutPlace 4 = .ok (.iload_n 1, 1) := by decide +kernel
theorem dX0_cutPlace_5 : decode cX0_cutPlace 5 = .ok (.iadd, 1) := by decide +kernel
theorem dX0_cutPlace_6 : decode cX0_cutPlace 6 = .ok (.ireturn, 1) := by decide +kernel
theorem dX0_hasBit_0 : decode cX0_hasBit 0 = .ok (.iload_n 0, 1) := by decide +kernel
theorem dX0_hasBit_1 : decode cX0_hasBit 1 = .ok (.iload_n 1, 1) := by decide +kernel
theorem dX0_hasBit_2 : decode cX0_hasBit 2 = .ok (.ishr, 1) := by decide +kernel
theorem dX0_hasBit_3 : decode cX0_hasBit 3 = .ok (.iconst 1, 1) := by decide +kernel
theorem dX0_hasBit_4 : decode cX0_hasBit 4 = .ok (.iand, 1) := by decide +kernel
theorem dX0_hasBit_5 : decode cX0_hasBit 5 = .ok (.ifCond .eq 7, 3) := by decide +kernel
theorem dX0_hasBit_8 : decode cX0_hasBit 8 = .ok (.iconst 1, 1) := by decide +kernel
theorem dX0_hasBit_9 : decode cX0_hasBit 9 = .ok (.goto 4, 3) := by decide +kernel
theorem dX0_hasBit_12 : decode cX0_hasBit 12 = .ok (.iconst 0, 1) := by decide +kernel
theorem dX0_hasBit_13 : decode cX0_hasBit 13 = .ok (.ireturn, 1) := by decide +kernel
theorem dX0_oneIf_0 : decode cX0_oneIf 0 = .ok (.iload_n 0, 1) := by decide +kernel
theorem dX0_oneIf_1 : decode cX0_oneIf 1 = .ok (.ifCond .eq 7, 3) := by decide +kernel
theorem dX0_oneIf_4 : decode cX0_oneIf 4 = .ok (.iconst 1, 1) := by decide +kernel
theorem dX0_oneIf_5 : decode cX0_oneIf 5 = .ok (.goto 4, 3) := by decide +kernel
theorem dX0_oneIf_8 : decode cX0_oneIf 8 = .ok (.iconst 0, 1) := by decide +kernel
theorem dX0_oneIf_9 : decode cX0_oneIf 9 = .ok (.ireturn, 1) := by decide +kernel
theorem dX0_stands_0 : decode cX0_stands 0 = .ok (.aload_n 0, 1) := by decide +kernel
theorem dX0_stands_1 : decode cX0_stands 1 = .ok (.getfield 38, 3) := by decide +kernel
theorem dX0_stands_4 : decode cX0_stands 4 = .ok (.iload_n 1, 1) := by decide +kernel
theorem dX0_stands_5 : decode cX0_stands 5 = .ok (.if_icmp .ge 7, 3) := by decide +kernel
theorem dX0_stands_8 : decode cX0_stands 8 = .ok (.iconst 1, 1) := by decide +kernel
theorem dX0_stands_9 : decode cX0_stands 9 = .ok (.goto 4, 3) := by decide +kernel
theorem dX0_stands_12 : decode cX0_stands 12 = .ok (.iconst 0, 1) := by decide +kernel
theorem dX0_stands_13 : decode cX0_stands 13 = .ok (.ireturn, 1) := by decide +kernel
set_option maxRecDepth 20000 in
theorem ggX0_tillOrZero_X0_stands : GoodIn wsX0_tillOrZero wsX0_stands := goodIn_r _ [5, 6, 7, 8, 9, 10, 11, 12, 13] (by decide +kernel) (by decide +kernel)
set_option maxRecDepth 20000 in
theorem gX0_tillOrZero_X0_stands : GoodIn wsX0_tillOrZero (wsV RX0 46 RX0 yX0_stands wsX0_stands) := goodIn_app (goodIn_of _ (by decide +kernel)) ggX0_tillOrZero_X0_stands
theorem dX0_tillOrZero_0 : decode cX0_tillOrZero 0 = .ok (.aload_n 0, 1) := by decide +kernel
theorem dX0_tillOrZero_1 : decode cX0_tillOrZero 1 = .ok (.iload_n 1, 1) := by decide +kernel
theorem dX0_tillOrZero_2 : decode cX0_tillOrZero 2 = .ok (.invokevirtual 46, 3) := by decide +kernel
theorem dX0_tillOrZero_5 : decode cX0_tillOrZero 5 = .ok (.ifCond .eq 7, 3) := by decide +kernel
theorem dX0_tillOrZero_8 : decode cX0_tillOrZero 8 = .ok (.iload_n 1, 1) := by decide +kernel
theorem dX0_tillOrZero_9 : decode cX0_tillOrZero 9 = .ok (.goto 4, 3) := by decide +kernel
theorem dX0_tillOrZero_12 : decode cX0_tillOrZero 12 = .ok (.iconst 0, 1) := by decide +kernel
theorem dX0_tillOrZero_13 : decode cX0_tillOrZero 13 = .ok (.ireturn, 1) := by decide +kernel
set_option maxRecDepth 20000 in
theorem ggX0_neighbourBits_X0_stands : GoodIn wsX0_neighbourBits wsX0_stands := goodIn_r _ [6, 7, 8, 9, 10, 11, 12, 13, 14] (by decide +kernel) (by decide +kernel)
set_option maxRecDepth 20000 in
theorem gX0_neighbourBits_X0_stands : GoodIn wsX0_neighbourBits (wsV RX0 46 RX0 yX0_stands wsX0_stands) := goodIn_app (goodIn_of _ (by decide +kernel)) ggX0_neighbourBits_X0_stands
theorem dX0_neighbourBits_0 : decode cX0_neighbourBits 0 = .ok (.iconst 0, 1) := by decide +kernel
theorem dX0_neighbourBits_1 : decode cX0_neighbourBits 1 = .ok (.istore_n 1, 1) := by decide +kernel
theorem dX0_neighbourBits_2 : decode cX0_neighbourBits 2 = .ok (.iconst 0, 1) := by decide +kernel
theorem dX0_neighbourBits_3 : decode cX0_neighbourBits 3 = .ok (.istore_n 2, 1) := by decide +kernel
theorem dX0_neighbourBits_4 : decode cX0_neighbourBits 4 = .ok (.iload_n 2, 1) := by decide +kernel
theorem dX0_neighbourBits_5 : decode cX0_neighbourBits 5 = .ok (.bipush 10, 2) := by decide +kernel
theorem dX0_neighbourBits_7 : decode cX0_neighbourBits 7 = .ok (.if_icmp .ge 28, 3) := by decide +kernel
theorem dX0_neighbourBits_10 : decode cX0_neighbourBits 10 = .ok (.aload_n 0, 1) := by decide +kernel
theorem dX0_neighbourBits_11 : decode cX0_neighbourBits 11 = .ok (.aload_n 0, 1) := by decide +kernel
theorem dX0_neighbourBits_12 : decode cX0_neighbourBits 12 = .ok (.getfield 9, 3) := by decide +kernel
theorem dX0_neighbourBits_15 : decode cX0_neighbourBits 15 = .ok (.iload_n 2, 1) := by decide +kernel
theorem dX0_neighbourBits_16 : decode cX0_neighbourBits 16 = .ok (.iaload, 1) := by decide +kernel
theorem dX0_neighbourBits_17 : decode cX0_neighbourBits 17 = .ok (.invokevirtual 46, 3) := by decide +kernel
theorem dX0_neighbourBits_20 : decode cX0_neighbourBits 20 = .ok (.ifCond .eq 9, 3) := by decide +kernel
theorem dX0_neighbourBits_23 : decode cX0_neighbourBits 23 = .ok (.iload_n 1, 1) := by decide +kernel
theorem dX0_neighbourBits_24 : decode cX0_neighbourBits 24 = .ok (.iconst 1, 1) := by decide +kernel
theorem dX0_neighbourBits_25 : decode cX0_neighbourBits 25 = .ok (.iload_n 2, 1) := by decide +kernel
theorem dX0_neighbourBits_26 : decode cX0_neighbourBits 26 = .ok (.ishl, 1) := by decide +kernel
theorem dX0_neighbourBits_27 : decode cX0_neighbourBits 27 = .ok (.ior, 1) := by decide +kernel
theorem dX0_neighbourBits_28 : decode cX0_neighbourBits 28 = .ok (.istore_n 1, 1) := by decide +kernel
theorem dX0_neighbourBits_29 : decode cX0_neighbourBits 29 = .ok (.iinc 2 1, 3) := by decide +kernel
theorem dX0_neighbourBits_32 : decode cX0_neighbourBits 32 = .ok (.goto (-28), 3) := by decide +kernel
theorem dX0_neighbourBits_35 : decode cX0_neighbourBits 35 = .ok (.iload_n 1, 1) := by decide +kernel
theorem dX0_neighbourBits_36 : decode cX0_neighbourBits 36 = .ok (.ireturn, 1) := by decide +kernel
set_option maxRecDepth 20000 in
theorem ggX0_isFirst_X0_neighbourBits : GoodIn wsX0_isFirst wsX0_neighbourBits := goodIn_r _ [6, 7, 8, 9, 10, 5, 11, 12, 13, 14, 15, 16, 17, 18, 19] (by decide +kernel) (by decide +kernel)
set_option maxRecDepth 20000 in
theorem gX0_isFirst_X0_neighbourBits : GoodIn wsX0_isFirst (wsV RX0 94 RX0 yX0_neighbourBits wsX0_neighbourBits) := goodIn_app (goodIn_of _ (by decide +kernel)) ggX0_isFirst_X0_neighbourBits
theorem dX0_isFirst_0 : decode cX0_isFirst 0 = .ok (.aload_n 0, 1) := by decide +kernel
theorem dX0_isFirst_1 : decode cX0_isFirst 1 = .ok (.invokevirtual 94, 3) := by decide +kernel
theorem dX0_isFirst_4 : decode cX0_isFirst 4 = .ok (.aload_n 0, 1) := by decide +kernel
theorem dX0_isFirst_5 : decode cX0_isFirst 5 = .ok (.getfield 34, 3) := by decide +kernel
theorem dX0_isFirst_8 : decode cX0_isFirst 8 = .ok (.iconst 1, 1) := by decide +kernel
theorem dX0_isFirst_9 : decode cX0_isFirst 9 = .ok (.iadd, 1) := by decide +kernel
theorem dX0_isFirst_10 : decode cX0_isFirst 10 = .ok (.ishr, 1) := by decide +kernel
theorem dX0_isFirst_11 : decode cX0_isFirst 11 = .ok (.ifCond .ne 7, 3) := by decide +kernel
theorem dX0_isFirst_14 : decode cX0_isFirst 14 = .ok (.iconst 1, 1) := by decide +kernel
theorem dX0_isFirst_15 : decode cX0_isFirst 15 = .ok (.goto 4, 3) := by decide +kernel
theorem dX0_isFirst_18 : decode cX0_isFirst 18 = .ok (.iconst 0, 1) := by decide +kernel
theorem dX0_isFirst_19 : decode cX0_isFirst 19 = .ok (.ireturn, 1) := by decide +kernel
set_option maxRecDepth 20000 in
theorem ggX0_isAsking_X0_neighbourBits : GoodIn wsX0_isAsking wsX0_neighbourBits := goodIn_r _ [6, 7, 8, 9, 10, 5, 11, 12, 13, 14, 15, 16, 17, 18, 19] (by decide +kernel) (by decide +kernel)
set_option maxRecDepth 20000 in
theorem gX0_isAsking_X0_neighbourBits : GoodIn wsX0_isAsking (wsV RX0 94 RX0 yX0_neighbourBits wsX0_neighbourBits) := goodIn_app (goodIn_of _ (by decide +kernel)) ggX0_isAsking_X0_neighbourBits
theorem dX0_isAsking_0 : decode cX0_isAsking 0 = .ok (.iconst 1, 1) := by decide +kernel
theorem dX0_isAsking_1 : decode cX0_isAsking 1 = .ok (.aload_n 0, 1) := by decide +kernel
theorem dX0_isAsking_2 : decode cX0_isAsking 2 = .ok (.getfield 34, 3) := by decide +kernel
theorem dX0_isAsking_5 : decode cX0_isAsking 5 = .ok (.ishl, 1) := by decide +kernel
theorem dX0_isAsking_6 : decode cX0_isAsking 6 = .ok (.iconst 1, 1) := by decide +kernel
theorem dX0_isAsking_7 : decode cX0_isAsking 7 = .ok (.isub, 1) := by decide +kernel
theorem dX0_isAsking_8 : decode cX0_isAsking 8 = .ok (.istore_n 1, 1) := by decide +kernel
theorem dX0_isAsking_9 : decode cX0_isAsking 9 = .ok (.aload_n 0, 1) := by decide +kernel
theorem dX0_isAsking_10 : decode cX0_isAsking 10 = .ok (.invokevirtual 94, 3) := by decide +kernel
theorem dX0_isAsking_13 : decode cX0_isAsking 13 = .ok (.iload_n 1, 1) := by decide +kernel
theorem dX0_isAsking_14 : decode cX0_isAsking 14 = .ok (.iand, 1) := by decide +kernel
theorem dX0_isAsking_15 : decode cX0_isAsking 15 = .ok (.ifCond .ne 7, 3) := by decide +kernel
theorem dX0_isAsking_18 : decode cX0_isAsking 18 = .ok (.iconst 1, 1) := by decide +kernel
theorem dX0_isAsking_19 : decode cX0_isAsking 19 = .ok (.goto 4, 3) := by decide +kernel
theorem dX0_isAsking_22 : decode cX0_isAsking 22 = .ok (.iconst 0, 1) := by decide +kernel
theorem dX0_isAsking_23 : decode cX0_isAsking 23 = .ok (.ireturn, 1) := by decide +kernel
set_option maxRecDepth 20000 in
theorem ggX0_isCrowded_X0_neighbourBits : GoodIn wsX0_isCrowded wsX0_neighbourBits := goodIn_r _ [5, 6, 7, 8, 9, 4, 10, 11, 19, 20, 21, 22, 23, 24, 25] (by decide +kernel) (by decide +kernel)
set_option maxRecDepth 20000 in
theorem gX0_isCrowded_X0_neighbourBits : GoodIn wsX0_isCrowded (wsV RX0 94 RX0 yX0_neighbourBits wsX0_neighbourBits) := goodIn_app (goodIn_of _ (by decide +kernel)) ggX0_isCrowded_X0_neighbourBits
set_option maxRecDepth 20000 in
theorem ggX0_isCrowded_J6_bitCount_0f7a4 : GoodIn wsX0_isCrowded wsJ6_bitCount_0f7a4 := goodIn_r _ [15, 16, 17, 18] (by decide +kernel) (by decide +kernel)
set_option maxRecDepth 20000 in
theorem gX0_isCrowded_J6_bitCount_0f7a4 : GoodIn wsX0_isCrowded (va_wsS RX0 113 yJ6_bitCount_0f7a4 wsJ6_bitCount_0f7a4) := goodIn_app (goodIn_of _ (by decide +kernel)) ggX0_isCrowded_J6_bitCount_0f7a4
theorem dX0_isCrowded_0 : decode cX0_isCrowded 0 = .ok (.aload_n 0, 1) := by decide +kernel
theorem dX0_isCrowded_1 : decode cX0_isCrowded 1 = .ok (.invokevirtual 94, 3) := by decide +kernel
theorem dX0_isCrowded_4 : decode cX0_isCrowded 4 = .ok (.invokestatic 113, 3) := by decide +kernel
theorem dX0_isCrowded_7 : decode cX0_isCrowded 7 = .ok (.iconst 2, 1) := by decide +kernel
theorem dX0_isCrowded_8 : decode cX0_isCrowded 8 = .ok (.if_icmp .lt 7, 3) := by decide +kernel
theorem dX0_isCrowded_11 : decode cX0_isCrowded 11 = .ok (.iconst 1, 1) := by decide +kernel
theorem dX0_isCrowded_12 : decode cX0_isCrowded 12 = .ok (.goto 4, 3) := by decide +kernel
theorem dX0_isCrowded_15 : decode cX0_isCrowded 15 = .ok (.iconst 0, 1) := by decide +kernel
theorem dX0_isCrowded_16 : decode cX0_isCrowded 16 = .ok (.ireturn, 1) := by decide +kernel
set_option maxRecDepth 20000 in
theorem ggX0_timeOfEffect_X0_isCrowded : GoodIn wsX0_timeOfEffect wsX0_isCrowded := goodIn_r _ [6, 7, 8, 9, 5, 10, 11, 12, 13, 14, 15, 1, 16, 17, 18, 19, 20, 21, 22, 23, 24, 25, 26, 27, 28, 29] (by decide +kernel) (by decide +kernel)
set_option maxRecDepth 20000 in
theorem gX0_timeOfEffect_X0_isCrowded : GoodIn wsX0_timeOfEffect (wsV RX0 104 RX0 yX0_isCrowded wsX0_isCrowded) := goodIn_app (goodIn_of _ (by decide +kernel)) ggX0_timeOfEffect_X0_isCrowded
theorem dX0_timeOfEffect_0 : decode cX0_timeOfEffect 0 = .ok (.aload_n 0, 1) := by decide +kernel
theorem dX0_timeOfEffect_1 : decode cX0_timeOfEffect 1 = .ok (.invokevirtual 104, 3) := by decide +kernel
theorem dX0_timeOfEffect_4 : decode cX0_timeOfEffect 4 = .ok (.ifCond .eq 12, 3) := by decide +kernel
theorem dX0_timeOfEffect_7 : decode cX0_timeOfEffect 7 = .ok (.aload_n 0, 1) := by decide +kernel
theorem dX0_timeOfEffect_8 : decode cX0_timeOfEffect 8 = .ok (.getfield 38, 3) := by decide +kernel
theorem dX0_timeOfEffect_11 : decode cX0_timeOfEffect 11 = .ok (.iconst 3, 1) := by decide +kernel
theorem dX0_timeOfEffect_12 : decode cX0_timeOfEffect 12 = .ok (.iadd, 1) := by decide +kernel
theorem dX0_timeOfEffect_13 : decode cX0_timeOfEffect 13 = .ok (.goto 7, 3) := by decide +kernel
theorem dX0_timeOfEffect_16 : decode cX0_timeOfEffect 16 = .ok (.aload_n 0, 1) := by decide +kernel
theorem dX0_timeOfEffect_17 : decode cX0_timeOfEffect 17 = .ok (.getfield 38, 3) := by decide +kernel
theorem dX0_timeOfEffect_20 : decode cX0_timeOfEffect 20 = .ok (.ireturn, 1) := by decide +kernel
set_option maxRecDepth 20000 in
theorem ggX0_isJoinedForStar_X0_branchPlace : GoodIn wsX0_isJoinedForStar wsX0_branchPlace := goodIn_r _ [5] (by decide +kernel) (by decide +kernel)
set_option maxRecDepth 20000 in
theorem gX0_isJoinedForStar_X0_branchPlace : GoodIn wsX0_isJoinedForStar (va_wsS RX0 61 yX0_branchPlace wsX0_branchPlace) := goodIn_app (goodIn_of _ (by decide +kernel)) ggX0_isJoinedForStar_X0_branchPlace
set_option maxRecDepth 20000 in
theorem ggX0_isJoinedForStar_X0_stands : GoodIn wsX0_isJoinedForStar wsX0_stands := goodIn_r _ [9, 10, 11, 12, 13, 14, 15, 16, 17] (by decide +kernel) (by decide +kernel)
set_option maxRecDepth 20000 in
theorem gX0_isJoinedForStar_X0_stands : GoodIn wsX0_isJoinedForStar (wsV RX0 46 RX0 yX0_stands wsX0_stands) := goodIn_app (goodIn_of _ (by decide +kernel)) ggX0_isJoinedForStar_X0_stands
theorem dX0_isJoinedForStar_0 : decode cX0_isJoinedForStar 0 = .ok (.aload_n 0, 1) := by decide +kernel
theorem dX0_isJoinedForStar_1 : decode cX0_isJoinedForStar 1 = .ok (.aload_n 0, 1) := by decide +kernel
theorem dX0_isJoinedForStar_2 : decode cX0_isJoinedForStar 2 = .ok (.getfield 16, 3) := by decide +kernel
theorem dX0_isJoinedForStar_5 : decode cX0_isJoinedForStar 5 = .ok (.iload_n 1, 1) := by decide +kernel
theorem dX0_isJoinedForStar_6 : decode cX0_isJoinedForStar 6 = .ok (.iconst (-1), 1) := by decide +kernel
theorem dX0_isJoinedForStar_7 : decode cX0_isJoinedForStar 7 = .ok (.invokestatic 61, 3) := by decide +kernel
theorem dX0_isJoinedForStar_10 : decode cX0_isJoinedForStar 10 = .ok (.iaload, 1) := by decide +kernel
theorem dX0_isJoinedForStar_11 : decode cX0_isJoinedForStar 11 = .ok (.invokevirtual 46, 3) := by decide +kernel
theorem dX0_isJoinedForStar_14 : decode cX0_isJoinedForStar 14 = .ok (.ireturn, 1) := by decide +kernel
set_option maxRecDepth 20000 in
theorem ggX0_tellCuts_X0_isJoinedForStar : GoodIn wsX0_tellCuts wsX0_isJoinedForStar := goodIn_r _ [7, 8, 9, 10, 6, 11, 12, 13, 14, 15, 16, 43, 44, 45, 46, 47, 48, 49] (by decide +kernel) (by decide +kernel)
set_option maxRecDepth 20000 in
theorem gX0_tellCuts_X0_isJoinedForStar : GoodIn wsX0_tellCuts (wsV RX0 81 RX0 yX0_isJoinedForStar wsX0_isJoinedForStar) := goodIn_app (goodIn_of _ (by decide +kernel)) ggX0_tellCuts_X0_isJoinedForStar
set_option maxRecDepth 20000 in
theorem ggX0_tellCuts_X0_timeOfEffect : GoodIn wsX0_tellCuts wsX0_timeOfEffect := goodIn_r _ [20, 16, 21, 22, 23, 6, 24, 25, 26, 27, 28, 29, 12, 13, 14, 15, 30, 31, 32, 33, 34, 35, 36, 43, 44, 45, 46, 47, 48, 49] (by decide +kernel) (by decide +kernel)
set_option maxRecDepth 20000 in
theorem gX0_tellCuts_X0_timeOfEffect : GoodIn wsX0_tellCuts (wsV RX0 64 RX0 yX0_timeOfEffect wsX0_timeOfEffect) := goodIn_app (goodIn_of _ (by decide +kernel)) ggX0_tellCuts_X0_timeOfEffect
set_option maxRecDepth 20000 in
theorem ggX0_tellCuts_X0_hasBit : GoodIn wsX0_tellCuts wsX0_hasBit := goodIn_r _ [39] (by decide +kernel) (by decide +kernel)
set_option maxRecDepth 20000 in
theorem gX0_tellCuts_X0_hasBit : GoodIn wsX0_tellCuts (va_wsS RX0 84 yX0_hasBit wsX0_hasBit) := goodIn_app (goodIn_of _ (by decide +kernel)) ggX0_tellCuts_X0_hasBit
set_option maxRecDepth 20000 in
theorem ggX0_tellCuts_X0_cutPlace : GoodIn wsX0_tellCuts wsX0_cutPlace := goodIn_r _ [42] (by decide +kernel) (by decide +kernel)
set_option maxRecDepth 20000 in
theorem gX0_tellCuts_X0_cutPlace : GoodIn wsX0_tellCuts (va_wsS RX0 88 yX0_cutPlace wsX0_cutPlace) := goodIn_app (goodIn_of _ (by decide +kernel)) ggX0_tellCuts_X0_cutPlace
theorem dX0_tellCuts_0 : decode cX0_tellCuts 0 = .ok (.aload_n 0, 1) := by decide +kernel
theorem dX0_tellCuts_1 : decode cX0_tellCuts 1 = .ok (.iload_n 1, 1) := by decide +kernel
theorem dX0_tellCuts_2 : decode cX0_tellCuts 2 = .ok (.invokevirtual 81, 3) := by decide +kernel
theorem dX0_tellCuts_5 : decode cX0_tellCuts 5 = .ok (.ifCond .eq 12, 3) := by decide +kernel
theorem dX0_tellCuts_8 : decode cX0_tellCuts 8 = .ok (.aload_n 0, 1) := by decide +kernel
theorem dX0_tellCuts_9 : decode cX0_tellCuts 9 = .ok (.getfield 19, 3) := by decide +kernel
theorem dX0_tellCuts_12 : decode cX0_tellCuts 12 = .ok (.iload_n 1, 1) := by decide +kernel
theorem dX0_tellCuts_13 : decode cX0_tellCuts 13 = .ok (.iaload, 1) := by decide +kernel
theorem dX0_tellCuts_14 : decode cX0_tellCuts 14 = .ok (.goto 4, 3) := by decide +kernel
theorem dX0_tellCuts_17 : decode cX0_tellCuts 17 = .ok (.iconst 0, 1) := by decide +kernel
theorem dX0_tellCuts_18 : decode cX0_tellCuts 18 = .ok (.istore_n 3, 1) := by decide +kernel
theorem dX0_tellCuts_19 : decode cX0_tellCuts 19 = .ok (.iload_n 2, 1) := by decide +kernel
theorem dX0_tellCuts_20 : decode cX0_tellCuts 20 = .ok (.iload_n 3, 1) := by decide +kernel
theorem dX0_tellCuts_21 : decode cX0_tellCuts 21 = .ok (.iconst (-1), 1) := by decide +kernel
theorem dX0_tellCuts_22 : decode cX0_tellCuts 22 = .ok (.ixor, 1) := by decide +kernel
theorem dX0_tellCuts_23 : decode cX0_tellCuts 23 = .ok (.iand, 1) := by decide +kernel
theorem dX0_tellCuts_24 : decode cX0_tellCuts 24 = .ok (.istore 4, 2) := by decide +kernel
theorem dX0_tellCuts_26 : decode cX0_tellCuts 26 = .ok (.aload_n 0, 1) := by decide +kernel
theorem dX0_tellCuts_27 : decode cX0_tellCuts 27 = .ok (.invokevirtual 64, 3) := by decide +kernel
theorem dX0_tellCuts_30 : decode cX0_tellCuts 30 = .ok (.istore 5, 2) := by decide +kernel
theorem dX0_tellCuts_32 : decode cX0_tellCuts 32 = .ok (.iconst 0, 1) := by decide +kernel
theorem dX0_tellCuts_33 : decode cX0_tellCuts 33 = .ok (.istore 6, 2) := by decide +kernel
theorem dX0_tellCuts_35 : decode cX0_tellCuts 35 = .ok (.iload 6, 2) := by decide +kernel
theorem dX0_tellCuts_37 : decode cX0_tellCuts 37 = .ok (.bipush 16, 2) := by decide +kernel
theorem dX0_tellCuts_39 : decode cX0_tellCuts 39 = .ok (.if_icmp .ge 32, 3) := by decide +kernel
theorem dX0_tellCuts_42 : decode cX0_tellCuts 42 = .ok (.iload 4, 2) := by decide +kernel
theorem dX0_tellCuts_44 : decode cX0_tellCuts 44 = .ok (.iload 6, 2) := by decide +kernel
theorem dX0_tellCuts_46 : decode cX0_tellCuts 46 = .ok (.invokestatic 84, 3) := by decide +kernel
theorem dX0_tellCuts_49 : decode cX0_tellCuts 49 = .ok (.ifCond .eq 16, 3) := by decide +kernel
theorem dX0_tellCuts_52 : decode cX0_tellCuts 52 = .ok (.aload_n 0, 1) := by decide +kernel
theorem dX0_tellCuts_53 : decode cX0_tellCuts 53 = .ok (.getfield 22, 3) := by decide +kernel
theorem dX0_tellCuts_56 : decode cX0_tellCuts 56 = .ok (.iload_n 1, 1) := by decide +kernel
theorem dX0_tellCuts_57 : decode cX0_tellCuts 57 = .ok (.iload 6, 2) := by decide +kernel
theorem dX0_tellCuts_59 : decode cX0_tellCuts 59 = .ok (.invokestatic 88, 3) := by decide +kernel
theorem dX0_tellCuts_62 : decode cX0_tellCuts 62 = .ok (.iload 5, 2) := by decide +kernel
theorem dX0_tellCuts_64 : decode cX0_tellCuts 64 = .ok (.iastore, 1) := by decide +kernel
theorem dX0_tellCuts_65 : decode cX0_tellCuts 65 = .ok (.iinc 6 1, 3) := by decide +kernel
theorem dX0_tellCuts_68 : decode cX0_tellCuts 68 = .ok (.goto (-33), 3) := by decide +kernel
theorem dX0_tellCuts_71 : decode cX0_tellCuts 71 = .ok (.aload_n 0, 1) := by decide +kernel
theorem dX0_tellCuts_72 : decode cX0_tellCuts 72 = .ok (.getfield 19, 3) := by decide +kernel
theorem dX0_tellCuts_75 : decode cX0_tellCuts 75 = .ok (.iload_n 1, 1) := by decide +kernel
theorem dX0_tellCuts_76 : decode cX0_tellCuts 76 = .ok (.iload_n 2, 1) := by decide +kernel
theorem dX0_tellCuts_77 : decode cX0_tellCuts 77 = .ok (.iastore, 1) := by decide +kernel
theorem dX0_tellCuts_78 : decode cX0_tellCuts 78 = .ok (.return_, 1) := by decide +kernel
set_option maxRecDepth 20000 in
theorem ggX0_isCutOff_X0_hasBit : GoodIn wsX0_isCutOff wsX0_hasBit := goodIn_r _ [7] (by decide +kernel) (by decide +kernel)
set_option maxRecDepth 20000 in
theorem gX0_isCutOff_X0_hasBit : GoodIn wsX0_isCutOff (va_wsS RX0 84 yX0_hasBit wsX0_hasBit) := goodIn_app (goodIn_of _ (by decide +kernel)) ggX0_isCutOff_X0_hasBit
set_option maxRecDepth 20000 in
theorem ggX0_isCutOff_X0_cutPlace : GoodIn wsX0_isCutOff wsX0_cutPlace := goodIn_r _ [10] (by decide +kernel) (by decide +kernel)
set_option maxRecDepth 20000 in
theorem gX0_isCutOff_X0_cutPlace : GoodIn wsX0_isCutOff (va_wsS RX0 88 yX0_cutPlace wsX0_cutPlace) := goodIn_app (goodIn_of _ (by decide +kernel)) ggX0_isCutOff_X0_cutPlace
theorem dX0_isCutOff_0 : decode cX0_isCutOff 0 = .ok (.aload_n 0, 1) := by decide +kernel
theorem dX0_isCutOff_1 : decode cX0_isCutOff 1 = .ok (.getfield 19, 3) := by decide +kernel
theorem dX0_isCutOff_4 : decode cX0_isCutOff 4 = .ok (.iload_n 1, 1) := by decide +kernel
theorem dX0_isCutOff_5 : decode cX0_isCutOff 5 = .ok (.iaload, 1) := by decide +kernel
theorem dX0_isCutOff_6 : decode cX0_isCutOff 6 = .ok (.iload_n 2, 1) := by decide +kernel
theorem dX0_isCutOff_7 : decode cX0_isCutOff 7 = .ok (.invokestatic 84, 3) := by decide +kernel
theorem dX0_isCutOff_10 : decode cX0_isCutOff 10 = .ok (.ifCond .eq 24, 3) := by decide +kernel
theorem dX0_isCutOff_13 : decode cX0_isCutOff 13 = .ok (.aload_n 0, 1) := by decide +kernel
theorem dX0_isCutOff_14 : decode cX0_isCutOff 14 = .ok (.getfield 38, 3) := by decide +kernel
theorem dX0_isCutOff_17 : decode cX0_isCutOff 17 = .ok (.aload_n 0, 1) := by decide +kernel
theorem dX0_isCutOff_18 : decode cX0_isCutOff 18 = .ok (.getfield 22, 3) := by decide +kernel
theorem dX0_isCutOff_21 : decode cX0_isCutOff 21 = .ok (.iload_n 1, 1) := by decide +kernel
theorem dX0_isCutOff_22 : decode cX0_isCutOff 22 = .ok (.iload_n 2, 1) := by decide +kernel
theorem dX0_isCutOff_23 : decode cX0_isCutOff 23 = .ok (.invokestatic 88, 3) := by decide +kernel
theorem dX0_isCutOff_26 : decode cX0_isCutOff 26 = .ok (.iaload, 1) := by decide +kernel
theorem dX0_isCutOff_27 : decode cX0_isCutOff 27 = .ok (.if_icmp .lt 7, 3) := by decide +kernel
theorem dX0_isCutOff_30 : decode cX0_isCutOff 30 = .ok (.iconst 1, 1) := by decide +kernel
theorem dX0_isCutOff_31 : decode cX0_isCutOff 31 = .ok (.goto 4, 3) := by decide +kernel
theorem dX0_isCutOff_34 : decode cX0_isCutOff 34 = .ok (.iconst 0, 1) := by decide +kernel
theorem dX0_isCutOff_35 : decode cX0_isCutOff 35 = .ok (.ireturn, 1) := by decide +kernel
set_option maxRecDepth 20000 in
theorem ggX0_sourcesThatGo_X0_stands : GoodIn wsX0_sourcesThatGo wsX0_stands := goodIn_r _ [8, 9, 39, 40, 41, 42, 43, 44, 45] (by decide +kernel) (by decide +kernel)
set_option maxRecDepth 20000 in
theorem gX0_sourcesThatGo_X0_stands : GoodIn wsX0_sourcesThatGo (wsV RX0 46 RX0 yX0_stands wsX0_stands) := goodIn_app (goodIn_of _ (by decide +kernel)) ggX0_sourcesThatGo_X0_stands
set_option maxRecDepth 20000 in
theorem ggX0_sourcesThatGo_X0_isFirst : GoodIn wsX0_sourcesThatGo wsX0_isFirst := goodIn_r _ [13, 14, 15, 16, 17, 7, 18, 19, 4, 5, 6, 8, 9, 39, 40, 41, 42, 43, 44, 45] (by decide +kernel) (by decide +kernel)
set_option maxRecDepth 20000 in
theorem gX0_sourcesThatGo_X0_isFirst : GoodIn wsX0_sourcesThatGo (wsV RX0 97 RX0 yX0_isFirst wsX0_isFirst) := goodIn_app (goodIn_of _ (by decide +kernel)) ggX0_sourcesThatGo_X0_isFirst
set_option maxRecDepth 20000 in
theorem ggX0_sourcesThatGo_X0_isJoinedForStar : GoodIn wsX0_sourcesThatGo wsX0_isJoinedForStar := goodIn_r _ [23, 3, 24, 25, 7, 26, 4, 5, 6, 8, 9, 39, 40, 41, 42, 43, 44, 45] (by decide +kernel) (by decide +kernel)
set_option maxRecDepth 20000 in
theorem gX0_sourcesThatGo_X0_isJoinedForStar : GoodIn wsX0_sourcesThatGo (wsV RX0 81 RX0 yX0_isJoinedForStar wsX0_isJoinedForStar) := goodIn_app (goodIn_of _ (by decide +kernel)) ggX0_sourcesThatGo_X0_isJoinedForStar
set_option maxRecDepth 20000 in
theorem ggX0_sourcesThatGo_X0_isCutOff : GoodIn wsX0_sourcesThatGo wsX0_isCutOff := goodIn_r _ [30, 31, 9, 32, 33, 34, 7, 35, 36, 37, 38, 39, 40, 41, 42, 43, 44, 45] (by decide +kernel) (by decide +kernel)
set_option maxRecDepth 20000 in
theorem gX0_sourcesThatGo_X0_isCutOff : GoodIn wsX0_sourcesThatGo (wsV RX0 118 RX0 yX0_isCutOff wsX0_isCutOff) := goodIn_app (goodIn_of _ (by decide +kernel)) ggX0_sourcesThatGo_X0_isCutOff
set_option maxRecDepth 20000 in
theorem ggX0_sourcesThatGo_X0_branchPlace : GoodIn wsX0_sourcesThatGo wsX0_branchPlace := goodIn_r _ [26] (by decide +kernel) (by decide +kernel)
set_option maxRecDepth 20000 in
theorem gX0_sourcesThatGo_X0_branchPlace : GoodIn wsX0_sourcesThatGo (va_wsS RX0 61 yX0_branchPlace wsX0_branchPlace) := goodIn_app (goodIn_of _ (by decide +kernel)) ggX0_sourcesThatGo_X0_branchPlace
theorem dX0_sourcesThatGo_0 : decode cX0_sourcesThatGo 0 = .ok (.aload_n 0, 1) := by decide +kernel
theorem dX0_sourcesThatGo_1 : decode cX0_sourcesThatGo 1 = .ok (.aload_n 0, 1) := by decide +kernel
theorem dX0_sourcesThatGo_2 : decode cX0_sourcesThatGo 2 = .ok (.getfield 13, 3) := by decide +kernel
theorem dX0_sourcesThatGo_5 : decode cX0_sourcesThatGo 5 = .ok (.iload_n 1, 1) := by decide +kernel
theorem dX0_sourcesThatGo_6 : decode cX0_sourcesThatGo 6 = .ok (.iaload, 1) := by decide +kernel
theorem dX0_sourcesThatGo_7 : decode cX0_sourcesThatGo 7 = .ok (.invokevirtual 46, 3) := by decide +kernel
theorem dX0_sourcesThatGo_10 : decode cX0_sourcesThatGo 10 = .ok (.ifCond .eq 13, 3) := by decide +kernel
theorem dX0_sourcesThatGo_13 : decode cX0_sourcesThatGo 13 = .ok (.aload_n 0, 1) := by decide +kernel
theorem dX0_sourcesThatGo_14 : decode cX0_sourcesThatGo 14 = .ok (.invokevirtual 97, 3) := by decide +kernel
theorem dX0_sourcesThatGo_17 : decode cX0_sourcesThatGo 17 = .ok (.ifCond .eq 6, 3) := by decide +kernel
theorem dX0_sourcesThatGo_20 : decode cX0_sourcesThatGo 20 = .ok (.ldc 56, 2) := by decide +kernel
theorem dX0_sourcesThatGo_22 : decode cX0_sourcesThatGo 22 = .ok (.ireturn, 1) := by decide +kernel
theorem dX0_sourcesThatGo_23 : decode cX0_sourcesThatGo 23 = .ok (.aload_n 0, 1) := by decide +kernel
theorem dX0_sourcesThatGo_24 : decode cX0_sourcesThatGo 24 = .ok (.iload_n 1, 1) := by decide +kernel
theorem dX0_sourcesThatGo_25 : decode cX0_sourcesThatGo 25 = .ok (.invokevirtual 81, 3) := by decide +kernel
theorem dX0_sourcesThatGo_28 : decode cX0_sourcesThatGo 28 = .ok (.istore_n 2, 1) := by decide +kernel
theorem dX0_sourcesThatGo_29 : decode cX0_sourcesThatGo 29 = .ok (.iconst 0, 1) := by decide +kernel
theorem dX0_sourcesThatGo_30 : decode cX0_sourcesThatGo 30 = .ok (.istore_n 3, 1) := by decide +kernel
theorem dX0_sourcesThatGo_31 : decode cX0_sourcesThatGo 31 = .ok (.iconst 0, 1) := by decide +kernel
theorem dX0_sourcesThatGo_32 : decode cX0_sourcesThatGo 32 = .ok (.istore 4, 2) := by decide +kernel
theorem dX0_sourcesThatGo_34 : decode cX0_sourcesThatGo 34 = .ok (.iload 4, 2) := by decide +kernel
theorem dX0_sourcesThatGo_36 : decode cX0_sourcesThatGo 36 = .ok (.bipush 16, 2) := by decide +kernel
theorem dX0_sourcesThatGo_38 : decode cX0_sourcesThatGo 38 = .ok (.if_icmp .ge 48, 3) := by decide +kernel
theorem dX0_sourcesThatGo_41 : decode cX0_sourcesThatGo 41 = .ok (.iload_n 2, 1) := by decide +kernel
theorem dX0_sourcesThatGo_42 : decode cX0_sourcesThatGo 42 = .ok (.ifCond .eq 13, 3) := by decide +kernel
theorem dX0_sourcesThatGo_45 : decode cX0_sourcesThatGo 45 = .ok (.aload_n 0, 1) := by decide +kernel
theorem dX0_sourcesThatGo_46 : decode cX0_sourcesThatGo 46 = .ok (.iload_n 1, 1) := by decide +kernel
theorem dX0_sourcesThatGo_47 : decode cX0_sourcesThatGo 47 = .ok (.iload 4, 2) := by decide +kernel
theorem dX0_sourcesThatGo_49 : decode cX0_sourcesThatGo 49 = .ok (.invokevirtual 118, 3) := by decide +kernel
theorem dX0_sourcesThatGo_52 : decode cX0_sourcesThatGo 52 = .ok (.ifCond .eq 21, 3) := by decide +kernel
theorem dX0_sourcesThatGo_55 : decode cX0_sourcesThatGo 55 = .ok (.aload_n 0, 1) := by decide +kernel
theorem dX0_sourcesThatGo_56 : decode cX0_sourcesThatGo 56 = .ok (.aload_n 0, 1) := by decide +kernel
theorem dX0_sourcesThatGo_57 : decode cX0_sourcesThatGo 57 = .ok (.getfield 16, 3) := by decide +kernel
theorem dX0_sourcesThatGo_60 : decode cX0_sourcesThatGo 60 = .ok (.iload_n 1, 1) := by decide +kernel
theorem dX0_sourcesThatGo_61 : decode cX0_sourcesThatGo 61 = .ok (.iload 4, 2) := by decide +kernel
theorem dX0_sourcesThatGo_63 : decode cX0_sourcesThatGo 63 = .ok (.invokestatic 61, 3) := by decide +kernel
theorem dX0_sourcesThatGo_66 : decode cX0_sourcesThatGo 66 = .ok (.iaload, 1) := by decide +kernel
theorem dX0_sourcesThatGo_67 : decode cX0_sourcesThatGo 67 = .ok (.invokevirtual 46, 3) := by decide +kernel
theorem dX0_sourcesThatGo_70 : decode cX0_sourcesThatGo 70 = .ok (.ifCond .eq 10, 3) := by decide +kernel
theorem dX0_sourcesThatGo_73 : decode cX0_sourcesThatGo 73 = .ok (.iload_n 3, 1) := by decide +kernel
theorem dX0_sourcesThatGo_74 : decode cX0_sourcesThatGo 74 = .ok (.iconst 1, 1) := by decide +kernel
theorem dX0_sourcesThatGo_75 : decode cX0_sourcesThatGo 75 = .ok (.iload 4, 2) := by decide +kernel
theorem dX0_sourcesThatGo_77 : decode cX0_sourcesThatGo 77 = .ok (.ishl, 1) := by decide +kernel
theorem dX0_sourcesThatGo_78 : decode cX0_sourcesThatGo 78 = .ok (.ior, 1) := by decide +kernel
theorem dX0_sourcesThatGo_79 : decode cX0_sourcesThatGo 79 = .ok (.istore_n 3, 1) := by decide +kernel
theorem dX0_sourcesThatGo_80 : decode cX0_sourcesThatGo 80 = .ok (.iinc 4 1, 3) := by decide +kernel
theorem dX0_sourcesThatGo_83 : decode cX0_sourcesThatGo 83 = .ok (.goto (-49), 3) := by decide +kernel
theorem dX0_sourcesThatGo_86 : decode cX0_sourcesThatGo 86 = .ok (.iload_n 3, 1) := by decide +kernel
theorem dX0_sourcesThatGo_87 : decode cX0_sourcesThatGo 87 = .ok (.ireturn, 1) := by decide +kernel
set_option maxRecDepth 20000 in
theorem ggX0_groupsThatGo_X0_sourcesThatGo : GoodIn wsX0_groupsThatGo wsX0_sourcesThatGo := goodIn_r _ [5, 6, 7, 8, 9, 10, 11, 4, 12, 13, 14, 15, 16, 17, 18, 19, 20, 21, 22, 23, 24, 25, 26, 27, 28, 29, 30, 31, 32, 33, 34, 35, 36, 37, 38, 39, 40, 41, 42, 43, 44, 45, 46, 47, 48, 49] (by decide +kernel) (by decide +kernel)
set_option maxRecDepth 20000 in
theorem gX0_groupsThatGo_X0_sourcesThatGo : GoodIn wsX0_groupsThatGo (wsV RX0 91 RX0 yX0_sourcesThatGo wsX0_sourcesThatGo) := goodIn_app (goodIn_of _ (by decide +kernel)) ggX0_groupsThatGo_X0_sourcesThatGo
theorem dX0_groupsThatGo_0 : decode cX0_groupsThatGo 0 = .ok (.iconst 0, 1) := by decide +kernel
theorem dX0_groupsThatGo_1 : decode cX0_groupsThatGo 1 = .ok (.istore_n 1, 1) := by decide +kernel
theorem dX0_groupsThatGo_2 : decode cX0_groupsThatGo 2 = .ok (.iconst 0, 1) := by decide +kernel
theorem dX0_groupsThatGo_3 : decode cX0_groupsThatGo 3 = .ok (.istore_n 2, 1) := by decide +kernel
theorem dX0_groupsThatGo_4 : decode cX0_groupsThatGo 4 = .ok (.iload_n 2, 1) := by decide +kernel
theorem dX0_groupsThatGo_5 : decode cX0_groupsThatGo 5 = .ok (.bipush 8, 2) := by decide +kernel
theorem dX0_groupsThatGo_7 : decode cX0_groupsThatGo 7 = .ok (.if_icmp .ge 23, 3) := by decide +kernel
theorem dX0_groupsThatGo_10 : decode cX0_groupsThatGo 10 = .ok (.aload_n 0, 1) := by decide +kernel
theorem dX0_groupsThatGo_11 : decode cX0_groupsThatGo 11 = .ok (.iload_n 2, 1) := by decide +kernel
theorem dX0_groupsThatGo_12 : decode cX0_groupsThatGo 12 = .ok (.invokevirtual 91, 3) := by decide +kernel
theorem dX0_groupsThatGo_15 : decode cX0_groupsThatGo 15 = .ok (.ifCond .eq 9, 3) := by decide +kernel
theorem dX0_groupsThatGo_18 : decode cX0_groupsThatGo 18 = .ok (.iload_n 1, 1) := by decide +kernel
theorem dX0_groupsThatGo_19 : decode cX0_groupsThatGo 19 = .ok (.iconst 1, 1) := by decide +kernel
theorem dX0_groupsThatGo_20 : decode cX0_groupsThatGo 20 = .ok (.iload_n 2, 1) := by decide +kernel
theorem dX0_groupsThatGo_21 : decode cX0_groupsThatGo 21 = .ok (.ishl, 1) := by decide +kernel
theorem dX0_groupsThatGo_22 : decode cX0_groupsThatGo 22 = .ok (.ior, 1) := by decide +kernel
theorem dX0_groupsThatGo_23 : decode cX0_groupsThatGo 23 = .ok (.istore_n 1, 1) := by decide +kernel
theorem dX0_groupsThatGo_24 : decode cX0_groupsThatGo 24 = .ok (.iinc 2 1, 3) := by decide +kernel
theorem dX0_groupsThatGo_27 : decode cX0_groupsThatGo 27 = .ok (.goto (-23), 3) := by decide +kernel
theorem dX0_groupsThatGo_30 : decode cX0_groupsThatGo 30 = .ok (.iload_n 1, 1) := by decide +kernel
theorem dX0_groupsThatGo_31 : decode cX0_groupsThatGo 31 = .ok (.ireturn, 1) := by decide +kernel
set_option maxRecDepth 20000 in
theorem ggX0_countJoined_X0_stands : GoodIn wsX0_countJoined wsX0_stands := goodIn_r _ [6, 7, 8, 9, 10, 11, 12, 13, 14] (by decide +kernel) (by decide +kernel)
set_option maxRecDepth 20000 in
theorem gX0_countJoined_X0_stands : GoodIn wsX0_countJoined (wsV RX0 46 RX0 yX0_stands wsX0_stands) := goodIn_app (goodIn_of _ (by decide +kernel)) ggX0_countJoined_X0_stands
theorem dX0_countJoined_0 : decode cX0_countJoined 0 = .ok (.iconst 0, 1) := by decide +kernel
theorem dX0_countJoined_1 : decode cX0_countJoined 1 = .ok (.istore_n 1, 1) := by decide +kernel
theorem dX0_countJoined_2 : decode cX0_countJoined 2 = .ok (.iconst 0, 1) := by decide +kernel
theorem dX0_countJoined_3 : decode cX0_countJoined 3 = .ok (.istore_n 2, 1) := by decide +kernel
theorem dX0_countJoined_4 : decode cX0_countJoined 4 = .ok (.iload_n 2, 1) := by decide +kernel
theorem dX0_countJoined_5 : decode cX0_countJoined 5 = .ok (.sipush 136, 3) := by decide +kernel
theorem dX0_countJoined_8 : decode cX0_countJoined 8 = .ok (.if_icmp .ge 25, 3) := by decide +kernel
theorem dX0_countJoined_11 : decode cX0_countJoined 11 = .ok (.aload_n 0, 1) := by decide +kernel
theorem dX0_countJoined_12 : decode cX0_countJoined 12 = .ok (.aload_n 0, 1) := by decide +kernel
theorem dX0_countJoined_13 : decode cX0_countJoined 13 = .ok (.getfield 16, 3) := by decide +kernel
theorem dX0_countJoined_16 : decode cX0_countJoined 16 = .ok (.iload_n 2, 1) := by decide +kernel
theorem dX0_countJoined_17 : decode cX0_countJoined 17 = .ok (.iaload, 1) := by decide +kernel
theorem dX0_countJoined_18 : decode cX0_countJoined 18 = .ok (.invokevirtual 46, 3) := by decide +kernel
theorem dX0_countJoined_21 : decode cX0_countJoined 21 = .ok (.ifCond .eq 6, 3) := by decide +kernel
theorem dX0_countJoined_24 : decode cX0_countJoined 24 = .ok (.iinc 1 1, 3) := by decide +kernel
theorem dX0_countJoined_27 : decode cX0_countJoined 27 = .ok (.iinc 2 1, 3) := by decide +kernel
theorem dX0_countJoined_30 : decode cX0_countJoined 30 = .ok (.goto (-26), 3) := by decide +kernel
theorem dX0_countJoined_33 : decode cX0_countJoined 33 = .ok (.iload_n 1, 1) := by decide +kernel
theorem dX0_countJoined_34 : decode cX0_countJoined 34 = .ok (.ireturn, 1) := by decide +kernel
