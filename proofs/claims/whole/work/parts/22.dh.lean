theorem dJ9_max_7cf53_0 : decode cJ9_max_7cf53 0 = .ok (.iload_n 0, 1) := by decide +kernel
theorem dJ9_max_7cf53_1 : decode cJ9_max_7cf53 1 = .ok (.iload_n 1, 1) := by decide +kernel
theorem dJ9_max_7cf53_2 : decode cJ9_max_7cf53 2 = .ok (.if_icmp .lt 7, 3) := by decide +kernel
theorem dJ9_max_7cf53_5 : decode cJ9_max_7cf53 5 = .ok (.iload_n 0, 1) := by decide +kernel
theorem dJ9_max_7cf53_6 : decode cJ9_max_7cf53 6 = .ok (.goto 4, 3) := by decide +kernel
theorem dJ9_max_7cf53_9 : decode cJ9_max_7cf53 9 = .ok (.iload_n 1, 1) := by decide +kernel
theorem dJ9_max_7cf53_10 : decode cJ9_max_7cf53 10 = .ok (.ireturn, 1) := by decide +kernel
theorem dJ9_min_7cf53_0 : decode cJ9_min_7cf53 0 = .ok (.iload_n 0, 1) := by decide +kernel
theorem dJ9_min_7cf53_1 : decode cJ9_min_7cf53 1 = .ok (.iload_n 1, 1) := by decide +kernel
theorem dJ9_min_7cf53_2 : decode cJ9_min_7cf53 2 = .ok (.if_icmp .gt 7, 3) := by decide +kernel
theorem dJ9_min_7cf53_5 : decode cJ9_min_7cf53 5 = .ok (.iload_n 0, 1) := by decide +kernel
theorem dJ9_min_7cf53_6 : decode cJ9_min_7cf53 6 = .ok (.goto 4, 3) := by decide +kernel
theorem dJ9_min_7cf53_9 : decode cJ9_min_7cf53 9 = .ok (.iload_n 1, 1) := by decide +kernel
theorem dJ9_min_7cf53_10 : decode cJ9_min_7cf53 10 = .ok (.ireturn, 1) := by decide +kernel
set_option maxRecDepth 20000 in
theorem ggL_addJob_X0_addJob : GoodIn wsL_addJob wsX0_addJob := goodIn_ca (goodIn_r _ [6, 7, 8, 9, 10, 11, 12, 13, 5, 14, 15, 16, 17, 18, 19, 20, 21, 22, 23, 24, 25, 26, 27, 28] (by decide +kernel) (by decide +kernel)) (goodIn_sub (fun _ h => List.mem_cons_of_mem _ (List.mem_append_right _ h)) (by decide +kernel))
set_option maxRecDepth 20000 in
theorem gL_addJob_X0_addJob : GoodIn wsL_addJob (wsV RL 7 RX0 yX0_addJob wsX0_addJob) := goodIn_app (goodIn_of _ (by decide +kernel)) ggL_addJob_X0_addJob
theorem dL_addJob_0 : decode cL_addJob 0 = .ok (.aload_n 1, 1) := by decide +kernel
theorem dL_addJob_1 : decode cL_addJob 1 = .ok (.iconst 0, 1) := by decide +kernel
theorem dL_addJob_2 : decode cL_addJob 2 = .ok (.aload_n 0, 1) := by decide +kernel
theorem dL_addJob_3 : decode cL_addJob 3 = .ok (.invokevirtual 7, 3) := by decide +kernel
theorem dL_addJob_6 : decode cL_addJob 6 = .ok (.i2l, 1) := by decide +kernel
theorem dL_addJob_7 : decode cL_addJob 7 = .ok (.lastore, 1) := by decide +kernel
theorem dL_addJob_8 : decode cL_addJob 8 = .ok (.goto 6, 3) := by decide +kernel
theorem dL_addJob_11 : decode cL_addJob 11 = .ok (.astore_n 2, 1) := by decide +kernel
theorem dL_addJob_12 : decode cL_addJob 12 = .ok (.iconst 1, 1) := by decide +kernel
theorem dL_addJob_13 : decode cL_addJob 13 = .ok (.ireturn, 1) := by decide +kernel
theorem dL_addJob_14 : decode cL_addJob 14 = .ok (.iconst 0, 1) := by decide +kernel
theorem dL_addJob_15 : decode cL_addJob 15 = .ok (.ireturn, 1) := by decide +kernel
set_option maxRecDepth 20000 in
theorem ggL_setMachines_X0_setMachines : GoodIn wsL_setMachines wsX0_setMachines := goodIn_ca (goodIn_r _ [6, 7, 8, 9, 10, 11, 12, 13, 5, 14, 15, 16, 17, 18, 19, 20, 21, 22, 23, 24, 25, 26, 27, 28, 29, 30, 31, 32] (by decide +kernel) (by decide +kernel)) (goodIn_sub (fun _ h => List.mem_cons_of_mem _ (List.mem_append_right _ h)) (by decide +kernel))
set_option maxRecDepth 20000 in
theorem gL_setMachines_X0_setMachines : GoodIn wsL_setMachines (wsV RL 15 RX0 yX0_setMachines wsX0_setMachines) := goodIn_app (goodIn_of _ (by decide +kernel)) ggL_setMachines_X0_setMachines
theorem dL_setMachines_0 : decode cL_setMachines 0 = .ok (.aload_n 2, 1) := by decide +kernel
theorem dL_setMachines_1 : decode cL_setMachines 1 = .ok (.iconst 0, 1) := by decide +kernel
theorem dL_setMachines_2 : decode cL_setMachines 2 = .ok (.aload_n 0, 1) := by decide +kernel
theorem dL_setMachines_3 : decode cL_setMachines 3 = .ok (.iload_n 1, 1) := by decide +kernel
theorem dL_setMachines_4 : decode cL_setMachines 4 = .ok (.invokevirtual 15, 3) := by decide +kernel
theorem dL_setMachines_7 : decode cL_setMachines 7 = .ok (.i2l, 1) := by decide +kernel
theorem dL_setMachines_8 : decode cL_setMachines 8 = .ok (.lastore, 1) := by decide +kernel
theorem dL_setMachines_9 : decode cL_setMachines 9 = .ok (.goto 6, 3) := by decide +kernel
theorem dL_setMachines_12 : decode cL_setMachines 12 = .ok (.astore_n 3, 1) := by decide +kernel
theorem dL_setMachines_13 : decode cL_setMachines 13 = .ok (.iconst 1, 1) := by decide +kernel
theorem dL_setMachines_14 : decode cL_setMachines 14 = .ok (.ireturn, 1) := by decide +kernel
theorem dL_setMachines_15 : decode cL_setMachines 15 = .ok (.iconst 0, 1) := by decide +kernel
theorem dL_setMachines_16 : decode cL_setMachines 16 = .ok (.ireturn, 1) := by decide +kernel
set_option maxRecDepth 20000 in
theorem ggL_setTime_X0_setTime : GoodIn wsL_setTime wsX0_setTime := goodIn_ca (goodIn_ca (goodIn_r _ [7, 8, 9, 10, 11, 12, 13, 6, 14, 15, 16, 17, 18, 19, 20, 21, 22, 23, 24, 25, 26, 27, 28, 29, 30, 31, 32, 33, 34, 35, 36, 37, 38, 39, 40, 41, 42, 43] (by decide +kernel) (by decide +kernel)) (goodIn_sub (fun _ h => List.mem_cons_of_mem _ (List.mem_append_left _ (List.mem_append_right _ h))) (by decide +kernel))) (goodIn_sub (fun _ h => List.mem_cons_of_mem _ (List.mem_append_right _ h)) (by decide +kernel))
set_option maxRecDepth 20000 in
theorem gL_setTime_X0_setTime : GoodIn wsL_setTime (wsV RL 21 RX0 yX0_setTime wsX0_setTime) := goodIn_app (goodIn_of _ (by decide +kernel)) ggL_setTime_X0_setTime
theorem dL_setTime_0 : decode cL_setTime 0 = .ok (.aload 4, 2) := by decide +kernel
theorem dL_setTime_2 : decode cL_setTime 2 = .ok (.iconst 0, 1) := by decide +kernel
theorem dL_setTime_3 : decode cL_setTime 3 = .ok (.aload_n 0, 1) := by decide +kernel
theorem dL_setTime_4 : decode cL_setTime 4 = .ok (.iload_n 1, 1) := by decide +kernel
theorem dL_setTime_5 : decode cL_setTime 5 = .ok (.iload_n 2, 1) := by decide +kernel
theorem dL_setTime_6 : decode cL_setTime 6 = .ok (.iload_n 3, 1) := by decide +kernel
theorem dL_setTime_7 : decode cL_setTime 7 = .ok (.invokevirtual 21, 3) := by decide +kernel
theorem dL_setTime_10 : decode cL_setTime 10 = .ok (.i2l, 1) := by decide +kernel
theorem dL_setTime_11 : decode cL_setTime 11 = .ok (.lastore, 1) := by decide +kernel
theorem dL_setTime_12 : decode cL_setTime 12 = .ok (.goto 11, 3) := by decide +kernel
theorem dL_setTime_15 : decode cL_setTime 15 = .ok (.astore 5, 2) := by decide +kernel
theorem dL_setTime_17 : decode cL_setTime 17 = .ok (.iconst 1, 1) := by decide +kernel
theorem dL_setTime_18 : decode cL_setTime 18 = .ok (.ireturn, 1) := by decide +kernel
theorem dL_setTime_19 : decode cL_setTime 19 = .ok (.astore 5, 2) := by decide +kernel
theorem dL_setTime_21 : decode cL_setTime 21 = .ok (.iconst 2, 1) := by decide +kernel
theorem dL_setTime_22 : decode cL_setTime 22 = .ok (.ireturn, 1) := by decide +kernel
theorem dL_setTime_23 : decode cL_setTime 23 = .ok (.iconst 0, 1) := by decide +kernel
theorem dL_setTime_24 : decode cL_setTime 24 = .ok (.ireturn, 1) := by decide +kernel
set_option maxRecDepth 20000 in
theorem ggL_time_X0_time : GoodIn wsL_time wsX0_time := goodIn_ca (goodIn_r _ [6, 7, 8, 9, 10, 5, 11, 12, 13, 14, 15, 16, 17, 18, 19, 20, 21, 22, 23, 24, 25, 26, 27, 28, 29, 30, 31, 32, 33, 34, 35] (by decide +kernel) (by decide +kernel)) (goodIn_sub (fun _ h => List.mem_cons_of_mem _ (List.mem_append_right _ h)) (by decide +kernel))
set_option maxRecDepth 20000 in
theorem gL_time_X0_time : GoodIn wsL_time (wsV RL 27 RX0 yX0_time wsX0_time) := goodIn_app (goodIn_of _ (by decide +kernel)) ggL_time_X0_time
theorem dL_time_0 : decode cL_time 0 = .ok (.aload_n 3, 1) := by decide +kernel
theorem dL_time_1 : decode cL_time 1 = .ok (.iconst 0, 1) := by decide +kernel
theorem dL_time_2 : decode cL_time 2 = .ok (.aload_n 0, 1) := by decide +kernel
theorem dL_time_3 : decode cL_time 3 = .ok (.iload_n 1, 1) := by decide +kernel
theorem dL_time_4 : decode cL_time 4 = .ok (.iload_n 2, 1) := by decide +kernel
theorem dL_time_5 : decode cL_time 5 = .ok (.invokevirtual 27, 3) := by decide +kernel
theorem dL_time_8 : decode cL_time 8 = .ok (.i2l, 1) := by decide +kernel
theorem dL_time_9 : decode cL_time 9 = .ok (.lastore, 1) := by decide +kernel
theorem dL_time_10 : decode cL_time 10 = .ok (.goto 7, 3) := by decide +kernel
theorem dL_time_13 : decode cL_time 13 = .ok (.astore 4, 2) := by decide +kernel
theorem dL_time_15 : decode cL_time 15 = .ok (.iconst 1, 1) := by decide +kernel
theorem dL_time_16 : decode cL_time 16 = .ok (.ireturn, 1) := by decide +kernel
theorem dL_time_17 : decode cL_time 17 = .ok (.iconst 0, 1) := by decide +kernel
theorem dL_time_18 : decode cL_time 18 = .ok (.ireturn, 1) := by decide +kernel
set_option maxRecDepth 20000 in
theorem ggL_jobAt_X0_jobAt : GoodIn wsL_jobAt wsX0_jobAt := goodIn_ca (goodIn_r _ [6, 7, 8, 9, 10, 5, 11, 12, 13, 14, 15, 16, 17, 18, 19, 20, 21, 22, 23, 24, 25, 26, 27] (by decide +kernel) (by decide +kernel)) (goodIn_sub (fun _ h => List.mem_cons_of_mem _ (List.mem_append_right _ h)) (by decide +kernel))
set_option maxRecDepth 20000 in
theorem gL_jobAt_X0_jobAt : GoodIn wsL_jobAt (wsV RL 31 RX0 yX0_jobAt wsX0_jobAt) := goodIn_app (goodIn_of _ (by decide +kernel)) ggL_jobAt_X0_jobAt
theorem dL_jobAt_0 : decode cL_jobAt 0 = .ok (.aload_n 2, 1) := by decide +kernel
theorem dL_jobAt_1 : decode cL_jobAt 1 = .ok (.iconst 0, 1) := by decide +kernel
theorem dL_jobAt_2 : decode cL_jobAt 2 = .ok (.aload_n 0, 1) := by decide +kernel
theorem dL_jobAt_3 : decode cL_jobAt 3 = .ok (.iload_n 1, 1) := by decide +kernel
theorem dL_jobAt_4 : decode cL_jobAt 4 = .ok (.invokevirtual 31, 3) := by decide +kernel
theorem dL_jobAt_7 : decode cL_jobAt 7 = .ok (.i2l, 1) := by decide +kernel
theorem dL_jobAt_8 : decode cL_jobAt 8 = .ok (.lastore, 1) := by decide +kernel
theorem dL_jobAt_9 : decode cL_jobAt 9 = .ok (.goto 6, 3) := by decide +kernel
theorem dL_jobAt_12 : decode cL_jobAt 12 = .ok (.astore_n 3, 1) := by decide +kernel
theorem dL_jobAt_13 : decode cL_jobAt 13 = .ok (.iconst 1, 1) := by decide +kernel
theorem dL_jobAt_14 : decode cL_jobAt 14 = .ok (.ireturn, 1) := by decide +kernel
theorem dL_jobAt_15 : decode cL_jobAt 15 = .ok (.iconst 0, 1) := by decide +kernel
theorem dL_jobAt_16 : decode cL_jobAt 16 = .ok (.ireturn, 1) := by decide +kernel
set_option maxRecDepth 20000 in
theorem ggL_move_X0_move : GoodIn wsL_move wsX0_move := goodIn_ca (goodIn_r _ [6, 7, 8, 9, 10, 5, 11, 12, 13, 14, 15, 16, 17, 18, 19, 20, 21, 22, 23, 24, 25, 26, 27, 28, 29, 30, 31, 32, 33, 34, 35, 36, 37, 38] (by decide +kernel) (by decide +kernel)) (goodIn_sub (fun _ h => List.mem_cons_of_mem _ (List.mem_append_right _ h)) (by decide +kernel))
set_option maxRecDepth 20000 in
theorem gL_move_X0_move : GoodIn wsL_move (wsV RL 34 RX0 yX0_move wsX0_move) := goodIn_app (goodIn_of _ (by decide +kernel)) ggL_move_X0_move
theorem dL_move_0 : decode cL_move 0 = .ok (.aload_n 3, 1) := by decide +kernel
theorem dL_move_1 : decode cL_move 1 = .ok (.iconst 0, 1) := by decide +kernel
theorem dL_move_2 : decode cL_move 2 = .ok (.aload_n 0, 1) := by decide +kernel
theorem dL_move_3 : decode cL_move 3 = .ok (.iload_n 1, 1) := by decide +kernel
theorem dL_move_4 : decode cL_move 4 = .ok (.iload_n 2, 1) := by decide +kernel
theorem dL_move_5 : decode cL_move 5 = .ok (.invokevirtual 34, 3) := by decide +kernel
theorem dL_move_8 : decode cL_move 8 = .ok (.i2l, 1) := by decide +kernel
theorem dL_move_9 : decode cL_move 9 = .ok (.lastore, 1) := by decide +kernel
theorem dL_move_10 : decode cL_move 10 = .ok (.goto 7, 3) := by decide +kernel
theorem dL_move_13 : decode cL_move 13 = .ok (.astore 4, 2) := by decide +kernel
theorem dL_move_15 : decode cL_move 15 = .ok (.iconst 1, 1) := by decide +kernel
theorem dL_move_16 : decode cL_move 16 = .ok (.ireturn, 1) := by decide +kernel
theorem dL_move_17 : decode cL_move 17 = .ok (.iconst 0, 1) := by decide +kernel
theorem dL_move_18 : decode cL_move 18 = .ok (.ireturn, 1) := by decide +kernel
set_option maxRecDepth 20000 in
theorem ggL_makespanIfMoved_X0_makespanIfMoved : GoodIn wsL_makespanIfMoved wsX0_makespanIfMoved := goodIn_ca (goodIn_r _ [6, 7, 8, 9, 10, 5, 11, 12, 13, 14, 15, 16, 17, 18, 19, 20, 21, 22, 23, 24, 25, 26, 27, 28, 29, 30, 31, 32, 33, 34, 35, 36, 37, 38, 39, 40, 41, 42, 43, 44, 45, 46, 47, 48, 49, 50, 51, 52, 53, 54, 55, 56, 57, 58, 59, 60, 61, 62, 63, 64, 65, 66, 67, 68, 69, 70, 71, 72, 73, 74, 75, 76, 77, 78] (by decide +kernel) (by decide +kernel)) (goodIn_sub (fun _ h => List.mem_cons_of_mem _ (List.mem_append_right _ h)) (by decide +kernel))
set_option maxRecDepth 20000 in
theorem gL_makespanIfMoved_X0_makespanIfMoved : GoodIn wsL_makespanIfMoved (wsV RL 37 RX0 yX0_makespanIfMoved wsX0_makespanIfMoved) := goodIn_app (goodIn_of _ (by decide +kernel)) ggL_makespanIfMoved_X0_makespanIfMoved
theorem dL_makespanIfMoved_0 : decode cL_makespanIfMoved 0 = .ok (.aload_n 3, 1) := by decide +kernel
theorem dL_makespanIfMoved_1 : decode cL_makespanIfMoved 1 = .ok (.iconst 0, 1) := by decide +kernel
theorem dL_makespanIfMoved_2 : decode cL_makespanIfMoved 2 = .ok (.aload_n 0, 1) := by decide +kernel
theorem dL_makespanIfMoved_3 : decode cL_makespanIfMoved 3 = .ok (.iload_n 1, 1) := by decide +kernel
theorem dL_makespanIfMoved_4 : decode cL_makespanIfMoved 4 = .ok (.iload_n 2, 1) := by decide +kernel
theorem dL_makespanIfMoved_5 : decode cL_makespanIfMoved 5 = .ok (.invokevirtual 37, 3) := by decide +kernel
theorem dL_makespanIfMoved_8 : decode cL_makespanIfMoved 8 = .ok (.i2l, 1) := by decide +kernel
theorem dL_makespanIfMoved_9 : decode cL_makespanIfMoved 9 = .ok (.lastore, 1) := by decide +kernel
theorem dL_makespanIfMoved_10 : decode cL_makespanIfMoved 10 = .ok (.goto 7, 3) := by decide +kernel
theorem dL_makespanIfMoved_13 : decode cL_makespanIfMoved 13 = .ok (.astore 4, 2) := by decide +kernel
theorem dL_makespanIfMoved_15 : decode cL_makespanIfMoved 15 = .ok (.iconst 1, 1) := by decide +kernel
theorem dL_makespanIfMoved_16 : decode cL_makespanIfMoved 16 = .ok (.ireturn, 1) := by decide +kernel
theorem dL_makespanIfMoved_17 : decode cL_makespanIfMoved 17 = .ok (.iconst 0, 1) := by decide +kernel
theorem dL_makespanIfMoved_18 : decode cL_makespanIfMoved 18 = .ok (.ireturn, 1) := by decide +kernel
set_option maxRecDepth 20000 in
theorem ggL_orderByRule_X0_orderByRule : GoodIn wsL_orderByRule wsX0_orderByRule := goodIn_ca (goodIn_r _ [6, 7, 8, 9, 10, 11, 12, 13, 5, 14, 15, 16, 17, 18, 19, 20, 21, 22, 23, 24, 25, 26, 27, 28, 29, 30, 31, 32, 33, 34, 35, 36, 37, 38, 39, 40, 41, 42, 43, 44, 45, 46, 47, 48, 49, 50, 51, 52, 53, 54, 55, 56, 57, 58, 59, 60, 61, 62, 63, 64, 65, 66] (by decide +kernel) (by decide +kernel)) (goodIn_sub (fun _ h => List.mem_cons_of_mem _ (List.mem_append_right _ h)) (by decide +kernel))
set_option maxRecDepth 20000 in
theorem gL_orderByRule_X0_orderByRule : GoodIn wsL_orderByRule (wsV RL 40 RX0 yX0_orderByRule wsX0_orderByRule) := goodIn_app (goodIn_of _ (by decide +kernel)) ggL_orderByRule_X0_orderByRule
theorem dL_orderByRule_0 : decode cL_orderByRule 0 = .ok (.aload_n 1, 1) := by decide +kernel
theorem dL_orderByRule_1 : decode cL_orderByRule 1 = .ok (.iconst 0, 1) := by decide +kernel
theorem dL_orderByRule_2 : decode cL_orderByRule 2 = .ok (.aload_n 0, 1) := by decide +kernel
theorem dL_orderByRule_3 : decode cL_orderByRule 3 = .ok (.invokevirtual 40, 3) := by decide +kernel
theorem dL_orderByRule_6 : decode cL_orderByRule 6 = .ok (.i2l, 1) := by decide +kernel
theorem dL_orderByRule_7 : decode cL_orderByRule 7 = .ok (.lastore, 1) := by decide +kernel
theorem dL_orderByRule_8 : decode cL_orderByRule 8 = .ok (.goto 6, 3) := by decide +kernel
theorem dL_orderByRule_11 : decode cL_orderByRule 11 = .ok (.astore_n 2, 1) := by decide +kernel
theorem dL_orderByRule_12 : decode cL_orderByRule 12 = .ok (.iconst 1, 1) := by decide +kernel
theorem dL_orderByRule_13 : decode cL_orderByRule 13 = .ok (.ireturn, 1) := by decide +kernel
theorem dL_orderByRule_14 : decode cL_orderByRule 14 = .ok (.iconst 0, 1) := by decide +kernel
theorem dL_orderByRule_15 : decode cL_orderByRule 15 = .ok (.ireturn, 1) := by decide +kernel
set_option maxRecDepth 20000 in
theorem ggL_makespan_X0_makespan : GoodIn wsL_makespan wsX0_makespan := goodIn_ca (goodIn_r _ [6, 7, 8, 5, 9, 10, 11, 12, 13, 14, 15, 16, 17, 18, 19, 20, 21, 22, 23, 24, 25, 26, 27, 28, 29, 30, 31, 32, 33, 34, 35, 36, 37, 38, 39, 40, 41, 42, 43, 44, 45, 46, 47, 48, 49, 50, 51, 52, 53, 54, 55, 56, 57, 58, 59, 60, 61] (by decide +kernel) (by decide +kernel)) (goodIn_sub (fun _ h => List.mem_cons_of_mem _ (List.mem_append_right _ h)) (by decide +kernel))
set_option maxRecDepth 20000 in
theorem gL_makespan_X0_makespan : GoodIn wsL_makespan (wsV RL 43 RX0 yX0_makespan wsX0_makespan) := goodIn_app (goodIn_of _ (by decide +kernel)) ggL_makespan_X0_makespan
theorem dL_makespan_0 : decode cL_makespan 0 = .ok (.aload_n 2, 1) := by decide +kernel
theorem dL_makespan_1 : decode cL_makespan 1 = .ok (.iconst 0, 1) := by decide +kernel
theorem dL_makespan_2 : decode cL_makespan 2 = .ok (.aload_n 0, 1) := by decide +kernel
theorem dL_makespan_3 : decode cL_makespan 3 = .ok (.iload_n 1, 1) := by decide +kernel
theorem dL_makespan_4 : decode cL_makespan 4 = .ok (.invokevirtual 43, 3) := by decide +kernel
theorem dL_makespan_7 : decode cL_makespan 7 = .ok (.i2l, 1) := by decide +kernel
theorem dL_makespan_8 : decode cL_makespan 8 = .ok (.lastore, 1) := by decide +kernel
theorem dL_makespan_9 : decode cL_makespan 9 = .ok (.goto 6, 3) := by decide +kernel
theorem dL_makespan_12 : decode cL_makespan 12 = .ok (.astore_n 3, 1) := by decide +kernel
theorem dL_makespan_13 : decode cL_makespan 13 = .ok (.iconst 1, 1) := by decide +kernel
theorem dL_makespan_14 : decode cL_makespan 14 = .ok (.ireturn, 1) := by decide +kernel
theorem dL_makespan_15 : decode cL_makespan 15 = .ok (.iconst 0, 1) := by decide +kernel
theorem dL_makespan_16 : decode cL_makespan 16 = .ok (.ireturn, 1) := by decide +kernel
set_option maxRecDepth 20000 in
theorem ggL_begin_X0_begin : GoodIn wsL_begin wsX0_begin := goodIn_ca (goodIn_ca (goodIn_r _ [7, 8, 9, 10, 6, 11, 12, 13, 14, 15, 16, 17, 18, 19, 20, 21, 22, 23, 24, 25, 26, 27, 28, 29, 30, 31, 32, 33, 34, 35, 36, 37, 38, 39, 40, 41, 42, 43, 44, 45, 46, 47, 48, 49, 50, 51, 52, 53, 54, 55, 56, 57, 58, 59, 60, 61, 62, 63, 64, 65, 66, 67, 68, 69, 70, 71, 72] (by decide +kernel) (by decide +kernel)) (goodIn_sub (fun _ h => List.mem_cons_of_mem _ (List.mem_append_left _ (List.mem_append_right _ h))) (by decide +kernel))) (goodIn_sub (fun _ h => List.mem_cons_of_mem _ (List.mem_append_right _ h)) (by decide +kernel))
set_option maxRecDepth 20000 in
theorem gL_begin_X0_begin : GoodIn wsL_begin (wsV RL 46 RX0 yX0_begin wsX0_begin) := goodIn_app (goodIn_of _ (by decide +kernel)) ggL_begin_X0_begin
theorem dL_begin_0 : decode cL_begin 0 = .ok (.aload 4, 2) := by decide +kernel
theorem dL_begin_2 : decode cL_begin 2 = .ok (.iconst 0, 1) := by decide +kernel
theorem dL_begin_3 : decode cL_begin 3 = .ok (.aload_n 0, 1) := by decide +kernel
theorem dL_begin_4 : decode cL_begin 4 = .ok (.iload_n 1, 1) := by decide +kernel
theorem dL_begin_5 : decode cL_begin 5 = .ok (.iload_n 2, 1) := by decide +kernel
theorem dL_begin_6 : decode cL_begin 6 = .ok (.iload_n 3, 1) := by decide +kernel
theorem dL_begin_7 : decode cL_begin 7 = .ok (.invokevirtual 46, 3) := by decide +kernel
theorem dL_begin_10 : decode cL_begin 10 = .ok (.i2l, 1) := by decide +kernel
theorem dL_begin_11 : decode cL_begin 11 = .ok (.lastore, 1) := by decide +kernel
theorem dL_begin_12 : decode cL_begin 12 = .ok (.goto 11, 3) := by decide +kernel
theorem dL_begin_15 : decode cL_begin 15 = .ok (.astore 5, 2) := by decide +kernel
theorem dL_begin_17 : decode cL_begin 17 = .ok (.iconst 1, 1) := by decide +kernel
theorem dL_begin_18 : decode cL_begin 18 = .ok (.ireturn, 1) := by decide +kernel
theorem dL_begin_19 : decode cL_begin 19 = .ok (.astore 5, 2) := by decide +kernel
theorem dL_begin_21 : decode cL_begin 21 = .ok (.iconst 2, 1) := by decide +kernel
theorem dL_begin_22 : decode cL_begin 22 = .ok (.ireturn, 1) := by decide +kernel
theorem dL_begin_23 : decode cL_begin 23 = .ok (.iconst 0, 1) := by decide +kernel
theorem dL_begin_24 : decode cL_begin 24 = .ok (.ireturn, 1) := by decide +kernel
set_option maxRecDepth 20000 in
theorem ggL_head_X0_head : GoodIn wsL_head wsX0_head := goodIn_ca (goodIn_r _ [6, 7, 8, 9, 10, 5, 11, 12, 13, 14, 15, 16, 17, 18, 19, 20, 21, 22, 23, 24, 25, 26, 27, 28, 29, 30, 31, 32, 33, 34, 35, 36, 37, 38, 39, 40, 41, 42, 43, 44, 45, 46, 47, 48, 49, 50, 51, 52, 53, 54, 55, 56, 57, 58, 59, 60, 61, 62, 63, 64, 65, 66] (by decide +kernel) (by decide +kernel)) (goodIn_sub (fun _ h => List.mem_cons_of_mem _ (List.mem_append_right _ h)) (by decide +kernel))
set_option maxRecDepth 20000 in
theorem gL_head_X0_head : GoodIn wsL_head (wsV RL 49 RX0 yX0_head wsX0_head) := goodIn_app (goodIn_of _ (by decide +kernel)) ggL_head_X0_head
theorem dL_head_0 : decode cL_head 0 = .ok (.aload_n 3, 1) := by decide +kernel
theorem dL_head_1 : decode cL_head 1 = .ok (.iconst 0, 1) := by decide +kernel
theorem dL_head_2 : decode cL_head 2 = .ok (.aload_n 0, 1) := by decide +kernel
theorem dL_head_3 : decode cL_head 3 = .ok (.iload_n 1, 1) := by decide +kernel
theorem dL_head_4 : decode cL_head 4 = .ok (.iload_n 2, 1) := by decide +kernel
theorem dL_head_5 : decode cL_head 5 = .ok (.invokevirtual 49, 3) := by decide +kernel
theorem dL_head_8 : decode cL_head 8 = .ok (.i2l, 1) := by decide +kernel
theorem dL_head_9 : decode cL_head 9 = .ok (.lastore, 1) := by decide +kernel
theorem dL_head_10 : decode cL_head 10 = .ok (.goto 7, 3) := by decide +kernel
theorem dL_head_13 : decode cL_head 13 = .ok (.astore 4, 2) := by decide +kernel
theorem dL_head_15 : decode cL_head 15 = .ok (.iconst 1, 1) := by decide +kernel
theorem dL_head_16 : decode cL_head 16 = .ok (.ireturn, 1) := by decide +kernel
theorem dL_head_17 : decode cL_head 17 = .ok (.iconst 0, 1) := by decide +kernel
theorem dL_head_18 : decode cL_head 18 = .ok (.ireturn, 1) := by decide +kernel
set_option maxRecDepth 20000 in
theorem ggL_tail_X0_tail : GoodIn wsL_tail wsX0_tail := goodIn_ca (goodIn_r _ [6, 7, 8, 9, 10, 5, 11, 12, 13, 14, 15, 16, 17, 18, 19, 20, 21, 22, 23, 24, 25, 26, 27, 28, 29, 30, 31, 32, 33, 34, 35, 36, 37, 38, 39, 40, 41, 42, 43, 44, 45, 46, 47, 48, 49] (by decide +kernel) (by decide +kernel)) (goodIn_sub (fun _ h => List.mem_cons_of_mem _ (List.mem_append_right _ h)) (by decide +kernel))
set_option maxRecDepth 20000 in
theorem gL_tail_X0_tail : GoodIn wsL_tail (wsV RL 52 RX0 yX0_tail wsX0_tail) := goodIn_app (goodIn_of _ (by decide +kernel)) ggL_tail_X0_tail
theorem dL_tail_0 : decode cL_tail 0 = .ok (.aload_n 3, 1) := by decide +kernel
theorem dL_tail_1 : decode cL_tail 1 = .ok (.iconst 0, 1) := by decide +kernel
theorem dL_tail_2 : decode cL_tail 2 = .ok (.aload_n 0, 1) := by decide +kernel
theorem dL_tail_3 : decode cL_tail 3 = .ok (.iload_n 1, 1) := by decide +kernel
theorem dL_tail_4 : decode cL_tail 4 = .ok (.iload_n 2, 1) := by decide +kernel
theorem dL_tail_5 : decode cL_tail 5 = .ok (.invokevirtual 52, 3) := by decide +kernel
theorem dL_tail_8 : decode cL_tail 8 = .ok (.i2l, 1) := by decide +kernel
theorem dL_tail_9 : decode cL_tail 9 = .ok (.lastore, 1) := by decide +kernel
theorem dL_tail_10 : decode cL_tail 10 = .ok (.goto 7, 3) := by decide +kernel
theorem dL_tail_13 : decode cL_tail 13 = .ok (.astore 4, 2) := by decide +kernel
theorem dL_tail_15 : decode cL_tail 15 = .ok (.iconst 1, 1) := by decide +kernel
theorem dL_tail_16 : decode cL_tail 16 = .ok (.ireturn, 1) := by decide +kernel
theorem dL_tail_17 : decode cL_tail 17 = .ok (.iconst 0, 1) := by decide +kernel
theorem dL_tail_18 : decode cL_tail 18 = .ok (.ireturn, 1) := by decide +kernel
set_option maxRecDepth 20000 in
theorem ggL_isCritical_X0_isCritical : GoodIn wsL_isCritical wsX0_isCritical := goodIn_ca (goodIn_r _ [6, 7, 8, 9, 10, 11, 12, 5, 13, 14, 15, 16, 17, 18, 19, 20, 21, 22, 23, 24, 25, 26, 27, 28, 29, 30, 31, 32, 33, 34, 35, 36, 37, 38, 39, 40, 41, 42, 43, 44, 45, 46, 47, 48, 49, 50, 51, 52, 53, 54, 55, 56, 57, 58, 59, 60, 61, 62, 63, 64, 65, 66, 67, 68, 69, 70, 71] (by decide +kernel) (by decide +kernel)) (goodIn_sub (fun _ h => List.mem_cons_of_mem _ (List.mem_append_right _ h)) (by decide +kernel))
set_option maxRecDepth 20000 in
theorem gL_isCritical_X0_isCritical : GoodIn wsL_isCritical (wsV RL 55 RX0 yX0_isCritical wsX0_isCritical) := goodIn_app (goodIn_of _ (by decide +kernel)) ggL_isCritical_X0_isCritical
theorem dL_isCritical_0 : decode cL_isCritical 0 = .ok (.aload_n 3, 1) := by decide +kernel
theorem dL_isCritical_1 : decode cL_isCritical 1 = .ok (.iconst 0, 1) := by decide +kernel
theorem dL_isCritical_2 : decode cL_isCritical 2 = .ok (.aload_n 0, 1) := by decide +kernel
theorem dL_isCritical_3 : decode cL_isCritical 3 = .ok (.iload_n 1, 1) := by decide +kernel
theorem dL_isCritical_4 : decode cL_isCritical 4 = .ok (.iload_n 2, 1) := by decide +kernel
theorem dL_isCritical_5 : decode cL_isCritical 5 = .ok (.invokevirtual 55, 3) := by decide +kernel
theorem dL_isCritical_8 : decode cL_isCritical 8 = .ok (.ifCond .eq 7, 3) := by decide +kernel
theorem dL_isCritical_11 : decode cL_isCritical 11 = .ok (.lconst 1, 1) := by decide +kernel
theorem dL_isCritical_12 : decode cL_isCritical 12 = .ok (.goto 4, 3) := by decide +kernel
theorem dL_isCritical_15 : decode cL_isCritical 15 = .ok (.lconst 0, 1) := by decide +kernel
theorem dL_isCritical_16 : decode cL_isCritical 16 = .ok (.lastore, 1) := by decide +kernel
theorem dL_isCritical_17 : decode cL_isCritical 17 = .ok (.goto 7, 3) := by decide +kernel
theorem dL_isCritical_20 : decode cL_isCritical 20 = .ok (.astore 4, 2) := by decide +kernel
theorem dL_isCritical_22 : decode cL_isCritical 22 = .ok (.iconst 1, 1) := by decide +kernel
theorem dL_isCritical_23 : decode cL_isCritical 23 = .ok (.ireturn, 1) := by decide +kernel
theorem dL_isCritical_24 : decode cL_isCritical 24 = .ok (.iconst 0, 1) := by decide +kernel
theorem dL_isCritical_25 : decode cL_isCritical 25 = .ok (.ireturn, 1) := by decide +kernel
set_option maxRecDepth 20000 in
theorem ggL_idle_X0_idle : GoodIn wsL_idle wsX0_idle := goodIn_ca (goodIn_ca (goodIn_r _ [7, 8, 9, 10, 11, 12, 6, 13, 14, 15, 16, 17, 18, 19, 20, 21, 22, 23, 24, 25, 26, 27, 28, 29, 30, 31, 32, 33, 34, 35, 36, 37, 38, 39, 40, 41, 42, 43, 44, 45, 46, 47, 48, 49, 50, 51, 52, 53, 54, 55, 56, 57, 58, 59, 60, 61, 62, 63, 64, 65, 66, 67, 68, 69, 70, 71, 72] (by decide +kernel) (by decide +kernel)) (goodIn_sub (fun _ h => List.mem_cons_of_mem _ (List.mem_append_left _ (List.mem_append_right _ h))) (by decide +kernel))) (goodIn_sub (fun _ h => List.mem_cons_of_mem _ (List.mem_append_right _ h)) (by decide +kernel))
set_option maxRecDepth 20000 in
theorem gL_idle_X0_idle : GoodIn wsL_idle (wsV RL 59 RX0 yX0_idle wsX0_idle) := goodIn_app (goodIn_of _ (by decide +kernel)) ggL_idle_X0_idle
theorem dL_idle_0 : decode cL_idle 0 = .ok (.aload_n 3, 1) := by decide +kernel
theorem dL_idle_1 : decode cL_idle 1 = .ok (.iconst 0, 1) := by decide +kernel
theorem dL_idle_2 : decode cL_idle 2 = .ok (.aload_n 0, 1) := by decide +kernel
theorem dL_idle_3 : decode cL_idle 3 = .ok (.iload_n 1, 1) := by decide +kernel
theorem dL_idle_4 : decode cL_idle 4 = .ok (.iload_n 2, 1) := by decide +kernel
theorem dL_idle_5 : decode cL_idle 5 = .ok (.invokevirtual 59, 3) := by decide +kernel
theorem dL_idle_8 : decode cL_idle 8 = .ok (.i2l, 1) := by decide +kernel
theorem dL_idle_9 : decode cL_idle 9 = .ok (.lastore, 1) := by decide +kernel
theorem dL_idle_10 : decode cL_idle 10 = .ok (.goto 11, 3) := by decide +kernel
theorem dL_idle_13 : decode cL_idle 13 = .ok (.astore 4, 2) := by decide +kernel
theorem dL_idle_15 : decode cL_idle 15 = .ok (.iconst 1, 1) := by decide +kernel
theorem dL_idle_16 : decode cL_idle 16 = .ok (.ireturn, 1) := by decide +kernel
theorem dL_idle_17 : decode cL_idle 17 = .ok (.astore 4, 2) := by decide +kernel
theorem dL_idle_19 : decode cL_idle 19 = .ok (.iconst 2, 1) := by decide +kernel
theorem dL_idle_20 : decode cL_idle 20 = .ok (.ireturn, 1) := by decide +kernel
theorem dL_idle_21 : decode cL_idle 21 = .ok (.iconst 0, 1) := by decide +kernel
theorem dL_idle_22 : decode cL_idle 22 = .ok (.ireturn, 1) := by decide +kernel
set_option maxRecDepth 20000 in
theorem ggL_machineBound_X0_machineBound : GoodIn wsL_machineBound wsX0_machineBound := goodIn_ca (goodIn_r _ [6, 7, 8, 9, 10, 5, 11, 12, 13, 14, 15, 16, 17, 18, 19, 20, 21, 22, 23, 24, 25, 26, 27, 28, 29, 30, 31, 32, 33, 34, 35, 36, 37, 38, 39, 40, 41, 42, 43, 44, 45, 46, 47, 48, 49, 50, 51] (by decide +kernel) (by decide +kernel)) (goodIn_sub (fun _ h => List.mem_cons_of_mem _ (List.mem_append_right _ h)) (by decide +kernel))
set_option maxRecDepth 20000 in
theorem gL_machineBound_X0_machineBound : GoodIn wsL_machineBound (wsV RL 62 RX0 yX0_machineBound wsX0_machineBound) := goodIn_app (goodIn_of _ (by decide +kernel)) ggL_machineBound_X0_machineBound
theorem dL_machineBound_0 : decode cL_machineBound 0 = .ok (.aload_n 2, 1) := by decide +kernel
theorem dL_machineBound_1 : decode cL_machineBound 1 = .ok (.iconst 0, 1) := by decide +kernel
theorem dL_machineBound_2 : decode cL_machineBound 2 = .ok (.aload_n 0, 1) := by decide +kernel
theorem dL_machineBound_3 : decode cL_machineBound 3 = .ok (.iload_n 1, 1) := by decide +kernel
theorem dL_machineBound_4 : decode cL_machineBound 4 = .ok (.invokevirtual 62, 3) := by decide +kernel
theorem dL_machineBound_7 : decode cL_machineBound 7 = .ok (.i2l, 1) := by decide +kernel
theorem dL_machineBound_8 : decode cL_machineBound 8 = .ok (.lastore, 1) := by decide +kernel
theorem dL_machineBound_9 : decode cL_machineBound 9 = .ok (.goto 6, 3) := by decide +kernel
theorem dL_machineBound_12 : decode cL_machineBound 12 = .ok (.astore_n 3, 1) := by decide +kernel
theorem dL_machineBound_13 : decode cL_machineBound 13 = .ok (.iconst 1, 1) := by decide +kernel
theorem dL_machineBound_14 : decode cL_machineBound 14 = .ok (.ireturn, 1) := by decide +kernel
theorem dL_machineBound_15 : decode cL_machineBound 15 = .ok (.iconst 0, 1) := by decide +kernel
theorem dL_machineBound_16 : decode cL_machineBound 16 = .ok (.ireturn, 1) := by decide +kernel
set_option maxRecDepth 20000 in
theorem ggL_pairBound_X0_pairBound : GoodIn wsL_pairBound wsX0_pairBound := goodIn_ca (goodIn_ca (goodIn_r _ [7, 8, 9, 10, 11, 12, 13, 6, 14, 15, 16, 17, 18, 19, 20, 21, 22, 23, 24, 25, 26, 27, 28, 29, 30, 31, 32, 33, 34, 35, 36, 37, 38, 39, 40, 41, 42, 43, 44, 45, 46, 47, 48, 49, 50, 51, 52, 53, 54, 55, 56, 57, 58, 59, 60, 61, 62, 63, 64, 65, 66] (by decide +kernel) (by decide +kernel)) (goodIn_sub (fun _ h => List.mem_cons_of_mem _ (List.mem_append_left _ (List.mem_append_right _ h))) (by decide +kernel))) (goodIn_sub (fun _ h => List.mem_cons_of_mem _ (List.mem_append_right _ h)) (by decide +kernel))
set_option maxRecDepth 20000 in
theorem gL_pairBound_X0_pairBound : GoodIn wsL_pairBound (wsV RL 65 RX0 yX0_pairBound wsX0_pairBound) := goodIn_app (goodIn_of _ (by decide +kernel)) ggL_pairBound_X0_pairBound
theorem dL_pairBound_0 : decode cL_pairBound 0 = .ok (.aload_n 3, 1) := by decide +kernel
theorem dL_pairBound_1 : decode cL_pairBound 1 = .ok (.iconst 0, 1) := by decide +kernel
theorem dL_pairBound_2 : decode cL_pairBound 2 = .ok (.aload_n 0, 1) := by decide +kernel
theorem dL_pairBound_3 : decode cL_pairBound 3 = .ok (.iload_n 1, 1) := by decide +kernel
theorem dL_pairBound_4 : decode cL_pairBound 4 = .ok (.iload_n 2, 1) := by decide +kernel
theorem dL_pairBound_5 : decode cL_pairBound 5 = .ok (.invokevirtual 65, 3) := by decide +kernel
theorem dL_pairBound_8 : decode cL_pairBound 8 = .ok (.i2l, 1) := by decide +kernel
theorem dL_pairBound_9 : decode cL_pairBound 9 = .ok (.lastore, 1) := by decide +kernel
theorem dL_pairBound_10 : decode cL_pairBound 10 = .ok (.goto 11, 3) := by decide +kernel
theorem dL_pairBound_13 : decode cL_pairBound 13 = .ok (.astore 4, 2) := by decide +kernel
theorem dL_pairBound_15 : decode cL_pairBound 15 = .ok (.iconst 1, 1) := by decide +kernel
theorem dL_pairBound_16 : decode cL_pairBound 16 = .ok (.ireturn, 1) := by decide +kernel
theorem dL_pairBound_17 : decode cL_pairBound 17 = .ok (.astore 4, 2) := by decide +kernel
theorem dL_pairBound_19 : decode cL_pairBound 19 = .ok (.iconst 2, 1) := by decide +kernel
theorem dL_pairBound_20 : decode cL_pairBound 20 = .ok (.ireturn, 1) := by decide +kernel
theorem dL_pairBound_21 : decode cL_pairBound 21 = .ok (.iconst 0, 1) := by decide +kernel
theorem dL_pairBound_22 : decode cL_pairBound 22 = .ok (.ireturn, 1) := by decide +kernel
set_option maxRecDepth 20000 in
theorem ggL_best_X0_best : GoodIn wsL_best wsX0_best := goodIn_ca (goodIn_r _ [6, 7, 8, 9, 5, 10, 11, 12, 13, 14, 15, 16, 17, 18, 19, 20, 21, 22, 23, 24, 25, 26, 27, 28, 29, 30, 31, 32, 33, 34, 35, 36, 37, 38, 39, 40, 41, 42, 43, 44, 45, 46, 47, 48, 49, 50, 51, 52, 53, 54, 55, 56, 57, 58, 59, 60, 61, 62, 63, 64, 65, 66, 67, 68, 69, 70, 71, 72, 73, 74, 75, 76, 77, 78, 79, 80, 81] (by decide +kernel) (by decide +kernel)) (goodIn_sub (fun _ h => List.mem_cons_of_mem _ (List.mem_append_right _ h)) (by decide +kernel))
set_option maxRecDepth 20000 in
theorem gL_best_X0_best : GoodIn wsL_best (wsV RL 68 RX0 yX0_best wsX0_best) := goodIn_app (goodIn_of _ (by decide +kernel)) ggL_best_X0_best
theorem dL_best_0 : decode cL_best 0 = .ok (.aload_n 2, 1) := by decide +kernel
theorem dL_best_1 : decode cL_best 1 = .ok (.iconst 0, 1) := by decide +kernel
theorem dL_best_2 : decode cL_best 2 = .ok (.aload_n 0, 1) := by decide +kernel
theorem dL_best_3 : decode cL_best 3 = .ok (.iload_n 1, 1) := by decide +kernel
theorem dL_best_4 : decode cL_best 4 = .ok (.invokevirtual 68, 3) := by decide +kernel
theorem dL_best_7 : decode cL_best 7 = .ok (.i2l, 1) := by decide +kernel
theorem dL_best_8 : decode cL_best 8 = .ok (.lastore, 1) := by decide +kernel
theorem dL_best_9 : decode cL_best 9 = .ok (.goto 6, 3) := by decide +kernel
theorem dL_best_12 : decode cL_best 12 = .ok (.astore_n 3, 1) := by decide +kernel
theorem dL_best_13 : decode cL_best 13 = .ok (.iconst 1, 1) := by decide +kernel
theorem dL_best_14 : decode cL_best 14 = .ok (.ireturn, 1) := by decide +kernel
theorem dL_best_15 : decode cL_best 15 = .ok (.iconst 0, 1) := by decide +kernel
theorem dL_best_16 : decode cL_best 16 = .ok (.ireturn, 1) := by decide +kernel
set_option maxRecDepth 20000 in
theorem ggL_bestAt_X0_bestAt : GoodIn wsL_bestAt wsX0_bestAt := goodIn_ca (goodIn_ca (goodIn_r _ [7, 8, 9, 10, 6, 11, 12, 13, 14, 15, 16, 17, 18, 19, 20, 21, 22, 23, 24, 25, 26, 27, 28, 29, 30, 31, 32, 33, 34, 35, 36, 37, 38, 39, 40, 41, 42, 43, 44, 45, 46, 47, 48, 49, 50, 51, 52, 53, 54, 55, 56, 57, 58, 59, 60, 61, 62, 63, 64, 65, 66, 67, 68, 69, 70, 71, 72, 73, 74, 75, 76, 77, 78, 79, 80, 81, 82, 83, 84, 85, 86, 87, 88] (by decide +kernel) (by decide +kernel)) (goodIn_sub (fun _ h => List.mem_cons_of_mem _ (List.mem_append_left _ (List.mem_append_right _ h))) (by decide +kernel))) (goodIn_sub (fun _ h => List.mem_cons_of_mem _ (List.mem_append_right _ h)) (by decide +kernel))
set_option maxRecDepth 20000 in
theorem gL_bestAt_X0_bestAt : GoodIn wsL_bestAt (wsV RL 71 RX0 yX0_bestAt wsX0_bestAt) := goodIn_app (goodIn_of _ (by decide +kernel)) ggL_bestAt_X0_bestAt
theorem dL_bestAt_0 : decode cL_bestAt 0 = .ok (.aload_n 3, 1) := by decide +kernel
theorem dL_bestAt_1 : decode cL_bestAt 1 = .ok (.iconst 0, 1) := by decide +kernel
theorem dL_bestAt_2 : decode cL_bestAt 2 = .ok (.aload_n 0, 1) := by decide +kernel
theorem dL_bestAt_3 : decode cL_bestAt 3 = .ok (.iload_n 1, 1) := by decide +kernel
theorem dL_bestAt_4 : decode cL_bestAt 4 = .ok (.iload_n 2, 1) := by decide +kernel
theorem dL_bestAt_5 : decode cL_bestAt 5 = .ok (.invokevirtual 71, 3) := by decide +kernel
theorem dL_bestAt_8 : decode cL_bestAt 8 = .ok (.i2l, 1) := by decide +kernel
theorem dL_bestAt_9 : decode cL_bestAt 9 = .ok (.lastore, 1) := by decide +kernel
theorem dL_bestAt_10 : decode cL_bestAt 10 = .ok (.goto 11, 3) := by decide +kernel
theorem dL_bestAt_13 : decode cL_bestAt 13 = .ok (.astore 4, 2) := by decide +kernel
theorem dL_bestAt_15 : decode cL_bestAt 15 = .ok (.iconst 1, 1) := by decide +kernel
theorem dL_bestAt_16 : decode cL_bestAt 16 = .ok (.ireturn, 1) := by decide +kernel
theorem dL_bestAt_17 : decode cL_bestAt 17 = .ok (.astore 4, 2) := by decide +kernel
theorem dL_bestAt_19 : decode cL_bestAt 19 = .ok (.iconst 2, 1) := by decide +kernel
theorem dL_bestAt_20 : decode cL_bestAt 20 = .ok (.ireturn, 1) := by decide +kernel
theorem dL_bestAt_21 : decode cL_bestAt 21 = .ok (.iconst 0, 1) := by decide +kernel
theorem dL_bestAt_22 : decode cL_bestAt 22 = .ok (.ireturn, 1) := by decide +kernel
set_option maxRecDepth 20000 in
theorem ggL_bestOrders_X0_bestOrders : GoodIn wsL_bestOrders wsX0_bestOrders := goodIn_ca (goodIn_r _ [6, 7, 8, 9, 5, 10, 11, 12, 13, 14, 15, 16, 17, 18, 19, 20, 21, 22, 23, 24, 25, 26, 27, 28, 29, 30, 31, 32, 33, 34, 35, 36, 37, 38, 39, 40, 41, 42, 43, 44, 45, 46, 47, 48, 49, 50, 51, 52, 53, 54, 55, 56, 57, 58, 59, 60, 61, 62, 63, 64, 65, 66, 67, 68, 69, 70, 71, 72, 73, 74, 75, 76, 77, 78, 79, 80, 81] (by decide +kernel) (by decide +kernel)) (goodIn_sub (fun _ h => List.mem_cons_of_mem _ (List.mem_append_right _ h)) (by decide +kernel))
set_option maxRecDepth 20000 in
theorem gL_bestOrders_X0_bestOrders : GoodIn wsL_bestOrders (wsV RL 74 RX0 yX0_bestOrders wsX0_bestOrders) := goodIn_app (goodIn_of _ (by decide +kernel)) ggL_bestOrders_X0_bestOrders
theorem dL_bestOrders_0 : decode cL_bestOrders 0 = .ok (.aload_n 2, 1) := by decide +kernel
theorem dL_bestOrders_1 : decode cL_bestOrders 1 = .ok (.iconst 0, 1) := by decide +kernel
theorem dL_bestOrders_2 : decode cL_bestOrders 2 = .ok (.aload_n 0, 1) := by decide +kernel
theorem dL_bestOrders_3 : decode cL_bestOrders 3 = .ok (.iload_n 1, 1) := by decide +kernel
theorem dL_bestOrders_4 : decode cL_bestOrders 4 = .ok (.invokevirtual 74, 3) := by decide +kernel
theorem dL_bestOrders_7 : decode cL_bestOrders 7 = .ok (.i2l, 1) := by decide +kernel
theorem dL_bestOrders_8 : decode cL_bestOrders 8 = .ok (.lastore, 1) := by decide +kernel
theorem dL_bestOrders_9 : decode cL_bestOrders 9 = .ok (.goto 6, 3) := by decide +kernel
theorem dL_bestOrders_12 : decode cL_bestOrders 12 = .ok (.astore_n 3, 1) := by decide +kernel
theorem dL_bestOrders_13 : decode cL_bestOrders 13 = .ok (.iconst 1, 1) := by decide +kernel
theorem dL_bestOrders_14 : decode cL_bestOrders 14 = .ok (.ireturn, 1) := by decide +kernel
theorem dL_bestOrders_15 : decode cL_bestOrders 15 = .ok (.iconst 0, 1) := by decide +kernel
theorem dL_bestOrders_16 : decode cL_bestOrders 16 = .ok (.ireturn, 1) := by decide +kernel
