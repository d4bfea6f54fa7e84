theorem dX0_init_0 : decode cX0_init 0 = .ok (.aload_n 0, 1) := by decide +kernel
theorem dX0_init_1 : decode cX0_init 1 = .ok (.invokespecial 1, 3) := by decide +kernel
theorem dX0_init_4 : decode cX0_init 4 = .ok (.aload_n 0, 1) := by decide +kernel
theorem dX0_init_5 : decode cX0_init 5 = .ok (.iconst 0, 1) := by decide +kernel
theorem dX0_init_6 : decode cX0_init 6 = .ok (.putfield 7, 3) := by decide +kernel
theorem dX0_init_9 : decode cX0_init 9 = .ok (.aload_n 0, 1) := by decide +kernel
theorem dX0_init_10 : decode cX0_init 10 = .ok (.iconst 2, 1) := by decide +kernel
theorem dX0_init_11 : decode cX0_init 11 = .ok (.putfield 13, 3) := by decide +kernel
theorem dX0_init_14 : decode cX0_init 14 = .ok (.aload_n 0, 1) := by decide +kernel
theorem dX0_init_15 : decode cX0_init 15 = .ok (.bipush 35, 2) := by decide +kernel
theorem dX0_init_17 : decode cX0_init 17 = .ok (.newarray .int, 2) := by decide +kernel
theorem dX0_init_19 : decode cX0_init 19 = .ok (.putfield 16, 3) := by decide +kernel
theorem dX0_init_22 : decode cX0_init 22 = .ok (.aload_n 0, 1) := by decide +kernel
theorem dX0_init_23 : decode cX0_init 23 = .ok (.bipush 35, 2) := by decide +kernel
theorem dX0_init_25 : decode cX0_init 25 = .ok (.newarray .int, 2) := by decide +kernel
theorem dX0_init_27 : decode cX0_init 27 = .ok (.putfield 20, 3) := by decide +kernel
theorem dX0_init_30 : decode cX0_init 30 = .ok (.aload_n 0, 1) := by decide +kernel
theorem dX0_init_31 : decode cX0_init 31 = .ok (.bipush 35, 2) := by decide +kernel
theorem dX0_init_33 : decode cX0_init 33 = .ok (.newarray .int, 2) := by decide +kernel
theorem dX0_init_35 : decode cX0_init 35 = .ok (.putfield 23, 3) := by decide +kernel
theorem dX0_init_38 : decode cX0_init 38 = .ok (.aload_n 0, 1) := by decide +kernel
theorem dX0_init_39 : decode cX0_init 39 = .ok (.bipush 35, 2) := by decide +kernel
theorem dX0_init_41 : decode cX0_init 41 = .ok (.newarray .int, 2) := by decide +kernel
theorem dX0_init_43 : decode cX0_init 43 = .ok (.putfield 26, 3) := by decide +kernel
theorem dX0_init_46 : decode cX0_init 46 = .ok (.aload_n 0, 1) := by decide +kernel
theorem dX0_init_47 : decode cX0_init 47 = .ok (.bipush 7, 2) := by decide +kernel
theorem dX0_init_49 : decode cX0_init 49 = .ok (.newarray .int, 2) := by decide +kernel
theorem dX0_init_51 : decode cX0_init 51 = .ok (.putfield 29, 3) := by decide +kernel
theorem dX0_init_54 : decode cX0_init 54 = .ok (.aload_n 0, 1) := by decide +kernel
theorem dX0_init_55 : decode cX0_init 55 = .ok (.bipush 7, 2) := by decide +kernel
theorem dX0_init_57 : decode cX0_init 57 = .ok (.newarray .int, 2) := by decide +kernel
theorem dX0_init_59 : decode cX0_init 59 = .ok (.putfield 32, 3) := by decide +kernel
theorem dX0_init_62 : decode cX0_init 62 = .ok (.aload_n 0, 1) := by decide +kernel
theorem dX0_init_63 : decode cX0_init 63 = .ok (.bipush 7, 2) := by decide +kernel
theorem dX0_init_65 : decode cX0_init 65 = .ok (.newarray .int, 2) := by decide +kernel
theorem dX0_init_67 : decode cX0_init 67 = .ok (.putfield 35, 3) := by decide +kernel
theorem dX0_init_70 : decode cX0_init 70 = .ok (.aload_n 0, 1) := by decide +kernel
theorem dX0_init_71 : decode cX0_init 71 = .ok (.iconst 3, 1) := by decide +kernel
theorem dX0_init_72 : decode cX0_init 72 = .ok (.newarray .boolean, 2) := by decide +kernel
theorem dX0_init_74 : decode cX0_init 74 = .ok (.putfield 38, 3) := by decide +kernel
theorem dX0_init_77 : decode cX0_init 77 = .ok (.aload_n 0, 1) := by decide +kernel
theorem dX0_init_78 : decode cX0_init 78 = .ok (.iconst 3, 1) := by decide +kernel
theorem dX0_init_79 : decode cX0_init 79 = .ok (.newarray .int, 2) := by decide +kernel
theorem dX0_init_81 : decode cX0_init 81 = .ok (.putfield 42, 3) := by decide +kernel
theorem dX0_init_84 : decode cX0_init 84 = .ok (.aload_n 0, 1) := by decide +kernel
theorem dX0_init_85 : decode cX0_init 85 = .ok (.iconst 3, 1) := by decide +kernel
theorem dX0_init_86 : decode cX0_init 86 = .ok (.newarray .int, 2) := by decide +kernel
theorem dX0_init_88 : decode cX0_init 88 = .ok (.putfield 45, 3) := by decide +kernel
theorem dX0_init_91 : decode cX0_init 91 = .ok (.aload_n 0, 1) := by decide +kernel
theorem dX0_init_92 : decode cX0_init 92 = .ok (.bipush 21, 2) := by decide +kernel
theorem dX0_init_94 : decode cX0_init 94 = .ok (.newarray .int, 2) := by decide +kernel
theorem dX0_init_96 : decode cX0_init 96 = .ok (.putfield 48, 3) := by decide +kernel
theorem dX0_init_99 : decode cX0_init 99 = .ok (.return_, 1) := by decide +kernel
set_option maxRecDepth 20000 in
theorem ggX0_addJob_X0_forgetBestOrders : GoodIn wsX0_addJob wsX0_forgetBestOrders := goodIn_r _ [9, 10, 11, 12, 13, 14, 15, 16, 17, 18, 19, 20, 21, 22, 23] (by decide +kernel) (by decide +kernel)
set_option maxRecDepth 20000 in
theorem gX0_addJob_X0_forgetBestOrders : GoodIn wsX0_addJob (wsV RX0 58 RX0 yX0_forgetBestOrders wsX0_forgetBestOrders) := goodIn_app (goodIn_of _ (by decide +kernel)) ggX0_addJob_X0_forgetBestOrders
theorem dX0_addJob_0 : decode cX0_addJob 0 = .ok (.aload_n 0, 1) := by decide +kernel
theorem dX0_addJob_1 : decode cX0_addJob 1 = .ok (.getfield 7, 3) := by decide +kernel
theorem dX0_addJob_4 : decode cX0_addJob 4 = .ok (.bipush 7, 2) := by decide +kernel
theorem dX0_addJob_6 : decode cX0_addJob 6 = .ok (.if_icmp .lt 13, 3) := by decide +kernel
theorem dX0_addJob_9 : decode cX0_addJob 9 = .ok (.new 51, 3) := by decide +kernel
theorem dX0_addJob_12 : decode cX0_addJob 12 = .ok (.dup, 1) := by decide +kernel
theorem dX0_addJob_13 : decode cX0_addJob 13 = .ok (.ldc 53, 2) := by decide +kernel
theorem dX0_addJob_15 : decode cX0_addJob 15 = .ok (.invokespecial 55, 3) := by decide +kernel
theorem dX0_addJob_18 : decode cX0_addJob 18 = .ok (.athrow, 1) := by decide +kernel
theorem dX0_addJob_19 : decode cX0_addJob 19 = .ok (.aload_n 0, 1) := by decide +kernel
theorem dX0_addJob_20 : decode cX0_addJob 20 = .ok (.getfield 7, 3) := by decide +kernel
theorem dX0_addJob_23 : decode cX0_addJob 23 = .ok (.istore_n 1, 1) := by decide +kernel
theorem dX0_addJob_24 : decode cX0_addJob 24 = .ok (.aload_n 0, 1) := by decide +kernel
theorem dX0_addJob_25 : decode cX0_addJob 25 = .ok (.getfield 29, 3) := by decide +kernel
theorem dX0_addJob_28 : decode cX0_addJob 28 = .ok (.iload_n 1, 1) := by decide +kernel
theorem dX0_addJob_29 : decode cX0_addJob 29 = .ok (.iload_n 1, 1) := by decide +kernel
theorem dX0_addJob_30 : decode cX0_addJob 30 = .ok (.iastore, 1) := by decide +kernel
theorem dX0_addJob_31 : decode cX0_addJob 31 = .ok (.aload_n 0, 1) := by decide +kernel
theorem dX0_addJob_32 : decode cX0_addJob 32 = .ok (.iload_n 1, 1) := by decide +kernel
theorem dX0_addJob_33 : decode cX0_addJob 33 = .ok (.iconst 1, 1) := by decide +kernel
theorem dX0_addJob_34 : decode cX0_addJob 34 = .ok (.iadd, 1) := by decide +kernel
theorem dX0_addJob_35 : decode cX0_addJob 35 = .ok (.putfield 7, 3) := by decide +kernel
theorem dX0_addJob_38 : decode cX0_addJob 38 = .ok (.aload_n 0, 1) := by decide +kernel
theorem dX0_addJob_39 : decode cX0_addJob 39 = .ok (.invokevirtual 58, 3) := by decide +kernel
theorem dX0_addJob_42 : decode cX0_addJob 42 = .ok (.iload_n 1, 1) := by decide +kernel
theorem dX0_addJob_43 : decode cX0_addJob 43 = .ok (.ireturn, 1) := by decide +kernel
set_option maxRecDepth 20000 in
theorem ggX0_setMachines_X0_cell : GoodIn wsX0_setMachines wsX0_cell := goodIn_r _ [9] (by decide +kernel) (by decide +kernel)
set_option maxRecDepth 20000 in
theorem gX0_setMachines_X0_cell : GoodIn wsX0_setMachines (va_wsS RX0 66 yX0_cell wsX0_cell) := goodIn_app (goodIn_of _ (by decide +kernel)) ggX0_setMachines_X0_cell
set_option maxRecDepth 20000 in
theorem ggX0_setMachines_X0_forgetBestOrders : GoodIn wsX0_setMachines wsX0_forgetBestOrders := goodIn_r _ [13, 14, 15, 16, 17, 18, 19, 20, 21, 22, 23, 24, 25, 26, 27] (by decide +kernel) (by decide +kernel)
set_option maxRecDepth 20000 in
theorem gX0_setMachines_X0_forgetBestOrders : GoodIn wsX0_setMachines (wsV RX0 58 RX0 yX0_forgetBestOrders wsX0_forgetBestOrders) := goodIn_app (goodIn_of _ (by decide +kernel)) ggX0_setMachines_X0_forgetBestOrders
theorem dX0_setMachines_0 : decode cX0_setMachines 0 = .ok (.iload_n 1, 1) := by decide +kernel
theorem dX0_setMachines_1 : decode cX0_setMachines 1 = .ok (.iconst 1, 1) := by decide +kernel
theorem dX0_setMachines_2 : decode cX0_setMachines 2 = .ok (.if_icmp .lt 8, 3) := by decide +kernel
theorem dX0_setMachines_5 : decode cX0_setMachines 5 = .ok (.iload_n 1, 1) := by decide +kernel
theorem dX0_setMachines_6 : decode cX0_setMachines 6 = .ok (.iconst 5, 1) := by decide +kernel
theorem dX0_setMachines_7 : decode cX0_setMachines 7 = .ok (.if_icmp .le 13, 3) := by decide +kernel
theorem dX0_setMachines_10 : decode cX0_setMachines 10 = .ok (.new 61, 3) := by decide +kernel
theorem dX0_setMachines_13 : decode cX0_setMachines 13 = .ok (.dup, 1) := by decide +kernel
theorem dX0_setMachines_14 : decode cX0_setMachines 14 = .ok (.ldc 63, 2) := by decide +kernel
theorem dX0_setMachines_16 : decode cX0_setMachines 16 = .ok (.invokespecial 65, 3) := by decide +kernel
theorem dX0_setMachines_19 : decode cX0_setMachines 19 = .ok (.athrow, 1) := by decide +kernel
theorem dX0_setMachines_20 : decode cX0_setMachines 20 = .ok (.aload_n 0, 1) := by decide +kernel
theorem dX0_setMachines_21 : decode cX0_setMachines 21 = .ok (.getfield 13, 3) := by decide +kernel
theorem dX0_setMachines_24 : decode cX0_setMachines 24 = .ok (.istore_n 2, 1) := by decide +kernel
theorem dX0_setMachines_25 : decode cX0_setMachines 25 = .ok (.iconst 0, 1) := by decide +kernel
theorem dX0_setMachines_26 : decode cX0_setMachines 26 = .ok (.istore_n 3, 1) := by decide +kernel
theorem dX0_setMachines_27 : decode cX0_setMachines 27 = .ok (.iload_n 3, 1) := by decide +kernel
theorem dX0_setMachines_28 : decode cX0_setMachines 28 = .ok (.aload_n 0, 1) := by decide +kernel
theorem dX0_setMachines_29 : decode cX0_setMachines 29 = .ok (.getfield 7, 3) := by decide +kernel
theorem dX0_setMachines_32 : decode cX0_setMachines 32 = .ok (.if_icmp .ge 36, 3) := by decide +kernel
theorem dX0_setMachines_35 : decode cX0_setMachines 35 = .ok (.iload_n 1, 1) := by decide +kernel
theorem dX0_setMachines_36 : decode cX0_setMachines 36 = .ok (.istore 4, 2) := by decide +kernel
theorem dX0_setMachines_38 : decode cX0_setMachines 38 = .ok (.iload 4, 2) := by decide +kernel
theorem dX0_setMachines_40 : decode cX0_setMachines 40 = .ok (.iconst 5, 1) := by decide +kernel
theorem dX0_setMachines_41 : decode cX0_setMachines 41 = .ok (.if_icmp .ge 21, 3) := by decide +kernel
theorem dX0_setMachines_44 : decode cX0_setMachines 44 = .ok (.aload_n 0, 1) := by decide +kernel
theorem dX0_setMachines_45 : decode cX0_setMachines 45 = .ok (.getfield 16, 3) := by decide +kernel
theorem dX0_setMachines_48 : decode cX0_setMachines 48 = .ok (.iload_n 3, 1) := by decide +kernel
theorem dX0_setMachines_49 : decode cX0_setMachines 49 = .ok (.iload 4, 2) := by decide +kernel
theorem dX0_setMachines_51 : decode cX0_setMachines 51 = .ok (.invokestatic 66, 3) := by decide +kernel
theorem dX0_setMachines_54 : decode cX0_setMachines 54 = .ok (.iconst 0, 1) := by decide +kernel
theorem dX0_setMachines_55 : decode cX0_setMachines 55 = .ok (.iastore, 1) := by decide +kernel
theorem dX0_setMachines_56 : decode cX0_setMachines 56 = .ok (.iinc 4 1, 3) := by decide +kernel
theorem dX0_setMachines_59 : decode cX0_setMachines 59 = .ok (.goto (-21), 3) := by decide +kernel
theorem dX0_setMachines_62 : decode cX0_setMachines 62 = .ok (.iinc 3 1, 3) := by decide +kernel
theorem dX0_setMachines_65 : decode cX0_setMachines 65 = .ok (.goto (-38), 3) := by decide +kernel
theorem dX0_setMachines_68 : decode cX0_setMachines 68 = .ok (.aload_n 0, 1) := by decide +kernel
theorem dX0_setMachines_69 : decode cX0_setMachines 69 = .ok (.iload_n 1, 1) := by decide +kernel
theorem dX0_setMachines_70 : decode cX0_setMachines 70 = .ok (.putfield 13, 3) := by decide +kernel
theorem dX0_setMachines_73 : decode cX0_setMachines 73 = .ok (.aload_n 0, 1) := by decide +kernel
theorem dX0_setMachines_74 : decode cX0_setMachines 74 = .ok (.invokevirtual 58, 3) := by decide +kernel
theorem dX0_setMachines_77 : decode cX0_setMachines 77 = .ok (.iload_n 2, 1) := by decide +kernel
theorem dX0_setMachines_78 : decode cX0_setMachines 78 = .ok (.ireturn, 1) := by decide +kernel
set_option maxRecDepth 20000 in
theorem ggX0_setTime_X0_requireJob : GoodIn wsX0_setTime wsX0_requireJob := goodIn_ca (goodIn_r _ [8, 9, 10, 11, 25, 26, 27, 28, 29, 30, 31, 32, 33, 34, 35, 36, 37] (by decide +kernel) (by decide +kernel)) (goodIn_sub (fun _ h => List.mem_cons_of_mem _ (List.mem_append_right _ h)) (by decide +kernel))
set_option maxRecDepth 20000 in
theorem gX0_setTime_X0_requireJob : GoodIn wsX0_setTime (wsV RX0 70 RX0 yX0_requireJob wsX0_requireJob) := goodIn_app (goodIn_of _ (by decide +kernel)) ggX0_setTime_X0_requireJob
set_option maxRecDepth 20000 in
theorem ggX0_setTime_X0_requireMachine : GoodIn wsX0_setTime wsX0_requireMachine := goodIn_ca (goodIn_r _ [15, 9, 10, 16, 25, 26, 27, 28, 29, 30, 31, 32, 33, 34, 35, 36, 37] (by decide +kernel) (by decide +kernel)) (goodIn_sub (fun _ h => List.mem_cons_of_mem _ (List.mem_append_right _ h)) (by decide +kernel))
set_option maxRecDepth 20000 in
theorem gX0_setTime_X0_requireMachine : GoodIn wsX0_setTime (wsV RX0 74 RX0 yX0_requireMachine wsX0_requireMachine) := goodIn_app (goodIn_of _ (by decide +kernel)) ggX0_setTime_X0_requireMachine
set_option maxRecDepth 20000 in
theorem ggX0_setTime_X0_cell : GoodIn wsX0_setTime wsX0_cell := goodIn_r _ [19] (by decide +kernel) (by decide +kernel)
set_option maxRecDepth 20000 in
theorem gX0_setTime_X0_cell : GoodIn wsX0_setTime (va_wsS RX0 66 yX0_cell wsX0_cell) := goodIn_app (goodIn_of _ (by decide +kernel)) ggX0_setTime_X0_cell
set_option maxRecDepth 20000 in
theorem ggX0_setTime_X0_forgetBestOrders : GoodIn wsX0_setTime wsX0_forgetBestOrders := goodIn_r _ [23, 24, 25, 26, 27, 28, 29, 30, 31, 32, 33, 34, 35, 36, 37] (by decide +kernel) (by decide +kernel)
set_option maxRecDepth 20000 in
theorem gX0_setTime_X0_forgetBestOrders : GoodIn wsX0_setTime (wsV RX0 58 RX0 yX0_forgetBestOrders wsX0_forgetBestOrders) := goodIn_app (goodIn_of _ (by decide +kernel)) ggX0_setTime_X0_forgetBestOrders
theorem dX0_setTime_0 : decode cX0_setTime 0 = .ok (.aload_n 0, 1) := by decide +kernel
theorem dX0_setTime_1 : decode cX0_setTime 1 = .ok (.iload_n 1, 1) := by decide +kernel
theorem dX0_setTime_2 : decode cX0_setTime 2 = .ok (.invokevirtual 70, 3) := by decide +kernel
theorem dX0_setTime_5 : decode cX0_setTime 5 = .ok (.aload_n 0, 1) := by decide +kernel
theorem dX0_setTime_6 : decode cX0_setTime 6 = .ok (.iload_n 2, 1) := by decide +kernel
theorem dX0_setTime_7 : decode cX0_setTime 7 = .ok (.invokevirtual 74, 3) := by decide +kernel
theorem dX0_setTime_10 : decode cX0_setTime 10 = .ok (.iload_n 3, 1) := by decide +kernel
theorem dX0_setTime_11 : decode cX0_setTime 11 = .ok (.ifCond .lt 9, 3) := by decide +kernel
theorem dX0_setTime_14 : decode cX0_setTime 14 = .ok (.iload_n 3, 1) := by decide +kernel
theorem dX0_setTime_15 : decode cX0_setTime 15 = .ok (.bipush 99, 2) := by decide +kernel
theorem dX0_setTime_17 : decode cX0_setTime 17 = .ok (.if_icmp .le 13, 3) := by decide +kernel
theorem dX0_setTime_20 : decode cX0_setTime 20 = .ok (.new 61, 3) := by decide +kernel
theorem dX0_setTime_23 : decode cX0_setTime 23 = .ok (.dup, 1) := by decide +kernel
theorem dX0_setTime_24 : decode cX0_setTime 24 = .ok (.ldc 77, 2) := by decide +kernel
theorem dX0_setTime_26 : decode cX0_setTime 26 = .ok (.invokespecial 65, 3) := by decide +kernel
theorem dX0_setTime_29 : decode cX0_setTime 29 = .ok (.athrow, 1) := by decide +kernel
theorem dX0_setTime_30 : decode cX0_setTime 30 = .ok (.aload_n 0, 1) := by decide +kernel
theorem dX0_setTime_31 : decode cX0_setTime 31 = .ok (.getfield 16, 3) := by decide +kernel
theorem dX0_setTime_34 : decode cX0_setTime 34 = .ok (.iload_n 1, 1) := by decide +kernel
theorem dX0_setTime_35 : decode cX0_setTime 35 = .ok (.iload_n 2, 1) := by decide +kernel
theorem dX0_setTime_36 : decode cX0_setTime 36 = .ok (.invokestatic 66, 3) := by decide +kernel
theorem dX0_setTime_39 : decode cX0_setTime 39 = .ok (.iaload, 1) := by decide +kernel
theorem dX0_setTime_40 : decode cX0_setTime 40 = .ok (.istore 4, 2) := by decide +kernel
theorem dX0_setTime_42 : decode cX0_setTime 42 = .ok (.aload_n 0, 1) := by decide +kernel
theorem dX0_setTime_43 : decode cX0_setTime 43 = .ok (.getfield 16, 3) := by decide +kernel
theorem dX0_setTime_46 : decode cX0_setTime 46 = .ok (.iload_n 1, 1) := by decide +kernel
theorem dX0_setTime_47 : decode cX0_setTime 47 = .ok (.iload_n 2, 1) := by decide +kernel
theorem dX0_setTime_48 : decode cX0_setTime 48 = .ok (.invokestatic 66, 3) := by decide +kernel
theorem dX0_setTime_51 : decode cX0_setTime 51 = .ok (.iload_n 3, 1) := by decide +kernel
theorem dX0_setTime_52 : decode cX0_setTime 52 = .ok (.iastore, 1) := by decide +kernel
theorem dX0_setTime_53 : decode cX0_setTime 53 = .ok (.aload_n 0, 1) := by decide +kernel
theorem dX0_setTime_54 : decode cX0_setTime 54 = .ok (.invokevirtual 58, 3) := by decide +kernel
theorem dX0_setTime_57 : decode cX0_setTime 57 = .ok (.iload 4, 2) := by decide +kernel
theorem dX0_setTime_59 : decode cX0_setTime 59 = .ok (.ireturn, 1) := by decide +kernel
theorem dX0_jobs_0 : decode cX0_jobs 0 = .ok (.aload_n 0, 1) := by decide +kernel
theorem dX0_jobs_1 : decode cX0_jobs 1 = .ok (.getfield 7, 3) := by decide +kernel
theorem dX0_jobs_4 : decode cX0_jobs 4 = .ok (.ireturn, 1) := by decide +kernel
theorem dX0_machines_0 : decode cX0_machines 0 = .ok (.aload_n 0, 1) := by decide +kernel
theorem dX0_machines_1 : decode cX0_machines 1 = .ok (.getfield 13, 3) := by decide +kernel
theorem dX0_machines_4 : decode cX0_machines 4 = .ok (.ireturn, 1) := by decide +kernel
set_option maxRecDepth 20000 in
theorem ggX0_move_X0_requireJob : GoodIn wsX0_move wsX0_requireJob := goodIn_ca (goodIn_r _ [6, 7, 8, 9, 21, 22, 23, 24, 25, 26, 27, 28, 29, 30, 31, 32, 33] (by decide +kernel) (by decide +kernel)) (goodIn_sub (fun _ h => List.mem_cons_of_mem _ (List.mem_append_right _ h)) (by decide +kernel))
set_option maxRecDepth 20000 in
theorem gX0_move_X0_requireJob : GoodIn wsX0_move (wsV RX0 70 RX0 yX0_requireJob wsX0_requireJob) := goodIn_app (goodIn_of _ (by decide +kernel)) ggX0_move_X0_requireJob
set_option maxRecDepth 20000 in
theorem ggX0_move_X0_requirePlace : GoodIn wsX0_move wsX0_requirePlace := goodIn_ca (goodIn_r _ [13, 7, 8, 9, 21, 22, 23, 24, 25, 26, 27, 28, 29, 30, 31, 32, 33] (by decide +kernel) (by decide +kernel)) (goodIn_sub (fun _ h => List.mem_cons_of_mem _ (List.mem_append_right _ h)) (by decide +kernel))
set_option maxRecDepth 20000 in
theorem gX0_move_X0_requirePlace : GoodIn wsX0_move (wsV RX0 79 RX0 yX0_requirePlace wsX0_requirePlace) := goodIn_app (goodIn_of _ (by decide +kernel)) ggX0_move_X0_requirePlace
set_option maxRecDepth 20000 in
theorem ggX0_move_X0_placeOf : GoodIn wsX0_move wsX0_placeOf := goodIn_r _ [17, 9, 1, 21, 22, 23, 24, 25, 26, 27, 28, 29, 30, 31, 32, 33] (by decide +kernel) (by decide +kernel)
set_option maxRecDepth 20000 in
theorem gX0_move_X0_placeOf : GoodIn wsX0_move (wsV RX0 82 RX0 yX0_placeOf wsX0_placeOf) := goodIn_app (goodIn_of _ (by decide +kernel)) ggX0_move_X0_placeOf
set_option maxRecDepth 20000 in
theorem ggX0_move_X0_shift : GoodIn wsX0_move wsX0_shift := goodIn_r _ [20] (by decide +kernel) (by decide +kernel)
set_option maxRecDepth 20000 in
theorem gX0_move_X0_shift : GoodIn wsX0_move (va_wsS RX0 86 yX0_shift wsX0_shift) := goodIn_app (goodIn_of _ (by decide +kernel)) ggX0_move_X0_shift
theorem dX0_move_0 : decode cX0_move 0 = .ok (.aload_n 0, 1) := by decide +kernel
theorem dX0_move_1 : decode cX0_move 1 = .ok (.iload_n 1, 1) := by decide +kernel
theorem dX0_move_2 : decode cX0_move 2 = .ok (.invokevirtual 70, 3) := by decide +kernel
theorem dX0_move_5 : decode cX0_move 5 = .ok (.aload_n 0, 1) := by decide +kernel
theorem dX0_move_6 : decode cX0_move 6 = .ok (.iload_n 2, 1) := by decide +kernel
theorem dX0_move_7 : decode cX0_move 7 = .ok (.invokevirtual 79, 3) := by decide +kernel
theorem dX0_move_10 : decode cX0_move 10 = .ok (.aload_n 0, 1) := by decide +kernel
theorem dX0_move_11 : decode cX0_move 11 = .ok (.iload_n 1, 1) := by decide +kernel
theorem dX0_move_12 : decode cX0_move 12 = .ok (.invokevirtual 82, 3) := by decide +kernel
theorem dX0_move_15 : decode cX0_move 15 = .ok (.istore_n 3, 1) := by decide +kernel
theorem dX0_move_16 : decode cX0_move 16 = .ok (.aload_n 0, 1) := by decide +kernel
theorem dX0_move_17 : decode cX0_move 17 = .ok (.getfield 29, 3) := by decide +kernel
theorem dX0_move_20 : decode cX0_move 20 = .ok (.iload_n 3, 1) := by decide +kernel
theorem dX0_move_21 : decode cX0_move 21 = .ok (.iload_n 2, 1) := by decide +kernel
theorem dX0_move_22 : decode cX0_move 22 = .ok (.invokestatic 86, 3) := by decide +kernel
theorem dX0_move_25 : decode cX0_move 25 = .ok (.iload_n 3, 1) := by decide +kernel
theorem dX0_move_26 : decode cX0_move 26 = .ok (.ireturn, 1) := by decide +kernel
set_option maxRecDepth 20000 in
theorem ggX0_orderByRule_X0_fillByRule : GoodIn wsX0_orderByRule wsX0_fillByRule := goodIn_r _ [9, 10, 11, 12, 13, 8, 14, 15, 16, 17, 18, 19, 20, 21, 22, 49, 50, 51, 52, 53, 54, 55, 56, 57, 58, 59, 60, 61] (by decide +kernel) (by decide +kernel)
set_option maxRecDepth 20000 in
theorem gX0_orderByRule_X0_fillByRule : GoodIn wsX0_orderByRule (wsV RX0 96 RX0 yX0_fillByRule wsX0_fillByRule) := goodIn_app (goodIn_of _ (by decide +kernel)) ggX0_orderByRule_X0_fillByRule
set_option maxRecDepth 20000 in
theorem ggX0_orderByRule_X0_scheduleOrder : GoodIn wsX0_orderByRule wsX0_scheduleOrder := goodIn_r _ [26, 10, 4, 27, 28, 29, 8, 30, 3, 31, 32, 33, 34, 35, 36, 37, 38, 39, 40, 41, 42, 43, 44, 20, 21, 22, 15, 16, 17, 18, 19, 45, 46, 47, 48, 49, 50, 51, 52, 53, 54, 55, 56, 57, 58, 59, 60, 61] (by decide +kernel) (by decide +kernel)
set_option maxRecDepth 20000 in
theorem gX0_orderByRule_X0_scheduleOrder : GoodIn wsX0_orderByRule (wsV RX0 99 RX0 yX0_scheduleOrder wsX0_scheduleOrder) := goodIn_app (goodIn_of _ (by decide +kernel)) ggX0_orderByRule_X0_scheduleOrder
theorem dX0_orderByRule_0 : decode cX0_orderByRule 0 = .ok (.aload_n 0, 1) := by decide +kernel
theorem dX0_orderByRule_1 : decode cX0_orderByRule 1 = .ok (.getfield 13, 3) := by decide +kernel
theorem dX0_orderByRule_4 : decode cX0_orderByRule 4 = .ok (.iconst 2, 1) := by decide +kernel
theorem dX0_orderByRule_5 : decode cX0_orderByRule 5 = .ok (.if_icmp .eq 13, 3) := by decide +kernel
theorem dX0_orderByRule_8 : decode cX0_orderByRule 8 = .ok (.new 51, 3) := by decide +kernel
theorem dX0_orderByRule_11 : decode cX0_orderByRule 11 = .ok (.dup, 1) := by decide +kernel
theorem dX0_orderByRule_12 : decode cX0_orderByRule 12 = .ok (.ldc 94, 2) := by decide +kernel
theorem dX0_orderByRule_14 : decode cX0_orderByRule 14 = .ok (.invokespecial 55, 3) := by decide +kernel
theorem dX0_orderByRule_17 : decode cX0_orderByRule 17 = .ok (.athrow, 1) := by decide +kernel
theorem dX0_orderByRule_18 : decode cX0_orderByRule 18 = .ok (.aload_n 0, 1) := by decide +kernel
theorem dX0_orderByRule_19 : decode cX0_orderByRule 19 = .ok (.aload_n 0, 1) := by decide +kernel
theorem dX0_orderByRule_20 : decode cX0_orderByRule 20 = .ok (.getfield 29, 3) := by decide +kernel
theorem dX0_orderByRule_23 : decode cX0_orderByRule 23 = .ok (.iconst 0, 1) := by decide +kernel
theorem dX0_orderByRule_24 : decode cX0_orderByRule 24 = .ok (.iconst 1, 1) := by decide +kernel
theorem dX0_orderByRule_25 : decode cX0_orderByRule 25 = .ok (.invokevirtual 96, 3) := by decide +kernel
theorem dX0_orderByRule_28 : decode cX0_orderByRule 28 = .ok (.aload_n 0, 1) := by decide +kernel
theorem dX0_orderByRule_29 : decode cX0_orderByRule 29 = .ok (.iconst 0, 1) := by decide +kernel
theorem dX0_orderByRule_30 : decode cX0_orderByRule 30 = .ok (.invokevirtual 99, 3) := by decide +kernel
theorem dX0_orderByRule_33 : decode cX0_orderByRule 33 = .ok (.ireturn, 1) := by decide +kernel
set_option maxRecDepth 20000 in
theorem ggX0_orderByInsertion_X0_fillQueueBySum : GoodIn wsX0_orderByInsertion wsX0_fillQueueBySum := goodIn_r _ [8, 1, 9, 3, 10, 11, 12, 7, 13, 14, 15, 16, 17, 18, 19, 20, 21, 64, 65, 66, 67, 68, 69, 70, 71, 72, 73, 74, 75, 76] (by decide +kernel) (by decide +kernel)
set_option maxRecDepth 20000 in
theorem gX0_orderByInsertion_X0_fillQueueBySum : GoodIn wsX0_orderByInsertion (wsV RX0 102 RX0 yX0_fillQueueBySum wsX0_fillQueueBySum) := goodIn_app (goodIn_of _ (by decide +kernel)) ggX0_orderByInsertion_X0_fillQueueBySum
set_option maxRecDepth 20000 in
theorem ggX0_orderByInsertion_X0_placeForLast : GoodIn wsX0_orderByInsertion wsX0_placeForLast := goodIn_r _ [25, 26, 27, 28, 7, 29, 2, 30, 31, 32, 33, 34, 35, 36, 37, 38, 39, 40, 41, 9, 42, 43, 44, 45, 46, 47, 48, 49, 50, 51, 52, 53, 54, 55, 19, 20, 21, 14, 15, 16, 17, 18, 56, 57, 58, 59, 64, 65, 66, 67, 68, 69, 70, 71, 72, 73, 74, 75, 76] (by decide +kernel) (by decide +kernel)
set_option maxRecDepth 20000 in
theorem gX0_orderByInsertion_X0_placeForLast : GoodIn wsX0_orderByInsertion (wsV RX0 105 RX0 yX0_placeForLast wsX0_placeForLast) := goodIn_app (goodIn_of _ (by decide +kernel)) ggX0_orderByInsertion_X0_placeForLast
set_option maxRecDepth 20000 in
theorem ggX0_orderByInsertion_X0_shift : GoodIn wsX0_orderByInsertion wsX0_shift := goodIn_r _ [37] (by decide +kernel) (by decide +kernel)
set_option maxRecDepth 20000 in
theorem gX0_orderByInsertion_X0_shift : GoodIn wsX0_orderByInsertion (va_wsS RX0 86 yX0_shift wsX0_shift) := goodIn_app (goodIn_of _ (by decide +kernel)) ggX0_orderByInsertion_X0_shift
set_option maxRecDepth 20000 in
theorem ggX0_orderByInsertion_X0_scheduleOrder : GoodIn wsX0_orderByInsertion wsX0_scheduleOrder := goodIn_r _ [63, 1, 2, 38, 39, 40, 7, 41, 9, 42, 43, 44, 45, 46, 47, 48, 49, 50, 51, 52, 53, 54, 55, 19, 20, 21, 14, 15, 16, 17, 18, 56, 57, 58, 59, 64, 65, 66, 67, 68, 69, 70, 71, 72, 73, 74, 75, 76] (by decide +kernel) (by decide +kernel)
set_option maxRecDepth 20000 in
theorem gX0_orderByInsertion_X0_scheduleOrder : GoodIn wsX0_orderByInsertion (wsV RX0 99 RX0 yX0_scheduleOrder wsX0_scheduleOrder) := goodIn_app (goodIn_of _ (by decide +kernel)) ggX0_orderByInsertion_X0_scheduleOrder
theorem dX0_orderByInsertion_0 : decode cX0_orderByInsertion 0 = .ok (.aload_n 0, 1) := by decide +kernel
theorem dX0_orderByInsertion_1 : decode cX0_orderByInsertion 1 = .ok (.invokevirtual 102, 3) := by decide +kernel
theorem dX0_orderByInsertion_4 : decode cX0_orderByInsertion 4 = .ok (.iconst 0, 1) := by decide +kernel
theorem dX0_orderByInsertion_5 : decode cX0_orderByInsertion 5 = .ok (.istore_n 1, 1) := by decide +kernel
theorem dX0_orderByInsertion_6 : decode cX0_orderByInsertion 6 = .ok (.iload_n 1, 1) := by decide +kernel
theorem dX0_orderByInsertion_7 : decode cX0_orderByInsertion 7 = .ok (.aload_n 0, 1) := by decide +kernel
theorem dX0_orderByInsertion_8 : decode cX0_orderByInsertion 8 = .ok (.getfield 7, 3) := by decide +kernel
theorem dX0_orderByInsertion_11 : decode cX0_orderByInsertion 11 = .ok (.if_icmp .ge 34, 3) := by decide +kernel
theorem dX0_orderByInsertion_14 : decode cX0_orderByInsertion 14 = .ok (.aload_n 0, 1) := by decide +kernel
theorem dX0_orderByInsertion_15 : decode cX0_orderByInsertion 15 = .ok (.getfield 29, 3) := by decide +kernel
theorem dX0_orderByInsertion_18 : decode cX0_orderByInsertion 18 = .ok (.iload_n 1, 1) := by decide +kernel
theorem dX0_orderByInsertion_19 : decode cX0_orderByInsertion 19 = .ok (.aload_n 0, 1) := by decide +kernel
theorem dX0_orderByInsertion_20 : decode cX0_orderByInsertion 20 = .ok (.getfield 35, 3) := by decide +kernel
theorem dX0_orderByInsertion_23 : decode cX0_orderByInsertion 23 = .ok (.iload_n 1, 1) := by decide +kernel
theorem dX0_orderByInsertion_24 : decode cX0_orderByInsertion 24 = .ok (.iaload, 1) := by decide +kernel
theorem dX0_orderByInsertion_25 : decode cX0_orderByInsertion 25 = .ok (.iastore, 1) := by decide +kernel
theorem dX0_orderByInsertion_26 : decode cX0_orderByInsertion 26 = .ok (.aload_n 0, 1) := by decide +kernel
theorem dX0_orderByInsertion_27 : decode cX0_orderByInsertion 27 = .ok (.getfield 29, 3) := by decide +kernel
theorem dX0_orderByInsertion_30 : decode cX0_orderByInsertion 30 = .ok (.iload_n 1, 1) := by decide +kernel
theorem dX0_orderByInsertion_31 : decode cX0_orderByInsertion 31 = .ok (.aload_n 0, 1) := by decide +kernel
theorem dX0_orderByInsertion_32 : decode cX0_orderByInsertion 32 = .ok (.iload_n 1, 1) := by decide +kernel
theorem dX0_orderByInsertion_33 : decode cX0_orderByInsertion 33 = .ok (.invokevirtual 105, 3) := by decide +kernel
theorem dX0_orderByInsertion_36 : decode cX0_orderByInsertion 36 = .ok (.invokestatic 86, 3) := by decide +kernel
theorem dX0_orderByInsertion_39 : decode cX0_orderByInsertion 39 = .ok (.iinc 1 1, 3) := by decide +kernel
theorem dX0_orderByInsertion_42 : decode cX0_orderByInsertion 42 = .ok (.goto (-36), 3) := by decide +kernel
theorem dX0_orderByInsertion_45 : decode cX0_orderByInsertion 45 = .ok (.aload_n 0, 1) := by decide +kernel
theorem dX0_orderByInsertion_46 : decode cX0_orderByInsertion 46 = .ok (.iconst 0, 1) := by decide +kernel
theorem dX0_orderByInsertion_47 : decode cX0_orderByInsertion 47 = .ok (.invokevirtual 99, 3) := by decide +kernel
theorem dX0_orderByInsertion_50 : decode cX0_orderByInsertion 50 = .ok (.ireturn, 1) := by decide +kernel
set_option maxRecDepth 20000 in
theorem ggX0_improve_X0_scheduleOrder : GoodIn wsX0_improve wsX0_scheduleOrder := goodIn_r _ [7, 1, 2, 8, 9, 10, 6, 11, 12, 13, 14, 15, 16, 17, 18, 19, 20, 21, 22, 23, 24, 25, 26, 27, 28, 29, 30, 31, 32, 33, 34, 35, 36, 37, 38, 51, 52, 53, 54, 55, 56, 57, 58, 59, 60, 61, 62, 63] (by decide +kernel) (by decide +kernel)
set_option maxRecDepth 20000 in
theorem gX0_improve_X0_scheduleOrder : GoodIn wsX0_improve (wsV RX0 99 RX0 yX0_scheduleOrder wsX0_scheduleOrder) := goodIn_app (goodIn_of _ (by decide +kernel)) ggX0_improve_X0_scheduleOrder
set_option maxRecDepth 20000 in
theorem ggX0_improve_X0_makespanIfShifted : GoodIn wsX0_improve wsX0_makespanIfShifted := goodIn_r _ [42, 2, 43, 44, 45, 46, 47, 48, 49, 6, 50, 8, 9, 10, 11, 12, 13, 14, 15, 16, 17, 18, 19, 20, 21, 22, 23, 24, 25, 26, 27, 28, 29, 30, 31, 32, 33, 34, 35, 36, 37, 38, 51, 52, 53, 54, 55, 56, 57, 58, 59, 60, 61, 62, 63] (by decide +kernel) (by decide +kernel)
set_option maxRecDepth 20000 in
theorem gX0_improve_X0_makespanIfShifted : GoodIn wsX0_improve (wsV RX0 90 RX0 yX0_makespanIfShifted wsX0_makespanIfShifted) := goodIn_app (goodIn_of _ (by decide +kernel)) ggX0_improve_X0_makespanIfShifted
set_option maxRecDepth 20000 in
theorem ggX0_improve_X0_shift : GoodIn wsX0_improve wsX0_shift := goodIn_r _ [50] (by decide +kernel) (by decide +kernel)
set_option maxRecDepth 20000 in
theorem gX0_improve_X0_shift : GoodIn wsX0_improve (va_wsS RX0 86 yX0_shift wsX0_shift) := goodIn_app (goodIn_of _ (by decide +kernel)) ggX0_improve_X0_shift
theorem dX0_improve_0 : decode cX0_improve 0 = .ok (.aload_n 0, 1) := by decide +kernel
theorem dX0_improve_1 : decode cX0_improve 1 = .ok (.iconst 0, 1) := by decide +kernel
theorem dX0_improve_2 : decode cX0_improve 2 = .ok (.invokevirtual 99, 3) := by decide +kernel
theorem dX0_improve_5 : decode cX0_improve 5 = .ok (.istore_n 1, 1) := by decide +kernel
theorem dX0_improve_6 : decode cX0_improve 6 = .ok (.iload_n 1, 1) := by decide +kernel
theorem dX0_improve_7 : decode cX0_improve 7 = .ok (.istore_n 2, 1) := by decide +kernel
theorem dX0_improve_8 : decode cX0_improve 8 = .ok (.iconst 0, 1) := by decide +kernel
theorem dX0_improve_9 : decode cX0_improve 9 = .ok (.istore_n 3, 1) := by decide +kernel
theorem dX0_improve_10 : decode cX0_improve 10 = .ok (.iconst 0, 1) := by decide +kernel
theorem dX0_improve_11 : decode cX0_improve 11 = .ok (.istore 4, 2) := by decide +kernel
theorem dX0_improve_13 : decode cX0_improve 13 = .ok (.iconst 0, 1) := by decide +kernel
theorem dX0_improve_14 : decode cX0_improve 14 = .ok (.istore 5, 2) := by decide +kernel
theorem dX0_improve_16 : decode cX0_improve 16 = .ok (.iload 5, 2) := by decide +kernel
theorem dX0_improve_18 : decode cX0_improve 18 = .ok (.aload_n 0, 1) := by decide +kernel
theorem dX0_improve_19 : decode cX0_improve 19 = .ok (.getfield 7, 3) := by decide +kernel
theorem dX0_improve_22 : decode cX0_improve 22 = .ok (.if_icmp .ge 57, 3) := by decide +kernel
theorem dX0_improve_25 : decode cX0_improve 25 = .ok (.iconst 0, 1) := by decide +kernel
theorem dX0_improve_26 : decode cX0_improve 26 = .ok (.istore 6, 2) := by decide +kernel
theorem dX0_improve_28 : decode cX0_improve 28 = .ok (.iload 6, 2) := by decide +kernel
theorem dX0_improve_30 : decode cX0_improve 30 = .ok (.aload_n 0, 1) := by decide +kernel
theorem dX0_improve_31 : decode cX0_improve 31 = .ok (.getfield 7, 3) := by decide +kernel
theorem dX0_improve_34 : decode cX0_improve 34 = .ok (.if_icmp .ge 39, 3) := by decide +kernel
theorem dX0_improve_37 : decode cX0_improve 37 = .ok (.aload_n 0, 1) := by decide +kernel
theorem dX0_improve_38 : decode cX0_improve 38 = .ok (.iload 5, 2) := by decide +kernel
theorem dX0_improve_40 : decode cX0_improve 40 = .ok (.iload 6, 2) := by decide +kernel
theorem dX0_improve_42 : decode cX0_improve 42 = .ok (.aload_n 0, 1) := by decide +kernel
theorem dX0_improve_43 : decode cX0_improve 43 = .ok (.getfield 7, 3) := by decide +kernel
theorem dX0_improve_46 : decode cX0_improve 46 = .ok (.invokevirtual 90, 3) := by decide +kernel
theorem dX0_improve_49 : decode cX0_improve 49 = .ok (.istore 7, 2) := by decide +kernel
theorem dX0_improve_51 : decode cX0_improve 51 = .ok (.iload 7, 2) := by decide +kernel
theorem dX0_improve_53 : decode cX0_improve 53 = .ok (.iload_n 2, 1) := by decide +kernel
theorem dX0_improve_54 : decode cX0_improve 54 = .ok (.if_icmp .ge 13, 3) := by decide +kernel
theorem dX0_improve_57 : decode cX0_improve 57 = .ok (.iload 7, 2) := by decide +kernel
theorem dX0_improve_59 : decode cX0_improve 59 = .ok (.istore_n 2, 1) := by decide +kernel
theorem dX0_improve_60 : decode cX0_improve 60 = .ok (.iload 5, 2) := by decide +kernel
theorem dX0_improve_62 : decode cX0_improve 62 = .ok (.istore_n 3, 1) := by decide +kernel
theorem dX0_improve_63 : decode cX0_improve 63 = .ok (.iload 6, 2) := by decide +kernel
theorem dX0_improve_65 : decode cX0_improve 65 = .ok (.istore 4, 2) := by decide +kernel
theorem dX0_improve_67 : decode cX0_improve 67 = .ok (.iinc 6 1, 3) := by decide +kernel
theorem dX0_improve_70 : decode cX0_improve 70 = .ok (.goto (-42), 3) := by decide +kernel
theorem dX0_improve_73 : decode cX0_improve 73 = .ok (.iinc 5 1, 3) := by decide +kernel
theorem dX0_improve_76 : decode cX0_improve 76 = .ok (.goto (-60), 3) := by decide +kernel
theorem dX0_improve_79 : decode cX0_improve 79 = .ok (.iload_n 2, 1) := by decide +kernel
theorem dX0_improve_80 : decode cX0_improve 80 = .ok (.iload_n 1, 1) := by decide +kernel
theorem dX0_improve_81 : decode cX0_improve 81 = .ok (.if_icmp .ge 13, 3) := by decide +kernel
theorem dX0_improve_84 : decode cX0_improve 84 = .ok (.aload_n 0, 1) := by decide +kernel
theorem dX0_improve_85 : decode cX0_improve 85 = .ok (.getfield 29, 3) := by decide +kernel
theorem dX0_improve_88 : decode cX0_improve 88 = .ok (.iload_n 3, 1) := by decide +kernel
theorem dX0_improve_89 : decode cX0_improve 89 = .ok (.iload 4, 2) := by decide +kernel
theorem dX0_improve_91 : decode cX0_improve 91 = .ok (.invokestatic 86, 3) := by decide +kernel
theorem dX0_improve_94 : decode cX0_improve 94 = .ok (.iload_n 1, 1) := by decide +kernel
theorem dX0_improve_95 : decode cX0_improve 95 = .ok (.iload_n 2, 1) := by decide +kernel
theorem dX0_improve_96 : decode cX0_improve 96 = .ok (.isub, 1) := by decide +kernel
theorem dX0_improve_97 : decode cX0_improve 97 = .ok (.ireturn, 1) := by decide +kernel
set_option maxRecDepth 20000 in
theorem ggX0_makespan_X0_requireVariant : GoodIn wsX0_makespan wsX0_requireVariant := goodIn_ca (goodIn_r _ [4, 5, 6] (by decide +kernel) (by decide +kernel)) (goodIn_sub (fun _ h => List.mem_cons_of_mem _ (List.mem_append_right _ h)) (by decide +kernel))
set_option maxRecDepth 20000 in
theorem gX0_makespan_X0_requireVariant : GoodIn wsX0_makespan (va_wsS RX0 108 yX0_requireVariant wsX0_requireVariant) := goodIn_app (goodIn_of _ (by decide +kernel)) ggX0_makespan_X0_requireVariant
set_option maxRecDepth 20000 in
theorem ggX0_makespan_X0_scheduleOrder : GoodIn wsX0_makespan wsX0_scheduleOrder := goodIn_r _ [10, 11, 12, 13, 14, 15, 3, 16, 17, 18, 19, 20, 21, 22, 23, 24, 25, 26, 27, 28, 29, 30, 31, 32, 33, 34, 35, 36, 37, 38, 39, 40, 41, 42, 43, 44, 45, 46, 47, 48, 49, 50, 51, 52, 53, 54, 55, 56] (by decide +kernel) (by decide +kernel)
set_option maxRecDepth 20000 in
theorem gX0_makespan_X0_scheduleOrder : GoodIn wsX0_makespan (wsV RX0 99 RX0 yX0_scheduleOrder wsX0_scheduleOrder) := goodIn_app (goodIn_of _ (by decide +kernel)) ggX0_makespan_X0_scheduleOrder
theorem dX0_makespan_0 : decode cX0_makespan 0 = .ok (.iload_n 1, 1) := by decide +kernel
theorem dX0_makespan_1 : decode cX0_makespan 1 = .ok (.invokestatic 108, 3) := by decide +kernel
theorem dX0_makespan_4 : decode cX0_makespan 4 = .ok (.aload_n 0, 1) := by decide +kernel
theorem dX0_makespan_5 : decode cX0_makespan 5 = .ok (.iload_n 1, 1) := by decide +kernel
theorem dX0_makespan_6 : decode cX0_makespan 6 = .ok (.invokevirtual 99, 3) := by decide +kernel
theorem dX0_makespan_9 : decode cX0_makespan 9 = .ok (.ireturn, 1) := by decide +kernel
set_option maxRecDepth 20000 in
theorem ggX0_machineBound_X0_requireMachine : GoodIn wsX0_machineBound wsX0_requireMachine := goodIn_ca (goodIn_r _ [6, 7, 8, 1, 34, 35, 36, 37, 38, 39, 40, 41, 42, 43, 44, 45, 46] (by decide +kernel) (by decide +kernel)) (goodIn_sub (fun _ h => List.mem_cons_of_mem _ (List.mem_append_right _ h)) (by decide +kernel))
set_option maxRecDepth 20000 in
theorem gX0_machineBound_X0_requireMachine : GoodIn wsX0_machineBound (wsV RX0 74 RX0 yX0_requireMachine wsX0_requireMachine) := goodIn_app (goodIn_of _ (by decide +kernel)) ggX0_machineBound_X0_requireMachine
set_option maxRecDepth 20000 in
theorem ggX0_machineBound_X0_loadOf : GoodIn wsX0_machineBound wsX0_loadOf := goodIn_r _ [12, 13, 14, 15, 16, 5, 17, 18, 19, 20, 21, 34, 35, 36, 37, 38, 39, 40, 41, 42, 43, 44, 45, 46] (by decide +kernel) (by decide +kernel)
set_option maxRecDepth 20000 in
theorem gX0_machineBound_X0_loadOf : GoodIn wsX0_machineBound (wsV RX0 117 RX0 yX0_loadOf wsX0_loadOf) := goodIn_app (goodIn_of _ (by decide +kernel)) ggX0_machineBound_X0_loadOf
set_option maxRecDepth 20000 in
theorem ggX0_machineBound_X0_leastSum : GoodIn wsX0_machineBound wsX0_leastSum := goodIn_r _ [25, 13, 26, 27, 28, 29, 30, 31, 32, 5, 33, 14, 15, 16, 17, 18, 19, 20, 21, 34, 35, 36, 37, 38, 39, 40, 41, 42, 43, 44, 45, 46] (by decide +kernel) (by decide +kernel)
set_option maxRecDepth 20000 in
theorem gX0_machineBound_X0_leastSum : GoodIn wsX0_machineBound (wsV RX0 120 RX0 yX0_leastSum wsX0_leastSum) := goodIn_app (goodIn_of _ (by decide +kernel)) ggX0_machineBound_X0_leastSum
theorem dX0_machineBound_0 : decode cX0_machineBound 0 = .ok (.aload_n 0, 1) := by decide +kernel
theorem dX0_machineBound_1 : decode cX0_machineBound 1 = .ok (.iload_n 1, 1) := by decide +kernel
theorem dX0_machineBound_2 : decode cX0_machineBound 2 = .ok (.invokevirtual 74, 3) := by decide +kernel
theorem dX0_machineBound_5 : decode cX0_machineBound 5 = .ok (.aload_n 0, 1) := by decide +kernel
theorem dX0_machineBound_6 : decode cX0_machineBound 6 = .ok (.iload_n 1, 1) := by decide +kernel
theorem dX0_machineBound_7 : decode cX0_machineBound 7 = .ok (.invokevirtual 117, 3) := by decide +kernel
theorem dX0_machineBound_10 : decode cX0_machineBound 10 = .ok (.aload_n 0, 1) := by decide +kernel
theorem dX0_machineBound_11 : decode cX0_machineBound 11 = .ok (.iconst 0, 1) := by decide +kernel
theorem dX0_machineBound_12 : decode cX0_machineBound 12 = .ok (.iload_n 1, 1) := by decide +kernel
theorem dX0_machineBound_13 : decode cX0_machineBound 13 = .ok (.invokevirtual 120, 3) := by decide +kernel
theorem dX0_machineBound_16 : decode cX0_machineBound 16 = .ok (.iadd, 1) := by decide +kernel
theorem dX0_machineBound_17 : decode cX0_machineBound 17 = .ok (.aload_n 0, 1) := by decide +kernel
theorem dX0_machineBound_18 : decode cX0_machineBound 18 = .ok (.iload_n 1, 1) := by decide +kernel
theorem dX0_machineBound_19 : decode cX0_machineBound 19 = .ok (.iconst 1, 1) := by decide +kernel
theorem dX0_machineBound_20 : decode cX0_machineBound 20 = .ok (.iadd, 1) := by decide +kernel
theorem dX0_machineBound_21 : decode cX0_machineBound 21 = .ok (.aload_n 0, 1) := by decide +kernel
theorem dX0_machineBound_22 : decode cX0_machineBound 22 = .ok (.getfield 13, 3) := by decide +kernel
theorem dX0_machineBound_25 : decode cX0_machineBound 25 = .ok (.invokevirtual 120, 3) := by decide +kernel
theorem dX0_machineBound_28 : decode cX0_machineBound 28 = .ok (.iadd, 1) := by decide +kernel
theorem dX0_machineBound_29 : decode cX0_machineBound 29 = .ok (.ireturn, 1) := by decide +kernel
set_option maxRecDepth 20000 in
theorem ggX0_pairBound_X0_requireMachine : GoodIn wsX0_pairBound wsX0_requireMachine := goodIn_ca (goodIn_r _ [8, 9, 10, 3, 48, 49, 50, 51, 52, 53, 54, 55, 56, 57, 58, 59, 60] (by decide +kernel) (by decide +kernel)) (goodIn_sub (fun _ h => List.mem_cons_of_mem _ (List.mem_append_right _ h)) (by decide +kernel))
set_option maxRecDepth 20000 in
theorem gX0_pairBound_X0_requireMachine : GoodIn wsX0_pairBound (wsV RX0 74 RX0 yX0_requireMachine wsX0_requireMachine) := goodIn_app (goodIn_of _ (by decide +kernel)) ggX0_pairBound_X0_requireMachine
set_option maxRecDepth 20000 in
theorem ggX0_pairBound_X0_leastOfPair : GoodIn wsX0_pairBound wsX0_leastOfPair := goodIn_r _ [14, 15, 16, 17, 18, 19, 20, 21, 22, 23, 7, 24, 25, 26, 27, 28, 29, 30, 31, 32, 33, 34, 35, 36, 48, 49, 50, 51, 52, 53, 54, 55, 56, 57, 58, 59, 60] (by decide +kernel) (by decide +kernel)
set_option maxRecDepth 20000 in
theorem gX0_pairBound_X0_leastOfPair : GoodIn wsX0_pairBound (wsV RX0 125 RX0 yX0_leastOfPair wsX0_leastOfPair) := goodIn_app (goodIn_of _ (by decide +kernel)) ggX0_pairBound_X0_leastOfPair
set_option maxRecDepth 20000 in
theorem ggX0_pairBound_X0_leastSum : GoodIn wsX0_pairBound wsX0_leastSum := goodIn_r _ [40, 16, 41, 42, 19, 43, 44, 45, 46, 7, 47, 29, 30, 31, 32, 33, 34, 35, 36, 48, 49, 50, 51, 52, 53, 54, 55, 56, 57, 58, 59, 60] (by decide +kernel) (by decide +kernel)
set_option maxRecDepth 20000 in
theorem gX0_pairBound_X0_leastSum : GoodIn wsX0_pairBound (wsV RX0 120 RX0 yX0_leastSum wsX0_leastSum) := goodIn_app (goodIn_of _ (by decide +kernel)) ggX0_pairBound_X0_leastSum
theorem dX0_pairBound_0 : decode cX0_pairBound 0 = .ok (.aload_n 0, 1) := by decide +kernel
theorem dX0_pairBound_1 : decode cX0_pairBound 1 = .ok (.iload_n 1, 1) := by decide +kernel
theorem dX0_pairBound_2 : decode cX0_pairBound 2 = .ok (.invokevirtual 74, 3) := by decide +kernel
theorem dX0_pairBound_5 : decode cX0_pairBound 5 = .ok (.aload_n 0, 1) := by decide +kernel
theorem dX0_pairBound_6 : decode cX0_pairBound 6 = .ok (.iload_n 2, 1) := by decide +kernel
theorem dX0_pairBound_7 : decode cX0_pairBound 7 = .ok (.invokevirtual 74, 3) := by decide +kernel
theorem dX0_pairBound_10 : decode cX0_pairBound 10 = .ok (.iload_n 1, 1) := by decide +kernel
theorem dX0_pairBound_11 : decode cX0_pairBound 11 = .ok (.iload_n 2, 1) := by decide +kernel
theorem dX0_pairBound_12 : decode cX0_pairBound 12 = .ok (.if_icmp .lt 13, 3) := by decide +kernel
theorem dX0_pairBound_15 : decode cX0_pairBound 15 = .ok (.new 61, 3) := by decide +kernel
theorem dX0_pairBound_18 : decode cX0_pairBound 18 = .ok (.dup, 1) := by decide +kernel
theorem dX0_pairBound_19 : decode cX0_pairBound 19 = .ok (.ldc 123, 2) := by decide +kernel
theorem dX0_pairBound_21 : decode cX0_pairBound 21 = .ok (.invokespecial 65, 3) := by decide +kernel
theorem dX0_pairBound_24 : decode cX0_pairBound 24 = .ok (.athrow, 1) := by decide +kernel
theorem dX0_pairBound_25 : decode cX0_pairBound 25 = .ok (.aload_n 0, 1) := by decide +kernel
theorem dX0_pairBound_26 : decode cX0_pairBound 26 = .ok (.iload_n 1, 1) := by decide +kernel
theorem dX0_pairBound_27 : decode cX0_pairBound 27 = .ok (.iload_n 2, 1) := by decide +kernel
theorem dX0_pairBound_28 : decode cX0_pairBound 28 = .ok (.invokevirtual 125, 3) := by decide +kernel
theorem dX0_pairBound_31 : decode cX0_pairBound 31 = .ok (.aload_n 0, 1) := by decide +kernel
theorem dX0_pairBound_32 : decode cX0_pairBound 32 = .ok (.iconst 0, 1) := by decide +kernel
theorem dX0_pairBound_33 : decode cX0_pairBound 33 = .ok (.iload_n 1, 1) := by decide +kernel
theorem dX0_pairBound_34 : decode cX0_pairBound 34 = .ok (.invokevirtual 120, 3) := by decide +kernel
theorem dX0_pairBound_37 : decode cX0_pairBound 37 = .ok (.iadd, 1) := by decide +kernel
theorem dX0_pairBound_38 : decode cX0_pairBound 38 = .ok (.aload_n 0, 1) := by decide +kernel
theorem dX0_pairBound_39 : decode cX0_pairBound 39 = .ok (.iload_n 2, 1) := by decide +kernel
theorem dX0_pairBound_40 : decode cX0_pairBound 40 = .ok (.iconst 1, 1) := by decide +kernel
theorem dX0_pairBound_41 : decode cX0_pairBound 41 = .ok (.iadd, 1) := by decide +kernel
theorem dX0_pairBound_42 : decode cX0_pairBound 42 = .ok (.aload_n 0, 1) := by decide +kernel
theorem dX0_pairBound_43 : decode cX0_pairBound 43 = .ok (.getfield 13, 3) := by decide +kernel
theorem dX0_pairBound_46 : decode cX0_pairBound 46 = .ok (.invokevirtual 120, 3) := by decide +kernel
theorem dX0_pairBound_49 : decode cX0_pairBound 49 = .ok (.iadd, 1) := by decide +kernel
theorem dX0_pairBound_50 : decode cX0_pairBound 50 = .ok (.ireturn, 1) := by decide +kernel
set_option maxRecDepth 20000 in
theorem ggX0_best_X0_requireVariant : GoodIn wsX0_best wsX0_requireVariant := goodIn_ca (goodIn_r _ [5, 6, 7] (by decide +kernel) (by decide +kernel)) (goodIn_sub (fun _ h => List.mem_cons_of_mem _ (List.mem_append_right _ h)) (by decide +kernel))
set_option maxRecDepth 20000 in
theorem gX0_best_X0_requireVariant : GoodIn wsX0_best (va_wsS RX0 108 yX0_requireVariant wsX0_requireVariant) := goodIn_app (goodIn_of _ (by decide +kernel)) ggX0_best_X0_requireVariant
set_option maxRecDepth 20000 in
theorem ggX0_best_X0_findBestOrder : GoodIn wsX0_best wsX0_findBestOrder := goodIn_r _ [11, 12, 13, 14, 15, 16, 17, 18, 4, 19, 20, 21, 22, 23, 24, 25, 26, 27, 28, 29, 30, 31, 32, 33, 34, 35, 36, 37, 38, 39, 40, 41, 42, 43, 44, 45, 46, 47, 48, 49, 50, 1, 51, 52, 53, 54, 55, 56, 57, 58, 59, 60, 61, 62, 63, 64, 65, 66, 67, 68, 69, 70, 71, 72, 73, 74, 75, 76] (by decide +kernel) (by decide +kernel)
set_option maxRecDepth 20000 in
theorem gX0_best_X0_findBestOrder : GoodIn wsX0_best (wsV RX0 128 RX0 yX0_findBestOrder wsX0_findBestOrder) := goodIn_app (goodIn_of _ (by decide +kernel)) ggX0_best_X0_findBestOrder
theorem dX0_best_0 : decode cX0_best 0 = .ok (.iload_n 1, 1) := by decide +kernel
theorem dX0_best_1 : decode cX0_best 1 = .ok (.invokestatic 108, 3) := by decide +kernel
theorem dX0_best_4 : decode cX0_best 4 = .ok (.aload_n 0, 1) := by decide +kernel
theorem dX0_best_5 : decode cX0_best 5 = .ok (.iload_n 1, 1) := by decide +kernel
theorem dX0_best_6 : decode cX0_best 6 = .ok (.invokevirtual 128, 3) := by decide +kernel
theorem dX0_best_9 : decode cX0_best 9 = .ok (.aload_n 0, 1) := by decide +kernel
theorem dX0_best_10 : decode cX0_best 10 = .ok (.getfield 42, 3) := by decide +kernel
theorem dX0_best_13 : decode cX0_best 13 = .ok (.iload_n 1, 1) := by decide +kernel
theorem dX0_best_14 : decode cX0_best 14 = .ok (.iaload, 1) := by decide +kernel
theorem dX0_best_15 : decode cX0_best 15 = .ok (.ireturn, 1) := by decide +kernel
set_option maxRecDepth 20000 in
theorem ggX0_bestAt_X0_requireVariant : GoodIn wsX0_bestAt wsX0_requireVariant := goodIn_ca (goodIn_r _ [5, 6, 7] (by decide +kernel) (by decide +kernel)) (goodIn_sub (fun _ h => List.mem_cons_of_mem _ (List.mem_append_left _ (List.mem_append_right _ h))) (by decide +kernel))
set_option maxRecDepth 20000 in
theorem gX0_bestAt_X0_requireVariant : GoodIn wsX0_bestAt (va_wsS RX0 108 yX0_requireVariant wsX0_requireVariant) := goodIn_app (goodIn_of _ (by decide +kernel)) ggX0_bestAt_X0_requireVariant
set_option maxRecDepth 20000 in
theorem ggX0_bestAt_X0_requirePlace : GoodIn wsX0_bestAt wsX0_requirePlace := goodIn_ca (goodIn_r _ [11, 12, 13, 14, 70, 71, 72, 73, 74, 75, 76, 77, 78, 79, 80, 81, 82] (by decide +kernel) (by decide +kernel)) (goodIn_sub (fun _ h => List.mem_cons_of_mem _ (List.mem_append_right _ h)) (by decide +kernel))
set_option maxRecDepth 20000 in
theorem gX0_bestAt_X0_requirePlace : GoodIn wsX0_bestAt (wsV RX0 79 RX0 yX0_requirePlace wsX0_requirePlace) := goodIn_app (goodIn_of _ (by decide +kernel)) ggX0_bestAt_X0_requirePlace
set_option maxRecDepth 20000 in
theorem ggX0_bestAt_X0_findBestOrder : GoodIn wsX0_bestAt wsX0_findBestOrder := goodIn_r _ [18, 19, 20, 14, 21, 22, 23, 24, 4, 25, 26, 27, 28, 29, 30, 31, 32, 33, 34, 35, 36, 37, 38, 39, 40, 41, 42, 43, 44, 45, 46, 47, 48, 49, 50, 51, 52, 53, 54, 55, 56, 57, 1, 58, 59, 60, 61, 62, 63, 64, 65, 66, 67, 68, 69, 70, 71, 72, 73, 74, 75, 76, 77, 78, 79, 80, 81, 82] (by decide +kernel) (by decide +kernel)
set_option maxRecDepth 20000 in
theorem gX0_bestAt_X0_findBestOrder : GoodIn wsX0_bestAt (wsV RX0 128 RX0 yX0_findBestOrder wsX0_findBestOrder) := goodIn_app (goodIn_of _ (by decide +kernel)) ggX0_bestAt_X0_findBestOrder
theorem dX0_bestAt_0 : decode cX0_bestAt 0 = .ok (.iload_n 1, 1) := by decide +kernel
theorem dX0_bestAt_1 : decode cX0_bestAt 1 = .ok (.invokestatic 108, 3) := by decide +kernel
theorem dX0_bestAt_4 : decode cX0_bestAt 4 = .ok (.aload_n 0, 1) := by decide +kernel
theorem dX0_bestAt_5 : decode cX0_bestAt 5 = .ok (.iload_n 2, 1) := by decide +kernel
theorem dX0_bestAt_6 : decode cX0_bestAt 6 = .ok (.invokevirtual 79, 3) := by decide +kernel
theorem dX0_bestAt_9 : decode cX0_bestAt 9 = .ok (.aload_n 0, 1) := by decide +kernel
theorem dX0_bestAt_10 : decode cX0_bestAt 10 = .ok (.iload_n 1, 1) := by decide +kernel
theorem dX0_bestAt_11 : decode cX0_bestAt 11 = .ok (.invokevirtual 128, 3) := by decide +kernel
theorem dX0_bestAt_14 : decode cX0_bestAt 14 = .ok (.aload_n 0, 1) := by decide +kernel
theorem dX0_bestAt_15 : decode cX0_bestAt 15 = .ok (.getfield 48, 3) := by decide +kernel
theorem dX0_bestAt_18 : decode cX0_bestAt 18 = .ok (.iload_n 1, 1) := by decide +kernel
theorem dX0_bestAt_19 : decode cX0_bestAt 19 = .ok (.bipush 7, 2) := by decide +kernel
theorem dX0_bestAt_21 : decode cX0_bestAt 21 = .ok (.imul, 1) := by decide +kernel
theorem dX0_bestAt_22 : decode cX0_bestAt 22 = .ok (.iload_n 2, 1) := by decide +kernel
theorem dX0_bestAt_23 : decode cX0_bestAt 23 = .ok (.iadd, 1) := by decide +kernel
theorem dX0_bestAt_24 : decode cX0_bestAt 24 = .ok (.iaload, 1) := by decide +kernel
theorem dX0_bestAt_25 : decode cX0_bestAt 25 = .ok (.ireturn, 1) := by decide +kernel
set_option maxRecDepth 20000 in
theorem ggX0_bestOrders_X0_requireVariant : GoodIn wsX0_bestOrders wsX0_requireVariant := goodIn_ca (goodIn_r _ [5, 6, 7] (by decide +kernel) (by decide +kernel)) (goodIn_sub (fun _ h => List.mem_cons_of_mem _ (List.mem_append_right _ h)) (by decide +kernel))
set_option maxRecDepth 20000 in
theorem gX0_bestOrders_X0_requireVariant : GoodIn wsX0_bestOrders (va_wsS RX0 108 yX0_requireVariant wsX0_requireVariant) := goodIn_app (goodIn_of _ (by decide +kernel)) ggX0_bestOrders_X0_requireVariant
set_option maxRecDepth 20000 in
theorem ggX0_bestOrders_X0_findBestOrder : GoodIn wsX0_bestOrders wsX0_findBestOrder := goodIn_r _ [11, 12, 1, 13, 14, 15, 16, 17, 4, 18, 19, 20, 21, 22, 23, 24, 25, 26, 27, 28, 29, 30, 31, 32, 33, 34, 35, 36, 37, 38, 39, 40, 41, 42, 43, 44, 45, 46, 47, 48, 49, 50, 51, 52, 53, 54, 55, 56, 57, 58, 59, 60, 61, 62, 63, 64, 65, 66, 67, 68, 69, 70, 71, 72, 73, 74, 75, 76] (by decide +kernel) (by decide +kernel)
set_option maxRecDepth 20000 in
theorem gX0_bestOrders_X0_findBestOrder : GoodIn wsX0_bestOrders (wsV RX0 128 RX0 yX0_findBestOrder wsX0_findBestOrder) := goodIn_app (goodIn_of _ (by decide +kernel)) ggX0_bestOrders_X0_findBestOrder
theorem dX0_bestOrders_0 : decode cX0_bestOrders 0 = .ok (.iload_n 1, 1) := by decide +kernel
theorem dX0_bestOrders_1 : decode cX0_bestOrders 1 = .ok (.invokestatic 108, 3) := by decide +kernel
theorem dX0_bestOrders_4 : decode cX0_bestOrders 4 = .ok (.aload_n 0, 1) := by decide +kernel
theorem dX0_bestOrders_5 : decode cX0_bestOrders 5 = .ok (.iload_n 1, 1) := by decide +kernel
theorem dX0_bestOrders_6 : decode cX0_bestOrders 6 = .ok (.invokevirtual 128, 3) := by decide +kernel
theorem dX0_bestOrders_9 : decode cX0_bestOrders 9 = .ok (.aload_n 0, 1) := by decide +kernel
theorem dX0_bestOrders_10 : decode cX0_bestOrders 10 = .ok (.getfield 45, 3) := by decide +kernel
theorem dX0_bestOrders_13 : decode cX0_bestOrders 13 = .ok (.iload_n 1, 1) := by decide +kernel
theorem dX0_bestOrders_14 : decode cX0_bestOrders 14 = .ok (.iaload, 1) := by decide +kernel
theorem dX0_bestOrders_15 : decode cX0_bestOrders 15 = .ok (.ireturn, 1) := by decide +kernel
set_option maxRecDepth 20000 in
theorem ggX0_gap_X0_scheduleOrder : GoodIn wsX0_gap wsX0_scheduleOrder := goodIn_r _ [6, 7, 8, 9, 10, 11, 5, 12, 13, 14, 15, 16, 17, 18, 19, 20, 21, 22, 23, 24, 25, 26, 27, 28, 29, 30, 31, 32, 33, 34, 35, 36, 37, 38, 39, 64, 65, 66, 67, 68, 69, 70, 71, 72, 73, 74, 75, 76] (by decide +kernel) (by decide +kernel)
set_option maxRecDepth 20000 in
theorem gX0_gap_X0_scheduleOrder : GoodIn wsX0_gap (wsV RX0 99 RX0 yX0_scheduleOrder wsX0_scheduleOrder) := goodIn_app (goodIn_of _ (by decide +kernel)) ggX0_gap_X0_scheduleOrder
set_option maxRecDepth 20000 in
theorem ggX0_gap_X0_findBestOrder : GoodIn wsX0_gap wsX0_findBestOrder := goodIn_r _ [43, 44, 45, 7, 46, 9, 10, 11, 5, 12, 13, 14, 15, 16, 17, 18, 19, 20, 21, 22, 23, 24, 25, 26, 27, 28, 29, 30, 31, 32, 33, 34, 35, 36, 37, 38, 39, 47, 48, 49, 50, 1, 51, 52, 53, 54, 55, 56, 57, 58, 59, 60, 61, 62, 63, 64, 65, 66, 67, 68, 69, 70, 71, 72, 73, 74, 75, 76] (by decide +kernel) (by decide +kernel)
set_option maxRecDepth 20000 in
theorem gX0_gap_X0_findBestOrder : GoodIn wsX0_gap (wsV RX0 128 RX0 yX0_findBestOrder wsX0_findBestOrder) := goodIn_app (goodIn_of _ (by decide +kernel)) ggX0_gap_X0_findBestOrder
theorem dX0_gap_0 : decode cX0_gap 0 = .ok (.aload_n 0, 1) := by decide +kernel
theorem dX0_gap_1 : decode cX0_gap 1 = .ok (.iconst 0, 1) := by decide +kernel
theorem dX0_gap_2 : decode cX0_gap 2 = .ok (.invokevirtual 99, 3) := by decide +kernel
theorem dX0_gap_5 : decode cX0_gap 5 = .ok (.istore_n 1, 1) := by decide +kernel
theorem dX0_gap_6 : decode cX0_gap 6 = .ok (.aload_n 0, 1) := by decide +kernel
theorem dX0_gap_7 : decode cX0_gap 7 = .ok (.iconst 0, 1) := by decide +kernel
theorem dX0_gap_8 : decode cX0_gap 8 = .ok (.invokevirtual 128, 3) := by decide +kernel
theorem dX0_gap_11 : decode cX0_gap 11 = .ok (.aload_n 0, 1) := by decide +kernel
theorem dX0_gap_12 : decode cX0_gap 12 = .ok (.getfield 42, 3) := by decide +kernel
theorem dX0_gap_15 : decode cX0_gap 15 = .ok (.iconst 0, 1) := by decide +kernel
theorem dX0_gap_16 : decode cX0_gap 16 = .ok (.iaload, 1) := by decide +kernel
theorem dX0_gap_17 : decode cX0_gap 17 = .ok (.istore_n 2, 1) := by decide +kernel
theorem dX0_gap_18 : decode cX0_gap 18 = .ok (.iload_n 2, 1) := by decide +kernel
theorem dX0_gap_19 : decode cX0_gap 19 = .ok (.ifCond .ne 5, 3) := by decide +kernel
theorem dX0_gap_22 : decode cX0_gap 22 = .ok (.dconst 0, 1) := by decide +kernel
theorem dX0_gap_23 : decode cX0_gap 23 = .ok (.dreturn, 1) := by decide +kernel
theorem dX0_gap_24 : decode cX0_gap 24 = .ok (.iload_n 1, 1) := by decide +kernel
theorem dX0_gap_25 : decode cX0_gap 25 = .ok (.iload_n 2, 1) := by decide +kernel
theorem dX0_gap_26 : decode cX0_gap 26 = .ok (.isub, 1) := by decide +kernel
theorem dX0_gap_27 : decode cX0_gap 27 = .ok (.i2d, 1) := by decide +kernel
theorem dX0_gap_28 : decode cX0_gap 28 = .ok (.iload_n 2, 1) := by decide +kernel
theorem dX0_gap_29 : decode cX0_gap 29 = .ok (.i2d, 1) := by decide +kernel
theorem dX0_gap_30 : decode cX0_gap 30 = .ok (.ddiv, 1) := by decide +kernel
theorem dX0_gap_31 : decode cX0_gap 31 = .ok (.dreturn, 1) := by decide +kernel
theorem dX0_requireJob_0 : decode cX0_requireJob 0 = .ok (.iload_n 1, 1) := by decide +kernel
theorem dX0_requireJob_1 : decode cX0_requireJob 1 = .ok (.ifCond .lt 11, 3) := by decide +kernel
theorem dX0_requireJob_4 : decode cX0_requireJob 4 = .ok (.iload_n 1, 1) := by decide +kernel
theorem dX0_requireJob_5 : decode cX0_requireJob 5 = .ok (.aload_n 0, 1) := by decide +kernel
theorem dX0_requireJob_6 : decode cX0_requireJob 6 = .ok (.getfield 7, 3) := by decide +kernel
theorem dX0_requireJob_9 : decode cX0_requireJob 9 = .ok (.if_icmp .lt 13, 3) := by decide +kernel
theorem dX0_requireJob_12 : decode cX0_requireJob 12 = .ok (.new 131, 3) := by decide +kernel
theorem dX0_requireJob_15 : decode cX0_requireJob 15 = .ok (.dup, 1) := by decide +kernel
theorem dX0_requireJob_16 : decode cX0_requireJob 16 = .ok (.ldc 133, 2) := by decide +kernel
theorem dX0_requireJob_18 : decode cX0_requireJob 18 = .ok (.invokespecial 135, 3) := by decide +kernel
theorem dX0_requireJob_21 : decode cX0_requireJob 21 = .ok (.athrow, 1) := by decide +kernel
theorem dX0_requireJob_22 : decode cX0_requireJob 22 = .ok (.return_, 1) := by decide +kernel
theorem dX0_requirePlace_0 : decode cX0_requirePlace 0 = .ok (.iload_n 1, 1) := by decide +kernel
theorem dX0_requirePlace_1 : decode cX0_requirePlace 1 = .ok (.ifCond .lt 11, 3) := by decide +kernel
theorem dX0_requirePlace_4 : decode cX0_requirePlace 4 = .ok (.iload_n 1, 1) := by decide +kernel
theorem dX0_requirePlace_5 : decode cX0_requirePlace 5 = .ok (.aload_n 0, 1) := by decide +kernel
theorem dX0_requirePlace_6 : decode cX0_requirePlace 6 = .ok (.getfield 7, 3) := by decide +kernel
theorem dX0_requirePlace_9 : decode cX0_requirePlace 9 = .ok (.if_icmp .lt 13, 3) := by decide +kernel
theorem dX0_requirePlace_12 : decode cX0_requirePlace 12 = .ok (.new 131, 3) := by decide +kernel
theorem dX0_requirePlace_15 : decode cX0_requirePlace 15 = .ok (.dup, 1) := by decide +kernel
theorem dX0_requirePlace_16 : decode cX0_requirePlace 16 = .ok (.ldc 136, 2) := by decide +kernel
theorem dX0_requirePlace_18 : decode cX0_requirePlace 18 = .ok (.invokespecial 135, 3) := by decide +kernel
theorem dX0_requirePlace_21 : decode cX0_requirePlace 21 = .ok (.athrow, 1) := by decide +kernel
theorem dX0_requirePlace_22 : decode cX0_requirePlace 22 = .ok (.return_, 1) := by decide +kernel
theorem dX0_requireMachine_0 : decode cX0_requireMachine 0 = .ok (.iload_n 1, 1) := by decide +kernel
theorem dX0_requireMachine_1 : decode cX0_requireMachine 1 = .ok (.ifCond .lt 11, 3) := by decide +kernel
theorem dX0_requireMachine_4 : decode cX0_requireMachine 4 = .ok (.iload_n 1, 1) := by decide +kernel
theorem dX0_requireMachine_5 : decode cX0_requireMachine 5 = .ok (.aload_n 0, 1) := by decide +kernel
theorem dX0_requireMachine_6 : decode cX0_requireMachine 6 = .ok (.getfield 13, 3) := by decide +kernel
theorem dX0_requireMachine_9 : decode cX0_requireMachine 9 = .ok (.if_icmp .lt 13, 3) := by decide +kernel
theorem dX0_requireMachine_12 : decode cX0_requireMachine 12 = .ok (.new 131, 3) := by decide +kernel
theorem dX0_requireMachine_15 : decode cX0_requireMachine 15 = .ok (.dup, 1) := by decide +kernel
theorem dX0_requireMachine_16 : decode cX0_requireMachine 16 = .ok (.ldc 138, 2) := by decide +kernel
theorem dX0_requireMachine_18 : decode cX0_requireMachine 18 = .ok (.invokespecial 135, 3) := by decide +kernel
theorem dX0_requireMachine_21 : decode cX0_requireMachine 21 = .ok (.athrow, 1) := by decide +kernel
theorem dX0_requireMachine_22 : decode cX0_requireMachine 22 = .ok (.return_, 1) := by decide +kernel
theorem dX0_requireVariant_0 : decode cX0_requireVariant 0 = .ok (.iload_n 0, 1) := by decide +kernel
theorem dX0_requireVariant_1 : decode cX0_requireVariant 1 = .ok (.ifCond .lt 8, 3) := by decide +kernel
theorem dX0_requireVariant_4 : decode cX0_requireVariant 4 = .ok (.iload_n 0, 1) := by decide +kernel
theorem dX0_requireVariant_5 : decode cX0_requireVariant 5 = .ok (.iconst 3, 1) := by decide +kernel
theorem dX0_requireVariant_6 : decode cX0_requireVariant 6 = .ok (.if_icmp .lt 13, 3) := by decide +kernel
theorem dX0_requireVariant_9 : decode cX0_requireVariant 9 = .ok (.new 61, 3) := by decide +kernel
theorem dX0_requireVariant_12 : decode cX0_requireVariant 12 = .ok (.dup, 1) := by decide +kernel
theorem dX0_requireVariant_13 : decode cX0_requireVariant 13 = .ok (.ldc 140, 2) := by decide +kernel
theorem dX0_requireVariant_15 : decode cX0_requireVariant 15 = .ok (.invokespecial 65, 3) := by decide +kernel
theorem dX0_requireVariant_18 : decode cX0_requireVariant 18 = .ok (.athrow, 1) := by decide +kernel
theorem dX0_requireVariant_19 : decode cX0_requireVariant 19 = .ok (.return_, 1) := by decide +kernel
theorem dX0_cell_0 : decode cX0_cell 0 = .ok (.iload_n 0, 1) := by decide +kernel
theorem dX0_cell_1 : decode cX0_cell 1 = .ok (.iconst 5, 1) := by decide +kernel
theorem dX0_cell_2 : decode cX0_cell 2 = .ok (.imul, 1) := by decide +kernel
theorem dX0_cell_3 : decode cX0_cell 3 = .ok (.iload_n 1, 1) := by decide +kernel
theorem dX0_cell_4 : decode cX0_cell 4 = .ok (.iadd, 1) := by decide +kernel
theorem dX0_cell_5 : decode cX0_cell 5 = .ok (.ireturn, 1) := by decide +kernel
set_option maxRecDepth 20000 in
theorem ggX0_timeOf_X0_cell : GoodIn wsX0_timeOf wsX0_cell := goodIn_r _ [5] (by decide +kernel) (by decide +kernel)
set_option maxRecDepth 20000 in
theorem gX0_timeOf_X0_cell : GoodIn wsX0_timeOf (va_wsS RX0 66 yX0_cell wsX0_cell) := goodIn_app (goodIn_of _ (by decide +kernel)) ggX0_timeOf_X0_cell
theorem dX0_timeOf_0 : decode cX0_timeOf 0 = .ok (.iload_n 1, 1) := by decide +kernel
theorem dX0_timeOf_1 : decode cX0_timeOf 1 = .ok (.ifCond .lt 18, 3) := by decide +kernel
theorem dX0_timeOf_4 : decode cX0_timeOf 4 = .ok (.iload_n 1, 1) := by decide +kernel
theorem dX0_timeOf_5 : decode cX0_timeOf 5 = .ok (.bipush 7, 2) := by decide +kernel
theorem dX0_timeOf_7 : decode cX0_timeOf 7 = .ok (.if_icmp .ge 12, 3) := by decide +kernel
theorem dX0_timeOf_10 : decode cX0_timeOf 10 = .ok (.iload_n 2, 1) := by decide +kernel
theorem dX0_timeOf_11 : decode cX0_timeOf 11 = .ok (.ifCond .lt 8, 3) := by decide +kernel
theorem dX0_timeOf_14 : decode cX0_timeOf 14 = .ok (.iload_n 2, 1) := by decide +kernel
theorem dX0_timeOf_15 : decode cX0_timeOf 15 = .ok (.iconst 5, 1) := by decide +kernel
theorem dX0_timeOf_16 : decode cX0_timeOf 16 = .ok (.if_icmp .lt 5, 3) := by decide +kernel
theorem dX0_timeOf_19 : decode cX0_timeOf 19 = .ok (.iconst 0, 1) := by decide +kernel
theorem dX0_timeOf_20 : decode cX0_timeOf 20 = .ok (.ireturn, 1) := by decide +kernel
theorem dX0_timeOf_21 : decode cX0_timeOf 21 = .ok (.aload_n 0, 1) := by decide +kernel
theorem dX0_timeOf_22 : decode cX0_timeOf 22 = .ok (.getfield 16, 3) := by decide +kernel
theorem dX0_timeOf_25 : decode cX0_timeOf 25 = .ok (.iload_n 1, 1) := by decide +kernel
theorem dX0_timeOf_26 : decode cX0_timeOf 26 = .ok (.iload_n 2, 1) := by decide +kernel
theorem dX0_timeOf_27 : decode cX0_timeOf 27 = .ok (.invokestatic 66, 3) := by decide +kernel
theorem dX0_timeOf_30 : decode cX0_timeOf 30 = .ok (.iaload, 1) := by decide +kernel
theorem dX0_timeOf_31 : decode cX0_timeOf 31 = .ok (.ireturn, 1) := by decide +kernel
set_option maxRecDepth 20000 in
theorem ggX0_sumOf_X0_timeOf : GoodIn wsX0_sumOf wsX0_timeOf := goodIn_r _ [5, 6, 7, 8, 4, 9, 10, 11, 12, 13, 14, 15, 16, 17, 18, 19, 20, 21, 22] (by decide +kernel) (by decide +kernel)
set_option maxRecDepth 20000 in
theorem gX0_sumOf_X0_timeOf : GoodIn wsX0_sumOf (wsV RX0 114 RX0 yX0_timeOf wsX0_timeOf) := goodIn_app (goodIn_of _ (by decide +kernel)) ggX0_sumOf_X0_timeOf
theorem dX0_sumOf_0 : decode cX0_sumOf 0 = .ok (.iconst 0, 1) := by decide +kernel
theorem dX0_sumOf_1 : decode cX0_sumOf 1 = .ok (.istore 4, 2) := by decide +kernel
theorem dX0_sumOf_3 : decode cX0_sumOf 3 = .ok (.iload_n 2, 1) := by decide +kernel
theorem dX0_sumOf_4 : decode cX0_sumOf 4 = .ok (.istore 5, 2) := by decide +kernel
theorem dX0_sumOf_6 : decode cX0_sumOf 6 = .ok (.iload 5, 2) := by decide +kernel
theorem dX0_sumOf_8 : decode cX0_sumOf 8 = .ok (.iload_n 3, 1) := by decide +kernel
theorem dX0_sumOf_9 : decode cX0_sumOf 9 = .ok (.if_icmp .ge 21, 3) := by decide +kernel
theorem dX0_sumOf_12 : decode cX0_sumOf 12 = .ok (.iload 4, 2) := by decide +kernel
theorem dX0_sumOf_14 : decode cX0_sumOf 14 = .ok (.aload_n 0, 1) := by decide +kernel
theorem dX0_sumOf_15 : decode cX0_sumOf 15 = .ok (.iload_n 1, 1) := by decide +kernel
theorem dX0_sumOf_16 : decode cX0_sumOf 16 = .ok (.iload 5, 2) := by decide +kernel
theorem dX0_sumOf_18 : decode cX0_sumOf 18 = .ok (.invokevirtual 114, 3) := by decide +kernel
theorem dX0_sumOf_21 : decode cX0_sumOf 21 = .ok (.iadd, 1) := by decide +kernel
theorem dX0_sumOf_22 : decode cX0_sumOf 22 = .ok (.istore 4, 2) := by decide +kernel
theorem dX0_sumOf_24 : decode cX0_sumOf 24 = .ok (.iinc 5 1, 3) := by decide +kernel
theorem dX0_sumOf_27 : decode cX0_sumOf 27 = .ok (.goto (-21), 3) := by decide +kernel
theorem dX0_sumOf_30 : decode cX0_sumOf 30 = .ok (.iload 4, 2) := by decide +kernel
theorem dX0_sumOf_32 : decode cX0_sumOf 32 = .ok (.ireturn, 1) := by decide +kernel
set_option maxRecDepth 20000 in
theorem ggX0_leastSum_X0_sumOf : GoodIn wsX0_leastSum wsX0_sumOf := goodIn_r _ [10, 11, 12, 13, 9, 14, 15, 16, 17, 18, 19, 20, 21, 22, 23, 24, 25, 26, 27, 28, 29, 30, 31] (by decide +kernel) (by decide +kernel)
set_option maxRecDepth 20000 in
theorem gX0_leastSum_X0_sumOf : GoodIn wsX0_leastSum (wsV RX0 142 RX0 yX0_sumOf wsX0_sumOf) := goodIn_app (goodIn_of _ (by decide +kernel)) ggX0_leastSum_X0_sumOf
theorem dX0_leastSum_0 : decode cX0_leastSum 0 = .ok (.aload_n 0, 1) := by decide +kernel
theorem dX0_leastSum_1 : decode cX0_leastSum 1 = .ok (.iconst 0, 1) := by decide +kernel
theorem dX0_leastSum_2 : decode cX0_leastSum 2 = .ok (.iload_n 1, 1) := by decide +kernel
theorem dX0_leastSum_3 : decode cX0_leastSum 3 = .ok (.iload_n 2, 1) := by decide +kernel
theorem dX0_leastSum_4 : decode cX0_leastSum 4 = .ok (.invokevirtual 142, 3) := by decide +kernel
theorem dX0_leastSum_7 : decode cX0_leastSum 7 = .ok (.istore_n 3, 1) := by decide +kernel
theorem dX0_leastSum_8 : decode cX0_leastSum 8 = .ok (.iconst 1, 1) := by decide +kernel
theorem dX0_leastSum_9 : decode cX0_leastSum 9 = .ok (.istore 4, 2) := by decide +kernel
theorem dX0_leastSum_11 : decode cX0_leastSum 11 = .ok (.iload 4, 2) := by decide +kernel
theorem dX0_leastSum_13 : decode cX0_leastSum 13 = .ok (.aload_n 0, 1) := by decide +kernel
theorem dX0_leastSum_14 : decode cX0_leastSum 14 = .ok (.getfield 7, 3) := by decide +kernel
theorem dX0_leastSum_17 : decode cX0_leastSum 17 = .ok (.if_icmp .ge 22, 3) := by decide +kernel
theorem dX0_leastSum_20 : decode cX0_leastSum 20 = .ok (.iload_n 3, 1) := by decide +kernel
theorem dX0_leastSum_21 : decode cX0_leastSum 21 = .ok (.aload_n 0, 1) := by decide +kernel
theorem dX0_leastSum_22 : decode cX0_leastSum 22 = .ok (.iload 4, 2) := by decide +kernel
theorem dX0_leastSum_24 : decode cX0_leastSum 24 = .ok (.iload_n 1, 1) := by decide +kernel
theorem dX0_leastSum_25 : decode cX0_leastSum 25 = .ok (.iload_n 2, 1) := by decide +kernel
theorem dX0_leastSum_26 : decode cX0_leastSum 26 = .ok (.invokevirtual 142, 3) := by decide +kernel
theorem dX0_leastSum_29 : decode cX0_leastSum 29 = .ok (.invokestatic 145, 3) := by decide +kernel
theorem dX0_leastSum_32 : decode cX0_leastSum 32 = .ok (.istore_n 3, 1) := by decide +kernel
theorem dX0_leastSum_33 : decode cX0_leastSum 33 = .ok (.iinc 4 1, 3) := by decide +kernel
theorem dX0_leastSum_36 : decode cX0_leastSum 36 = .ok (.goto (-25), 3) := by decide +kernel
theorem dX0_leastSum_39 : decode cX0_leastSum 39 = .ok (.iload_n 3, 1) := by decide +kernel
theorem dX0_leastSum_40 : decode cX0_leastSum 40 = .ok (.ireturn, 1) := by decide +kernel
set_option maxRecDepth 20000 in
theorem ggX0_loadOf_X0_timeOf : GoodIn wsX0_loadOf wsX0_timeOf := goodIn_r _ [6, 7, 8, 9, 5, 10, 11, 12, 13, 14, 15, 16, 17, 18, 19, 20, 21, 22, 23] (by decide +kernel) (by decide +kernel)
set_option maxRecDepth 20000 in
theorem gX0_loadOf_X0_timeOf : GoodIn wsX0_loadOf (wsV RX0 114 RX0 yX0_timeOf wsX0_timeOf) := goodIn_app (goodIn_of _ (by decide +kernel)) ggX0_loadOf_X0_timeOf
theorem dX0_loadOf_0 : decode cX0_loadOf 0 = .ok (.iconst 0, 1) := by decide +kernel
theorem dX0_loadOf_1 : decode cX0_loadOf 1 = .ok (.istore_n 2, 1) := by decide +kernel
theorem dX0_loadOf_2 : decode cX0_loadOf 2 = .ok (.iconst 0, 1) := by decide +kernel
theorem dX0_loadOf_3 : decode cX0_loadOf 3 = .ok (.istore_n 3, 1) := by decide +kernel
theorem dX0_loadOf_4 : decode cX0_loadOf 4 = .ok (.iload_n 3, 1) := by decide +kernel
theorem dX0_loadOf_5 : decode cX0_loadOf 5 = .ok (.aload_n 0, 1) := by decide +kernel
theorem dX0_loadOf_6 : decode cX0_loadOf 6 = .ok (.getfield 7, 3) := by decide +kernel
theorem dX0_loadOf_9 : decode cX0_loadOf 9 = .ok (.if_icmp .ge 18, 3) := by decide +kernel
theorem dX0_loadOf_12 : decode cX0_loadOf 12 = .ok (.iload_n 2, 1) := by decide +kernel
theorem dX0_loadOf_13 : decode cX0_loadOf 13 = .ok (.aload_n 0, 1) := by decide +kernel
theorem dX0_loadOf_14 : decode cX0_loadOf 14 = .ok (.iload_n 3, 1) := by decide +kernel
theorem dX0_loadOf_15 : decode cX0_loadOf 15 = .ok (.iload_n 1, 1) := by decide +kernel
theorem dX0_loadOf_16 : decode cX0_loadOf 16 = .ok (.invokevirtual 114, 3) := by decide +kernel
theorem dX0_loadOf_19 : decode cX0_loadOf 19 = .ok (.iadd, 1) := by decide +kernel
theorem dX0_loadOf_20 : decode cX0_loadOf 20 = .ok (.istore_n 2, 1) := by decide +kernel
theorem dX0_loadOf_21 : decode cX0_loadOf 21 = .ok (.iinc 3 1, 3) := by decide +kernel
theorem dX0_loadOf_24 : decode cX0_loadOf 24 = .ok (.goto (-20), 3) := by decide +kernel
theorem dX0_loadOf_27 : decode cX0_loadOf 27 = .ok (.iload_n 2, 1) := by decide +kernel
theorem dX0_loadOf_28 : decode cX0_loadOf 28 = .ok (.ireturn, 1) := by decide +kernel
theorem dX0_placeOf_0 : decode cX0_placeOf 0 = .ok (.iconst 0, 1) := by decide +kernel
theorem dX0_placeOf_1 : decode cX0_placeOf 1 = .ok (.istore_n 2, 1) := by decide +kernel
theorem dX0_placeOf_2 : decode cX0_placeOf 2 = .ok (.iload_n 2, 1) := by decide +kernel
theorem dX0_placeOf_3 : decode cX0_placeOf 3 = .ok (.aload_n 0, 1) := by decide +kernel
theorem dX0_placeOf_4 : decode cX0_placeOf 4 = .ok (.getfield 7, 3) := by decide +kernel
theorem dX0_placeOf_7 : decode cX0_placeOf 7 = .ok (.iconst 1, 1) := by decide +kernel
theorem dX0_placeOf_8 : decode cX0_placeOf 8 = .ok (.isub, 1) := by decide +kernel
theorem dX0_placeOf_9 : decode cX0_placeOf 9 = .ok (.if_icmp .ge 19, 3) := by decide +kernel
theorem dX0_placeOf_12 : decode cX0_placeOf 12 = .ok (.aload_n 0, 1) := by decide +kernel
theorem dX0_placeOf_13 : decode cX0_placeOf 13 = .ok (.getfield 29, 3) := by decide +kernel
theorem dX0_placeOf_16 : decode cX0_placeOf 16 = .ok (.iload_n 2, 1) := by decide +kernel
theorem dX0_placeOf_17 : decode cX0_placeOf 17 = .ok (.iaload, 1) := by decide +kernel
theorem dX0_placeOf_18 : decode cX0_placeOf 18 = .ok (.iload_n 1, 1) := by decide +kernel
theorem dX0_placeOf_19 : decode cX0_placeOf 19 = .ok (.if_icmp .eq 9, 3) := by decide +kernel
theorem dX0_placeOf_22 : decode cX0_placeOf 22 = .ok (.iinc 2 1, 3) := by decide +kernel
theorem dX0_placeOf_25 : decode cX0_placeOf 25 = .ok (.goto (-23), 3) := by decide +kernel
theorem dX0_placeOf_28 : decode cX0_placeOf 28 = .ok (.iload_n 2, 1) := by decide +kernel
theorem dX0_placeOf_29 : decode cX0_placeOf 29 = .ok (.ireturn, 1) := by decide +kernel
theorem dX0_shift_0 : decode cX0_shift 0 = .ok (.aload_n 0, 1) := by decide +kernel
theorem dX0_shift_1 : decode cX0_shift 1 = .ok (.iload_n 1, 1) := by decide +kernel
theorem dX0_shift_2 : decode cX0_shift 2 = .ok (.iaload, 1) := by decide +kernel
theorem dX0_shift_3 : decode cX0_shift 3 = .ok (.istore_n 3, 1) := by decide +kernel
theorem dX0_shift_4 : decode cX0_shift 4 = .ok (.iload_n 1, 1) := by decide +kernel
theorem dX0_shift_5 : decode cX0_shift 5 = .ok (.istore 4, 2) := by decide +kernel
theorem dX0_shift_7 : decode cX0_shift 7 = .ok (.iload 4, 2) := by decide +kernel
theorem dX0_shift_9 : decode cX0_shift 9 = .ok (.iload_n 2, 1) := by decide +kernel
theorem dX0_shift_10 : decode cX0_shift 10 = .ok (.if_icmp .ge 19, 3) := by decide +kernel
theorem dX0_shift_13 : decode cX0_shift 13 = .ok (.aload_n 0, 1) := by decide +kernel
theorem dX0_shift_14 : decode cX0_shift 14 = .ok (.iload 4, 2) := by decide +kernel
theorem dX0_shift_16 : decode cX0_shift 16 = .ok (.aload_n 0, 1) := by decide +kernel
theorem dX0_shift_17 : decode cX0_shift 17 = .ok (.iload 4, 2) := by decide +kernel
theorem dX0_shift_19 : decode cX0_shift 19 = .ok (.iconst 1, 1) := by decide +kernel
theorem dX0_shift_20 : decode cX0_shift 20 = .ok (.iadd, 1) := by decide +kernel
theorem dX0_shift_21 : decode cX0_shift 21 = .ok (.iaload, 1) := by decide +kernel
theorem dX0_shift_22 : decode cX0_shift 22 = .ok (.iastore, 1) := by decide +kernel
theorem dX0_shift_23 : decode cX0_shift 23 = .ok (.iinc 4 1, 3) := by decide +kernel
theorem dX0_shift_26 : decode cX0_shift 26 = .ok (.goto (-19), 3) := by decide +kernel
theorem dX0_shift_29 : decode cX0_shift 29 = .ok (.iload_n 1, 1) := by decide +kernel
theorem dX0_shift_30 : decode cX0_shift 30 = .ok (.istore 4, 2) := by decide +kernel
theorem dX0_shift_32 : decode cX0_shift 32 = .ok (.iload 4, 2) := by decide +kernel
theorem dX0_shift_34 : decode cX0_shift 34 = .ok (.iload_n 2, 1) := by decide +kernel
theorem dX0_shift_35 : decode cX0_shift 35 = .ok (.if_icmp .le 19, 3) := by decide +kernel
theorem dX0_shift_38 : decode cX0_shift 38 = .ok (.aload_n 0, 1) := by decide +kernel
theorem dX0_shift_39 : decode cX0_shift 39 = .ok (.iload 4, 2) := by decide +kernel
theorem dX0_shift_41 : decode cX0_shift 41 = .ok (.aload_n 0, 1) := by decide +kernel
theorem dX0_shift_42 : decode cX0_shift 42 = .ok (.iload 4, 2) := by decide +kernel
theorem dX0_shift_44 : decode cX0_shift 44 = .ok (.iconst 1, 1) := by decide +kernel
theorem dX0_shift_45 : decode cX0_shift 45 = .ok (.isub, 1) := by decide +kernel
theorem dX0_shift_46 : decode cX0_shift 46 = .ok (.iaload, 1) := by decide +kernel
theorem dX0_shift_47 : decode cX0_shift 47 = .ok (.iastore, 1) := by decide +kernel
theorem dX0_shift_48 : decode cX0_shift 48 = .ok (.iinc 4 (-1), 3) := by decide +kernel
theorem dX0_shift_51 : decode cX0_shift 51 = .ok (.goto (-19), 3) := by decide +kernel
theorem dX0_shift_54 : decode cX0_shift 54 = .ok (.aload_n 0, 1) := by decide +kernel
theorem dX0_shift_55 : decode cX0_shift 55 = .ok (.iload_n 2, 1) := by decide +kernel
theorem dX0_shift_56 : decode cX0_shift 56 = .ok (.iload_n 3, 1) := by decide +kernel
theorem dX0_shift_57 : decode cX0_shift 57 = .ok (.iastore, 1) := by decide +kernel
theorem dX0_shift_58 : decode cX0_shift 58 = .ok (.return_, 1) := by decide +kernel
set_option maxRecDepth 20000 in
theorem ggX0_makespanIfShifted_X0_shift : GoodIn wsX0_makespanIfShifted wsX0_shift := goodIn_r _ [10] (by decide +kernel) (by decide +kernel)
set_option maxRecDepth 20000 in
theorem gX0_makespanIfShifted_X0_shift : GoodIn wsX0_makespanIfShifted (va_wsS RX0 86 yX0_shift wsX0_shift) := goodIn_app (goodIn_of _ (by decide +kernel)) ggX0_makespanIfShifted_X0_shift
set_option maxRecDepth 20000 in
theorem ggX0_makespanIfShifted_X0_scheduleJob : GoodIn wsX0_makespanIfShifted wsX0_scheduleJob := goodIn_r _ [14, 15, 16, 17, 18, 19, 20, 21, 22, 23, 24, 9, 25, 26, 27, 28, 29, 30, 31, 32, 33, 34, 35, 36, 37, 42, 43, 44, 45, 46, 47, 48, 49, 50, 51, 52, 53, 54] (by decide +kernel) (by decide +kernel)
set_option maxRecDepth 20000 in
theorem gX0_makespanIfShifted_X0_scheduleJob : GoodIn wsX0_makespanIfShifted (wsV RX0 156 RX0 yX0_scheduleJob wsX0_scheduleJob) := goodIn_app (goodIn_of _ (by decide +kernel)) ggX0_makespanIfShifted_X0_scheduleJob
set_option maxRecDepth 20000 in
theorem ggX0_makespanIfShifted_X0_lastEnd : GoodIn wsX0_makespanIfShifted wsX0_lastEnd := goodIn_r _ [41, 21, 15, 30, 31, 9, 32, 42, 43, 44, 45, 46, 47, 48, 49, 50, 51, 52, 53, 54] (by decide +kernel) (by decide +kernel)
set_option maxRecDepth 20000 in
theorem gX0_makespanIfShifted_X0_lastEnd : GoodIn wsX0_makespanIfShifted (wsV RX0 160 RX0 yX0_lastEnd wsX0_lastEnd) := goodIn_app (goodIn_of _ (by decide +kernel)) ggX0_makespanIfShifted_X0_lastEnd
theorem dX0_makespanIfShifted_0 : decode cX0_makespanIfShifted 0 = .ok (.aload_n 0, 1) := by decide +kernel
theorem dX0_makespanIfShifted_1 : decode cX0_makespanIfShifted 1 = .ok (.getfield 29, 3) := by decide +kernel
theorem dX0_makespanIfShifted_4 : decode cX0_makespanIfShifted 4 = .ok (.iconst 0, 1) := by decide +kernel
theorem dX0_makespanIfShifted_5 : decode cX0_makespanIfShifted 5 = .ok (.aload_n 0, 1) := by decide +kernel
theorem dX0_makespanIfShifted_6 : decode cX0_makespanIfShifted 6 = .ok (.getfield 32, 3) := by decide +kernel
theorem dX0_makespanIfShifted_9 : decode cX0_makespanIfShifted 9 = .ok (.iconst 0, 1) := by decide +kernel
theorem dX0_makespanIfShifted_10 : decode cX0_makespanIfShifted 10 = .ok (.iload_n 3, 1) := by decide +kernel
theorem dX0_makespanIfShifted_11 : decode cX0_makespanIfShifted 11 = .ok (.invokestatic 150, 3) := by decide +kernel
theorem dX0_makespanIfShifted_14 : decode cX0_makespanIfShifted 14 = .ok (.aload_n 0, 1) := by decide +kernel
theorem dX0_makespanIfShifted_15 : decode cX0_makespanIfShifted 15 = .ok (.getfield 32, 3) := by decide +kernel
theorem dX0_makespanIfShifted_18 : decode cX0_makespanIfShifted 18 = .ok (.iload_n 1, 1) := by decide +kernel
theorem dX0_makespanIfShifted_19 : decode cX0_makespanIfShifted 19 = .ok (.iload_n 2, 1) := by decide +kernel
theorem dX0_makespanIfShifted_20 : decode cX0_makespanIfShifted 20 = .ok (.invokestatic 86, 3) := by decide +kernel
theorem dX0_makespanIfShifted_23 : decode cX0_makespanIfShifted 23 = .ok (.iconst 0, 1) := by decide +kernel
theorem dX0_makespanIfShifted_24 : decode cX0_makespanIfShifted 24 = .ok (.istore 4, 2) := by decide +kernel
theorem dX0_makespanIfShifted_26 : decode cX0_makespanIfShifted 26 = .ok (.iload 4, 2) := by decide +kernel
theorem dX0_makespanIfShifted_28 : decode cX0_makespanIfShifted 28 = .ok (.iload_n 3, 1) := by decide +kernel
theorem dX0_makespanIfShifted_29 : decode cX0_makespanIfShifted 29 = .ok (.if_icmp .ge 23, 3) := by decide +kernel
theorem dX0_makespanIfShifted_32 : decode cX0_makespanIfShifted 32 = .ok (.aload_n 0, 1) := by decide +kernel
theorem dX0_makespanIfShifted_33 : decode cX0_makespanIfShifted 33 = .ok (.iconst 0, 1) := by decide +kernel
theorem dX0_makespanIfShifted_34 : decode cX0_makespanIfShifted 34 = .ok (.iload 4, 2) := by decide +kernel
theorem dX0_makespanIfShifted_36 : decode cX0_makespanIfShifted 36 = .ok (.aload_n 0, 1) := by decide +kernel
theorem dX0_makespanIfShifted_37 : decode cX0_makespanIfShifted 37 = .ok (.getfield 32, 3) := by decide +kernel
theorem dX0_makespanIfShifted_40 : decode cX0_makespanIfShifted 40 = .ok (.iload 4, 2) := by decide +kernel
theorem dX0_makespanIfShifted_42 : decode cX0_makespanIfShifted 42 = .ok (.iaload, 1) := by decide +kernel
theorem dX0_makespanIfShifted_43 : decode cX0_makespanIfShifted 43 = .ok (.invokevirtual 156, 3) := by decide +kernel
theorem dX0_makespanIfShifted_46 : decode cX0_makespanIfShifted 46 = .ok (.iinc 4 1, 3) := by decide +kernel
theorem dX0_makespanIfShifted_49 : decode cX0_makespanIfShifted 49 = .ok (.goto (-23), 3) := by decide +kernel
theorem dX0_makespanIfShifted_52 : decode cX0_makespanIfShifted 52 = .ok (.aload_n 0, 1) := by decide +kernel
theorem dX0_makespanIfShifted_53 : decode cX0_makespanIfShifted 53 = .ok (.iload_n 3, 1) := by decide +kernel
theorem dX0_makespanIfShifted_54 : decode cX0_makespanIfShifted 54 = .ok (.invokevirtual 160, 3) := by decide +kernel
theorem dX0_makespanIfShifted_57 : decode cX0_makespanIfShifted 57 = .ok (.ireturn, 1) := by decide +kernel
set_option maxRecDepth 20000 in
theorem ggX0_placeForLast_X0_makespanIfShifted : GoodIn wsX0_placeForLast wsX0_makespanIfShifted := goodIn_r _ [5, 6, 7, 8, 9, 10, 11, 12, 13, 4, 14, 15, 16, 17, 18, 19, 20, 21, 22, 23, 24, 25, 26, 27, 28, 29, 30, 31, 32, 33, 34, 35, 36, 37, 38, 39, 40, 41, 42, 43, 44, 45, 46, 47, 48, 49, 50, 51, 52, 53, 54, 55, 56, 57, 58] (by decide +kernel) (by decide +kernel)
set_option maxRecDepth 20000 in
theorem gX0_placeForLast_X0_makespanIfShifted : GoodIn wsX0_placeForLast (wsV RX0 90 RX0 yX0_makespanIfShifted wsX0_makespanIfShifted) := goodIn_app (goodIn_of _ (by decide +kernel)) ggX0_placeForLast_X0_makespanIfShifted
theorem dX0_placeForLast_0 : decode cX0_placeForLast 0 = .ok (.iconst 0, 1) := by decide +kernel
theorem dX0_placeForLast_1 : decode cX0_placeForLast 1 = .ok (.istore_n 2, 1) := by decide +kernel
theorem dX0_placeForLast_2 : decode cX0_placeForLast 2 = .ok (.aload_n 0, 1) := by decide +kernel
theorem dX0_placeForLast_3 : decode cX0_placeForLast 3 = .ok (.iload_n 1, 1) := by decide +kernel
theorem dX0_placeForLast_4 : decode cX0_placeForLast 4 = .ok (.iconst 0, 1) := by decide +kernel
theorem dX0_placeForLast_5 : decode cX0_placeForLast 5 = .ok (.iload_n 1, 1) := by decide +kernel
theorem dX0_placeForLast_6 : decode cX0_placeForLast 6 = .ok (.iconst 1, 1) := by decide +kernel
theorem dX0_placeForLast_7 : decode cX0_placeForLast 7 = .ok (.iadd, 1) := by decide +kernel
theorem dX0_placeForLast_8 : decode cX0_placeForLast 8 = .ok (.invokevirtual 90, 3) := by decide +kernel
theorem dX0_placeForLast_11 : decode cX0_placeForLast 11 = .ok (.istore_n 3, 1) := by decide +kernel
theorem dX0_placeForLast_12 : decode cX0_placeForLast 12 = .ok (.iconst 1, 1) := by decide +kernel
theorem dX0_placeForLast_13 : decode cX0_placeForLast 13 = .ok (.istore 4, 2) := by decide +kernel
theorem dX0_placeForLast_15 : decode cX0_placeForLast 15 = .ok (.iload 4, 2) := by decide +kernel
theorem dX0_placeForLast_17 : decode cX0_placeForLast 17 = .ok (.iload_n 1, 1) := by decide +kernel
theorem dX0_placeForLast_18 : decode cX0_placeForLast 18 = .ok (.if_icmp .gt 33, 3) := by decide +kernel
theorem dX0_placeForLast_21 : decode cX0_placeForLast 21 = .ok (.aload_n 0, 1) := by decide +kernel
theorem dX0_placeForLast_22 : decode cX0_placeForLast 22 = .ok (.iload_n 1, 1) := by decide +kernel
theorem dX0_placeForLast_23 : decode cX0_placeForLast 23 = .ok (.iload 4, 2) := by decide +kernel
theorem dX0_placeForLast_25 : decode cX0_placeForLast 25 = .ok (.iload_n 1, 1) := by decide +kernel
theorem dX0_placeForLast_26 : decode cX0_placeForLast 26 = .ok (.iconst 1, 1) := by decide +kernel
theorem dX0_placeForLast_27 : decode cX0_placeForLast 27 = .ok (.iadd, 1) := by decide +kernel
theorem dX0_placeForLast_28 : decode cX0_placeForLast 28 = .ok (.invokevirtual 90, 3) := by decide +kernel
theorem dX0_placeForLast_31 : decode cX0_placeForLast 31 = .ok (.istore 5, 2) := by decide +kernel
theorem dX0_placeForLast_33 : decode cX0_placeForLast 33 = .ok (.iload 5, 2) := by decide +kernel
theorem dX0_placeForLast_35 : decode cX0_placeForLast 35 = .ok (.iload_n 3, 1) := by decide +kernel
theorem dX0_placeForLast_36 : decode cX0_placeForLast 36 = .ok (.if_icmp .ge 9, 3) := by decide +kernel
theorem dX0_placeForLast_39 : decode cX0_placeForLast 39 = .ok (.iload 5, 2) := by decide +kernel
theorem dX0_placeForLast_41 : decode cX0_placeForLast 41 = .ok (.istore_n 3, 1) := by decide +kernel
theorem dX0_placeForLast_42 : decode cX0_placeForLast 42 = .ok (.iload 4, 2) := by decide +kernel
theorem dX0_placeForLast_44 : decode cX0_placeForLast 44 = .ok (.istore_n 2, 1) := by decide +kernel
theorem dX0_placeForLast_45 : decode cX0_placeForLast 45 = .ok (.iinc 4 1, 3) := by decide +kernel
theorem dX0_placeForLast_48 : decode cX0_placeForLast 48 = .ok (.goto (-33), 3) := by decide +kernel
theorem dX0_placeForLast_51 : decode cX0_placeForLast 51 = .ok (.iload_n 2, 1) := by decide +kernel
theorem dX0_placeForLast_52 : decode cX0_placeForLast 52 = .ok (.ireturn, 1) := by decide +kernel
set_option maxRecDepth 20000 in
theorem ggX0_fillQueueBySum_X0_sumOf : GoodIn wsX0_fillQueueBySum wsX0_sumOf := goodIn_r _ [8, 9, 10, 11, 7, 12, 13, 14, 15, 16, 17, 18, 19, 20, 21, 22, 23, 24, 25, 26, 27, 28, 29] (by decide +kernel) (by decide +kernel)
set_option maxRecDepth 20000 in
theorem gX0_fillQueueBySum_X0_sumOf : GoodIn wsX0_fillQueueBySum (wsV RX0 142 RX0 yX0_sumOf wsX0_sumOf) := goodIn_app (goodIn_of _ (by decide +kernel)) ggX0_fillQueueBySum_X0_sumOf
theorem dX0_fillQueueBySum_0 : decode cX0_fillQueueBySum 0 = .ok (.iconst 0, 1) := by decide +kernel
theorem dX0_fillQueueBySum_1 : decode cX0_fillQueueBySum 1 = .ok (.istore_n 1, 1) := by decide +kernel
theorem dX0_fillQueueBySum_2 : decode cX0_fillQueueBySum 2 = .ok (.iload_n 1, 1) := by decide +kernel
theorem dX0_fillQueueBySum_3 : decode cX0_fillQueueBySum 3 = .ok (.aload_n 0, 1) := by decide +kernel
theorem dX0_fillQueueBySum_4 : decode cX0_fillQueueBySum 4 = .ok (.getfield 7, 3) := by decide +kernel
theorem dX0_fillQueueBySum_7 : decode cX0_fillQueueBySum 7 = .ok (.if_icmp .ge 74, 3) := by decide +kernel
theorem dX0_fillQueueBySum_10 : decode cX0_fillQueueBySum 10 = .ok (.aload_n 0, 1) := by decide +kernel
theorem dX0_fillQueueBySum_11 : decode cX0_fillQueueBySum 11 = .ok (.iload_n 1, 1) := by decide +kernel
theorem dX0_fillQueueBySum_12 : decode cX0_fillQueueBySum 12 = .ok (.iconst 0, 1) := by decide +kernel
theorem dX0_fillQueueBySum_13 : decode cX0_fillQueueBySum 13 = .ok (.aload_n 0, 1) := by decide +kernel
theorem dX0_fillQueueBySum_14 : decode cX0_fillQueueBySum 14 = .ok (.getfield 13, 3) := by decide +kernel
theorem dX0_fillQueueBySum_17 : decode cX0_fillQueueBySum 17 = .ok (.invokevirtual 142, 3) := by decide +kernel
theorem dX0_fillQueueBySum_20 : decode cX0_fillQueueBySum 20 = .ok (.istore_n 2, 1) := by decide +kernel
theorem dX0_fillQueueBySum_21 : decode cX0_fillQueueBySum 21 = .ok (.iload_n 1, 1) := by decide +kernel
theorem dX0_fillQueueBySum_22 : decode cX0_fillQueueBySum 22 = .ok (.istore_n 3, 1) := by decide +kernel
theorem dX0_fillQueueBySum_23 : decode cX0_fillQueueBySum 23 = .ok (.iload_n 3, 1) := by decide +kernel
theorem dX0_fillQueueBySum_24 : decode cX0_fillQueueBySum 24 = .ok (.ifCond .le 44, 3) := by decide +kernel
theorem dX0_fillQueueBySum_27 : decode cX0_fillQueueBySum 27 = .ok (.iload_n 2, 1) := by decide +kernel
theorem dX0_fillQueueBySum_28 : decode cX0_fillQueueBySum 28 = .ok (.aload_n 0, 1) := by decide +kernel
theorem dX0_fillQueueBySum_29 : decode cX0_fillQueueBySum 29 = .ok (.aload_n 0, 1) := by decide +kernel
theorem dX0_fillQueueBySum_30 : decode cX0_fillQueueBySum 30 = .ok (.getfield 35, 3) := by decide +kernel
theorem dX0_fillQueueBySum_33 : decode cX0_fillQueueBySum 33 = .ok (.iload_n 3, 1) := by decide +kernel
theorem dX0_fillQueueBySum_34 : decode cX0_fillQueueBySum 34 = .ok (.iconst 1, 1) := by decide +kernel
theorem dX0_fillQueueBySum_35 : decode cX0_fillQueueBySum 35 = .ok (.isub, 1) := by decide +kernel
theorem dX0_fillQueueBySum_36 : decode cX0_fillQueueBySum 36 = .ok (.iaload, 1) := by decide +kernel
theorem dX0_fillQueueBySum_37 : decode cX0_fillQueueBySum 37 = .ok (.iconst 0, 1) := by decide +kernel
theorem dX0_fillQueueBySum_38 : decode cX0_fillQueueBySum 38 = .ok (.aload_n 0, 1) := by decide +kernel
theorem dX0_fillQueueBySum_39 : decode cX0_fillQueueBySum 39 = .ok (.getfield 13, 3) := by decide +kernel
theorem dX0_fillQueueBySum_42 : decode cX0_fillQueueBySum 42 = .ok (.invokevirtual 142, 3) := by decide +kernel
theorem dX0_fillQueueBySum_45 : decode cX0_fillQueueBySum 45 = .ok (.if_icmp .le 23, 3) := by decide +kernel
theorem dX0_fillQueueBySum_48 : decode cX0_fillQueueBySum 48 = .ok (.aload_n 0, 1) := by decide +kernel
theorem dX0_fillQueueBySum_49 : decode cX0_fillQueueBySum 49 = .ok (.getfield 35, 3) := by decide +kernel
theorem dX0_fillQueueBySum_52 : decode cX0_fillQueueBySum 52 = .ok (.iload_n 3, 1) := by decide +kernel
theorem dX0_fillQueueBySum_53 : decode cX0_fillQueueBySum 53 = .ok (.aload_n 0, 1) := by decide +kernel
theorem dX0_fillQueueBySum_54 : decode cX0_fillQueueBySum 54 = .ok (.getfield 35, 3) := by decide +kernel
theorem dX0_fillQueueBySum_57 : decode cX0_fillQueueBySum 57 = .ok (.iload_n 3, 1) := by decide +kernel
theorem dX0_fillQueueBySum_58 : decode cX0_fillQueueBySum 58 = .ok (.iconst 1, 1) := by decide +kernel
theorem dX0_fillQueueBySum_59 : decode cX0_fillQueueBySum 59 = .ok (.isub, 1) := by decide +kernel
theorem dX0_fillQueueBySum_60 : decode cX0_fillQueueBySum 60 = .ok (.iaload, 1) := by decide +kernel
theorem dX0_fillQueueBySum_61 : decode cX0_fillQueueBySum 61 = .ok (.iastore, 1) := by decide +kernel
theorem dX0_fillQueueBySum_62 : decode cX0_fillQueueBySum 62 = .ok (.iinc 3 (-1), 3) := by decide +kernel
theorem dX0_fillQueueBySum_65 : decode cX0_fillQueueBySum 65 = .ok (.goto (-42), 3) := by decide +kernel
theorem dX0_fillQueueBySum_68 : decode cX0_fillQueueBySum 68 = .ok (.aload_n 0, 1) := by decide +kernel
theorem dX0_fillQueueBySum_69 : decode cX0_fillQueueBySum 69 = .ok (.getfield 35, 3) := by decide +kernel
theorem dX0_fillQueueBySum_72 : decode cX0_fillQueueBySum 72 = .ok (.iload_n 3, 1) := by decide +kernel
theorem dX0_fillQueueBySum_73 : decode cX0_fillQueueBySum 73 = .ok (.iload_n 1, 1) := by decide +kernel
theorem dX0_fillQueueBySum_74 : decode cX0_fillQueueBySum 74 = .ok (.iastore, 1) := by decide +kernel
theorem dX0_fillQueueBySum_75 : decode cX0_fillQueueBySum 75 = .ok (.iinc 1 1, 3) := by decide +kernel
theorem dX0_fillQueueBySum_78 : decode cX0_fillQueueBySum 78 = .ok (.goto (-76), 3) := by decide +kernel
theorem dX0_fillQueueBySum_81 : decode cX0_fillQueueBySum 81 = .ok (.return_, 1) := by decide +kernel
set_option maxRecDepth 20000 in
theorem ggX0_fillByRule_X0_goesBefore : GoodIn wsX0_fillByRule wsX0_goesBefore := goodIn_r _ [6, 7, 8, 9, 5, 10, 11, 12, 13, 14, 15, 16, 17, 18, 19, 20, 21, 22, 23, 24, 25, 26, 27] (by decide +kernel) (by decide +kernel)
set_option maxRecDepth 20000 in
theorem gX0_fillByRule_X0_goesBefore : GoodIn wsX0_fillByRule (wsV RX0 163 RX0 yX0_goesBefore wsX0_goesBefore) := goodIn_app (goodIn_of _ (by decide +kernel)) ggX0_fillByRule_X0_goesBefore
theorem dX0_fillByRule_0 : decode cX0_fillByRule 0 = .ok (.iconst 0, 1) := by decide +kernel
theorem dX0_fillByRule_1 : decode cX0_fillByRule 1 = .ok (.istore 4, 2) := by decide +kernel
theorem dX0_fillByRule_3 : decode cX0_fillByRule 3 = .ok (.iload 4, 2) := by decide +kernel
theorem dX0_fillByRule_5 : decode cX0_fillByRule 5 = .ok (.aload_n 0, 1) := by decide +kernel
theorem dX0_fillByRule_6 : decode cX0_fillByRule 6 = .ok (.getfield 7, 3) := by decide +kernel
theorem dX0_fillByRule_9 : decode cX0_fillByRule 9 = .ok (.if_icmp .ge 57, 3) := by decide +kernel
theorem dX0_fillByRule_12 : decode cX0_fillByRule 12 = .ok (.iload 4, 2) := by decide +kernel
theorem dX0_fillByRule_14 : decode cX0_fillByRule 14 = .ok (.istore 5, 2) := by decide +kernel
theorem dX0_fillByRule_16 : decode cX0_fillByRule 16 = .ok (.iload 5, 2) := by decide +kernel
theorem dX0_fillByRule_18 : decode cX0_fillByRule 18 = .ok (.ifCond .le 36, 3) := by decide +kernel
theorem dX0_fillByRule_21 : decode cX0_fillByRule 21 = .ok (.aload_n 0, 1) := by decide +kernel
theorem dX0_fillByRule_22 : decode cX0_fillByRule 22 = .ok (.iload 4, 2) := by decide +kernel
theorem dX0_fillByRule_24 : decode cX0_fillByRule 24 = .ok (.aload_n 1, 1) := by decide +kernel
theorem dX0_fillByRule_25 : decode cX0_fillByRule 25 = .ok (.iload 5, 2) := by decide +kernel
theorem dX0_fillByRule_27 : decode cX0_fillByRule 27 = .ok (.iconst 1, 1) := by decide +kernel
theorem dX0_fillByRule_28 : decode cX0_fillByRule 28 = .ok (.isub, 1) := by decide +kernel
theorem dX0_fillByRule_29 : decode cX0_fillByRule 29 = .ok (.iaload, 1) := by decide +kernel
theorem dX0_fillByRule_30 : decode cX0_fillByRule 30 = .ok (.iload_n 2, 1) := by decide +kernel
theorem dX0_fillByRule_31 : decode cX0_fillByRule 31 = .ok (.iload_n 3, 1) := by decide +kernel
theorem dX0_fillByRule_32 : decode cX0_fillByRule 32 = .ok (.invokevirtual 163, 3) := by decide +kernel
theorem dX0_fillByRule_35 : decode cX0_fillByRule 35 = .ok (.ifCond .eq 19, 3) := by decide +kernel
theorem dX0_fillByRule_38 : decode cX0_fillByRule 38 = .ok (.aload_n 1, 1) := by decide +kernel
theorem dX0_fillByRule_39 : decode cX0_fillByRule 39 = .ok (.iload 5, 2) := by decide +kernel
theorem dX0_fillByRule_41 : decode cX0_fillByRule 41 = .ok (.aload_n 1, 1) := by decide +kernel
theorem dX0_fillByRule_42 : decode cX0_fillByRule 42 = .ok (.iload 5, 2) := by decide +kernel
theorem dX0_fillByRule_44 : decode cX0_fillByRule 44 = .ok (.iconst 1, 1) := by decide +kernel
theorem dX0_fillByRule_45 : decode cX0_fillByRule 45 = .ok (.isub, 1) := by decide +kernel
theorem dX0_fillByRule_46 : decode cX0_fillByRule 46 = .ok (.iaload, 1) := by decide +kernel
theorem dX0_fillByRule_47 : decode cX0_fillByRule 47 = .ok (.iastore, 1) := by decide +kernel
theorem dX0_fillByRule_48 : decode cX0_fillByRule 48 = .ok (.iinc 5 (-1), 3) := by decide +kernel
theorem dX0_fillByRule_51 : decode cX0_fillByRule 51 = .ok (.goto (-35), 3) := by decide +kernel
theorem dX0_fillByRule_54 : decode cX0_fillByRule 54 = .ok (.aload_n 1, 1) := by decide +kernel
theorem dX0_fillByRule_55 : decode cX0_fillByRule 55 = .ok (.iload 5, 2) := by decide +kernel
theorem dX0_fillByRule_57 : decode cX0_fillByRule 57 = .ok (.iload 4, 2) := by decide +kernel
theorem dX0_fillByRule_59 : decode cX0_fillByRule 59 = .ok (.iastore, 1) := by decide +kernel
theorem dX0_fillByRule_60 : decode cX0_fillByRule 60 = .ok (.iinc 4 1, 3) := by decide +kernel
theorem dX0_fillByRule_63 : decode cX0_fillByRule 63 = .ok (.goto (-60), 3) := by decide +kernel
theorem dX0_fillByRule_66 : decode cX0_fillByRule 66 = .ok (.return_, 1) := by decide +kernel
set_option maxRecDepth 20000 in
theorem ggX0_goesBefore_X0_timeOf : GoodIn wsX0_goesBefore wsX0_timeOf := goodIn_r _ [5, 6, 7, 8, 4, 9, 10, 11, 12, 13, 14, 15, 16, 17, 18, 19, 20, 21, 22] (by decide +kernel) (by decide +kernel)
set_option maxRecDepth 20000 in
theorem gX0_goesBefore_X0_timeOf : GoodIn wsX0_goesBefore (wsV RX0 114 RX0 yX0_timeOf wsX0_timeOf) := goodIn_app (goodIn_of _ (by decide +kernel)) ggX0_goesBefore_X0_timeOf
theorem dX0_goesBefore_0 : decode cX0_goesBefore 0 = .ok (.aload_n 0, 1) := by decide +kernel
theorem dX0_goesBefore_1 : decode cX0_goesBefore 1 = .ok (.iload_n 1, 1) := by decide +kernel
theorem dX0_goesBefore_2 : decode cX0_goesBefore 2 = .ok (.iload_n 3, 1) := by decide +kernel
theorem dX0_goesBefore_3 : decode cX0_goesBefore 3 = .ok (.invokevirtual 114, 3) := by decide +kernel
theorem dX0_goesBefore_6 : decode cX0_goesBefore 6 = .ok (.aload_n 0, 1) := by decide +kernel
theorem dX0_goesBefore_7 : decode cX0_goesBefore 7 = .ok (.iload_n 1, 1) := by decide +kernel
theorem dX0_goesBefore_8 : decode cX0_goesBefore 8 = .ok (.iload 4, 2) := by decide +kernel
theorem dX0_goesBefore_10 : decode cX0_goesBefore 10 = .ok (.invokevirtual 114, 3) := by decide +kernel
theorem dX0_goesBefore_13 : decode cX0_goesBefore 13 = .ok (.if_icmp .gt 7, 3) := by decide +kernel
theorem dX0_goesBefore_16 : decode cX0_goesBefore 16 = .ok (.iconst 1, 1) := by decide +kernel
theorem dX0_goesBefore_17 : decode cX0_goesBefore 17 = .ok (.goto 4, 3) := by decide +kernel
theorem dX0_goesBefore_20 : decode cX0_goesBefore 20 = .ok (.iconst 0, 1) := by decide +kernel
theorem dX0_goesBefore_21 : decode cX0_goesBefore 21 = .ok (.istore 5, 2) := by decide +kernel
theorem dX0_goesBefore_23 : decode cX0_goesBefore 23 = .ok (.aload_n 0, 1) := by decide +kernel
theorem dX0_goesBefore_24 : decode cX0_goesBefore 24 = .ok (.iload_n 2, 1) := by decide +kernel
theorem dX0_goesBefore_25 : decode cX0_goesBefore 25 = .ok (.iload_n 3, 1) := by decide +kernel
theorem dX0_goesBefore_26 : decode cX0_goesBefore 26 = .ok (.invokevirtual 114, 3) := by decide +kernel
theorem dX0_goesBefore_29 : decode cX0_goesBefore 29 = .ok (.aload_n 0, 1) := by decide +kernel
theorem dX0_goesBefore_30 : decode cX0_goesBefore 30 = .ok (.iload_n 2, 1) := by decide +kernel
theorem dX0_goesBefore_31 : decode cX0_goesBefore 31 = .ok (.iload 4, 2) := by decide +kernel
theorem dX0_goesBefore_33 : decode cX0_goesBefore 33 = .ok (.invokevirtual 114, 3) := by decide +kernel
theorem dX0_goesBefore_36 : decode cX0_goesBefore 36 = .ok (.if_icmp .gt 7, 3) := by decide +kernel
theorem dX0_goesBefore_39 : decode cX0_goesBefore 39 = .ok (.iconst 1, 1) := by decide +kernel
theorem dX0_goesBefore_40 : decode cX0_goesBefore 40 = .ok (.goto 4, 3) := by decide +kernel
theorem dX0_goesBefore_43 : decode cX0_goesBefore 43 = .ok (.iconst 0, 1) := by decide +kernel
theorem dX0_goesBefore_44 : decode cX0_goesBefore 44 = .ok (.istore 6, 2) := by decide +kernel
theorem dX0_goesBefore_46 : decode cX0_goesBefore 46 = .ok (.iload 5, 2) := by decide +kernel
theorem dX0_goesBefore_48 : decode cX0_goesBefore 48 = .ok (.iload 6, 2) := by decide +kernel
theorem dX0_goesBefore_50 : decode cX0_goesBefore 50 = .ok (.if_icmp .eq 6, 3) := by decide +kernel
theorem dX0_goesBefore_53 : decode cX0_goesBefore 53 = .ok (.iload 5, 2) := by decide +kernel
theorem dX0_goesBefore_55 : decode cX0_goesBefore 55 = .ok (.ireturn, 1) := by decide +kernel
theorem dX0_goesBefore_56 : decode cX0_goesBefore 56 = .ok (.iload 5, 2) := by decide +kernel
theorem dX0_goesBefore_58 : decode cX0_goesBefore 58 = .ok (.ifCond .eq 24, 3) := by decide +kernel
theorem dX0_goesBefore_61 : decode cX0_goesBefore 61 = .ok (.aload_n 0, 1) := by decide +kernel
theorem dX0_goesBefore_62 : decode cX0_goesBefore 62 = .ok (.iload_n 1, 1) := by decide +kernel
theorem dX0_goesBefore_63 : decode cX0_goesBefore 63 = .ok (.iload_n 3, 1) := by decide +kernel
theorem dX0_goesBefore_64 : decode cX0_goesBefore 64 = .ok (.invokevirtual 114, 3) := by decide +kernel
theorem dX0_goesBefore_67 : decode cX0_goesBefore 67 = .ok (.aload_n 0, 1) := by decide +kernel
theorem dX0_goesBefore_68 : decode cX0_goesBefore 68 = .ok (.iload_n 2, 1) := by decide +kernel
theorem dX0_goesBefore_69 : decode cX0_goesBefore 69 = .ok (.iload_n 3, 1) := by decide +kernel
theorem dX0_goesBefore_70 : decode cX0_goesBefore 70 = .ok (.invokevirtual 114, 3) := by decide +kernel
theorem dX0_goesBefore_73 : decode cX0_goesBefore 73 = .ok (.if_icmp .ge 7, 3) := by decide +kernel
theorem dX0_goesBefore_76 : decode cX0_goesBefore 76 = .ok (.iconst 1, 1) := by decide +kernel
theorem dX0_goesBefore_77 : decode cX0_goesBefore 77 = .ok (.goto 4, 3) := by decide +kernel
theorem dX0_goesBefore_80 : decode cX0_goesBefore 80 = .ok (.iconst 0, 1) := by decide +kernel
theorem dX0_goesBefore_81 : decode cX0_goesBefore 81 = .ok (.ireturn, 1) := by decide +kernel
theorem dX0_goesBefore_82 : decode cX0_goesBefore 82 = .ok (.aload_n 0, 1) := by decide +kernel
theorem dX0_goesBefore_83 : decode cX0_goesBefore 83 = .ok (.iload_n 1, 1) := by decide +kernel
theorem dX0_goesBefore_84 : decode cX0_goesBefore 84 = .ok (.iload 4, 2) := by decide +kernel
theorem dX0_goesBefore_86 : decode cX0_goesBefore 86 = .ok (.invokevirtual 114, 3) := by decide +kernel
theorem dX0_goesBefore_89 : decode cX0_goesBefore 89 = .ok (.aload_n 0, 1) := by decide +kernel
theorem dX0_goesBefore_90 : decode cX0_goesBefore 90 = .ok (.iload_n 2, 1) := by decide +kernel
theorem dX0_goesBefore_91 : decode cX0_goesBefore 91 = .ok (.iload 4, 2) := by decide +kernel
theorem dX0_goesBefore_93 : decode cX0_goesBefore 93 = .ok (.invokevirtual 114, 3) := by decide +kernel
theorem dX0_goesBefore_96 : decode cX0_goesBefore 96 = .ok (.if_icmp .le 7, 3) := by decide +kernel
theorem dX0_goesBefore_99 : decode cX0_goesBefore 99 = .ok (.iconst 1, 1) := by decide +kernel
theorem dX0_goesBefore_100 : decode cX0_goesBefore 100 = .ok (.goto 4, 3) := by decide +kernel
theorem dX0_goesBefore_103 : decode cX0_goesBefore 103 = .ok (.iconst 0, 1) := by decide +kernel
theorem dX0_goesBefore_104 : decode cX0_goesBefore 104 = .ok (.ireturn, 1) := by decide +kernel
set_option maxRecDepth 20000 in
theorem ggX0_leastOfPair_X0_fillByRule : GoodIn wsX0_leastOfPair wsX0_fillByRule := goodIn_r _ [11, 2, 12, 13, 14, 10, 15, 16, 17, 18, 19, 20, 21, 22, 23, 24, 25, 26, 27, 28, 29, 30, 31, 32, 33, 34, 35, 36] (by decide +kernel) (by decide +kernel)
set_option maxRecDepth 20000 in
theorem gX0_leastOfPair_X0_fillByRule : GoodIn wsX0_leastOfPair (wsV RX0 96 RX0 yX0_fillByRule wsX0_fillByRule) := goodIn_app (goodIn_of _ (by decide +kernel)) ggX0_leastOfPair_X0_fillByRule
set_option maxRecDepth 20000 in
theorem ggX0_leastOfPair_X0_timeOf : GoodIn wsX0_leastOfPair wsX0_timeOf := goodIn_r _ [19, 20, 21, 22, 10, 23, 24, 25, 26, 27, 28, 29, 30, 31, 32, 33, 34, 35, 36] (by decide +kernel) (by decide +kernel)
set_option maxRecDepth 20000 in
theorem gX0_leastOfPair_X0_timeOf : GoodIn wsX0_leastOfPair (wsV RX0 114 RX0 yX0_timeOf wsX0_timeOf) := goodIn_app (goodIn_of _ (by decide +kernel)) ggX0_leastOfPair_X0_timeOf
theorem dX0_leastOfPair_0 : decode cX0_leastOfPair 0 = .ok (.aload_n 0, 1) := by decide +kernel
theorem dX0_leastOfPair_1 : decode cX0_leastOfPair 1 = .ok (.aload_n 0, 1) := by decide +kernel
theorem dX0_leastOfPair_2 : decode cX0_leastOfPair 2 = .ok (.getfield 32, 3) := by decide +kernel
theorem dX0_leastOfPair_5 : decode cX0_leastOfPair 5 = .ok (.iload_n 1, 1) := by decide +kernel
theorem dX0_leastOfPair_6 : decode cX0_leastOfPair 6 = .ok (.iload_n 2, 1) := by decide +kernel
theorem dX0_leastOfPair_7 : decode cX0_leastOfPair 7 = .ok (.invokevirtual 96, 3) := by decide +kernel
theorem dX0_leastOfPair_10 : decode cX0_leastOfPair 10 = .ok (.iconst 0, 1) := by decide +kernel
theorem dX0_leastOfPair_11 : decode cX0_leastOfPair 11 = .ok (.istore_n 3, 1) := by decide +kernel
theorem dX0_leastOfPair_12 : decode cX0_leastOfPair 12 = .ok (.iconst 0, 1) := by decide +kernel
theorem dX0_leastOfPair_13 : decode cX0_leastOfPair 13 = .ok (.istore 4, 2) := by decide +kernel
theorem dX0_leastOfPair_15 : decode cX0_leastOfPair 15 = .ok (.iconst 0, 1) := by decide +kernel
theorem dX0_leastOfPair_16 : decode cX0_leastOfPair 16 = .ok (.istore 5, 2) := by decide +kernel
theorem dX0_leastOfPair_18 : decode cX0_leastOfPair 18 = .ok (.iload 5, 2) := by decide +kernel
theorem dX0_leastOfPair_20 : decode cX0_leastOfPair 20 = .ok (.aload_n 0, 1) := by decide +kernel
theorem dX0_leastOfPair_21 : decode cX0_leastOfPair 21 = .ok (.getfield 7, 3) := by decide +kernel
theorem dX0_leastOfPair_24 : decode cX0_leastOfPair 24 = .ok (.if_icmp .ge 45, 3) := by decide +kernel
theorem dX0_leastOfPair_27 : decode cX0_leastOfPair 27 = .ok (.iload_n 3, 1) := by decide +kernel
theorem dX0_leastOfPair_28 : decode cX0_leastOfPair 28 = .ok (.aload_n 0, 1) := by decide +kernel
theorem dX0_leastOfPair_29 : decode cX0_leastOfPair 29 = .ok (.aload_n 0, 1) := by decide +kernel
theorem dX0_leastOfPair_30 : decode cX0_leastOfPair 30 = .ok (.getfield 32, 3) := by decide +kernel
theorem dX0_leastOfPair_33 : decode cX0_leastOfPair 33 = .ok (.iload 5, 2) := by decide +kernel
theorem dX0_leastOfPair_35 : decode cX0_leastOfPair 35 = .ok (.iaload, 1) := by decide +kernel
theorem dX0_leastOfPair_36 : decode cX0_leastOfPair 36 = .ok (.iload_n 1, 1) := by decide +kernel
theorem dX0_leastOfPair_37 : decode cX0_leastOfPair 37 = .ok (.invokevirtual 114, 3) := by decide +kernel
theorem dX0_leastOfPair_40 : decode cX0_leastOfPair 40 = .ok (.iadd, 1) := by decide +kernel
theorem dX0_leastOfPair_41 : decode cX0_leastOfPair 41 = .ok (.istore_n 3, 1) := by decide +kernel
theorem dX0_leastOfPair_42 : decode cX0_leastOfPair 42 = .ok (.iload_n 3, 1) := by decide +kernel
theorem dX0_leastOfPair_43 : decode cX0_leastOfPair 43 = .ok (.iload 4, 2) := by decide +kernel
theorem dX0_leastOfPair_45 : decode cX0_leastOfPair 45 = .ok (.invokestatic 167, 3) := by decide +kernel
theorem dX0_leastOfPair_48 : decode cX0_leastOfPair 48 = .ok (.aload_n 0, 1) := by decide +kernel
theorem dX0_leastOfPair_49 : decode cX0_leastOfPair 49 = .ok (.aload_n 0, 1) := by decide +kernel
theorem dX0_leastOfPair_50 : decode cX0_leastOfPair 50 = .ok (.getfield 32, 3) := by decide +kernel
theorem dX0_leastOfPair_53 : decode cX0_leastOfPair 53 = .ok (.iload 5, 2) := by decide +kernel
theorem dX0_leastOfPair_55 : decode cX0_leastOfPair 55 = .ok (.iaload, 1) := by decide +kernel
theorem dX0_leastOfPair_56 : decode cX0_leastOfPair 56 = .ok (.iload_n 2, 1) := by decide +kernel
theorem dX0_leastOfPair_57 : decode cX0_leastOfPair 57 = .ok (.invokevirtual 114, 3) := by decide +kernel
theorem dX0_leastOfPair_60 : decode cX0_leastOfPair 60 = .ok (.iadd, 1) := by decide +kernel
theorem dX0_leastOfPair_61 : decode cX0_leastOfPair 61 = .ok (.istore 4, 2) := by decide +kernel
theorem dX0_leastOfPair_63 : decode cX0_leastOfPair 63 = .ok (.iinc 5 1, 3) := by decide +kernel
theorem dX0_leastOfPair_66 : decode cX0_leastOfPair 66 = .ok (.goto (-48), 3) := by decide +kernel
theorem dX0_leastOfPair_69 : decode cX0_leastOfPair 69 = .ok (.iload 4, 2) := by decide +kernel
theorem dX0_leastOfPair_71 : decode cX0_leastOfPair 71 = .ok (.ireturn, 1) := by decide +kernel
set_option maxRecDepth 20000 in
theorem ggX0_scheduleOrder_X0_scheduleJob : GoodIn wsX0_scheduleOrder wsX0_scheduleJob := goodIn_r _ [7, 8, 9, 10, 11, 12, 13, 14, 15, 16, 17, 6, 18, 19, 20, 21, 22, 23, 24, 25, 26, 27, 28, 29, 30, 35, 36, 37, 38, 39, 40, 41, 42, 43, 44, 45, 46, 47] (by decide +kernel) (by decide +kernel)
set_option maxRecDepth 20000 in
theorem gX0_scheduleOrder_X0_scheduleJob : GoodIn wsX0_scheduleOrder (wsV RX0 156 RX0 yX0_scheduleJob wsX0_scheduleJob) := goodIn_app (goodIn_of _ (by decide +kernel)) ggX0_scheduleOrder_X0_scheduleJob
set_option maxRecDepth 20000 in
theorem ggX0_scheduleOrder_X0_lastEnd : GoodIn wsX0_scheduleOrder wsX0_lastEnd := goodIn_r _ [34, 14, 8, 23, 24, 6, 25, 35, 36, 37, 38, 39, 40, 41, 42, 43, 44, 45, 46, 47] (by decide +kernel) (by decide +kernel)
set_option maxRecDepth 20000 in
theorem gX0_scheduleOrder_X0_lastEnd : GoodIn wsX0_scheduleOrder (wsV RX0 160 RX0 yX0_lastEnd wsX0_lastEnd) := goodIn_app (goodIn_of _ (by decide +kernel)) ggX0_scheduleOrder_X0_lastEnd
theorem dX0_scheduleOrder_0 : decode cX0_scheduleOrder 0 = .ok (.iconst 0, 1) := by decide +kernel
theorem dX0_scheduleOrder_1 : decode cX0_scheduleOrder 1 = .ok (.istore_n 2, 1) := by decide +kernel
theorem dX0_scheduleOrder_2 : decode cX0_scheduleOrder 2 = .ok (.iload_n 2, 1) := by decide +kernel
theorem dX0_scheduleOrder_3 : decode cX0_scheduleOrder 3 = .ok (.aload_n 0, 1) := by decide +kernel
theorem dX0_scheduleOrder_4 : decode cX0_scheduleOrder 4 = .ok (.getfield 7, 3) := by decide +kernel
theorem dX0_scheduleOrder_7 : decode cX0_scheduleOrder 7 = .ok (.if_icmp .ge 21, 3) := by decide +kernel
theorem dX0_scheduleOrder_10 : decode cX0_scheduleOrder 10 = .ok (.aload_n 0, 1) := by decide +kernel
theorem dX0_scheduleOrder_11 : decode cX0_scheduleOrder 11 = .ok (.iload_n 1, 1) := by decide +kernel
theorem dX0_scheduleOrder_12 : decode cX0_scheduleOrder 12 = .ok (.iload_n 2, 1) := by decide +kernel
theorem dX0_scheduleOrder_13 : decode cX0_scheduleOrder 13 = .ok (.aload_n 0, 1) := by decide +kernel
theorem dX0_scheduleOrder_14 : decode cX0_scheduleOrder 14 = .ok (.getfield 29, 3) := by decide +kernel
theorem dX0_scheduleOrder_17 : decode cX0_scheduleOrder 17 = .ok (.iload_n 2, 1) := by decide +kernel
theorem dX0_scheduleOrder_18 : decode cX0_scheduleOrder 18 = .ok (.iaload, 1) := by decide +kernel
theorem dX0_scheduleOrder_19 : decode cX0_scheduleOrder 19 = .ok (.invokevirtual 156, 3) := by decide +kernel
theorem dX0_scheduleOrder_22 : decode cX0_scheduleOrder 22 = .ok (.iinc 2 1, 3) := by decide +kernel
theorem dX0_scheduleOrder_25 : decode cX0_scheduleOrder 25 = .ok (.goto (-23), 3) := by decide +kernel
theorem dX0_scheduleOrder_28 : decode cX0_scheduleOrder 28 = .ok (.aload_n 0, 1) := by decide +kernel
theorem dX0_scheduleOrder_29 : decode cX0_scheduleOrder 29 = .ok (.aload_n 0, 1) := by decide +kernel
theorem dX0_scheduleOrder_30 : decode cX0_scheduleOrder 30 = .ok (.getfield 7, 3) := by decide +kernel
theorem dX0_scheduleOrder_33 : decode cX0_scheduleOrder 33 = .ok (.invokevirtual 160, 3) := by decide +kernel
theorem dX0_scheduleOrder_36 : decode cX0_scheduleOrder 36 = .ok (.ireturn, 1) := by decide +kernel
set_option maxRecDepth 20000 in
theorem ggX0_lastEnd_X0_cell : GoodIn wsX0_lastEnd wsX0_cell := goodIn_r _ [6] (by decide +kernel) (by decide +kernel)
set_option maxRecDepth 20000 in
theorem gX0_lastEnd_X0_cell : GoodIn wsX0_lastEnd (va_wsS RX0 66 yX0_cell wsX0_cell) := goodIn_app (goodIn_of _ (by decide +kernel)) ggX0_lastEnd_X0_cell
theorem dX0_lastEnd_0 : decode cX0_lastEnd 0 = .ok (.iload_n 1, 1) := by decide +kernel
theorem dX0_lastEnd_1 : decode cX0_lastEnd 1 = .ok (.iconst 1, 1) := by decide +kernel
theorem dX0_lastEnd_2 : decode cX0_lastEnd 2 = .ok (.if_icmp .ge 5, 3) := by decide +kernel
theorem dX0_lastEnd_5 : decode cX0_lastEnd 5 = .ok (.iconst 0, 1) := by decide +kernel
theorem dX0_lastEnd_6 : decode cX0_lastEnd 6 = .ok (.ireturn, 1) := by decide +kernel
theorem dX0_lastEnd_7 : decode cX0_lastEnd 7 = .ok (.aload_n 0, 1) := by decide +kernel
theorem dX0_lastEnd_8 : decode cX0_lastEnd 8 = .ok (.getfield 23, 3) := by decide +kernel
theorem dX0_lastEnd_11 : decode cX0_lastEnd 11 = .ok (.iload_n 1, 1) := by decide +kernel
theorem dX0_lastEnd_12 : decode cX0_lastEnd 12 = .ok (.iconst 1, 1) := by decide +kernel
theorem dX0_lastEnd_13 : decode cX0_lastEnd 13 = .ok (.isub, 1) := by decide +kernel
theorem dX0_lastEnd_14 : decode cX0_lastEnd 14 = .ok (.aload_n 0, 1) := by decide +kernel
theorem dX0_lastEnd_15 : decode cX0_lastEnd 15 = .ok (.getfield 13, 3) := by decide +kernel
theorem dX0_lastEnd_18 : decode cX0_lastEnd 18 = .ok (.iconst 1, 1) := by decide +kernel
theorem dX0_lastEnd_19 : decode cX0_lastEnd 19 = .ok (.isub, 1) := by decide +kernel
theorem dX0_lastEnd_20 : decode cX0_lastEnd 20 = .ok (.invokestatic 66, 3) := by decide +kernel
theorem dX0_lastEnd_23 : decode cX0_lastEnd 23 = .ok (.iaload, 1) := by decide +kernel
theorem dX0_lastEnd_24 : decode cX0_lastEnd 24 = .ok (.ireturn, 1) := by decide +kernel
set_option maxRecDepth 20000 in
theorem ggX0_scheduleJob_X0_beginWithoutWaiting : GoodIn wsX0_scheduleJob wsX0_beginWithoutWaiting := goodIn_r _ [12, 1, 2, 3, 4, 5, 13, 14, 15, 11, 16, 6, 7, 17, 18, 19, 20, 21, 22, 23, 24, 25, 26, 27, 28, 29, 30, 31, 32, 33, 34, 35, 36, 37] (by decide +kernel) (by decide +kernel)
set_option maxRecDepth 20000 in
theorem gX0_scheduleJob_X0_beginWithoutWaiting : GoodIn wsX0_scheduleJob (wsV RX0 170 RX0 yX0_beginWithoutWaiting wsX0_beginWithoutWaiting) := goodIn_app (goodIn_of _ (by decide +kernel)) ggX0_scheduleJob_X0_beginWithoutWaiting
set_option maxRecDepth 20000 in
theorem ggX0_scheduleJob_X0_freeFrom : GoodIn wsX0_scheduleJob wsX0_freeFrom := goodIn_r _ [16, 1, 6, 7, 17, 18, 11, 19, 25, 26, 27, 28, 29, 30, 31, 32, 33, 34, 35, 36, 37] (by decide +kernel) (by decide +kernel)
set_option maxRecDepth 20000 in
theorem gX0_scheduleJob_X0_freeFrom : GoodIn wsX0_scheduleJob (wsV RX0 173 RX0 yX0_freeFrom wsX0_freeFrom) := goodIn_app (goodIn_of _ (by decide +kernel)) ggX0_scheduleJob_X0_freeFrom
set_option maxRecDepth 20000 in
theorem ggX0_scheduleJob_X0_cell : GoodIn wsX0_scheduleJob wsX0_cell := goodIn_r _ [19] (by decide +kernel) (by decide +kernel)
set_option maxRecDepth 20000 in
theorem gX0_scheduleJob_X0_cell : GoodIn wsX0_scheduleJob (va_wsS RX0 66 yX0_cell wsX0_cell) := goodIn_app (goodIn_of _ (by decide +kernel)) ggX0_scheduleJob_X0_cell
set_option maxRecDepth 20000 in
theorem ggX0_scheduleJob_X0_timeOf : GoodIn wsX0_scheduleJob wsX0_timeOf := goodIn_r _ [23, 24, 17, 18, 11, 19, 25, 26, 27, 28, 29, 30, 31, 32, 33, 34, 35, 36, 37] (by decide +kernel) (by decide +kernel)
set_option maxRecDepth 20000 in
theorem gX0_scheduleJob_X0_timeOf : GoodIn wsX0_scheduleJob (wsV RX0 114 RX0 yX0_timeOf wsX0_timeOf) := goodIn_app (goodIn_of _ (by decide +kernel)) ggX0_scheduleJob_X0_timeOf
theorem dX0_scheduleJob_0 : decode cX0_scheduleJob 0 = .ok (.iload_n 1, 1) := by decide +kernel
theorem dX0_scheduleJob_1 : decode cX0_scheduleJob 1 = .ok (.iconst 2, 1) := by decide +kernel
theorem dX0_scheduleJob_2 : decode cX0_scheduleJob 2 = .ok (.if_icmp .ne 12, 3) := by decide +kernel
theorem dX0_scheduleJob_5 : decode cX0_scheduleJob 5 = .ok (.aload_n 0, 1) := by decide +kernel
theorem dX0_scheduleJob_6 : decode cX0_scheduleJob 6 = .ok (.iload_n 2, 1) := by decide +kernel
theorem dX0_scheduleJob_7 : decode cX0_scheduleJob 7 = .ok (.iload_n 3, 1) := by decide +kernel
theorem dX0_scheduleJob_8 : decode cX0_scheduleJob 8 = .ok (.invokevirtual 170, 3) := by decide +kernel
theorem dX0_scheduleJob_11 : decode cX0_scheduleJob 11 = .ok (.goto 4, 3) := by decide +kernel
theorem dX0_scheduleJob_14 : decode cX0_scheduleJob 14 = .ok (.iconst 0, 1) := by decide +kernel
theorem dX0_scheduleJob_15 : decode cX0_scheduleJob 15 = .ok (.istore 4, 2) := by decide +kernel
theorem dX0_scheduleJob_17 : decode cX0_scheduleJob 17 = .ok (.iconst 0, 1) := by decide +kernel
theorem dX0_scheduleJob_18 : decode cX0_scheduleJob 18 = .ok (.istore 5, 2) := by decide +kernel
theorem dX0_scheduleJob_20 : decode cX0_scheduleJob 20 = .ok (.iload 5, 2) := by decide +kernel
theorem dX0_scheduleJob_22 : decode cX0_scheduleJob 22 = .ok (.aload_n 0, 1) := by decide +kernel
theorem dX0_scheduleJob_23 : decode cX0_scheduleJob 23 = .ok (.getfield 13, 3) := by decide +kernel
theorem dX0_scheduleJob_26 : decode cX0_scheduleJob 26 = .ok (.if_icmp .ge 62, 3) := by decide +kernel
theorem dX0_scheduleJob_29 : decode cX0_scheduleJob 29 = .ok (.iload 4, 2) := by decide +kernel
theorem dX0_scheduleJob_31 : decode cX0_scheduleJob 31 = .ok (.aload_n 0, 1) := by decide +kernel
theorem dX0_scheduleJob_32 : decode cX0_scheduleJob 32 = .ok (.iload_n 1, 1) := by decide +kernel
theorem dX0_scheduleJob_33 : decode cX0_scheduleJob 33 = .ok (.iload_n 2, 1) := by decide +kernel
theorem dX0_scheduleJob_34 : decode cX0_scheduleJob 34 = .ok (.iload 5, 2) := by decide +kernel
theorem dX0_scheduleJob_36 : decode cX0_scheduleJob 36 = .ok (.invokevirtual 173, 3) := by decide +kernel
theorem dX0_scheduleJob_39 : decode cX0_scheduleJob 39 = .ok (.invokestatic 167, 3) := by decide +kernel
theorem dX0_scheduleJob_42 : decode cX0_scheduleJob 42 = .ok (.istore 6, 2) := by decide +kernel
theorem dX0_scheduleJob_44 : decode cX0_scheduleJob 44 = .ok (.aload_n 0, 1) := by decide +kernel
theorem dX0_scheduleJob_45 : decode cX0_scheduleJob 45 = .ok (.getfield 20, 3) := by decide +kernel
theorem dX0_scheduleJob_48 : decode cX0_scheduleJob 48 = .ok (.iload_n 2, 1) := by decide +kernel
theorem dX0_scheduleJob_49 : decode cX0_scheduleJob 49 = .ok (.iload 5, 2) := by decide +kernel
theorem dX0_scheduleJob_51 : decode cX0_scheduleJob 51 = .ok (.invokestatic 66, 3) := by decide +kernel
theorem dX0_scheduleJob_54 : decode cX0_scheduleJob 54 = .ok (.iload 6, 2) := by decide +kernel
theorem dX0_scheduleJob_56 : decode cX0_scheduleJob 56 = .ok (.iastore, 1) := by decide +kernel
theorem dX0_scheduleJob_57 : decode cX0_scheduleJob 57 = .ok (.iload 6, 2) := by decide +kernel
theorem dX0_scheduleJob_59 : decode cX0_scheduleJob 59 = .ok (.aload_n 0, 1) := by decide +kernel
theorem dX0_scheduleJob_60 : decode cX0_scheduleJob 60 = .ok (.iload_n 3, 1) := by decide +kernel
theorem dX0_scheduleJob_61 : decode cX0_scheduleJob 61 = .ok (.iload 5, 2) := by decide +kernel
theorem dX0_scheduleJob_63 : decode cX0_scheduleJob 63 = .ok (.invokevirtual 114, 3) := by decide +kernel
theorem dX0_scheduleJob_66 : decode cX0_scheduleJob 66 = .ok (.iadd, 1) := by decide +kernel
theorem dX0_scheduleJob_67 : decode cX0_scheduleJob 67 = .ok (.istore 4, 2) := by decide +kernel
theorem dX0_scheduleJob_69 : decode cX0_scheduleJob 69 = .ok (.aload_n 0, 1) := by decide +kernel
theorem dX0_scheduleJob_70 : decode cX0_scheduleJob 70 = .ok (.getfield 23, 3) := by decide +kernel
theorem dX0_scheduleJob_73 : decode cX0_scheduleJob 73 = .ok (.iload_n 2, 1) := by decide +kernel
theorem dX0_scheduleJob_74 : decode cX0_scheduleJob 74 = .ok (.iload 5, 2) := by decide +kernel
theorem dX0_scheduleJob_76 : decode cX0_scheduleJob 76 = .ok (.invokestatic 66, 3) := by decide +kernel
theorem dX0_scheduleJob_79 : decode cX0_scheduleJob 79 = .ok (.iload 4, 2) := by decide +kernel
theorem dX0_scheduleJob_81 : decode cX0_scheduleJob 81 = .ok (.iastore, 1) := by decide +kernel
theorem dX0_scheduleJob_82 : decode cX0_scheduleJob 82 = .ok (.iinc 5 1, 3) := by decide +kernel
theorem dX0_scheduleJob_85 : decode cX0_scheduleJob 85 = .ok (.goto (-65), 3) := by decide +kernel
theorem dX0_scheduleJob_88 : decode cX0_scheduleJob 88 = .ok (.return_, 1) := by decide +kernel
set_option maxRecDepth 20000 in
theorem ggX0_beginWithoutWaiting_X0_freeFrom : GoodIn wsX0_beginWithoutWaiting wsX0_freeFrom := goodIn_r _ [10, 1, 11, 12, 13, 14, 9, 15, 21, 22, 23, 24, 25, 26, 27, 28, 29, 30, 31, 32, 33] (by decide +kernel) (by decide +kernel)
set_option maxRecDepth 20000 in
theorem gX0_beginWithoutWaiting_X0_freeFrom : GoodIn wsX0_beginWithoutWaiting (wsV RX0 173 RX0 yX0_freeFrom wsX0_freeFrom) := goodIn_app (goodIn_of _ (by decide +kernel)) ggX0_beginWithoutWaiting_X0_freeFrom
set_option maxRecDepth 20000 in
theorem ggX0_beginWithoutWaiting_X0_timeOf : GoodIn wsX0_beginWithoutWaiting wsX0_timeOf := goodIn_r _ [19, 20, 13, 14, 9, 15, 21, 22, 23, 24, 25, 26, 27, 28, 29, 30, 31, 32, 33] (by decide +kernel) (by decide +kernel)
set_option maxRecDepth 20000 in
theorem gX0_beginWithoutWaiting_X0_timeOf : GoodIn wsX0_beginWithoutWaiting (wsV RX0 114 RX0 yX0_timeOf wsX0_timeOf) := goodIn_app (goodIn_of _ (by decide +kernel)) ggX0_beginWithoutWaiting_X0_timeOf
theorem dX0_beginWithoutWaiting_0 : decode cX0_beginWithoutWaiting 0 = .ok (.iconst 0, 1) := by decide +kernel
theorem dX0_beginWithoutWaiting_1 : decode cX0_beginWithoutWaiting 1 = .ok (.istore_n 3, 1) := by decide +kernel
theorem dX0_beginWithoutWaiting_2 : decode cX0_beginWithoutWaiting 2 = .ok (.iconst 0, 1) := by decide +kernel
theorem dX0_beginWithoutWaiting_3 : decode cX0_beginWithoutWaiting 3 = .ok (.istore 4, 2) := by decide +kernel
theorem dX0_beginWithoutWaiting_5 : decode cX0_beginWithoutWaiting 5 = .ok (.iconst 0, 1) := by decide +kernel
theorem dX0_beginWithoutWaiting_6 : decode cX0_beginWithoutWaiting 6 = .ok (.istore 5, 2) := by decide +kernel
theorem dX0_beginWithoutWaiting_8 : decode cX0_beginWithoutWaiting 8 = .ok (.iload 5, 2) := by decide +kernel
theorem dX0_beginWithoutWaiting_10 : decode cX0_beginWithoutWaiting 10 = .ok (.aload_n 0, 1) := by decide +kernel
theorem dX0_beginWithoutWaiting_11 : decode cX0_beginWithoutWaiting 11 = .ok (.getfield 13, 3) := by decide +kernel
theorem dX0_beginWithoutWaiting_14 : decode cX0_beginWithoutWaiting 14 = .ok (.if_icmp .ge 37, 3) := by decide +kernel
theorem dX0_beginWithoutWaiting_17 : decode cX0_beginWithoutWaiting 17 = .ok (.iload_n 3, 1) := by decide +kernel
theorem dX0_beginWithoutWaiting_18 : decode cX0_beginWithoutWaiting 18 = .ok (.aload_n 0, 1) := by decide +kernel
theorem dX0_beginWithoutWaiting_19 : decode cX0_beginWithoutWaiting 19 = .ok (.iconst 2, 1) := by decide +kernel
theorem dX0_beginWithoutWaiting_20 : decode cX0_beginWithoutWaiting 20 = .ok (.iload_n 1, 1) := by decide +kernel
theorem dX0_beginWithoutWaiting_21 : decode cX0_beginWithoutWaiting 21 = .ok (.iload 5, 2) := by decide +kernel
theorem dX0_beginWithoutWaiting_23 : decode cX0_beginWithoutWaiting 23 = .ok (.invokevirtual 173, 3) := by decide +kernel
theorem dX0_beginWithoutWaiting_26 : decode cX0_beginWithoutWaiting 26 = .ok (.iload 4, 2) := by decide +kernel
theorem dX0_beginWithoutWaiting_28 : decode cX0_beginWithoutWaiting 28 = .ok (.isub, 1) := by decide +kernel
theorem dX0_beginWithoutWaiting_29 : decode cX0_beginWithoutWaiting 29 = .ok (.invokestatic 167, 3) := by decide +kernel
theorem dX0_beginWithoutWaiting_32 : decode cX0_beginWithoutWaiting 32 = .ok (.istore_n 3, 1) := by decide +kernel
theorem dX0_beginWithoutWaiting_33 : decode cX0_beginWithoutWaiting 33 = .ok (.iload 4, 2) := by decide +kernel
theorem dX0_beginWithoutWaiting_35 : decode cX0_beginWithoutWaiting 35 = .ok (.aload_n 0, 1) := by decide +kernel
theorem dX0_beginWithoutWaiting_36 : decode cX0_beginWithoutWaiting 36 = .ok (.iload_n 2, 1) := by decide +kernel
theorem dX0_beginWithoutWaiting_37 : decode cX0_beginWithoutWaiting 37 = .ok (.iload 5, 2) := by decide +kernel
theorem dX0_beginWithoutWaiting_39 : decode cX0_beginWithoutWaiting 39 = .ok (.invokevirtual 114, 3) := by decide +kernel
theorem dX0_beginWithoutWaiting_42 : decode cX0_beginWithoutWaiting 42 = .ok (.iadd, 1) := by decide +kernel
theorem dX0_beginWithoutWaiting_43 : decode cX0_beginWithoutWaiting 43 = .ok (.istore 4, 2) := by decide +kernel
theorem dX0_beginWithoutWaiting_45 : decode cX0_beginWithoutWaiting 45 = .ok (.iinc 5 1, 3) := by decide +kernel
theorem dX0_beginWithoutWaiting_48 : decode cX0_beginWithoutWaiting 48 = .ok (.goto (-40), 3) := by decide +kernel
theorem dX0_beginWithoutWaiting_51 : decode cX0_beginWithoutWaiting 51 = .ok (.iload_n 3, 1) := by decide +kernel
theorem dX0_beginWithoutWaiting_52 : decode cX0_beginWithoutWaiting 52 = .ok (.ireturn, 1) := by decide +kernel
set_option maxRecDepth 20000 in
theorem ggX0_freeFrom_X0_cell : GoodIn wsX0_freeFrom wsX0_cell := goodIn_r _ [7] (by decide +kernel) (by decide +kernel)
set_option maxRecDepth 20000 in
theorem gX0_freeFrom_X0_cell : GoodIn wsX0_freeFrom (va_wsS RX0 66 yX0_cell wsX0_cell) := goodIn_app (goodIn_of _ (by decide +kernel)) ggX0_freeFrom_X0_cell
theorem dX0_freeFrom_0 : decode cX0_freeFrom 0 = .ok (.iload_n 2, 1) := by decide +kernel
theorem dX0_freeFrom_1 : decode cX0_freeFrom 1 = .ok (.iconst 1, 1) := by decide +kernel
theorem dX0_freeFrom_2 : decode cX0_freeFrom 2 = .ok (.if_icmp .ge 5, 3) := by decide +kernel
theorem dX0_freeFrom_5 : decode cX0_freeFrom 5 = .ok (.iconst 0, 1) := by decide +kernel
theorem dX0_freeFrom_6 : decode cX0_freeFrom 6 = .ok (.ireturn, 1) := by decide +kernel
theorem dX0_freeFrom_7 : decode cX0_freeFrom 7 = .ok (.iload_n 1, 1) := by decide +kernel
theorem dX0_freeFrom_8 : decode cX0_freeFrom 8 = .ok (.iconst 1, 1) := by decide +kernel
theorem dX0_freeFrom_9 : decode cX0_freeFrom 9 = .ok (.if_icmp .ne 28, 3) := by decide +kernel
theorem dX0_freeFrom_12 : decode cX0_freeFrom 12 = .ok (.iload_n 3, 1) := by decide +kernel
theorem dX0_freeFrom_13 : decode cX0_freeFrom 13 = .ok (.aload_n 0, 1) := by decide +kernel
theorem dX0_freeFrom_14 : decode cX0_freeFrom 14 = .ok (.getfield 13, 3) := by decide +kernel
theorem dX0_freeFrom_17 : decode cX0_freeFrom 17 = .ok (.iconst 1, 1) := by decide +kernel
theorem dX0_freeFrom_18 : decode cX0_freeFrom 18 = .ok (.isub, 1) := by decide +kernel
theorem dX0_freeFrom_19 : decode cX0_freeFrom 19 = .ok (.if_icmp .ge 18, 3) := by decide +kernel
theorem dX0_freeFrom_22 : decode cX0_freeFrom 22 = .ok (.aload_n 0, 1) := by decide +kernel
theorem dX0_freeFrom_23 : decode cX0_freeFrom 23 = .ok (.getfield 20, 3) := by decide +kernel
theorem dX0_freeFrom_26 : decode cX0_freeFrom 26 = .ok (.iload_n 2, 1) := by decide +kernel
theorem dX0_freeFrom_27 : decode cX0_freeFrom 27 = .ok (.iconst 1, 1) := by decide +kernel
theorem dX0_freeFrom_28 : decode cX0_freeFrom 28 = .ok (.isub, 1) := by decide +kernel
theorem dX0_freeFrom_29 : decode cX0_freeFrom 29 = .ok (.iload_n 3, 1) := by decide +kernel
theorem dX0_freeFrom_30 : decode cX0_freeFrom 30 = .ok (.iconst 1, 1) := by decide +kernel
theorem dX0_freeFrom_31 : decode cX0_freeFrom 31 = .ok (.iadd, 1) := by decide +kernel
theorem dX0_freeFrom_32 : decode cX0_freeFrom 32 = .ok (.invokestatic 66, 3) := by decide +kernel
theorem dX0_freeFrom_35 : decode cX0_freeFrom 35 = .ok (.iaload, 1) := by decide +kernel
theorem dX0_freeFrom_36 : decode cX0_freeFrom 36 = .ok (.ireturn, 1) := by decide +kernel
theorem dX0_freeFrom_37 : decode cX0_freeFrom 37 = .ok (.aload_n 0, 1) := by decide +kernel
theorem dX0_freeFrom_38 : decode cX0_freeFrom 38 = .ok (.getfield 23, 3) := by decide +kernel
theorem dX0_freeFrom_41 : decode cX0_freeFrom 41 = .ok (.iload_n 2, 1) := by decide +kernel
theorem dX0_freeFrom_42 : decode cX0_freeFrom 42 = .ok (.iconst 1, 1) := by decide +kernel
theorem dX0_freeFrom_43 : decode cX0_freeFrom 43 = .ok (.isub, 1) := by decide +kernel
theorem dX0_freeFrom_44 : decode cX0_freeFrom 44 = .ok (.iload_n 3, 1) := by decide +kernel
theorem dX0_freeFrom_45 : decode cX0_freeFrom 45 = .ok (.invokestatic 66, 3) := by decide +kernel
theorem dX0_freeFrom_48 : decode cX0_freeFrom 48 = .ok (.iaload, 1) := by decide +kernel
theorem dX0_freeFrom_49 : decode cX0_freeFrom 49 = .ok (.ireturn, 1) := by decide +kernel
theorem dX0_forgetBestOrders_0 : decode cX0_forgetBestOrders 0 = .ok (.iconst 0, 1) := by decide +kernel
theorem dX0_forgetBestOrders_1 : decode cX0_forgetBestOrders 1 = .ok (.istore_n 1, 1) := by decide +kernel
theorem dX0_forgetBestOrders_2 : decode cX0_forgetBestOrders 2 = .ok (.iload_n 1, 1) := by decide +kernel
theorem dX0_forgetBestOrders_3 : decode cX0_forgetBestOrders 3 = .ok (.iconst 3, 1) := by decide +kernel
theorem dX0_forgetBestOrders_4 : decode cX0_forgetBestOrders 4 = .ok (.if_icmp .ge 16, 3) := by decide +kernel
theorem dX0_forgetBestOrders_7 : decode cX0_forgetBestOrders 7 = .ok (.aload_n 0, 1) := by decide +kernel
theorem dX0_forgetBestOrders_8 : decode cX0_forgetBestOrders 8 = .ok (.getfield 38, 3) := by decide +kernel
theorem dX0_forgetBestOrders_11 : decode cX0_forgetBestOrders 11 = .ok (.iload_n 1, 1) := by decide +kernel
theorem dX0_forgetBestOrders_12 : decode cX0_forgetBestOrders 12 = .ok (.iconst 0, 1) := by decide +kernel
theorem dX0_forgetBestOrders_13 : decode cX0_forgetBestOrders 13 = .ok (.bastore, 1) := by decide +kernel
theorem dX0_forgetBestOrders_14 : decode cX0_forgetBestOrders 14 = .ok (.iinc 1 1, 3) := by decide +kernel
theorem dX0_forgetBestOrders_17 : decode cX0_forgetBestOrders 17 = .ok (.goto (-15), 3) := by decide +kernel
theorem dX0_forgetBestOrders_20 : decode cX0_forgetBestOrders 20 = .ok (.return_, 1) := by decide +kernel
set_option maxRecDepth 20000 in
theorem ggX0_findBestOrder_X0_scheduleJob : GoodIn wsX0_findBestOrder wsX0_scheduleJob := goodIn_r _ [9, 10, 11, 12, 13, 14, 15, 16, 17, 18, 19, 8, 20, 21, 22, 23, 24, 25, 26, 27, 28, 29, 30, 31, 32, 55, 56, 57, 58, 59, 60, 61, 62, 63, 64, 65, 66, 67] (by decide +kernel) (by decide +kernel)
set_option maxRecDepth 20000 in
theorem gX0_findBestOrder_X0_scheduleJob : GoodIn wsX0_findBestOrder (wsV RX0 156 RX0 yX0_scheduleJob wsX0_scheduleJob) := goodIn_app (goodIn_of _ (by decide +kernel)) ggX0_findBestOrder_X0_scheduleJob
set_option maxRecDepth 20000 in
theorem ggX0_findBestOrder_X0_lastEnd : GoodIn wsX0_findBestOrder wsX0_lastEnd := goodIn_r _ [36, 16, 10, 25, 26, 8, 27, 55, 56, 57, 58, 59, 60, 61, 62, 63, 64, 65, 66, 67] (by decide +kernel) (by decide +kernel)
set_option maxRecDepth 20000 in
theorem gX0_findBestOrder_X0_lastEnd : GoodIn wsX0_findBestOrder (wsV RX0 160 RX0 yX0_lastEnd wsX0_lastEnd) := goodIn_app (goodIn_of _ (by decide +kernel)) ggX0_findBestOrder_X0_lastEnd
set_option maxRecDepth 20000 in
theorem ggX0_findBestOrder_X0_countTrial : GoodIn wsX0_findBestOrder wsX0_countTrial := goodIn_r _ [40, 2, 41, 4, 42, 3, 43, 44, 45, 46, 55, 56, 57, 58, 59, 60, 61, 62, 63, 64, 65, 66, 67] (by decide +kernel) (by decide +kernel)
set_option maxRecDepth 20000 in
theorem gX0_findBestOrder_X0_countTrial : GoodIn wsX0_findBestOrder (wsV RX0 176 RX0 yX0_countTrial wsX0_countTrial) := goodIn_app (goodIn_of _ (by decide +kernel)) ggX0_findBestOrder_X0_countTrial
set_option maxRecDepth 20000 in
theorem ggX0_findBestOrder_X0_stepTrial : GoodIn wsX0_findBestOrder wsX0_stepTrial := goodIn_r _ [50, 3, 4, 51, 52, 53, 8, 54, 55, 56, 57, 58, 59, 60, 61, 62, 63, 64, 65, 66, 67] (by decide +kernel) (by decide +kernel)
set_option maxRecDepth 20000 in
theorem gX0_findBestOrder_X0_stepTrial : GoodIn wsX0_findBestOrder (wsV RX0 180 RX0 yX0_stepTrial wsX0_stepTrial) := goodIn_app (goodIn_of _ (by decide +kernel)) ggX0_findBestOrder_X0_stepTrial
theorem dX0_findBestOrder_0 : decode cX0_findBestOrder 0 = .ok (.aload_n 0, 1) := by decide +kernel
theorem dX0_findBestOrder_1 : decode cX0_findBestOrder 1 = .ok (.getfield 38, 3) := by decide +kernel
theorem dX0_findBestOrder_4 : decode cX0_findBestOrder 4 = .ok (.iload_n 1, 1) := by decide +kernel
theorem dX0_findBestOrder_5 : decode cX0_findBestOrder 5 = .ok (.baload, 1) := by decide +kernel
theorem dX0_findBestOrder_6 : decode cX0_findBestOrder 6 = .ok (.ifCond .eq 4, 3) := by decide +kernel
theorem dX0_findBestOrder_9 : decode cX0_findBestOrder 9 = .ok (.return_, 1) := by decide +kernel
theorem dX0_findBestOrder_10 : decode cX0_findBestOrder 10 = .ok (.aload_n 0, 1) := by decide +kernel
theorem dX0_findBestOrder_11 : decode cX0_findBestOrder 11 = .ok (.getfield 45, 3) := by decide +kernel
theorem dX0_findBestOrder_14 : decode cX0_findBestOrder 14 = .ok (.iload_n 1, 1) := by decide +kernel
theorem dX0_findBestOrder_15 : decode cX0_findBestOrder 15 = .ok (.iconst 0, 1) := by decide +kernel
theorem dX0_findBestOrder_16 : decode cX0_findBestOrder 16 = .ok (.iastore, 1) := by decide +kernel
theorem dX0_findBestOrder_17 : decode cX0_findBestOrder 17 = .ok (.iconst 0, 1) := by decide +kernel
theorem dX0_findBestOrder_18 : decode cX0_findBestOrder 18 = .ok (.istore_n 2, 1) := by decide +kernel
theorem dX0_findBestOrder_19 : decode cX0_findBestOrder 19 = .ok (.iload_n 2, 1) := by decide +kernel
theorem dX0_findBestOrder_20 : decode cX0_findBestOrder 20 = .ok (.aload_n 0, 1) := by decide +kernel
theorem dX0_findBestOrder_21 : decode cX0_findBestOrder 21 = .ok (.getfield 7, 3) := by decide +kernel
theorem dX0_findBestOrder_24 : decode cX0_findBestOrder 24 = .ok (.if_icmp .ge 16, 3) := by decide +kernel
theorem dX0_findBestOrder_27 : decode cX0_findBestOrder 27 = .ok (.aload_n 0, 1) := by decide +kernel
theorem dX0_findBestOrder_28 : decode cX0_findBestOrder 28 = .ok (.getfield 32, 3) := by decide +kernel
theorem dX0_findBestOrder_31 : decode cX0_findBestOrder 31 = .ok (.iload_n 2, 1) := by decide +kernel
theorem dX0_findBestOrder_32 : decode cX0_findBestOrder 32 = .ok (.iload_n 2, 1) := by decide +kernel
theorem dX0_findBestOrder_33 : decode cX0_findBestOrder 33 = .ok (.iastore, 1) := by decide +kernel
theorem dX0_findBestOrder_34 : decode cX0_findBestOrder 34 = .ok (.iinc 2 1, 3) := by decide +kernel
theorem dX0_findBestOrder_37 : decode cX0_findBestOrder 37 = .ok (.goto (-18), 3) := by decide +kernel
theorem dX0_findBestOrder_40 : decode cX0_findBestOrder 40 = .ok (.iconst 0, 1) := by decide +kernel
theorem dX0_findBestOrder_41 : decode cX0_findBestOrder 41 = .ok (.istore_n 2, 1) := by decide +kernel
theorem dX0_findBestOrder_42 : decode cX0_findBestOrder 42 = .ok (.iconst 0, 1) := by decide +kernel
theorem dX0_findBestOrder_43 : decode cX0_findBestOrder 43 = .ok (.istore_n 3, 1) := by decide +kernel
theorem dX0_findBestOrder_44 : decode cX0_findBestOrder 44 = .ok (.iload_n 3, 1) := by decide +kernel
theorem dX0_findBestOrder_45 : decode cX0_findBestOrder 45 = .ok (.sipush 5040, 3) := by decide +kernel
theorem dX0_findBestOrder_48 : decode cX0_findBestOrder 48 = .ok (.if_icmp .ge 63, 3) := by decide +kernel
theorem dX0_findBestOrder_51 : decode cX0_findBestOrder 51 = .ok (.iload_n 2, 1) := by decide +kernel
theorem dX0_findBestOrder_52 : decode cX0_findBestOrder 52 = .ok (.ifCond .lt 59, 3) := by decide +kernel
theorem dX0_findBestOrder_55 : decode cX0_findBestOrder 55 = .ok (.iload_n 2, 1) := by decide +kernel
theorem dX0_findBestOrder_56 : decode cX0_findBestOrder 56 = .ok (.istore 4, 2) := by decide +kernel
theorem dX0_findBestOrder_58 : decode cX0_findBestOrder 58 = .ok (.iload 4, 2) := by decide +kernel
theorem dX0_findBestOrder_60 : decode cX0_findBestOrder 60 = .ok (.aload_n 0, 1) := by decide +kernel
theorem dX0_findBestOrder_61 : decode cX0_findBestOrder 61 = .ok (.getfield 7, 3) := by decide +kernel
theorem dX0_findBestOrder_64 : decode cX0_findBestOrder 64 = .ok (.if_icmp .ge 23, 3) := by decide +kernel
theorem dX0_findBestOrder_67 : decode cX0_findBestOrder 67 = .ok (.aload_n 0, 1) := by decide +kernel
theorem dX0_findBestOrder_68 : decode cX0_findBestOrder 68 = .ok (.iload_n 1, 1) := by decide +kernel
theorem dX0_findBestOrder_69 : decode cX0_findBestOrder 69 = .ok (.iload 4, 2) := by decide +kernel
theorem dX0_findBestOrder_71 : decode cX0_findBestOrder 71 = .ok (.aload_n 0, 1) := by decide +kernel
theorem dX0_findBestOrder_72 : decode cX0_findBestOrder 72 = .ok (.getfield 32, 3) := by decide +kernel
theorem dX0_findBestOrder_75 : decode cX0_findBestOrder 75 = .ok (.iload 4, 2) := by decide +kernel
theorem dX0_findBestOrder_77 : decode cX0_findBestOrder 77 = .ok (.iaload, 1) := by decide +kernel
theorem dX0_findBestOrder_78 : decode cX0_findBestOrder 78 = .ok (.invokevirtual 156, 3) := by decide +kernel
theorem dX0_findBestOrder_81 : decode cX0_findBestOrder 81 = .ok (.iinc 4 1, 3) := by decide +kernel
theorem dX0_findBestOrder_84 : decode cX0_findBestOrder 84 = .ok (.goto (-26), 3) := by decide +kernel
theorem dX0_findBestOrder_87 : decode cX0_findBestOrder 87 = .ok (.aload_n 0, 1) := by decide +kernel
theorem dX0_findBestOrder_88 : decode cX0_findBestOrder 88 = .ok (.iload_n 1, 1) := by decide +kernel
theorem dX0_findBestOrder_89 : decode cX0_findBestOrder 89 = .ok (.aload_n 0, 1) := by decide +kernel
theorem dX0_findBestOrder_90 : decode cX0_findBestOrder 90 = .ok (.aload_n 0, 1) := by decide +kernel
theorem dX0_findBestOrder_91 : decode cX0_findBestOrder 91 = .ok (.getfield 7, 3) := by decide +kernel
theorem dX0_findBestOrder_94 : decode cX0_findBestOrder 94 = .ok (.invokevirtual 160, 3) := by decide +kernel
theorem dX0_findBestOrder_97 : decode cX0_findBestOrder 97 = .ok (.invokevirtual 176, 3) := by decide +kernel
theorem dX0_findBestOrder_100 : decode cX0_findBestOrder 100 = .ok (.aload_n 0, 1) := by decide +kernel
theorem dX0_findBestOrder_101 : decode cX0_findBestOrder 101 = .ok (.invokevirtual 180, 3) := by decide +kernel
theorem dX0_findBestOrder_104 : decode cX0_findBestOrder 104 = .ok (.istore_n 2, 1) := by decide +kernel
theorem dX0_findBestOrder_105 : decode cX0_findBestOrder 105 = .ok (.iinc 3 1, 3) := by decide +kernel
theorem dX0_findBestOrder_108 : decode cX0_findBestOrder 108 = .ok (.goto (-64), 3) := by decide +kernel
theorem dX0_findBestOrder_111 : decode cX0_findBestOrder 111 = .ok (.aload_n 0, 1) := by decide +kernel
theorem dX0_findBestOrder_112 : decode cX0_findBestOrder 112 = .ok (.getfield 38, 3) := by decide +kernel
theorem dX0_findBestOrder_115 : decode cX0_findBestOrder 115 = .ok (.iload_n 1, 1) := by decide +kernel
theorem dX0_findBestOrder_116 : decode cX0_findBestOrder 116 = .ok (.iconst 1, 1) := by decide +kernel
theorem dX0_findBestOrder_117 : decode cX0_findBestOrder 117 = .ok (.bastore, 1) := by decide +kernel
theorem dX0_findBestOrder_118 : decode cX0_findBestOrder 118 = .ok (.return_, 1) := by decide +kernel
theorem dX0_countTrial_0 : decode cX0_countTrial 0 = .ok (.aload_n 0, 1) := by decide +kernel
theorem dX0_countTrial_1 : decode cX0_countTrial 1 = .ok (.getfield 45, 3) := by decide +kernel
theorem dX0_countTrial_4 : decode cX0_countTrial 4 = .ok (.iload_n 1, 1) := by decide +kernel
theorem dX0_countTrial_5 : decode cX0_countTrial 5 = .ok (.iaload, 1) := by decide +kernel
theorem dX0_countTrial_6 : decode cX0_countTrial 6 = .ok (.ifCond .eq 13, 3) := by decide +kernel
theorem dX0_countTrial_9 : decode cX0_countTrial 9 = .ok (.iload_n 2, 1) := by decide +kernel
theorem dX0_countTrial_10 : decode cX0_countTrial 10 = .ok (.aload_n 0, 1) := by decide +kernel
theorem dX0_countTrial_11 : decode cX0_countTrial 11 = .ok (.getfield 42, 3) := by decide +kernel
theorem dX0_countTrial_14 : decode cX0_countTrial 14 = .ok (.iload_n 1, 1) := by decide +kernel
theorem dX0_countTrial_15 : decode cX0_countTrial 15 = .ok (.iaload, 1) := by decide +kernel
theorem dX0_countTrial_16 : decode cX0_countTrial 16 = .ok (.if_icmp .ge 37, 3) := by decide +kernel
theorem dX0_countTrial_19 : decode cX0_countTrial 19 = .ok (.aload_n 0, 1) := by decide +kernel
theorem dX0_countTrial_20 : decode cX0_countTrial 20 = .ok (.getfield 42, 3) := by decide +kernel
theorem dX0_countTrial_23 : decode cX0_countTrial 23 = .ok (.iload_n 1, 1) := by decide +kernel
theorem dX0_countTrial_24 : decode cX0_countTrial 24 = .ok (.iload_n 2, 1) := by decide +kernel
theorem dX0_countTrial_25 : decode cX0_countTrial 25 = .ok (.iastore, 1) := by decide +kernel
theorem dX0_countTrial_26 : decode cX0_countTrial 26 = .ok (.aload_n 0, 1) := by decide +kernel
theorem dX0_countTrial_27 : decode cX0_countTrial 27 = .ok (.getfield 45, 3) := by decide +kernel
theorem dX0_countTrial_30 : decode cX0_countTrial 30 = .ok (.iload_n 1, 1) := by decide +kernel
theorem dX0_countTrial_31 : decode cX0_countTrial 31 = .ok (.iconst 0, 1) := by decide +kernel
theorem dX0_countTrial_32 : decode cX0_countTrial 32 = .ok (.iastore, 1) := by decide +kernel
theorem dX0_countTrial_33 : decode cX0_countTrial 33 = .ok (.aload_n 0, 1) := by decide +kernel
theorem dX0_countTrial_34 : decode cX0_countTrial 34 = .ok (.getfield 32, 3) := by decide +kernel
theorem dX0_countTrial_37 : decode cX0_countTrial 37 = .ok (.iconst 0, 1) := by decide +kernel
theorem dX0_countTrial_38 : decode cX0_countTrial 38 = .ok (.aload_n 0, 1) := by decide +kernel
theorem dX0_countTrial_39 : decode cX0_countTrial 39 = .ok (.getfield 48, 3) := by decide +kernel
theorem dX0_countTrial_42 : decode cX0_countTrial 42 = .ok (.iload_n 1, 1) := by decide +kernel
theorem dX0_countTrial_43 : decode cX0_countTrial 43 = .ok (.bipush 7, 2) := by decide +kernel
theorem dX0_countTrial_45 : decode cX0_countTrial 45 = .ok (.imul, 1) := by decide +kernel
theorem dX0_countTrial_46 : decode cX0_countTrial 46 = .ok (.aload_n 0, 1) := by decide +kernel
theorem dX0_countTrial_47 : decode cX0_countTrial 47 = .ok (.getfield 7, 3) := by decide +kernel
theorem dX0_countTrial_50 : decode cX0_countTrial 50 = .ok (.invokestatic 150, 3) := by decide +kernel
theorem dX0_countTrial_53 : decode cX0_countTrial 53 = .ok (.iload_n 2, 1) := by decide +kernel
theorem dX0_countTrial_54 : decode cX0_countTrial 54 = .ok (.aload_n 0, 1) := by decide +kernel
theorem dX0_countTrial_55 : decode cX0_countTrial 55 = .ok (.getfield 42, 3) := by decide +kernel
theorem dX0_countTrial_58 : decode cX0_countTrial 58 = .ok (.iload_n 1, 1) := by decide +kernel
theorem dX0_countTrial_59 : decode cX0_countTrial 59 = .ok (.iaload, 1) := by decide +kernel
theorem dX0_countTrial_60 : decode cX0_countTrial 60 = .ok (.if_icmp .ne 13, 3) := by decide +kernel
theorem dX0_countTrial_63 : decode cX0_countTrial 63 = .ok (.aload_n 0, 1) := by decide +kernel
theorem dX0_countTrial_64 : decode cX0_countTrial 64 = .ok (.getfield 45, 3) := by decide +kernel
theorem dX0_countTrial_67 : decode cX0_countTrial 67 = .ok (.iload_n 1, 1) := by decide +kernel
theorem dX0_countTrial_68 : decode cX0_countTrial 68 = .ok (.dup2, 1) := by decide +kernel
theorem dX0_countTrial_69 : decode cX0_countTrial 69 = .ok (.iaload, 1) := by decide +kernel
theorem dX0_countTrial_70 : decode cX0_countTrial 70 = .ok (.iconst 1, 1) := by decide +kernel
theorem dX0_countTrial_71 : decode cX0_countTrial 71 = .ok (.iadd, 1) := by decide +kernel
theorem dX0_countTrial_72 : decode cX0_countTrial 72 = .ok (.iastore, 1) := by decide +kernel
theorem dX0_countTrial_73 : decode cX0_countTrial 73 = .ok (.return_, 1) := by decide +kernel
set_option maxRecDepth 20000 in
theorem ggX0_stepTrial_X0_swapInTrial : GoodIn wsX0_stepTrial wsX0_swapInTrial := goodIn_r _ [7, 2, 8, 9, 10, 11, 12, 13, 14, 15, 16, 17, 18, 19, 20] (by decide +kernel) (by decide +kernel)
set_option maxRecDepth 20000 in
theorem gX0_stepTrial_X0_swapInTrial : GoodIn wsX0_stepTrial (wsV RX0 184 RX0 yX0_swapInTrial wsX0_swapInTrial) := goodIn_app (goodIn_of _ (by decide +kernel)) ggX0_stepTrial_X0_swapInTrial
theorem dX0_stepTrial_0 : decode cX0_stepTrial 0 = .ok (.aload_n 0, 1) := by decide +kernel
theorem dX0_stepTrial_1 : decode cX0_stepTrial 1 = .ok (.getfield 7, 3) := by decide +kernel
theorem dX0_stepTrial_4 : decode cX0_stepTrial 4 = .ok (.iconst 2, 1) := by decide +kernel
theorem dX0_stepTrial_5 : decode cX0_stepTrial 5 = .ok (.isub, 1) := by decide +kernel
theorem dX0_stepTrial_6 : decode cX0_stepTrial 6 = .ok (.istore_n 1, 1) := by decide +kernel
theorem dX0_stepTrial_7 : decode cX0_stepTrial 7 = .ok (.iload_n 1, 1) := by decide +kernel
theorem dX0_stepTrial_8 : decode cX0_stepTrial 8 = .ok (.ifCond .lt 26, 3) := by decide +kernel
theorem dX0_stepTrial_11 : decode cX0_stepTrial 11 = .ok (.aload_n 0, 1) := by decide +kernel
theorem dX0_stepTrial_12 : decode cX0_stepTrial 12 = .ok (.getfield 32, 3) := by decide +kernel
theorem dX0_stepTrial_15 : decode cX0_stepTrial 15 = .ok (.iload_n 1, 1) := by decide +kernel
theorem dX0_stepTrial_16 : decode cX0_stepTrial 16 = .ok (.iaload, 1) := by decide +kernel
theorem dX0_stepTrial_17 : decode cX0_stepTrial 17 = .ok (.aload_n 0, 1) := by decide +kernel
theorem dX0_stepTrial_18 : decode cX0_stepTrial 18 = .ok (.getfield 32, 3) := by decide +kernel
theorem dX0_stepTrial_21 : decode cX0_stepTrial 21 = .ok (.iload_n 1, 1) := by decide +kernel
theorem dX0_stepTrial_22 : decode cX0_stepTrial 22 = .ok (.iconst 1, 1) := by decide +kernel
theorem dX0_stepTrial_23 : decode cX0_stepTrial 23 = .ok (.iadd, 1) := by decide +kernel
theorem dX0_stepTrial_24 : decode cX0_stepTrial 24 = .ok (.iaload, 1) := by decide +kernel
theorem dX0_stepTrial_25 : decode cX0_stepTrial 25 = .ok (.if_icmp .le 9, 3) := by decide +kernel
theorem dX0_stepTrial_28 : decode cX0_stepTrial 28 = .ok (.iinc 1 (-1), 3) := by decide +kernel
theorem dX0_stepTrial_31 : decode cX0_stepTrial 31 = .ok (.goto (-24), 3) := by decide +kernel
theorem dX0_stepTrial_34 : decode cX0_stepTrial 34 = .ok (.iload_n 1, 1) := by decide +kernel
theorem dX0_stepTrial_35 : decode cX0_stepTrial 35 = .ok (.ifCond .ge 5, 3) := by decide +kernel
theorem dX0_stepTrial_38 : decode cX0_stepTrial 38 = .ok (.iconst (-1), 1) := by decide +kernel
theorem dX0_stepTrial_39 : decode cX0_stepTrial 39 = .ok (.ireturn, 1) := by decide +kernel
theorem dX0_stepTrial_40 : decode cX0_stepTrial 40 = .ok (.aload_n 0, 1) := by decide +kernel
theorem dX0_stepTrial_41 : decode cX0_stepTrial 41 = .ok (.getfield 7, 3) := by decide +kernel
theorem dX0_stepTrial_44 : decode cX0_stepTrial 44 = .ok (.iconst 1, 1) := by decide +kernel
theorem dX0_stepTrial_45 : decode cX0_stepTrial 45 = .ok (.isub, 1) := by decide +kernel
theorem dX0_stepTrial_46 : decode cX0_stepTrial 46 = .ok (.istore_n 2, 1) := by decide +kernel
theorem dX0_stepTrial_47 : decode cX0_stepTrial 47 = .ok (.iload_n 2, 1) := by decide +kernel
theorem dX0_stepTrial_48 : decode cX0_stepTrial 48 = .ok (.iload_n 1, 1) := by decide +kernel
theorem dX0_stepTrial_49 : decode cX0_stepTrial 49 = .ok (.iconst 1, 1) := by decide +kernel
theorem dX0_stepTrial_50 : decode cX0_stepTrial 50 = .ok (.iadd, 1) := by decide +kernel
theorem dX0_stepTrial_51 : decode cX0_stepTrial 51 = .ok (.if_icmp .le 24, 3) := by decide +kernel
theorem dX0_stepTrial_54 : decode cX0_stepTrial 54 = .ok (.aload_n 0, 1) := by decide +kernel
theorem dX0_stepTrial_55 : decode cX0_stepTrial 55 = .ok (.getfield 32, 3) := by decide +kernel
theorem dX0_stepTrial_58 : decode cX0_stepTrial 58 = .ok (.iload_n 2, 1) := by decide +kernel
theorem dX0_stepTrial_59 : decode cX0_stepTrial 59 = .ok (.iaload, 1) := by decide +kernel
theorem dX0_stepTrial_60 : decode cX0_stepTrial 60 = .ok (.aload_n 0, 1) := by decide +kernel
theorem dX0_stepTrial_61 : decode cX0_stepTrial 61 = .ok (.getfield 32, 3) := by decide +kernel
theorem dX0_stepTrial_64 : decode cX0_stepTrial 64 = .ok (.iload_n 1, 1) := by decide +kernel
theorem dX0_stepTrial_65 : decode cX0_stepTrial 65 = .ok (.iaload, 1) := by decide +kernel
theorem dX0_stepTrial_66 : decode cX0_stepTrial 66 = .ok (.if_icmp .ge 9, 3) := by decide +kernel
theorem dX0_stepTrial_69 : decode cX0_stepTrial 69 = .ok (.iinc 2 (-1), 3) := by decide +kernel
theorem dX0_stepTrial_72 : decode cX0_stepTrial 72 = .ok (.goto (-25), 3) := by decide +kernel
theorem dX0_stepTrial_75 : decode cX0_stepTrial 75 = .ok (.aload_n 0, 1) := by decide +kernel
theorem dX0_stepTrial_76 : decode cX0_stepTrial 76 = .ok (.iload_n 1, 1) := by decide +kernel
theorem dX0_stepTrial_77 : decode cX0_stepTrial 77 = .ok (.iload_n 2, 1) := by decide +kernel
theorem dX0_stepTrial_78 : decode cX0_stepTrial 78 = .ok (.invokevirtual 184, 3) := by decide +kernel
theorem dX0_stepTrial_81 : decode cX0_stepTrial 81 = .ok (.iload_n 1, 1) := by decide +kernel
theorem dX0_stepTrial_82 : decode cX0_stepTrial 82 = .ok (.iconst 1, 1) := by decide +kernel
theorem dX0_stepTrial_83 : decode cX0_stepTrial 83 = .ok (.iadd, 1) := by decide +kernel
theorem dX0_stepTrial_84 : decode cX0_stepTrial 84 = .ok (.istore_n 3, 1) := by decide +kernel
theorem dX0_stepTrial_85 : decode cX0_stepTrial 85 = .ok (.aload_n 0, 1) := by decide +kernel
theorem dX0_stepTrial_86 : decode cX0_stepTrial 86 = .ok (.getfield 7, 3) := by decide +kernel
theorem dX0_stepTrial_89 : decode cX0_stepTrial 89 = .ok (.iconst 1, 1) := by decide +kernel
theorem dX0_stepTrial_90 : decode cX0_stepTrial 90 = .ok (.isub, 1) := by decide +kernel
theorem dX0_stepTrial_91 : decode cX0_stepTrial 91 = .ok (.istore 4, 2) := by decide +kernel
theorem dX0_stepTrial_93 : decode cX0_stepTrial 93 = .ok (.iload_n 3, 1) := by decide +kernel
theorem dX0_stepTrial_94 : decode cX0_stepTrial 94 = .ok (.iload 4, 2) := by decide +kernel
theorem dX0_stepTrial_96 : decode cX0_stepTrial 96 = .ok (.if_icmp .ge 19, 3) := by decide +kernel
theorem dX0_stepTrial_99 : decode cX0_stepTrial 99 = .ok (.aload_n 0, 1) := by decide +kernel
theorem dX0_stepTrial_100 : decode cX0_stepTrial 100 = .ok (.iload_n 3, 1) := by decide +kernel
theorem dX0_stepTrial_101 : decode cX0_stepTrial 101 = .ok (.iload 4, 2) := by decide +kernel
theorem dX0_stepTrial_103 : decode cX0_stepTrial 103 = .ok (.invokevirtual 184, 3) := by decide +kernel
theorem dX0_stepTrial_106 : decode cX0_stepTrial 106 = .ok (.iinc 3 1, 3) := by decide +kernel
theorem dX0_stepTrial_109 : decode cX0_stepTrial 109 = .ok (.iinc 4 (-1), 3) := by decide +kernel
theorem dX0_stepTrial_112 : decode cX0_stepTrial 112 = .ok (.goto (-19), 3) := by decide +kernel
theorem dX0_stepTrial_115 : decode cX0_stepTrial 115 = .ok (.iload_n 1, 1) := by decide +kernel
theorem dX0_stepTrial_116 : decode cX0_stepTrial 116 = .ok (.ireturn, 1) := by decide +kernel
theorem dX0_swapInTrial_0 : decode cX0_swapInTrial 0 = .ok (.aload_n 0, 1) := by decide +kernel
theorem dX0_swapInTrial_1 : decode cX0_swapInTrial 1 = .ok (.getfield 32, 3) := by decide +kernel
theorem dX0_swapInTrial_4 : decode cX0_swapInTrial 4 = .ok (.iload_n 1, 1) := by decide +kernel
theorem dX0_swapInTrial_5 : decode cX0_swapInTrial 5 = .ok (.iaload, 1) := by decide +kernel
theorem dX0_swapInTrial_6 : decode cX0_swapInTrial 6 = .ok (.istore_n 3, 1) := by decide +kernel
theorem dX0_swapInTrial_7 : decode cX0_swapInTrial 7 = .ok (.aload_n 0, 1) := by decide +kernel
theorem dX0_swapInTrial_8 : decode cX0_swapInTrial 8 = .ok (.getfield 32, 3) := by decide +kernel
theorem dX0_swapInTrial_11 : decode cX0_swapInTrial 11 = .ok (.iload_n 1, 1) := by decide +kernel
theorem dX0_swapInTrial_12 : decode cX0_swapInTrial 12 = .ok (.aload_n 0, 1) := by decide +kernel
theorem dX0_swapInTrial_13 : decode cX0_swapInTrial 13 = .ok (.getfield 32, 3) := by decide +kernel
theorem dX0_swapInTrial_16 : decode cX0_swapInTrial 16 = .ok (.iload_n 2, 1) := by decide +kernel
theorem dX0_swapInTrial_17 : decode cX0_swapInTrial 17 = .ok (.iaload, 1) := by decide +kernel
theorem dX0_swapInTrial_18 : decode cX0_swapInTrial 18 = .ok (.iastore, 1) := by decide +kernel
theorem dX0_swapInTrial_19 : decode cX0_swapInTrial 19 = .ok (.aload_n 0, 1) := by decide +kernel
theorem dX0_swapInTrial_20 : decode cX0_swapInTrial 20 = .ok (.getfield 32, 3) := by decide +kernel
theorem dX0_swapInTrial_23 : decode cX0_swapInTrial 23 = .ok (.iload_n 2, 1) := by decide +kernel
theorem dX0_swapInTrial_24 : decode cX0_swapInTrial 24 = .ok (.iload_n 3, 1) := by decide +kernel
theorem dX0_swapInTrial_25 : decode cX0_swapInTrial 25 = .ok (.iastore, 1) := by decide +kernel
theorem dX0_swapInTrial_26 : decode cX0_swapInTrial 26 = .ok (.return_, 1) := by decide +kernel
