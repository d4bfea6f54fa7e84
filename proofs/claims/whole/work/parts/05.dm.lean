theorem dX1_init_0 : decode cX1_init 0 = .ok (.aload_n 0, 1) := by decide +kernel
theorem dX1_init_1 : decode cX1_init 1 = .ok (.invokespecial 1, 3) := by decide +kernel
theorem dX1_init_4 : decode cX1_init 4 = .ok (.aload_n 0, 1) := by decide +kernel
theorem dX1_init_5 : decode cX1_init 5 = .ok (.iconst 2, 1) := by decide +kernel
theorem dX1_init_6 : decode cX1_init 6 = .ok (.putfield 7, 3) := by decide +kernel
theorem dX1_init_9 : decode cX1_init 9 = .ok (.aload_n 0, 1) := by decide +kernel
theorem dX1_init_10 : decode cX1_init 10 = .ok (.bipush 35, 2) := by decide +kernel
theorem dX1_init_12 : decode cX1_init 12 = .ok (.newarray .int, 2) := by decide +kernel
theorem dX1_init_14 : decode cX1_init 14 = .ok (.putfield 13, 3) := by decide +kernel
theorem dX1_init_17 : decode cX1_init 17 = .ok (.aload_n 0, 1) := by decide +kernel
theorem dX1_init_18 : decode cX1_init 18 = .ok (.bipush 7, 2) := by decide +kernel
theorem dX1_init_20 : decode cX1_init 20 = .ok (.newarray .int, 2) := by decide +kernel
theorem dX1_init_22 : decode cX1_init 22 = .ok (.putfield 17, 3) := by decide +kernel
theorem dX1_init_25 : decode cX1_init 25 = .ok (.aload_n 0, 1) := by decide +kernel
theorem dX1_init_26 : decode cX1_init 26 = .ok (.bipush 35, 2) := by decide +kernel
theorem dX1_init_28 : decode cX1_init 28 = .ok (.newarray .int, 2) := by decide +kernel
theorem dX1_init_30 : decode cX1_init 30 = .ok (.putfield 20, 3) := by decide +kernel
theorem dX1_init_33 : decode cX1_init 33 = .ok (.aload_n 0, 1) := by decide +kernel
theorem dX1_init_34 : decode cX1_init 34 = .ok (.bipush 40, 2) := by decide +kernel
theorem dX1_init_36 : decode cX1_init 36 = .ok (.newarray .int, 2) := by decide +kernel
theorem dX1_init_38 : decode cX1_init 38 = .ok (.putfield 23, 3) := by decide +kernel
theorem dX1_init_41 : decode cX1_init 41 = .ok (.aload_n 0, 1) := by decide +kernel
theorem dX1_init_42 : decode cX1_init 42 = .ok (.bipush 7, 2) := by decide +kernel
theorem dX1_init_44 : decode cX1_init 44 = .ok (.newarray .int, 2) := by decide +kernel
theorem dX1_init_46 : decode cX1_init 46 = .ok (.putfield 26, 3) := by decide +kernel
theorem dX1_init_49 : decode cX1_init 49 = .ok (.aload_n 0, 1) := by decide +kernel
theorem dX1_init_50 : decode cX1_init 50 = .ok (.bipush 7, 2) := by decide +kernel
theorem dX1_init_52 : decode cX1_init 52 = .ok (.newarray .int, 2) := by decide +kernel
theorem dX1_init_54 : decode cX1_init 54 = .ok (.putfield 29, 3) := by decide +kernel
theorem dX1_init_57 : decode cX1_init 57 = .ok (.aload_n 0, 1) := by decide +kernel
theorem dX1_init_58 : decode cX1_init 58 = .ok (.iconst 0, 1) := by decide +kernel
theorem dX1_init_59 : decode cX1_init 59 = .ok (.putfield 32, 3) := by decide +kernel
theorem dX1_init_62 : decode cX1_init 62 = .ok (.return_, 1) := by decide +kernel
theorem dX1_thrown_0 : decode cX1_thrown 0 = .ok (.aload_n 0, 1) := by decide +kernel
theorem dX1_thrown_1 : decode cX1_thrown 1 = .ok (.getfield 32, 3) := by decide +kernel
theorem dX1_thrown_4 : decode cX1_thrown 4 = .ok (.ireturn, 1) := by decide +kernel
theorem dX1_fails_0 : decode cX1_fails 0 = .ok (.aload_n 0, 1) := by decide +kernel
theorem dX1_fails_1 : decode cX1_fails 1 = .ok (.iload_n 1, 1) := by decide +kernel
theorem dX1_fails_2 : decode cX1_fails 2 = .ok (.putfield 32, 3) := by decide +kernel
theorem dX1_fails_5 : decode cX1_fails 5 = .ok (.iconst 0, 1) := by decide +kernel
theorem dX1_fails_6 : decode cX1_fails 6 = .ok (.ireturn, 1) := by decide +kernel
theorem dX1_in_0 : decode cX1_in 0 = .ok (.iload_n 0, 1) := by decide +kernel
theorem dX1_in_1 : decode cX1_in 1 = .ok (.iload_n 1, 1) := by decide +kernel
theorem dX1_in_2 : decode cX1_in 2 = .ok (.if_icmp .lt 12, 3) := by decide +kernel
theorem dX1_in_5 : decode cX1_in 5 = .ok (.iload_n 0, 1) := by decide +kernel
theorem dX1_in_6 : decode cX1_in 6 = .ok (.iload_n 2, 1) := by decide +kernel
theorem dX1_in_7 : decode cX1_in 7 = .ok (.if_icmp .gt 7, 3) := by decide +kernel
theorem dX1_in_10 : decode cX1_in 10 = .ok (.iconst 1, 1) := by decide +kernel
theorem dX1_in_11 : decode cX1_in 11 = .ok (.goto 4, 3) := by decide +kernel
theorem dX1_in_14 : decode cX1_in 14 = .ok (.iconst 0, 1) := by decide +kernel
theorem dX1_in_15 : decode cX1_in 15 = .ok (.ireturn, 1) := by decide +kernel
set_option maxRecDepth 20000 in
theorem ggX1_isOf_X1_in : GoodIn wsX1_isOf wsX1_in := goodIn_r _ [6] (by decide +kernel) (by decide +kernel)
set_option maxRecDepth 20000 in
theorem gX1_isOf_X1_in : GoodIn wsX1_isOf (va_wsS RX1 38 yX1_in wsX1_in) := goodIn_app (goodIn_of _ (by decide +kernel)) ggX1_isOf_X1_in
theorem dX1_isOf_0 : decode cX1_isOf 0 = .ok (.iload_n 1, 1) := by decide +kernel
theorem dX1_isOf_1 : decode cX1_isOf 1 = .ok (.iconst 0, 1) := by decide +kernel
theorem dX1_isOf_2 : decode cX1_isOf 2 = .ok (.aload_n 0, 1) := by decide +kernel
theorem dX1_isOf_3 : decode cX1_isOf 3 = .ok (.getfield 35, 3) := by decide +kernel
theorem dX1_isOf_6 : decode cX1_isOf 6 = .ok (.iconst 1, 1) := by decide +kernel
theorem dX1_isOf_7 : decode cX1_isOf 7 = .ok (.isub, 1) := by decide +kernel
theorem dX1_isOf_8 : decode cX1_isOf 8 = .ok (.invokestatic 38, 3) := by decide +kernel
theorem dX1_isOf_11 : decode cX1_isOf 11 = .ok (.ifCond .eq 21, 3) := by decide +kernel
theorem dX1_isOf_14 : decode cX1_isOf 14 = .ok (.iload_n 2, 1) := by decide +kernel
theorem dX1_isOf_15 : decode cX1_isOf 15 = .ok (.iconst 0, 1) := by decide +kernel
theorem dX1_isOf_16 : decode cX1_isOf 16 = .ok (.aload_n 0, 1) := by decide +kernel
theorem dX1_isOf_17 : decode cX1_isOf 17 = .ok (.getfield 7, 3) := by decide +kernel
theorem dX1_isOf_20 : decode cX1_isOf 20 = .ok (.iconst 1, 1) := by decide +kernel
theorem dX1_isOf_21 : decode cX1_isOf 21 = .ok (.isub, 1) := by decide +kernel
theorem dX1_isOf_22 : decode cX1_isOf 22 = .ok (.invokestatic 38, 3) := by decide +kernel
theorem dX1_isOf_25 : decode cX1_isOf 25 = .ok (.ifCond .eq 7, 3) := by decide +kernel
theorem dX1_isOf_28 : decode cX1_isOf 28 = .ok (.iconst 1, 1) := by decide +kernel
theorem dX1_isOf_29 : decode cX1_isOf 29 = .ok (.goto 4, 3) := by decide +kernel
theorem dX1_isOf_32 : decode cX1_isOf 32 = .ok (.iconst 0, 1) := by decide +kernel
theorem dX1_isOf_33 : decode cX1_isOf 33 = .ok (.ireturn, 1) := by decide +kernel
theorem dX1_timeOf_0 : decode cX1_timeOf 0 = .ok (.aload_n 0, 1) := by decide +kernel
theorem dX1_timeOf_1 : decode cX1_timeOf 1 = .ok (.getfield 13, 3) := by decide +kernel
theorem dX1_timeOf_4 : decode cX1_timeOf 4 = .ok (.iconst 5, 1) := by decide +kernel
theorem dX1_timeOf_5 : decode cX1_timeOf 5 = .ok (.iload_n 1, 1) := by decide +kernel
theorem dX1_timeOf_6 : decode cX1_timeOf 6 = .ok (.imul, 1) := by decide +kernel
theorem dX1_timeOf_7 : decode cX1_timeOf 7 = .ok (.iload_n 2, 1) := by decide +kernel
theorem dX1_timeOf_8 : decode cX1_timeOf 8 = .ok (.iadd, 1) := by decide +kernel
theorem dX1_timeOf_9 : decode cX1_timeOf 9 = .ok (.iaload, 1) := by decide +kernel
theorem dX1_timeOf_10 : decode cX1_timeOf 10 = .ok (.ireturn, 1) := by decide +kernel
theorem dX1_addJob_0 : decode cX1_addJob 0 = .ok (.aload_n 0, 1) := by decide +kernel
theorem dX1_addJob_1 : decode cX1_addJob 1 = .ok (.aload_n 0, 1) := by decide +kernel
theorem dX1_addJob_2 : decode cX1_addJob 2 = .ok (.getfield 35, 3) := by decide +kernel
theorem dX1_addJob_5 : decode cX1_addJob 5 = .ok (.bipush 7, 2) := by decide +kernel
theorem dX1_addJob_7 : decode cX1_addJob 7 = .ok (.if_icmp .ne 7, 3) := by decide +kernel
theorem dX1_addJob_10 : decode cX1_addJob 10 = .ok (.iconst 1, 1) := by decide +kernel
theorem dX1_addJob_11 : decode cX1_addJob 11 = .ok (.goto 4, 3) := by decide +kernel
theorem dX1_addJob_14 : decode cX1_addJob 14 = .ok (.iconst 0, 1) := by decide +kernel
theorem dX1_addJob_15 : decode cX1_addJob 15 = .ok (.putfield 32, 3) := by decide +kernel
theorem dX1_addJob_18 : decode cX1_addJob 18 = .ok (.aload_n 0, 1) := by decide +kernel
theorem dX1_addJob_19 : decode cX1_addJob 19 = .ok (.getfield 32, 3) := by decide +kernel
theorem dX1_addJob_22 : decode cX1_addJob 22 = .ok (.ifCond .le 5, 3) := by decide +kernel
theorem dX1_addJob_25 : decode cX1_addJob 25 = .ok (.iconst 0, 1) := by decide +kernel
theorem dX1_addJob_26 : decode cX1_addJob 26 = .ok (.ireturn, 1) := by decide +kernel
theorem dX1_addJob_27 : decode cX1_addJob 27 = .ok (.aload_n 0, 1) := by decide +kernel
theorem dX1_addJob_28 : decode cX1_addJob 28 = .ok (.getfield 17, 3) := by decide +kernel
theorem dX1_addJob_31 : decode cX1_addJob 31 = .ok (.aload_n 0, 1) := by decide +kernel
theorem dX1_addJob_32 : decode cX1_addJob 32 = .ok (.getfield 35, 3) := by decide +kernel
theorem dX1_addJob_35 : decode cX1_addJob 35 = .ok (.aload_n 0, 1) := by decide +kernel
theorem dX1_addJob_36 : decode cX1_addJob 36 = .ok (.getfield 35, 3) := by decide +kernel
theorem dX1_addJob_39 : decode cX1_addJob 39 = .ok (.iastore, 1) := by decide +kernel
theorem dX1_addJob_40 : decode cX1_addJob 40 = .ok (.aload_n 0, 1) := by decide +kernel
theorem dX1_addJob_41 : decode cX1_addJob 41 = .ok (.dup, 1) := by decide +kernel
theorem dX1_addJob_42 : decode cX1_addJob 42 = .ok (.getfield 35, 3) := by decide +kernel
theorem dX1_addJob_45 : decode cX1_addJob 45 = .ok (.iconst 1, 1) := by decide +kernel
theorem dX1_addJob_46 : decode cX1_addJob 46 = .ok (.iadd, 1) := by decide +kernel
theorem dX1_addJob_47 : decode cX1_addJob 47 = .ok (.putfield 35, 3) := by decide +kernel
theorem dX1_addJob_50 : decode cX1_addJob 50 = .ok (.aload_n 0, 1) := by decide +kernel
theorem dX1_addJob_51 : decode cX1_addJob 51 = .ok (.getfield 35, 3) := by decide +kernel
theorem dX1_addJob_54 : decode cX1_addJob 54 = .ok (.iconst 1, 1) := by decide +kernel
theorem dX1_addJob_55 : decode cX1_addJob 55 = .ok (.isub, 1) := by decide +kernel
theorem dX1_addJob_56 : decode cX1_addJob 56 = .ok (.ireturn, 1) := by decide +kernel
set_option maxRecDepth 20000 in
theorem ggX1_setMachines_X1_in : GoodIn wsX1_setMachines wsX1_in := goodIn_r _ [7] (by decide +kernel) (by decide +kernel)
set_option maxRecDepth 20000 in
theorem gX1_setMachines_X1_in : GoodIn wsX1_setMachines (va_wsS RX1 38 yX1_in wsX1_in) := goodIn_app (goodIn_of _ (by decide +kernel)) ggX1_setMachines_X1_in
theorem dX1_setMachines_0 : decode cX1_setMachines 0 = .ok (.aload_n 0, 1) := by decide +kernel
theorem dX1_setMachines_1 : decode cX1_setMachines 1 = .ok (.iload_n 1, 1) := by decide +kernel
theorem dX1_setMachines_2 : decode cX1_setMachines 2 = .ok (.iconst 1, 1) := by decide +kernel
theorem dX1_setMachines_3 : decode cX1_setMachines 3 = .ok (.iconst 5, 1) := by decide +kernel
theorem dX1_setMachines_4 : decode cX1_setMachines 4 = .ok (.invokestatic 38, 3) := by decide +kernel
theorem dX1_setMachines_7 : decode cX1_setMachines 7 = .ok (.ifCond .eq 7, 3) := by decide +kernel
theorem dX1_setMachines_10 : decode cX1_setMachines 10 = .ok (.iconst 0, 1) := by decide +kernel
theorem dX1_setMachines_11 : decode cX1_setMachines 11 = .ok (.goto 4, 3) := by decide +kernel
theorem dX1_setMachines_14 : decode cX1_setMachines 14 = .ok (.iconst 1, 1) := by decide +kernel
theorem dX1_setMachines_15 : decode cX1_setMachines 15 = .ok (.putfield 32, 3) := by decide +kernel
theorem dX1_setMachines_18 : decode cX1_setMachines 18 = .ok (.aload_n 0, 1) := by decide +kernel
theorem dX1_setMachines_19 : decode cX1_setMachines 19 = .ok (.getfield 32, 3) := by decide +kernel
theorem dX1_setMachines_22 : decode cX1_setMachines 22 = .ok (.ifCond .le 5, 3) := by decide +kernel
theorem dX1_setMachines_25 : decode cX1_setMachines 25 = .ok (.iconst 0, 1) := by decide +kernel
theorem dX1_setMachines_26 : decode cX1_setMachines 26 = .ok (.ireturn, 1) := by decide +kernel
theorem dX1_setMachines_27 : decode cX1_setMachines 27 = .ok (.aload_n 0, 1) := by decide +kernel
theorem dX1_setMachines_28 : decode cX1_setMachines 28 = .ok (.getfield 7, 3) := by decide +kernel
theorem dX1_setMachines_31 : decode cX1_setMachines 31 = .ok (.istore_n 2, 1) := by decide +kernel
theorem dX1_setMachines_32 : decode cX1_setMachines 32 = .ok (.aload_n 0, 1) := by decide +kernel
theorem dX1_setMachines_33 : decode cX1_setMachines 33 = .ok (.iload_n 1, 1) := by decide +kernel
theorem dX1_setMachines_34 : decode cX1_setMachines 34 = .ok (.putfield 7, 3) := by decide +kernel
theorem dX1_setMachines_37 : decode cX1_setMachines 37 = .ok (.iconst 0, 1) := by decide +kernel
theorem dX1_setMachines_38 : decode cX1_setMachines 38 = .ok (.istore_n 3, 1) := by decide +kernel
theorem dX1_setMachines_39 : decode cX1_setMachines 39 = .ok (.iload_n 3, 1) := by decide +kernel
theorem dX1_setMachines_40 : decode cX1_setMachines 40 = .ok (.bipush 35, 2) := by decide +kernel
theorem dX1_setMachines_42 : decode cX1_setMachines 42 = .ok (.if_icmp .ge 35, 3) := by decide +kernel
theorem dX1_setMachines_45 : decode cX1_setMachines 45 = .ok (.aload_n 0, 1) := by decide +kernel
theorem dX1_setMachines_46 : decode cX1_setMachines 46 = .ok (.getfield 13, 3) := by decide +kernel
theorem dX1_setMachines_49 : decode cX1_setMachines 49 = .ok (.iload_n 3, 1) := by decide +kernel
theorem dX1_setMachines_50 : decode cX1_setMachines 50 = .ok (.iload_n 3, 1) := by decide +kernel
theorem dX1_setMachines_51 : decode cX1_setMachines 51 = .ok (.iconst 5, 1) := by decide +kernel
theorem dX1_setMachines_52 : decode cX1_setMachines 52 = .ok (.irem, 1) := by decide +kernel
theorem dX1_setMachines_53 : decode cX1_setMachines 53 = .ok (.aload_n 0, 1) := by decide +kernel
theorem dX1_setMachines_54 : decode cX1_setMachines 54 = .ok (.getfield 7, 3) := by decide +kernel
theorem dX1_setMachines_57 : decode cX1_setMachines 57 = .ok (.if_icmp .ge 12, 3) := by decide +kernel
theorem dX1_setMachines_60 : decode cX1_setMachines 60 = .ok (.aload_n 0, 1) := by decide +kernel
theorem dX1_setMachines_61 : decode cX1_setMachines 61 = .ok (.getfield 13, 3) := by decide +kernel
theorem dX1_setMachines_64 : decode cX1_setMachines 64 = .ok (.iload_n 3, 1) := by decide +kernel
theorem dX1_setMachines_65 : decode cX1_setMachines 65 = .ok (.iaload, 1) := by decide +kernel
theorem dX1_setMachines_66 : decode cX1_setMachines 66 = .ok (.goto 4, 3) := by decide +kernel
theorem dX1_setMachines_69 : decode cX1_setMachines 69 = .ok (.iconst 0, 1) := by decide +kernel
theorem dX1_setMachines_70 : decode cX1_setMachines 70 = .ok (.iastore, 1) := by decide +kernel
theorem dX1_setMachines_71 : decode cX1_setMachines 71 = .ok (.iinc 3 1, 3) := by decide +kernel
theorem dX1_setMachines_74 : decode cX1_setMachines 74 = .ok (.goto (-35), 3) := by decide +kernel
theorem dX1_setMachines_77 : decode cX1_setMachines 77 = .ok (.iload_n 2, 1) := by decide +kernel
theorem dX1_setMachines_78 : decode cX1_setMachines 78 = .ok (.ireturn, 1) := by decide +kernel
set_option maxRecDepth 20000 in
theorem ggX1_setTime_X1_isOf : GoodIn wsX1_setTime wsX1_isOf := goodIn_r _ [7, 8, 9, 10, 11, 6, 12, 17, 18, 19, 20, 21, 22, 23, 24, 25, 26] (by decide +kernel) (by decide +kernel)
set_option maxRecDepth 20000 in
theorem gX1_setTime_X1_isOf : GoodIn wsX1_setTime (wsV RX1 42 RX1 yX1_isOf wsX1_isOf) := goodIn_app (goodIn_of _ (by decide +kernel)) ggX1_setTime_X1_isOf
set_option maxRecDepth 20000 in
theorem ggX1_setTime_X1_in : GoodIn wsX1_setTime wsX1_in := goodIn_r _ [12] (by decide +kernel) (by decide +kernel)
set_option maxRecDepth 20000 in
theorem gX1_setTime_X1_in : GoodIn wsX1_setTime (va_wsS RX1 38 yX1_in wsX1_in) := goodIn_app (goodIn_of _ (by decide +kernel)) ggX1_setTime_X1_in
set_option maxRecDepth 20000 in
theorem ggX1_setTime_X1_timeOf : GoodIn wsX1_setTime wsX1_timeOf := goodIn_r _ [16, 2, 17, 18, 19, 20, 21, 22, 23, 24, 25, 26] (by decide +kernel) (by decide +kernel)
set_option maxRecDepth 20000 in
theorem gX1_setTime_X1_timeOf : GoodIn wsX1_setTime (wsV RX1 46 RX1 yX1_timeOf wsX1_timeOf) := goodIn_app (goodIn_of _ (by decide +kernel)) ggX1_setTime_X1_timeOf
theorem dX1_setTime_0 : decode cX1_setTime 0 = .ok (.aload_n 0, 1) := by decide +kernel
theorem dX1_setTime_1 : decode cX1_setTime 1 = .ok (.aload_n 0, 1) := by decide +kernel
theorem dX1_setTime_2 : decode cX1_setTime 2 = .ok (.iload_n 1, 1) := by decide +kernel
theorem dX1_setTime_3 : decode cX1_setTime 3 = .ok (.iload_n 2, 1) := by decide +kernel
theorem dX1_setTime_4 : decode cX1_setTime 4 = .ok (.invokevirtual 42, 3) := by decide +kernel
theorem dX1_setTime_7 : decode cX1_setTime 7 = .ok (.ifCond .ne 7, 3) := by decide +kernel
theorem dX1_setTime_10 : decode cX1_setTime 10 = .ok (.iconst 1, 1) := by decide +kernel
theorem dX1_setTime_11 : decode cX1_setTime 11 = .ok (.goto 18, 3) := by decide +kernel
theorem dX1_setTime_14 : decode cX1_setTime 14 = .ok (.iload_n 3, 1) := by decide +kernel
theorem dX1_setTime_15 : decode cX1_setTime 15 = .ok (.iconst 0, 1) := by decide +kernel
theorem dX1_setTime_16 : decode cX1_setTime 16 = .ok (.bipush 99, 2) := by decide +kernel
theorem dX1_setTime_18 : decode cX1_setTime 18 = .ok (.invokestatic 38, 3) := by decide +kernel
theorem dX1_setTime_21 : decode cX1_setTime 21 = .ok (.ifCond .eq 7, 3) := by decide +kernel
theorem dX1_setTime_24 : decode cX1_setTime 24 = .ok (.iconst 0, 1) := by decide +kernel
theorem dX1_setTime_25 : decode cX1_setTime 25 = .ok (.goto 4, 3) := by decide +kernel
theorem dX1_setTime_28 : decode cX1_setTime 28 = .ok (.iconst 2, 1) := by decide +kernel
theorem dX1_setTime_29 : decode cX1_setTime 29 = .ok (.putfield 32, 3) := by decide +kernel
theorem dX1_setTime_32 : decode cX1_setTime 32 = .ok (.aload_n 0, 1) := by decide +kernel
theorem dX1_setTime_33 : decode cX1_setTime 33 = .ok (.getfield 32, 3) := by decide +kernel
theorem dX1_setTime_36 : decode cX1_setTime 36 = .ok (.ifCond .le 5, 3) := by decide +kernel
theorem dX1_setTime_39 : decode cX1_setTime 39 = .ok (.iconst 0, 1) := by decide +kernel
theorem dX1_setTime_40 : decode cX1_setTime 40 = .ok (.ireturn, 1) := by decide +kernel
theorem dX1_setTime_41 : decode cX1_setTime 41 = .ok (.aload_n 0, 1) := by decide +kernel
theorem dX1_setTime_42 : decode cX1_setTime 42 = .ok (.iload_n 1, 1) := by decide +kernel
theorem dX1_setTime_43 : decode cX1_setTime 43 = .ok (.iload_n 2, 1) := by decide +kernel
theorem dX1_setTime_44 : decode cX1_setTime 44 = .ok (.invokevirtual 46, 3) := by decide +kernel
theorem dX1_setTime_47 : decode cX1_setTime 47 = .ok (.istore 4, 2) := by decide +kernel
theorem dX1_setTime_49 : decode cX1_setTime 49 = .ok (.aload_n 0, 1) := by decide +kernel
theorem dX1_setTime_50 : decode cX1_setTime 50 = .ok (.getfield 13, 3) := by decide +kernel
theorem dX1_setTime_53 : decode cX1_setTime 53 = .ok (.iconst 5, 1) := by decide +kernel
theorem dX1_setTime_54 : decode cX1_setTime 54 = .ok (.iload_n 1, 1) := by decide +kernel
theorem dX1_setTime_55 : decode cX1_setTime 55 = .ok (.imul, 1) := by decide +kernel
theorem dX1_setTime_56 : decode cX1_setTime 56 = .ok (.iload_n 2, 1) := by decide +kernel
theorem dX1_setTime_57 : decode cX1_setTime 57 = .ok (.iadd, 1) := by decide +kernel
theorem dX1_setTime_58 : decode cX1_setTime 58 = .ok (.iload_n 3, 1) := by decide +kernel
theorem dX1_setTime_59 : decode cX1_setTime 59 = .ok (.iastore, 1) := by decide +kernel
theorem dX1_setTime_60 : decode cX1_setTime 60 = .ok (.iload 4, 2) := by decide +kernel
theorem dX1_setTime_62 : decode cX1_setTime 62 = .ok (.ireturn, 1) := by decide +kernel
set_option maxRecDepth 20000 in
theorem ggX1_time_X1_isOf : GoodIn wsX1_time wsX1_isOf := goodIn_r _ [6, 7, 8, 9, 10, 5, 11, 21, 22, 23, 24, 25, 26, 27, 28, 29, 30] (by decide +kernel) (by decide +kernel)
set_option maxRecDepth 20000 in
theorem gX1_time_X1_isOf : GoodIn wsX1_time (wsV RX1 42 RX1 yX1_isOf wsX1_isOf) := goodIn_app (goodIn_of _ (by decide +kernel)) ggX1_time_X1_isOf
set_option maxRecDepth 20000 in
theorem ggX1_time_X1_timeOf : GoodIn wsX1_time wsX1_timeOf := goodIn_r _ [15, 16, 21, 22, 23, 24, 25, 26, 27, 28, 29, 30] (by decide +kernel) (by decide +kernel)
set_option maxRecDepth 20000 in
theorem gX1_time_X1_timeOf : GoodIn wsX1_time (wsV RX1 46 RX1 yX1_timeOf wsX1_timeOf) := goodIn_app (goodIn_of _ (by decide +kernel)) ggX1_time_X1_timeOf
set_option maxRecDepth 20000 in
theorem ggX1_time_X1_fails : GoodIn wsX1_time wsX1_fails := goodIn_r _ [20, 1, 21, 22, 23, 24, 25, 26, 27, 28, 29, 30] (by decide +kernel) (by decide +kernel)
set_option maxRecDepth 20000 in
theorem gX1_time_X1_fails : GoodIn wsX1_time (wsV RX1 50 RX1 yX1_fails wsX1_fails) := goodIn_app (goodIn_of _ (by decide +kernel)) ggX1_time_X1_fails
theorem dX1_time_0 : decode cX1_time 0 = .ok (.aload_n 0, 1) := by decide +kernel
theorem dX1_time_1 : decode cX1_time 1 = .ok (.iconst 0, 1) := by decide +kernel
theorem dX1_time_2 : decode cX1_time 2 = .ok (.putfield 32, 3) := by decide +kernel
theorem dX1_time_5 : decode cX1_time 5 = .ok (.aload_n 0, 1) := by decide +kernel
theorem dX1_time_6 : decode cX1_time 6 = .ok (.iload_n 1, 1) := by decide +kernel
theorem dX1_time_7 : decode cX1_time 7 = .ok (.iload_n 2, 1) := by decide +kernel
theorem dX1_time_8 : decode cX1_time 8 = .ok (.invokevirtual 42, 3) := by decide +kernel
theorem dX1_time_11 : decode cX1_time 11 = .ok (.ifCond .eq 12, 3) := by decide +kernel
theorem dX1_time_14 : decode cX1_time 14 = .ok (.aload_n 0, 1) := by decide +kernel
theorem dX1_time_15 : decode cX1_time 15 = .ok (.iload_n 1, 1) := by decide +kernel
theorem dX1_time_16 : decode cX1_time 16 = .ok (.iload_n 2, 1) := by decide +kernel
theorem dX1_time_17 : decode cX1_time 17 = .ok (.invokevirtual 46, 3) := by decide +kernel
theorem dX1_time_20 : decode cX1_time 20 = .ok (.goto 8, 3) := by decide +kernel
theorem dX1_time_23 : decode cX1_time 23 = .ok (.aload_n 0, 1) := by decide +kernel
theorem dX1_time_24 : decode cX1_time 24 = .ok (.iconst 1, 1) := by decide +kernel
theorem dX1_time_25 : decode cX1_time 25 = .ok (.invokevirtual 50, 3) := by decide +kernel
theorem dX1_time_28 : decode cX1_time 28 = .ok (.ireturn, 1) := by decide +kernel
theorem dX1_jobs_0 : decode cX1_jobs 0 = .ok (.aload_n 0, 1) := by decide +kernel
theorem dX1_jobs_1 : decode cX1_jobs 1 = .ok (.iconst 0, 1) := by decide +kernel
theorem dX1_jobs_2 : decode cX1_jobs 2 = .ok (.putfield 32, 3) := by decide +kernel
theorem dX1_jobs_5 : decode cX1_jobs 5 = .ok (.aload_n 0, 1) := by decide +kernel
theorem dX1_jobs_6 : decode cX1_jobs 6 = .ok (.getfield 35, 3) := by decide +kernel
theorem dX1_jobs_9 : decode cX1_jobs 9 = .ok (.ireturn, 1) := by decide +kernel
theorem dX1_machines_0 : decode cX1_machines 0 = .ok (.aload_n 0, 1) := by decide +kernel
theorem dX1_machines_1 : decode cX1_machines 1 = .ok (.iconst 0, 1) := by decide +kernel
theorem dX1_machines_2 : decode cX1_machines 2 = .ok (.putfield 32, 3) := by decide +kernel
theorem dX1_machines_5 : decode cX1_machines 5 = .ok (.aload_n 0, 1) := by decide +kernel
theorem dX1_machines_6 : decode cX1_machines 6 = .ok (.getfield 7, 3) := by decide +kernel
theorem dX1_machines_9 : decode cX1_machines 9 = .ok (.ireturn, 1) := by decide +kernel
theorem dX1_startOf_0 : decode cX1_startOf 0 = .ok (.aload_n 0, 1) := by decide +kernel
theorem dX1_startOf_1 : decode cX1_startOf 1 = .ok (.getfield 20, 3) := by decide +kernel
theorem dX1_startOf_4 : decode cX1_startOf 4 = .ok (.iconst 5, 1) := by decide +kernel
theorem dX1_startOf_5 : decode cX1_startOf 5 = .ok (.iload_n 1, 1) := by decide +kernel
theorem dX1_startOf_6 : decode cX1_startOf 6 = .ok (.imul, 1) := by decide +kernel
theorem dX1_startOf_7 : decode cX1_startOf 7 = .ok (.iload_n 2, 1) := by decide +kernel
theorem dX1_startOf_8 : decode cX1_startOf 8 = .ok (.iadd, 1) := by decide +kernel
theorem dX1_startOf_9 : decode cX1_startOf 9 = .ok (.iaload, 1) := by decide +kernel
theorem dX1_startOf_10 : decode cX1_startOf 10 = .ok (.ireturn, 1) := by decide +kernel
set_option maxRecDepth 20000 in
theorem ggX1_endOf_X1_startOf : GoodIn wsX1_endOf wsX1_startOf := goodIn_r _ [5, 6, 12, 13, 14, 15, 16, 17, 18, 19, 20, 21] (by decide +kernel) (by decide +kernel)
set_option maxRecDepth 20000 in
theorem gX1_endOf_X1_startOf : GoodIn wsX1_endOf (wsV RX1 54 RX1 yX1_startOf wsX1_startOf) := goodIn_app (goodIn_of _ (by decide +kernel)) ggX1_endOf_X1_startOf
set_option maxRecDepth 20000 in
theorem ggX1_endOf_X1_timeOf : GoodIn wsX1_endOf wsX1_timeOf := goodIn_r _ [10, 11, 12, 13, 14, 15, 16, 17, 18, 19, 20, 21] (by decide +kernel) (by decide +kernel)
set_option maxRecDepth 20000 in
theorem gX1_endOf_X1_timeOf : GoodIn wsX1_endOf (wsV RX1 46 RX1 yX1_timeOf wsX1_timeOf) := goodIn_app (goodIn_of _ (by decide +kernel)) ggX1_endOf_X1_timeOf
theorem dX1_endOf_0 : decode cX1_endOf 0 = .ok (.aload_n 0, 1) := by decide +kernel
theorem dX1_endOf_1 : decode cX1_endOf 1 = .ok (.iload_n 2, 1) := by decide +kernel
theorem dX1_endOf_2 : decode cX1_endOf 2 = .ok (.iload_n 3, 1) := by decide +kernel
theorem dX1_endOf_3 : decode cX1_endOf 3 = .ok (.invokevirtual 54, 3) := by decide +kernel
theorem dX1_endOf_6 : decode cX1_endOf 6 = .ok (.aload_n 0, 1) := by decide +kernel
theorem dX1_endOf_7 : decode cX1_endOf 7 = .ok (.aload_n 1, 1) := by decide +kernel
theorem dX1_endOf_8 : decode cX1_endOf 8 = .ok (.iload_n 2, 1) := by decide +kernel
theorem dX1_endOf_9 : decode cX1_endOf 9 = .ok (.iaload, 1) := by decide +kernel
theorem dX1_endOf_10 : decode cX1_endOf 10 = .ok (.iload_n 3, 1) := by decide +kernel
theorem dX1_endOf_11 : decode cX1_endOf 11 = .ok (.invokevirtual 46, 3) := by decide +kernel
theorem dX1_endOf_14 : decode cX1_endOf 14 = .ok (.iadd, 1) := by decide +kernel
theorem dX1_endOf_15 : decode cX1_endOf 15 = .ok (.ireturn, 1) := by decide +kernel
set_option maxRecDepth 20000 in
theorem ggX1_freeAt_X1_startOf : GoodIn wsX1_freeAt wsX1_startOf := goodIn_r _ [6, 7, 17, 18, 19, 20, 21, 22, 23, 24, 25, 26] (by decide +kernel) (by decide +kernel)
set_option maxRecDepth 20000 in
theorem gX1_freeAt_X1_startOf : GoodIn wsX1_freeAt (wsV RX1 54 RX1 yX1_startOf wsX1_startOf) := goodIn_app (goodIn_of _ (by decide +kernel)) ggX1_freeAt_X1_startOf
set_option maxRecDepth 20000 in
theorem ggX1_freeAt_X1_endOf : GoodIn wsX1_freeAt wsX1_endOf := goodIn_r _ [11, 2, 3, 4, 5, 6, 7, 12, 13, 14, 15, 16, 17, 18, 19, 20, 21, 22, 23, 24, 25, 26] (by decide +kernel) (by decide +kernel)
set_option maxRecDepth 20000 in
theorem gX1_freeAt_X1_endOf : GoodIn wsX1_freeAt (wsV RX1 57 RX1 yX1_endOf wsX1_endOf) := goodIn_app (goodIn_of _ (by decide +kernel)) ggX1_freeAt_X1_endOf
theorem dX1_freeAt_0 : decode cX1_freeAt 0 = .ok (.iload_n 1, 1) := by decide +kernel
theorem dX1_freeAt_1 : decode cX1_freeAt 1 = .ok (.iconst 1, 1) := by decide +kernel
theorem dX1_freeAt_2 : decode cX1_freeAt 2 = .ok (.if_icmp .ne 28, 3) := by decide +kernel
theorem dX1_freeAt_5 : decode cX1_freeAt 5 = .ok (.iload 4, 2) := by decide +kernel
theorem dX1_freeAt_7 : decode cX1_freeAt 7 = .ok (.iconst 1, 1) := by decide +kernel
theorem dX1_freeAt_8 : decode cX1_freeAt 8 = .ok (.iadd, 1) := by decide +kernel
theorem dX1_freeAt_9 : decode cX1_freeAt 9 = .ok (.aload_n 0, 1) := by decide +kernel
theorem dX1_freeAt_10 : decode cX1_freeAt 10 = .ok (.getfield 7, 3) := by decide +kernel
theorem dX1_freeAt_13 : decode cX1_freeAt 13 = .ok (.if_icmp .ge 17, 3) := by decide +kernel
theorem dX1_freeAt_16 : decode cX1_freeAt 16 = .ok (.aload_n 0, 1) := by decide +kernel
theorem dX1_freeAt_17 : decode cX1_freeAt 17 = .ok (.iload_n 3, 1) := by decide +kernel
theorem dX1_freeAt_18 : decode cX1_freeAt 18 = .ok (.iconst 1, 1) := by decide +kernel
theorem dX1_freeAt_19 : decode cX1_freeAt 19 = .ok (.isub, 1) := by decide +kernel
theorem dX1_freeAt_20 : decode cX1_freeAt 20 = .ok (.iload 4, 2) := by decide +kernel
theorem dX1_freeAt_22 : decode cX1_freeAt 22 = .ok (.iconst 1, 1) := by decide +kernel
theorem dX1_freeAt_23 : decode cX1_freeAt 23 = .ok (.iadd, 1) := by decide +kernel
theorem dX1_freeAt_24 : decode cX1_freeAt 24 = .ok (.invokevirtual 54, 3) := by decide +kernel
theorem dX1_freeAt_27 : decode cX1_freeAt 27 = .ok (.goto 13, 3) := by decide +kernel
theorem dX1_freeAt_30 : decode cX1_freeAt 30 = .ok (.aload_n 0, 1) := by decide +kernel
theorem dX1_freeAt_31 : decode cX1_freeAt 31 = .ok (.aload_n 2, 1) := by decide +kernel
theorem dX1_freeAt_32 : decode cX1_freeAt 32 = .ok (.iload_n 3, 1) := by decide +kernel
theorem dX1_freeAt_33 : decode cX1_freeAt 33 = .ok (.iconst 1, 1) := by decide +kernel
theorem dX1_freeAt_34 : decode cX1_freeAt 34 = .ok (.isub, 1) := by decide +kernel
theorem dX1_freeAt_35 : decode cX1_freeAt 35 = .ok (.iload 4, 2) := by decide +kernel
theorem dX1_freeAt_37 : decode cX1_freeAt 37 = .ok (.invokevirtual 57, 3) := by decide +kernel
theorem dX1_freeAt_40 : decode cX1_freeAt 40 = .ok (.ireturn, 1) := by decide +kernel
set_option maxRecDepth 20000 in
theorem ggX1_lays_X1_freeAt : GoodIn wsX1_lays wsX1_freeAt := goodIn_r _ [7, 1, 8, 9, 10, 6, 11, 2, 12, 13, 14, 15, 16, 17, 18, 19, 20, 25, 26, 27, 28, 29, 30, 31, 32, 33, 34] (by decide +kernel) (by decide +kernel)
set_option maxRecDepth 20000 in
theorem gX1_lays_X1_freeAt : GoodIn wsX1_lays (wsV RX1 61 RX1 yX1_freeAt wsX1_freeAt) := goodIn_app (goodIn_of _ (by decide +kernel)) ggX1_lays_X1_freeAt
set_option maxRecDepth 20000 in
theorem ggX1_lays_X1_timeOf : GoodIn wsX1_lays wsX1_timeOf := goodIn_r _ [19, 20, 25, 26, 27, 28, 29, 30, 31, 32, 33, 34] (by decide +kernel) (by decide +kernel)
set_option maxRecDepth 20000 in
theorem gX1_lays_X1_timeOf : GoodIn wsX1_lays (wsV RX1 46 RX1 yX1_timeOf wsX1_timeOf) := goodIn_app (goodIn_of _ (by decide +kernel)) ggX1_lays_X1_timeOf
set_option maxRecDepth 20000 in
theorem ggX1_lays_X1_pullsTogether : GoodIn wsX1_lays wsX1_pullsTogether := goodIn_r _ [24, 1, 2, 8, 9, 10, 6, 11, 16, 17, 18, 19, 20, 25, 26, 27, 28, 29, 30, 31, 32, 33, 34] (by decide +kernel) (by decide +kernel)
set_option maxRecDepth 20000 in
theorem gX1_lays_X1_pullsTogether : GoodIn wsX1_lays (wsV RX1 65 RX1 yX1_pullsTogether wsX1_pullsTogether) := goodIn_app (goodIn_of _ (by decide +kernel)) ggX1_lays_X1_pullsTogether
set_option maxRecDepth 20000 in
theorem ggX1_lays_X1_endOf : GoodIn wsX1_lays wsX1_endOf := goodIn_r _ [15, 8, 9, 10, 6, 11, 2, 16, 17, 18, 19, 20, 25, 26, 27, 28, 29, 30, 31, 32, 33, 34] (by decide +kernel) (by decide +kernel)
set_option maxRecDepth 20000 in
theorem gX1_lays_X1_endOf : GoodIn wsX1_lays (wsV RX1 57 RX1 yX1_endOf wsX1_endOf) := goodIn_app (goodIn_of _ (by decide +kernel)) ggX1_lays_X1_endOf
theorem dX1_lays_0 : decode cX1_lays 0 = .ok (.iconst 0, 1) := by decide +kernel
theorem dX1_lays_1 : decode cX1_lays 1 = .ok (.istore 4, 2) := by decide +kernel
theorem dX1_lays_3 : decode cX1_lays 3 = .ok (.iload 4, 2) := by decide +kernel
theorem dX1_lays_5 : decode cX1_lays 5 = .ok (.iload_n 3, 1) := by decide +kernel
theorem dX1_lays_6 : decode cX1_lays 6 = .ok (.if_icmp .ge 108, 3) := by decide +kernel
theorem dX1_lays_9 : decode cX1_lays 9 = .ok (.iconst 0, 1) := by decide +kernel
theorem dX1_lays_10 : decode cX1_lays 10 = .ok (.istore 5, 2) := by decide +kernel
theorem dX1_lays_12 : decode cX1_lays 12 = .ok (.iconst 0, 1) := by decide +kernel
theorem dX1_lays_13 : decode cX1_lays 13 = .ok (.istore 6, 2) := by decide +kernel
theorem dX1_lays_15 : decode cX1_lays 15 = .ok (.iload 6, 2) := by decide +kernel
theorem dX1_lays_17 : decode cX1_lays 17 = .ok (.aload_n 0, 1) := by decide +kernel
theorem dX1_lays_18 : decode cX1_lays 18 = .ok (.getfield 7, 3) := by decide +kernel
theorem dX1_lays_21 : decode cX1_lays 21 = .ok (.if_icmp .ge 75, 3) := by decide +kernel
theorem dX1_lays_24 : decode cX1_lays 24 = .ok (.iload 4, 2) := by decide +kernel
theorem dX1_lays_26 : decode cX1_lays 26 = .ok (.ifCond .le 16, 3) := by decide +kernel
theorem dX1_lays_29 : decode cX1_lays 29 = .ok (.aload_n 0, 1) := by decide +kernel
theorem dX1_lays_30 : decode cX1_lays 30 = .ok (.iload_n 1, 1) := by decide +kernel
theorem dX1_lays_31 : decode cX1_lays 31 = .ok (.aload_n 2, 1) := by decide +kernel
theorem dX1_lays_32 : decode cX1_lays 32 = .ok (.iload 4, 2) := by decide +kernel
theorem dX1_lays_34 : decode cX1_lays 34 = .ok (.iload 6, 2) := by decide +kernel
theorem dX1_lays_36 : decode cX1_lays 36 = .ok (.invokevirtual 61, 3) := by decide +kernel
theorem dX1_lays_39 : decode cX1_lays 39 = .ok (.goto 4, 3) := by decide +kernel
theorem dX1_lays_42 : decode cX1_lays 42 = .ok (.iconst 0, 1) := by decide +kernel
theorem dX1_lays_43 : decode cX1_lays 43 = .ok (.istore 7, 2) := by decide +kernel
theorem dX1_lays_45 : decode cX1_lays 45 = .ok (.iload 7, 2) := by decide +kernel
theorem dX1_lays_47 : decode cX1_lays 47 = .ok (.iload 5, 2) := by decide +kernel
theorem dX1_lays_49 : decode cX1_lays 49 = .ok (.if_icmp .le 8, 3) := by decide +kernel
theorem dX1_lays_52 : decode cX1_lays 52 = .ok (.iload 7, 2) := by decide +kernel
theorem dX1_lays_54 : decode cX1_lays 54 = .ok (.goto 5, 3) := by decide +kernel
theorem dX1_lays_57 : decode cX1_lays 57 = .ok (.iload 5, 2) := by decide +kernel
theorem dX1_lays_59 : decode cX1_lays 59 = .ok (.istore 5, 2) := by decide +kernel
theorem dX1_lays_61 : decode cX1_lays 61 = .ok (.aload_n 0, 1) := by decide +kernel
theorem dX1_lays_62 : decode cX1_lays 62 = .ok (.getfield 20, 3) := by decide +kernel
theorem dX1_lays_65 : decode cX1_lays 65 = .ok (.iconst 5, 1) := by decide +kernel
theorem dX1_lays_66 : decode cX1_lays 66 = .ok (.iload 4, 2) := by decide +kernel
theorem dX1_lays_68 : decode cX1_lays 68 = .ok (.imul, 1) := by decide +kernel
theorem dX1_lays_69 : decode cX1_lays 69 = .ok (.iload 6, 2) := by decide +kernel
theorem dX1_lays_71 : decode cX1_lays 71 = .ok (.iadd, 1) := by decide +kernel
theorem dX1_lays_72 : decode cX1_lays 72 = .ok (.iload 5, 2) := by decide +kernel
theorem dX1_lays_74 : decode cX1_lays 74 = .ok (.iastore, 1) := by decide +kernel
theorem dX1_lays_75 : decode cX1_lays 75 = .ok (.iload 5, 2) := by decide +kernel
theorem dX1_lays_77 : decode cX1_lays 77 = .ok (.aload_n 0, 1) := by decide +kernel
theorem dX1_lays_78 : decode cX1_lays 78 = .ok (.aload_n 2, 1) := by decide +kernel
theorem dX1_lays_79 : decode cX1_lays 79 = .ok (.iload 4, 2) := by decide +kernel
theorem dX1_lays_81 : decode cX1_lays 81 = .ok (.iaload, 1) := by decide +kernel
theorem dX1_lays_82 : decode cX1_lays 82 = .ok (.iload 6, 2) := by decide +kernel
theorem dX1_lays_84 : decode cX1_lays 84 = .ok (.invokevirtual 46, 3) := by decide +kernel
theorem dX1_lays_87 : decode cX1_lays 87 = .ok (.iadd, 1) := by decide +kernel
theorem dX1_lays_88 : decode cX1_lays 88 = .ok (.istore 5, 2) := by decide +kernel
theorem dX1_lays_90 : decode cX1_lays 90 = .ok (.iinc 6 1, 3) := by decide +kernel
theorem dX1_lays_93 : decode cX1_lays 93 = .ok (.goto (-78), 3) := by decide +kernel
theorem dX1_lays_96 : decode cX1_lays 96 = .ok (.iload_n 1, 1) := by decide +kernel
theorem dX1_lays_97 : decode cX1_lays 97 = .ok (.iconst 2, 1) := by decide +kernel
theorem dX1_lays_98 : decode cX1_lays 98 = .ok (.if_icmp .ne 10, 3) := by decide +kernel
theorem dX1_lays_101 : decode cX1_lays 101 = .ok (.aload_n 0, 1) := by decide +kernel
theorem dX1_lays_102 : decode cX1_lays 102 = .ok (.aload_n 2, 1) := by decide +kernel
theorem dX1_lays_103 : decode cX1_lays 103 = .ok (.iload 4, 2) := by decide +kernel
theorem dX1_lays_105 : decode cX1_lays 105 = .ok (.invokevirtual 65, 3) := by decide +kernel
theorem dX1_lays_108 : decode cX1_lays 108 = .ok (.iinc 4 1, 3) := by decide +kernel
theorem dX1_lays_111 : decode cX1_lays 111 = .ok (.goto (-108), 3) := by decide +kernel
theorem dX1_lays_114 : decode cX1_lays 114 = .ok (.iload_n 3, 1) := by decide +kernel
theorem dX1_lays_115 : decode cX1_lays 115 = .ok (.ifCond .le 20, 3) := by decide +kernel
theorem dX1_lays_118 : decode cX1_lays 118 = .ok (.aload_n 0, 1) := by decide +kernel
theorem dX1_lays_119 : decode cX1_lays 119 = .ok (.aload_n 2, 1) := by decide +kernel
theorem dX1_lays_120 : decode cX1_lays 120 = .ok (.iload_n 3, 1) := by decide +kernel
theorem dX1_lays_121 : decode cX1_lays 121 = .ok (.iconst 1, 1) := by decide +kernel
theorem dX1_lays_122 : decode cX1_lays 122 = .ok (.isub, 1) := by decide +kernel
theorem dX1_lays_123 : decode cX1_lays 123 = .ok (.aload_n 0, 1) := by decide +kernel
theorem dX1_lays_124 : decode cX1_lays 124 = .ok (.getfield 7, 3) := by decide +kernel
theorem dX1_lays_127 : decode cX1_lays 127 = .ok (.iconst 1, 1) := by decide +kernel
theorem dX1_lays_128 : decode cX1_lays 128 = .ok (.isub, 1) := by decide +kernel
theorem dX1_lays_129 : decode cX1_lays 129 = .ok (.invokevirtual 57, 3) := by decide +kernel
theorem dX1_lays_132 : decode cX1_lays 132 = .ok (.goto 4, 3) := by decide +kernel
theorem dX1_lays_135 : decode cX1_lays 135 = .ok (.iconst 0, 1) := by decide +kernel
theorem dX1_lays_136 : decode cX1_lays 136 = .ok (.ireturn, 1) := by decide +kernel
set_option maxRecDepth 20000 in
theorem ggX1_pullsTogether_X1_startOf : GoodIn wsX1_pullsTogether wsX1_startOf := goodIn_r _ [7, 2, 13, 14, 15, 16, 17, 18, 19, 20, 21, 22] (by decide +kernel) (by decide +kernel)
set_option maxRecDepth 20000 in
theorem gX1_pullsTogether_X1_startOf : GoodIn wsX1_pullsTogether (wsV RX1 54 RX1 yX1_startOf wsX1_startOf) := goodIn_app (goodIn_of _ (by decide +kernel)) ggX1_pullsTogether_X1_startOf
set_option maxRecDepth 20000 in
theorem ggX1_pullsTogether_X1_timeOf : GoodIn wsX1_pullsTogether wsX1_timeOf := goodIn_r _ [11, 12, 13, 14, 15, 16, 17, 18, 19, 20, 21, 22] (by decide +kernel) (by decide +kernel)
set_option maxRecDepth 20000 in
theorem gX1_pullsTogether_X1_timeOf : GoodIn wsX1_pullsTogether (wsV RX1 46 RX1 yX1_timeOf wsX1_timeOf) := goodIn_app (goodIn_of _ (by decide +kernel)) ggX1_pullsTogether_X1_timeOf
theorem dX1_pullsTogether_0 : decode cX1_pullsTogether 0 = .ok (.aload_n 0, 1) := by decide +kernel
theorem dX1_pullsTogether_1 : decode cX1_pullsTogether 1 = .ok (.getfield 7, 3) := by decide +kernel
theorem dX1_pullsTogether_4 : decode cX1_pullsTogether 4 = .ok (.iconst 2, 1) := by decide +kernel
theorem dX1_pullsTogether_5 : decode cX1_pullsTogether 5 = .ok (.isub, 1) := by decide +kernel
theorem dX1_pullsTogether_6 : decode cX1_pullsTogether 6 = .ok (.istore_n 3, 1) := by decide +kernel
theorem dX1_pullsTogether_7 : decode cX1_pullsTogether 7 = .ok (.iload_n 3, 1) := by decide +kernel
theorem dX1_pullsTogether_8 : decode cX1_pullsTogether 8 = .ok (.ifCond .lt 36, 3) := by decide +kernel
theorem dX1_pullsTogether_11 : decode cX1_pullsTogether 11 = .ok (.aload_n 0, 1) := by decide +kernel
theorem dX1_pullsTogether_12 : decode cX1_pullsTogether 12 = .ok (.getfield 20, 3) := by decide +kernel
theorem dX1_pullsTogether_15 : decode cX1_pullsTogether 15 = .ok (.iconst 5, 1) := by decide +kernel
theorem dX1_pullsTogether_16 : decode cX1_pullsTogether 16 = .ok (.iload_n 2, 1) := by decide +kernel
theorem dX1_pullsTogether_17 : decode cX1_pullsTogether 17 = .ok (.imul, 1) := by decide +kernel
theorem dX1_pullsTogether_18 : decode cX1_pullsTogether 18 = .ok (.iload_n 3, 1) := by decide +kernel
theorem dX1_pullsTogether_19 : decode cX1_pullsTogether 19 = .ok (.iadd, 1) := by decide +kernel
theorem dX1_pullsTogether_20 : decode cX1_pullsTogether 20 = .ok (.aload_n 0, 1) := by decide +kernel
theorem dX1_pullsTogether_21 : decode cX1_pullsTogether 21 = .ok (.iload_n 2, 1) := by decide +kernel
theorem dX1_pullsTogether_22 : decode cX1_pullsTogether 22 = .ok (.iload_n 3, 1) := by decide +kernel
theorem dX1_pullsTogether_23 : decode cX1_pullsTogether 23 = .ok (.iconst 1, 1) := by decide +kernel
theorem dX1_pullsTogether_24 : decode cX1_pullsTogether 24 = .ok (.iadd, 1) := by decide +kernel
theorem dX1_pullsTogether_25 : decode cX1_pullsTogether 25 = .ok (.invokevirtual 54, 3) := by decide +kernel
theorem dX1_pullsTogether_28 : decode cX1_pullsTogether 28 = .ok (.aload_n 0, 1) := by decide +kernel
theorem dX1_pullsTogether_29 : decode cX1_pullsTogether 29 = .ok (.aload_n 1, 1) := by decide +kernel
theorem dX1_pullsTogether_30 : decode cX1_pullsTogether 30 = .ok (.iload_n 2, 1) := by decide +kernel
theorem dX1_pullsTogether_31 : decode cX1_pullsTogether 31 = .ok (.iaload, 1) := by decide +kernel
theorem dX1_pullsTogether_32 : decode cX1_pullsTogether 32 = .ok (.iload_n 3, 1) := by decide +kernel
theorem dX1_pullsTogether_33 : decode cX1_pullsTogether 33 = .ok (.invokevirtual 46, 3) := by decide +kernel
theorem dX1_pullsTogether_36 : decode cX1_pullsTogether 36 = .ok (.isub, 1) := by decide +kernel
theorem dX1_pullsTogether_37 : decode cX1_pullsTogether 37 = .ok (.iastore, 1) := by decide +kernel
theorem dX1_pullsTogether_38 : decode cX1_pullsTogether 38 = .ok (.iinc 3 (-1), 3) := by decide +kernel
theorem dX1_pullsTogether_41 : decode cX1_pullsTogether 41 = .ok (.goto (-34), 3) := by decide +kernel
theorem dX1_pullsTogether_44 : decode cX1_pullsTogether 44 = .ok (.return_, 1) := by decide +kernel
set_option maxRecDepth 20000 in
theorem ggX1_plain_X1_lays : GoodIn wsX1_plain wsX1_lays := goodIn_r _ [7, 8, 9, 10, 11, 12, 6, 13, 14, 15, 16, 17, 18, 19, 20, 21, 22, 23, 24, 25, 26, 27, 28, 29, 30, 31, 32, 33, 34, 35, 36, 37, 38, 39, 40] (by decide +kernel) (by decide +kernel)
set_option maxRecDepth 20000 in
theorem gX1_plain_X1_lays : GoodIn wsX1_plain (wsV RX1 69 RX1 yX1_lays wsX1_lays) := goodIn_app (goodIn_of _ (by decide +kernel)) ggX1_plain_X1_lays
theorem dX1_plain_0 : decode cX1_plain 0 = .ok (.aload_n 0, 1) := by decide +kernel
theorem dX1_plain_1 : decode cX1_plain 1 = .ok (.iconst 0, 1) := by decide +kernel
theorem dX1_plain_2 : decode cX1_plain 2 = .ok (.aload_n 0, 1) := by decide +kernel
theorem dX1_plain_3 : decode cX1_plain 3 = .ok (.getfield 17, 3) := by decide +kernel
theorem dX1_plain_6 : decode cX1_plain 6 = .ok (.aload_n 0, 1) := by decide +kernel
theorem dX1_plain_7 : decode cX1_plain 7 = .ok (.getfield 35, 3) := by decide +kernel
theorem dX1_plain_10 : decode cX1_plain 10 = .ok (.invokevirtual 69, 3) := by decide +kernel
theorem dX1_plain_13 : decode cX1_plain 13 = .ok (.ireturn, 1) := by decide +kernel
theorem dX1_placeOf_0 : decode cX1_placeOf 0 = .ok (.iconst 0, 1) := by decide +kernel
theorem dX1_placeOf_1 : decode cX1_placeOf 1 = .ok (.istore_n 2, 1) := by decide +kernel
theorem dX1_placeOf_2 : decode cX1_placeOf 2 = .ok (.aload_n 0, 1) := by decide +kernel
theorem dX1_placeOf_3 : decode cX1_placeOf 3 = .ok (.getfield 17, 3) := by decide +kernel
theorem dX1_placeOf_6 : decode cX1_placeOf 6 = .ok (.iload_n 2, 1) := by decide +kernel
theorem dX1_placeOf_7 : decode cX1_placeOf 7 = .ok (.iaload, 1) := by decide +kernel
theorem dX1_placeOf_8 : decode cX1_placeOf 8 = .ok (.iload_n 1, 1) := by decide +kernel
theorem dX1_placeOf_9 : decode cX1_placeOf 9 = .ok (.if_icmp .eq 9, 3) := by decide +kernel
theorem dX1_placeOf_12 : decode cX1_placeOf 12 = .ok (.iinc 2 1, 3) := by decide +kernel
theorem dX1_placeOf_15 : decode cX1_placeOf 15 = .ok (.goto (-13), 3) := by decide +kernel
theorem dX1_placeOf_18 : decode cX1_placeOf 18 = .ok (.iload_n 2, 1) := by decide +kernel
theorem dX1_placeOf_19 : decode cX1_placeOf 19 = .ok (.ireturn, 1) := by decide +kernel
theorem dX1_triesMove_0 : decode cX1_triesMove 0 = .ok (.iconst 0, 1) := by decide +kernel
theorem dX1_triesMove_1 : decode cX1_triesMove 1 = .ok (.istore_n 3, 1) := by decide +kernel
theorem dX1_triesMove_2 : decode cX1_triesMove 2 = .ok (.iload_n 3, 1) := by decide +kernel
theorem dX1_triesMove_3 : decode cX1_triesMove 3 = .ok (.aload_n 0, 1) := by decide +kernel
theorem dX1_triesMove_4 : decode cX1_triesMove 4 = .ok (.getfield 35, 3) := by decide +kernel
theorem dX1_triesMove_7 : decode cX1_triesMove 7 = .ok (.if_icmp .ge 21, 3) := by decide +kernel
theorem dX1_triesMove_10 : decode cX1_triesMove 10 = .ok (.aload_n 0, 1) := by decide +kernel
theorem dX1_triesMove_11 : decode cX1_triesMove 11 = .ok (.getfield 26, 3) := by decide +kernel
theorem dX1_triesMove_14 : decode cX1_triesMove 14 = .ok (.iload_n 3, 1) := by decide +kernel
theorem dX1_triesMove_15 : decode cX1_triesMove 15 = .ok (.aload_n 0, 1) := by decide +kernel
theorem dX1_triesMove_16 : decode cX1_triesMove 16 = .ok (.getfield 17, 3) := by decide +kernel
theorem dX1_triesMove_19 : decode cX1_triesMove 19 = .ok (.iload_n 3, 1) := by decide +kernel
theorem dX1_triesMove_20 : decode cX1_triesMove 20 = .ok (.iaload, 1) := by decide +kernel
theorem dX1_triesMove_21 : decode cX1_triesMove 21 = .ok (.iastore, 1) := by decide +kernel
theorem dX1_triesMove_22 : decode cX1_triesMove 22 = .ok (.iinc 3 1, 3) := by decide +kernel
theorem dX1_triesMove_25 : decode cX1_triesMove 25 = .ok (.goto (-23), 3) := by decide +kernel
theorem dX1_triesMove_28 : decode cX1_triesMove 28 = .ok (.iload_n 1, 1) := by decide +kernel
theorem dX1_triesMove_29 : decode cX1_triesMove 29 = .ok (.istore_n 3, 1) := by decide +kernel
theorem dX1_triesMove_30 : decode cX1_triesMove 30 = .ok (.iload_n 3, 1) := by decide +kernel
theorem dX1_triesMove_31 : decode cX1_triesMove 31 = .ok (.iload_n 2, 1) := by decide +kernel
theorem dX1_triesMove_32 : decode cX1_triesMove 32 = .ok (.if_icmp .ge 23, 3) := by decide +kernel
theorem dX1_triesMove_35 : decode cX1_triesMove 35 = .ok (.aload_n 0, 1) := by decide +kernel
theorem dX1_triesMove_36 : decode cX1_triesMove 36 = .ok (.getfield 26, 3) := by decide +kernel
theorem dX1_triesMove_39 : decode cX1_triesMove 39 = .ok (.iload_n 3, 1) := by decide +kernel
theorem dX1_triesMove_40 : decode cX1_triesMove 40 = .ok (.aload_n 0, 1) := by decide +kernel
theorem dX1_triesMove_41 : decode cX1_triesMove 41 = .ok (.getfield 17, 3) := by decide +kernel
theorem dX1_triesMove_44 : decode cX1_triesMove 44 = .ok (.iload_n 3, 1) := by decide +kernel
theorem dX1_triesMove_45 : decode cX1_triesMove 45 = .ok (.iconst 1, 1) := by decide +kernel
theorem dX1_triesMove_46 : decode cX1_triesMove 46 = .ok (.iadd, 1) := by decide +kernel
theorem dX1_triesMove_47 : decode cX1_triesMove 47 = .ok (.iaload, 1) := by decide +kernel
theorem dX1_triesMove_48 : decode cX1_triesMove 48 = .ok (.iastore, 1) := by decide +kernel
theorem dX1_triesMove_49 : decode cX1_triesMove 49 = .ok (.iinc 3 1, 3) := by decide +kernel
theorem dX1_triesMove_52 : decode cX1_triesMove 52 = .ok (.goto (-22), 3) := by decide +kernel
theorem dX1_triesMove_55 : decode cX1_triesMove 55 = .ok (.iload_n 1, 1) := by decide +kernel
theorem dX1_triesMove_56 : decode cX1_triesMove 56 = .ok (.istore_n 3, 1) := by decide +kernel
theorem dX1_triesMove_57 : decode cX1_triesMove 57 = .ok (.iload_n 3, 1) := by decide +kernel
theorem dX1_triesMove_58 : decode cX1_triesMove 58 = .ok (.iload_n 2, 1) := by decide +kernel
theorem dX1_triesMove_59 : decode cX1_triesMove 59 = .ok (.if_icmp .le 23, 3) := by decide +kernel
theorem dX1_triesMove_62 : decode cX1_triesMove 62 = .ok (.aload_n 0, 1) := by decide +kernel
theorem dX1_triesMove_63 : decode cX1_triesMove 63 = .ok (.getfield 26, 3) := by decide +kernel
theorem dX1_triesMove_66 : decode cX1_triesMove 66 = .ok (.iload_n 3, 1) := by decide +kernel
theorem dX1_triesMove_67 : decode cX1_triesMove 67 = .ok (.aload_n 0, 1) := by decide +kernel
theorem dX1_triesMove_68 : decode cX1_triesMove 68 = .ok (.getfield 17, 3) := by decide +kernel
theorem dX1_triesMove_71 : decode cX1_triesMove 71 = .ok (.iload_n 3, 1) := by decide +kernel
theorem dX1_triesMove_72 : decode cX1_triesMove 72 = .ok (.iconst 1, 1) := by decide +kernel
theorem dX1_triesMove_73 : decode cX1_triesMove 73 = .ok (.isub, 1) := by decide +kernel
theorem dX1_triesMove_74 : decode cX1_triesMove 74 = .ok (.iaload, 1) := by decide +kernel
theorem dX1_triesMove_75 : decode cX1_triesMove 75 = .ok (.iastore, 1) := by decide +kernel
theorem dX1_triesMove_76 : decode cX1_triesMove 76 = .ok (.iinc 3 (-1), 3) := by decide +kernel
theorem dX1_triesMove_79 : decode cX1_triesMove 79 = .ok (.goto (-22), 3) := by decide +kernel
theorem dX1_triesMove_82 : decode cX1_triesMove 82 = .ok (.aload_n 0, 1) := by decide +kernel
theorem dX1_triesMove_83 : decode cX1_triesMove 83 = .ok (.getfield 26, 3) := by decide +kernel
theorem dX1_triesMove_86 : decode cX1_triesMove 86 = .ok (.iload_n 2, 1) := by decide +kernel
theorem dX1_triesMove_87 : decode cX1_triesMove 87 = .ok (.aload_n 0, 1) := by decide +kernel
theorem dX1_triesMove_88 : decode cX1_triesMove 88 = .ok (.getfield 17, 3) := by decide +kernel
theorem dX1_triesMove_91 : decode cX1_triesMove 91 = .ok (.iload_n 1, 1) := by decide +kernel
theorem dX1_triesMove_92 : decode cX1_triesMove 92 = .ok (.iaload, 1) := by decide +kernel
theorem dX1_triesMove_93 : decode cX1_triesMove 93 = .ok (.iastore, 1) := by decide +kernel
theorem dX1_triesMove_94 : decode cX1_triesMove 94 = .ok (.return_, 1) := by decide +kernel
theorem dX1_takesTrial_0 : decode cX1_takesTrial 0 = .ok (.iconst 0, 1) := by decide +kernel
theorem dX1_takesTrial_1 : decode cX1_takesTrial 1 = .ok (.istore_n 1, 1) := by decide +kernel
theorem dX1_takesTrial_2 : decode cX1_takesTrial 2 = .ok (.iload_n 1, 1) := by decide +kernel
theorem dX1_takesTrial_3 : decode cX1_takesTrial 3 = .ok (.aload_n 0, 1) := by decide +kernel
theorem dX1_takesTrial_4 : decode cX1_takesTrial 4 = .ok (.getfield 35, 3) := by decide +kernel
theorem dX1_takesTrial_7 : decode cX1_takesTrial 7 = .ok (.if_icmp .ge 21, 3) := by decide +kernel
theorem dX1_takesTrial_10 : decode cX1_takesTrial 10 = .ok (.aload_n 0, 1) := by decide +kernel
theorem dX1_takesTrial_11 : decode cX1_takesTrial 11 = .ok (.getfield 17, 3) := by decide +kernel
theorem dX1_takesTrial_14 : decode cX1_takesTrial 14 = .ok (.iload_n 1, 1) := by decide +kernel
theorem dX1_takesTrial_15 : decode cX1_takesTrial 15 = .ok (.aload_n 0, 1) := by decide +kernel
theorem dX1_takesTrial_16 : decode cX1_takesTrial 16 = .ok (.getfield 26, 3) := by decide +kernel
theorem dX1_takesTrial_19 : decode cX1_takesTrial 19 = .ok (.iload_n 1, 1) := by decide +kernel
theorem dX1_takesTrial_20 : decode cX1_takesTrial 20 = .ok (.iaload, 1) := by decide +kernel
theorem dX1_takesTrial_21 : decode cX1_takesTrial 21 = .ok (.iastore, 1) := by decide +kernel
theorem dX1_takesTrial_22 : decode cX1_takesTrial 22 = .ok (.iinc 1 1, 3) := by decide +kernel
theorem dX1_takesTrial_25 : decode cX1_takesTrial 25 = .ok (.goto (-23), 3) := by decide +kernel
theorem dX1_takesTrial_28 : decode cX1_takesTrial 28 = .ok (.return_, 1) := by decide +kernel
set_option maxRecDepth 20000 in
theorem ggX1_jobAt_X1_in : GoodIn wsX1_jobAt wsX1_in := goodIn_r _ [7] (by decide +kernel) (by decide +kernel)
set_option maxRecDepth 20000 in
theorem gX1_jobAt_X1_in : GoodIn wsX1_jobAt (va_wsS RX1 38 yX1_in wsX1_in) := goodIn_app (goodIn_of _ (by decide +kernel)) ggX1_jobAt_X1_in
set_option maxRecDepth 20000 in
theorem ggX1_jobAt_X1_fails : GoodIn wsX1_jobAt wsX1_fails := goodIn_r _ [11, 1, 12, 13, 14, 15, 16, 17, 18, 19, 20, 21] (by decide +kernel) (by decide +kernel)
set_option maxRecDepth 20000 in
theorem gX1_jobAt_X1_fails : GoodIn wsX1_jobAt (wsV RX1 50 RX1 yX1_fails wsX1_fails) := goodIn_app (goodIn_of _ (by decide +kernel)) ggX1_jobAt_X1_fails
theorem dX1_jobAt_0 : decode cX1_jobAt 0 = .ok (.aload_n 0, 1) := by decide +kernel
theorem dX1_jobAt_1 : decode cX1_jobAt 1 = .ok (.iconst 0, 1) := by decide +kernel
theorem dX1_jobAt_2 : decode cX1_jobAt 2 = .ok (.putfield 32, 3) := by decide +kernel
theorem dX1_jobAt_5 : decode cX1_jobAt 5 = .ok (.iload_n 1, 1) := by decide +kernel
theorem dX1_jobAt_6 : decode cX1_jobAt 6 = .ok (.iconst 0, 1) := by decide +kernel
theorem dX1_jobAt_7 : decode cX1_jobAt 7 = .ok (.aload_n 0, 1) := by decide +kernel
theorem dX1_jobAt_8 : decode cX1_jobAt 8 = .ok (.getfield 35, 3) := by decide +kernel
theorem dX1_jobAt_11 : decode cX1_jobAt 11 = .ok (.iconst 1, 1) := by decide +kernel
theorem dX1_jobAt_12 : decode cX1_jobAt 12 = .ok (.isub, 1) := by decide +kernel
theorem dX1_jobAt_13 : decode cX1_jobAt 13 = .ok (.invokestatic 38, 3) := by decide +kernel
theorem dX1_jobAt_16 : decode cX1_jobAt 16 = .ok (.ifCond .eq 12, 3) := by decide +kernel
theorem dX1_jobAt_19 : decode cX1_jobAt 19 = .ok (.aload_n 0, 1) := by decide +kernel
theorem dX1_jobAt_20 : decode cX1_jobAt 20 = .ok (.getfield 17, 3) := by decide +kernel
theorem dX1_jobAt_23 : decode cX1_jobAt 23 = .ok (.iload_n 1, 1) := by decide +kernel
theorem dX1_jobAt_24 : decode cX1_jobAt 24 = .ok (.iaload, 1) := by decide +kernel
theorem dX1_jobAt_25 : decode cX1_jobAt 25 = .ok (.goto 8, 3) := by decide +kernel
theorem dX1_jobAt_28 : decode cX1_jobAt 28 = .ok (.aload_n 0, 1) := by decide +kernel
theorem dX1_jobAt_29 : decode cX1_jobAt 29 = .ok (.iconst 1, 1) := by decide +kernel
theorem dX1_jobAt_30 : decode cX1_jobAt 30 = .ok (.invokevirtual 50, 3) := by decide +kernel
theorem dX1_jobAt_33 : decode cX1_jobAt 33 = .ok (.ireturn, 1) := by decide +kernel
set_option maxRecDepth 20000 in
theorem ggX1_canMove_X1_in : GoodIn wsX1_canMove wsX1_in := goodIn_r _ [5] (by decide +kernel) (by decide +kernel)
set_option maxRecDepth 20000 in
theorem gX1_canMove_X1_in : GoodIn wsX1_canMove (va_wsS RX1 38 yX1_in wsX1_in) := goodIn_app (goodIn_of _ (by decide +kernel)) ggX1_canMove_X1_in
theorem dX1_canMove_0 : decode cX1_canMove 0 = .ok (.iload_n 1, 1) := by decide +kernel
theorem dX1_canMove_1 : decode cX1_canMove 1 = .ok (.iconst 0, 1) := by decide +kernel
theorem dX1_canMove_2 : decode cX1_canMove 2 = .ok (.aload_n 0, 1) := by decide +kernel
theorem dX1_canMove_3 : decode cX1_canMove 3 = .ok (.getfield 35, 3) := by decide +kernel
theorem dX1_canMove_6 : decode cX1_canMove 6 = .ok (.iconst 1, 1) := by decide +kernel
theorem dX1_canMove_7 : decode cX1_canMove 7 = .ok (.isub, 1) := by decide +kernel
theorem dX1_canMove_8 : decode cX1_canMove 8 = .ok (.invokestatic 38, 3) := by decide +kernel
theorem dX1_canMove_11 : decode cX1_canMove 11 = .ok (.ifCond .eq 21, 3) := by decide +kernel
theorem dX1_canMove_14 : decode cX1_canMove 14 = .ok (.iload_n 2, 1) := by decide +kernel
theorem dX1_canMove_15 : decode cX1_canMove 15 = .ok (.iconst 0, 1) := by decide +kernel
theorem dX1_canMove_16 : decode cX1_canMove 16 = .ok (.aload_n 0, 1) := by decide +kernel
theorem dX1_canMove_17 : decode cX1_canMove 17 = .ok (.getfield 35, 3) := by decide +kernel
theorem dX1_canMove_20 : decode cX1_canMove 20 = .ok (.iconst 1, 1) := by decide +kernel
theorem dX1_canMove_21 : decode cX1_canMove 21 = .ok (.isub, 1) := by decide +kernel
theorem dX1_canMove_22 : decode cX1_canMove 22 = .ok (.invokestatic 38, 3) := by decide +kernel
theorem dX1_canMove_25 : decode cX1_canMove 25 = .ok (.ifCond .eq 7, 3) := by decide +kernel
theorem dX1_canMove_28 : decode cX1_canMove 28 = .ok (.iconst 1, 1) := by decide +kernel
theorem dX1_canMove_29 : decode cX1_canMove 29 = .ok (.goto 4, 3) := by decide +kernel
theorem dX1_canMove_32 : decode cX1_canMove 32 = .ok (.iconst 0, 1) := by decide +kernel
theorem dX1_canMove_33 : decode cX1_canMove 33 = .ok (.ireturn, 1) := by decide +kernel
set_option maxRecDepth 20000 in
theorem ggX1_move_X1_canMove : GoodIn wsX1_move wsX1_canMove := goodIn_r _ [6, 7, 8, 9, 5, 10, 25, 26, 27, 28, 29, 30, 31, 32, 33, 34] (by decide +kernel) (by decide +kernel)
set_option maxRecDepth 20000 in
theorem gX1_move_X1_canMove : GoodIn wsX1_move (wsV RX1 73 RX1 yX1_canMove wsX1_canMove) := goodIn_app (goodIn_of _ (by decide +kernel)) ggX1_move_X1_canMove
set_option maxRecDepth 20000 in
theorem ggX1_move_X1_placeOf : GoodIn wsX1_move wsX1_placeOf := goodIn_r _ [14, 15, 25, 26, 27, 28, 29, 30, 31, 32, 33, 34] (by decide +kernel) (by decide +kernel)
set_option maxRecDepth 20000 in
theorem gX1_move_X1_placeOf : GoodIn wsX1_move (wsV RX1 76 RX1 yX1_placeOf wsX1_placeOf) := goodIn_app (goodIn_of _ (by decide +kernel)) ggX1_move_X1_placeOf
set_option maxRecDepth 20000 in
theorem ggX1_move_X1_triesMove : GoodIn wsX1_move wsX1_triesMove := goodIn_r _ [19, 7, 20, 15, 25, 26, 27, 28, 29, 30, 31, 32, 33, 34] (by decide +kernel) (by decide +kernel)
set_option maxRecDepth 20000 in
theorem gX1_move_X1_triesMove : GoodIn wsX1_move (wsV RX1 79 RX1 yX1_triesMove wsX1_triesMove) := goodIn_app (goodIn_of _ (by decide +kernel)) ggX1_move_X1_triesMove
set_option maxRecDepth 20000 in
theorem ggX1_move_X1_takesTrial : GoodIn wsX1_move wsX1_takesTrial := goodIn_r _ [24, 7, 15, 20, 25, 26, 27, 28, 29, 30, 31, 32, 33, 34] (by decide +kernel) (by decide +kernel)
set_option maxRecDepth 20000 in
theorem gX1_move_X1_takesTrial : GoodIn wsX1_move (wsV RX1 83 RX1 yX1_takesTrial wsX1_takesTrial) := goodIn_app (goodIn_of _ (by decide +kernel)) ggX1_move_X1_takesTrial
theorem dX1_move_0 : decode cX1_move 0 = .ok (.aload_n 0, 1) := by decide +kernel
theorem dX1_move_1 : decode cX1_move 1 = .ok (.aload_n 0, 1) := by decide +kernel
theorem dX1_move_2 : decode cX1_move 2 = .ok (.iload_n 1, 1) := by decide +kernel
theorem dX1_move_3 : decode cX1_move 3 = .ok (.iload_n 2, 1) := by decide +kernel
theorem dX1_move_4 : decode cX1_move 4 = .ok (.invokevirtual 73, 3) := by decide +kernel
theorem dX1_move_7 : decode cX1_move 7 = .ok (.ifCond .eq 7, 3) := by decide +kernel
theorem dX1_move_10 : decode cX1_move 10 = .ok (.iconst 0, 1) := by decide +kernel
theorem dX1_move_11 : decode cX1_move 11 = .ok (.goto 4, 3) := by decide +kernel
theorem dX1_move_14 : decode cX1_move 14 = .ok (.iconst 1, 1) := by decide +kernel
theorem dX1_move_15 : decode cX1_move 15 = .ok (.putfield 32, 3) := by decide +kernel
theorem dX1_move_18 : decode cX1_move 18 = .ok (.aload_n 0, 1) := by decide +kernel
theorem dX1_move_19 : decode cX1_move 19 = .ok (.getfield 32, 3) := by decide +kernel
theorem dX1_move_22 : decode cX1_move 22 = .ok (.ifCond .le 5, 3) := by decide +kernel
theorem dX1_move_25 : decode cX1_move 25 = .ok (.iconst 0, 1) := by decide +kernel
theorem dX1_move_26 : decode cX1_move 26 = .ok (.ireturn, 1) := by decide +kernel
theorem dX1_move_27 : decode cX1_move 27 = .ok (.aload_n 0, 1) := by decide +kernel
theorem dX1_move_28 : decode cX1_move 28 = .ok (.iload_n 1, 1) := by decide +kernel
theorem dX1_move_29 : decode cX1_move 29 = .ok (.invokevirtual 76, 3) := by decide +kernel
theorem dX1_move_32 : decode cX1_move 32 = .ok (.istore_n 3, 1) := by decide +kernel
theorem dX1_move_33 : decode cX1_move 33 = .ok (.aload_n 0, 1) := by decide +kernel
theorem dX1_move_34 : decode cX1_move 34 = .ok (.iload_n 3, 1) := by decide +kernel
theorem dX1_move_35 : decode cX1_move 35 = .ok (.iload_n 2, 1) := by decide +kernel
theorem dX1_move_36 : decode cX1_move 36 = .ok (.invokevirtual 79, 3) := by decide +kernel
theorem dX1_move_39 : decode cX1_move 39 = .ok (.aload_n 0, 1) := by decide +kernel
theorem dX1_move_40 : decode cX1_move 40 = .ok (.invokevirtual 83, 3) := by decide +kernel
theorem dX1_move_43 : decode cX1_move 43 = .ok (.iload_n 3, 1) := by decide +kernel
theorem dX1_move_44 : decode cX1_move 44 = .ok (.ireturn, 1) := by decide +kernel
set_option maxRecDepth 20000 in
theorem ggX1_makespanIfMoved_X1_canMove : GoodIn wsX1_makespanIfMoved wsX1_canMove := goodIn_r _ [8, 3, 9, 10, 7, 11, 48, 49, 50, 51, 52, 53, 54, 55, 56, 57] (by decide +kernel) (by decide +kernel)
set_option maxRecDepth 20000 in
theorem gX1_makespanIfMoved_X1_canMove : GoodIn wsX1_makespanIfMoved (wsV RX1 73 RX1 yX1_canMove wsX1_canMove) := goodIn_app (goodIn_of _ (by decide +kernel)) ggX1_makespanIfMoved_X1_canMove
set_option maxRecDepth 20000 in
theorem ggX1_makespanIfMoved_X1_placeOf : GoodIn wsX1_makespanIfMoved wsX1_placeOf := goodIn_r _ [15, 16, 48, 49, 50, 51, 52, 53, 54, 55, 56, 57] (by decide +kernel) (by decide +kernel)
set_option maxRecDepth 20000 in
theorem gX1_makespanIfMoved_X1_placeOf : GoodIn wsX1_makespanIfMoved (wsV RX1 76 RX1 yX1_placeOf wsX1_placeOf) := goodIn_app (goodIn_of _ (by decide +kernel)) ggX1_makespanIfMoved_X1_placeOf
set_option maxRecDepth 20000 in
theorem ggX1_makespanIfMoved_X1_triesMove : GoodIn wsX1_makespanIfMoved wsX1_triesMove := goodIn_r _ [20, 3, 2, 16, 48, 49, 50, 51, 52, 53, 54, 55, 56, 57] (by decide +kernel) (by decide +kernel)
set_option maxRecDepth 20000 in
theorem gX1_makespanIfMoved_X1_triesMove : GoodIn wsX1_makespanIfMoved (wsV RX1 79 RX1 yX1_triesMove wsX1_triesMove) := goodIn_app (goodIn_of _ (by decide +kernel)) ggX1_makespanIfMoved_X1_triesMove
set_option maxRecDepth 20000 in
theorem ggX1_makespanIfMoved_X1_lays : GoodIn wsX1_makespanIfMoved wsX1_lays := goodIn_r _ [24, 25, 26, 27, 28, 29, 7, 30, 31, 32, 33, 34, 35, 36, 37, 38, 39, 40, 41, 42, 43, 44, 45, 46, 47, 48, 49, 50, 51, 52, 53, 54, 55, 56, 57] (by decide +kernel) (by decide +kernel)
set_option maxRecDepth 20000 in
theorem gX1_makespanIfMoved_X1_lays : GoodIn wsX1_makespanIfMoved (wsV RX1 69 RX1 yX1_lays wsX1_lays) := goodIn_app (goodIn_of _ (by decide +kernel)) ggX1_makespanIfMoved_X1_lays
theorem dX1_makespanIfMoved_0 : decode cX1_makespanIfMoved 0 = .ok (.aload_n 0, 1) := by decide +kernel
theorem dX1_makespanIfMoved_1 : decode cX1_makespanIfMoved 1 = .ok (.aload_n 0, 1) := by decide +kernel
theorem dX1_makespanIfMoved_2 : decode cX1_makespanIfMoved 2 = .ok (.iload_n 1, 1) := by decide +kernel
theorem dX1_makespanIfMoved_3 : decode cX1_makespanIfMoved 3 = .ok (.iload_n 2, 1) := by decide +kernel
theorem dX1_makespanIfMoved_4 : decode cX1_makespanIfMoved 4 = .ok (.invokevirtual 73, 3) := by decide +kernel
theorem dX1_makespanIfMoved_7 : decode cX1_makespanIfMoved 7 = .ok (.ifCond .eq 7, 3) := by decide +kernel
theorem dX1_makespanIfMoved_10 : decode cX1_makespanIfMoved 10 = .ok (.iconst 0, 1) := by decide +kernel
theorem dX1_makespanIfMoved_11 : decode cX1_makespanIfMoved 11 = .ok (.goto 4, 3) := by decide +kernel
theorem dX1_makespanIfMoved_14 : decode cX1_makespanIfMoved 14 = .ok (.iconst 1, 1) := by decide +kernel
theorem dX1_makespanIfMoved_15 : decode cX1_makespanIfMoved 15 = .ok (.putfield 32, 3) := by decide +kernel
theorem dX1_makespanIfMoved_18 : decode cX1_makespanIfMoved 18 = .ok (.aload_n 0, 1) := by decide +kernel
theorem dX1_makespanIfMoved_19 : decode cX1_makespanIfMoved 19 = .ok (.getfield 32, 3) := by decide +kernel
theorem dX1_makespanIfMoved_22 : decode cX1_makespanIfMoved 22 = .ok (.ifCond .le 5, 3) := by decide +kernel
theorem dX1_makespanIfMoved_25 : decode cX1_makespanIfMoved 25 = .ok (.iconst 0, 1) := by decide +kernel
theorem dX1_makespanIfMoved_26 : decode cX1_makespanIfMoved 26 = .ok (.ireturn, 1) := by decide +kernel
theorem dX1_makespanIfMoved_27 : decode cX1_makespanIfMoved 27 = .ok (.aload_n 0, 1) := by decide +kernel
theorem dX1_makespanIfMoved_28 : decode cX1_makespanIfMoved 28 = .ok (.aload_n 0, 1) := by decide +kernel
theorem dX1_makespanIfMoved_29 : decode cX1_makespanIfMoved 29 = .ok (.iload_n 1, 1) := by decide +kernel
theorem dX1_makespanIfMoved_30 : decode cX1_makespanIfMoved 30 = .ok (.invokevirtual 76, 3) := by decide +kernel
theorem dX1_makespanIfMoved_33 : decode cX1_makespanIfMoved 33 = .ok (.iload_n 2, 1) := by decide +kernel
theorem dX1_makespanIfMoved_34 : decode cX1_makespanIfMoved 34 = .ok (.invokevirtual 79, 3) := by decide +kernel
theorem dX1_makespanIfMoved_37 : decode cX1_makespanIfMoved 37 = .ok (.aload_n 0, 1) := by decide +kernel
theorem dX1_makespanIfMoved_38 : decode cX1_makespanIfMoved 38 = .ok (.iconst 0, 1) := by decide +kernel
theorem dX1_makespanIfMoved_39 : decode cX1_makespanIfMoved 39 = .ok (.aload_n 0, 1) := by decide +kernel
theorem dX1_makespanIfMoved_40 : decode cX1_makespanIfMoved 40 = .ok (.getfield 26, 3) := by decide +kernel
theorem dX1_makespanIfMoved_43 : decode cX1_makespanIfMoved 43 = .ok (.aload_n 0, 1) := by decide +kernel
theorem dX1_makespanIfMoved_44 : decode cX1_makespanIfMoved 44 = .ok (.getfield 35, 3) := by decide +kernel
theorem dX1_makespanIfMoved_47 : decode cX1_makespanIfMoved 47 = .ok (.invokevirtual 69, 3) := by decide +kernel
theorem dX1_makespanIfMoved_50 : decode cX1_makespanIfMoved 50 = .ok (.ireturn, 1) := by decide +kernel
set_option maxRecDepth 20000 in
theorem ggX1_isAhead_X1_timeOf : GoodIn wsX1_isAhead wsX1_timeOf := goodIn_r _ [5, 6, 7, 8, 9, 10, 11, 12, 13, 14, 15, 16] (by decide +kernel) (by decide +kernel)
set_option maxRecDepth 20000 in
theorem gX1_isAhead_X1_timeOf : GoodIn wsX1_isAhead (wsV RX1 46 RX1 yX1_timeOf wsX1_timeOf) := goodIn_app (goodIn_of _ (by decide +kernel)) ggX1_isAhead_X1_timeOf
theorem dX1_isAhead_0 : decode cX1_isAhead 0 = .ok (.aload_n 0, 1) := by decide +kernel
theorem dX1_isAhead_1 : decode cX1_isAhead 1 = .ok (.iload_n 1, 1) := by decide +kernel
theorem dX1_isAhead_2 : decode cX1_isAhead 2 = .ok (.iconst 0, 1) := by decide +kernel
theorem dX1_isAhead_3 : decode cX1_isAhead 3 = .ok (.invokevirtual 46, 3) := by decide +kernel
theorem dX1_isAhead_6 : decode cX1_isAhead 6 = .ok (.aload_n 0, 1) := by decide +kernel
theorem dX1_isAhead_7 : decode cX1_isAhead 7 = .ok (.iload_n 1, 1) := by decide +kernel
theorem dX1_isAhead_8 : decode cX1_isAhead 8 = .ok (.iconst 1, 1) := by decide +kernel
theorem dX1_isAhead_9 : decode cX1_isAhead 9 = .ok (.invokevirtual 46, 3) := by decide +kernel
theorem dX1_isAhead_12 : decode cX1_isAhead 12 = .ok (.if_icmp .gt 7, 3) := by decide +kernel
theorem dX1_isAhead_15 : decode cX1_isAhead 15 = .ok (.iconst 1, 1) := by decide +kernel
theorem dX1_isAhead_16 : decode cX1_isAhead 16 = .ok (.goto 4, 3) := by decide +kernel
theorem dX1_isAhead_19 : decode cX1_isAhead 19 = .ok (.iconst 0, 1) := by decide +kernel
theorem dX1_isAhead_20 : decode cX1_isAhead 20 = .ok (.istore_n 3, 1) := by decide +kernel
theorem dX1_isAhead_21 : decode cX1_isAhead 21 = .ok (.aload_n 0, 1) := by decide +kernel
theorem dX1_isAhead_22 : decode cX1_isAhead 22 = .ok (.iload_n 2, 1) := by decide +kernel
theorem dX1_isAhead_23 : decode cX1_isAhead 23 = .ok (.iconst 0, 1) := by decide +kernel
theorem dX1_isAhead_24 : decode cX1_isAhead 24 = .ok (.invokevirtual 46, 3) := by decide +kernel
theorem dX1_isAhead_27 : decode cX1_isAhead 27 = .ok (.aload_n 0, 1) := by decide +kernel
theorem dX1_isAhead_28 : decode cX1_isAhead 28 = .ok (.iload_n 2, 1) := by decide +kernel
theorem dX1_isAhead_29 : decode cX1_isAhead 29 = .ok (.iconst 1, 1) := by decide +kernel
theorem dX1_isAhead_30 : decode cX1_isAhead 30 = .ok (.invokevirtual 46, 3) := by decide +kernel
theorem dX1_isAhead_33 : decode cX1_isAhead 33 = .ok (.if_icmp .gt 7, 3) := by decide +kernel
theorem dX1_isAhead_36 : decode cX1_isAhead 36 = .ok (.iconst 1, 1) := by decide +kernel
theorem dX1_isAhead_37 : decode cX1_isAhead 37 = .ok (.goto 4, 3) := by decide +kernel
theorem dX1_isAhead_40 : decode cX1_isAhead 40 = .ok (.iconst 0, 1) := by decide +kernel
theorem dX1_isAhead_41 : decode cX1_isAhead 41 = .ok (.istore 4, 2) := by decide +kernel
theorem dX1_isAhead_43 : decode cX1_isAhead 43 = .ok (.iload_n 3, 1) := by decide +kernel
theorem dX1_isAhead_44 : decode cX1_isAhead 44 = .ok (.ifCond .eq 12, 3) := by decide +kernel
theorem dX1_isAhead_47 : decode cX1_isAhead 47 = .ok (.aload_n 0, 1) := by decide +kernel
theorem dX1_isAhead_48 : decode cX1_isAhead 48 = .ok (.iload_n 1, 1) := by decide +kernel
theorem dX1_isAhead_49 : decode cX1_isAhead 49 = .ok (.iconst 0, 1) := by decide +kernel
theorem dX1_isAhead_50 : decode cX1_isAhead 50 = .ok (.invokevirtual 46, 3) := by decide +kernel
theorem dX1_isAhead_53 : decode cX1_isAhead 53 = .ok (.goto 10, 3) := by decide +kernel
theorem dX1_isAhead_56 : decode cX1_isAhead 56 = .ok (.aload_n 0, 1) := by decide +kernel
theorem dX1_isAhead_57 : decode cX1_isAhead 57 = .ok (.iload_n 1, 1) := by decide +kernel
theorem dX1_isAhead_58 : decode cX1_isAhead 58 = .ok (.iconst 1, 1) := by decide +kernel
theorem dX1_isAhead_59 : decode cX1_isAhead 59 = .ok (.invokevirtual 46, 3) := by decide +kernel
theorem dX1_isAhead_62 : decode cX1_isAhead 62 = .ok (.ineg, 1) := by decide +kernel
theorem dX1_isAhead_63 : decode cX1_isAhead 63 = .ok (.istore 5, 2) := by decide +kernel
theorem dX1_isAhead_65 : decode cX1_isAhead 65 = .ok (.iload 4, 2) := by decide +kernel
theorem dX1_isAhead_67 : decode cX1_isAhead 67 = .ok (.ifCond .eq 12, 3) := by decide +kernel
theorem dX1_isAhead_70 : decode cX1_isAhead 70 = .ok (.aload_n 0, 1) := by decide +kernel
theorem dX1_isAhead_71 : decode cX1_isAhead 71 = .ok (.iload_n 2, 1) := by decide +kernel
theorem dX1_isAhead_72 : decode cX1_isAhead 72 = .ok (.iconst 0, 1) := by decide +kernel
theorem dX1_isAhead_73 : decode cX1_isAhead 73 = .ok (.invokevirtual 46, 3) := by decide +kernel
theorem dX1_isAhead_76 : decode cX1_isAhead 76 = .ok (.goto 10, 3) := by decide +kernel
theorem dX1_isAhead_79 : decode cX1_isAhead 79 = .ok (.aload_n 0, 1) := by decide +kernel
theorem dX1_isAhead_80 : decode cX1_isAhead 80 = .ok (.iload_n 2, 1) := by decide +kernel
theorem dX1_isAhead_81 : decode cX1_isAhead 81 = .ok (.iconst 1, 1) := by decide +kernel
theorem dX1_isAhead_82 : decode cX1_isAhead 82 = .ok (.invokevirtual 46, 3) := by decide +kernel
theorem dX1_isAhead_85 : decode cX1_isAhead 85 = .ok (.ineg, 1) := by decide +kernel
theorem dX1_isAhead_86 : decode cX1_isAhead 86 = .ok (.istore 6, 2) := by decide +kernel
theorem dX1_isAhead_88 : decode cX1_isAhead 88 = .ok (.iload 5, 2) := by decide +kernel
theorem dX1_isAhead_90 : decode cX1_isAhead 90 = .ok (.iload 6, 2) := by decide +kernel
theorem dX1_isAhead_92 : decode cX1_isAhead 92 = .ok (.if_icmp .lt 15, 3) := by decide +kernel
theorem dX1_isAhead_95 : decode cX1_isAhead 95 = .ok (.iload 5, 2) := by decide +kernel
theorem dX1_isAhead_97 : decode cX1_isAhead 97 = .ok (.iload 6, 2) := by decide +kernel
theorem dX1_isAhead_99 : decode cX1_isAhead 99 = .ok (.if_icmp .ne 12, 3) := by decide +kernel
theorem dX1_isAhead_102 : decode cX1_isAhead 102 = .ok (.iload_n 1, 1) := by decide +kernel
theorem dX1_isAhead_103 : decode cX1_isAhead 103 = .ok (.iload_n 2, 1) := by decide +kernel
theorem dX1_isAhead_104 : decode cX1_isAhead 104 = .ok (.if_icmp .ge 7, 3) := by decide +kernel
theorem dX1_isAhead_107 : decode cX1_isAhead 107 = .ok (.iconst 1, 1) := by decide +kernel
theorem dX1_isAhead_108 : decode cX1_isAhead 108 = .ok (.goto 4, 3) := by decide +kernel
theorem dX1_isAhead_111 : decode cX1_isAhead 111 = .ok (.iconst 0, 1) := by decide +kernel
theorem dX1_isAhead_112 : decode cX1_isAhead 112 = .ok (.istore 7, 2) := by decide +kernel
theorem dX1_isAhead_114 : decode cX1_isAhead 114 = .ok (.iload_n 3, 1) := by decide +kernel
theorem dX1_isAhead_115 : decode cX1_isAhead 115 = .ok (.iload 4, 2) := by decide +kernel
theorem dX1_isAhead_117 : decode cX1_isAhead 117 = .ok (.if_icmp .ne 8, 3) := by decide +kernel
theorem dX1_isAhead_120 : decode cX1_isAhead 120 = .ok (.iload 7, 2) := by decide +kernel
theorem dX1_isAhead_122 : decode cX1_isAhead 122 = .ok (.goto 4, 3) := by decide +kernel
theorem dX1_isAhead_125 : decode cX1_isAhead 125 = .ok (.iload_n 3, 1) := by decide +kernel
theorem dX1_isAhead_126 : decode cX1_isAhead 126 = .ok (.ireturn, 1) := by decide +kernel
set_option maxRecDepth 20000 in
theorem ggX1_orderByRule_X1_isAhead : GoodIn wsX1_orderByRule wsX1_isAhead := goodIn_r _ [9, 10, 11, 12, 8, 13, 14, 40, 41, 42, 43, 44, 45, 46, 47, 48, 49] (by decide +kernel) (by decide +kernel)
set_option maxRecDepth 20000 in
theorem gX1_orderByRule_X1_isAhead : GoodIn wsX1_orderByRule (wsV RX1 86 RX1 yX1_isAhead wsX1_isAhead) := goodIn_app (goodIn_of _ (by decide +kernel)) ggX1_orderByRule_X1_isAhead
set_option maxRecDepth 20000 in
theorem ggX1_orderByRule_X1_plain : GoodIn wsX1_orderByRule wsX1_plain := goodIn_r _ [18, 4, 3, 19, 20, 21, 8, 22, 1, 23, 24, 25, 26, 27, 28, 29, 30, 31, 32, 33, 34, 35, 10, 11, 12, 13, 14, 36, 37, 38, 39, 40, 41, 42, 43, 44, 45, 46, 47, 48, 49] (by decide +kernel) (by decide +kernel)
set_option maxRecDepth 20000 in
theorem gX1_orderByRule_X1_plain : GoodIn wsX1_orderByRule (wsV RX1 89 RX1 yX1_plain wsX1_plain) := goodIn_app (goodIn_of _ (by decide +kernel)) ggX1_orderByRule_X1_plain
theorem dX1_orderByRule_0 : decode cX1_orderByRule 0 = .ok (.aload_n 0, 1) := by decide +kernel
theorem dX1_orderByRule_1 : decode cX1_orderByRule 1 = .ok (.aload_n 0, 1) := by decide +kernel
theorem dX1_orderByRule_2 : decode cX1_orderByRule 2 = .ok (.getfield 7, 3) := by decide +kernel
theorem dX1_orderByRule_5 : decode cX1_orderByRule 5 = .ok (.iconst 2, 1) := by decide +kernel
theorem dX1_orderByRule_6 : decode cX1_orderByRule 6 = .ok (.if_icmp .ne 7, 3) := by decide +kernel
theorem dX1_orderByRule_9 : decode cX1_orderByRule 9 = .ok (.iconst 0, 1) := by decide +kernel
theorem dX1_orderByRule_10 : decode cX1_orderByRule 10 = .ok (.goto 4, 3) := by decide +kernel
theorem dX1_orderByRule_13 : decode cX1_orderByRule 13 = .ok (.iconst 1, 1) := by decide +kernel
theorem dX1_orderByRule_14 : decode cX1_orderByRule 14 = .ok (.putfield 32, 3) := by decide +kernel
theorem dX1_orderByRule_17 : decode cX1_orderByRule 17 = .ok (.aload_n 0, 1) := by decide +kernel
theorem dX1_orderByRule_18 : decode cX1_orderByRule 18 = .ok (.getfield 32, 3) := by decide +kernel
theorem dX1_orderByRule_21 : decode cX1_orderByRule 21 = .ok (.ifCond .le 5, 3) := by decide +kernel
theorem dX1_orderByRule_24 : decode cX1_orderByRule 24 = .ok (.iconst 0, 1) := by decide +kernel
theorem dX1_orderByRule_25 : decode cX1_orderByRule 25 = .ok (.ireturn, 1) := by decide +kernel
theorem dX1_orderByRule_26 : decode cX1_orderByRule 26 = .ok (.iconst 0, 1) := by decide +kernel
theorem dX1_orderByRule_27 : decode cX1_orderByRule 27 = .ok (.istore_n 1, 1) := by decide +kernel
theorem dX1_orderByRule_28 : decode cX1_orderByRule 28 = .ok (.iload_n 1, 1) := by decide +kernel
theorem dX1_orderByRule_29 : decode cX1_orderByRule 29 = .ok (.aload_n 0, 1) := by decide +kernel
theorem dX1_orderByRule_30 : decode cX1_orderByRule 30 = .ok (.getfield 35, 3) := by decide +kernel
theorem dX1_orderByRule_33 : decode cX1_orderByRule 33 = .ok (.if_icmp .ge 56, 3) := by decide +kernel
theorem dX1_orderByRule_36 : decode cX1_orderByRule 36 = .ok (.iconst 0, 1) := by decide +kernel
theorem dX1_orderByRule_37 : decode cX1_orderByRule 37 = .ok (.istore_n 2, 1) := by decide +kernel
theorem dX1_orderByRule_38 : decode cX1_orderByRule 38 = .ok (.iconst 0, 1) := by decide +kernel
theorem dX1_orderByRule_39 : decode cX1_orderByRule 39 = .ok (.istore_n 3, 1) := by decide +kernel
theorem dX1_orderByRule_40 : decode cX1_orderByRule 40 = .ok (.iload_n 3, 1) := by decide +kernel
theorem dX1_orderByRule_41 : decode cX1_orderByRule 41 = .ok (.aload_n 0, 1) := by decide +kernel
theorem dX1_orderByRule_42 : decode cX1_orderByRule 42 = .ok (.getfield 35, 3) := by decide +kernel
theorem dX1_orderByRule_45 : decode cX1_orderByRule 45 = .ok (.if_icmp .ge 31, 3) := by decide +kernel
theorem dX1_orderByRule_48 : decode cX1_orderByRule 48 = .ok (.iload_n 2, 1) := by decide +kernel
theorem dX1_orderByRule_49 : decode cX1_orderByRule 49 = .ok (.iload_n 3, 1) := by decide +kernel
theorem dX1_orderByRule_50 : decode cX1_orderByRule 50 = .ok (.iload_n 1, 1) := by decide +kernel
theorem dX1_orderByRule_51 : decode cX1_orderByRule 51 = .ok (.if_icmp .eq 16, 3) := by decide +kernel
theorem dX1_orderByRule_54 : decode cX1_orderByRule 54 = .ok (.aload_n 0, 1) := by decide +kernel
theorem dX1_orderByRule_55 : decode cX1_orderByRule 55 = .ok (.iload_n 3, 1) := by decide +kernel
theorem dX1_orderByRule_56 : decode cX1_orderByRule 56 = .ok (.iload_n 1, 1) := by decide +kernel
theorem dX1_orderByRule_57 : decode cX1_orderByRule 57 = .ok (.invokevirtual 86, 3) := by decide +kernel
theorem dX1_orderByRule_60 : decode cX1_orderByRule 60 = .ok (.ifCond .eq 7, 3) := by decide +kernel
theorem dX1_orderByRule_63 : decode cX1_orderByRule 63 = .ok (.iconst 1, 1) := by decide +kernel
theorem dX1_orderByRule_64 : decode cX1_orderByRule 64 = .ok (.goto 4, 3) := by decide +kernel
theorem dX1_orderByRule_67 : decode cX1_orderByRule 67 = .ok (.iconst 0, 1) := by decide +kernel
theorem dX1_orderByRule_68 : decode cX1_orderByRule 68 = .ok (.iadd, 1) := by decide +kernel
theorem dX1_orderByRule_69 : decode cX1_orderByRule 69 = .ok (.istore_n 2, 1) := by decide +kernel
theorem dX1_orderByRule_70 : decode cX1_orderByRule 70 = .ok (.iinc 3 1, 3) := by decide +kernel
theorem dX1_orderByRule_73 : decode cX1_orderByRule 73 = .ok (.goto (-33), 3) := by decide +kernel
theorem dX1_orderByRule_76 : decode cX1_orderByRule 76 = .ok (.aload_n 0, 1) := by decide +kernel
theorem dX1_orderByRule_77 : decode cX1_orderByRule 77 = .ok (.getfield 17, 3) := by decide +kernel
theorem dX1_orderByRule_80 : decode cX1_orderByRule 80 = .ok (.iload_n 2, 1) := by decide +kernel
theorem dX1_orderByRule_81 : decode cX1_orderByRule 81 = .ok (.iload_n 1, 1) := by decide +kernel
theorem dX1_orderByRule_82 : decode cX1_orderByRule 82 = .ok (.iastore, 1) := by decide +kernel
theorem dX1_orderByRule_83 : decode cX1_orderByRule 83 = .ok (.iinc 1 1, 3) := by decide +kernel
theorem dX1_orderByRule_86 : decode cX1_orderByRule 86 = .ok (.goto (-58), 3) := by decide +kernel
theorem dX1_orderByRule_89 : decode cX1_orderByRule 89 = .ok (.aload_n 0, 1) := by decide +kernel
theorem dX1_orderByRule_90 : decode cX1_orderByRule 90 = .ok (.invokevirtual 89, 3) := by decide +kernel
theorem dX1_orderByRule_93 : decode cX1_orderByRule 93 = .ok (.ireturn, 1) := by decide +kernel
set_option maxRecDepth 20000 in
theorem ggX1_sumOf_X1_timeOf : GoodIn wsX1_sumOf wsX1_timeOf := goodIn_r _ [5, 6, 7, 8, 9, 10, 11, 12, 13, 14, 15, 16] (by decide +kernel) (by decide +kernel)
set_option maxRecDepth 20000 in
theorem gX1_sumOf_X1_timeOf : GoodIn wsX1_sumOf (wsV RX1 46 RX1 yX1_timeOf wsX1_timeOf) := goodIn_app (goodIn_of _ (by decide +kernel)) ggX1_sumOf_X1_timeOf
theorem dX1_sumOf_0 : decode cX1_sumOf 0 = .ok (.iconst 0, 1) := by decide +kernel
theorem dX1_sumOf_1 : decode cX1_sumOf 1 = .ok (.istore 4, 2) := by decide +kernel
theorem dX1_sumOf_3 : decode cX1_sumOf 3 = .ok (.iload_n 2, 1) := by decide +kernel
theorem dX1_sumOf_4 : decode cX1_sumOf 4 = .ok (.istore 5, 2) := by decide +kernel
theorem dX1_sumOf_6 : decode cX1_sumOf 6 = .ok (.iload 5, 2) := by decide +kernel
theorem dX1_sumOf_8 : decode cX1_sumOf 8 = .ok (.iload_n 3, 1) := by decide +kernel
theorem dX1_sumOf_9 : decode cX1_sumOf 9 = .ok (.if_icmp .ge 21, 3) := by decide +kernel
theorem dX1_sumOf_12 : decode cX1_sumOf 12 = .ok (.iload 4, 2) := by decide +kernel
theorem dX1_sumOf_14 : decode cX1_sumOf 14 = .ok (.aload_n 0, 1) := by decide +kernel
theorem dX1_sumOf_15 : decode cX1_sumOf 15 = .ok (.iload_n 1, 1) := by decide +kernel
theorem dX1_sumOf_16 : decode cX1_sumOf 16 = .ok (.iload 5, 2) := by decide +kernel
theorem dX1_sumOf_18 : decode cX1_sumOf 18 = .ok (.invokevirtual 46, 3) := by decide +kernel
theorem dX1_sumOf_21 : decode cX1_sumOf 21 = .ok (.iadd, 1) := by decide +kernel
theorem dX1_sumOf_22 : decode cX1_sumOf 22 = .ok (.istore 4, 2) := by decide +kernel
theorem dX1_sumOf_24 : decode cX1_sumOf 24 = .ok (.iinc 5 1, 3) := by decide +kernel
theorem dX1_sumOf_27 : decode cX1_sumOf 27 = .ok (.goto (-21), 3) := by decide +kernel
theorem dX1_sumOf_30 : decode cX1_sumOf 30 = .ok (.iload 4, 2) := by decide +kernel
theorem dX1_sumOf_32 : decode cX1_sumOf 32 = .ok (.ireturn, 1) := by decide +kernel
set_option maxRecDepth 20000 in
theorem ggX1_bySum_X1_sumOf : GoodIn wsX1_bySum wsX1_sumOf := goodIn_r _ [7, 8, 9, 10, 6, 11, 12, 13, 14, 15, 16, 17, 18, 19, 20, 21, 22] (by decide +kernel) (by decide +kernel)
set_option maxRecDepth 20000 in
theorem gX1_bySum_X1_sumOf : GoodIn wsX1_bySum (wsV RX1 93 RX1 yX1_sumOf wsX1_sumOf) := goodIn_app (goodIn_of _ (by decide +kernel)) ggX1_bySum_X1_sumOf
theorem dX1_bySum_0 : decode cX1_bySum 0 = .ok (.iconst 0, 1) := by decide +kernel
theorem dX1_bySum_1 : decode cX1_bySum 1 = .ok (.istore_n 2, 1) := by decide +kernel
theorem dX1_bySum_2 : decode cX1_bySum 2 = .ok (.iconst 0, 1) := by decide +kernel
theorem dX1_bySum_3 : decode cX1_bySum 3 = .ok (.istore_n 3, 1) := by decide +kernel
theorem dX1_bySum_4 : decode cX1_bySum 4 = .ok (.iload_n 3, 1) := by decide +kernel
theorem dX1_bySum_5 : decode cX1_bySum 5 = .ok (.aload_n 0, 1) := by decide +kernel
theorem dX1_bySum_6 : decode cX1_bySum 6 = .ok (.getfield 35, 3) := by decide +kernel
theorem dX1_bySum_9 : decode cX1_bySum 9 = .ok (.if_icmp .ge 92, 3) := by decide +kernel
theorem dX1_bySum_12 : decode cX1_bySum 12 = .ok (.iconst 0, 1) := by decide +kernel
theorem dX1_bySum_13 : decode cX1_bySum 13 = .ok (.istore 4, 2) := by decide +kernel
theorem dX1_bySum_15 : decode cX1_bySum 15 = .ok (.iconst 0, 1) := by decide +kernel
theorem dX1_bySum_16 : decode cX1_bySum 16 = .ok (.istore 5, 2) := by decide +kernel
theorem dX1_bySum_18 : decode cX1_bySum 18 = .ok (.iload 5, 2) := by decide +kernel
theorem dX1_bySum_20 : decode cX1_bySum 20 = .ok (.aload_n 0, 1) := by decide +kernel
theorem dX1_bySum_21 : decode cX1_bySum 21 = .ok (.getfield 35, 3) := by decide +kernel
theorem dX1_bySum_24 : decode cX1_bySum 24 = .ok (.if_icmp .ge 59, 3) := by decide +kernel
theorem dX1_bySum_27 : decode cX1_bySum 27 = .ok (.aload_n 0, 1) := by decide +kernel
theorem dX1_bySum_28 : decode cX1_bySum 28 = .ok (.iload 5, 2) := by decide +kernel
theorem dX1_bySum_30 : decode cX1_bySum 30 = .ok (.iconst 0, 1) := by decide +kernel
theorem dX1_bySum_31 : decode cX1_bySum 31 = .ok (.aload_n 0, 1) := by decide +kernel
theorem dX1_bySum_32 : decode cX1_bySum 32 = .ok (.getfield 7, 3) := by decide +kernel
theorem dX1_bySum_35 : decode cX1_bySum 35 = .ok (.invokevirtual 93, 3) := by decide +kernel
theorem dX1_bySum_38 : decode cX1_bySum 38 = .ok (.aload_n 0, 1) := by decide +kernel
theorem dX1_bySum_39 : decode cX1_bySum 39 = .ok (.iload_n 3, 1) := by decide +kernel
theorem dX1_bySum_40 : decode cX1_bySum 40 = .ok (.iconst 0, 1) := by decide +kernel
theorem dX1_bySum_41 : decode cX1_bySum 41 = .ok (.aload_n 0, 1) := by decide +kernel
theorem dX1_bySum_42 : decode cX1_bySum 42 = .ok (.getfield 7, 3) := by decide +kernel
theorem dX1_bySum_45 : decode cX1_bySum 45 = .ok (.invokevirtual 93, 3) := by decide +kernel
theorem dX1_bySum_48 : decode cX1_bySum 48 = .ok (.isub, 1) := by decide +kernel
theorem dX1_bySum_49 : decode cX1_bySum 49 = .ok (.istore 6, 2) := by decide +kernel
theorem dX1_bySum_51 : decode cX1_bySum 51 = .ok (.iload 4, 2) := by decide +kernel
theorem dX1_bySum_53 : decode cX1_bySum 53 = .ok (.iload 6, 2) := by decide +kernel
theorem dX1_bySum_55 : decode cX1_bySum 55 = .ok (.ifCond .gt 14, 3) := by decide +kernel
theorem dX1_bySum_58 : decode cX1_bySum 58 = .ok (.iload 6, 2) := by decide +kernel
theorem dX1_bySum_60 : decode cX1_bySum 60 = .ok (.ifCond .ne 13, 3) := by decide +kernel
theorem dX1_bySum_63 : decode cX1_bySum 63 = .ok (.iload 5, 2) := by decide +kernel
theorem dX1_bySum_65 : decode cX1_bySum 65 = .ok (.iload_n 3, 1) := by decide +kernel
theorem dX1_bySum_66 : decode cX1_bySum 66 = .ok (.if_icmp .ge 7, 3) := by decide +kernel
theorem dX1_bySum_69 : decode cX1_bySum 69 = .ok (.iconst 1, 1) := by decide +kernel
theorem dX1_bySum_70 : decode cX1_bySum 70 = .ok (.goto 4, 3) := by decide +kernel
theorem dX1_bySum_73 : decode cX1_bySum 73 = .ok (.iconst 0, 1) := by decide +kernel
theorem dX1_bySum_74 : decode cX1_bySum 74 = .ok (.iadd, 1) := by decide +kernel
theorem dX1_bySum_75 : decode cX1_bySum 75 = .ok (.istore 4, 2) := by decide +kernel
theorem dX1_bySum_77 : decode cX1_bySum 77 = .ok (.iinc 5 1, 3) := by decide +kernel
theorem dX1_bySum_80 : decode cX1_bySum 80 = .ok (.goto (-62), 3) := by decide +kernel
theorem dX1_bySum_83 : decode cX1_bySum 83 = .ok (.iload 4, 2) := by decide +kernel
theorem dX1_bySum_85 : decode cX1_bySum 85 = .ok (.iload_n 1, 1) := by decide +kernel
theorem dX1_bySum_86 : decode cX1_bySum 86 = .ok (.if_icmp .ne 7, 3) := by decide +kernel
theorem dX1_bySum_89 : decode cX1_bySum 89 = .ok (.iload_n 3, 1) := by decide +kernel
theorem dX1_bySum_90 : decode cX1_bySum 90 = .ok (.goto 4, 3) := by decide +kernel
theorem dX1_bySum_93 : decode cX1_bySum 93 = .ok (.iload_n 2, 1) := by decide +kernel
theorem dX1_bySum_94 : decode cX1_bySum 94 = .ok (.istore_n 2, 1) := by decide +kernel
theorem dX1_bySum_95 : decode cX1_bySum 95 = .ok (.iinc 3 1, 3) := by decide +kernel
theorem dX1_bySum_98 : decode cX1_bySum 98 = .ok (.goto (-94), 3) := by decide +kernel
theorem dX1_bySum_101 : decode cX1_bySum 101 = .ok (.iload_n 2, 1) := by decide +kernel
theorem dX1_bySum_102 : decode cX1_bySum 102 = .ok (.ireturn, 1) := by decide +kernel
theorem dX1_puts_0 : decode cX1_puts 0 = .ok (.iload_n 3, 1) := by decide +kernel
theorem dX1_puts_1 : decode cX1_puts 1 = .ok (.istore 4, 2) := by decide +kernel
theorem dX1_puts_3 : decode cX1_puts 3 = .ok (.iload 4, 2) := by decide +kernel
theorem dX1_puts_5 : decode cX1_puts 5 = .ok (.iload_n 2, 1) := by decide +kernel
theorem dX1_puts_6 : decode cX1_puts 6 = .ok (.if_icmp .le 25, 3) := by decide +kernel
theorem dX1_puts_9 : decode cX1_puts 9 = .ok (.aload_n 0, 1) := by decide +kernel
theorem dX1_puts_10 : decode cX1_puts 10 = .ok (.getfield 26, 3) := by decide +kernel
theorem dX1_puts_13 : decode cX1_puts 13 = .ok (.iload 4, 2) := by decide +kernel
theorem dX1_puts_15 : decode cX1_puts 15 = .ok (.aload_n 0, 1) := by decide +kernel
theorem dX1_puts_16 : decode cX1_puts 16 = .ok (.getfield 26, 3) := by decide +kernel
theorem dX1_puts_19 : decode cX1_puts 19 = .ok (.iload 4, 2) := by decide +kernel
theorem dX1_puts_21 : decode cX1_puts 21 = .ok (.iconst 1, 1) := by decide +kernel
theorem dX1_puts_22 : decode cX1_puts 22 = .ok (.isub, 1) := by decide +kernel
theorem dX1_puts_23 : decode cX1_puts 23 = .ok (.iaload, 1) := by decide +kernel
theorem dX1_puts_24 : decode cX1_puts 24 = .ok (.iastore, 1) := by decide +kernel
theorem dX1_puts_25 : decode cX1_puts 25 = .ok (.iinc 4 (-1), 3) := by decide +kernel
theorem dX1_puts_28 : decode cX1_puts 28 = .ok (.goto (-25), 3) := by decide +kernel
theorem dX1_puts_31 : decode cX1_puts 31 = .ok (.aload_n 0, 1) := by decide +kernel
theorem dX1_puts_32 : decode cX1_puts 32 = .ok (.getfield 26, 3) := by decide +kernel
theorem dX1_puts_35 : decode cX1_puts 35 = .ok (.iload_n 2, 1) := by decide +kernel
theorem dX1_puts_36 : decode cX1_puts 36 = .ok (.iload_n 1, 1) := by decide +kernel
theorem dX1_puts_37 : decode cX1_puts 37 = .ok (.iastore, 1) := by decide +kernel
theorem dX1_puts_38 : decode cX1_puts 38 = .ok (.return_, 1) := by decide +kernel
theorem dX1_takesOut_0 : decode cX1_takesOut 0 = .ok (.iload_n 1, 1) := by decide +kernel
theorem dX1_takesOut_1 : decode cX1_takesOut 1 = .ok (.istore_n 3, 1) := by decide +kernel
theorem dX1_takesOut_2 : decode cX1_takesOut 2 = .ok (.iload_n 3, 1) := by decide +kernel
theorem dX1_takesOut_3 : decode cX1_takesOut 3 = .ok (.iload_n 2, 1) := by decide +kernel
theorem dX1_takesOut_4 : decode cX1_takesOut 4 = .ok (.if_icmp .ge 23, 3) := by decide +kernel
theorem dX1_takesOut_7 : decode cX1_takesOut 7 = .ok (.aload_n 0, 1) := by decide +kernel
theorem dX1_takesOut_8 : decode cX1_takesOut 8 = .ok (.getfield 26, 3) := by decide +kernel
theorem dX1_takesOut_11 : decode cX1_takesOut 11 = .ok (.iload_n 3, 1) := by decide +kernel
theorem dX1_takesOut_12 : decode cX1_takesOut 12 = .ok (.aload_n 0, 1) := by decide +kernel
theorem dX1_takesOut_13 : decode cX1_takesOut 13 = .ok (.getfield 26, 3) := by decide +kernel
theorem dX1_takesOut_16 : decode cX1_takesOut 16 = .ok (.iload_n 3, 1) := by decide +kernel
theorem dX1_takesOut_17 : decode cX1_takesOut 17 = .ok (.iconst 1, 1) := by decide +kernel
theorem dX1_takesOut_18 : decode cX1_takesOut 18 = .ok (.iadd, 1) := by decide +kernel
theorem dX1_takesOut_19 : decode cX1_takesOut 19 = .ok (.iaload, 1) := by decide +kernel
theorem dX1_takesOut_20 : decode cX1_takesOut 20 = .ok (.iastore, 1) := by decide +kernel
theorem dX1_takesOut_21 : decode cX1_takesOut 21 = .ok (.iinc 3 1, 3) := by decide +kernel
theorem dX1_takesOut_24 : decode cX1_takesOut 24 = .ok (.goto (-22), 3) := by decide +kernel
theorem dX1_takesOut_27 : decode cX1_takesOut 27 = .ok (.return_, 1) := by decide +kernel
set_option maxRecDepth 20000 in
theorem ggX1_orderByInsertion_X1_bySum : GoodIn wsX1_orderByInsertion wsX1_bySum := goodIn_r _ [9, 2, 10, 11, 12, 13, 8, 14, 15, 16, 17, 18, 19, 58, 59, 60, 61, 62, 63, 64, 65, 66, 67] (by decide +kernel) (by decide +kernel)
set_option maxRecDepth 20000 in
theorem gX1_orderByInsertion_X1_bySum : GoodIn wsX1_orderByInsertion (wsV RX1 97 RX1 yX1_bySum wsX1_bySum) := goodIn_app (goodIn_of _ (by decide +kernel)) ggX1_orderByInsertion_X1_bySum
set_option maxRecDepth 20000 in
theorem ggX1_orderByInsertion_X1_puts : GoodIn wsX1_orderByInsertion wsX1_puts := goodIn_r _ [23, 4, 58, 59, 60, 61, 62, 63, 64, 65, 66, 67] (by decide +kernel) (by decide +kernel)
set_option maxRecDepth 20000 in
theorem gX1_orderByInsertion_X1_puts : GoodIn wsX1_orderByInsertion (wsV RX1 101 RX1 yX1_puts wsX1_puts) := goodIn_app (goodIn_of _ (by decide +kernel)) ggX1_orderByInsertion_X1_puts
set_option maxRecDepth 20000 in
theorem ggX1_orderByInsertion_X1_lays : GoodIn wsX1_orderByInsertion wsX1_lays := goodIn_r _ [27, 10, 28, 29, 30, 31, 8, 32, 33, 34, 35, 36, 37, 38, 39, 40, 15, 16, 17, 18, 19, 41, 42, 43, 44, 58, 59, 60, 61, 62, 63, 64, 65, 66, 67] (by decide +kernel) (by decide +kernel)
set_option maxRecDepth 20000 in
theorem gX1_orderByInsertion_X1_lays : GoodIn wsX1_orderByInsertion (wsV RX1 69 RX1 yX1_lays wsX1_lays) := goodIn_app (goodIn_of _ (by decide +kernel)) ggX1_orderByInsertion_X1_lays
set_option maxRecDepth 20000 in
theorem ggX1_orderByInsertion_X1_takesOut : GoodIn wsX1_orderByInsertion wsX1_takesOut := goodIn_r _ [48, 4, 58, 59, 60, 61, 62, 63, 64, 65, 66, 67] (by decide +kernel) (by decide +kernel)
set_option maxRecDepth 20000 in
theorem gX1_orderByInsertion_X1_takesOut : GoodIn wsX1_orderByInsertion (wsV RX1 105 RX1 yX1_takesOut wsX1_takesOut) := goodIn_app (goodIn_of _ (by decide +kernel)) ggX1_orderByInsertion_X1_takesOut
set_option maxRecDepth 20000 in
theorem ggX1_orderByInsertion_X1_takesTrial : GoodIn wsX1_orderByInsertion wsX1_takesTrial := goodIn_r _ [52, 2, 53, 4, 58, 59, 60, 61, 62, 63, 64, 65, 66, 67] (by decide +kernel) (by decide +kernel)
set_option maxRecDepth 20000 in
theorem gX1_orderByInsertion_X1_takesTrial : GoodIn wsX1_orderByInsertion (wsV RX1 83 RX1 yX1_takesTrial wsX1_takesTrial) := goodIn_app (goodIn_of _ (by decide +kernel)) ggX1_orderByInsertion_X1_takesTrial
set_option maxRecDepth 20000 in
theorem ggX1_orderByInsertion_X1_plain : GoodIn wsX1_orderByInsertion wsX1_plain := goodIn_r _ [57, 53, 2, 24, 25, 26, 8, 27, 10, 28, 29, 30, 31, 32, 33, 34, 35, 36, 37, 38, 39, 40, 15, 16, 17, 18, 19, 41, 42, 43, 44, 58, 59, 60, 61, 62, 63, 64, 65, 66, 67] (by decide +kernel) (by decide +kernel)
set_option maxRecDepth 20000 in
theorem gX1_orderByInsertion_X1_plain : GoodIn wsX1_orderByInsertion (wsV RX1 89 RX1 yX1_plain wsX1_plain) := goodIn_app (goodIn_of _ (by decide +kernel)) ggX1_orderByInsertion_X1_plain
theorem dX1_orderByInsertion_0 : decode cX1_orderByInsertion 0 = .ok (.aload_n 0, 1) := by decide +kernel
theorem dX1_orderByInsertion_1 : decode cX1_orderByInsertion 1 = .ok (.iconst 0, 1) := by decide +kernel
theorem dX1_orderByInsertion_2 : decode cX1_orderByInsertion 2 = .ok (.putfield 32, 3) := by decide +kernel
theorem dX1_orderByInsertion_5 : decode cX1_orderByInsertion 5 = .ok (.iconst 0, 1) := by decide +kernel
theorem dX1_orderByInsertion_6 : decode cX1_orderByInsertion 6 = .ok (.istore_n 1, 1) := by decide +kernel
theorem dX1_orderByInsertion_7 : decode cX1_orderByInsertion 7 = .ok (.iload_n 1, 1) := by decide +kernel
theorem dX1_orderByInsertion_8 : decode cX1_orderByInsertion 8 = .ok (.aload_n 0, 1) := by decide +kernel
theorem dX1_orderByInsertion_9 : decode cX1_orderByInsertion 9 = .ok (.getfield 35, 3) := by decide +kernel
theorem dX1_orderByInsertion_12 : decode cX1_orderByInsertion 12 = .ok (.if_icmp .ge 102, 3) := by decide +kernel
theorem dX1_orderByInsertion_15 : decode cX1_orderByInsertion 15 = .ok (.aload_n 0, 1) := by decide +kernel
theorem dX1_orderByInsertion_16 : decode cX1_orderByInsertion 16 = .ok (.iload_n 1, 1) := by decide +kernel
theorem dX1_orderByInsertion_17 : decode cX1_orderByInsertion 17 = .ok (.invokevirtual 97, 3) := by decide +kernel
theorem dX1_orderByInsertion_20 : decode cX1_orderByInsertion 20 = .ok (.istore_n 2, 1) := by decide +kernel
theorem dX1_orderByInsertion_21 : decode cX1_orderByInsertion 21 = .ok (.iconst 0, 1) := by decide +kernel
theorem dX1_orderByInsertion_22 : decode cX1_orderByInsertion 22 = .ok (.istore_n 3, 1) := by decide +kernel
theorem dX1_orderByInsertion_23 : decode cX1_orderByInsertion 23 = .ok (.ldc 100, 2) := by decide +kernel
theorem dX1_orderByInsertion_25 : decode cX1_orderByInsertion 25 = .ok (.istore 4, 2) := by decide +kernel
theorem dX1_orderByInsertion_27 : decode cX1_orderByInsertion 27 = .ok (.iconst 0, 1) := by decide +kernel
theorem dX1_orderByInsertion_28 : decode cX1_orderByInsertion 28 = .ok (.istore 5, 2) := by decide +kernel
theorem dX1_orderByInsertion_30 : decode cX1_orderByInsertion 30 = .ok (.iload 5, 2) := by decide +kernel
theorem dX1_orderByInsertion_32 : decode cX1_orderByInsertion 32 = .ok (.iload_n 1, 1) := by decide +kernel
theorem dX1_orderByInsertion_33 : decode cX1_orderByInsertion 33 = .ok (.if_icmp .gt 68, 3) := by decide +kernel
theorem dX1_orderByInsertion_36 : decode cX1_orderByInsertion 36 = .ok (.aload_n 0, 1) := by decide +kernel
theorem dX1_orderByInsertion_37 : decode cX1_orderByInsertion 37 = .ok (.iload_n 2, 1) := by decide +kernel
theorem dX1_orderByInsertion_38 : decode cX1_orderByInsertion 38 = .ok (.iload 5, 2) := by decide +kernel
theorem dX1_orderByInsertion_40 : decode cX1_orderByInsertion 40 = .ok (.iload_n 1, 1) := by decide +kernel
theorem dX1_orderByInsertion_41 : decode cX1_orderByInsertion 41 = .ok (.invokevirtual 101, 3) := by decide +kernel
theorem dX1_orderByInsertion_44 : decode cX1_orderByInsertion 44 = .ok (.aload_n 0, 1) := by decide +kernel
theorem dX1_orderByInsertion_45 : decode cX1_orderByInsertion 45 = .ok (.iconst 0, 1) := by decide +kernel
theorem dX1_orderByInsertion_46 : decode cX1_orderByInsertion 46 = .ok (.aload_n 0, 1) := by decide +kernel
theorem dX1_orderByInsertion_47 : decode cX1_orderByInsertion 47 = .ok (.getfield 26, 3) := by decide +kernel
theorem dX1_orderByInsertion_50 : decode cX1_orderByInsertion 50 = .ok (.iload_n 1, 1) := by decide +kernel
theorem dX1_orderByInsertion_51 : decode cX1_orderByInsertion 51 = .ok (.iconst 1, 1) := by decide +kernel
theorem dX1_orderByInsertion_52 : decode cX1_orderByInsertion 52 = .ok (.iadd, 1) := by decide +kernel
theorem dX1_orderByInsertion_53 : decode cX1_orderByInsertion 53 = .ok (.invokevirtual 69, 3) := by decide +kernel
theorem dX1_orderByInsertion_56 : decode cX1_orderByInsertion 56 = .ok (.istore 6, 2) := by decide +kernel
theorem dX1_orderByInsertion_58 : decode cX1_orderByInsertion 58 = .ok (.iload 6, 2) := by decide +kernel
theorem dX1_orderByInsertion_60 : decode cX1_orderByInsertion 60 = .ok (.iload 4, 2) := by decide +kernel
theorem dX1_orderByInsertion_62 : decode cX1_orderByInsertion 62 = .ok (.if_icmp .ge 8, 3) := by decide +kernel
theorem dX1_orderByInsertion_65 : decode cX1_orderByInsertion 65 = .ok (.iload 5, 2) := by decide +kernel
theorem dX1_orderByInsertion_67 : decode cX1_orderByInsertion 67 = .ok (.goto 4, 3) := by decide +kernel
theorem dX1_orderByInsertion_70 : decode cX1_orderByInsertion 70 = .ok (.iload_n 3, 1) := by decide +kernel
theorem dX1_orderByInsertion_71 : decode cX1_orderByInsertion 71 = .ok (.istore_n 3, 1) := by decide +kernel
theorem dX1_orderByInsertion_72 : decode cX1_orderByInsertion 72 = .ok (.iload 6, 2) := by decide +kernel
theorem dX1_orderByInsertion_74 : decode cX1_orderByInsertion 74 = .ok (.iload 4, 2) := by decide +kernel
theorem dX1_orderByInsertion_76 : decode cX1_orderByInsertion 76 = .ok (.if_icmp .ge 8, 3) := by decide +kernel
theorem dX1_orderByInsertion_79 : decode cX1_orderByInsertion 79 = .ok (.iload 6, 2) := by decide +kernel
theorem dX1_orderByInsertion_81 : decode cX1_orderByInsertion 81 = .ok (.goto 5, 3) := by decide +kernel
theorem dX1_orderByInsertion_84 : decode cX1_orderByInsertion 84 = .ok (.iload 4, 2) := by decide +kernel
theorem dX1_orderByInsertion_86 : decode cX1_orderByInsertion 86 = .ok (.istore 4, 2) := by decide +kernel
theorem dX1_orderByInsertion_88 : decode cX1_orderByInsertion 88 = .ok (.aload_n 0, 1) := by decide +kernel
theorem dX1_orderByInsertion_89 : decode cX1_orderByInsertion 89 = .ok (.iload 5, 2) := by decide +kernel
theorem dX1_orderByInsertion_91 : decode cX1_orderByInsertion 91 = .ok (.iload_n 1, 1) := by decide +kernel
theorem dX1_orderByInsertion_92 : decode cX1_orderByInsertion 92 = .ok (.invokevirtual 105, 3) := by decide +kernel
theorem dX1_orderByInsertion_95 : decode cX1_orderByInsertion 95 = .ok (.iinc 5 1, 3) := by decide +kernel
theorem dX1_orderByInsertion_98 : decode cX1_orderByInsertion 98 = .ok (.goto (-68), 3) := by decide +kernel
theorem dX1_orderByInsertion_101 : decode cX1_orderByInsertion 101 = .ok (.aload_n 0, 1) := by decide +kernel
theorem dX1_orderByInsertion_102 : decode cX1_orderByInsertion 102 = .ok (.iload_n 2, 1) := by decide +kernel
theorem dX1_orderByInsertion_103 : decode cX1_orderByInsertion 103 = .ok (.iload_n 3, 1) := by decide +kernel
theorem dX1_orderByInsertion_104 : decode cX1_orderByInsertion 104 = .ok (.iload_n 1, 1) := by decide +kernel
theorem dX1_orderByInsertion_105 : decode cX1_orderByInsertion 105 = .ok (.invokevirtual 101, 3) := by decide +kernel
theorem dX1_orderByInsertion_108 : decode cX1_orderByInsertion 108 = .ok (.iinc 1 1, 3) := by decide +kernel
theorem dX1_orderByInsertion_111 : decode cX1_orderByInsertion 111 = .ok (.goto (-104), 3) := by decide +kernel
theorem dX1_orderByInsertion_114 : decode cX1_orderByInsertion 114 = .ok (.aload_n 0, 1) := by decide +kernel
theorem dX1_orderByInsertion_115 : decode cX1_orderByInsertion 115 = .ok (.invokevirtual 83, 3) := by decide +kernel
theorem dX1_orderByInsertion_118 : decode cX1_orderByInsertion 118 = .ok (.aload_n 0, 1) := by decide +kernel
theorem dX1_orderByInsertion_119 : decode cX1_orderByInsertion 119 = .ok (.invokevirtual 89, 3) := by decide +kernel
theorem dX1_orderByInsertion_122 : decode cX1_orderByInsertion 122 = .ok (.ireturn, 1) := by decide +kernel
set_option maxRecDepth 20000 in
theorem ggX1_improve_X1_plain : GoodIn wsX1_improve wsX1_plain := goodIn_r _ [9, 10, 3, 11, 12, 13, 8, 14, 15, 16, 17, 18, 19, 20, 21, 22, 23, 24, 25, 26, 27, 28, 29, 30, 31, 32, 33, 34, 35, 36, 37, 46, 47, 48, 49, 50, 51, 52, 53, 54, 55] (by decide +kernel) (by decide +kernel)
set_option maxRecDepth 20000 in
theorem gX1_improve_X1_plain : GoodIn wsX1_improve (wsV RX1 89 RX1 yX1_plain wsX1_plain) := goodIn_app (goodIn_of _ (by decide +kernel)) ggX1_improve_X1_plain
set_option maxRecDepth 20000 in
theorem ggX1_improve_X1_triesMove : GoodIn wsX1_improve wsX1_triesMove := goodIn_r _ [41, 3, 4, 10, 46, 47, 48, 49, 50, 51, 52, 53, 54, 55] (by decide +kernel) (by decide +kernel)
set_option maxRecDepth 20000 in
theorem gX1_improve_X1_triesMove : GoodIn wsX1_improve (wsV RX1 79 RX1 yX1_triesMove wsX1_triesMove) := goodIn_app (goodIn_of _ (by decide +kernel)) ggX1_improve_X1_triesMove
set_option maxRecDepth 20000 in
theorem ggX1_improve_X1_lays : GoodIn wsX1_improve wsX1_lays := goodIn_r _ [14, 15, 16, 17, 18, 19, 8, 20, 21, 22, 23, 24, 25, 26, 27, 28, 29, 30, 31, 32, 33, 34, 35, 36, 37, 46, 47, 48, 49, 50, 51, 52, 53, 54, 55] (by decide +kernel) (by decide +kernel)
set_option maxRecDepth 20000 in
theorem gX1_improve_X1_lays : GoodIn wsX1_improve (wsV RX1 69 RX1 yX1_lays wsX1_lays) := goodIn_app (goodIn_of _ (by decide +kernel)) ggX1_improve_X1_lays
set_option maxRecDepth 20000 in
theorem ggX1_improve_X1_takesTrial : GoodIn wsX1_improve wsX1_takesTrial := goodIn_r _ [45, 3, 10, 4, 46, 47, 48, 49, 50, 51, 52, 53, 54, 55] (by decide +kernel) (by decide +kernel)
set_option maxRecDepth 20000 in
theorem gX1_improve_X1_takesTrial : GoodIn wsX1_improve (wsV RX1 83 RX1 yX1_takesTrial wsX1_takesTrial) := goodIn_app (goodIn_of _ (by decide +kernel)) ggX1_improve_X1_takesTrial
theorem dX1_improve_0 : decode cX1_improve 0 = .ok (.aload_n 0, 1) := by decide +kernel
theorem dX1_improve_1 : decode cX1_improve 1 = .ok (.iconst 0, 1) := by decide +kernel
theorem dX1_improve_2 : decode cX1_improve 2 = .ok (.putfield 32, 3) := by decide +kernel
theorem dX1_improve_5 : decode cX1_improve 5 = .ok (.aload_n 0, 1) := by decide +kernel
theorem dX1_improve_6 : decode cX1_improve 6 = .ok (.invokevirtual 89, 3) := by decide +kernel
theorem dX1_improve_9 : decode cX1_improve 9 = .ok (.istore_n 1, 1) := by decide +kernel
theorem dX1_improve_10 : decode cX1_improve 10 = .ok (.ldc 100, 2) := by decide +kernel
theorem dX1_improve_12 : decode cX1_improve 12 = .ok (.istore_n 2, 1) := by decide +kernel
theorem dX1_improve_13 : decode cX1_improve 13 = .ok (.iconst 0, 1) := by decide +kernel
theorem dX1_improve_14 : decode cX1_improve 14 = .ok (.istore_n 3, 1) := by decide +kernel
theorem dX1_improve_15 : decode cX1_improve 15 = .ok (.iconst 0, 1) := by decide +kernel
theorem dX1_improve_16 : decode cX1_improve 16 = .ok (.istore 4, 2) := by decide +kernel
theorem dX1_improve_18 : decode cX1_improve 18 = .ok (.iconst 0, 1) := by decide +kernel
theorem dX1_improve_19 : decode cX1_improve 19 = .ok (.istore 5, 2) := by decide +kernel
theorem dX1_improve_21 : decode cX1_improve 21 = .ok (.iload 5, 2) := by decide +kernel
theorem dX1_improve_23 : decode cX1_improve 23 = .ok (.aload_n 0, 1) := by decide +kernel
theorem dX1_improve_24 : decode cX1_improve 24 = .ok (.getfield 35, 3) := by decide +kernel
theorem dX1_improve_27 : decode cX1_improve 27 = .ok (.if_icmp .ge 103, 3) := by decide +kernel
theorem dX1_improve_30 : decode cX1_improve 30 = .ok (.iconst 0, 1) := by decide +kernel
theorem dX1_improve_31 : decode cX1_improve 31 = .ok (.istore 6, 2) := by decide +kernel
theorem dX1_improve_33 : decode cX1_improve 33 = .ok (.iload 6, 2) := by decide +kernel
theorem dX1_improve_35 : decode cX1_improve 35 = .ok (.aload_n 0, 1) := by decide +kernel
theorem dX1_improve_36 : decode cX1_improve 36 = .ok (.getfield 35, 3) := by decide +kernel
theorem dX1_improve_39 : decode cX1_improve 39 = .ok (.if_icmp .ge 85, 3) := by decide +kernel
theorem dX1_improve_42 : decode cX1_improve 42 = .ok (.aload_n 0, 1) := by decide +kernel
theorem dX1_improve_43 : decode cX1_improve 43 = .ok (.iload 5, 2) := by decide +kernel
theorem dX1_improve_45 : decode cX1_improve 45 = .ok (.iload 6, 2) := by decide +kernel
theorem dX1_improve_47 : decode cX1_improve 47 = .ok (.invokevirtual 79, 3) := by decide +kernel
theorem dX1_improve_50 : decode cX1_improve 50 = .ok (.iload 5, 2) := by decide +kernel
theorem dX1_improve_52 : decode cX1_improve 52 = .ok (.iload 6, 2) := by decide +kernel
theorem dX1_improve_54 : decode cX1_improve 54 = .ok (.if_icmp .ne 8, 3) := by decide +kernel
theorem dX1_improve_57 : decode cX1_improve 57 = .ok (.ldc 100, 2) := by decide +kernel
theorem dX1_improve_59 : decode cX1_improve 59 = .ok (.goto 16, 3) := by decide +kernel
theorem dX1_improve_62 : decode cX1_improve 62 = .ok (.aload_n 0, 1) := by decide +kernel
theorem dX1_improve_63 : decode cX1_improve 63 = .ok (.iconst 0, 1) := by decide +kernel
theorem dX1_improve_64 : decode cX1_improve 64 = .ok (.aload_n 0, 1) := by decide +kernel
theorem dX1_improve_65 : decode cX1_improve 65 = .ok (.getfield 26, 3) := by decide +kernel
theorem dX1_improve_68 : decode cX1_improve 68 = .ok (.aload_n 0, 1) := by decide +kernel
theorem dX1_improve_69 : decode cX1_improve 69 = .ok (.getfield 35, 3) := by decide +kernel
theorem dX1_improve_72 : decode cX1_improve 72 = .ok (.invokevirtual 69, 3) := by decide +kernel
theorem dX1_improve_75 : decode cX1_improve 75 = .ok (.istore 7, 2) := by decide +kernel
theorem dX1_improve_77 : decode cX1_improve 77 = .ok (.iload 7, 2) := by decide +kernel
theorem dX1_improve_79 : decode cX1_improve 79 = .ok (.iload_n 2, 1) := by decide +kernel
theorem dX1_improve_80 : decode cX1_improve 80 = .ok (.if_icmp .ge 8, 3) := by decide +kernel
theorem dX1_improve_83 : decode cX1_improve 83 = .ok (.iload 5, 2) := by decide +kernel
theorem dX1_improve_85 : decode cX1_improve 85 = .ok (.goto 4, 3) := by decide +kernel
theorem dX1_improve_88 : decode cX1_improve 88 = .ok (.iload_n 3, 1) := by decide +kernel
theorem dX1_improve_89 : decode cX1_improve 89 = .ok (.istore_n 3, 1) := by decide +kernel
theorem dX1_improve_90 : decode cX1_improve 90 = .ok (.iload 7, 2) := by decide +kernel
theorem dX1_improve_92 : decode cX1_improve 92 = .ok (.iload_n 2, 1) := by decide +kernel
theorem dX1_improve_93 : decode cX1_improve 93 = .ok (.if_icmp .ge 8, 3) := by decide +kernel
theorem dX1_improve_96 : decode cX1_improve 96 = .ok (.iload 6, 2) := by decide +kernel
theorem dX1_improve_98 : decode cX1_improve 98 = .ok (.goto 5, 3) := by decide +kernel
theorem dX1_improve_101 : decode cX1_improve 101 = .ok (.iload 4, 2) := by decide +kernel
theorem dX1_improve_103 : decode cX1_improve 103 = .ok (.istore 4, 2) := by decide +kernel
theorem dX1_improve_105 : decode cX1_improve 105 = .ok (.iload 7, 2) := by decide +kernel
theorem dX1_improve_107 : decode cX1_improve 107 = .ok (.iload_n 2, 1) := by decide +kernel
theorem dX1_improve_108 : decode cX1_improve 108 = .ok (.if_icmp .ge 8, 3) := by decide +kernel
theorem dX1_improve_111 : decode cX1_improve 111 = .ok (.iload 7, 2) := by decide +kernel
theorem dX1_improve_113 : decode cX1_improve 113 = .ok (.goto 4, 3) := by decide +kernel
theorem dX1_improve_116 : decode cX1_improve 116 = .ok (.iload_n 2, 1) := by decide +kernel
theorem dX1_improve_117 : decode cX1_improve 117 = .ok (.istore_n 2, 1) := by decide +kernel
theorem dX1_improve_118 : decode cX1_improve 118 = .ok (.iinc 6 1, 3) := by decide +kernel
theorem dX1_improve_121 : decode cX1_improve 121 = .ok (.goto (-88), 3) := by decide +kernel
theorem dX1_improve_124 : decode cX1_improve 124 = .ok (.iinc 5 1, 3) := by decide +kernel
theorem dX1_improve_127 : decode cX1_improve 127 = .ok (.goto (-106), 3) := by decide +kernel
theorem dX1_improve_130 : decode cX1_improve 130 = .ok (.iload_n 2, 1) := by decide +kernel
theorem dX1_improve_131 : decode cX1_improve 131 = .ok (.iload_n 1, 1) := by decide +kernel
theorem dX1_improve_132 : decode cX1_improve 132 = .ok (.if_icmp .lt 5, 3) := by decide +kernel
theorem dX1_improve_135 : decode cX1_improve 135 = .ok (.iconst 0, 1) := by decide +kernel
theorem dX1_improve_136 : decode cX1_improve 136 = .ok (.ireturn, 1) := by decide +kernel
theorem dX1_improve_137 : decode cX1_improve 137 = .ok (.aload_n 0, 1) := by decide +kernel
theorem dX1_improve_138 : decode cX1_improve 138 = .ok (.iload_n 3, 1) := by decide +kernel
theorem dX1_improve_139 : decode cX1_improve 139 = .ok (.iload 4, 2) := by decide +kernel
theorem dX1_improve_141 : decode cX1_improve 141 = .ok (.invokevirtual 79, 3) := by decide +kernel
theorem dX1_improve_144 : decode cX1_improve 144 = .ok (.aload_n 0, 1) := by decide +kernel
theorem dX1_improve_145 : decode cX1_improve 145 = .ok (.invokevirtual 83, 3) := by decide +kernel
theorem dX1_improve_148 : decode cX1_improve 148 = .ok (.iload_n 1, 1) := by decide +kernel
theorem dX1_improve_149 : decode cX1_improve 149 = .ok (.iload_n 2, 1) := by decide +kernel
theorem dX1_improve_150 : decode cX1_improve 150 = .ok (.isub, 1) := by decide +kernel
theorem dX1_improve_151 : decode cX1_improve 151 = .ok (.ireturn, 1) := by decide +kernel
set_option maxRecDepth 20000 in
theorem ggX1_isVariant_X1_in : GoodIn wsX1_isVariant wsX1_in := goodIn_r _ [4] (by decide +kernel) (by decide +kernel)
set_option maxRecDepth 20000 in
theorem gX1_isVariant_X1_in : GoodIn wsX1_isVariant (va_wsS RX1 38 yX1_in wsX1_in) := goodIn_app (goodIn_of _ (by decide +kernel)) ggX1_isVariant_X1_in
theorem dX1_isVariant_0 : decode cX1_isVariant 0 = .ok (.iload_n 0, 1) := by decide +kernel
theorem dX1_isVariant_1 : decode cX1_isVariant 1 = .ok (.iconst 0, 1) := by decide +kernel
theorem dX1_isVariant_2 : decode cX1_isVariant 2 = .ok (.iconst 2, 1) := by decide +kernel
theorem dX1_isVariant_3 : decode cX1_isVariant 3 = .ok (.invokestatic 38, 3) := by decide +kernel
theorem dX1_isVariant_6 : decode cX1_isVariant 6 = .ok (.ireturn, 1) := by decide +kernel
set_option maxRecDepth 20000 in
theorem ggX1_makespan_X1_isVariant : GoodIn wsX1_makespan wsX1_isVariant := goodIn_r _ [7, 8, 9, 6, 10] (by decide +kernel) (by decide +kernel)
set_option maxRecDepth 20000 in
theorem gX1_makespan_X1_isVariant : GoodIn wsX1_makespan (va_wsS RX1 108 yX1_isVariant wsX1_isVariant) := goodIn_app (goodIn_of _ (by decide +kernel)) ggX1_makespan_X1_isVariant
set_option maxRecDepth 20000 in
theorem ggX1_makespan_X1_lays : GoodIn wsX1_makespan wsX1_lays := goodIn_r _ [14, 15, 16, 17, 18, 19, 6, 20, 21, 22, 23, 24, 25, 26, 27, 28, 29, 30, 31, 32, 33, 34, 35, 36, 37, 38, 39, 40, 41, 42, 43, 44, 45, 46, 47] (by decide +kernel) (by decide +kernel)
set_option maxRecDepth 20000 in
theorem gX1_makespan_X1_lays : GoodIn wsX1_makespan (wsV RX1 69 RX1 yX1_lays wsX1_lays) := goodIn_app (goodIn_of _ (by decide +kernel)) ggX1_makespan_X1_lays
theorem dX1_makespan_0 : decode cX1_makespan 0 = .ok (.aload_n 0, 1) := by decide +kernel
theorem dX1_makespan_1 : decode cX1_makespan 1 = .ok (.iload_n 1, 1) := by decide +kernel
theorem dX1_makespan_2 : decode cX1_makespan 2 = .ok (.invokestatic 108, 3) := by decide +kernel
theorem dX1_makespan_5 : decode cX1_makespan 5 = .ok (.ifCond .eq 7, 3) := by decide +kernel
theorem dX1_makespan_8 : decode cX1_makespan 8 = .ok (.iconst 0, 1) := by decide +kernel
theorem dX1_makespan_9 : decode cX1_makespan 9 = .ok (.goto 4, 3) := by decide +kernel
theorem dX1_makespan_12 : decode cX1_makespan 12 = .ok (.iconst 1, 1) := by decide +kernel
theorem dX1_makespan_13 : decode cX1_makespan 13 = .ok (.putfield 32, 3) := by decide +kernel
theorem dX1_makespan_16 : decode cX1_makespan 16 = .ok (.aload_n 0, 1) := by decide +kernel
theorem dX1_makespan_17 : decode cX1_makespan 17 = .ok (.getfield 32, 3) := by decide +kernel
theorem dX1_makespan_20 : decode cX1_makespan 20 = .ok (.ifCond .le 7, 3) := by decide +kernel
theorem dX1_makespan_23 : decode cX1_makespan 23 = .ok (.iconst 0, 1) := by decide +kernel
theorem dX1_makespan_24 : decode cX1_makespan 24 = .ok (.goto 16, 3) := by decide +kernel
theorem dX1_makespan_27 : decode cX1_makespan 27 = .ok (.aload_n 0, 1) := by decide +kernel
theorem dX1_makespan_28 : decode cX1_makespan 28 = .ok (.iload_n 1, 1) := by decide +kernel
theorem dX1_makespan_29 : decode cX1_makespan 29 = .ok (.aload_n 0, 1) := by decide +kernel
theorem dX1_makespan_30 : decode cX1_makespan 30 = .ok (.getfield 17, 3) := by decide +kernel
theorem dX1_makespan_33 : decode cX1_makespan 33 = .ok (.aload_n 0, 1) := by decide +kernel
theorem dX1_makespan_34 : decode cX1_makespan 34 = .ok (.getfield 35, 3) := by decide +kernel
theorem dX1_makespan_37 : decode cX1_makespan 37 = .ok (.invokevirtual 69, 3) := by decide +kernel
theorem dX1_makespan_40 : decode cX1_makespan 40 = .ok (.ireturn, 1) := by decide +kernel
set_option maxRecDepth 20000 in
theorem ggX1_begin_X1_isVariant : GoodIn wsX1_begin wsX1_isVariant := goodIn_r _ [7, 8, 9, 6, 10] (by decide +kernel) (by decide +kernel)
set_option maxRecDepth 20000 in
theorem gX1_begin_X1_isVariant : GoodIn wsX1_begin (va_wsS RX1 108 yX1_isVariant wsX1_isVariant) := goodIn_app (goodIn_of _ (by decide +kernel)) ggX1_begin_X1_isVariant
set_option maxRecDepth 20000 in
theorem ggX1_begin_X1_isOf : GoodIn wsX1_begin wsX1_isOf := goodIn_r _ [14, 3, 15, 8, 9, 6, 10, 42, 43, 44, 45, 46, 47, 48, 49, 50, 51] (by decide +kernel) (by decide +kernel)
set_option maxRecDepth 20000 in
theorem gX1_begin_X1_isOf : GoodIn wsX1_begin (wsV RX1 42 RX1 yX1_isOf wsX1_isOf) := goodIn_app (goodIn_of _ (by decide +kernel)) ggX1_begin_X1_isOf
set_option maxRecDepth 20000 in
theorem ggX1_begin_X1_lays : GoodIn wsX1_begin wsX1_lays := goodIn_r _ [19, 15, 20, 21, 22, 23, 6, 24, 25, 26, 27, 28, 29, 30, 31, 32, 33, 34, 35, 36, 37, 38, 39, 40, 41, 42, 43, 44, 45, 46, 47, 48, 49, 50, 51] (by decide +kernel) (by decide +kernel)
set_option maxRecDepth 20000 in
theorem gX1_begin_X1_lays : GoodIn wsX1_begin (wsV RX1 69 RX1 yX1_lays wsX1_lays) := goodIn_app (goodIn_of _ (by decide +kernel)) ggX1_begin_X1_lays
set_option maxRecDepth 20000 in
theorem ggX1_begin_X1_startOf : GoodIn wsX1_begin wsX1_startOf := goodIn_r _ [28, 20, 42, 43, 44, 45, 46, 47, 48, 49, 50, 51] (by decide +kernel) (by decide +kernel)
set_option maxRecDepth 20000 in
theorem gX1_begin_X1_startOf : GoodIn wsX1_begin (wsV RX1 54 RX1 yX1_startOf wsX1_startOf) := goodIn_app (goodIn_of _ (by decide +kernel)) ggX1_begin_X1_startOf
theorem dX1_begin_0 : decode cX1_begin 0 = .ok (.aload_n 0, 1) := by decide +kernel
theorem dX1_begin_1 : decode cX1_begin 1 = .ok (.iload_n 1, 1) := by decide +kernel
theorem dX1_begin_2 : decode cX1_begin 2 = .ok (.invokestatic 108, 3) := by decide +kernel
theorem dX1_begin_5 : decode cX1_begin 5 = .ok (.ifCond .ne 7, 3) := by decide +kernel
theorem dX1_begin_8 : decode cX1_begin 8 = .ok (.iconst 1, 1) := by decide +kernel
theorem dX1_begin_9 : decode cX1_begin 9 = .ok (.goto 17, 3) := by decide +kernel
theorem dX1_begin_12 : decode cX1_begin 12 = .ok (.aload_n 0, 1) := by decide +kernel
theorem dX1_begin_13 : decode cX1_begin 13 = .ok (.iload_n 2, 1) := by decide +kernel
theorem dX1_begin_14 : decode cX1_begin 14 = .ok (.iload_n 3, 1) := by decide +kernel
theorem dX1_begin_15 : decode cX1_begin 15 = .ok (.invokevirtual 42, 3) := by decide +kernel
theorem dX1_begin_18 : decode cX1_begin 18 = .ok (.ifCond .eq 7, 3) := by decide +kernel
theorem dX1_begin_21 : decode cX1_begin 21 = .ok (.iconst 0, 1) := by decide +kernel
theorem dX1_begin_22 : decode cX1_begin 22 = .ok (.goto 4, 3) := by decide +kernel
theorem dX1_begin_25 : decode cX1_begin 25 = .ok (.iconst 2, 1) := by decide +kernel
theorem dX1_begin_26 : decode cX1_begin 26 = .ok (.putfield 32, 3) := by decide +kernel
theorem dX1_begin_29 : decode cX1_begin 29 = .ok (.aload_n 0, 1) := by decide +kernel
theorem dX1_begin_30 : decode cX1_begin 30 = .ok (.getfield 32, 3) := by decide +kernel
theorem dX1_begin_33 : decode cX1_begin 33 = .ok (.ifCond .le 5, 3) := by decide +kernel
theorem dX1_begin_36 : decode cX1_begin 36 = .ok (.iconst 0, 1) := by decide +kernel
theorem dX1_begin_37 : decode cX1_begin 37 = .ok (.ireturn, 1) := by decide +kernel
theorem dX1_begin_38 : decode cX1_begin 38 = .ok (.aload_n 0, 1) := by decide +kernel
theorem dX1_begin_39 : decode cX1_begin 39 = .ok (.iload_n 1, 1) := by decide +kernel
theorem dX1_begin_40 : decode cX1_begin 40 = .ok (.aload_n 0, 1) := by decide +kernel
theorem dX1_begin_41 : decode cX1_begin 41 = .ok (.getfield 17, 3) := by decide +kernel
theorem dX1_begin_44 : decode cX1_begin 44 = .ok (.aload_n 0, 1) := by decide +kernel
theorem dX1_begin_45 : decode cX1_begin 45 = .ok (.getfield 35, 3) := by decide +kernel
theorem dX1_begin_48 : decode cX1_begin 48 = .ok (.invokevirtual 69, 3) := by decide +kernel
theorem dX1_begin_51 : decode cX1_begin 51 = .ok (.pop, 1) := by decide +kernel
theorem dX1_begin_52 : decode cX1_begin 52 = .ok (.aload_n 0, 1) := by decide +kernel
theorem dX1_begin_53 : decode cX1_begin 53 = .ok (.iload_n 2, 1) := by decide +kernel
theorem dX1_begin_54 : decode cX1_begin 54 = .ok (.iload_n 3, 1) := by decide +kernel
theorem dX1_begin_55 : decode cX1_begin 55 = .ok (.invokevirtual 54, 3) := by decide +kernel
theorem dX1_begin_58 : decode cX1_begin 58 = .ok (.ireturn, 1) := by decide +kernel
set_option maxRecDepth 20000 in
theorem ggX1_totalTime_X1_plain : GoodIn wsX1_totalTime wsX1_plain := goodIn_r _ [9, 3, 2, 10, 11, 12, 8, 13, 4, 14, 15, 16, 17, 18, 19, 20, 21, 22, 23, 24, 25, 26, 27, 28, 29, 30, 31, 32, 33, 34, 35, 36, 37, 38, 39, 40, 41, 42, 43, 44, 45] (by decide +kernel) (by decide +kernel)
set_option maxRecDepth 20000 in
theorem gX1_totalTime_X1_plain : GoodIn wsX1_totalTime (wsV RX1 89 RX1 yX1_plain wsX1_plain) := goodIn_app (goodIn_of _ (by decide +kernel)) ggX1_totalTime_X1_plain
set_option maxRecDepth 20000 in
theorem ggX1_totalTime_X1_endOf : GoodIn wsX1_totalTime wsX1_endOf := goodIn_r _ [26, 19, 20, 21, 8, 22, 14, 27, 28, 29, 30, 31, 36, 37, 38, 39, 40, 41, 42, 43, 44, 45] (by decide +kernel) (by decide +kernel)
set_option maxRecDepth 20000 in
theorem gX1_totalTime_X1_endOf : GoodIn wsX1_totalTime (wsV RX1 57 RX1 yX1_endOf wsX1_endOf) := goodIn_app (goodIn_of _ (by decide +kernel)) ggX1_totalTime_X1_endOf
theorem dX1_totalTime_0 : decode cX1_totalTime 0 = .ok (.aload_n 0, 1) := by decide +kernel
theorem dX1_totalTime_1 : decode cX1_totalTime 1 = .ok (.iconst 0, 1) := by decide +kernel
theorem dX1_totalTime_2 : decode cX1_totalTime 2 = .ok (.putfield 32, 3) := by decide +kernel
theorem dX1_totalTime_5 : decode cX1_totalTime 5 = .ok (.aload_n 0, 1) := by decide +kernel
theorem dX1_totalTime_6 : decode cX1_totalTime 6 = .ok (.invokevirtual 89, 3) := by decide +kernel
theorem dX1_totalTime_9 : decode cX1_totalTime 9 = .ok (.pop, 1) := by decide +kernel
theorem dX1_totalTime_10 : decode cX1_totalTime 10 = .ok (.iconst 0, 1) := by decide +kernel
theorem dX1_totalTime_11 : decode cX1_totalTime 11 = .ok (.istore_n 1, 1) := by decide +kernel
theorem dX1_totalTime_12 : decode cX1_totalTime 12 = .ok (.iconst 0, 1) := by decide +kernel
theorem dX1_totalTime_13 : decode cX1_totalTime 13 = .ok (.istore_n 2, 1) := by decide +kernel
theorem dX1_totalTime_14 : decode cX1_totalTime 14 = .ok (.iload_n 2, 1) := by decide +kernel
theorem dX1_totalTime_15 : decode cX1_totalTime 15 = .ok (.aload_n 0, 1) := by decide +kernel
theorem dX1_totalTime_16 : decode cX1_totalTime 16 = .ok (.getfield 35, 3) := by decide +kernel
theorem dX1_totalTime_19 : decode cX1_totalTime 19 = .ok (.if_icmp .ge 27, 3) := by decide +kernel
theorem dX1_totalTime_22 : decode cX1_totalTime 22 = .ok (.iload_n 1, 1) := by decide +kernel
theorem dX1_totalTime_23 : decode cX1_totalTime 23 = .ok (.aload_n 0, 1) := by decide +kernel
theorem dX1_totalTime_24 : decode cX1_totalTime 24 = .ok (.aload_n 0, 1) := by decide +kernel
theorem dX1_totalTime_25 : decode cX1_totalTime 25 = .ok (.getfield 17, 3) := by decide +kernel
theorem dX1_totalTime_28 : decode cX1_totalTime 28 = .ok (.iload_n 2, 1) := by decide +kernel
theorem dX1_totalTime_29 : decode cX1_totalTime 29 = .ok (.aload_n 0, 1) := by decide +kernel
theorem dX1_totalTime_30 : decode cX1_totalTime 30 = .ok (.getfield 7, 3) := by decide +kernel
theorem dX1_totalTime_33 : decode cX1_totalTime 33 = .ok (.iconst 1, 1) := by decide +kernel
theorem dX1_totalTime_34 : decode cX1_totalTime 34 = .ok (.isub, 1) := by decide +kernel
theorem dX1_totalTime_35 : decode cX1_totalTime 35 = .ok (.invokevirtual 57, 3) := by decide +kernel
theorem dX1_totalTime_38 : decode cX1_totalTime 38 = .ok (.iadd, 1) := by decide +kernel
theorem dX1_totalTime_39 : decode cX1_totalTime 39 = .ok (.istore_n 1, 1) := by decide +kernel
theorem dX1_totalTime_40 : decode cX1_totalTime 40 = .ok (.iinc 2 1, 3) := by decide +kernel
theorem dX1_totalTime_43 : decode cX1_totalTime 43 = .ok (.goto (-29), 3) := by decide +kernel
theorem dX1_totalTime_46 : decode cX1_totalTime 46 = .ok (.iload_n 1, 1) := by decide +kernel
theorem dX1_totalTime_47 : decode cX1_totalTime 47 = .ok (.ireturn, 1) := by decide +kernel
set_option maxRecDepth 20000 in
theorem ggX1_laysTails_X1_timeOf : GoodIn wsX1_laysTails wsX1_timeOf := goodIn_r _ [9, 10, 11, 12, 13, 14, 15, 16, 17, 18, 19, 20] (by decide +kernel) (by decide +kernel)
set_option maxRecDepth 20000 in
theorem gX1_laysTails_X1_timeOf : GoodIn wsX1_laysTails (wsV RX1 46 RX1 yX1_timeOf wsX1_timeOf) := goodIn_app (goodIn_of _ (by decide +kernel)) ggX1_laysTails_X1_timeOf
theorem dX1_laysTails_0 : decode cX1_laysTails 0 = .ok (.aload_n 0, 1) := by decide +kernel
theorem dX1_laysTails_1 : decode cX1_laysTails 1 = .ok (.getfield 35, 3) := by decide +kernel
theorem dX1_laysTails_4 : decode cX1_laysTails 4 = .ok (.iconst 1, 1) := by decide +kernel
theorem dX1_laysTails_5 : decode cX1_laysTails 5 = .ok (.isub, 1) := by decide +kernel
theorem dX1_laysTails_6 : decode cX1_laysTails 6 = .ok (.istore_n 1, 1) := by decide +kernel
theorem dX1_laysTails_7 : decode cX1_laysTails 7 = .ok (.iload_n 1, 1) := by decide +kernel
theorem dX1_laysTails_8 : decode cX1_laysTails 8 = .ok (.ifCond .lt 115, 3) := by decide +kernel
theorem dX1_laysTails_11 : decode cX1_laysTails 11 = .ok (.aload_n 0, 1) := by decide +kernel
theorem dX1_laysTails_12 : decode cX1_laysTails 12 = .ok (.getfield 7, 3) := by decide +kernel
theorem dX1_laysTails_15 : decode cX1_laysTails 15 = .ok (.iconst 1, 1) := by decide +kernel
theorem dX1_laysTails_16 : decode cX1_laysTails 16 = .ok (.isub, 1) := by decide +kernel
theorem dX1_laysTails_17 : decode cX1_laysTails 17 = .ok (.istore_n 2, 1) := by decide +kernel
theorem dX1_laysTails_18 : decode cX1_laysTails 18 = .ok (.iload_n 2, 1) := by decide +kernel
theorem dX1_laysTails_19 : decode cX1_laysTails 19 = .ok (.ifCond .lt 98, 3) := by decide +kernel
theorem dX1_laysTails_22 : decode cX1_laysTails 22 = .ok (.iload_n 2, 1) := by decide +kernel
theorem dX1_laysTails_23 : decode cX1_laysTails 23 = .ok (.iconst 1, 1) := by decide +kernel
theorem dX1_laysTails_24 : decode cX1_laysTails 24 = .ok (.iadd, 1) := by decide +kernel
theorem dX1_laysTails_25 : decode cX1_laysTails 25 = .ok (.aload_n 0, 1) := by decide +kernel
theorem dX1_laysTails_26 : decode cX1_laysTails 26 = .ok (.getfield 7, 3) := by decide +kernel
theorem dX1_laysTails_29 : decode cX1_laysTails 29 = .ok (.if_icmp .ge 18, 3) := by decide +kernel
theorem dX1_laysTails_32 : decode cX1_laysTails 32 = .ok (.aload_n 0, 1) := by decide +kernel
theorem dX1_laysTails_33 : decode cX1_laysTails 33 = .ok (.getfield 23, 3) := by decide +kernel
theorem dX1_laysTails_36 : decode cX1_laysTails 36 = .ok (.iconst 5, 1) := by decide +kernel
theorem dX1_laysTails_37 : decode cX1_laysTails 37 = .ok (.iload_n 1, 1) := by decide +kernel
theorem dX1_laysTails_38 : decode cX1_laysTails 38 = .ok (.imul, 1) := by decide +kernel
theorem dX1_laysTails_39 : decode cX1_laysTails 39 = .ok (.iload_n 2, 1) := by decide +kernel
theorem dX1_laysTails_40 : decode cX1_laysTails 40 = .ok (.iadd, 1) := by decide +kernel
theorem dX1_laysTails_41 : decode cX1_laysTails 41 = .ok (.iconst 1, 1) := by decide +kernel
theorem dX1_laysTails_42 : decode cX1_laysTails 42 = .ok (.iadd, 1) := by decide +kernel
theorem dX1_laysTails_43 : decode cX1_laysTails 43 = .ok (.iaload, 1) := by decide +kernel
theorem dX1_laysTails_44 : decode cX1_laysTails 44 = .ok (.goto 4, 3) := by decide +kernel
theorem dX1_laysTails_47 : decode cX1_laysTails 47 = .ok (.iconst 0, 1) := by decide +kernel
theorem dX1_laysTails_48 : decode cX1_laysTails 48 = .ok (.istore_n 3, 1) := by decide +kernel
theorem dX1_laysTails_49 : decode cX1_laysTails 49 = .ok (.iload_n 1, 1) := by decide +kernel
theorem dX1_laysTails_50 : decode cX1_laysTails 50 = .ok (.iconst 1, 1) := by decide +kernel
theorem dX1_laysTails_51 : decode cX1_laysTails 51 = .ok (.iadd, 1) := by decide +kernel
theorem dX1_laysTails_52 : decode cX1_laysTails 52 = .ok (.aload_n 0, 1) := by decide +kernel
theorem dX1_laysTails_53 : decode cX1_laysTails 53 = .ok (.getfield 35, 3) := by decide +kernel
theorem dX1_laysTails_56 : decode cX1_laysTails 56 = .ok (.if_icmp .ge 18, 3) := by decide +kernel
theorem dX1_laysTails_59 : decode cX1_laysTails 59 = .ok (.aload_n 0, 1) := by decide +kernel
theorem dX1_laysTails_60 : decode cX1_laysTails 60 = .ok (.getfield 23, 3) := by decide +kernel
theorem dX1_laysTails_63 : decode cX1_laysTails 63 = .ok (.iconst 5, 1) := by decide +kernel
theorem dX1_laysTails_64 : decode cX1_laysTails 64 = .ok (.iload_n 1, 1) := by decide +kernel
theorem dX1_laysTails_65 : decode cX1_laysTails 65 = .ok (.iconst 1, 1) := by decide +kernel
theorem dX1_laysTails_66 : decode cX1_laysTails 66 = .ok (.iadd, 1) := by decide +kernel
theorem dX1_laysTails_67 : decode cX1_laysTails 67 = .ok (.imul, 1) := by decide +kernel
theorem dX1_laysTails_68 : decode cX1_laysTails 68 = .ok (.iload_n 2, 1) := by decide +kernel
theorem dX1_laysTails_69 : decode cX1_laysTails 69 = .ok (.iadd, 1) := by decide +kernel
theorem dX1_laysTails_70 : decode cX1_laysTails 70 = .ok (.iaload, 1) := by decide +kernel
theorem dX1_laysTails_71 : decode cX1_laysTails 71 = .ok (.goto 4, 3) := by decide +kernel
theorem dX1_laysTails_74 : decode cX1_laysTails 74 = .ok (.iconst 0, 1) := by decide +kernel
theorem dX1_laysTails_75 : decode cX1_laysTails 75 = .ok (.istore 4, 2) := by decide +kernel
theorem dX1_laysTails_77 : decode cX1_laysTails 77 = .ok (.aload_n 0, 1) := by decide +kernel
theorem dX1_laysTails_78 : decode cX1_laysTails 78 = .ok (.getfield 23, 3) := by decide +kernel
theorem dX1_laysTails_81 : decode cX1_laysTails 81 = .ok (.iconst 5, 1) := by decide +kernel
theorem dX1_laysTails_82 : decode cX1_laysTails 82 = .ok (.iload_n 1, 1) := by decide +kernel
theorem dX1_laysTails_83 : decode cX1_laysTails 83 = .ok (.imul, 1) := by decide +kernel
theorem dX1_laysTails_84 : decode cX1_laysTails 84 = .ok (.iload_n 2, 1) := by decide +kernel
theorem dX1_laysTails_85 : decode cX1_laysTails 85 = .ok (.iadd, 1) := by decide +kernel
theorem dX1_laysTails_86 : decode cX1_laysTails 86 = .ok (.aload_n 0, 1) := by decide +kernel
theorem dX1_laysTails_87 : decode cX1_laysTails 87 = .ok (.aload_n 0, 1) := by decide +kernel
theorem dX1_laysTails_88 : decode cX1_laysTails 88 = .ok (.getfield 17, 3) := by decide +kernel
theorem dX1_laysTails_91 : decode cX1_laysTails 91 = .ok (.iload_n 1, 1) := by decide +kernel
theorem dX1_laysTails_92 : decode cX1_laysTails 92 = .ok (.iaload, 1) := by decide +kernel
theorem dX1_laysTails_93 : decode cX1_laysTails 93 = .ok (.iload_n 2, 1) := by decide +kernel
theorem dX1_laysTails_94 : decode cX1_laysTails 94 = .ok (.invokevirtual 46, 3) := by decide +kernel
theorem dX1_laysTails_97 : decode cX1_laysTails 97 = .ok (.iload_n 3, 1) := by decide +kernel
theorem dX1_laysTails_98 : decode cX1_laysTails 98 = .ok (.iload 4, 2) := by decide +kernel
theorem dX1_laysTails_100 : decode cX1_laysTails 100 = .ok (.if_icmp .le 7, 3) := by decide +kernel
theorem dX1_laysTails_103 : decode cX1_laysTails 103 = .ok (.iload_n 3, 1) := by decide +kernel
theorem dX1_laysTails_104 : decode cX1_laysTails 104 = .ok (.goto 5, 3) := by decide +kernel
theorem dX1_laysTails_107 : decode cX1_laysTails 107 = .ok (.iload 4, 2) := by decide +kernel
theorem dX1_laysTails_109 : decode cX1_laysTails 109 = .ok (.iadd, 1) := by decide +kernel
theorem dX1_laysTails_110 : decode cX1_laysTails 110 = .ok (.iastore, 1) := by decide +kernel
theorem dX1_laysTails_111 : decode cX1_laysTails 111 = .ok (.iinc 2 (-1), 3) := by decide +kernel
theorem dX1_laysTails_114 : decode cX1_laysTails 114 = .ok (.goto (-96), 3) := by decide +kernel
theorem dX1_laysTails_117 : decode cX1_laysTails 117 = .ok (.iinc 1 (-1), 3) := by decide +kernel
theorem dX1_laysTails_120 : decode cX1_laysTails 120 = .ok (.goto (-113), 3) := by decide +kernel
theorem dX1_laysTails_123 : decode cX1_laysTails 123 = .ok (.return_, 1) := by decide +kernel
set_option maxRecDepth 20000 in
theorem ggX1_head_X1_isOf : GoodIn wsX1_head wsX1_isOf := goodIn_r _ [7, 8, 9, 10, 11, 6, 12, 43, 44, 45, 46, 47, 48, 49, 50, 51, 52] (by decide +kernel) (by decide +kernel)
set_option maxRecDepth 20000 in
theorem gX1_head_X1_isOf : GoodIn wsX1_head (wsV RX1 42 RX1 yX1_isOf wsX1_isOf) := goodIn_app (goodIn_of _ (by decide +kernel)) ggX1_head_X1_isOf
set_option maxRecDepth 20000 in
theorem ggX1_head_X1_plain : GoodIn wsX1_head wsX1_plain := goodIn_r _ [16, 2, 8, 17, 18, 19, 6, 20, 9, 21, 22, 23, 24, 25, 26, 27, 28, 29, 30, 31, 32, 33, 34, 35, 36, 37, 38, 39, 40, 41, 42, 43, 44, 45, 46, 47, 48, 49, 50, 51, 52] (by decide +kernel) (by decide +kernel)
set_option maxRecDepth 20000 in
theorem gX1_head_X1_plain : GoodIn wsX1_head (wsV RX1 89 RX1 yX1_plain wsX1_plain) := goodIn_app (goodIn_of _ (by decide +kernel)) ggX1_head_X1_plain
set_option maxRecDepth 20000 in
theorem ggX1_head_X1_endOf : GoodIn wsX1_head wsX1_endOf := goodIn_r _ [33, 26, 27, 28, 6, 29, 21, 34, 35, 36, 37, 38, 43, 44, 45, 46, 47, 48, 49, 50, 51, 52] (by decide +kernel) (by decide +kernel)
set_option maxRecDepth 20000 in
theorem gX1_head_X1_endOf : GoodIn wsX1_head (wsV RX1 57 RX1 yX1_endOf wsX1_endOf) := goodIn_app (goodIn_of _ (by decide +kernel)) ggX1_head_X1_endOf
theorem dX1_head_0 : decode cX1_head 0 = .ok (.aload_n 0, 1) := by decide +kernel
theorem dX1_head_1 : decode cX1_head 1 = .ok (.aload_n 0, 1) := by decide +kernel
theorem dX1_head_2 : decode cX1_head 2 = .ok (.iload_n 1, 1) := by decide +kernel
theorem dX1_head_3 : decode cX1_head 3 = .ok (.iload_n 2, 1) := by decide +kernel
theorem dX1_head_4 : decode cX1_head 4 = .ok (.invokevirtual 42, 3) := by decide +kernel
theorem dX1_head_7 : decode cX1_head 7 = .ok (.ifCond .eq 7, 3) := by decide +kernel
theorem dX1_head_10 : decode cX1_head 10 = .ok (.iconst 0, 1) := by decide +kernel
theorem dX1_head_11 : decode cX1_head 11 = .ok (.goto 4, 3) := by decide +kernel
theorem dX1_head_14 : decode cX1_head 14 = .ok (.iconst 1, 1) := by decide +kernel
theorem dX1_head_15 : decode cX1_head 15 = .ok (.putfield 32, 3) := by decide +kernel
theorem dX1_head_18 : decode cX1_head 18 = .ok (.aload_n 0, 1) := by decide +kernel
theorem dX1_head_19 : decode cX1_head 19 = .ok (.getfield 32, 3) := by decide +kernel
theorem dX1_head_22 : decode cX1_head 22 = .ok (.ifCond .le 5, 3) := by decide +kernel
theorem dX1_head_25 : decode cX1_head 25 = .ok (.iconst 0, 1) := by decide +kernel
theorem dX1_head_26 : decode cX1_head 26 = .ok (.ireturn, 1) := by decide +kernel
theorem dX1_head_27 : decode cX1_head 27 = .ok (.aload_n 0, 1) := by decide +kernel
theorem dX1_head_28 : decode cX1_head 28 = .ok (.invokevirtual 89, 3) := by decide +kernel
theorem dX1_head_31 : decode cX1_head 31 = .ok (.pop, 1) := by decide +kernel
theorem dX1_head_32 : decode cX1_head 32 = .ok (.aload_n 0, 1) := by decide +kernel
theorem dX1_head_33 : decode cX1_head 33 = .ok (.aload_n 0, 1) := by decide +kernel
theorem dX1_head_34 : decode cX1_head 34 = .ok (.getfield 17, 3) := by decide +kernel
theorem dX1_head_37 : decode cX1_head 37 = .ok (.iload_n 1, 1) := by decide +kernel
theorem dX1_head_38 : decode cX1_head 38 = .ok (.iload_n 2, 1) := by decide +kernel
theorem dX1_head_39 : decode cX1_head 39 = .ok (.invokevirtual 57, 3) := by decide +kernel
theorem dX1_head_42 : decode cX1_head 42 = .ok (.ireturn, 1) := by decide +kernel
set_option maxRecDepth 20000 in
theorem ggX1_tail_X1_isOf : GoodIn wsX1_tail wsX1_isOf := goodIn_r _ [7, 8, 9, 10, 11, 6, 12, 23, 24, 25, 26, 27, 28, 29, 30, 31, 32] (by decide +kernel) (by decide +kernel)
set_option maxRecDepth 20000 in
theorem gX1_tail_X1_isOf : GoodIn wsX1_tail (wsV RX1 42 RX1 yX1_isOf wsX1_isOf) := goodIn_app (goodIn_of _ (by decide +kernel)) ggX1_tail_X1_isOf
set_option maxRecDepth 20000 in
theorem ggX1_tail_X1_laysTails : GoodIn wsX1_tail wsX1_laysTails := goodIn_r _ [16, 8, 9, 2, 17, 18, 19, 20, 6, 21, 22, 23, 24, 25, 26, 27, 28, 29, 30, 31, 32] (by decide +kernel) (by decide +kernel)
set_option maxRecDepth 20000 in
theorem gX1_tail_X1_laysTails : GoodIn wsX1_tail (wsV RX1 112 RX1 yX1_laysTails wsX1_laysTails) := goodIn_app (goodIn_of _ (by decide +kernel)) ggX1_tail_X1_laysTails
theorem dX1_tail_0 : decode cX1_tail 0 = .ok (.aload_n 0, 1) := by decide +kernel
theorem dX1_tail_1 : decode cX1_tail 1 = .ok (.aload_n 0, 1) := by decide +kernel
theorem dX1_tail_2 : decode cX1_tail 2 = .ok (.iload_n 1, 1) := by decide +kernel
theorem dX1_tail_3 : decode cX1_tail 3 = .ok (.iload_n 2, 1) := by decide +kernel
theorem dX1_tail_4 : decode cX1_tail 4 = .ok (.invokevirtual 42, 3) := by decide +kernel
theorem dX1_tail_7 : decode cX1_tail 7 = .ok (.ifCond .eq 7, 3) := by decide +kernel
theorem dX1_tail_10 : decode cX1_tail 10 = .ok (.iconst 0, 1) := by decide +kernel
theorem dX1_tail_11 : decode cX1_tail 11 = .ok (.goto 4, 3) := by decide +kernel
theorem dX1_tail_14 : decode cX1_tail 14 = .ok (.iconst 1, 1) := by decide +kernel
theorem dX1_tail_15 : decode cX1_tail 15 = .ok (.putfield 32, 3) := by decide +kernel
theorem dX1_tail_18 : decode cX1_tail 18 = .ok (.aload_n 0, 1) := by decide +kernel
theorem dX1_tail_19 : decode cX1_tail 19 = .ok (.invokevirtual 112, 3) := by decide +kernel
theorem dX1_tail_22 : decode cX1_tail 22 = .ok (.aload_n 0, 1) := by decide +kernel
theorem dX1_tail_23 : decode cX1_tail 23 = .ok (.getfield 32, 3) := by decide +kernel
theorem dX1_tail_26 : decode cX1_tail 26 = .ok (.ifCond .le 7, 3) := by decide +kernel
theorem dX1_tail_29 : decode cX1_tail 29 = .ok (.iconst 0, 1) := by decide +kernel
theorem dX1_tail_30 : decode cX1_tail 30 = .ok (.goto 13, 3) := by decide +kernel
theorem dX1_tail_33 : decode cX1_tail 33 = .ok (.aload_n 0, 1) := by decide +kernel
theorem dX1_tail_34 : decode cX1_tail 34 = .ok (.getfield 23, 3) := by decide +kernel
theorem dX1_tail_37 : decode cX1_tail 37 = .ok (.iconst 5, 1) := by decide +kernel
theorem dX1_tail_38 : decode cX1_tail 38 = .ok (.iload_n 1, 1) := by decide +kernel
theorem dX1_tail_39 : decode cX1_tail 39 = .ok (.imul, 1) := by decide +kernel
theorem dX1_tail_40 : decode cX1_tail 40 = .ok (.iload_n 2, 1) := by decide +kernel
theorem dX1_tail_41 : decode cX1_tail 41 = .ok (.iadd, 1) := by decide +kernel
theorem dX1_tail_42 : decode cX1_tail 42 = .ok (.iaload, 1) := by decide +kernel
theorem dX1_tail_43 : decode cX1_tail 43 = .ok (.ireturn, 1) := by decide +kernel
set_option maxRecDepth 20000 in
theorem ggX1_isCritical_X1_isOf : GoodIn wsX1_isCritical wsX1_isOf := goodIn_r _ [7, 8, 9, 10, 11, 6, 12, 48, 49, 50, 51, 52, 53, 54, 55, 56, 57] (by decide +kernel) (by decide +kernel)
set_option maxRecDepth 20000 in
theorem gX1_isCritical_X1_isOf : GoodIn wsX1_isCritical (wsV RX1 42 RX1 yX1_isOf wsX1_isOf) := goodIn_app (goodIn_of _ (by decide +kernel)) ggX1_isCritical_X1_isOf
set_option maxRecDepth 20000 in
theorem ggX1_isCritical_X1_plain : GoodIn wsX1_isCritical wsX1_plain := goodIn_r _ [16, 17, 8, 18, 19, 20, 6, 21, 9, 22, 23, 24, 25, 26, 27, 28, 29, 30, 31, 32, 33, 34, 35, 36, 37, 38, 39, 40, 41, 42, 43, 48, 49, 50, 51, 52, 53, 54, 55, 56, 57] (by decide +kernel) (by decide +kernel)
set_option maxRecDepth 20000 in
theorem gX1_isCritical_X1_plain : GoodIn wsX1_isCritical (wsV RX1 89 RX1 yX1_plain wsX1_plain) := goodIn_app (goodIn_of _ (by decide +kernel)) ggX1_isCritical_X1_plain
set_option maxRecDepth 20000 in
theorem ggX1_isCritical_X1_laysTails : GoodIn wsX1_isCritical wsX1_laysTails := goodIn_r _ [47, 8, 9, 2, 17, 35, 36, 37, 6, 38, 39, 48, 49, 50, 51, 52, 53, 54, 55, 56, 57] (by decide +kernel) (by decide +kernel)
set_option maxRecDepth 20000 in
theorem gX1_isCritical_X1_laysTails : GoodIn wsX1_isCritical (wsV RX1 112 RX1 yX1_laysTails wsX1_laysTails) := goodIn_app (goodIn_of _ (by decide +kernel)) ggX1_isCritical_X1_laysTails
set_option maxRecDepth 20000 in
theorem ggX1_isCritical_X1_startOf : GoodIn wsX1_isCritical wsX1_startOf := goodIn_r _ [30, 22, 48, 49, 50, 51, 52, 53, 54, 55, 56, 57] (by decide +kernel) (by decide +kernel)
set_option maxRecDepth 20000 in
theorem gX1_isCritical_X1_startOf : GoodIn wsX1_isCritical (wsV RX1 54 RX1 yX1_startOf wsX1_startOf) := goodIn_app (goodIn_of _ (by decide +kernel)) ggX1_isCritical_X1_startOf
theorem dX1_isCritical_0 : decode cX1_isCritical 0 = .ok (.aload_n 0, 1) := by decide +kernel
theorem dX1_isCritical_1 : decode cX1_isCritical 1 = .ok (.aload_n 0, 1) := by decide +kernel
theorem dX1_isCritical_2 : decode cX1_isCritical 2 = .ok (.iload_n 1, 1) := by decide +kernel
theorem dX1_isCritical_3 : decode cX1_isCritical 3 = .ok (.iload_n 2, 1) := by decide +kernel
theorem dX1_isCritical_4 : decode cX1_isCritical 4 = .ok (.invokevirtual 42, 3) := by decide +kernel
theorem dX1_isCritical_7 : decode cX1_isCritical 7 = .ok (.ifCond .eq 7, 3) := by decide +kernel
theorem dX1_isCritical_10 : decode cX1_isCritical 10 = .ok (.iconst 0, 1) := by decide +kernel
theorem dX1_isCritical_11 : decode cX1_isCritical 11 = .ok (.goto 4, 3) := by decide +kernel
theorem dX1_isCritical_14 : decode cX1_isCritical 14 = .ok (.iconst 1, 1) := by decide +kernel
theorem dX1_isCritical_15 : decode cX1_isCritical 15 = .ok (.putfield 32, 3) := by decide +kernel
theorem dX1_isCritical_18 : decode cX1_isCritical 18 = .ok (.aload_n 0, 1) := by decide +kernel
theorem dX1_isCritical_19 : decode cX1_isCritical 19 = .ok (.getfield 32, 3) := by decide +kernel
theorem dX1_isCritical_22 : decode cX1_isCritical 22 = .ok (.ifCond .le 5, 3) := by decide +kernel
theorem dX1_isCritical_25 : decode cX1_isCritical 25 = .ok (.iconst 0, 1) := by decide +kernel
theorem dX1_isCritical_26 : decode cX1_isCritical 26 = .ok (.ireturn, 1) := by decide +kernel
theorem dX1_isCritical_27 : decode cX1_isCritical 27 = .ok (.aload_n 0, 1) := by decide +kernel
theorem dX1_isCritical_28 : decode cX1_isCritical 28 = .ok (.invokevirtual 89, 3) := by decide +kernel
theorem dX1_isCritical_31 : decode cX1_isCritical 31 = .ok (.istore_n 3, 1) := by decide +kernel
theorem dX1_isCritical_32 : decode cX1_isCritical 32 = .ok (.aload_n 0, 1) := by decide +kernel
theorem dX1_isCritical_33 : decode cX1_isCritical 33 = .ok (.invokevirtual 112, 3) := by decide +kernel
theorem dX1_isCritical_36 : decode cX1_isCritical 36 = .ok (.aload_n 0, 1) := by decide +kernel
theorem dX1_isCritical_37 : decode cX1_isCritical 37 = .ok (.iload_n 1, 1) := by decide +kernel
theorem dX1_isCritical_38 : decode cX1_isCritical 38 = .ok (.iload_n 2, 1) := by decide +kernel
theorem dX1_isCritical_39 : decode cX1_isCritical 39 = .ok (.invokevirtual 54, 3) := by decide +kernel
theorem dX1_isCritical_42 : decode cX1_isCritical 42 = .ok (.aload_n 0, 1) := by decide +kernel
theorem dX1_isCritical_43 : decode cX1_isCritical 43 = .ok (.getfield 23, 3) := by decide +kernel
theorem dX1_isCritical_46 : decode cX1_isCritical 46 = .ok (.iconst 5, 1) := by decide +kernel
theorem dX1_isCritical_47 : decode cX1_isCritical 47 = .ok (.iload_n 1, 1) := by decide +kernel
theorem dX1_isCritical_48 : decode cX1_isCritical 48 = .ok (.imul, 1) := by decide +kernel
theorem dX1_isCritical_49 : decode cX1_isCritical 49 = .ok (.iload_n 2, 1) := by decide +kernel
theorem dX1_isCritical_50 : decode cX1_isCritical 50 = .ok (.iadd, 1) := by decide +kernel
theorem dX1_isCritical_51 : decode cX1_isCritical 51 = .ok (.iaload, 1) := by decide +kernel
theorem dX1_isCritical_52 : decode cX1_isCritical 52 = .ok (.iadd, 1) := by decide +kernel
theorem dX1_isCritical_53 : decode cX1_isCritical 53 = .ok (.iload_n 3, 1) := by decide +kernel
theorem dX1_isCritical_54 : decode cX1_isCritical 54 = .ok (.if_icmp .ne 7, 3) := by decide +kernel
theorem dX1_isCritical_57 : decode cX1_isCritical 57 = .ok (.iconst 1, 1) := by decide +kernel
theorem dX1_isCritical_58 : decode cX1_isCritical 58 = .ok (.goto 4, 3) := by decide +kernel
theorem dX1_isCritical_61 : decode cX1_isCritical 61 = .ok (.iconst 0, 1) := by decide +kernel
theorem dX1_isCritical_62 : decode cX1_isCritical 62 = .ok (.ireturn, 1) := by decide +kernel
set_option maxRecDepth 20000 in
theorem ggX1_idle_X1_isVariant : GoodIn wsX1_idle wsX1_isVariant := goodIn_r _ [8, 9, 10, 7, 11] (by decide +kernel) (by decide +kernel)
set_option maxRecDepth 20000 in
theorem gX1_idle_X1_isVariant : GoodIn wsX1_idle (va_wsS RX1 108 yX1_isVariant wsX1_isVariant) := goodIn_app (goodIn_of _ (by decide +kernel)) ggX1_idle_X1_isVariant
set_option maxRecDepth 20000 in
theorem ggX1_idle_X1_in : GoodIn wsX1_idle wsX1_in := goodIn_r _ [11] (by decide +kernel) (by decide +kernel)
set_option maxRecDepth 20000 in
theorem gX1_idle_X1_in : GoodIn wsX1_idle (va_wsS RX1 38 yX1_in wsX1_in) := goodIn_app (goodIn_of _ (by decide +kernel)) ggX1_idle_X1_in
set_option maxRecDepth 20000 in
theorem ggX1_idle_X1_lays : GoodIn wsX1_idle wsX1_lays := goodIn_r _ [15, 1, 16, 17, 18, 19, 7, 20, 21, 22, 23, 24, 25, 26, 27, 28, 29, 30, 31, 32, 33, 34, 35, 36, 37, 38, 39, 40, 41, 42, 43, 44, 45, 46, 47] (by decide +kernel) (by decide +kernel)
set_option maxRecDepth 20000 in
theorem gX1_idle_X1_lays : GoodIn wsX1_idle (wsV RX1 69 RX1 yX1_lays wsX1_lays) := goodIn_app (goodIn_of _ (by decide +kernel)) ggX1_idle_X1_lays
set_option maxRecDepth 20000 in
theorem ggX1_idle_X1_endOf : GoodIn wsX1_idle wsX1_endOf := goodIn_r _ [28, 21, 22, 23, 7, 24, 16, 29, 30, 31, 32, 33, 38, 39, 40, 41, 42, 43, 44, 45, 46, 47] (by decide +kernel) (by decide +kernel)
set_option maxRecDepth 20000 in
theorem gX1_idle_X1_endOf : GoodIn wsX1_idle (wsV RX1 57 RX1 yX1_endOf wsX1_endOf) := goodIn_app (goodIn_of _ (by decide +kernel)) ggX1_idle_X1_endOf
set_option maxRecDepth 20000 in
theorem ggX1_idle_X1_startOf : GoodIn wsX1_idle wsX1_startOf := goodIn_r _ [24, 16, 38, 39, 40, 41, 42, 43, 44, 45, 46, 47] (by decide +kernel) (by decide +kernel)
set_option maxRecDepth 20000 in
theorem gX1_idle_X1_startOf : GoodIn wsX1_idle (wsV RX1 54 RX1 yX1_startOf wsX1_startOf) := goodIn_app (goodIn_of _ (by decide +kernel)) ggX1_idle_X1_startOf
set_option maxRecDepth 20000 in
theorem ggX1_idle_X1_timeOf : GoodIn wsX1_idle wsX1_timeOf := goodIn_r _ [32, 33, 38, 39, 40, 41, 42, 43, 44, 45, 46, 47] (by decide +kernel) (by decide +kernel)
set_option maxRecDepth 20000 in
theorem gX1_idle_X1_timeOf : GoodIn wsX1_idle (wsV RX1 46 RX1 yX1_timeOf wsX1_timeOf) := goodIn_app (goodIn_of _ (by decide +kernel)) ggX1_idle_X1_timeOf
theorem dX1_idle_0 : decode cX1_idle 0 = .ok (.aload_n 0, 1) := by decide +kernel
theorem dX1_idle_1 : decode cX1_idle 1 = .ok (.iload_n 1, 1) := by decide +kernel
theorem dX1_idle_2 : decode cX1_idle 2 = .ok (.invokestatic 108, 3) := by decide +kernel
theorem dX1_idle_5 : decode cX1_idle 5 = .ok (.ifCond .ne 7, 3) := by decide +kernel
theorem dX1_idle_8 : decode cX1_idle 8 = .ok (.iconst 1, 1) := by decide +kernel
theorem dX1_idle_9 : decode cX1_idle 9 = .ok (.goto 22, 3) := by decide +kernel
theorem dX1_idle_12 : decode cX1_idle 12 = .ok (.iload_n 2, 1) := by decide +kernel
theorem dX1_idle_13 : decode cX1_idle 13 = .ok (.iconst 0, 1) := by decide +kernel
theorem dX1_idle_14 : decode cX1_idle 14 = .ok (.aload_n 0, 1) := by decide +kernel
theorem dX1_idle_15 : decode cX1_idle 15 = .ok (.getfield 7, 3) := by decide +kernel
theorem dX1_idle_18 : decode cX1_idle 18 = .ok (.iconst 1, 1) := by decide +kernel
theorem dX1_idle_19 : decode cX1_idle 19 = .ok (.isub, 1) := by decide +kernel
theorem dX1_idle_20 : decode cX1_idle 20 = .ok (.invokestatic 38, 3) := by decide +kernel
theorem dX1_idle_23 : decode cX1_idle 23 = .ok (.ifCond .eq 7, 3) := by decide +kernel
theorem dX1_idle_26 : decode cX1_idle 26 = .ok (.iconst 0, 1) := by decide +kernel
theorem dX1_idle_27 : decode cX1_idle 27 = .ok (.goto 4, 3) := by decide +kernel
theorem dX1_idle_30 : decode cX1_idle 30 = .ok (.iconst 2, 1) := by decide +kernel
theorem dX1_idle_31 : decode cX1_idle 31 = .ok (.putfield 32, 3) := by decide +kernel
theorem dX1_idle_34 : decode cX1_idle 34 = .ok (.aload_n 0, 1) := by decide +kernel
theorem dX1_idle_35 : decode cX1_idle 35 = .ok (.getfield 32, 3) := by decide +kernel
theorem dX1_idle_38 : decode cX1_idle 38 = .ok (.ifCond .gt 10, 3) := by decide +kernel
theorem dX1_idle_41 : decode cX1_idle 41 = .ok (.aload_n 0, 1) := by decide +kernel
theorem dX1_idle_42 : decode cX1_idle 42 = .ok (.getfield 35, 3) := by decide +kernel
theorem dX1_idle_45 : decode cX1_idle 45 = .ok (.ifCond .ne 5, 3) := by decide +kernel
theorem dX1_idle_48 : decode cX1_idle 48 = .ok (.iconst 0, 1) := by decide +kernel
theorem dX1_idle_49 : decode cX1_idle 49 = .ok (.ireturn, 1) := by decide +kernel
theorem dX1_idle_50 : decode cX1_idle 50 = .ok (.aload_n 0, 1) := by decide +kernel
theorem dX1_idle_51 : decode cX1_idle 51 = .ok (.iload_n 1, 1) := by decide +kernel
theorem dX1_idle_52 : decode cX1_idle 52 = .ok (.aload_n 0, 1) := by decide +kernel
theorem dX1_idle_53 : decode cX1_idle 53 = .ok (.getfield 17, 3) := by decide +kernel
theorem dX1_idle_56 : decode cX1_idle 56 = .ok (.aload_n 0, 1) := by decide +kernel
theorem dX1_idle_57 : decode cX1_idle 57 = .ok (.getfield 35, 3) := by decide +kernel
theorem dX1_idle_60 : decode cX1_idle 60 = .ok (.invokevirtual 69, 3) := by decide +kernel
theorem dX1_idle_63 : decode cX1_idle 63 = .ok (.pop, 1) := by decide +kernel
theorem dX1_idle_64 : decode cX1_idle 64 = .ok (.aload_n 0, 1) := by decide +kernel
theorem dX1_idle_65 : decode cX1_idle 65 = .ok (.aload_n 0, 1) := by decide +kernel
theorem dX1_idle_66 : decode cX1_idle 66 = .ok (.getfield 17, 3) := by decide +kernel
theorem dX1_idle_69 : decode cX1_idle 69 = .ok (.aload_n 0, 1) := by decide +kernel
theorem dX1_idle_70 : decode cX1_idle 70 = .ok (.getfield 35, 3) := by decide +kernel
theorem dX1_idle_73 : decode cX1_idle 73 = .ok (.iconst 1, 1) := by decide +kernel
theorem dX1_idle_74 : decode cX1_idle 74 = .ok (.isub, 1) := by decide +kernel
theorem dX1_idle_75 : decode cX1_idle 75 = .ok (.iload_n 2, 1) := by decide +kernel
theorem dX1_idle_76 : decode cX1_idle 76 = .ok (.invokevirtual 57, 3) := by decide +kernel
theorem dX1_idle_79 : decode cX1_idle 79 = .ok (.aload_n 0, 1) := by decide +kernel
theorem dX1_idle_80 : decode cX1_idle 80 = .ok (.iconst 0, 1) := by decide +kernel
theorem dX1_idle_81 : decode cX1_idle 81 = .ok (.iload_n 2, 1) := by decide +kernel
theorem dX1_idle_82 : decode cX1_idle 82 = .ok (.invokevirtual 54, 3) := by decide +kernel
theorem dX1_idle_85 : decode cX1_idle 85 = .ok (.isub, 1) := by decide +kernel
theorem dX1_idle_86 : decode cX1_idle 86 = .ok (.istore_n 3, 1) := by decide +kernel
theorem dX1_idle_87 : decode cX1_idle 87 = .ok (.iconst 0, 1) := by decide +kernel
theorem dX1_idle_88 : decode cX1_idle 88 = .ok (.istore 4, 2) := by decide +kernel
theorem dX1_idle_90 : decode cX1_idle 90 = .ok (.iload 4, 2) := by decide +kernel
theorem dX1_idle_92 : decode cX1_idle 92 = .ok (.aload_n 0, 1) := by decide +kernel
theorem dX1_idle_93 : decode cX1_idle 93 = .ok (.getfield 35, 3) := by decide +kernel
theorem dX1_idle_96 : decode cX1_idle 96 = .ok (.if_icmp .ge 19, 3) := by decide +kernel
theorem dX1_idle_99 : decode cX1_idle 99 = .ok (.iload_n 3, 1) := by decide +kernel
theorem dX1_idle_100 : decode cX1_idle 100 = .ok (.aload_n 0, 1) := by decide +kernel
theorem dX1_idle_101 : decode cX1_idle 101 = .ok (.iload 4, 2) := by decide +kernel
theorem dX1_idle_103 : decode cX1_idle 103 = .ok (.iload_n 2, 1) := by decide +kernel
theorem dX1_idle_104 : decode cX1_idle 104 = .ok (.invokevirtual 46, 3) := by decide +kernel
theorem dX1_idle_107 : decode cX1_idle 107 = .ok (.isub, 1) := by decide +kernel
theorem dX1_idle_108 : decode cX1_idle 108 = .ok (.istore_n 3, 1) := by decide +kernel
theorem dX1_idle_109 : decode cX1_idle 109 = .ok (.iinc 4 1, 3) := by decide +kernel
theorem dX1_idle_112 : decode cX1_idle 112 = .ok (.goto (-22), 3) := by decide +kernel
theorem dX1_idle_115 : decode cX1_idle 115 = .ok (.iload_n 3, 1) := by decide +kernel
theorem dX1_idle_116 : decode cX1_idle 116 = .ok (.ireturn, 1) := by decide +kernel
set_option maxRecDepth 20000 in
theorem ggX1_leastSum_X1_sumOf : GoodIn wsX1_leastSum wsX1_sumOf := goodIn_r _ [7, 8, 9, 10, 6, 11, 12, 13, 14, 15, 16, 17, 18, 19, 20, 21, 22] (by decide +kernel) (by decide +kernel)
set_option maxRecDepth 20000 in
theorem gX1_leastSum_X1_sumOf : GoodIn wsX1_leastSum (wsV RX1 93 RX1 yX1_sumOf wsX1_sumOf) := goodIn_app (goodIn_of _ (by decide +kernel)) ggX1_leastSum_X1_sumOf
theorem dX1_leastSum_0 : decode cX1_leastSum 0 = .ok (.ldc 100, 2) := by decide +kernel
theorem dX1_leastSum_2 : decode cX1_leastSum 2 = .ok (.istore_n 3, 1) := by decide +kernel
theorem dX1_leastSum_3 : decode cX1_leastSum 3 = .ok (.iconst 0, 1) := by decide +kernel
theorem dX1_leastSum_4 : decode cX1_leastSum 4 = .ok (.istore 4, 2) := by decide +kernel
theorem dX1_leastSum_6 : decode cX1_leastSum 6 = .ok (.iload 4, 2) := by decide +kernel
theorem dX1_leastSum_8 : decode cX1_leastSum 8 = .ok (.aload_n 0, 1) := by decide +kernel
theorem dX1_leastSum_9 : decode cX1_leastSum 9 = .ok (.getfield 35, 3) := by decide +kernel
theorem dX1_leastSum_12 : decode cX1_leastSum 12 = .ok (.if_icmp .ge 34, 3) := by decide +kernel
theorem dX1_leastSum_15 : decode cX1_leastSum 15 = .ok (.aload_n 0, 1) := by decide +kernel
theorem dX1_leastSum_16 : decode cX1_leastSum 16 = .ok (.iload 4, 2) := by decide +kernel
theorem dX1_leastSum_18 : decode cX1_leastSum 18 = .ok (.iload_n 1, 1) := by decide +kernel
theorem dX1_leastSum_19 : decode cX1_leastSum 19 = .ok (.iload_n 2, 1) := by decide +kernel
theorem dX1_leastSum_20 : decode cX1_leastSum 20 = .ok (.invokevirtual 93, 3) := by decide +kernel
theorem dX1_leastSum_23 : decode cX1_leastSum 23 = .ok (.iload_n 3, 1) := by decide +kernel
theorem dX1_leastSum_24 : decode cX1_leastSum 24 = .ok (.if_icmp .ge 14, 3) := by decide +kernel
theorem dX1_leastSum_27 : decode cX1_leastSum 27 = .ok (.aload_n 0, 1) := by decide +kernel
theorem dX1_leastSum_28 : decode cX1_leastSum 28 = .ok (.iload 4, 2) := by decide +kernel
theorem dX1_leastSum_30 : decode cX1_leastSum 30 = .ok (.iload_n 1, 1) := by decide +kernel
theorem dX1_leastSum_31 : decode cX1_leastSum 31 = .ok (.iload_n 2, 1) := by decide +kernel
theorem dX1_leastSum_32 : decode cX1_leastSum 32 = .ok (.invokevirtual 93, 3) := by decide +kernel
theorem dX1_leastSum_35 : decode cX1_leastSum 35 = .ok (.goto 4, 3) := by decide +kernel
theorem dX1_leastSum_38 : decode cX1_leastSum 38 = .ok (.iload_n 3, 1) := by decide +kernel
theorem dX1_leastSum_39 : decode cX1_leastSum 39 = .ok (.istore_n 3, 1) := by decide +kernel
theorem dX1_leastSum_40 : decode cX1_leastSum 40 = .ok (.iinc 4 1, 3) := by decide +kernel
theorem dX1_leastSum_43 : decode cX1_leastSum 43 = .ok (.goto (-37), 3) := by decide +kernel
theorem dX1_leastSum_46 : decode cX1_leastSum 46 = .ok (.iload_n 3, 1) := by decide +kernel
theorem dX1_leastSum_47 : decode cX1_leastSum 47 = .ok (.ireturn, 1) := by decide +kernel
set_option maxRecDepth 20000 in
theorem ggX1_machineBound_X1_in : GoodIn wsX1_machineBound wsX1_in := goodIn_r _ [7] (by decide +kernel) (by decide +kernel)
set_option maxRecDepth 20000 in
theorem gX1_machineBound_X1_in : GoodIn wsX1_machineBound (va_wsS RX1 38 yX1_in wsX1_in) := goodIn_app (goodIn_of _ (by decide +kernel)) ggX1_machineBound_X1_in
set_option maxRecDepth 20000 in
theorem ggX1_machineBound_X1_leastSum : GoodIn wsX1_machineBound wsX1_leastSum := goodIn_r _ [11, 12, 3, 13, 14, 15, 6, 16, 17, 18, 19, 20, 21, 22, 23, 24, 25, 26, 27, 28, 29, 30, 31] (by decide +kernel) (by decide +kernel)
set_option maxRecDepth 20000 in
theorem gX1_machineBound_X1_leastSum : GoodIn wsX1_machineBound (wsV RX1 115 RX1 yX1_leastSum wsX1_leastSum) := goodIn_app (goodIn_of _ (by decide +kernel)) ggX1_machineBound_X1_leastSum
set_option maxRecDepth 20000 in
theorem ggX1_machineBound_X1_timeOf : GoodIn wsX1_machineBound wsX1_timeOf := goodIn_r _ [20, 21, 22, 23, 24, 25, 26, 27, 28, 29, 30, 31] (by decide +kernel) (by decide +kernel)
set_option maxRecDepth 20000 in
theorem gX1_machineBound_X1_timeOf : GoodIn wsX1_machineBound (wsV RX1 46 RX1 yX1_timeOf wsX1_timeOf) := goodIn_app (goodIn_of _ (by decide +kernel)) ggX1_machineBound_X1_timeOf
theorem dX1_machineBound_0 : decode cX1_machineBound 0 = .ok (.aload_n 0, 1) := by decide +kernel
theorem dX1_machineBound_1 : decode cX1_machineBound 1 = .ok (.iload_n 1, 1) := by decide +kernel
theorem dX1_machineBound_2 : decode cX1_machineBound 2 = .ok (.iconst 0, 1) := by decide +kernel
theorem dX1_machineBound_3 : decode cX1_machineBound 3 = .ok (.aload_n 0, 1) := by decide +kernel
theorem dX1_machineBound_4 : decode cX1_machineBound 4 = .ok (.getfield 7, 3) := by decide +kernel
theorem dX1_machineBound_7 : decode cX1_machineBound 7 = .ok (.iconst 1, 1) := by decide +kernel
theorem dX1_machineBound_8 : decode cX1_machineBound 8 = .ok (.isub, 1) := by decide +kernel
theorem dX1_machineBound_9 : decode cX1_machineBound 9 = .ok (.invokestatic 38, 3) := by decide +kernel
theorem dX1_machineBound_12 : decode cX1_machineBound 12 = .ok (.ifCond .eq 7, 3) := by decide +kernel
theorem dX1_machineBound_15 : decode cX1_machineBound 15 = .ok (.iconst 0, 1) := by decide +kernel
theorem dX1_machineBound_16 : decode cX1_machineBound 16 = .ok (.goto 4, 3) := by decide +kernel
theorem dX1_machineBound_19 : decode cX1_machineBound 19 = .ok (.iconst 1, 1) := by decide +kernel
theorem dX1_machineBound_20 : decode cX1_machineBound 20 = .ok (.putfield 32, 3) := by decide +kernel
theorem dX1_machineBound_23 : decode cX1_machineBound 23 = .ok (.aload_n 0, 1) := by decide +kernel
theorem dX1_machineBound_24 : decode cX1_machineBound 24 = .ok (.getfield 32, 3) := by decide +kernel
theorem dX1_machineBound_27 : decode cX1_machineBound 27 = .ok (.ifCond .gt 10, 3) := by decide +kernel
theorem dX1_machineBound_30 : decode cX1_machineBound 30 = .ok (.aload_n 0, 1) := by decide +kernel
theorem dX1_machineBound_31 : decode cX1_machineBound 31 = .ok (.getfield 35, 3) := by decide +kernel
theorem dX1_machineBound_34 : decode cX1_machineBound 34 = .ok (.ifCond .ne 5, 3) := by decide +kernel
theorem dX1_machineBound_37 : decode cX1_machineBound 37 = .ok (.iconst 0, 1) := by decide +kernel
theorem dX1_machineBound_38 : decode cX1_machineBound 38 = .ok (.ireturn, 1) := by decide +kernel
theorem dX1_machineBound_39 : decode cX1_machineBound 39 = .ok (.aload_n 0, 1) := by decide +kernel
theorem dX1_machineBound_40 : decode cX1_machineBound 40 = .ok (.iconst 0, 1) := by decide +kernel
theorem dX1_machineBound_41 : decode cX1_machineBound 41 = .ok (.iload_n 1, 1) := by decide +kernel
theorem dX1_machineBound_42 : decode cX1_machineBound 42 = .ok (.invokevirtual 115, 3) := by decide +kernel
theorem dX1_machineBound_45 : decode cX1_machineBound 45 = .ok (.aload_n 0, 1) := by decide +kernel
theorem dX1_machineBound_46 : decode cX1_machineBound 46 = .ok (.iload_n 1, 1) := by decide +kernel
theorem dX1_machineBound_47 : decode cX1_machineBound 47 = .ok (.iconst 1, 1) := by decide +kernel
theorem dX1_machineBound_48 : decode cX1_machineBound 48 = .ok (.iadd, 1) := by decide +kernel
theorem dX1_machineBound_49 : decode cX1_machineBound 49 = .ok (.aload_n 0, 1) := by decide +kernel
theorem dX1_machineBound_50 : decode cX1_machineBound 50 = .ok (.getfield 7, 3) := by decide +kernel
theorem dX1_machineBound_53 : decode cX1_machineBound 53 = .ok (.invokevirtual 115, 3) := by decide +kernel
theorem dX1_machineBound_56 : decode cX1_machineBound 56 = .ok (.iadd, 1) := by decide +kernel
theorem dX1_machineBound_57 : decode cX1_machineBound 57 = .ok (.istore_n 2, 1) := by decide +kernel
theorem dX1_machineBound_58 : decode cX1_machineBound 58 = .ok (.iconst 0, 1) := by decide +kernel
theorem dX1_machineBound_59 : decode cX1_machineBound 59 = .ok (.istore_n 3, 1) := by decide +kernel
theorem dX1_machineBound_60 : decode cX1_machineBound 60 = .ok (.iload_n 3, 1) := by decide +kernel
theorem dX1_machineBound_61 : decode cX1_machineBound 61 = .ok (.aload_n 0, 1) := by decide +kernel
theorem dX1_machineBound_62 : decode cX1_machineBound 62 = .ok (.getfield 35, 3) := by decide +kernel
theorem dX1_machineBound_65 : decode cX1_machineBound 65 = .ok (.if_icmp .ge 18, 3) := by decide +kernel
theorem dX1_machineBound_68 : decode cX1_machineBound 68 = .ok (.iload_n 2, 1) := by decide +kernel
theorem dX1_machineBound_69 : decode cX1_machineBound 69 = .ok (.aload_n 0, 1) := by decide +kernel
theorem dX1_machineBound_70 : decode cX1_machineBound 70 = .ok (.iload_n 3, 1) := by decide +kernel
theorem dX1_machineBound_71 : decode cX1_machineBound 71 = .ok (.iload_n 1, 1) := by decide +kernel
theorem dX1_machineBound_72 : decode cX1_machineBound 72 = .ok (.invokevirtual 46, 3) := by decide +kernel
theorem dX1_machineBound_75 : decode cX1_machineBound 75 = .ok (.iadd, 1) := by decide +kernel
theorem dX1_machineBound_76 : decode cX1_machineBound 76 = .ok (.istore_n 2, 1) := by decide +kernel
theorem dX1_machineBound_77 : decode cX1_machineBound 77 = .ok (.iinc 3 1, 3) := by decide +kernel
theorem dX1_machineBound_80 : decode cX1_machineBound 80 = .ok (.goto (-20), 3) := by decide +kernel
theorem dX1_machineBound_83 : decode cX1_machineBound 83 = .ok (.iload_n 2, 1) := by decide +kernel
theorem dX1_machineBound_84 : decode cX1_machineBound 84 = .ok (.ireturn, 1) := by decide +kernel
theorem dX1_startsTrial_0 : decode cX1_startsTrial 0 = .ok (.iconst 0, 1) := by decide +kernel
theorem dX1_startsTrial_1 : decode cX1_startsTrial 1 = .ok (.istore_n 1, 1) := by decide +kernel
theorem dX1_startsTrial_2 : decode cX1_startsTrial 2 = .ok (.iload_n 1, 1) := by decide +kernel
theorem dX1_startsTrial_3 : decode cX1_startsTrial 3 = .ok (.aload_n 0, 1) := by decide +kernel
theorem dX1_startsTrial_4 : decode cX1_startsTrial 4 = .ok (.getfield 35, 3) := by decide +kernel
theorem dX1_startsTrial_7 : decode cX1_startsTrial 7 = .ok (.if_icmp .ge 16, 3) := by decide +kernel
theorem dX1_startsTrial_10 : decode cX1_startsTrial 10 = .ok (.aload_n 0, 1) := by decide +kernel
theorem dX1_startsTrial_11 : decode cX1_startsTrial 11 = .ok (.getfield 26, 3) := by decide +kernel
theorem dX1_startsTrial_14 : decode cX1_startsTrial 14 = .ok (.iload_n 1, 1) := by decide +kernel
theorem dX1_startsTrial_15 : decode cX1_startsTrial 15 = .ok (.iload_n 1, 1) := by decide +kernel
theorem dX1_startsTrial_16 : decode cX1_startsTrial 16 = .ok (.iastore, 1) := by decide +kernel
theorem dX1_startsTrial_17 : decode cX1_startsTrial 17 = .ok (.iinc 1 1, 3) := by decide +kernel
theorem dX1_startsTrial_20 : decode cX1_startsTrial 20 = .ok (.goto (-18), 3) := by decide +kernel
theorem dX1_startsTrial_23 : decode cX1_startsTrial 23 = .ok (.return_, 1) := by decide +kernel
set_option maxRecDepth 20000 in
theorem ggX1_goesOn_X1_swaps : GoodIn wsX1_goesOn wsX1_swaps := goodIn_r _ [7, 2, 8, 9, 10, 11, 12, 13, 14, 15, 16, 17] (by decide +kernel) (by decide +kernel)
set_option maxRecDepth 20000 in
theorem gX1_goesOn_X1_swaps : GoodIn wsX1_goesOn (wsV RX1 118 RX1 yX1_swaps wsX1_swaps) := goodIn_app (goodIn_of _ (by decide +kernel)) ggX1_goesOn_X1_swaps
theorem dX1_goesOn_0 : decode cX1_goesOn 0 = .ok (.aload_n 0, 1) := by decide +kernel
theorem dX1_goesOn_1 : decode cX1_goesOn 1 = .ok (.getfield 35, 3) := by decide +kernel
theorem dX1_goesOn_4 : decode cX1_goesOn 4 = .ok (.iconst 2, 1) := by decide +kernel
theorem dX1_goesOn_5 : decode cX1_goesOn 5 = .ok (.isub, 1) := by decide +kernel
theorem dX1_goesOn_6 : decode cX1_goesOn 6 = .ok (.istore_n 1, 1) := by decide +kernel
theorem dX1_goesOn_7 : decode cX1_goesOn 7 = .ok (.iload_n 1, 1) := by decide +kernel
theorem dX1_goesOn_8 : decode cX1_goesOn 8 = .ok (.ifCond .lt 26, 3) := by decide +kernel
theorem dX1_goesOn_11 : decode cX1_goesOn 11 = .ok (.aload_n 0, 1) := by decide +kernel
theorem dX1_goesOn_12 : decode cX1_goesOn 12 = .ok (.getfield 26, 3) := by decide +kernel
theorem dX1_goesOn_15 : decode cX1_goesOn 15 = .ok (.iload_n 1, 1) := by decide +kernel
theorem dX1_goesOn_16 : decode cX1_goesOn 16 = .ok (.iaload, 1) := by decide +kernel
theorem dX1_goesOn_17 : decode cX1_goesOn 17 = .ok (.aload_n 0, 1) := by decide +kernel
theorem dX1_goesOn_18 : decode cX1_goesOn 18 = .ok (.getfield 26, 3) := by decide +kernel
theorem dX1_goesOn_21 : decode cX1_goesOn 21 = .ok (.iload_n 1, 1) := by decide +kernel
theorem dX1_goesOn_22 : decode cX1_goesOn 22 = .ok (.iconst 1, 1) := by decide +kernel
theorem dX1_goesOn_23 : decode cX1_goesOn 23 = .ok (.iadd, 1) := by decide +kernel
theorem dX1_goesOn_24 : decode cX1_goesOn 24 = .ok (.iaload, 1) := by decide +kernel
theorem dX1_goesOn_25 : decode cX1_goesOn 25 = .ok (.if_icmp .le 9, 3) := by decide +kernel
theorem dX1_goesOn_28 : decode cX1_goesOn 28 = .ok (.iinc 1 (-1), 3) := by decide +kernel
theorem dX1_goesOn_31 : decode cX1_goesOn 31 = .ok (.goto (-24), 3) := by decide +kernel
theorem dX1_goesOn_34 : decode cX1_goesOn 34 = .ok (.iload_n 1, 1) := by decide +kernel
theorem dX1_goesOn_35 : decode cX1_goesOn 35 = .ok (.ifCond .ge 5, 3) := by decide +kernel
theorem dX1_goesOn_38 : decode cX1_goesOn 38 = .ok (.iconst 0, 1) := by decide +kernel
theorem dX1_goesOn_39 : decode cX1_goesOn 39 = .ok (.ireturn, 1) := by decide +kernel
theorem dX1_goesOn_40 : decode cX1_goesOn 40 = .ok (.aload_n 0, 1) := by decide +kernel
theorem dX1_goesOn_41 : decode cX1_goesOn 41 = .ok (.getfield 35, 3) := by decide +kernel
theorem dX1_goesOn_44 : decode cX1_goesOn 44 = .ok (.iconst 1, 1) := by decide +kernel
theorem dX1_goesOn_45 : decode cX1_goesOn 45 = .ok (.isub, 1) := by decide +kernel
theorem dX1_goesOn_46 : decode cX1_goesOn 46 = .ok (.istore_n 2, 1) := by decide +kernel
theorem dX1_goesOn_47 : decode cX1_goesOn 47 = .ok (.aload_n 0, 1) := by decide +kernel
theorem dX1_goesOn_48 : decode cX1_goesOn 48 = .ok (.getfield 26, 3) := by decide +kernel
theorem dX1_goesOn_51 : decode cX1_goesOn 51 = .ok (.iload_n 2, 1) := by decide +kernel
theorem dX1_goesOn_52 : decode cX1_goesOn 52 = .ok (.iaload, 1) := by decide +kernel
theorem dX1_goesOn_53 : decode cX1_goesOn 53 = .ok (.aload_n 0, 1) := by decide +kernel
theorem dX1_goesOn_54 : decode cX1_goesOn 54 = .ok (.getfield 26, 3) := by decide +kernel
theorem dX1_goesOn_57 : decode cX1_goesOn 57 = .ok (.iload_n 1, 1) := by decide +kernel
theorem dX1_goesOn_58 : decode cX1_goesOn 58 = .ok (.iaload, 1) := by decide +kernel
theorem dX1_goesOn_59 : decode cX1_goesOn 59 = .ok (.if_icmp .ge 9, 3) := by decide +kernel
theorem dX1_goesOn_62 : decode cX1_goesOn 62 = .ok (.iinc 2 (-1), 3) := by decide +kernel
theorem dX1_goesOn_65 : decode cX1_goesOn 65 = .ok (.goto (-18), 3) := by decide +kernel
theorem dX1_goesOn_68 : decode cX1_goesOn 68 = .ok (.aload_n 0, 1) := by decide +kernel
theorem dX1_goesOn_69 : decode cX1_goesOn 69 = .ok (.iload_n 1, 1) := by decide +kernel
theorem dX1_goesOn_70 : decode cX1_goesOn 70 = .ok (.iload_n 2, 1) := by decide +kernel
theorem dX1_goesOn_71 : decode cX1_goesOn 71 = .ok (.invokevirtual 118, 3) := by decide +kernel
theorem dX1_goesOn_74 : decode cX1_goesOn 74 = .ok (.iload_n 1, 1) := by decide +kernel
theorem dX1_goesOn_75 : decode cX1_goesOn 75 = .ok (.iconst 1, 1) := by decide +kernel
theorem dX1_goesOn_76 : decode cX1_goesOn 76 = .ok (.iadd, 1) := by decide +kernel
theorem dX1_goesOn_77 : decode cX1_goesOn 77 = .ok (.istore_n 3, 1) := by decide +kernel
theorem dX1_goesOn_78 : decode cX1_goesOn 78 = .ok (.aload_n 0, 1) := by decide +kernel
theorem dX1_goesOn_79 : decode cX1_goesOn 79 = .ok (.getfield 35, 3) := by decide +kernel
theorem dX1_goesOn_82 : decode cX1_goesOn 82 = .ok (.iconst 1, 1) := by decide +kernel
theorem dX1_goesOn_83 : decode cX1_goesOn 83 = .ok (.isub, 1) := by decide +kernel
theorem dX1_goesOn_84 : decode cX1_goesOn 84 = .ok (.istore 4, 2) := by decide +kernel
theorem dX1_goesOn_86 : decode cX1_goesOn 86 = .ok (.iload_n 3, 1) := by decide +kernel
theorem dX1_goesOn_87 : decode cX1_goesOn 87 = .ok (.iload 4, 2) := by decide +kernel
theorem dX1_goesOn_89 : decode cX1_goesOn 89 = .ok (.if_icmp .ge 19, 3) := by decide +kernel
theorem dX1_goesOn_92 : decode cX1_goesOn 92 = .ok (.aload_n 0, 1) := by decide +kernel
theorem dX1_goesOn_93 : decode cX1_goesOn 93 = .ok (.iload_n 3, 1) := by decide +kernel
theorem dX1_goesOn_94 : decode cX1_goesOn 94 = .ok (.iload 4, 2) := by decide +kernel
theorem dX1_goesOn_96 : decode cX1_goesOn 96 = .ok (.invokevirtual 118, 3) := by decide +kernel
theorem dX1_goesOn_99 : decode cX1_goesOn 99 = .ok (.iinc 4 (-1), 3) := by decide +kernel
theorem dX1_goesOn_102 : decode cX1_goesOn 102 = .ok (.iinc 3 1, 3) := by decide +kernel
theorem dX1_goesOn_105 : decode cX1_goesOn 105 = .ok (.goto (-19), 3) := by decide +kernel
theorem dX1_goesOn_108 : decode cX1_goesOn 108 = .ok (.iconst 1, 1) := by decide +kernel
theorem dX1_goesOn_109 : decode cX1_goesOn 109 = .ok (.ireturn, 1) := by decide +kernel
theorem dX1_swaps_0 : decode cX1_swaps 0 = .ok (.aload_n 0, 1) := by decide +kernel
theorem dX1_swaps_1 : decode cX1_swaps 1 = .ok (.getfield 26, 3) := by decide +kernel
theorem dX1_swaps_4 : decode cX1_swaps 4 = .ok (.iload_n 1, 1) := by decide +kernel
theorem dX1_swaps_5 : decode cX1_swaps 5 = .ok (.iaload, 1) := by decide +kernel
theorem dX1_swaps_6 : decode cX1_swaps 6 = .ok (.istore_n 3, 1) := by decide +kernel
theorem dX1_swaps_7 : decode cX1_swaps 7 = .ok (.aload_n 0, 1) := by decide +kernel
theorem dX1_swaps_8 : decode cX1_swaps 8 = .ok (.getfield 26, 3) := by decide +kernel
theorem dX1_swaps_11 : decode cX1_swaps 11 = .ok (.iload_n 1, 1) := by decide +kernel
theorem dX1_swaps_12 : decode cX1_swaps 12 = .ok (.aload_n 0, 1) := by decide +kernel
theorem dX1_swaps_13 : decode cX1_swaps 13 = .ok (.getfield 26, 3) := by decide +kernel
theorem dX1_swaps_16 : decode cX1_swaps 16 = .ok (.iload_n 2, 1) := by decide +kernel
theorem dX1_swaps_17 : decode cX1_swaps 17 = .ok (.iaload, 1) := by decide +kernel
theorem dX1_swaps_18 : decode cX1_swaps 18 = .ok (.iastore, 1) := by decide +kernel
theorem dX1_swaps_19 : decode cX1_swaps 19 = .ok (.aload_n 0, 1) := by decide +kernel
theorem dX1_swaps_20 : decode cX1_swaps 20 = .ok (.getfield 26, 3) := by decide +kernel
theorem dX1_swaps_23 : decode cX1_swaps 23 = .ok (.iload_n 2, 1) := by decide +kernel
theorem dX1_swaps_24 : decode cX1_swaps 24 = .ok (.iload_n 3, 1) := by decide +kernel
theorem dX1_swaps_25 : decode cX1_swaps 25 = .ok (.iastore, 1) := by decide +kernel
theorem dX1_swaps_26 : decode cX1_swaps 26 = .ok (.return_, 1) := by decide +kernel
set_option maxRecDepth 20000 in
theorem ggX1_onTwo_X1_timeOf : GoodIn wsX1_onTwo wsX1_timeOf := goodIn_r _ [7, 8, 9, 10, 11, 12, 13, 14, 15, 16, 17, 18] (by decide +kernel) (by decide +kernel)
set_option maxRecDepth 20000 in
theorem gX1_onTwo_X1_timeOf : GoodIn wsX1_onTwo (wsV RX1 46 RX1 yX1_timeOf wsX1_timeOf) := goodIn_app (goodIn_of _ (by decide +kernel)) ggX1_onTwo_X1_timeOf
theorem dX1_onTwo_0 : decode cX1_onTwo 0 = .ok (.iconst 0, 1) := by decide +kernel
theorem dX1_onTwo_1 : decode cX1_onTwo 1 = .ok (.istore_n 3, 1) := by decide +kernel
theorem dX1_onTwo_2 : decode cX1_onTwo 2 = .ok (.iconst 0, 1) := by decide +kernel
theorem dX1_onTwo_3 : decode cX1_onTwo 3 = .ok (.istore 4, 2) := by decide +kernel
theorem dX1_onTwo_5 : decode cX1_onTwo 5 = .ok (.iconst 0, 1) := by decide +kernel
theorem dX1_onTwo_6 : decode cX1_onTwo 6 = .ok (.istore 5, 2) := by decide +kernel
theorem dX1_onTwo_8 : decode cX1_onTwo 8 = .ok (.iload 5, 2) := by decide +kernel
theorem dX1_onTwo_10 : decode cX1_onTwo 10 = .ok (.aload_n 0, 1) := by decide +kernel
theorem dX1_onTwo_11 : decode cX1_onTwo 11 = .ok (.getfield 35, 3) := by decide +kernel
theorem dX1_onTwo_14 : decode cX1_onTwo 14 = .ok (.if_icmp .ge 51, 3) := by decide +kernel
theorem dX1_onTwo_17 : decode cX1_onTwo 17 = .ok (.iload_n 3, 1) := by decide +kernel
theorem dX1_onTwo_18 : decode cX1_onTwo 18 = .ok (.aload_n 0, 1) := by decide +kernel
theorem dX1_onTwo_19 : decode cX1_onTwo 19 = .ok (.aload_n 0, 1) := by decide +kernel
theorem dX1_onTwo_20 : decode cX1_onTwo 20 = .ok (.getfield 26, 3) := by decide +kernel
theorem dX1_onTwo_23 : decode cX1_onTwo 23 = .ok (.iload 5, 2) := by decide +kernel
theorem dX1_onTwo_25 : decode cX1_onTwo 25 = .ok (.iaload, 1) := by decide +kernel
theorem dX1_onTwo_26 : decode cX1_onTwo 26 = .ok (.iload_n 1, 1) := by decide +kernel
theorem dX1_onTwo_27 : decode cX1_onTwo 27 = .ok (.invokevirtual 46, 3) := by decide +kernel
theorem dX1_onTwo_30 : decode cX1_onTwo 30 = .ok (.iadd, 1) := by decide +kernel
theorem dX1_onTwo_31 : decode cX1_onTwo 31 = .ok (.istore_n 3, 1) := by decide +kernel
theorem dX1_onTwo_32 : decode cX1_onTwo 32 = .ok (.iload_n 3, 1) := by decide +kernel
theorem dX1_onTwo_33 : decode cX1_onTwo 33 = .ok (.iload 4, 2) := by decide +kernel
theorem dX1_onTwo_35 : decode cX1_onTwo 35 = .ok (.if_icmp .le 7, 3) := by decide +kernel
theorem dX1_onTwo_38 : decode cX1_onTwo 38 = .ok (.iload_n 3, 1) := by decide +kernel
theorem dX1_onTwo_39 : decode cX1_onTwo 39 = .ok (.goto 5, 3) := by decide +kernel
theorem dX1_onTwo_42 : decode cX1_onTwo 42 = .ok (.iload 4, 2) := by decide +kernel
theorem dX1_onTwo_44 : decode cX1_onTwo 44 = .ok (.aload_n 0, 1) := by decide +kernel
theorem dX1_onTwo_45 : decode cX1_onTwo 45 = .ok (.aload_n 0, 1) := by decide +kernel
theorem dX1_onTwo_46 : decode cX1_onTwo 46 = .ok (.getfield 26, 3) := by decide +kernel
theorem dX1_onTwo_49 : decode cX1_onTwo 49 = .ok (.iload 5, 2) := by decide +kernel
theorem dX1_onTwo_51 : decode cX1_onTwo 51 = .ok (.iaload, 1) := by decide +kernel
theorem dX1_onTwo_52 : decode cX1_onTwo 52 = .ok (.iload_n 2, 1) := by decide +kernel
theorem dX1_onTwo_53 : decode cX1_onTwo 53 = .ok (.invokevirtual 46, 3) := by decide +kernel
theorem dX1_onTwo_56 : decode cX1_onTwo 56 = .ok (.iadd, 1) := by decide +kernel
theorem dX1_onTwo_57 : decode cX1_onTwo 57 = .ok (.istore 4, 2) := by decide +kernel
theorem dX1_onTwo_59 : decode cX1_onTwo 59 = .ok (.iinc 5 1, 3) := by decide +kernel
theorem dX1_onTwo_62 : decode cX1_onTwo 62 = .ok (.goto (-54), 3) := by decide +kernel
theorem dX1_onTwo_65 : decode cX1_onTwo 65 = .ok (.iload 4, 2) := by decide +kernel
theorem dX1_onTwo_67 : decode cX1_onTwo 67 = .ok (.ireturn, 1) := by decide +kernel
set_option maxRecDepth 20000 in
theorem ggX1_pairBound_X1_in : GoodIn wsX1_pairBound wsX1_in := goodIn_r _ [8] (by decide +kernel) (by decide +kernel)
set_option maxRecDepth 20000 in
theorem gX1_pairBound_X1_in : GoodIn wsX1_pairBound (va_wsS RX1 38 yX1_in wsX1_in) := goodIn_app (goodIn_of _ (by decide +kernel)) ggX1_pairBound_X1_in
set_option maxRecDepth 20000 in
theorem ggX1_pairBound_X1_startsTrial : GoodIn wsX1_pairBound wsX1_startsTrial := goodIn_r _ [12, 3, 13, 39, 40, 41, 42, 43, 44, 45, 46, 47, 48] (by decide +kernel) (by decide +kernel)
set_option maxRecDepth 20000 in
theorem gX1_pairBound_X1_startsTrial : GoodIn wsX1_pairBound (wsV RX1 121 RX1 yX1_startsTrial wsX1_startsTrial) := goodIn_app (goodIn_of _ (by decide +kernel)) ggX1_pairBound_X1_startsTrial
set_option maxRecDepth 20000 in
theorem ggX1_pairBound_X1_onTwo : GoodIn wsX1_pairBound wsX1_onTwo := goodIn_r _ [17, 3, 13, 18, 19, 20, 7, 21, 22, 39, 40, 41, 42, 43, 44, 45, 46, 47, 48] (by decide +kernel) (by decide +kernel)
set_option maxRecDepth 20000 in
theorem gX1_pairBound_X1_onTwo : GoodIn wsX1_pairBound (wsV RX1 124 RX1 yX1_onTwo wsX1_onTwo) := goodIn_app (goodIn_of _ (by decide +kernel)) ggX1_pairBound_X1_onTwo
set_option maxRecDepth 20000 in
theorem ggX1_pairBound_X1_goesOn : GoodIn wsX1_pairBound wsX1_goesOn := goodIn_r _ [26, 3, 13, 27, 28, 29, 7, 30, 39, 40, 41, 42, 43, 44, 45, 46, 47, 48] (by decide +kernel) (by decide +kernel)
set_option maxRecDepth 20000 in
theorem gX1_pairBound_X1_goesOn : GoodIn wsX1_pairBound (wsV RX1 127 RX1 yX1_goesOn wsX1_goesOn) := goodIn_app (goodIn_of _ (by decide +kernel)) ggX1_pairBound_X1_goesOn
set_option maxRecDepth 20000 in
theorem ggX1_pairBound_X1_leastSum : GoodIn wsX1_pairBound wsX1_leastSum := goodIn_r _ [34, 4, 3, 35, 36, 37, 7, 38, 18, 19, 20, 21, 22, 39, 40, 41, 42, 43, 44, 45, 46, 47, 48] (by decide +kernel) (by decide +kernel)
set_option maxRecDepth 20000 in
theorem gX1_pairBound_X1_leastSum : GoodIn wsX1_pairBound (wsV RX1 115 RX1 yX1_leastSum wsX1_leastSum) := goodIn_app (goodIn_of _ (by decide +kernel)) ggX1_pairBound_X1_leastSum
theorem dX1_pairBound_0 : decode cX1_pairBound 0 = .ok (.aload_n 0, 1) := by decide +kernel
theorem dX1_pairBound_1 : decode cX1_pairBound 1 = .ok (.iload_n 1, 1) := by decide +kernel
theorem dX1_pairBound_2 : decode cX1_pairBound 2 = .ok (.iconst 0, 1) := by decide +kernel
theorem dX1_pairBound_3 : decode cX1_pairBound 3 = .ok (.aload_n 0, 1) := by decide +kernel
theorem dX1_pairBound_4 : decode cX1_pairBound 4 = .ok (.getfield 7, 3) := by decide +kernel
theorem dX1_pairBound_7 : decode cX1_pairBound 7 = .ok (.iconst 1, 1) := by decide +kernel
theorem dX1_pairBound_8 : decode cX1_pairBound 8 = .ok (.isub, 1) := by decide +kernel
theorem dX1_pairBound_9 : decode cX1_pairBound 9 = .ok (.invokestatic 38, 3) := by decide +kernel
theorem dX1_pairBound_12 : decode cX1_pairBound 12 = .ok (.ifCond .eq 17, 3) := by decide +kernel
theorem dX1_pairBound_15 : decode cX1_pairBound 15 = .ok (.iload_n 2, 1) := by decide +kernel
theorem dX1_pairBound_16 : decode cX1_pairBound 16 = .ok (.iconst 0, 1) := by decide +kernel
theorem dX1_pairBound_17 : decode cX1_pairBound 17 = .ok (.aload_n 0, 1) := by decide +kernel
theorem dX1_pairBound_18 : decode cX1_pairBound 18 = .ok (.getfield 7, 3) := by decide +kernel
theorem dX1_pairBound_21 : decode cX1_pairBound 21 = .ok (.iconst 1, 1) := by decide +kernel
theorem dX1_pairBound_22 : decode cX1_pairBound 22 = .ok (.isub, 1) := by decide +kernel
theorem dX1_pairBound_23 : decode cX1_pairBound 23 = .ok (.invokestatic 38, 3) := by decide +kernel
theorem dX1_pairBound_26 : decode cX1_pairBound 26 = .ok (.ifCond .ne 7, 3) := by decide +kernel
theorem dX1_pairBound_29 : decode cX1_pairBound 29 = .ok (.iconst 1, 1) := by decide +kernel
theorem dX1_pairBound_30 : decode cX1_pairBound 30 = .ok (.goto 13, 3) := by decide +kernel
theorem dX1_pairBound_33 : decode cX1_pairBound 33 = .ok (.iload_n 1, 1) := by decide +kernel
theorem dX1_pairBound_34 : decode cX1_pairBound 34 = .ok (.iload_n 2, 1) := by decide +kernel
theorem dX1_pairBound_35 : decode cX1_pairBound 35 = .ok (.if_icmp .ge 7, 3) := by decide +kernel
theorem dX1_pairBound_38 : decode cX1_pairBound 38 = .ok (.iconst 0, 1) := by decide +kernel
theorem dX1_pairBound_39 : decode cX1_pairBound 39 = .ok (.goto 4, 3) := by decide +kernel
theorem dX1_pairBound_42 : decode cX1_pairBound 42 = .ok (.iconst 2, 1) := by decide +kernel
theorem dX1_pairBound_43 : decode cX1_pairBound 43 = .ok (.putfield 32, 3) := by decide +kernel
theorem dX1_pairBound_46 : decode cX1_pairBound 46 = .ok (.aload_n 0, 1) := by decide +kernel
theorem dX1_pairBound_47 : decode cX1_pairBound 47 = .ok (.getfield 32, 3) := by decide +kernel
theorem dX1_pairBound_50 : decode cX1_pairBound 50 = .ok (.ifCond .gt 10, 3) := by decide +kernel
theorem dX1_pairBound_53 : decode cX1_pairBound 53 = .ok (.aload_n 0, 1) := by decide +kernel
theorem dX1_pairBound_54 : decode cX1_pairBound 54 = .ok (.getfield 35, 3) := by decide +kernel
theorem dX1_pairBound_57 : decode cX1_pairBound 57 = .ok (.ifCond .ne 5, 3) := by decide +kernel
theorem dX1_pairBound_60 : decode cX1_pairBound 60 = .ok (.iconst 0, 1) := by decide +kernel
theorem dX1_pairBound_61 : decode cX1_pairBound 61 = .ok (.ireturn, 1) := by decide +kernel
theorem dX1_pairBound_62 : decode cX1_pairBound 62 = .ok (.ldc 100, 2) := by decide +kernel
theorem dX1_pairBound_64 : decode cX1_pairBound 64 = .ok (.istore_n 3, 1) := by decide +kernel
theorem dX1_pairBound_65 : decode cX1_pairBound 65 = .ok (.iconst 1, 1) := by decide +kernel
theorem dX1_pairBound_66 : decode cX1_pairBound 66 = .ok (.istore 4, 2) := by decide +kernel
theorem dX1_pairBound_68 : decode cX1_pairBound 68 = .ok (.aload_n 0, 1) := by decide +kernel
theorem dX1_pairBound_69 : decode cX1_pairBound 69 = .ok (.invokevirtual 121, 3) := by decide +kernel
theorem dX1_pairBound_72 : decode cX1_pairBound 72 = .ok (.iload 4, 2) := by decide +kernel
theorem dX1_pairBound_74 : decode cX1_pairBound 74 = .ok (.ifCond .eq 33, 3) := by decide +kernel
theorem dX1_pairBound_77 : decode cX1_pairBound 77 = .ok (.aload_n 0, 1) := by decide +kernel
theorem dX1_pairBound_78 : decode cX1_pairBound 78 = .ok (.iload_n 1, 1) := by decide +kernel
theorem dX1_pairBound_79 : decode cX1_pairBound 79 = .ok (.iload_n 2, 1) := by decide +kernel
theorem dX1_pairBound_80 : decode cX1_pairBound 80 = .ok (.invokevirtual 124, 3) := by decide +kernel
theorem dX1_pairBound_83 : decode cX1_pairBound 83 = .ok (.iload_n 3, 1) := by decide +kernel
theorem dX1_pairBound_84 : decode cX1_pairBound 84 = .ok (.if_icmp .ge 12, 3) := by decide +kernel
theorem dX1_pairBound_87 : decode cX1_pairBound 87 = .ok (.aload_n 0, 1) := by decide +kernel
theorem dX1_pairBound_88 : decode cX1_pairBound 88 = .ok (.iload_n 1, 1) := by decide +kernel
theorem dX1_pairBound_89 : decode cX1_pairBound 89 = .ok (.iload_n 2, 1) := by decide +kernel
theorem dX1_pairBound_90 : decode cX1_pairBound 90 = .ok (.invokevirtual 124, 3) := by decide +kernel
theorem dX1_pairBound_93 : decode cX1_pairBound 93 = .ok (.goto 4, 3) := by decide +kernel
theorem dX1_pairBound_96 : decode cX1_pairBound 96 = .ok (.iload_n 3, 1) := by decide +kernel
theorem dX1_pairBound_97 : decode cX1_pairBound 97 = .ok (.istore_n 3, 1) := by decide +kernel
theorem dX1_pairBound_98 : decode cX1_pairBound 98 = .ok (.aload_n 0, 1) := by decide +kernel
theorem dX1_pairBound_99 : decode cX1_pairBound 99 = .ok (.invokevirtual 127, 3) := by decide +kernel
theorem dX1_pairBound_102 : decode cX1_pairBound 102 = .ok (.istore 4, 2) := by decide +kernel
theorem dX1_pairBound_104 : decode cX1_pairBound 104 = .ok (.goto (-32), 3) := by decide +kernel
theorem dX1_pairBound_107 : decode cX1_pairBound 107 = .ok (.iload_n 3, 1) := by decide +kernel
theorem dX1_pairBound_108 : decode cX1_pairBound 108 = .ok (.aload_n 0, 1) := by decide +kernel
theorem dX1_pairBound_109 : decode cX1_pairBound 109 = .ok (.iconst 0, 1) := by decide +kernel
theorem dX1_pairBound_110 : decode cX1_pairBound 110 = .ok (.iload_n 1, 1) := by decide +kernel
theorem dX1_pairBound_111 : decode cX1_pairBound 111 = .ok (.invokevirtual 115, 3) := by decide +kernel
theorem dX1_pairBound_114 : decode cX1_pairBound 114 = .ok (.iadd, 1) := by decide +kernel
theorem dX1_pairBound_115 : decode cX1_pairBound 115 = .ok (.aload_n 0, 1) := by decide +kernel
theorem dX1_pairBound_116 : decode cX1_pairBound 116 = .ok (.iload_n 2, 1) := by decide +kernel
theorem dX1_pairBound_117 : decode cX1_pairBound 117 = .ok (.iconst 1, 1) := by decide +kernel
theorem dX1_pairBound_118 : decode cX1_pairBound 118 = .ok (.iadd, 1) := by decide +kernel
theorem dX1_pairBound_119 : decode cX1_pairBound 119 = .ok (.aload_n 0, 1) := by decide +kernel
theorem dX1_pairBound_120 : decode cX1_pairBound 120 = .ok (.getfield 7, 3) := by decide +kernel
theorem dX1_pairBound_123 : decode cX1_pairBound 123 = .ok (.invokevirtual 115, 3) := by decide +kernel
theorem dX1_pairBound_126 : decode cX1_pairBound 126 = .ok (.iadd, 1) := by decide +kernel
theorem dX1_pairBound_127 : decode cX1_pairBound 127 = .ok (.ireturn, 1) := by decide +kernel
set_option maxRecDepth 20000 in
theorem ggX1_searches_X1_startsTrial : GoodIn wsX1_searches wsX1_startsTrial := goodIn_r _ [10, 4, 3, 46, 47, 48, 49, 50, 51, 52, 53, 54, 55] (by decide +kernel) (by decide +kernel)
set_option maxRecDepth 20000 in
theorem gX1_searches_X1_startsTrial : GoodIn wsX1_searches (wsV RX1 121 RX1 yX1_startsTrial wsX1_startsTrial) := goodIn_app (goodIn_of _ (by decide +kernel)) ggX1_searches_X1_startsTrial
set_option maxRecDepth 20000 in
theorem ggX1_searches_X1_lays : GoodIn wsX1_searches wsX1_lays := goodIn_r _ [14, 15, 16, 17, 18, 19, 9, 20, 21, 22, 23, 24, 25, 26, 27, 28, 29, 30, 31, 32, 33, 34, 35, 36, 37, 46, 47, 48, 49, 50, 51, 52, 53, 54, 55] (by decide +kernel) (by decide +kernel)
set_option maxRecDepth 20000 in
theorem gX1_searches_X1_lays : GoodIn wsX1_searches (wsV RX1 69 RX1 yX1_lays wsX1_lays) := goodIn_app (goodIn_of _ (by decide +kernel)) ggX1_searches_X1_lays
set_option maxRecDepth 20000 in
theorem ggX1_searches_X1_goesOn : GoodIn wsX1_searches wsX1_goesOn := goodIn_r _ [41, 4, 3, 42, 43, 44, 9, 45, 46, 47, 48, 49, 50, 51, 52, 53, 54, 55] (by decide +kernel) (by decide +kernel)
set_option maxRecDepth 20000 in
theorem gX1_searches_X1_goesOn : GoodIn wsX1_searches (wsV RX1 127 RX1 yX1_goesOn wsX1_goesOn) := goodIn_app (goodIn_of _ (by decide +kernel)) ggX1_searches_X1_goesOn
theorem dX1_searches_0 : decode cX1_searches 0 = .ok (.ldc 100, 2) := by decide +kernel
theorem dX1_searches_2 : decode cX1_searches 2 = .ok (.istore_n 2, 1) := by decide +kernel
theorem dX1_searches_3 : decode cX1_searches 3 = .ok (.iconst 1, 1) := by decide +kernel
theorem dX1_searches_4 : decode cX1_searches 4 = .ok (.istore_n 3, 1) := by decide +kernel
theorem dX1_searches_5 : decode cX1_searches 5 = .ok (.aload_n 0, 1) := by decide +kernel
theorem dX1_searches_6 : decode cX1_searches 6 = .ok (.iconst 0, 1) := by decide +kernel
theorem dX1_searches_7 : decode cX1_searches 7 = .ok (.putfield 131, 3) := by decide +kernel
theorem dX1_searches_10 : decode cX1_searches 10 = .ok (.aload_n 0, 1) := by decide +kernel
theorem dX1_searches_11 : decode cX1_searches 11 = .ok (.invokevirtual 121, 3) := by decide +kernel
theorem dX1_searches_14 : decode cX1_searches 14 = .ok (.iload_n 3, 1) := by decide +kernel
theorem dX1_searches_15 : decode cX1_searches 15 = .ok (.ifCond .eq 110, 3) := by decide +kernel
theorem dX1_searches_18 : decode cX1_searches 18 = .ok (.aload_n 0, 1) := by decide +kernel
theorem dX1_searches_19 : decode cX1_searches 19 = .ok (.iload_n 1, 1) := by decide +kernel
theorem dX1_searches_20 : decode cX1_searches 20 = .ok (.aload_n 0, 1) := by decide +kernel
theorem dX1_searches_21 : decode cX1_searches 21 = .ok (.getfield 26, 3) := by decide +kernel
theorem dX1_searches_24 : decode cX1_searches 24 = .ok (.aload_n 0, 1) := by decide +kernel
theorem dX1_searches_25 : decode cX1_searches 25 = .ok (.getfield 35, 3) := by decide +kernel
theorem dX1_searches_28 : decode cX1_searches 28 = .ok (.invokevirtual 69, 3) := by decide +kernel
theorem dX1_searches_31 : decode cX1_searches 31 = .ok (.istore 4, 2) := by decide +kernel
theorem dX1_searches_33 : decode cX1_searches 33 = .ok (.aload_n 0, 1) := by decide +kernel
theorem dX1_searches_34 : decode cX1_searches 34 = .ok (.iload 4, 2) := by decide +kernel
theorem dX1_searches_36 : decode cX1_searches 36 = .ok (.iload_n 2, 1) := by decide +kernel
theorem dX1_searches_37 : decode cX1_searches 37 = .ok (.if_icmp .ge 7, 3) := by decide +kernel
theorem dX1_searches_40 : decode cX1_searches 40 = .ok (.iconst 1, 1) := by decide +kernel
theorem dX1_searches_41 : decode cX1_searches 41 = .ok (.goto 22, 3) := by decide +kernel
theorem dX1_searches_44 : decode cX1_searches 44 = .ok (.iload 4, 2) := by decide +kernel
theorem dX1_searches_46 : decode cX1_searches 46 = .ok (.iload_n 2, 1) := by decide +kernel
theorem dX1_searches_47 : decode cX1_searches 47 = .ok (.if_icmp .ne 12, 3) := by decide +kernel
theorem dX1_searches_50 : decode cX1_searches 50 = .ok (.aload_n 0, 1) := by decide +kernel
theorem dX1_searches_51 : decode cX1_searches 51 = .ok (.getfield 131, 3) := by decide +kernel
theorem dX1_searches_54 : decode cX1_searches 54 = .ok (.iconst 1, 1) := by decide +kernel
theorem dX1_searches_55 : decode cX1_searches 55 = .ok (.iadd, 1) := by decide +kernel
theorem dX1_searches_56 : decode cX1_searches 56 = .ok (.goto 7, 3) := by decide +kernel
theorem dX1_searches_59 : decode cX1_searches 59 = .ok (.aload_n 0, 1) := by decide +kernel
theorem dX1_searches_60 : decode cX1_searches 60 = .ok (.getfield 131, 3) := by decide +kernel
theorem dX1_searches_63 : decode cX1_searches 63 = .ok (.putfield 131, 3) := by decide +kernel
theorem dX1_searches_66 : decode cX1_searches 66 = .ok (.iconst 0, 1) := by decide +kernel
theorem dX1_searches_67 : decode cX1_searches 67 = .ok (.istore 5, 2) := by decide +kernel
theorem dX1_searches_69 : decode cX1_searches 69 = .ok (.iload 5, 2) := by decide +kernel
theorem dX1_searches_71 : decode cX1_searches 71 = .ok (.aload_n 0, 1) := by decide +kernel
theorem dX1_searches_72 : decode cX1_searches 72 = .ok (.getfield 35, 3) := by decide +kernel
theorem dX1_searches_75 : decode cX1_searches 75 = .ok (.if_icmp .ge 29, 3) := by decide +kernel
theorem dX1_searches_78 : decode cX1_searches 78 = .ok (.iload 4, 2) := by decide +kernel
theorem dX1_searches_80 : decode cX1_searches 80 = .ok (.iload_n 2, 1) := by decide +kernel
theorem dX1_searches_81 : decode cX1_searches 81 = .ok (.if_icmp .ge 23, 3) := by decide +kernel
theorem dX1_searches_84 : decode cX1_searches 84 = .ok (.aload_n 0, 1) := by decide +kernel
theorem dX1_searches_85 : decode cX1_searches 85 = .ok (.getfield 29, 3) := by decide +kernel
theorem dX1_searches_88 : decode cX1_searches 88 = .ok (.iload 5, 2) := by decide +kernel
theorem dX1_searches_90 : decode cX1_searches 90 = .ok (.aload_n 0, 1) := by decide +kernel
theorem dX1_searches_91 : decode cX1_searches 91 = .ok (.getfield 26, 3) := by decide +kernel
theorem dX1_searches_94 : decode cX1_searches 94 = .ok (.iload 5, 2) := by decide +kernel
theorem dX1_searches_96 : decode cX1_searches 96 = .ok (.iaload, 1) := by decide +kernel
theorem dX1_searches_97 : decode cX1_searches 97 = .ok (.iastore, 1) := by decide +kernel
theorem dX1_searches_98 : decode cX1_searches 98 = .ok (.iinc 5 1, 3) := by decide +kernel
theorem dX1_searches_101 : decode cX1_searches 101 = .ok (.goto (-32), 3) := by decide +kernel
theorem dX1_searches_104 : decode cX1_searches 104 = .ok (.iload 4, 2) := by decide +kernel
theorem dX1_searches_106 : decode cX1_searches 106 = .ok (.iload_n 2, 1) := by decide +kernel
theorem dX1_searches_107 : decode cX1_searches 107 = .ok (.if_icmp .ge 8, 3) := by decide +kernel
theorem dX1_searches_110 : decode cX1_searches 110 = .ok (.iload 4, 2) := by decide +kernel
theorem dX1_searches_112 : decode cX1_searches 112 = .ok (.goto 4, 3) := by decide +kernel
theorem dX1_searches_115 : decode cX1_searches 115 = .ok (.iload_n 2, 1) := by decide +kernel
theorem dX1_searches_116 : decode cX1_searches 116 = .ok (.istore_n 2, 1) := by decide +kernel
theorem dX1_searches_117 : decode cX1_searches 117 = .ok (.aload_n 0, 1) := by decide +kernel
theorem dX1_searches_118 : decode cX1_searches 118 = .ok (.invokevirtual 127, 3) := by decide +kernel
theorem dX1_searches_121 : decode cX1_searches 121 = .ok (.istore_n 3, 1) := by decide +kernel
theorem dX1_searches_122 : decode cX1_searches 122 = .ok (.goto (-108), 3) := by decide +kernel
theorem dX1_searches_125 : decode cX1_searches 125 = .ok (.iload_n 2, 1) := by decide +kernel
theorem dX1_searches_126 : decode cX1_searches 126 = .ok (.ireturn, 1) := by decide +kernel
set_option maxRecDepth 20000 in
theorem ggX1_best_X1_isVariant : GoodIn wsX1_best wsX1_isVariant := goodIn_r _ [5, 6, 7, 4, 8] (by decide +kernel) (by decide +kernel)
set_option maxRecDepth 20000 in
theorem gX1_best_X1_isVariant : GoodIn wsX1_best (va_wsS RX1 108 yX1_isVariant wsX1_isVariant) := goodIn_app (goodIn_of _ (by decide +kernel)) ggX1_best_X1_isVariant
set_option maxRecDepth 20000 in
theorem ggX1_best_X1_searches : GoodIn wsX1_best wsX1_searches := goodIn_r _ [12, 13, 14, 15, 16, 17, 18, 19, 20, 4, 21, 22, 23, 24, 25, 26, 27, 28, 29, 30, 31, 32, 33, 34, 35, 36, 37, 38, 39, 40, 41, 42, 43, 44, 45, 46, 47, 48, 49, 50, 51, 52, 53, 54, 55, 56, 57, 58, 59, 60, 61, 62, 63, 64, 65, 66] (by decide +kernel) (by decide +kernel)
set_option maxRecDepth 20000 in
theorem gX1_best_X1_searches : GoodIn wsX1_best (wsV RX1 134 RX1 yX1_searches wsX1_searches) := goodIn_app (goodIn_of _ (by decide +kernel)) ggX1_best_X1_searches
theorem dX1_best_0 : decode cX1_best 0 = .ok (.aload_n 0, 1) := by decide +kernel
theorem dX1_best_1 : decode cX1_best 1 = .ok (.iload_n 1, 1) := by decide +kernel
theorem dX1_best_2 : decode cX1_best 2 = .ok (.invokestatic 108, 3) := by decide +kernel
theorem dX1_best_5 : decode cX1_best 5 = .ok (.ifCond .eq 7, 3) := by decide +kernel
theorem dX1_best_8 : decode cX1_best 8 = .ok (.iconst 0, 1) := by decide +kernel
theorem dX1_best_9 : decode cX1_best 9 = .ok (.goto 4, 3) := by decide +kernel
theorem dX1_best_12 : decode cX1_best 12 = .ok (.iconst 1, 1) := by decide +kernel
theorem dX1_best_13 : decode cX1_best 13 = .ok (.putfield 32, 3) := by decide +kernel
theorem dX1_best_16 : decode cX1_best 16 = .ok (.aload_n 0, 1) := by decide +kernel
theorem dX1_best_17 : decode cX1_best 17 = .ok (.getfield 32, 3) := by decide +kernel
theorem dX1_best_20 : decode cX1_best 20 = .ok (.ifCond .le 7, 3) := by decide +kernel
theorem dX1_best_23 : decode cX1_best 23 = .ok (.iconst 0, 1) := by decide +kernel
theorem dX1_best_24 : decode cX1_best 24 = .ok (.goto 8, 3) := by decide +kernel
theorem dX1_best_27 : decode cX1_best 27 = .ok (.aload_n 0, 1) := by decide +kernel
theorem dX1_best_28 : decode cX1_best 28 = .ok (.iload_n 1, 1) := by decide +kernel
theorem dX1_best_29 : decode cX1_best 29 = .ok (.invokevirtual 134, 3) := by decide +kernel
theorem dX1_best_32 : decode cX1_best 32 = .ok (.ireturn, 1) := by decide +kernel
set_option maxRecDepth 20000 in
theorem ggX1_bestAt_X1_isVariant : GoodIn wsX1_bestAt wsX1_isVariant := goodIn_r _ [7, 8, 9, 6, 10] (by decide +kernel) (by decide +kernel)
set_option maxRecDepth 20000 in
theorem gX1_bestAt_X1_isVariant : GoodIn wsX1_bestAt (va_wsS RX1 108 yX1_isVariant wsX1_isVariant) := goodIn_app (goodIn_of _ (by decide +kernel)) ggX1_bestAt_X1_isVariant
set_option maxRecDepth 20000 in
theorem ggX1_bestAt_X1_in : GoodIn wsX1_bestAt wsX1_in := goodIn_r _ [10] (by decide +kernel) (by decide +kernel)
set_option maxRecDepth 20000 in
theorem gX1_bestAt_X1_in : GoodIn wsX1_bestAt (va_wsS RX1 38 yX1_in wsX1_in) := goodIn_app (goodIn_of _ (by decide +kernel)) ggX1_bestAt_X1_in
set_option maxRecDepth 20000 in
theorem ggX1_bestAt_X1_searches : GoodIn wsX1_bestAt wsX1_searches := goodIn_r _ [14, 15, 16, 17, 1, 3, 18, 19, 20, 6, 21, 22, 23, 24, 25, 26, 27, 28, 29, 30, 31, 32, 33, 34, 35, 36, 37, 38, 39, 40, 41, 42, 43, 44, 45, 46, 47, 48, 49, 50, 51, 52, 53, 54, 55, 56, 57, 58, 59, 60, 61, 62, 63, 64, 65, 66] (by decide +kernel) (by decide +kernel)
set_option maxRecDepth 20000 in
theorem gX1_bestAt_X1_searches : GoodIn wsX1_bestAt (wsV RX1 134 RX1 yX1_searches wsX1_searches) := goodIn_app (goodIn_of _ (by decide +kernel)) ggX1_bestAt_X1_searches
theorem dX1_bestAt_0 : decode cX1_bestAt 0 = .ok (.aload_n 0, 1) := by decide +kernel
theorem dX1_bestAt_1 : decode cX1_bestAt 1 = .ok (.iload_n 1, 1) := by decide +kernel
theorem dX1_bestAt_2 : decode cX1_bestAt 2 = .ok (.invokestatic 108, 3) := by decide +kernel
theorem dX1_bestAt_5 : decode cX1_bestAt 5 = .ok (.ifCond .ne 7, 3) := by decide +kernel
theorem dX1_bestAt_8 : decode cX1_bestAt 8 = .ok (.iconst 1, 1) := by decide +kernel
theorem dX1_bestAt_9 : decode cX1_bestAt 9 = .ok (.goto 22, 3) := by decide +kernel
theorem dX1_bestAt_12 : decode cX1_bestAt 12 = .ok (.iload_n 2, 1) := by decide +kernel
theorem dX1_bestAt_13 : decode cX1_bestAt 13 = .ok (.iconst 0, 1) := by decide +kernel
theorem dX1_bestAt_14 : decode cX1_bestAt 14 = .ok (.aload_n 0, 1) := by decide +kernel
theorem dX1_bestAt_15 : decode cX1_bestAt 15 = .ok (.getfield 35, 3) := by decide +kernel
theorem dX1_bestAt_18 : decode cX1_bestAt 18 = .ok (.iconst 1, 1) := by decide +kernel
theorem dX1_bestAt_19 : decode cX1_bestAt 19 = .ok (.isub, 1) := by decide +kernel
theorem dX1_bestAt_20 : decode cX1_bestAt 20 = .ok (.invokestatic 38, 3) := by decide +kernel
theorem dX1_bestAt_23 : decode cX1_bestAt 23 = .ok (.ifCond .eq 7, 3) := by decide +kernel
theorem dX1_bestAt_26 : decode cX1_bestAt 26 = .ok (.iconst 0, 1) := by decide +kernel
theorem dX1_bestAt_27 : decode cX1_bestAt 27 = .ok (.goto 4, 3) := by decide +kernel
theorem dX1_bestAt_30 : decode cX1_bestAt 30 = .ok (.iconst 2, 1) := by decide +kernel
theorem dX1_bestAt_31 : decode cX1_bestAt 31 = .ok (.putfield 32, 3) := by decide +kernel
theorem dX1_bestAt_34 : decode cX1_bestAt 34 = .ok (.aload_n 0, 1) := by decide +kernel
theorem dX1_bestAt_35 : decode cX1_bestAt 35 = .ok (.getfield 32, 3) := by decide +kernel
theorem dX1_bestAt_38 : decode cX1_bestAt 38 = .ok (.ifCond .le 5, 3) := by decide +kernel
theorem dX1_bestAt_41 : decode cX1_bestAt 41 = .ok (.iconst 0, 1) := by decide +kernel
theorem dX1_bestAt_42 : decode cX1_bestAt 42 = .ok (.ireturn, 1) := by decide +kernel
theorem dX1_bestAt_43 : decode cX1_bestAt 43 = .ok (.aload_n 0, 1) := by decide +kernel
theorem dX1_bestAt_44 : decode cX1_bestAt 44 = .ok (.iload_n 1, 1) := by decide +kernel
theorem dX1_bestAt_45 : decode cX1_bestAt 45 = .ok (.invokevirtual 134, 3) := by decide +kernel
theorem dX1_bestAt_48 : decode cX1_bestAt 48 = .ok (.pop, 1) := by decide +kernel
theorem dX1_bestAt_49 : decode cX1_bestAt 49 = .ok (.aload_n 0, 1) := by decide +kernel
theorem dX1_bestAt_50 : decode cX1_bestAt 50 = .ok (.getfield 29, 3) := by decide +kernel
theorem dX1_bestAt_53 : decode cX1_bestAt 53 = .ok (.iload_n 2, 1) := by decide +kernel
theorem dX1_bestAt_54 : decode cX1_bestAt 54 = .ok (.iaload, 1) := by decide +kernel
theorem dX1_bestAt_55 : decode cX1_bestAt 55 = .ok (.ireturn, 1) := by decide +kernel
set_option maxRecDepth 20000 in
theorem ggX1_bestOrders_X1_isVariant : GoodIn wsX1_bestOrders wsX1_isVariant := goodIn_r _ [6, 7, 8, 5, 9] (by decide +kernel) (by decide +kernel)
set_option maxRecDepth 20000 in
theorem gX1_bestOrders_X1_isVariant : GoodIn wsX1_bestOrders (va_wsS RX1 108 yX1_isVariant wsX1_isVariant) := goodIn_app (goodIn_of _ (by decide +kernel)) ggX1_bestOrders_X1_isVariant
set_option maxRecDepth 20000 in
theorem ggX1_bestOrders_X1_searches : GoodIn wsX1_bestOrders wsX1_searches := goodIn_r _ [13, 14, 2, 15, 16, 17, 18, 19, 20, 5, 21, 22, 23, 24, 25, 26, 27, 28, 29, 30, 31, 32, 33, 34, 35, 36, 37, 38, 39, 40, 41, 42, 43, 44, 45, 46, 47, 48, 49, 50, 51, 52, 53, 54, 55, 56, 57, 58, 59, 60, 61, 62, 63, 64, 65, 66] (by decide +kernel) (by decide +kernel)
set_option maxRecDepth 20000 in
theorem gX1_bestOrders_X1_searches : GoodIn wsX1_bestOrders (wsV RX1 134 RX1 yX1_searches wsX1_searches) := goodIn_app (goodIn_of _ (by decide +kernel)) ggX1_bestOrders_X1_searches
theorem dX1_bestOrders_0 : decode cX1_bestOrders 0 = .ok (.aload_n 0, 1) := by decide +kernel
theorem dX1_bestOrders_1 : decode cX1_bestOrders 1 = .ok (.iload_n 1, 1) := by decide +kernel
theorem dX1_bestOrders_2 : decode cX1_bestOrders 2 = .ok (.invokestatic 108, 3) := by decide +kernel
theorem dX1_bestOrders_5 : decode cX1_bestOrders 5 = .ok (.ifCond .eq 7, 3) := by decide +kernel
theorem dX1_bestOrders_8 : decode cX1_bestOrders 8 = .ok (.iconst 0, 1) := by decide +kernel
theorem dX1_bestOrders_9 : decode cX1_bestOrders 9 = .ok (.goto 4, 3) := by decide +kernel
theorem dX1_bestOrders_12 : decode cX1_bestOrders 12 = .ok (.iconst 1, 1) := by decide +kernel
theorem dX1_bestOrders_13 : decode cX1_bestOrders 13 = .ok (.putfield 32, 3) := by decide +kernel
theorem dX1_bestOrders_16 : decode cX1_bestOrders 16 = .ok (.aload_n 0, 1) := by decide +kernel
theorem dX1_bestOrders_17 : decode cX1_bestOrders 17 = .ok (.getfield 32, 3) := by decide +kernel
theorem dX1_bestOrders_20 : decode cX1_bestOrders 20 = .ok (.ifCond .le 5, 3) := by decide +kernel
theorem dX1_bestOrders_23 : decode cX1_bestOrders 23 = .ok (.iconst 0, 1) := by decide +kernel
theorem dX1_bestOrders_24 : decode cX1_bestOrders 24 = .ok (.ireturn, 1) := by decide +kernel
theorem dX1_bestOrders_25 : decode cX1_bestOrders 25 = .ok (.aload_n 0, 1) := by decide +kernel
theorem dX1_bestOrders_26 : decode cX1_bestOrders 26 = .ok (.iload_n 1, 1) := by decide +kernel
theorem dX1_bestOrders_27 : decode cX1_bestOrders 27 = .ok (.invokevirtual 134, 3) := by decide +kernel
theorem dX1_bestOrders_30 : decode cX1_bestOrders 30 = .ok (.pop, 1) := by decide +kernel
theorem dX1_bestOrders_31 : decode cX1_bestOrders 31 = .ok (.aload_n 0, 1) := by decide +kernel
theorem dX1_bestOrders_32 : decode cX1_bestOrders 32 = .ok (.getfield 131, 3) := by decide +kernel
theorem dX1_bestOrders_35 : decode cX1_bestOrders 35 = .ok (.ireturn, 1) := by decide +kernel
set_option maxRecDepth 20000 in
theorem ggX1_gap_X1_searches : GoodIn wsX1_gap wsX1_searches := goodIn_r _ [6, 7, 8, 9, 10, 11, 12, 13, 14, 5, 15, 16, 17, 18, 19, 20, 21, 22, 23, 24, 25, 26, 27, 28, 29, 30, 31, 32, 33, 34, 35, 36, 37, 38, 39, 40, 41, 42, 43, 44, 45, 46, 47, 48, 49, 50, 56, 57, 58, 59, 60, 61, 62, 63, 64, 65] (by decide +kernel) (by decide +kernel)
set_option maxRecDepth 20000 in
theorem gX1_gap_X1_searches : GoodIn wsX1_gap (wsV RX1 134 RX1 yX1_searches wsX1_searches) := goodIn_app (goodIn_of _ (by decide +kernel)) ggX1_gap_X1_searches
set_option maxRecDepth 20000 in
theorem ggX1_gap_X1_plain : GoodIn wsX1_gap wsX1_plain := goodIn_r _ [54, 55, 10, 16, 17, 18, 5, 19, 20, 21, 22, 23, 24, 25, 26, 27, 28, 29, 30, 31, 32, 33, 34, 35, 36, 37, 38, 39, 40, 41, 42, 56, 57, 58, 59, 60, 61, 62, 63, 64, 65] (by decide +kernel) (by decide +kernel)
set_option maxRecDepth 20000 in
theorem gX1_gap_X1_plain : GoodIn wsX1_gap (wsV RX1 89 RX1 yX1_plain wsX1_plain) := goodIn_app (goodIn_of _ (by decide +kernel)) ggX1_gap_X1_plain
theorem dX1_gap_0 : decode cX1_gap 0 = .ok (.aload_n 0, 1) := by decide +kernel
theorem dX1_gap_1 : decode cX1_gap 1 = .ok (.iconst 0, 1) := by decide +kernel
theorem dX1_gap_2 : decode cX1_gap 2 = .ok (.putfield 32, 3) := by decide +kernel
theorem dX1_gap_5 : decode cX1_gap 5 = .ok (.aload_n 0, 1) := by decide +kernel
theorem dX1_gap_6 : decode cX1_gap 6 = .ok (.iconst 0, 1) := by decide +kernel
theorem dX1_gap_7 : decode cX1_gap 7 = .ok (.invokevirtual 134, 3) := by decide +kernel
theorem dX1_gap_10 : decode cX1_gap 10 = .ok (.istore_n 1, 1) := by decide +kernel
theorem dX1_gap_11 : decode cX1_gap 11 = .ok (.aload_n 0, 1) := by decide +kernel
theorem dX1_gap_12 : decode cX1_gap 12 = .ok (.invokevirtual 89, 3) := by decide +kernel
theorem dX1_gap_15 : decode cX1_gap 15 = .ok (.istore_n 2, 1) := by decide +kernel
theorem dX1_gap_16 : decode cX1_gap 16 = .ok (.iload_n 1, 1) := by decide +kernel
theorem dX1_gap_17 : decode cX1_gap 17 = .ok (.ifCond .ne 7, 3) := by decide +kernel
theorem dX1_gap_20 : decode cX1_gap 20 = .ok (.dconst 0, 1) := by decide +kernel
theorem dX1_gap_21 : decode cX1_gap 21 = .ok (.goto 10, 3) := by decide +kernel
theorem dX1_gap_24 : decode cX1_gap 24 = .ok (.iload_n 2, 1) := by decide +kernel
theorem dX1_gap_25 : decode cX1_gap 25 = .ok (.iload_n 1, 1) := by decide +kernel
theorem dX1_gap_26 : decode cX1_gap 26 = .ok (.isub, 1) := by decide +kernel
theorem dX1_gap_27 : decode cX1_gap 27 = .ok (.i2d, 1) := by decide +kernel
theorem dX1_gap_28 : decode cX1_gap 28 = .ok (.iload_n 1, 1) := by decide +kernel
theorem dX1_gap_29 : decode cX1_gap 29 = .ok (.i2d, 1) := by decide +kernel
theorem dX1_gap_30 : decode cX1_gap 30 = .ok (.ddiv, 1) := by decide +kernel
theorem dX1_gap_31 : decode cX1_gap 31 = .ok (.dreturn, 1) := by decide +kernel
