set_option maxRecDepth 20000 in
theorem ggL_law_X0_init : GoodIn wsL_law wsX0_init := goodIn_r _ [9, 10, 11, 12, 13, 14, 15, 16, 17, 18, 19, 20, 21, 22, 23, 24, 25, 26, 27, 540, 541, 542, 543, 544, 545, 546, 547, 548, 549, 550, 551, 552] (by decide +kernel) (by decide +kernel)
set_option maxRecDepth 20000 in
theorem gL_law_X0_init : GoodIn wsL_law (wsX0_init) := ggL_law_X0_init
set_option maxRecDepth 20000 in
theorem ggL_law_X1_init : GoodIn wsL_law wsX1_init := goodIn_r _ [30, 31, 11, 12, 32, 15, 33, 34, 35, 36, 37, 38, 39, 553, 554, 555, 556, 557, 558, 559, 560, 561, 562] (by decide +kernel) (by decide +kernel)
set_option maxRecDepth 20000 in
theorem gL_law_X1_init : GoodIn wsL_law (wsX1_init) := ggL_law_X1_init
set_option maxRecDepth 20000 in
theorem ggL_law_L_addJob : GoodIn wsL_law wsL_addJob := goodIn_ca (goodIn_r _ [43, 44, 45, 46, 47, 2, 48, 49, 50, 13, 20, 51, 52, 53, 54, 24, 540, 541, 542, 543, 544, 545, 546, 547, 548, 549, 550, 551, 552] (by decide +kernel) (by decide +kernel)) (goodIn_sub (fun _ h => List.mem_append_left _ (List.mem_append_left _ (List.mem_append_right _ h))) (by decide +kernel))
set_option maxRecDepth 20000 in
theorem gL_law_L_addJob : GoodIn wsL_law (va_wsS RL 81 yL_addJob wsL_addJob) := goodIn_app (goodIn_of _ (by decide +kernel)) ggL_law_L_addJob
set_option maxRecDepth 20000 in
theorem ggL_law_X1_addJob : GoodIn wsL_law wsX1_addJob := goodIn_r _ [58, 59, 39, 34, 553, 554, 555, 556, 557, 558, 559, 560, 561, 562] (by decide +kernel) (by decide +kernel)
set_option maxRecDepth 20000 in
theorem gL_law_X1_addJob : GoodIn wsL_law (wsV RL 86 RX1 yX1_addJob wsX1_addJob) := goodIn_app (goodIn_of _ (by decide +kernel)) ggL_law_X1_addJob
set_option maxRecDepth 20000 in
theorem ggL_law_X1_thrown : GoodIn wsL_law wsX1_thrown := goodIn_r _ [63, 39, 553, 554, 555, 556, 557, 558, 559, 560, 561, 562] (by decide +kernel) (by decide +kernel)
set_option maxRecDepth 20000 in
theorem gL_law_X1_thrown : GoodIn wsL_law (wsV RL 87 RX1 yX1_thrown wsX1_thrown) := goodIn_app (goodIn_of _ (by decide +kernel)) ggL_law_X1_thrown
set_option maxRecDepth 20000 in
theorem ggL_law_L_setMachines : GoodIn wsL_law wsL_setMachines := goodIn_ca (goodIn_r _ [66, 67, 68, 69, 70, 2, 71, 72, 73, 14, 13, 16, 74, 75, 76, 51, 52, 53, 54, 24, 540, 541, 542, 543, 544, 545, 546, 547, 548, 549, 550, 551, 552] (by decide +kernel) (by decide +kernel)) (goodIn_sub (fun _ h => List.mem_append_left _ (List.mem_append_right _ h)) (by decide +kernel))
set_option maxRecDepth 20000 in
theorem gL_law_L_setMachines : GoodIn wsL_law (va_wsS RL 90 yL_setMachines wsL_setMachines) := goodIn_app (goodIn_of _ (by decide +kernel)) ggL_law_L_setMachines
set_option maxRecDepth 20000 in
theorem ggL_law_X1_setMachines : GoodIn wsL_law wsX1_setMachines := goodIn_r _ [80, 39, 32, 33, 81, 82, 5, 83, 553, 554, 555, 556, 557, 558, 559, 560, 561, 562] (by decide +kernel) (by decide +kernel)
set_option maxRecDepth 20000 in
theorem gL_law_X1_setMachines : GoodIn wsL_law (wsV RL 93 RX1 yX1_setMachines wsX1_setMachines) := goodIn_app (goodIn_of _ (by decide +kernel)) ggL_law_X1_setMachines
set_option maxRecDepth 20000 in
theorem ggL_law_L_setTime : GoodIn wsL_law wsL_setTime := goodIn_ca (goodIn_ca (goodIn_r _ [86, 87, 67, 88, 89, 90, 2, 91, 72, 73, 16, 92, 93, 94, 95, 96, 97, 13, 98, 99, 100, 101, 14, 74, 75, 76, 51, 52, 53, 54, 24, 540, 541, 542, 543, 544, 545, 546, 547, 548, 549, 550, 551, 552] (by decide +kernel) (by decide +kernel)) (goodIn_sub (fun _ h => List.mem_append_left _ (List.mem_append_right _ h)) (by decide +kernel))) (goodIn_sub (fun _ h => List.mem_append_right _ h) (by decide +kernel))
set_option maxRecDepth 20000 in
theorem gL_law_L_setTime : GoodIn wsL_law (va_wsS RL 94 yL_setTime wsL_setTime) := goodIn_app (goodIn_of _ (by decide +kernel)) ggL_law_L_setTime
