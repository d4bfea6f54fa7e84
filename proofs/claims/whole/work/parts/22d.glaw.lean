set_option maxRecDepth 20000 in
theorem ggL_law_X1_setTime : GoodIn wsL_law wsX1_setTime := goodIn_r _ [105, 39, 33, 106, 107, 108, 5, 109, 59, 32, 81, 82, 83, 110, 111, 112, 113, 553, 554, 555, 556, 557, 558, 559, 560, 561, 562] (by decide +kernel) (by decide +kernel)
set_option maxRecDepth 20000 in
theorem gL_law_X1_setTime : GoodIn wsL_law (wsV RL 97 RX1 yX1_setTime wsX1_setTime) := goodIn_app (goodIn_of _ (by decide +kernel)) ggL_law_X1_setTime
set_option maxRecDepth 20000 in
theorem ggL_law_L_time : GoodIn wsL_law wsL_time := goodIn_ca (goodIn_r _ [116, 87, 117, 118, 119, 2, 120, 16, 92, 93, 94, 95, 96, 97, 13, 98, 99, 100, 101, 14, 74, 75, 76, 540, 541, 542, 543, 544, 545, 546, 547, 548, 549, 550, 551, 552] (by decide +kernel) (by decide +kernel)) (goodIn_sub (fun _ h => List.mem_append_right _ h) (by decide +kernel))
set_option maxRecDepth 20000 in
theorem gL_law_L_time : GoodIn wsL_law (va_wsS RL 98 yL_time wsL_time) := goodIn_app (goodIn_of _ (by decide +kernel)) ggL_law_L_time
set_option maxRecDepth 20000 in
theorem ggL_law_X1_time : GoodIn wsL_law wsX1_time := goodIn_r _ [124, 39, 106, 107, 108, 5, 109, 59, 32, 81, 82, 83, 110, 111, 112, 113, 33, 125, 126, 127, 128, 553, 554, 555, 556, 557, 558, 559, 560, 561, 562] (by decide +kernel) (by decide +kernel)
set_option maxRecDepth 20000 in
theorem gL_law_X1_time : GoodIn wsL_law (wsV RL 101 RX1 yX1_time wsX1_time) := goodIn_app (goodIn_of _ (by decide +kernel)) ggL_law_X1_time
set_option maxRecDepth 20000 in
theorem ggL_law_X0_jobs : GoodIn wsL_law wsX0_jobs := goodIn_r _ [132, 13, 540, 541, 542, 543, 544, 545, 546, 547, 548, 549, 550, 551, 552] (by decide +kernel) (by decide +kernel)
set_option maxRecDepth 20000 in
theorem gL_law_X0_jobs : GoodIn wsL_law (wsV RL 102 RX0 yX0_jobs wsX0_jobs) := goodIn_app (goodIn_of _ (by decide +kernel)) ggL_law_X0_jobs
set_option maxRecDepth 20000 in
theorem ggL_law_X1_jobs : GoodIn wsL_law wsX1_jobs := goodIn_r _ [136, 39, 59, 553, 554, 555, 556, 557, 558, 559, 560, 561, 562] (by decide +kernel) (by decide +kernel)
set_option maxRecDepth 20000 in
theorem gL_law_X1_jobs : GoodIn wsL_law (wsV RL 105 RX1 yX1_jobs wsX1_jobs) := goodIn_app (goodIn_of _ (by decide +kernel)) ggL_law_X1_jobs
set_option maxRecDepth 20000 in
theorem ggL_law_X0_machines : GoodIn wsL_law wsX0_machines := goodIn_r _ [140, 14, 540, 541, 542, 543, 544, 545, 546, 547, 548, 549, 550, 551, 552] (by decide +kernel) (by decide +kernel)
set_option maxRecDepth 20000 in
theorem gL_law_X0_machines : GoodIn wsL_law (wsV RL 106 RX0 yX0_machines wsX0_machines) := goodIn_app (goodIn_of _ (by decide +kernel)) ggL_law_X0_machines
set_option maxRecDepth 20000 in
theorem ggL_law_X1_machines : GoodIn wsL_law wsX1_machines := goodIn_r _ [144, 39, 32, 553, 554, 555, 556, 557, 558, 559, 560, 561, 562] (by decide +kernel) (by decide +kernel)
set_option maxRecDepth 20000 in
theorem gL_law_X1_machines : GoodIn wsL_law (wsV RL 109 RX1 yX1_machines wsX1_machines) := goodIn_app (goodIn_of _ (by decide +kernel)) ggL_law_X1_machines
set_option maxRecDepth 20000 in
theorem ggL_law_L_jobAt : GoodIn wsL_law wsL_jobAt := goodIn_ca (goodIn_r _ [147, 87, 148, 149, 150, 2, 151, 20, 152, 153, 154, 155, 96, 97, 13, 540, 541, 542, 543, 544, 545, 546, 547, 548, 549, 550, 551, 552] (by decide +kernel) (by decide +kernel)) (goodIn_sub (fun _ h => List.mem_append_right _ h) (by decide +kernel))
set_option maxRecDepth 20000 in
theorem gL_law_L_jobAt : GoodIn wsL_law (va_wsS RL 110 yL_jobAt wsL_jobAt) := goodIn_app (goodIn_of _ (by decide +kernel)) ggL_law_L_jobAt
