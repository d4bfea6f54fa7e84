set_option maxRecDepth 20000 in
theorem ggL_law_X1_orderByInsertion : GoodIn wsL_law wsX1_orderByInsertion := goodIn_r _ [307, 39, 59, 308, 37, 309, 310, 311, 5, 312, 32, 313, 314, 315, 316, 110, 111, 112, 113, 33, 317, 318, 319, 320, 237, 238, 239, 240, 35, 241, 242, 243, 244, 245, 246, 247, 248, 249, 250, 251, 252, 253, 254, 255, 256, 321, 322, 323, 324, 190, 191, 192, 193, 34, 284, 285, 286, 287, 553, 554, 555, 556, 557, 558, 559, 560, 561, 562] (by decide +kernel) (by decide +kernel)
set_option maxRecDepth 20000 in
theorem gL_law_X1_orderByInsertion : GoodIn wsL_law (wsV RL 125 RX1 yX1_orderByInsertion wsX1_orderByInsertion) := goodIn_app (goodIn_of _ (by decide +kernel)) ggL_law_X1_orderByInsertion
set_option maxRecDepth 20000 in
theorem ggL_law_X0_improve : GoodIn wsL_law wsX0_improve := goodIn_r _ [328, 13, 20, 272, 273, 274, 2, 275, 209, 210, 211, 212, 14, 213, 214, 215, 216, 17, 18, 217, 218, 219, 220, 221, 222, 223, 224, 74, 75, 76, 225, 226, 227, 228, 16, 229, 230, 231, 232, 201, 202, 203, 204, 21, 205, 206, 207, 208, 171, 172, 173, 540, 541, 542, 543, 544, 545, 546, 547, 548, 549, 550, 551, 552] (by decide +kernel) (by decide +kernel)
set_option maxRecDepth 20000 in
theorem gL_law_X0_improve : GoodIn wsL_law (wsV RL 126 RX0 yX0_improve wsX0_improve) := goodIn_app (goodIn_of _ (by decide +kernel)) ggL_law_X0_improve
set_option maxRecDepth 20000 in
theorem ggL_law_X1_improve : GoodIn wsL_law wsX1_improve := goodIn_r _ [332, 39, 308, 59, 37, 284, 285, 286, 5, 287, 34, 237, 238, 239, 240, 32, 35, 241, 242, 243, 244, 245, 246, 247, 248, 249, 250, 251, 252, 110, 111, 112, 113, 33, 253, 254, 255, 256, 186, 187, 188, 189, 190, 191, 192, 193, 553, 554, 555, 556, 557, 558, 559, 560, 561, 562] (by decide +kernel) (by decide +kernel)
set_option maxRecDepth 20000 in
theorem gL_law_X1_improve : GoodIn wsL_law (wsV RL 129 RX1 yX1_improve wsX1_improve) := goodIn_app (goodIn_of _ (by decide +kernel)) ggL_law_X1_improve
set_option maxRecDepth 20000 in
theorem ggL_law_L_makespan : GoodIn wsL_law wsL_makespan := goodIn_ca (goodIn_r _ [335, 67, 336, 337, 338, 2, 339, 340, 341, 342, 72, 73, 272, 273, 274, 275, 13, 20, 209, 210, 211, 212, 14, 213, 214, 215, 216, 17, 18, 217, 218, 219, 220, 221, 222, 223, 224, 74, 75, 76, 225, 226, 227, 228, 16, 229, 230, 231, 232, 540, 541, 542, 543, 544, 545, 546, 547, 548, 549, 550, 551, 552] (by decide +kernel) (by decide +kernel)) (goodIn_sub (fun _ h => List.mem_append_left _ (List.mem_append_right _ h)) (by decide +kernel))
set_option maxRecDepth 20000 in
theorem gL_law_L_makespan : GoodIn wsL_law (va_wsS RL 130 yL_makespan wsL_makespan) := goodIn_app (goodIn_of _ (by decide +kernel)) ggL_law_L_makespan
set_option maxRecDepth 20000 in
theorem ggL_law_X1_makespan : GoodIn wsL_law wsX1_makespan := goodIn_r _ [346, 39, 34, 59, 347, 348, 5, 349, 81, 82, 83, 237, 238, 239, 240, 32, 35, 241, 242, 243, 244, 245, 246, 247, 248, 249, 250, 251, 252, 110, 111, 112, 113, 33, 253, 254, 255, 256, 553, 554, 555, 556, 557, 558, 559, 560, 561, 562] (by decide +kernel) (by decide +kernel)
set_option maxRecDepth 20000 in
theorem gL_law_X1_makespan : GoodIn wsL_law (wsV RL 132 RX1 yX1_makespan wsX1_makespan) := goodIn_app (goodIn_of _ (by decide +kernel)) ggL_law_X1_makespan
set_option maxRecDepth 20000 in
theorem ggL_law_L_begin : GoodIn wsL_law wsL_begin := goodIn_ca (goodIn_ca (goodIn_r _ [352, 67, 87, 353, 354, 355, 2, 356, 17, 340, 341, 342, 72, 73, 152, 153, 154, 155, 96, 97, 13, 98, 99, 100, 101, 14, 272, 273, 274, 275, 20, 209, 210, 211, 212, 213, 214, 215, 216, 18, 217, 218, 219, 220, 221, 222, 223, 224, 74, 75, 76, 225, 226, 227, 228, 16, 229, 230, 231, 232, 540, 541, 542, 543, 544, 545, 546, 547, 548, 549, 550, 551, 552] (by decide +kernel) (by decide +kernel)) (goodIn_sub (fun _ h => List.mem_append_left _ (List.mem_append_right _ h)) (by decide +kernel))) (goodIn_sub (fun _ h => List.mem_append_right _ h) (by decide +kernel))
set_option maxRecDepth 20000 in
theorem gL_law_L_begin : GoodIn wsL_law (va_wsS RL 133 yL_begin wsL_begin) := goodIn_app (goodIn_of _ (by decide +kernel)) ggL_law_L_begin
set_option maxRecDepth 20000 in
theorem ggL_law_X1_begin : GoodIn wsL_law wsX1_begin := goodIn_r _ [360, 39, 34, 59, 347, 348, 5, 349, 81, 82, 83, 106, 107, 108, 109, 32, 237, 238, 239, 240, 35, 241, 242, 243, 244, 245, 246, 247, 248, 249, 250, 251, 252, 110, 111, 112, 113, 33, 253, 254, 255, 256, 553, 554, 555, 556, 557, 558, 559, 560, 561, 562] (by decide +kernel) (by decide +kernel)
set_option maxRecDepth 20000 in
theorem gL_law_X1_begin : GoodIn wsL_law (wsV RL 135 RX1 yX1_begin wsX1_begin) := goodIn_app (goodIn_of _ (by decide +kernel)) ggL_law_X1_begin
set_option maxRecDepth 20000 in
theorem ggL_law_X0_totalTime : GoodIn wsL_law wsX0_totalTime := goodIn_r _ [364, 13, 18, 14, 272, 273, 274, 2, 275, 20, 209, 210, 211, 212, 213, 214, 215, 216, 17, 217, 218, 219, 220, 221, 222, 223, 224, 74, 75, 76, 225, 226, 227, 228, 16, 229, 230, 231, 232, 540, 541, 542, 543, 544, 545, 546, 547, 548, 549, 550, 551, 552] (by decide +kernel) (by decide +kernel)
set_option maxRecDepth 20000 in
theorem gL_law_X0_totalTime : GoodIn wsL_law (wsV RL 136 RX0 yX0_totalTime wsX0_totalTime) := goodIn_app (goodIn_of _ (by decide +kernel)) ggL_law_X0_totalTime
