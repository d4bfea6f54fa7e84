set_option maxRecDepth 20000 in
theorem ggL_law_X1_bestAt : GoodIn wsL_law wsX1_bestAt := goodIn_r _ [520, 59, 39, 38, 347, 348, 5, 349, 81, 82, 83, 505, 506, 507, 508, 308, 509, 37, 462, 463, 464, 465, 237, 238, 239, 240, 32, 35, 241, 242, 243, 244, 245, 246, 247, 248, 249, 250, 251, 252, 110, 111, 112, 113, 33, 253, 254, 255, 256, 470, 471, 472, 473, 474, 475, 476, 477, 553, 554, 555, 556, 557, 558, 559, 560, 561, 562] (by decide +kernel) (by decide +kernel)
set_option maxRecDepth 20000 in
theorem gL_law_X1_bestAt : GoodIn wsL_law (wsV RL 163 RX1 yX1_bestAt wsX1_bestAt) := goodIn_app (goodIn_of _ (by decide +kernel)) ggL_law_X1_bestAt
set_option maxRecDepth 20000 in
theorem ggL_law_L_bestOrders : GoodIn wsL_law wsL_bestOrders := goodIn_ca (goodIn_r _ [523, 67, 524, 525, 526, 2, 527, 26, 340, 341, 342, 72, 73, 485, 486, 487, 488, 24, 13, 21, 209, 210, 211, 212, 14, 213, 214, 215, 216, 17, 18, 217, 218, 219, 220, 221, 222, 223, 224, 74, 75, 76, 225, 226, 227, 228, 16, 229, 230, 231, 232, 489, 490, 491, 492, 25, 27, 205, 206, 207, 208, 493, 494, 495, 496, 497, 498, 499, 500, 540, 541, 542, 543, 544, 545, 546, 547, 548, 549, 550, 551, 552] (by decide +kernel) (by decide +kernel)) (goodIn_sub (fun _ h => List.mem_append_left _ (List.mem_append_right _ h)) (by decide +kernel))
set_option maxRecDepth 20000 in
theorem gL_law_L_bestOrders : GoodIn wsL_law (va_wsS RL 164 yL_bestOrders wsL_bestOrders) := goodIn_app (goodIn_of _ (by decide +kernel)) ggL_law_L_bestOrders
set_option maxRecDepth 20000 in
theorem ggL_law_X1_bestOrders : GoodIn wsL_law wsX1_bestOrders := goodIn_r _ [531, 39, 509, 347, 348, 5, 349, 81, 82, 83, 505, 506, 507, 508, 308, 37, 59, 38, 462, 463, 464, 465, 237, 238, 239, 240, 32, 35, 241, 242, 243, 244, 245, 246, 247, 248, 249, 250, 251, 252, 110, 111, 112, 113, 33, 253, 254, 255, 256, 470, 471, 472, 473, 474, 475, 476, 477, 553, 554, 555, 556, 557, 558, 559, 560, 561, 562] (by decide +kernel) (by decide +kernel)
set_option maxRecDepth 20000 in
theorem gL_law_X1_bestOrders : GoodIn wsL_law (wsV RL 166 RX1 yX1_bestOrders wsX1_bestOrders) := goodIn_app (goodIn_of _ (by decide +kernel)) ggL_law_X1_bestOrders
set_option maxRecDepth 20000 in
theorem ggL_law_X0_gap : GoodIn wsL_law wsX0_gap := goodIn_r _ [535, 25, 272, 273, 274, 2, 275, 13, 20, 209, 210, 211, 212, 14, 213, 214, 215, 216, 17, 18, 217, 218, 219, 220, 221, 222, 223, 224, 74, 75, 76, 225, 226, 227, 228, 16, 229, 230, 231, 232, 485, 486, 487, 488, 24, 26, 21, 489, 490, 491, 492, 27, 205, 206, 207, 208, 493, 494, 495, 496, 497, 498, 499, 500, 540, 541, 542, 543, 544, 545, 546, 547, 548, 549, 550, 551, 552] (by decide +kernel) (by decide +kernel)
set_option maxRecDepth 20000 in
theorem gL_law_X0_gap : GoodIn wsL_law (wsV RL 167 RX0 yX0_gap wsX0_gap) := goodIn_app (goodIn_of _ (by decide +kernel)) ggL_law_X0_gap
set_option maxRecDepth 20000 in
theorem ggL_law_X1_gap : GoodIn wsL_law wsX1_gap := goodIn_r _ [539, 39, 505, 506, 507, 5, 508, 308, 509, 37, 59, 38, 462, 463, 464, 465, 237, 238, 239, 240, 32, 35, 241, 242, 243, 244, 245, 246, 247, 248, 249, 250, 251, 252, 110, 111, 112, 113, 33, 253, 254, 255, 256, 470, 471, 472, 473, 474, 475, 476, 477, 284, 285, 286, 287, 34, 553, 554, 555, 556, 557, 558, 559, 560, 561, 562] (by decide +kernel) (by decide +kernel)
set_option maxRecDepth 20000 in
theorem gL_law_X1_gap : GoodIn wsL_law (wsV RL 171 RX1 yX1_gap wsX1_gap) := goodIn_app (goodIn_of _ (by decide +kernel)) ggL_law_X1_gap
