set_option maxRecDepth 20000 in
theorem ggL_law_X1_idle : GoodIn wsL_law wsX1_idle := goodIn_r _ [424, 32, 39, 59, 34, 347, 348, 5, 349, 81, 82, 83, 237, 238, 239, 240, 35, 241, 242, 243, 244, 245, 246, 247, 248, 249, 250, 251, 252, 110, 111, 112, 113, 33, 253, 254, 255, 256, 553, 554, 555, 556, 557, 558, 559, 560, 561, 562] (by decide +kernel) (by decide +kernel)
set_option maxRecDepth 20000 in
theorem gL_law_X1_idle : GoodIn wsL_law (wsV RL 151 RX1 yX1_idle wsX1_idle) := goodIn_app (goodIn_of _ (by decide +kernel)) ggL_law_X1_idle
set_option maxRecDepth 20000 in
theorem ggL_law_L_machineBound : GoodIn wsL_law wsL_machineBound := goodIn_ca (goodIn_r _ [427, 87, 428, 429, 430, 2, 431, 14, 98, 99, 100, 101, 96, 97, 417, 418, 419, 420, 13, 225, 226, 227, 228, 16, 74, 75, 76, 432, 433, 434, 435, 436, 437, 215, 438, 296, 297, 298, 299, 540, 541, 542, 543, 544, 545, 546, 547, 548, 549, 550, 551, 552] (by decide +kernel) (by decide +kernel)) (goodIn_sub (fun _ h => List.mem_append_right _ h) (by decide +kernel))
set_option maxRecDepth 20000 in
theorem gL_law_L_machineBound : GoodIn wsL_law (va_wsS RL 152 yL_machineBound wsL_machineBound) := goodIn_app (goodIn_of _ (by decide +kernel)) ggL_law_L_machineBound
set_option maxRecDepth 20000 in
theorem ggL_law_X1_machineBound : GoodIn wsL_law wsX1_machineBound := goodIn_r _ [442, 32, 39, 59, 81, 82, 5, 83, 443, 444, 445, 446, 308, 313, 314, 315, 316, 110, 111, 112, 113, 33, 553, 554, 555, 556, 557, 558, 559, 560, 561, 562] (by decide +kernel) (by decide +kernel)
set_option maxRecDepth 20000 in
theorem gL_law_X1_machineBound : GoodIn wsL_law (wsV RL 154 RX1 yX1_machineBound wsX1_machineBound) := goodIn_app (goodIn_of _ (by decide +kernel)) ggL_law_X1_machineBound
set_option maxRecDepth 20000 in
theorem ggL_law_L_pairBound : GoodIn wsL_law wsL_pairBound := goodIn_ca (goodIn_ca (goodIn_r _ [449, 87, 67, 450, 451, 452, 2, 453, 72, 73, 14, 98, 99, 100, 101, 96, 97, 454, 455, 456, 457, 21, 13, 213, 214, 215, 216, 264, 265, 266, 267, 268, 269, 270, 271, 225, 226, 227, 228, 16, 74, 75, 76, 432, 433, 434, 435, 436, 437, 438, 296, 297, 298, 299, 540, 541, 542, 543, 544, 545, 546, 547, 548, 549, 550, 551, 552] (by decide +kernel) (by decide +kernel)) (goodIn_sub (fun _ h => List.mem_append_left _ (List.mem_append_right _ h)) (by decide +kernel))) (goodIn_sub (fun _ h => List.mem_append_right _ h) (by decide +kernel))
set_option maxRecDepth 20000 in
theorem gL_law_L_pairBound : GoodIn wsL_law (va_wsS RL 155 yL_pairBound wsL_pairBound) := goodIn_app (goodIn_of _ (by decide +kernel)) ggL_law_L_pairBound
set_option maxRecDepth 20000 in
theorem ggL_law_X1_pairBound : GoodIn wsL_law wsX1_pairBound := goodIn_r _ [461, 32, 39, 59, 308, 81, 82, 5, 83, 462, 463, 464, 465, 37, 466, 467, 468, 469, 110, 111, 112, 113, 33, 470, 471, 472, 473, 474, 475, 476, 477, 443, 444, 445, 446, 313, 314, 315, 316, 553, 554, 555, 556, 557, 558, 559, 560, 561, 562] (by decide +kernel) (by decide +kernel)
set_option maxRecDepth 20000 in
theorem gL_law_X1_pairBound : GoodIn wsL_law (wsV RL 157 RX1 yX1_pairBound wsX1_pairBound) := goodIn_app (goodIn_of _ (by decide +kernel)) ggL_law_X1_pairBound
set_option maxRecDepth 20000 in
theorem ggL_law_L_best : GoodIn wsL_law wsL_best := goodIn_ca (goodIn_r _ [480, 67, 481, 482, 483, 2, 484, 25, 340, 341, 342, 72, 73, 485, 486, 487, 488, 24, 26, 13, 21, 209, 210, 211, 212, 14, 213, 214, 215, 216, 17, 18, 217, 218, 219, 220, 221, 222, 223, 224, 74, 75, 76, 225, 226, 227, 228, 16, 229, 230, 231, 232, 489, 490, 491, 492, 27, 205, 206, 207, 208, 493, 494, 495, 496, 497, 498, 499, 500, 540, 541, 542, 543, 544, 545, 546, 547, 548, 549, 550, 551, 552] (by decide +kernel) (by decide +kernel)) (goodIn_sub (fun _ h => List.mem_append_left _ (List.mem_append_right _ h)) (by decide +kernel))
set_option maxRecDepth 20000 in
theorem gL_law_L_best : GoodIn wsL_law (va_wsS RL 158 yL_best wsL_best) := goodIn_app (goodIn_of _ (by decide +kernel)) ggL_law_L_best
set_option maxRecDepth 20000 in
theorem ggL_law_X1_best : GoodIn wsL_law wsX1_best := goodIn_r _ [504, 39, 347, 348, 5, 349, 81, 82, 83, 505, 506, 507, 508, 308, 509, 37, 59, 38, 462, 463, 464, 465, 237, 238, 239, 240, 32, 35, 241, 242, 243, 244, 245, 246, 247, 248, 249, 250, 251, 252, 110, 111, 112, 113, 33, 253, 254, 255, 256, 470, 471, 472, 473, 474, 475, 476, 477, 553, 554, 555, 556, 557, 558, 559, 560, 561, 562] (by decide +kernel) (by decide +kernel)
set_option maxRecDepth 20000 in
theorem gL_law_X1_best : GoodIn wsL_law (wsV RL 160 RX1 yX1_best wsX1_best) := goodIn_app (goodIn_of _ (by decide +kernel)) ggL_law_X1_best
set_option maxRecDepth 20000 in
theorem ggL_law_L_bestAt : GoodIn wsL_law wsL_bestAt := goodIn_ca (goodIn_ca (goodIn_r _ [512, 67, 87, 513, 514, 515, 2, 516, 27, 340, 341, 342, 72, 73, 152, 153, 154, 155, 96, 97, 13, 485, 486, 487, 488, 24, 26, 21, 209, 210, 211, 212, 14, 213, 214, 215, 216, 17, 18, 217, 218, 219, 220, 221, 222, 223, 224, 74, 75, 76, 225, 226, 227, 228, 16, 229, 230, 231, 232, 489, 490, 491, 492, 25, 205, 206, 207, 208, 493, 494, 495, 496, 497, 498, 499, 500, 540, 541, 542, 543, 544, 545, 546, 547, 548, 549, 550, 551, 552] (by decide +kernel) (by decide +kernel)) (goodIn_sub (fun _ h => List.mem_append_left _ (List.mem_append_right _ h)) (by decide +kernel))) (goodIn_sub (fun _ h => List.mem_append_right _ h) (by decide +kernel))
set_option maxRecDepth 20000 in
theorem gL_law_L_bestAt : GoodIn wsL_law (va_wsS RL 161 yL_bestAt wsL_bestAt) := goodIn_app (goodIn_of _ (by decide +kernel)) ggL_law_L_bestAt
