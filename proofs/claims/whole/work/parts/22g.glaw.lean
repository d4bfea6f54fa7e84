set_option maxRecDepth 20000 in
theorem ggL_law_X1_totalTime : GoodIn wsL_law wsX1_totalTime := goodIn_r _ [368, 39, 59, 34, 32, 284, 285, 286, 5, 287, 237, 238, 239, 240, 35, 241, 242, 243, 244, 245, 246, 247, 248, 249, 250, 251, 252, 110, 111, 112, 113, 33, 253, 254, 255, 256, 553, 554, 555, 556, 557, 558, 559, 560, 561, 562] (by decide +kernel) (by decide +kernel)
set_option maxRecDepth 20000 in
theorem gL_law_X1_totalTime : GoodIn wsL_law (wsV RL 139 RX1 yX1_totalTime wsX1_totalTime) := goodIn_app (goodIn_of _ (by decide +kernel)) ggL_law_X1_totalTime
set_option maxRecDepth 20000 in
theorem ggL_law_L_head : GoodIn wsL_law wsL_head := goodIn_ca (goodIn_r _ [371, 87, 372, 373, 374, 2, 375, 18, 152, 153, 154, 155, 96, 97, 13, 98, 99, 100, 101, 14, 272, 273, 274, 275, 20, 209, 210, 211, 212, 213, 214, 215, 216, 17, 217, 218, 219, 220, 221, 222, 223, 224, 74, 75, 76, 225, 226, 227, 228, 16, 229, 230, 231, 232, 540, 541, 542, 543, 544, 545, 546, 547, 548, 549, 550, 551, 552] (by decide +kernel) (by decide +kernel)) (goodIn_sub (fun _ h => List.mem_append_right _ h) (by decide +kernel))
set_option maxRecDepth 20000 in
theorem gL_law_L_head : GoodIn wsL_law (va_wsS RL 140 yL_head wsL_head) := goodIn_app (goodIn_of _ (by decide +kernel)) ggL_law_L_head
set_option maxRecDepth 20000 in
theorem ggL_law_X1_head : GoodIn wsL_law wsX1_head := goodIn_r _ [379, 39, 34, 106, 107, 108, 5, 109, 59, 32, 81, 82, 83, 284, 285, 286, 287, 237, 238, 239, 240, 35, 241, 242, 243, 244, 245, 246, 247, 248, 249, 250, 251, 252, 110, 111, 112, 113, 33, 253, 254, 255, 256, 553, 554, 555, 556, 557, 558, 559, 560, 561, 562] (by decide +kernel) (by decide +kernel)
set_option maxRecDepth 20000 in
theorem gL_law_X1_head : GoodIn wsL_law (wsV RL 142 RX1 yX1_head wsX1_head) := goodIn_app (goodIn_of _ (by decide +kernel)) ggL_law_X1_head
set_option maxRecDepth 20000 in
theorem ggL_law_L_tail : GoodIn wsL_law wsL_tail := goodIn_ca (goodIn_r _ [382, 87, 383, 384, 385, 2, 386, 19, 152, 153, 154, 155, 96, 97, 13, 98, 99, 100, 101, 14, 387, 388, 389, 390, 213, 214, 215, 216, 20, 74, 75, 76, 225, 226, 227, 228, 16, 540, 541, 542, 543, 544, 545, 546, 547, 548, 549, 550, 551, 552] (by decide +kernel) (by decide +kernel)) (goodIn_sub (fun _ h => List.mem_append_right _ h) (by decide +kernel))
set_option maxRecDepth 20000 in
theorem gL_law_L_tail : GoodIn wsL_law (va_wsS RL 143 yL_tail wsL_tail) := goodIn_app (goodIn_of _ (by decide +kernel)) ggL_law_L_tail
set_option maxRecDepth 20000 in
theorem ggL_law_X1_tail : GoodIn wsL_law wsX1_tail := goodIn_r _ [394, 39, 36, 106, 107, 108, 5, 109, 59, 32, 81, 82, 83, 395, 396, 397, 398, 34, 110, 111, 112, 113, 33, 553, 554, 555, 556, 557, 558, 559, 560, 561, 562] (by decide +kernel) (by decide +kernel)
set_option maxRecDepth 20000 in
theorem gL_law_X1_tail : GoodIn wsL_law (wsV RL 145 RX1 yX1_tail wsX1_tail) := goodIn_app (goodIn_of _ (by decide +kernel)) ggL_law_X1_tail
set_option maxRecDepth 20000 in
theorem ggL_law_L_isCritical : GoodIn wsL_law wsL_isCritical := goodIn_ca (goodIn_r _ [401, 87, 402, 403, 404, 2, 405, 18, 19, 20, 152, 153, 154, 155, 96, 97, 13, 98, 99, 100, 101, 14, 272, 273, 274, 275, 209, 210, 211, 212, 213, 214, 215, 216, 17, 217, 218, 219, 220, 221, 222, 223, 224, 74, 75, 76, 225, 226, 227, 228, 16, 229, 230, 231, 232, 387, 388, 389, 390, 540, 541, 542, 543, 544, 545, 546, 547, 548, 549, 550, 551, 552] (by decide +kernel) (by decide +kernel)) (goodIn_sub (fun _ h => List.mem_append_right _ h) (by decide +kernel))
set_option maxRecDepth 20000 in
theorem gL_law_L_isCritical : GoodIn wsL_law (va_wsS RL 146 yL_isCritical wsL_isCritical) := goodIn_app (goodIn_of _ (by decide +kernel)) ggL_law_L_isCritical
set_option maxRecDepth 20000 in
theorem ggL_law_X1_isCritical : GoodIn wsL_law wsX1_isCritical := goodIn_r _ [409, 39, 36, 106, 107, 108, 5, 109, 59, 32, 81, 82, 83, 284, 285, 286, 287, 34, 237, 238, 239, 240, 35, 241, 242, 243, 244, 245, 246, 247, 248, 249, 250, 251, 252, 110, 111, 112, 113, 33, 253, 254, 255, 256, 395, 396, 397, 398, 553, 554, 555, 556, 557, 558, 559, 560, 561, 562] (by decide +kernel) (by decide +kernel)
set_option maxRecDepth 20000 in
theorem gL_law_X1_isCritical : GoodIn wsL_law (wsV RL 148 RX1 yX1_isCritical wsX1_isCritical) := goodIn_app (goodIn_of _ (by decide +kernel)) ggL_law_X1_isCritical
set_option maxRecDepth 20000 in
theorem ggL_law_L_idle : GoodIn wsL_law wsL_idle := goodIn_ca (goodIn_ca (goodIn_r _ [412, 67, 87, 413, 414, 415, 2, 416, 13, 18, 17, 340, 341, 342, 72, 73, 98, 99, 100, 101, 96, 97, 14, 272, 273, 274, 275, 20, 209, 210, 211, 212, 213, 214, 215, 216, 217, 218, 219, 220, 221, 222, 223, 224, 74, 75, 76, 225, 226, 227, 228, 16, 229, 230, 231, 232, 417, 418, 419, 420, 540, 541, 542, 543, 544, 545, 546, 547, 548, 549, 550, 551, 552] (by decide +kernel) (by decide +kernel)) (goodIn_sub (fun _ h => List.mem_append_left _ (List.mem_append_right _ h)) (by decide +kernel))) (goodIn_sub (fun _ h => List.mem_append_right _ h) (by decide +kernel))
set_option maxRecDepth 20000 in
theorem gL_law_L_idle : GoodIn wsL_law (va_wsS RL 149 yL_idle wsL_idle) := goodIn_app (goodIn_of _ (by decide +kernel)) ggL_law_L_idle
