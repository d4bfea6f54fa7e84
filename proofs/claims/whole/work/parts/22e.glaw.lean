set_option maxRecDepth 20000 in
theorem ggL_law_X1_jobAt : GoodIn wsL_law wsX1_jobAt := goodIn_r _ [159, 39, 59, 34, 81, 82, 5, 83, 125, 126, 127, 128, 553, 554, 555, 556, 557, 558, 559, 560, 561, 562] (by decide +kernel) (by decide +kernel)
set_option maxRecDepth 20000 in
theorem gL_law_X1_jobAt : GoodIn wsL_law (wsV RL 112 RX1 yX1_jobAt wsX1_jobAt) := goodIn_app (goodIn_of _ (by decide +kernel)) ggL_law_X1_jobAt
set_option maxRecDepth 20000 in
theorem ggL_law_L_move : GoodIn wsL_law wsL_move := goodIn_ca (goodIn_r _ [162, 87, 163, 164, 165, 2, 166, 20, 92, 93, 94, 95, 96, 97, 13, 152, 153, 154, 155, 167, 168, 169, 170, 171, 172, 173, 540, 541, 542, 543, 544, 545, 546, 547, 548, 549, 550, 551, 552] (by decide +kernel) (by decide +kernel)) (goodIn_sub (fun _ h => List.mem_append_right _ h) (by decide +kernel))
set_option maxRecDepth 20000 in
theorem gL_law_L_move : GoodIn wsL_law (va_wsS RL 113 yL_move wsL_move) := goodIn_app (goodIn_of _ (by decide +kernel)) ggL_law_L_move
set_option maxRecDepth 20000 in
theorem ggL_law_X1_move : GoodIn wsL_law wsX1_move := goodIn_r _ [177, 39, 178, 179, 180, 5, 181, 59, 81, 82, 83, 182, 183, 184, 185, 34, 186, 187, 188, 189, 37, 190, 191, 192, 193, 553, 554, 555, 556, 557, 558, 559, 560, 561, 562] (by decide +kernel) (by decide +kernel)
set_option maxRecDepth 20000 in
theorem gL_law_X1_move : GoodIn wsL_law (wsV RL 115 RX1 yX1_move wsX1_move) := goodIn_app (goodIn_of _ (by decide +kernel)) ggL_law_X1_move
set_option maxRecDepth 20000 in
theorem ggL_law_L_makespanIfMoved : GoodIn wsL_law wsL_makespanIfMoved := goodIn_ca (goodIn_r _ [196, 87, 197, 198, 199, 2, 200, 13, 92, 93, 94, 95, 96, 97, 152, 153, 154, 155, 167, 168, 169, 170, 20, 201, 202, 203, 204, 21, 205, 206, 207, 208, 171, 172, 173, 209, 210, 211, 212, 14, 213, 214, 215, 216, 17, 18, 217, 218, 219, 220, 221, 222, 223, 224, 74, 75, 76, 225, 226, 227, 228, 16, 229, 230, 231, 232, 540, 541, 542, 543, 544, 545, 546, 547, 548, 549, 550, 551, 552] (by decide +kernel) (by decide +kernel)) (goodIn_sub (fun _ h => List.mem_append_right _ h) (by decide +kernel))
set_option maxRecDepth 20000 in
theorem gL_law_L_makespanIfMoved : GoodIn wsL_law (va_wsS RL 116 yL_makespanIfMoved wsL_makespanIfMoved) := goodIn_app (goodIn_of _ (by decide +kernel)) ggL_law_L_makespanIfMoved
set_option maxRecDepth 20000 in
theorem ggL_law_X1_makespanIfMoved : GoodIn wsL_law wsX1_makespanIfMoved := goodIn_r _ [236, 39, 37, 59, 178, 179, 180, 5, 181, 81, 82, 83, 182, 183, 184, 185, 34, 186, 187, 188, 189, 237, 238, 239, 240, 32, 35, 241, 242, 243, 244, 245, 246, 247, 248, 249, 250, 251, 252, 110, 111, 112, 113, 33, 253, 254, 255, 256, 553, 554, 555, 556, 557, 558, 559, 560, 561, 562] (by decide +kernel) (by decide +kernel)
set_option maxRecDepth 20000 in
theorem gL_law_X1_makespanIfMoved : GoodIn wsL_law (wsV RL 118 RX1 yX1_makespanIfMoved wsX1_makespanIfMoved) := goodIn_app (goodIn_of _ (by decide +kernel)) ggL_law_X1_makespanIfMoved
set_option maxRecDepth 20000 in
theorem ggL_law_L_orderByRule : GoodIn wsL_law wsL_orderByRule := goodIn_ca (goodIn_r _ [259, 44, 260, 261, 262, 2, 263, 49, 50, 14, 20, 264, 265, 266, 267, 13, 268, 269, 270, 271, 225, 226, 227, 228, 16, 74, 75, 76, 272, 273, 274, 275, 209, 210, 211, 212, 213, 214, 215, 216, 17, 18, 217, 218, 219, 220, 221, 222, 223, 224, 229, 230, 231, 232, 540, 541, 542, 543, 544, 545, 546, 547, 548, 549, 550, 551, 552] (by decide +kernel) (by decide +kernel)) (goodIn_sub (fun _ h => List.mem_append_left _ (List.mem_append_left _ (List.mem_append_right _ h))) (by decide +kernel))
set_option maxRecDepth 20000 in
theorem gL_law_L_orderByRule : GoodIn wsL_law (va_wsS RL 119 yL_orderByRule wsL_orderByRule) := goodIn_app (goodIn_of _ (by decide +kernel)) ggL_law_L_orderByRule
set_option maxRecDepth 20000 in
theorem ggL_law_X1_orderByRule : GoodIn wsL_law wsX1_orderByRule := goodIn_r _ [279, 32, 39, 59, 34, 280, 281, 282, 5, 283, 110, 111, 112, 113, 33, 284, 285, 286, 287, 237, 238, 239, 240, 35, 241, 242, 243, 244, 245, 246, 247, 248, 249, 250, 251, 252, 253, 254, 255, 256, 553, 554, 555, 556, 557, 558, 559, 560, 561, 562] (by decide +kernel) (by decide +kernel)
set_option maxRecDepth 20000 in
theorem gL_law_X1_orderByRule : GoodIn wsL_law (wsV RL 121 RX1 yX1_orderByRule wsX1_orderByRule) := goodIn_app (goodIn_of _ (by decide +kernel)) ggL_law_X1_orderByRule
set_option maxRecDepth 20000 in
theorem ggL_law_X0_orderByInsertion : GoodIn wsL_law wsX0_orderByInsertion := goodIn_r _ [291, 13, 20, 22, 292, 293, 294, 2, 295, 14, 296, 297, 298, 299, 225, 226, 227, 228, 16, 74, 75, 76, 300, 301, 302, 303, 201, 202, 203, 204, 21, 205, 206, 207, 208, 171, 172, 173, 209, 210, 211, 212, 213, 214, 215, 216, 17, 18, 217, 218, 219, 220, 221, 222, 223, 224, 229, 230, 231, 232, 272, 273, 274, 275, 540, 541, 542, 543, 544, 545, 546, 547, 548, 549, 550, 551, 552] (by decide +kernel) (by decide +kernel)
set_option maxRecDepth 20000 in
theorem gL_law_X0_orderByInsertion : GoodIn wsL_law (wsV RL 122 RX0 yX0_orderByInsertion wsX0_orderByInsertion) := goodIn_app (goodIn_of _ (by decide +kernel)) ggL_law_X0_orderByInsertion
