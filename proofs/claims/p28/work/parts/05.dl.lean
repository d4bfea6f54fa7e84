theorem dJ9_max_7cf53_0 : decode cJ9_max_7cf53 0 = .ok (.iload_n 0, 1) := by decide +kernel
theorem dJ9_max_7cf53_1 : decode cJ9_max_7cf53 1 = .ok (.iload_n 1, 1) := by decide +kernel
theorem dJ9_max_7cf53_2 : decode cJ9_max_7cf53 2 = .ok (.if_icmp .lt 7, 3) := by decide +kernel
theorem dJ9_max_7cf53_5 : decode cJ9_max_7cf53 5 = .ok (.iload_n 0, 1) := by decide +kernel
theorem dJ9_max_7cf53_6 : decode cJ9_max_7cf53 6 = .ok (.goto 4, 3) := by decide +kernel
theorem dJ9_max_7cf53_9 : decode cJ9_max_7cf53 9 = .ok (.iload_n 1, 1) := by decide +kernel
theorem dJ9_max_7cf53_10 : decode cJ9_max_7cf53 10 = .ok (.ireturn, 1) := by decide +kernel
theorem dJ9_min_7cf53_0 : decode cJ9_min_7cf53 0 = .ok (.iload_n 0, 1) := by decide +kernel
theorem dJ9_min_7cf53_1 : decode cJ9_min_7cf53 1 = .ok (.iload_n 1, 1) := by decide +kernel
theorem dJ9_min_7cf53_2 : decode cJ9_min_7cf53 2 = .ok (.if_icmp .gt 7, 3) := by decide +kernel
theorem dJ9_min_7cf53_5 : decode cJ9_min_7cf53 5 = .ok (.iload_n 0, 1) := by decide +kernel
theorem dJ9_min_7cf53_6 : decode cJ9_min_7cf53 6 = .ok (.goto 4, 3) := by decide +kernel
theorem dJ9_min_7cf53_9 : decode cJ9_min_7cf53 9 = .ok (.iload_n 1, 1) := by decide +kernel
theorem dJ9_min_7cf53_10 : decode cJ9_min_7cf53 10 = .ok (.ireturn, 1) := by decide +kernel
theorem dL_cell_0 : decode cL_cell 0 = .ok (.iload_n 1, 1) := by decide +kernel
theorem dL_cell_1 : decode cL_cell 1 = .ok (.aload_n 0, 1) := by decide +kernel
theorem dL_cell_2 : decode cL_cell 2 = .ok (.arraylength, 1) := by decide +kernel
theorem dL_cell_3 : decode cL_cell 3 = .ok (.if_icmp .ge 9, 3) := by decide +kernel
theorem dL_cell_6 : decode cL_cell 6 = .ok (.aload_n 0, 1) := by decide +kernel
theorem dL_cell_7 : decode cL_cell 7 = .ok (.iload_n 1, 1) := by decide +kernel
theorem dL_cell_8 : decode cL_cell 8 = .ok (.iaload, 1) := by decide +kernel
theorem dL_cell_9 : decode cL_cell 9 = .ok (.goto 15, 3) := by decide +kernel
theorem dL_cell_12 : decode cL_cell 12 = .ok (.sipush 7919, 3) := by decide +kernel
theorem dL_cell_15 : decode cL_cell 15 = .ok (.iload_n 1, 1) := by decide +kernel
theorem dL_cell_16 : decode cL_cell 16 = .ok (.iconst 3, 1) := by decide +kernel
theorem dL_cell_17 : decode cL_cell 17 = .ok (.iadd, 1) := by decide +kernel
theorem dL_cell_18 : decode cL_cell 18 = .ok (.imul, 1) := by decide +kernel
theorem dL_cell_19 : decode cL_cell 19 = .ok (.iload_n 1, 1) := by decide +kernel
theorem dL_cell_20 : decode cL_cell 20 = .ok (.bipush 11, 2) := by decide +kernel
theorem dL_cell_22 : decode cL_cell 22 = .ok (.iadd, 1) := by decide +kernel
theorem dL_cell_23 : decode cL_cell 23 = .ok (.imul, 1) := by decide +kernel
theorem dL_cell_24 : decode cL_cell 24 = .ok (.ireturn, 1) := by decide +kernel
theorem dL_low_0 : decode cL_low 0 = .ok (.iload_n 0, 1) := by decide +kernel
theorem dL_low_1 : decode cL_low 1 = .ok (.ldc 7, 2) := by decide +kernel
theorem dL_low_3 : decode cL_low 3 = .ok (.iand, 1) := by decide +kernel
theorem dL_low_4 : decode cL_low 4 = .ok (.iload_n 1, 1) := by decide +kernel
theorem dL_low_5 : decode cL_low 5 = .ok (.irem, 1) := by decide +kernel
theorem dL_low_6 : decode cL_low 6 = .ok (.ireturn, 1) := by decide +kernel
set_option maxRecDepth 20000 in
theorem ggL_areBest_X0_best : GoodIn wsL_areBest wsX0_best := goodIn_ca (goodIn_r _ [5, 6, 7, 8, 4, 9, 10, 11, 12, 13, 14, 15, 16, 17, 18, 19, 20, 21, 22, 23, 24, 25, 26, 27, 28, 29, 30, 31, 32, 33, 34, 35, 36, 37, 38, 39, 40, 41, 42, 43, 44, 45, 46, 47, 48, 49, 50, 51, 52, 53, 54, 55, 56, 57, 58, 59, 60, 61, 62, 63, 64, 65, 66, 67, 122, 123, 124, 125, 126, 127, 128, 129, 130, 131, 132, 133, 134] (by decide +kernel) (by decide +kernel)) (goodIn_sub (fun _ h => List.mem_cons_of_mem _ (List.mem_append_left _ (List.mem_append_right _ h))) (by decide +kernel))
set_option maxRecDepth 20000 in
theorem gL_areBest_X0_best : GoodIn wsL_areBest (wsV RL 8 RX0 yX0_best wsX0_best) := goodIn_app (goodIn_of _ (by decide +kernel)) ggL_areBest_X0_best
set_option maxRecDepth 20000 in
theorem ggL_areBest_X0_makespan : GoodIn wsL_areBest wsX0_makespan := goodIn_ca (goodIn_r _ [71, 7, 8, 4, 9, 10, 11, 72, 73, 74, 75, 18, 76, 20, 21, 22, 23, 24, 25, 26, 27, 28, 29, 30, 31, 32, 33, 34, 35, 36, 37, 38, 39, 40, 41, 42, 43, 44, 45, 46, 47, 48, 49, 50, 122, 123, 124, 125, 126, 127, 128, 129, 130, 131, 132, 133, 134] (by decide +kernel) (by decide +kernel)) (goodIn_sub (fun _ h => List.mem_cons_of_mem _ (List.mem_append_left _ (List.mem_append_right _ h))) (by decide +kernel))
set_option maxRecDepth 20000 in
theorem gL_areBest_X0_makespan : GoodIn wsL_areBest (wsV RL 14 RX0 yX0_makespan wsX0_makespan) := goodIn_app (goodIn_of _ (by decide +kernel)) ggL_areBest_X0_makespan
set_option maxRecDepth 20000 in
theorem ggL_areBest_X0_machines : GoodIn wsL_areBest wsX0_machines := goodIn_r _ [80, 24, 122, 123, 124, 125, 126, 127, 128, 129, 130, 131, 132, 133, 134] (by decide +kernel) (by decide +kernel)
set_option maxRecDepth 20000 in
theorem gL_areBest_X0_machines : GoodIn wsL_areBest (wsV RL 17 RX0 yX0_machines wsX0_machines) := goodIn_app (goodIn_of _ (by decide +kernel)) ggL_areBest_X0_machines
set_option maxRecDepth 20000 in
theorem ggL_areBest_X0_machineBound : GoodIn wsL_areBest wsX0_machineBound := goodIn_ca (goodIn_r _ [84, 24, 85, 86, 87, 4, 88, 89, 90, 91, 92, 93, 94, 18, 42, 43, 44, 45, 46, 39, 40, 41, 95, 96, 97, 98, 99, 100, 27, 101, 102, 103, 104, 105, 122, 123, 124, 125, 126, 127, 128, 129, 130, 131, 132, 133, 134] (by decide +kernel) (by decide +kernel)) (goodIn_sub (fun _ h => List.mem_cons_of_mem _ (List.mem_append_right _ h)) (by decide +kernel))
set_option maxRecDepth 20000 in
theorem gL_areBest_X0_machineBound : GoodIn wsL_areBest (wsV RL 21 RX0 yX0_machineBound wsX0_machineBound) := goodIn_app (goodIn_of _ (by decide +kernel)) ggL_areBest_X0_machineBound
set_option maxRecDepth 20000 in
theorem ggL_areBest_X0_pairBound : GoodIn wsL_areBest wsX0_pairBound := goodIn_ca (goodIn_ca (goodIn_r _ [109, 10, 11, 24, 85, 86, 87, 4, 88, 89, 90, 110, 111, 112, 113, 19, 18, 25, 26, 27, 28, 114, 115, 116, 117, 118, 119, 120, 121, 42, 43, 44, 45, 46, 39, 40, 41, 95, 96, 97, 98, 99, 100, 101, 102, 103, 104, 105, 122, 123, 124, 125, 126, 127, 128, 129, 130, 131, 132, 133, 134] (by decide +kernel) (by decide +kernel)) (goodIn_sub (fun _ h => List.mem_cons_of_mem _ (List.mem_append_left _ (List.mem_append_right _ h))) (by decide +kernel))) (goodIn_sub (fun _ h => List.mem_cons_of_mem _ (List.mem_append_right _ h)) (by decide +kernel))
set_option maxRecDepth 20000 in
theorem gL_areBest_X0_pairBound : GoodIn wsL_areBest (wsV RL 24 RX0 yX0_pairBound wsX0_pairBound) := goodIn_app (goodIn_of _ (by decide +kernel)) ggL_areBest_X0_pairBound
theorem dL_areBest_0 : decode cL_areBest 0 = .ok (.aload_n 0, 1) := by decide +kernel
theorem dL_areBest_1 : decode cL_areBest 1 = .ok (.iconst 0, 1) := by decide +kernel
theorem dL_areBest_2 : decode cL_areBest 2 = .ok (.invokevirtual 8, 3) := by decide +kernel
theorem dL_areBest_5 : decode cL_areBest 5 = .ok (.istore_n 1, 1) := by decide +kernel
theorem dL_areBest_6 : decode cL_areBest 6 = .ok (.aload_n 0, 1) := by decide +kernel
theorem dL_areBest_7 : decode cL_areBest 7 = .ok (.iconst 1, 1) := by decide +kernel
theorem dL_areBest_8 : decode cL_areBest 8 = .ok (.invokevirtual 8, 3) := by decide +kernel
theorem dL_areBest_11 : decode cL_areBest 11 = .ok (.istore_n 2, 1) := by decide +kernel
theorem dL_areBest_12 : decode cL_areBest 12 = .ok (.aload_n 0, 1) := by decide +kernel
theorem dL_areBest_13 : decode cL_areBest 13 = .ok (.iconst 2, 1) := by decide +kernel
theorem dL_areBest_14 : decode cL_areBest 14 = .ok (.invokevirtual 8, 3) := by decide +kernel
theorem dL_areBest_17 : decode cL_areBest 17 = .ok (.istore_n 3, 1) := by decide +kernel
theorem dL_areBest_18 : decode cL_areBest 18 = .ok (.iload_n 1, 1) := by decide +kernel
theorem dL_areBest_19 : decode cL_areBest 19 = .ok (.iload_n 2, 1) := by decide +kernel
theorem dL_areBest_20 : decode cL_areBest 20 = .ok (.if_icmp .gt 39, 3) := by decide +kernel
theorem dL_areBest_23 : decode cL_areBest 23 = .ok (.iload_n 2, 1) := by decide +kernel
theorem dL_areBest_24 : decode cL_areBest 24 = .ok (.iload_n 3, 1) := by decide +kernel
theorem dL_areBest_25 : decode cL_areBest 25 = .ok (.if_icmp .gt 34, 3) := by decide +kernel
theorem dL_areBest_28 : decode cL_areBest 28 = .ok (.aload_n 0, 1) := by decide +kernel
theorem dL_areBest_29 : decode cL_areBest 29 = .ok (.iconst 0, 1) := by decide +kernel
theorem dL_areBest_30 : decode cL_areBest 30 = .ok (.invokevirtual 14, 3) := by decide +kernel
theorem dL_areBest_33 : decode cL_areBest 33 = .ok (.iload_n 1, 1) := by decide +kernel
theorem dL_areBest_34 : decode cL_areBest 34 = .ok (.if_icmp .lt 25, 3) := by decide +kernel
theorem dL_areBest_37 : decode cL_areBest 37 = .ok (.aload_n 0, 1) := by decide +kernel
theorem dL_areBest_38 : decode cL_areBest 38 = .ok (.iconst 1, 1) := by decide +kernel
theorem dL_areBest_39 : decode cL_areBest 39 = .ok (.invokevirtual 14, 3) := by decide +kernel
theorem dL_areBest_42 : decode cL_areBest 42 = .ok (.iload_n 2, 1) := by decide +kernel
theorem dL_areBest_43 : decode cL_areBest 43 = .ok (.if_icmp .lt 16, 3) := by decide +kernel
theorem dL_areBest_46 : decode cL_areBest 46 = .ok (.aload_n 0, 1) := by decide +kernel
theorem dL_areBest_47 : decode cL_areBest 47 = .ok (.iconst 2, 1) := by decide +kernel
theorem dL_areBest_48 : decode cL_areBest 48 = .ok (.invokevirtual 14, 3) := by decide +kernel
theorem dL_areBest_51 : decode cL_areBest 51 = .ok (.iload_n 3, 1) := by decide +kernel
theorem dL_areBest_52 : decode cL_areBest 52 = .ok (.if_icmp .lt 7, 3) := by decide +kernel
theorem dL_areBest_55 : decode cL_areBest 55 = .ok (.iconst 1, 1) := by decide +kernel
theorem dL_areBest_56 : decode cL_areBest 56 = .ok (.goto 4, 3) := by decide +kernel
theorem dL_areBest_59 : decode cL_areBest 59 = .ok (.iconst 0, 1) := by decide +kernel
theorem dL_areBest_60 : decode cL_areBest 60 = .ok (.istore 4, 2) := by decide +kernel
theorem dL_areBest_62 : decode cL_areBest 62 = .ok (.iload 4, 2) := by decide +kernel
theorem dL_areBest_64 : decode cL_areBest 64 = .ok (.ifCond .eq 33, 3) := by decide +kernel
theorem dL_areBest_67 : decode cL_areBest 67 = .ok (.aload_n 0, 1) := by decide +kernel
theorem dL_areBest_68 : decode cL_areBest 68 = .ok (.iconst 0, 1) := by decide +kernel
theorem dL_areBest_69 : decode cL_areBest 69 = .ok (.invokevirtual 14, 3) := by decide +kernel
theorem dL_areBest_72 : decode cL_areBest 72 = .ok (.aload_n 0, 1) := by decide +kernel
theorem dL_areBest_73 : decode cL_areBest 73 = .ok (.iconst 1, 1) := by decide +kernel
theorem dL_areBest_74 : decode cL_areBest 74 = .ok (.invokevirtual 14, 3) := by decide +kernel
theorem dL_areBest_77 : decode cL_areBest 77 = .ok (.if_icmp .gt 20, 3) := by decide +kernel
theorem dL_areBest_80 : decode cL_areBest 80 = .ok (.aload_n 0, 1) := by decide +kernel
theorem dL_areBest_81 : decode cL_areBest 81 = .ok (.iconst 1, 1) := by decide +kernel
theorem dL_areBest_82 : decode cL_areBest 82 = .ok (.invokevirtual 14, 3) := by decide +kernel
theorem dL_areBest_85 : decode cL_areBest 85 = .ok (.aload_n 0, 1) := by decide +kernel
theorem dL_areBest_86 : decode cL_areBest 86 = .ok (.iconst 2, 1) := by decide +kernel
theorem dL_areBest_87 : decode cL_areBest 87 = .ok (.invokevirtual 14, 3) := by decide +kernel
theorem dL_areBest_90 : decode cL_areBest 90 = .ok (.if_icmp .gt 7, 3) := by decide +kernel
theorem dL_areBest_93 : decode cL_areBest 93 = .ok (.iconst 1, 1) := by decide +kernel
theorem dL_areBest_94 : decode cL_areBest 94 = .ok (.goto 4, 3) := by decide +kernel
theorem dL_areBest_97 : decode cL_areBest 97 = .ok (.iconst 0, 1) := by decide +kernel
theorem dL_areBest_98 : decode cL_areBest 98 = .ok (.istore 4, 2) := by decide +kernel
theorem dL_areBest_100 : decode cL_areBest 100 = .ok (.iconst 0, 1) := by decide +kernel
theorem dL_areBest_101 : decode cL_areBest 101 = .ok (.istore 5, 2) := by decide +kernel
theorem dL_areBest_103 : decode cL_areBest 103 = .ok (.iload 5, 2) := by decide +kernel
theorem dL_areBest_105 : decode cL_areBest 105 = .ok (.aload_n 0, 1) := by decide +kernel
theorem dL_areBest_106 : decode cL_areBest 106 = .ok (.invokevirtual 17, 3) := by decide +kernel
theorem dL_areBest_109 : decode cL_areBest 109 = .ok (.if_icmp .ge 94, 3) := by decide +kernel
theorem dL_areBest_112 : decode cL_areBest 112 = .ok (.iload 4, 2) := by decide +kernel
theorem dL_areBest_114 : decode cL_areBest 114 = .ok (.ifCond .eq 89, 3) := by decide +kernel
theorem dL_areBest_117 : decode cL_areBest 117 = .ok (.aload_n 0, 1) := by decide +kernel
theorem dL_areBest_118 : decode cL_areBest 118 = .ok (.iload 5, 2) := by decide +kernel
theorem dL_areBest_120 : decode cL_areBest 120 = .ok (.invokevirtual 21, 3) := by decide +kernel
theorem dL_areBest_123 : decode cL_areBest 123 = .ok (.iload_n 1, 1) := by decide +kernel
theorem dL_areBest_124 : decode cL_areBest 124 = .ok (.if_icmp .gt 7, 3) := by decide +kernel
theorem dL_areBest_127 : decode cL_areBest 127 = .ok (.iconst 1, 1) := by decide +kernel
theorem dL_areBest_128 : decode cL_areBest 128 = .ok (.goto 4, 3) := by decide +kernel
theorem dL_areBest_131 : decode cL_areBest 131 = .ok (.iconst 0, 1) := by decide +kernel
theorem dL_areBest_132 : decode cL_areBest 132 = .ok (.istore 4, 2) := by decide +kernel
theorem dL_areBest_134 : decode cL_areBest 134 = .ok (.iload 5, 2) := by decide +kernel
theorem dL_areBest_136 : decode cL_areBest 136 = .ok (.iconst 1, 1) := by decide +kernel
theorem dL_areBest_137 : decode cL_areBest 137 = .ok (.iadd, 1) := by decide +kernel
theorem dL_areBest_138 : decode cL_areBest 138 = .ok (.istore 6, 2) := by decide +kernel
theorem dL_areBest_140 : decode cL_areBest 140 = .ok (.iload 6, 2) := by decide +kernel
theorem dL_areBest_142 : decode cL_areBest 142 = .ok (.aload_n 0, 1) := by decide +kernel
theorem dL_areBest_143 : decode cL_areBest 143 = .ok (.invokevirtual 17, 3) := by decide +kernel
theorem dL_areBest_146 : decode cL_areBest 146 = .ok (.if_icmp .ge 51, 3) := by decide +kernel
theorem dL_areBest_149 : decode cL_areBest 149 = .ok (.iload 4, 2) := by decide +kernel
theorem dL_areBest_151 : decode cL_areBest 151 = .ok (.ifCond .eq 46, 3) := by decide +kernel
theorem dL_areBest_154 : decode cL_areBest 154 = .ok (.aload_n 0, 1) := by decide +kernel
theorem dL_areBest_155 : decode cL_areBest 155 = .ok (.iload 5, 2) := by decide +kernel
theorem dL_areBest_157 : decode cL_areBest 157 = .ok (.iload 6, 2) := by decide +kernel
theorem dL_areBest_159 : decode cL_areBest 159 = .ok (.invokevirtual 24, 3) := by decide +kernel
theorem dL_areBest_162 : decode cL_areBest 162 = .ok (.istore 7, 2) := by decide +kernel
theorem dL_areBest_164 : decode cL_areBest 164 = .ok (.iload 7, 2) := by decide +kernel
theorem dL_areBest_166 : decode cL_areBest 166 = .ok (.iload_n 1, 1) := by decide +kernel
theorem dL_areBest_167 : decode cL_areBest 167 = .ok (.if_icmp .gt 21, 3) := by decide +kernel
theorem dL_areBest_170 : decode cL_areBest 170 = .ok (.aload_n 0, 1) := by decide +kernel
theorem dL_areBest_171 : decode cL_areBest 171 = .ok (.invokevirtual 17, 3) := by decide +kernel
theorem dL_areBest_174 : decode cL_areBest 174 = .ok (.iconst 2, 1) := by decide +kernel
theorem dL_areBest_175 : decode cL_areBest 175 = .ok (.if_icmp .ne 9, 3) := by decide +kernel
theorem dL_areBest_178 : decode cL_areBest 178 = .ok (.iload 7, 2) := by decide +kernel
theorem dL_areBest_180 : decode cL_areBest 180 = .ok (.iload_n 1, 1) := by decide +kernel
theorem dL_areBest_181 : decode cL_areBest 181 = .ok (.if_icmp .ne 7, 3) := by decide +kernel
theorem dL_areBest_184 : decode cL_areBest 184 = .ok (.iconst 1, 1) := by decide +kernel
theorem dL_areBest_185 : decode cL_areBest 185 = .ok (.goto 4, 3) := by decide +kernel
theorem dL_areBest_188 : decode cL_areBest 188 = .ok (.iconst 0, 1) := by decide +kernel
theorem dL_areBest_189 : decode cL_areBest 189 = .ok (.istore 4, 2) := by decide +kernel
theorem dL_areBest_191 : decode cL_areBest 191 = .ok (.iinc 6 1, 3) := by decide +kernel
theorem dL_areBest_194 : decode cL_areBest 194 = .ok (.goto (-54), 3) := by decide +kernel
theorem dL_areBest_197 : decode cL_areBest 197 = .ok (.iinc 5 1, 3) := by decide +kernel
theorem dL_areBest_200 : decode cL_areBest 200 = .ok (.goto (-97), 3) := by decide +kernel
theorem dL_areBest_203 : decode cL_areBest 203 = .ok (.iload 4, 2) := by decide +kernel
theorem dL_areBest_205 : decode cL_areBest 205 = .ok (.ireturn, 1) := by decide +kernel
set_option maxRecDepth 20000 in
theorem ggL_isReached_X0_best : GoodIn wsL_isReached wsX0_best := goodIn_ca (goodIn_r _ [6, 7, 8, 9, 5, 10, 11, 12, 13, 14, 15, 16, 17, 18, 19, 20, 21, 22, 23, 24, 25, 26, 27, 28, 29, 30, 31, 32, 33, 34, 35, 36, 37, 38, 39, 40, 41, 42, 43, 44, 45, 46, 47, 48, 49, 50, 51, 52, 53, 54, 55, 56, 57, 58, 59, 60, 61, 62, 63, 64, 65, 66, 67, 68, 123, 124, 125, 126, 127, 128, 129, 130, 131, 132, 133, 134, 135] (by decide +kernel) (by decide +kernel)) (goodIn_sub (fun _ h => List.mem_cons_of_mem _ (List.mem_append_left _ (List.mem_append_right _ h))) (by decide +kernel))
set_option maxRecDepth 20000 in
theorem gL_isReached_X0_best : GoodIn wsL_isReached (wsV RL 8 RX0 yX0_best wsX0_best) := goodIn_app (goodIn_of _ (by decide +kernel)) ggL_isReached_X0_best
set_option maxRecDepth 20000 in
theorem ggL_isReached_X0_jobs : GoodIn wsL_isReached wsX0_jobs := goodIn_r _ [72, 19, 123, 124, 125, 126, 127, 128, 129, 130, 131, 132, 133, 134, 135] (by decide +kernel) (by decide +kernel)
set_option maxRecDepth 20000 in
theorem gL_isReached_X0_jobs : GoodIn wsL_isReached (wsV RL 28 RX0 yX0_jobs wsX0_jobs) := goodIn_app (goodIn_of _ (by decide +kernel)) ggL_isReached_X0_jobs
set_option maxRecDepth 20000 in
theorem ggL_isReached_X0_bestAt : GoodIn wsL_isReached wsX0_bestAt := goodIn_ca (goodIn_ca (goodIn_r _ [76, 56, 8, 9, 5, 10, 11, 12, 77, 78, 79, 80, 81, 82, 19, 13, 14, 15, 16, 17, 18, 20, 21, 22, 23, 24, 25, 26, 27, 28, 29, 30, 31, 32, 33, 34, 35, 36, 37, 38, 39, 40, 41, 42, 43, 44, 45, 46, 47, 48, 49, 50, 51, 52, 53, 54, 55, 7, 57, 58, 59, 60, 61, 62, 63, 64, 65, 66, 67, 68, 123, 124, 125, 126, 127, 128, 129, 130, 131, 132, 133, 134, 135] (by decide +kernel) (by decide +kernel)) (goodIn_sub (fun _ h => List.mem_cons_of_mem _ (List.mem_append_left _ (List.mem_append_right _ h))) (by decide +kernel))) (goodIn_sub (fun _ h => List.mem_cons_of_mem _ (List.mem_append_right _ h)) (by decide +kernel))
set_option maxRecDepth 20000 in
theorem gL_isReached_X0_bestAt : GoodIn wsL_isReached (wsV RL 31 RX0 yX0_bestAt wsX0_bestAt) := goodIn_app (goodIn_of _ (by decide +kernel)) ggL_isReached_X0_bestAt
set_option maxRecDepth 20000 in
theorem ggL_isReached_X0_move : GoodIn wsL_isReached wsX0_move := goodIn_ca (goodIn_r _ [86, 87, 88, 89, 90, 5, 91, 81, 82, 19, 77, 78, 79, 80, 92, 93, 94, 95, 96, 97, 98, 123, 124, 125, 126, 127, 128, 129, 130, 131, 132, 133, 134, 135] (by decide +kernel) (by decide +kernel)) (goodIn_sub (fun _ h => List.mem_cons_of_mem _ (List.mem_append_right _ h)) (by decide +kernel))
set_option maxRecDepth 20000 in
theorem gL_isReached_X0_move : GoodIn wsL_isReached (wsV RL 34 RX0 yX0_move wsX0_move) := goodIn_app (goodIn_of _ (by decide +kernel)) ggL_isReached_X0_move
set_option maxRecDepth 20000 in
theorem ggL_isReached_X0_makespan : GoodIn wsL_isReached wsX0_makespan := goodIn_ca (goodIn_r _ [102, 8, 9, 5, 10, 11, 12, 103, 104, 105, 106, 19, 87, 21, 22, 23, 24, 25, 26, 27, 28, 29, 30, 31, 32, 33, 34, 35, 36, 37, 38, 39, 40, 41, 42, 43, 44, 45, 46, 47, 48, 49, 50, 51, 123, 124, 125, 126, 127, 128, 129, 130, 131, 132, 133, 134, 135] (by decide +kernel) (by decide +kernel)) (goodIn_sub (fun _ h => List.mem_cons_of_mem _ (List.mem_append_left _ (List.mem_append_right _ h))) (by decide +kernel))
set_option maxRecDepth 20000 in
theorem gL_isReached_X0_makespan : GoodIn wsL_isReached (wsV RL 14 RX0 yX0_makespan wsX0_makespan) := goodIn_app (goodIn_of _ (by decide +kernel)) ggL_isReached_X0_makespan
set_option maxRecDepth 20000 in
theorem ggL_isReached_X0_bestOrders : GoodIn wsL_isReached wsX0_bestOrders := goodIn_ca (goodIn_r _ [110, 18, 8, 9, 5, 10, 11, 12, 13, 14, 15, 16, 17, 19, 20, 21, 22, 23, 24, 25, 26, 27, 28, 29, 30, 31, 32, 33, 34, 35, 36, 37, 38, 39, 40, 41, 42, 43, 44, 45, 46, 47, 48, 49, 50, 51, 52, 53, 54, 55, 7, 56, 57, 58, 59, 60, 61, 62, 63, 64, 65, 66, 67, 68, 123, 124, 125, 126, 127, 128, 129, 130, 131, 132, 133, 134, 135] (by decide +kernel) (by decide +kernel)) (goodIn_sub (fun _ h => List.mem_cons_of_mem _ (List.mem_append_left _ (List.mem_append_right _ h))) (by decide +kernel))
set_option maxRecDepth 20000 in
theorem gL_isReached_X0_bestOrders : GoodIn wsL_isReached (wsV RL 37 RX0 yX0_bestOrders wsX0_bestOrders) := goodIn_app (goodIn_of _ (by decide +kernel)) ggL_isReached_X0_bestOrders
set_option maxRecDepth 20000 in
theorem ggL_isReached_X0_gap : GoodIn wsL_isReached wsX0_gap := goodIn_r _ [114, 7, 103, 104, 105, 5, 106, 19, 87, 21, 22, 23, 24, 25, 26, 27, 28, 29, 30, 31, 32, 33, 34, 35, 36, 37, 38, 39, 40, 41, 42, 43, 44, 45, 46, 47, 48, 49, 50, 51, 13, 14, 15, 16, 17, 18, 20, 52, 53, 54, 55, 56, 57, 58, 59, 60, 61, 62, 63, 64, 65, 66, 67, 68, 123, 124, 125, 126, 127, 128, 129, 130, 131, 132, 133, 134, 135] (by decide +kernel) (by decide +kernel)
set_option maxRecDepth 20000 in
theorem gL_isReached_X0_gap : GoodIn wsL_isReached (wsV RL 40 RX0 yX0_gap wsX0_gap) := goodIn_app (goodIn_of _ (by decide +kernel)) ggL_isReached_X0_gap
set_option maxRecDepth 20000 in
theorem ggL_isReached_X0_improve : GoodIn wsL_isReached wsX0_improve := goodIn_r _ [118, 19, 87, 103, 104, 105, 5, 106, 21, 22, 23, 24, 25, 26, 27, 28, 29, 30, 31, 32, 33, 34, 35, 36, 37, 38, 39, 40, 41, 42, 43, 44, 45, 46, 47, 48, 49, 50, 51, 119, 120, 121, 122, 20, 57, 58, 59, 60, 96, 97, 98, 123, 124, 125, 126, 127, 128, 129, 130, 131, 132, 133, 134, 135] (by decide +kernel) (by decide +kernel)
set_option maxRecDepth 20000 in
theorem gL_isReached_X0_improve : GoodIn wsL_isReached (wsV RL 44 RX0 yX0_improve wsX0_improve) := goodIn_app (goodIn_of _ (by decide +kernel)) ggL_isReached_X0_improve
theorem dL_isReached_0 : decode cL_isReached 0 = .ok (.aload_n 0, 1) := by decide +kernel
theorem dL_isReached_1 : decode cL_isReached 1 = .ok (.iload_n 1, 1) := by decide +kernel
theorem dL_isReached_2 : decode cL_isReached 2 = .ok (.invokevirtual 8, 3) := by decide +kernel
theorem dL_isReached_5 : decode cL_isReached 5 = .ok (.istore_n 2, 1) := by decide +kernel
theorem dL_isReached_6 : decode cL_isReached 6 = .ok (.iconst 0, 1) := by decide +kernel
theorem dL_isReached_7 : decode cL_isReached 7 = .ok (.istore_n 3, 1) := by decide +kernel
theorem dL_isReached_8 : decode cL_isReached 8 = .ok (.bipush 7, 2) := by decide +kernel
theorem dL_isReached_10 : decode cL_isReached 10 = .ok (.newarray .int, 2) := by decide +kernel
theorem dL_isReached_12 : decode cL_isReached 12 = .ok (.astore 4, 2) := by decide +kernel
theorem dL_isReached_14 : decode cL_isReached 14 = .ok (.iconst 0, 1) := by decide +kernel
theorem dL_isReached_15 : decode cL_isReached 15 = .ok (.istore 5, 2) := by decide +kernel
theorem dL_isReached_17 : decode cL_isReached 17 = .ok (.iload 5, 2) := by decide +kernel
theorem dL_isReached_19 : decode cL_isReached 19 = .ok (.aload_n 0, 1) := by decide +kernel
theorem dL_isReached_20 : decode cL_isReached 20 = .ok (.invokevirtual 28, 3) := by decide +kernel
theorem dL_isReached_23 : decode cL_isReached 23 = .ok (.if_icmp .ge 31, 3) := by decide +kernel
theorem dL_isReached_26 : decode cL_isReached 26 = .ok (.aload 4, 2) := by decide +kernel
theorem dL_isReached_28 : decode cL_isReached 28 = .ok (.iload 5, 2) := by decide +kernel
theorem dL_isReached_30 : decode cL_isReached 30 = .ok (.aload_n 0, 1) := by decide +kernel
theorem dL_isReached_31 : decode cL_isReached 31 = .ok (.iload_n 1, 1) := by decide +kernel
theorem dL_isReached_32 : decode cL_isReached 32 = .ok (.iload 5, 2) := by decide +kernel
theorem dL_isReached_34 : decode cL_isReached 34 = .ok (.invokevirtual 31, 3) := by decide +kernel
theorem dL_isReached_37 : decode cL_isReached 37 = .ok (.iastore, 1) := by decide +kernel
theorem dL_isReached_38 : decode cL_isReached 38 = .ok (.iload_n 3, 1) := by decide +kernel
theorem dL_isReached_39 : decode cL_isReached 39 = .ok (.iconst 1, 1) := by decide +kernel
theorem dL_isReached_40 : decode cL_isReached 40 = .ok (.aload 4, 2) := by decide +kernel
theorem dL_isReached_42 : decode cL_isReached 42 = .ok (.iload 5, 2) := by decide +kernel
theorem dL_isReached_44 : decode cL_isReached 44 = .ok (.iaload, 1) := by decide +kernel
theorem dL_isReached_45 : decode cL_isReached 45 = .ok (.ishl, 1) := by decide +kernel
theorem dL_isReached_46 : decode cL_isReached 46 = .ok (.ior, 1) := by decide +kernel
theorem dL_isReached_47 : decode cL_isReached 47 = .ok (.istore_n 3, 1) := by decide +kernel
theorem dL_isReached_48 : decode cL_isReached 48 = .ok (.iinc 5 1, 3) := by decide +kernel
theorem dL_isReached_51 : decode cL_isReached 51 = .ok (.goto (-34), 3) := by decide +kernel
theorem dL_isReached_54 : decode cL_isReached 54 = .ok (.iconst 0, 1) := by decide +kernel
theorem dL_isReached_55 : decode cL_isReached 55 = .ok (.istore 5, 2) := by decide +kernel
theorem dL_isReached_57 : decode cL_isReached 57 = .ok (.iload 5, 2) := by decide +kernel
theorem dL_isReached_59 : decode cL_isReached 59 = .ok (.aload_n 0, 1) := by decide +kernel
theorem dL_isReached_60 : decode cL_isReached 60 = .ok (.invokevirtual 28, 3) := by decide +kernel
theorem dL_isReached_63 : decode cL_isReached 63 = .ok (.if_icmp .ge 21, 3) := by decide +kernel
theorem dL_isReached_66 : decode cL_isReached 66 = .ok (.aload_n 0, 1) := by decide +kernel
theorem dL_isReached_67 : decode cL_isReached 67 = .ok (.aload 4, 2) := by decide +kernel
theorem dL_isReached_69 : decode cL_isReached 69 = .ok (.iload 5, 2) := by decide +kernel
theorem dL_isReached_71 : decode cL_isReached 71 = .ok (.iaload, 1) := by decide +kernel
theorem dL_isReached_72 : decode cL_isReached 72 = .ok (.iload 5, 2) := by decide +kernel
theorem dL_isReached_74 : decode cL_isReached 74 = .ok (.invokevirtual 34, 3) := by decide +kernel
theorem dL_isReached_77 : decode cL_isReached 77 = .ok (.pop, 1) := by decide +kernel
theorem dL_isReached_78 : decode cL_isReached 78 = .ok (.iinc 5 1, 3) := by decide +kernel
theorem dL_isReached_81 : decode cL_isReached 81 = .ok (.goto (-24), 3) := by decide +kernel
theorem dL_isReached_84 : decode cL_isReached 84 = .ok (.iload_n 3, 1) := by decide +kernel
theorem dL_isReached_85 : decode cL_isReached 85 = .ok (.iconst 1, 1) := by decide +kernel
theorem dL_isReached_86 : decode cL_isReached 86 = .ok (.aload_n 0, 1) := by decide +kernel
theorem dL_isReached_87 : decode cL_isReached 87 = .ok (.invokevirtual 28, 3) := by decide +kernel
theorem dL_isReached_90 : decode cL_isReached 90 = .ok (.ishl, 1) := by decide +kernel
theorem dL_isReached_91 : decode cL_isReached 91 = .ok (.iconst 1, 1) := by decide +kernel
theorem dL_isReached_92 : decode cL_isReached 92 = .ok (.isub, 1) := by decide +kernel
theorem dL_isReached_93 : decode cL_isReached 93 = .ok (.if_icmp .ne 24, 3) := by decide +kernel
theorem dL_isReached_96 : decode cL_isReached 96 = .ok (.aload_n 0, 1) := by decide +kernel
theorem dL_isReached_97 : decode cL_isReached 97 = .ok (.iload_n 1, 1) := by decide +kernel
theorem dL_isReached_98 : decode cL_isReached 98 = .ok (.invokevirtual 14, 3) := by decide +kernel
theorem dL_isReached_101 : decode cL_isReached 101 = .ok (.iload_n 2, 1) := by decide +kernel
theorem dL_isReached_102 : decode cL_isReached 102 = .ok (.if_icmp .ne 15, 3) := by decide +kernel
theorem dL_isReached_105 : decode cL_isReached 105 = .ok (.aload_n 0, 1) := by decide +kernel
theorem dL_isReached_106 : decode cL_isReached 106 = .ok (.iload_n 1, 1) := by decide +kernel
theorem dL_isReached_107 : decode cL_isReached 107 = .ok (.invokevirtual 37, 3) := by decide +kernel
theorem dL_isReached_110 : decode cL_isReached 110 = .ok (.ifCond .le 7, 3) := by decide +kernel
theorem dL_isReached_113 : decode cL_isReached 113 = .ok (.iconst 1, 1) := by decide +kernel
theorem dL_isReached_114 : decode cL_isReached 114 = .ok (.goto 4, 3) := by decide +kernel
theorem dL_isReached_117 : decode cL_isReached 117 = .ok (.iconst 0, 1) := by decide +kernel
theorem dL_isReached_118 : decode cL_isReached 118 = .ok (.istore 5, 2) := by decide +kernel
theorem dL_isReached_120 : decode cL_isReached 120 = .ok (.iload 5, 2) := by decide +kernel
theorem dL_isReached_122 : decode cL_isReached 122 = .ok (.ifCond .eq 27, 3) := by decide +kernel
theorem dL_isReached_125 : decode cL_isReached 125 = .ok (.iload_n 1, 1) := by decide +kernel
theorem dL_isReached_126 : decode cL_isReached 126 = .ok (.ifCond .gt 19, 3) := by decide +kernel
theorem dL_isReached_129 : decode cL_isReached 129 = .ok (.aload_n 0, 1) := by decide +kernel
theorem dL_isReached_130 : decode cL_isReached 130 = .ok (.invokevirtual 40, 3) := by decide +kernel
theorem dL_isReached_133 : decode cL_isReached 133 = .ok (.dconst 0, 1) := by decide +kernel
theorem dL_isReached_134 : decode cL_isReached 134 = .ok (.dcmp .l, 1) := by decide +kernel
theorem dL_isReached_135 : decode cL_isReached 135 = .ok (.ifCond .ne 14, 3) := by decide +kernel
theorem dL_isReached_138 : decode cL_isReached 138 = .ok (.aload_n 0, 1) := by decide +kernel
theorem dL_isReached_139 : decode cL_isReached 139 = .ok (.invokevirtual 44, 3) := by decide +kernel
theorem dL_isReached_142 : decode cL_isReached 142 = .ok (.ifCond .ne 7, 3) := by decide +kernel
theorem dL_isReached_145 : decode cL_isReached 145 = .ok (.iconst 1, 1) := by decide +kernel
theorem dL_isReached_146 : decode cL_isReached 146 = .ok (.goto 4, 3) := by decide +kernel
theorem dL_isReached_149 : decode cL_isReached 149 = .ok (.iconst 0, 1) := by decide +kernel
theorem dL_isReached_150 : decode cL_isReached 150 = .ok (.ireturn, 1) := by decide +kernel
set_option maxRecDepth 20000 in
theorem ggL_isImproved_X0_best : GoodIn wsL_isImproved wsX0_best := goodIn_ca (goodIn_r _ [5, 6, 7, 8, 4, 9, 10, 11, 12, 13, 14, 15, 16, 17, 18, 19, 20, 21, 22, 23, 24, 25, 26, 27, 28, 29, 30, 31, 32, 33, 34, 35, 36, 37, 38, 39, 40, 41, 42, 43, 44, 45, 46, 47, 48, 49, 50, 51, 52, 53, 54, 55, 56, 57, 58, 59, 60, 61, 62, 63, 64, 65, 66, 67, 127, 128, 129, 130, 131, 132, 133, 134, 135, 136, 137, 138, 139] (by decide +kernel) (by decide +kernel)) (goodIn_sub (fun _ h => List.mem_cons_of_mem _ (List.mem_append_left _ (List.mem_append_right _ h))) (by decide +kernel))
set_option maxRecDepth 20000 in
theorem gL_isImproved_X0_best : GoodIn wsL_isImproved (wsV RL 8 RX0 yX0_best wsX0_best) := goodIn_app (goodIn_of _ (by decide +kernel)) ggL_isImproved_X0_best
set_option maxRecDepth 20000 in
theorem ggL_isImproved_X0_makespan : GoodIn wsL_isImproved wsX0_makespan := goodIn_ca (goodIn_r _ [71, 7, 8, 4, 9, 10, 11, 72, 73, 74, 75, 18, 76, 20, 21, 22, 23, 24, 25, 26, 27, 28, 29, 30, 31, 32, 33, 34, 35, 36, 37, 38, 39, 40, 41, 42, 43, 44, 45, 46, 47, 48, 49, 50, 127, 128, 129, 130, 131, 132, 133, 134, 135, 136, 137, 138, 139] (by decide +kernel) (by decide +kernel)) (goodIn_sub (fun _ h => List.mem_cons_of_mem _ (List.mem_append_left _ (List.mem_append_right _ h))) (by decide +kernel))
set_option maxRecDepth 20000 in
theorem gL_isImproved_X0_makespan : GoodIn wsL_isImproved (wsV RL 14 RX0 yX0_makespan wsX0_makespan) := goodIn_app (goodIn_of _ (by decide +kernel)) ggL_isImproved_X0_makespan
set_option maxRecDepth 20000 in
theorem ggL_isImproved_X0_improve : GoodIn wsL_isImproved wsX0_improve := goodIn_r _ [80, 18, 76, 72, 73, 74, 4, 75, 20, 21, 22, 23, 24, 25, 26, 27, 28, 29, 30, 31, 32, 33, 34, 35, 36, 37, 38, 39, 40, 41, 42, 43, 44, 45, 46, 47, 48, 49, 50, 81, 82, 83, 84, 19, 56, 57, 58, 59, 85, 86, 87, 127, 128, 129, 130, 131, 132, 133, 134, 135, 136, 137, 138, 139] (by decide +kernel) (by decide +kernel)
set_option maxRecDepth 20000 in
theorem gL_isImproved_X0_improve : GoodIn wsL_isImproved (wsV RL 44 RX0 yX0_improve wsX0_improve) := goodIn_app (goodIn_of _ (by decide +kernel)) ggL_isImproved_X0_improve
set_option maxRecDepth 20000 in
theorem ggL_isImproved_X0_orderByInsertion : GoodIn wsL_isImproved wsX0_orderByInsertion := goodIn_r _ [91, 18, 76, 92, 93, 94, 95, 4, 96, 24, 97, 98, 99, 100, 42, 43, 44, 45, 46, 39, 40, 41, 101, 102, 103, 104, 81, 82, 83, 84, 19, 56, 57, 58, 59, 85, 86, 87, 20, 21, 22, 23, 25, 26, 27, 28, 29, 30, 31, 32, 33, 34, 35, 36, 37, 38, 47, 48, 49, 50, 72, 73, 74, 75, 127, 128, 129, 130, 131, 132, 133, 134, 135, 136, 137, 138, 139] (by decide +kernel) (by decide +kernel)
set_option maxRecDepth 20000 in
theorem gL_isImproved_X0_orderByInsertion : GoodIn wsL_isImproved (wsV RL 47 RX0 yX0_orderByInsertion wsX0_orderByInsertion) := goodIn_app (goodIn_of _ (by decide +kernel)) ggL_isImproved_X0_orderByInsertion
set_option maxRecDepth 20000 in
theorem ggL_isImproved_X0_machines : GoodIn wsL_isImproved wsX0_machines := goodIn_r _ [108, 24, 127, 128, 129, 130, 131, 132, 133, 134, 135, 136, 137, 138, 139] (by decide +kernel) (by decide +kernel)
set_option maxRecDepth 20000 in
theorem gL_isImproved_X0_machines : GoodIn wsL_isImproved (wsV RL 17 RX0 yX0_machines wsX0_machines) := goodIn_app (goodIn_of _ (by decide +kernel)) ggL_isImproved_X0_machines
set_option maxRecDepth 20000 in
theorem ggL_isImproved_X0_orderByRule : GoodIn wsL_isImproved wsX0_orderByRule := goodIn_ca (goodIn_r _ [112, 113, 114, 24, 76, 115, 116, 117, 4, 118, 18, 119, 120, 121, 122, 42, 43, 44, 45, 46, 39, 40, 41, 72, 73, 74, 75, 20, 21, 22, 23, 25, 26, 27, 28, 29, 30, 31, 32, 33, 34, 35, 36, 37, 38, 47, 48, 49, 50, 127, 128, 129, 130, 131, 132, 133, 134, 135, 136, 137, 138, 139] (by decide +kernel) (by decide +kernel)) (goodIn_sub (fun _ h => List.mem_cons_of_mem _ (List.mem_append_right _ h)) (by decide +kernel))
set_option maxRecDepth 20000 in
theorem gL_isImproved_X0_orderByRule : GoodIn wsL_isImproved (wsV RL 50 RX0 yX0_orderByRule wsX0_orderByRule) := goodIn_app (goodIn_of _ (by decide +kernel)) ggL_isImproved_X0_orderByRule
set_option maxRecDepth 20000 in
theorem ggL_isImproved_X0_gap : GoodIn wsL_isImproved wsX0_gap := goodIn_r _ [126, 6, 72, 73, 74, 4, 75, 18, 76, 20, 21, 22, 23, 24, 25, 26, 27, 28, 29, 30, 31, 32, 33, 34, 35, 36, 37, 38, 39, 40, 41, 42, 43, 44, 45, 46, 47, 48, 49, 50, 12, 13, 14, 15, 16, 17, 19, 51, 52, 53, 54, 55, 56, 57, 58, 59, 60, 61, 62, 63, 64, 65, 66, 67, 127, 128, 129, 130, 131, 132, 133, 134, 135, 136, 137, 138, 139] (by decide +kernel) (by decide +kernel)
set_option maxRecDepth 20000 in
theorem gL_isImproved_X0_gap : GoodIn wsL_isImproved (wsV RL 40 RX0 yX0_gap wsX0_gap) := goodIn_app (goodIn_of _ (by decide +kernel)) ggL_isImproved_X0_gap
theorem dL_isImproved_0 : decode cL_isImproved 0 = .ok (.aload_n 0, 1) := by decide +kernel
theorem dL_isImproved_1 : decode cL_isImproved 1 = .ok (.iconst 0, 1) := by decide +kernel
theorem dL_isImproved_2 : decode cL_isImproved 2 = .ok (.invokevirtual 8, 3) := by decide +kernel
theorem dL_isImproved_5 : decode cL_isImproved 5 = .ok (.istore_n 1, 1) := by decide +kernel
theorem dL_isImproved_6 : decode cL_isImproved 6 = .ok (.iconst 1, 1) := by decide +kernel
theorem dL_isImproved_7 : decode cL_isImproved 7 = .ok (.istore_n 2, 1) := by decide +kernel
theorem dL_isImproved_8 : decode cL_isImproved 8 = .ok (.iconst 0, 1) := by decide +kernel
theorem dL_isImproved_9 : decode cL_isImproved 9 = .ok (.istore_n 3, 1) := by decide +kernel
theorem dL_isImproved_10 : decode cL_isImproved 10 = .ok (.aload_n 0, 1) := by decide +kernel
theorem dL_isImproved_11 : decode cL_isImproved 11 = .ok (.iconst 0, 1) := by decide +kernel
theorem dL_isImproved_12 : decode cL_isImproved 12 = .ok (.invokevirtual 14, 3) := by decide +kernel
theorem dL_isImproved_15 : decode cL_isImproved 15 = .ok (.istore 4, 2) := by decide +kernel
theorem dL_isImproved_17 : decode cL_isImproved 17 = .ok (.aload_n 0, 1) := by decide +kernel
theorem dL_isImproved_18 : decode cL_isImproved 18 = .ok (.invokevirtual 44, 3) := by decide +kernel
theorem dL_isImproved_21 : decode cL_isImproved 21 = .ok (.istore 5, 2) := by decide +kernel
theorem dL_isImproved_23 : decode cL_isImproved 23 = .ok (.iload 5, 2) := by decide +kernel
theorem dL_isImproved_25 : decode cL_isImproved 25 = .ok (.ifCond .le 52, 3) := by decide +kernel
theorem dL_isImproved_28 : decode cL_isImproved 28 = .ok (.iload_n 2, 1) := by decide +kernel
theorem dL_isImproved_29 : decode cL_isImproved 29 = .ok (.ifCond .eq 48, 3) := by decide +kernel
theorem dL_isImproved_32 : decode cL_isImproved 32 = .ok (.iload_n 3, 1) := by decide +kernel
theorem dL_isImproved_33 : decode cL_isImproved 33 = .ok (.sipush 200, 3) := by decide +kernel
theorem dL_isImproved_36 : decode cL_isImproved 36 = .ok (.if_icmp .ge 41, 3) := by decide +kernel
theorem dL_isImproved_39 : decode cL_isImproved 39 = .ok (.aload_n 0, 1) := by decide +kernel
theorem dL_isImproved_40 : decode cL_isImproved 40 = .ok (.iconst 0, 1) := by decide +kernel
theorem dL_isImproved_41 : decode cL_isImproved 41 = .ok (.invokevirtual 14, 3) := by decide +kernel
theorem dL_isImproved_44 : decode cL_isImproved 44 = .ok (.iload 4, 2) := by decide +kernel
theorem dL_isImproved_46 : decode cL_isImproved 46 = .ok (.iload 5, 2) := by decide +kernel
theorem dL_isImproved_48 : decode cL_isImproved 48 = .ok (.isub, 1) := by decide +kernel
theorem dL_isImproved_49 : decode cL_isImproved 49 = .ok (.if_icmp .ne 7, 3) := by decide +kernel
theorem dL_isImproved_52 : decode cL_isImproved 52 = .ok (.iconst 1, 1) := by decide +kernel
theorem dL_isImproved_53 : decode cL_isImproved 53 = .ok (.goto 4, 3) := by decide +kernel
theorem dL_isImproved_56 : decode cL_isImproved 56 = .ok (.iconst 0, 1) := by decide +kernel
theorem dL_isImproved_57 : decode cL_isImproved 57 = .ok (.istore_n 2, 1) := by decide +kernel
theorem dL_isImproved_58 : decode cL_isImproved 58 = .ok (.iload 4, 2) := by decide +kernel
theorem dL_isImproved_60 : decode cL_isImproved 60 = .ok (.iload 5, 2) := by decide +kernel
theorem dL_isImproved_62 : decode cL_isImproved 62 = .ok (.isub, 1) := by decide +kernel
theorem dL_isImproved_63 : decode cL_isImproved 63 = .ok (.istore 4, 2) := by decide +kernel
theorem dL_isImproved_65 : decode cL_isImproved 65 = .ok (.aload_n 0, 1) := by decide +kernel
theorem dL_isImproved_66 : decode cL_isImproved 66 = .ok (.invokevirtual 44, 3) := by decide +kernel
theorem dL_isImproved_69 : decode cL_isImproved 69 = .ok (.istore 5, 2) := by decide +kernel
theorem dL_isImproved_71 : decode cL_isImproved 71 = .ok (.iinc 3 1, 3) := by decide +kernel
theorem dL_isImproved_74 : decode cL_isImproved 74 = .ok (.goto (-51), 3) := by decide +kernel
theorem dL_isImproved_77 : decode cL_isImproved 77 = .ok (.iload_n 2, 1) := by decide +kernel
theorem dL_isImproved_78 : decode cL_isImproved 78 = .ok (.ifCond .eq 28, 3) := by decide +kernel
theorem dL_isImproved_81 : decode cL_isImproved 81 = .ok (.iload 5, 2) := by decide +kernel
theorem dL_isImproved_83 : decode cL_isImproved 83 = .ok (.ifCond .ne 23, 3) := by decide +kernel
theorem dL_isImproved_86 : decode cL_isImproved 86 = .ok (.aload_n 0, 1) := by decide +kernel
theorem dL_isImproved_87 : decode cL_isImproved 87 = .ok (.iconst 0, 1) := by decide +kernel
theorem dL_isImproved_88 : decode cL_isImproved 88 = .ok (.invokevirtual 14, 3) := by decide +kernel
theorem dL_isImproved_91 : decode cL_isImproved 91 = .ok (.iload 4, 2) := by decide +kernel
theorem dL_isImproved_93 : decode cL_isImproved 93 = .ok (.if_icmp .ne 13, 3) := by decide +kernel
theorem dL_isImproved_96 : decode cL_isImproved 96 = .ok (.iload 4, 2) := by decide +kernel
theorem dL_isImproved_98 : decode cL_isImproved 98 = .ok (.iload_n 1, 1) := by decide +kernel
theorem dL_isImproved_99 : decode cL_isImproved 99 = .ok (.if_icmp .lt 7, 3) := by decide +kernel
theorem dL_isImproved_102 : decode cL_isImproved 102 = .ok (.iconst 1, 1) := by decide +kernel
theorem dL_isImproved_103 : decode cL_isImproved 103 = .ok (.goto 4, 3) := by decide +kernel
theorem dL_isImproved_106 : decode cL_isImproved 106 = .ok (.iconst 0, 1) := by decide +kernel
theorem dL_isImproved_107 : decode cL_isImproved 107 = .ok (.istore_n 2, 1) := by decide +kernel
theorem dL_isImproved_108 : decode cL_isImproved 108 = .ok (.aload_n 0, 1) := by decide +kernel
theorem dL_isImproved_109 : decode cL_isImproved 109 = .ok (.invokevirtual 47, 3) := by decide +kernel
theorem dL_isImproved_112 : decode cL_isImproved 112 = .ok (.istore 6, 2) := by decide +kernel
theorem dL_isImproved_114 : decode cL_isImproved 114 = .ok (.iload_n 2, 1) := by decide +kernel
theorem dL_isImproved_115 : decode cL_isImproved 115 = .ok (.ifCond .eq 23, 3) := by decide +kernel
theorem dL_isImproved_118 : decode cL_isImproved 118 = .ok (.iload 6, 2) := by decide +kernel
theorem dL_isImproved_120 : decode cL_isImproved 120 = .ok (.aload_n 0, 1) := by decide +kernel
theorem dL_isImproved_121 : decode cL_isImproved 121 = .ok (.iconst 0, 1) := by decide +kernel
theorem dL_isImproved_122 : decode cL_isImproved 122 = .ok (.invokevirtual 14, 3) := by decide +kernel
theorem dL_isImproved_125 : decode cL_isImproved 125 = .ok (.if_icmp .ne 13, 3) := by decide +kernel
theorem dL_isImproved_128 : decode cL_isImproved 128 = .ok (.iload 6, 2) := by decide +kernel
theorem dL_isImproved_130 : decode cL_isImproved 130 = .ok (.iload_n 1, 1) := by decide +kernel
theorem dL_isImproved_131 : decode cL_isImproved 131 = .ok (.if_icmp .lt 7, 3) := by decide +kernel
theorem dL_isImproved_134 : decode cL_isImproved 134 = .ok (.iconst 1, 1) := by decide +kernel
theorem dL_isImproved_135 : decode cL_isImproved 135 = .ok (.goto 4, 3) := by decide +kernel
theorem dL_isImproved_138 : decode cL_isImproved 138 = .ok (.iconst 0, 1) := by decide +kernel
theorem dL_isImproved_139 : decode cL_isImproved 139 = .ok (.istore_n 2, 1) := by decide +kernel
theorem dL_isImproved_140 : decode cL_isImproved 140 = .ok (.aload_n 0, 1) := by decide +kernel
theorem dL_isImproved_141 : decode cL_isImproved 141 = .ok (.invokevirtual 17, 3) := by decide +kernel
theorem dL_isImproved_144 : decode cL_isImproved 144 = .ok (.iconst 2, 1) := by decide +kernel
theorem dL_isImproved_145 : decode cL_isImproved 145 = .ok (.if_icmp .ne 44, 3) := by decide +kernel
theorem dL_isImproved_148 : decode cL_isImproved 148 = .ok (.aload_n 0, 1) := by decide +kernel
theorem dL_isImproved_149 : decode cL_isImproved 149 = .ok (.invokevirtual 50, 3) := by decide +kernel
theorem dL_isImproved_152 : decode cL_isImproved 152 = .ok (.istore 7, 2) := by decide +kernel
theorem dL_isImproved_154 : decode cL_isImproved 154 = .ok (.iload_n 2, 1) := by decide +kernel
theorem dL_isImproved_155 : decode cL_isImproved 155 = .ok (.ifCond .eq 32, 3) := by decide +kernel
theorem dL_isImproved_158 : decode cL_isImproved 158 = .ok (.iload 7, 2) := by decide +kernel
theorem dL_isImproved_160 : decode cL_isImproved 160 = .ok (.iload_n 1, 1) := by decide +kernel
theorem dL_isImproved_161 : decode cL_isImproved 161 = .ok (.if_icmp .ne 26, 3) := by decide +kernel
theorem dL_isImproved_164 : decode cL_isImproved 164 = .ok (.iload 7, 2) := by decide +kernel
theorem dL_isImproved_166 : decode cL_isImproved 166 = .ok (.aload_n 0, 1) := by decide +kernel
theorem dL_isImproved_167 : decode cL_isImproved 167 = .ok (.iconst 0, 1) := by decide +kernel
theorem dL_isImproved_168 : decode cL_isImproved 168 = .ok (.invokevirtual 14, 3) := by decide +kernel
theorem dL_isImproved_171 : decode cL_isImproved 171 = .ok (.if_icmp .ne 16, 3) := by decide +kernel
theorem dL_isImproved_174 : decode cL_isImproved 174 = .ok (.aload_n 0, 1) := by decide +kernel
theorem dL_isImproved_175 : decode cL_isImproved 175 = .ok (.invokevirtual 40, 3) := by decide +kernel
theorem dL_isImproved_178 : decode cL_isImproved 178 = .ok (.dconst 0, 1) := by decide +kernel
theorem dL_isImproved_179 : decode cL_isImproved 179 = .ok (.dcmp .l, 1) := by decide +kernel
theorem dL_isImproved_180 : decode cL_isImproved 180 = .ok (.ifCond .ne 7, 3) := by decide +kernel
theorem dL_isImproved_183 : decode cL_isImproved 183 = .ok (.iconst 1, 1) := by decide +kernel
theorem dL_isImproved_184 : decode cL_isImproved 184 = .ok (.goto 4, 3) := by decide +kernel
theorem dL_isImproved_187 : decode cL_isImproved 187 = .ok (.iconst 0, 1) := by decide +kernel
theorem dL_isImproved_188 : decode cL_isImproved 188 = .ok (.istore_n 2, 1) := by decide +kernel
theorem dL_isImproved_189 : decode cL_isImproved 189 = .ok (.iload_n 2, 1) := by decide +kernel
theorem dL_isImproved_190 : decode cL_isImproved 190 = .ok (.ireturn, 1) := by decide +kernel
set_option maxRecDepth 20000 in
theorem ggL_law_X0_init : GoodIn wsL_law wsX0_init := goodIn_r _ [5, 6, 7, 8, 9, 10, 11, 12, 13, 14, 15, 16, 17, 18, 19, 20, 21, 22, 23, 227, 228, 229, 230, 231, 232, 233, 234, 235, 236, 237, 238, 239] (by decide +kernel) (by decide +kernel)
set_option maxRecDepth 20000 in
theorem gL_law_X0_init : GoodIn wsL_law (wsX0_init) := ggL_law_X0_init
set_option maxRecDepth 20000 in
theorem ggL_law_L_cell : GoodIn wsL_law wsL_cell := goodIn_r _ [27] (by decide +kernel) (by decide +kernel)
set_option maxRecDepth 20000 in
theorem gL_law_L_cell : GoodIn wsL_law (va_wsS RL 54 yL_cell wsL_cell) := goodIn_app (goodIn_of _ (by decide +kernel)) ggL_law_L_cell
set_option maxRecDepth 20000 in
theorem ggL_law_L_low : GoodIn wsL_law wsL_low := goodIn_r _ [30, 31] (by decide +kernel) (by decide +kernel)
set_option maxRecDepth 20000 in
theorem gL_law_L_low : GoodIn wsL_law (va_wsS RL 60 yL_low wsL_low) := goodIn_app (goodIn_of _ (by decide +kernel)) ggL_law_L_low
set_option maxRecDepth 20000 in
theorem ggL_law_X0_setMachines : GoodIn wsL_law wsX0_setMachines := goodIn_ca (goodIn_r _ [35, 36, 37, 10, 9, 12, 38, 39, 2, 40, 41, 42, 43, 44, 20, 227, 228, 229, 230, 231, 232, 233, 234, 235, 236, 237, 238, 239] (by decide +kernel) (by decide +kernel)) (goodIn_sub (fun _ h => List.mem_append_left _ (List.mem_append_left _ (List.mem_append_right _ h))) (by decide +kernel))
set_option maxRecDepth 20000 in
theorem gL_law_X0_setMachines : GoodIn wsL_law (wsV RL 63 RX0 yX0_setMachines wsX0_setMachines) := goodIn_app (goodIn_of _ (by decide +kernel)) ggL_law_X0_setMachines
set_option maxRecDepth 20000 in
theorem ggL_law_X0_jobs : GoodIn wsL_law wsX0_jobs := goodIn_r _ [48, 9, 227, 228, 229, 230, 231, 232, 233, 234, 235, 236, 237, 238, 239] (by decide +kernel) (by decide +kernel)
set_option maxRecDepth 20000 in
theorem gL_law_X0_jobs : GoodIn wsL_law (wsV RL 28 RX0 yX0_jobs wsX0_jobs) := goodIn_app (goodIn_of _ (by decide +kernel)) ggL_law_X0_jobs
set_option maxRecDepth 20000 in
theorem ggL_law_X0_addJob : GoodIn wsL_law wsX0_addJob := goodIn_ca (goodIn_r _ [52, 53, 54, 9, 16, 41, 42, 43, 2, 44, 20, 227, 228, 229, 230, 231, 232, 233, 234, 235, 236, 237, 238, 239] (by decide +kernel) (by decide +kernel)) (goodIn_sub (fun _ h => List.mem_append_left _ (List.mem_append_right _ h)) (by decide +kernel))
set_option maxRecDepth 20000 in
theorem gL_law_X0_addJob : GoodIn wsL_law (wsV RL 66 RX0 yX0_addJob wsX0_addJob) := goodIn_app (goodIn_of _ (by decide +kernel)) ggL_law_X0_addJob
set_option maxRecDepth 20000 in
theorem ggL_law_X0_setTime : GoodIn wsL_law wsX0_setTime := goodIn_ca (goodIn_ca (goodIn_r _ [58, 36, 37, 12, 59, 60, 61, 2, 62, 63, 64, 9, 65, 66, 67, 68, 10, 38, 39, 40, 41, 42, 43, 44, 20, 227, 228, 229, 230, 231, 232, 233, 234, 235, 236, 237, 238, 239] (by decide +kernel) (by decide +kernel)) (goodIn_sub (fun _ h => List.mem_append_left _ (List.mem_append_left _ (List.mem_append_right _ h))) (by decide +kernel))) (goodIn_sub (fun _ h => List.mem_append_right _ h) (by decide +kernel))
set_option maxRecDepth 20000 in
theorem gL_law_X0_setTime : GoodIn wsL_law (wsV RL 69 RX0 yX0_setTime wsX0_setTime) := goodIn_app (goodIn_of _ (by decide +kernel)) ggL_law_X0_setTime
set_option maxRecDepth 20000 in
theorem ggL_law_L_areBest : GoodIn wsL_law wsL_areBest := goodIn_ca (goodIn_ca (goodIn_r _ [71, 72, 73, 74, 2, 75, 21, 76, 77, 78, 36, 37, 79, 80, 81, 82, 20, 22, 9, 17, 83, 84, 85, 86, 10, 87, 88, 89, 90, 13, 14, 91, 92, 93, 94, 95, 96, 97, 98, 38, 39, 40, 99, 100, 101, 102, 12, 103, 104, 105, 106, 107, 108, 109, 110, 23, 111, 112, 113, 114, 115, 116, 117, 118, 119, 120, 121, 122, 123, 124, 125, 126, 127, 128, 129, 130, 16, 131, 132, 133, 134, 135, 136, 137, 138, 65, 66, 67, 68, 63, 64, 139, 140, 141, 142, 143, 144, 145, 146, 147, 148, 149, 150, 151, 152, 153, 154, 155, 156, 157, 158, 159, 160, 161, 162, 163, 164, 165, 166, 167, 168, 169, 227, 228, 229, 230, 231, 232, 233, 234, 235, 236, 237, 238, 239] (by decide +kernel) (by decide +kernel)) (goodIn_sub (fun _ h => List.mem_append_left _ (List.mem_append_left _ (List.mem_append_right _ h))) (by decide +kernel))) (goodIn_sub (fun _ h => List.mem_append_right _ h) (by decide +kernel))
set_option maxRecDepth 20000 in
theorem gL_law_L_areBest : GoodIn wsL_law (va_wsS RL 73 yL_areBest wsL_areBest) := goodIn_app (goodIn_of _ (by decide +kernel)) ggL_law_L_areBest
set_option maxRecDepth 20000 in
theorem ggL_law_L_isImproved : GoodIn wsL_law wsL_isImproved := goodIn_ca (goodIn_ca (goodIn_r _ [172, 72, 73, 74, 2, 75, 21, 76, 77, 78, 36, 37, 79, 80, 81, 82, 20, 22, 9, 17, 83, 84, 85, 86, 10, 87, 88, 89, 90, 13, 14, 91, 92, 93, 94, 95, 96, 97, 98, 38, 39, 40, 99, 100, 101, 102, 12, 103, 104, 105, 106, 107, 108, 109, 110, 23, 111, 112, 113, 114, 115, 116, 117, 118, 119, 120, 121, 122, 123, 124, 125, 126, 127, 128, 129, 130, 16, 173, 174, 175, 176, 177, 178, 179, 180, 181, 182, 183, 184, 185, 186, 187, 18, 188, 189, 190, 191, 150, 151, 152, 153, 192, 193, 194, 195, 131, 132, 133, 134, 196, 197, 198, 199, 53, 54, 162, 163, 164, 165, 166, 167, 168, 169, 200, 201, 202, 203, 227, 228, 229, 230, 231, 232, 233, 234, 235, 236, 237, 238, 239] (by decide +kernel) (by decide +kernel)) (goodIn_sub (fun _ h => List.mem_append_left _ (List.mem_append_left _ (List.mem_append_right _ h))) (by decide +kernel))) (goodIn_sub (fun _ h => List.mem_append_left _ (List.mem_append_right _ h)) (by decide +kernel))
set_option maxRecDepth 20000 in
theorem gL_law_L_isImproved : GoodIn wsL_law (va_wsS RL 77 yL_isImproved wsL_isImproved) := goodIn_app (goodIn_of _ (by decide +kernel)) ggL_law_L_isImproved
set_option maxRecDepth 20000 in
theorem ggL_law_L_isReached : GoodIn wsL_law wsL_isReached := goodIn_ca (goodIn_ca (goodIn_r _ [206, 11, 72, 73, 74, 2, 75, 21, 76, 77, 78, 36, 37, 79, 80, 81, 82, 20, 22, 9, 17, 83, 84, 85, 86, 10, 87, 88, 89, 90, 13, 14, 91, 92, 93, 94, 95, 96, 97, 98, 38, 39, 40, 99, 100, 101, 102, 12, 103, 104, 105, 106, 107, 108, 109, 110, 23, 111, 112, 113, 114, 115, 116, 117, 118, 119, 120, 121, 122, 45, 46, 47, 48, 207, 208, 209, 210, 211, 212, 213, 214, 63, 64, 215, 216, 217, 218, 16, 59, 60, 61, 62, 219, 220, 221, 222, 181, 182, 183, 123, 124, 125, 126, 127, 128, 129, 130, 223, 224, 225, 226, 200, 201, 202, 203, 173, 174, 175, 176, 177, 178, 179, 180, 227, 228, 229, 230, 231, 232, 233, 234, 235, 236, 237, 238, 239] (by decide +kernel) (by decide +kernel)) (goodIn_sub (fun _ h => List.mem_append_left _ (List.mem_append_left _ (List.mem_append_right _ h))) (by decide +kernel))) (goodIn_sub (fun _ h => List.mem_append_right _ h) (by decide +kernel))
set_option maxRecDepth 20000 in
theorem gL_law_L_isReached : GoodIn wsL_law (va_wsS RL 80 yL_isReached wsL_isReached) := goodIn_app (goodIn_of _ (by decide +kernel)) ggL_law_L_isReached
theorem dL_law_0 : decode cL_law 0 = .ok (.new 9, 3) := by decide +kernel
theorem dL_law_3 : decode cL_law 3 = .ok (.dup, 1) := by decide +kernel
theorem dL_law_4 : decode cL_law 4 = .ok (.invokespecial 53, 3) := by decide +kernel
theorem dL_law_7 : decode cL_law 7 = .ok (.astore_n 1, 1) := by decide +kernel
theorem dL_law_8 : decode cL_law 8 = .ok (.iconst 0, 1) := by decide +kernel
theorem dL_law_9 : decode cL_law 9 = .ok (.istore_n 2, 1) := by decide +kernel
theorem dL_law_10 : decode cL_law 10 = .ok (.iload_n 2, 1) := by decide +kernel
theorem dL_law_11 : decode cL_law 11 = .ok (.iconst 5, 1) := by decide +kernel
theorem dL_law_12 : decode cL_law 12 = .ok (.if_icmp .ge 222, 3) := by decide +kernel
theorem dL_law_15 : decode cL_law 15 = .ok (.aload_n 0, 1) := by decide +kernel
theorem dL_law_16 : decode cL_law 16 = .ok (.bipush 8, 2) := by decide +kernel
theorem dL_law_18 : decode cL_law 18 = .ok (.iload_n 2, 1) := by decide +kernel
theorem dL_law_19 : decode cL_law 19 = .ok (.imul, 1) := by decide +kernel
theorem dL_law_20 : decode cL_law 20 = .ok (.invokestatic 54, 3) := by decide +kernel
theorem dL_law_23 : decode cL_law 23 = .ok (.istore_n 3, 1) := by decide +kernel
theorem dL_law_24 : decode cL_law 24 = .ok (.iload_n 3, 1) := by decide +kernel
theorem dL_law_25 : decode cL_law 25 = .ok (.iconst 3, 1) := by decide +kernel
theorem dL_law_26 : decode cL_law 26 = .ok (.invokestatic 60, 3) := by decide +kernel
theorem dL_law_29 : decode cL_law 29 = .ok (.ifCond .ne 7, 3) := by decide +kernel
theorem dL_law_32 : decode cL_law 32 = .ok (.iconst 2, 1) := by decide +kernel
theorem dL_law_33 : decode cL_law 33 = .ok (.goto 12, 3) := by decide +kernel
theorem dL_law_36 : decode cL_law 36 = .ok (.iconst 1, 1) := by decide +kernel
theorem dL_law_37 : decode cL_law 37 = .ok (.iload_n 3, 1) := by decide +kernel
theorem dL_law_38 : decode cL_law 38 = .ok (.iconst 2, 1) := by decide +kernel
theorem dL_law_39 : decode cL_law 39 = .ok (.ishr, 1) := by decide +kernel
theorem dL_law_40 : decode cL_law 40 = .ok (.iconst 5, 1) := by decide +kernel
theorem dL_law_41 : decode cL_law 41 = .ok (.invokestatic 60, 3) := by decide +kernel
theorem dL_law_44 : decode cL_law 44 = .ok (.iadd, 1) := by decide +kernel
theorem dL_law_45 : decode cL_law 45 = .ok (.istore 4, 2) := by decide +kernel
theorem dL_law_47 : decode cL_law 47 = .ok (.aload_n 1, 1) := by decide +kernel
theorem dL_law_48 : decode cL_law 48 = .ok (.iload 4, 2) := by decide +kernel
theorem dL_law_50 : decode cL_law 50 = .ok (.invokevirtual 63, 3) := by decide +kernel
theorem dL_law_53 : decode cL_law 53 = .ok (.pop, 1) := by decide +kernel
theorem dL_law_54 : decode cL_law 54 = .ok (.iconst 1, 1) := by decide +kernel
theorem dL_law_55 : decode cL_law 55 = .ok (.iload_n 3, 1) := by decide +kernel
theorem dL_law_56 : decode cL_law 56 = .ok (.iconst 5, 1) := by decide +kernel
theorem dL_law_57 : decode cL_law 57 = .ok (.ishr, 1) := by decide +kernel
theorem dL_law_58 : decode cL_law 58 = .ok (.iconst 2, 1) := by decide +kernel
theorem dL_law_59 : decode cL_law 59 = .ok (.invokestatic 60, 3) := by decide +kernel
theorem dL_law_62 : decode cL_law 62 = .ok (.iadd, 1) := by decide +kernel
theorem dL_law_63 : decode cL_law 63 = .ok (.istore 5, 2) := by decide +kernel
theorem dL_law_65 : decode cL_law 65 = .ok (.iconst 0, 1) := by decide +kernel
theorem dL_law_66 : decode cL_law 66 = .ok (.istore 6, 2) := by decide +kernel
theorem dL_law_68 : decode cL_law 68 = .ok (.iload 6, 2) := by decide +kernel
theorem dL_law_70 : decode cL_law 70 = .ok (.iload 5, 2) := by decide +kernel
theorem dL_law_72 : decode cL_law 72 = .ok (.if_icmp .ge 23, 3) := by decide +kernel
theorem dL_law_75 : decode cL_law 75 = .ok (.aload_n 1, 1) := by decide +kernel
theorem dL_law_76 : decode cL_law 76 = .ok (.invokevirtual 28, 3) := by decide +kernel
theorem dL_law_79 : decode cL_law 79 = .ok (.bipush 6, 2) := by decide +kernel
theorem dL_law_81 : decode cL_law 81 = .ok (.if_icmp .ge 14, 3) := by decide +kernel
theorem dL_law_84 : decode cL_law 84 = .ok (.aload_n 1, 1) := by decide +kernel
theorem dL_law_85 : decode cL_law 85 = .ok (.invokevirtual 66, 3) := by decide +kernel
theorem dL_law_88 : decode cL_law 88 = .ok (.pop, 1) := by decide +kernel
theorem dL_law_89 : decode cL_law 89 = .ok (.iinc 6 1, 3) := by decide +kernel
theorem dL_law_92 : decode cL_law 92 = .ok (.goto (-24), 3) := by decide +kernel
theorem dL_law_95 : decode cL_law 95 = .ok (.iconst 2, 1) := by decide +kernel
theorem dL_law_96 : decode cL_law 96 = .ok (.iload_n 3, 1) := by decide +kernel
theorem dL_law_97 : decode cL_law 97 = .ok (.bipush 7, 2) := by decide +kernel
theorem dL_law_99 : decode cL_law 99 = .ok (.ishr, 1) := by decide +kernel
theorem dL_law_100 : decode cL_law 100 = .ok (.iload_n 3, 1) := by decide +kernel
theorem dL_law_101 : decode cL_law 101 = .ok (.bipush 9, 2) := by decide +kernel
theorem dL_law_103 : decode cL_law 103 = .ok (.ishr, 1) := by decide +kernel
theorem dL_law_104 : decode cL_law 104 = .ok (.iconst 2, 1) := by decide +kernel
theorem dL_law_105 : decode cL_law 105 = .ok (.invokestatic 60, 3) := by decide +kernel
theorem dL_law_108 : decode cL_law 108 = .ok (.ifCond .ne 7, 3) := by decide +kernel
theorem dL_law_111 : decode cL_law 111 = .ok (.iconst 4, 1) := by decide +kernel
theorem dL_law_112 : decode cL_law 112 = .ok (.goto 5, 3) := by decide +kernel
theorem dL_law_115 : decode cL_law 115 = .ok (.bipush 98, 2) := by decide +kernel
theorem dL_law_117 : decode cL_law 117 = .ok (.invokestatic 60, 3) := by decide +kernel
theorem dL_law_120 : decode cL_law 120 = .ok (.iadd, 1) := by decide +kernel
theorem dL_law_121 : decode cL_law 121 = .ok (.istore 6, 2) := by decide +kernel
theorem dL_law_123 : decode cL_law 123 = .ok (.iconst 0, 1) := by decide +kernel
theorem dL_law_124 : decode cL_law 124 = .ok (.istore 7, 2) := by decide +kernel
theorem dL_law_126 : decode cL_law 126 = .ok (.iload 7, 2) := by decide +kernel
theorem dL_law_128 : decode cL_law 128 = .ok (.aload_n 1, 1) := by decide +kernel
theorem dL_law_129 : decode cL_law 129 = .ok (.invokevirtual 28, 3) := by decide +kernel
theorem dL_law_132 : decode cL_law 132 = .ok (.if_icmp .ge 58, 3) := by decide +kernel
theorem dL_law_135 : decode cL_law 135 = .ok (.iconst 0, 1) := by decide +kernel
theorem dL_law_136 : decode cL_law 136 = .ok (.istore 8, 2) := by decide +kernel
theorem dL_law_138 : decode cL_law 138 = .ok (.iload 8, 2) := by decide +kernel
theorem dL_law_140 : decode cL_law 140 = .ok (.iload 4, 2) := by decide +kernel
theorem dL_law_142 : decode cL_law 142 = .ok (.if_icmp .ge 42, 3) := by decide +kernel
theorem dL_law_145 : decode cL_law 145 = .ok (.aload_n 1, 1) := by decide +kernel
theorem dL_law_146 : decode cL_law 146 = .ok (.iload 7, 2) := by decide +kernel
theorem dL_law_148 : decode cL_law 148 = .ok (.iload 8, 2) := by decide +kernel
theorem dL_law_150 : decode cL_law 150 = .ok (.aload_n 0, 1) := by decide +kernel
theorem dL_law_151 : decode cL_law 151 = .ok (.bipush 8, 2) := by decide +kernel
theorem dL_law_153 : decode cL_law 153 = .ok (.iload_n 2, 1) := by decide +kernel
theorem dL_law_154 : decode cL_law 154 = .ok (.imul, 1) := by decide +kernel
theorem dL_law_155 : decode cL_law 155 = .ok (.iconst 1, 1) := by decide +kernel
theorem dL_law_156 : decode cL_law 156 = .ok (.iadd, 1) := by decide +kernel
theorem dL_law_157 : decode cL_law 157 = .ok (.iload 7, 2) := by decide +kernel
theorem dL_law_159 : decode cL_law 159 = .ok (.iadd, 1) := by decide +kernel
theorem dL_law_160 : decode cL_law 160 = .ok (.invokestatic 54, 3) := by decide +kernel
theorem dL_law_163 : decode cL_law 163 = .ok (.bipush 6, 2) := by decide +kernel
theorem dL_law_165 : decode cL_law 165 = .ok (.iload 8, 2) := by decide +kernel
theorem dL_law_167 : decode cL_law 167 = .ok (.imul, 1) := by decide +kernel
theorem dL_law_168 : decode cL_law 168 = .ok (.ishr, 1) := by decide +kernel
theorem dL_law_169 : decode cL_law 169 = .ok (.iload 6, 2) := by decide +kernel
theorem dL_law_171 : decode cL_law 171 = .ok (.invokestatic 60, 3) := by decide +kernel
theorem dL_law_174 : decode cL_law 174 = .ok (.invokevirtual 69, 3) := by decide +kernel
theorem dL_law_177 : decode cL_law 177 = .ok (.pop, 1) := by decide +kernel
theorem dL_law_178 : decode cL_law 178 = .ok (.iinc 8 1, 3) := by decide +kernel
theorem dL_law_181 : decode cL_law 181 = .ok (.goto (-43), 3) := by decide +kernel
theorem dL_law_184 : decode cL_law 184 = .ok (.iinc 7 1, 3) := by decide +kernel
theorem dL_law_187 : decode cL_law 187 = .ok (.goto (-61), 3) := by decide +kernel
theorem dL_law_190 : decode cL_law 190 = .ok (.aload_n 1, 1) := by decide +kernel
theorem dL_law_191 : decode cL_law 191 = .ok (.invokestatic 73, 3) := by decide +kernel
theorem dL_law_194 : decode cL_law 194 = .ok (.ifCond .eq 32, 3) := by decide +kernel
theorem dL_law_197 : decode cL_law 197 = .ok (.aload_n 1, 1) := by decide +kernel
theorem dL_law_198 : decode cL_law 198 = .ok (.invokestatic 77, 3) := by decide +kernel
theorem dL_law_201 : decode cL_law 201 = .ok (.ifCond .eq 25, 3) := by decide +kernel
theorem dL_law_204 : decode cL_law 204 = .ok (.aload_n 1, 1) := by decide +kernel
theorem dL_law_205 : decode cL_law 205 = .ok (.invokestatic 73, 3) := by decide +kernel
theorem dL_law_208 : decode cL_law 208 = .ok (.ifCond .eq 18, 3) := by decide +kernel
theorem dL_law_211 : decode cL_law 211 = .ok (.aload_n 1, 1) := by decide +kernel
theorem dL_law_212 : decode cL_law 212 = .ok (.iload_n 3, 1) := by decide +kernel
theorem dL_law_213 : decode cL_law 213 = .ok (.bipush 11, 2) := by decide +kernel
theorem dL_law_215 : decode cL_law 215 = .ok (.ishr, 1) := by decide +kernel
theorem dL_law_216 : decode cL_law 216 = .ok (.iconst 3, 1) := by decide +kernel
theorem dL_law_217 : decode cL_law 217 = .ok (.invokestatic 60, 3) := by decide +kernel
theorem dL_law_220 : decode cL_law 220 = .ok (.invokestatic 80, 3) := by decide +kernel
theorem dL_law_223 : decode cL_law 223 = .ok (.ifCond .ne 5, 3) := by decide +kernel
theorem dL_law_226 : decode cL_law 226 = .ok (.iconst 0, 1) := by decide +kernel
theorem dL_law_227 : decode cL_law 227 = .ok (.ireturn, 1) := by decide +kernel
theorem dL_law_228 : decode cL_law 228 = .ok (.iinc 2 1, 3) := by decide +kernel
theorem dL_law_231 : decode cL_law 231 = .ok (.goto (-221), 3) := by decide +kernel
theorem dL_law_234 : decode cL_law 234 = .ok (.iconst 1, 1) := by decide +kernel
theorem dL_law_235 : decode cL_law 235 = .ok (.ireturn, 1) := by decide +kernel
