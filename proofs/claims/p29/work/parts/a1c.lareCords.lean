/-! the law's words and instructions (out of a short program) -/
set_option maxRecDepth 20000 in
theorem ggL_areCords_X6_count : GoodIn wsL_areCords wsX6_count := goodIn_ca (goodIn_r _ [5, 6, 7, 8, 9, 10, 11, 12, 13, 14, 15, 16, 17, 18, 19, 20, 21, 22, 23, 24, 25, 26, 27, 28, 29, 30, 31, 32, 33, 34, 35, 102, 103, 104, 105, 106, 107, 108, 109, 110, 111, 112, 113, 114, 115, 116, 117, 118, 119, 120, 121, 122, 123, 124, 125, 126, 127, 128, 129, 130, 131, 132, 133, 134, 135, 136, 137, 138, 139, 140, 141, 142, 143, 144] (by decide +kernel) (by decide +kernel)) (goodIn_sub (fun _ h => List.mem_cons_of_mem _ (List.mem_append_left _ (List.mem_append_right _ h))) (by decide +kernel))
set_option maxRecDepth 20000 in
theorem gL_areCords_X6_count : GoodIn wsL_areCords (wsV RL 32 RX6 yX6_count wsX6_count) := goodIn_app (goodIn_of _ (by decide +kernel)) ggL_areCords_X6_count
set_option maxRecDepth 20000 in
theorem ggL_areCords_L_left : GoodIn wsL_areCords wsL_left := goodIn_r _ [39, 40, 41, 38, 42] (by decide +kernel) (by decide +kernel)
set_option maxRecDepth 20000 in
theorem gL_areCords_L_left : GoodIn wsL_areCords (va_wsS RL 16 yL_left wsL_left) := goodIn_app (goodIn_of _ (by decide +kernel)) ggL_areCords_L_left
set_option maxRecDepth 20000 in
theorem ggL_areCords_X6_segment : GoodIn wsL_areCords wsX6_segment := goodIn_ca (goodIn_r _ [46, 8, 47, 48, 49, 4, 50, 51, 52, 53, 54, 55, 56, 57, 58, 59, 14, 60, 16, 102, 103, 104, 105, 106, 107, 108, 109, 110, 111, 112, 113, 114, 115, 116, 117, 118, 119, 120, 121, 137, 138, 139, 140, 141, 142, 143, 144] (by decide +kernel) (by decide +kernel)) (goodIn_sub (fun _ h => List.mem_cons_of_mem _ (List.mem_append_right _ h)) (by decide +kernel))
set_option maxRecDepth 20000 in
theorem gL_areCords_X6_segment : GoodIn wsL_areCords (wsV RL 38 RX6 yX6_segment wsX6_segment) := goodIn_app (goodIn_of _ (by decide +kernel)) ggL_areCords_X6_segment
set_option maxRecDepth 20000 in
theorem ggL_areCords_L_time : GoodIn wsL_areCords wsL_time := goodIn_r _ [42] (by decide +kernel) (by decide +kernel)
set_option maxRecDepth 20000 in
theorem gL_areCords_L_time : GoodIn wsL_areCords (va_wsS RL 9 yL_time wsL_time) := goodIn_app (goodIn_of _ (by decide +kernel)) ggL_areCords_L_time
set_option maxRecDepth 20000 in
theorem ggL_areCords_X6_cordOf : GoodIn wsL_areCords wsX6_cordOf := goodIn_ca (goodIn_ca (goodIn_r _ [64, 6, 7, 8, 53, 54, 55, 4, 56, 51, 52, 57, 58, 59, 14, 60, 16, 65, 66, 67, 21, 68, 35, 33, 34, 69, 30, 31, 32, 102, 103, 104, 105, 106, 107, 108, 109, 110, 111, 112, 113, 114, 115, 116, 117, 118, 119, 120, 121, 137, 138, 139, 140, 141, 142, 143, 144] (by decide +kernel) (by decide +kernel)) (goodIn_sub (fun _ h => List.mem_cons_of_mem _ (List.mem_append_left _ (List.mem_append_right _ h))) (by decide +kernel))) (goodIn_sub (fun _ h => List.mem_cons_of_mem _ (List.mem_append_right _ h)) (by decide +kernel))
set_option maxRecDepth 20000 in
theorem gL_areCords_X6_cordOf : GoodIn wsL_areCords (wsV RL 42 RX6 yX6_cordOf wsX6_cordOf) := goodIn_app (goodIn_of _ (by decide +kernel)) ggL_areCords_X6_cordOf
set_option maxRecDepth 20000 in
theorem ggL_areCords_X6_front : GoodIn wsL_areCords wsX6_front := goodIn_ca (goodIn_r _ [73, 8, 53, 54, 55, 4, 56, 51, 52, 57, 58, 59, 14, 60, 16, 74, 75, 76, 21, 77, 33, 34, 78, 79, 80, 30, 31, 32, 35, 102, 103, 104, 105, 106, 107, 108, 109, 110, 111, 112, 113, 114, 115, 116, 117, 118, 119, 120, 121, 137, 138, 139, 140, 141, 142, 143, 144] (by decide +kernel) (by decide +kernel)) (goodIn_sub (fun _ h => List.mem_cons_of_mem _ (List.mem_append_right _ h)) (by decide +kernel))
set_option maxRecDepth 20000 in
theorem gL_areCords_X6_front : GoodIn wsL_areCords (wsV RL 45 RX6 yX6_front wsX6_front) := goodIn_app (goodIn_of _ (by decide +kernel)) ggL_areCords_X6_front
set_option maxRecDepth 20000 in
theorem ggL_areCords_X6_lasts : GoodIn wsL_areCords wsX6_lasts := goodIn_ca (goodIn_ca (goodIn_r _ [84, 6, 7, 8, 53, 54, 55, 4, 56, 51, 52, 57, 58, 59, 14, 60, 16, 65, 66, 67, 21, 68, 35, 33, 34, 85, 86, 87, 88, 89, 90, 102, 103, 104, 105, 106, 107, 108, 109, 110, 111, 112, 113, 114, 115, 116, 117, 118, 119, 120, 121, 137, 138, 139, 140, 141, 142, 143, 144] (by decide +kernel) (by decide +kernel)) (goodIn_sub (fun _ h => List.mem_cons_of_mem _ (List.mem_append_left _ (List.mem_append_right _ h))) (by decide +kernel))) (goodIn_sub (fun _ h => List.mem_cons_of_mem _ (List.mem_append_right _ h)) (by decide +kernel))
set_option maxRecDepth 20000 in
theorem gL_areCords_X6_lasts : GoodIn wsL_areCords (wsV RL 49 RX6 yX6_lasts wsX6_lasts) := goodIn_app (goodIn_of _ (by decide +kernel)) ggL_areCords_X6_lasts
set_option maxRecDepth 20000 in
theorem ggL_areCords_L_flames : GoodIn wsL_areCords wsL_flames := goodIn_r _ [93] (by decide +kernel) (by decide +kernel)
set_option maxRecDepth 20000 in
theorem gL_areCords_L_flames : GoodIn wsL_areCords (va_wsS RL 24 yL_flames wsL_flames) := goodIn_app (goodIn_of _ (by decide +kernel)) ggL_areCords_L_flames
set_option maxRecDepth 20000 in
theorem ggL_areCords_X6_burned : GoodIn wsL_areCords wsX6_burned := goodIn_r _ [97, 8, 98, 99, 100, 21, 101, 33, 34, 102, 103, 104, 105, 106, 107, 108, 109, 110, 111, 112, 113, 114, 115, 116, 117, 118, 119, 120, 121, 137, 138, 139, 140, 141, 142, 143, 144] (by decide +kernel) (by decide +kernel)
set_option maxRecDepth 20000 in
theorem gL_areCords_X6_burned : GoodIn wsL_areCords (wsV RL 53 RX6 yX6_burned wsX6_burned) := goodIn_app (goodIn_of _ (by decide +kernel)) ggL_areCords_X6_burned
theorem dL_areCords_0 : decode cL_areCords 0 = .ok (.iconst 0, 1) := by decide +kernel
theorem dL_areCords_1 : decode cL_areCords 1 = .ok (.istore 4, 2) := by decide +kernel
theorem dL_areCords_3 : decode cL_areCords 3 = .ok (.iconst 0, 1) := by decide +kernel
theorem dL_areCords_4 : decode cL_areCords 4 = .ok (.istore 5, 2) := by decide +kernel
theorem dL_areCords_6 : decode cL_areCords 6 = .ok (.iconst 0, 1) := by decide +kernel
theorem dL_areCords_7 : decode cL_areCords 7 = .ok (.istore 6, 2) := by decide +kernel
theorem dL_areCords_9 : decode cL_areCords 9 = .ok (.aload_n 0, 1) := by decide +kernel
theorem dL_areCords_10 : decode cL_areCords 10 = .ok (.iconst 1, 1) := by decide +kernel
theorem dL_areCords_11 : decode cL_areCords 11 = .ok (.invokevirtual 32, 3) := by decide +kernel
theorem dL_areCords_14 : decode cL_areCords 14 = .ok (.aload_n 3, 1) := by decide +kernel
theorem dL_areCords_15 : decode cL_areCords 15 = .ok (.bipush 6, 2) := by decide +kernel
theorem dL_areCords_17 : decode cL_areCords 17 = .ok (.iaload, 1) := by decide +kernel
theorem dL_areCords_18 : decode cL_areCords 18 = .ok (.if_icmp .ne 7, 3) := by decide +kernel
theorem dL_areCords_21 : decode cL_areCords 21 = .ok (.iconst 1, 1) := by decide +kernel
theorem dL_areCords_22 : decode cL_areCords 22 = .ok (.goto 4, 3) := by decide +kernel
theorem dL_areCords_25 : decode cL_areCords 25 = .ok (.iconst 0, 1) := by decide +kernel
theorem dL_areCords_26 : decode cL_areCords 26 = .ok (.istore 7, 2) := by decide +kernel
theorem dL_areCords_28 : decode cL_areCords 28 = .ok (.iconst 0, 1) := by decide +kernel
theorem dL_areCords_29 : decode cL_areCords 29 = .ok (.istore 8, 2) := by decide +kernel
theorem dL_areCords_31 : decode cL_areCords 31 = .ok (.iload 8, 2) := by decide +kernel
theorem dL_areCords_33 : decode cL_areCords 33 = .ok (.aload_n 3, 1) := by decide +kernel
theorem dL_areCords_34 : decode cL_areCords 34 = .ok (.bipush 6, 2) := by decide +kernel
theorem dL_areCords_36 : decode cL_areCords 36 = .ok (.iaload, 1) := by decide +kernel
theorem dL_areCords_37 : decode cL_areCords 37 = .ok (.if_icmp .ge 494, 3) := by decide +kernel
theorem dL_areCords_40 : decode cL_areCords 40 = .ok (.iload 7, 2) := by decide +kernel
theorem dL_areCords_42 : decode cL_areCords 42 = .ok (.ifCond .eq 489, 3) := by decide +kernel
theorem dL_areCords_45 : decode cL_areCords 45 = .ok (.iconst 0, 1) := by decide +kernel
theorem dL_areCords_46 : decode cL_areCords 46 = .ok (.istore 9, 2) := by decide +kernel
theorem dL_areCords_48 : decode cL_areCords 48 = .ok (.aload_n 1, 1) := by decide +kernel
theorem dL_areCords_49 : decode cL_areCords 49 = .ok (.aload_n 2, 1) := by decide +kernel
theorem dL_areCords_50 : decode cL_areCords 50 = .ok (.iload 8, 2) := by decide +kernel
theorem dL_areCords_52 : decode cL_areCords 52 = .ok (.invokestatic 16, 3) := by decide +kernel
theorem dL_areCords_55 : decode cL_areCords 55 = .ok (.istore 10, 2) := by decide +kernel
theorem dL_areCords_57 : decode cL_areCords 57 = .ok (.iconst 0, 1) := by decide +kernel
theorem dL_areCords_58 : decode cL_areCords 58 = .ok (.istore 11, 2) := by decide +kernel
theorem dL_areCords_60 : decode cL_areCords 60 = .ok (.iload 11, 2) := by decide +kernel
theorem dL_areCords_62 : decode cL_areCords 62 = .ok (.bipush 6, 2) := by decide +kernel
theorem dL_areCords_64 : decode cL_areCords 64 = .ok (.if_icmp .ge 78, 3) := by decide +kernel
theorem dL_areCords_67 : decode cL_areCords 67 = .ok (.iload 9, 2) := by decide +kernel
theorem dL_areCords_69 : decode cL_areCords 69 = .ok (.aload_n 1, 1) := by decide +kernel
theorem dL_areCords_70 : decode cL_areCords 70 = .ok (.bipush 6, 2) := by decide +kernel
theorem dL_areCords_72 : decode cL_areCords 72 = .ok (.iload 8, 2) := by decide +kernel
theorem dL_areCords_74 : decode cL_areCords 74 = .ok (.imul, 1) := by decide +kernel
theorem dL_areCords_75 : decode cL_areCords 75 = .ok (.iload 11, 2) := by decide +kernel
theorem dL_areCords_77 : decode cL_areCords 77 = .ok (.iadd, 1) := by decide +kernel
theorem dL_areCords_78 : decode cL_areCords 78 = .ok (.iaload, 1) := by decide +kernel
theorem dL_areCords_79 : decode cL_areCords 79 = .ok (.ifCond .le 7, 3) := by decide +kernel
theorem dL_areCords_82 : decode cL_areCords 82 = .ok (.iconst 1, 1) := by decide +kernel
theorem dL_areCords_83 : decode cL_areCords 83 = .ok (.goto 4, 3) := by decide +kernel
theorem dL_areCords_86 : decode cL_areCords 86 = .ok (.iconst 0, 1) := by decide +kernel
theorem dL_areCords_87 : decode cL_areCords 87 = .ok (.iadd, 1) := by decide +kernel
theorem dL_areCords_88 : decode cL_areCords 88 = .ok (.istore 9, 2) := by decide +kernel
theorem dL_areCords_90 : decode cL_areCords 90 = .ok (.iload 7, 2) := by decide +kernel
theorem dL_areCords_92 : decode cL_areCords 92 = .ok (.ifCond .eq 41, 3) := by decide +kernel
theorem dL_areCords_95 : decode cL_areCords 95 = .ok (.aload_n 1, 1) := by decide +kernel
theorem dL_areCords_96 : decode cL_areCords 96 = .ok (.bipush 6, 2) := by decide +kernel
theorem dL_areCords_98 : decode cL_areCords 98 = .ok (.iload 8, 2) := by decide +kernel
theorem dL_areCords_100 : decode cL_areCords 100 = .ok (.imul, 1) := by decide +kernel
theorem dL_areCords_101 : decode cL_areCords 101 = .ok (.iload 11, 2) := by decide +kernel
theorem dL_areCords_103 : decode cL_areCords 103 = .ok (.iadd, 1) := by decide +kernel
theorem dL_areCords_104 : decode cL_areCords 104 = .ok (.iaload, 1) := by decide +kernel
theorem dL_areCords_105 : decode cL_areCords 105 = .ok (.ifCond .eq 24, 3) := by decide +kernel
theorem dL_areCords_108 : decode cL_areCords 108 = .ok (.aload_n 0, 1) := by decide +kernel
theorem dL_areCords_109 : decode cL_areCords 109 = .ok (.iload 8, 2) := by decide +kernel
theorem dL_areCords_111 : decode cL_areCords 111 = .ok (.iload 11, 2) := by decide +kernel
theorem dL_areCords_113 : decode cL_areCords 113 = .ok (.invokevirtual 38, 3) := by decide +kernel
theorem dL_areCords_116 : decode cL_areCords 116 = .ok (.aload_n 1, 1) := by decide +kernel
theorem dL_areCords_117 : decode cL_areCords 117 = .ok (.bipush 6, 2) := by decide +kernel
theorem dL_areCords_119 : decode cL_areCords 119 = .ok (.iload 8, 2) := by decide +kernel
theorem dL_areCords_121 : decode cL_areCords 121 = .ok (.imul, 1) := by decide +kernel
theorem dL_areCords_122 : decode cL_areCords 122 = .ok (.iload 11, 2) := by decide +kernel
theorem dL_areCords_124 : decode cL_areCords 124 = .ok (.iadd, 1) := by decide +kernel
theorem dL_areCords_125 : decode cL_areCords 125 = .ok (.iaload, 1) := by decide +kernel
theorem dL_areCords_126 : decode cL_areCords 126 = .ok (.if_icmp .ne 7, 3) := by decide +kernel
theorem dL_areCords_129 : decode cL_areCords 129 = .ok (.iconst 1, 1) := by decide +kernel
theorem dL_areCords_130 : decode cL_areCords 130 = .ok (.goto 4, 3) := by decide +kernel
theorem dL_areCords_133 : decode cL_areCords 133 = .ok (.iconst 0, 1) := by decide +kernel
theorem dL_areCords_134 : decode cL_areCords 134 = .ok (.istore 7, 2) := by decide +kernel
theorem dL_areCords_136 : decode cL_areCords 136 = .ok (.iinc 11 1, 3) := by decide +kernel
theorem dL_areCords_139 : decode cL_areCords 139 = .ok (.goto (-79), 3) := by decide +kernel
theorem dL_areCords_142 : decode cL_areCords 142 = .ok (.iconst 0, 1) := by decide +kernel
theorem dL_areCords_143 : decode cL_areCords 143 = .ok (.istore 11, 2) := by decide +kernel
theorem dL_areCords_145 : decode cL_areCords 145 = .ok (.iconst (-1), 1) := by decide +kernel
theorem dL_areCords_146 : decode cL_areCords 146 = .ok (.istore 12, 2) := by decide +kernel
theorem dL_areCords_148 : decode cL_areCords 148 = .ok (.iconst (-1), 1) := by decide +kernel
theorem dL_areCords_149 : decode cL_areCords 149 = .ok (.istore 13, 2) := by decide +kernel
theorem dL_areCords_151 : decode cL_areCords 151 = .ok (.iconst 0, 1) := by decide +kernel
theorem dL_areCords_152 : decode cL_areCords 152 = .ok (.istore 14, 2) := by decide +kernel
theorem dL_areCords_154 : decode cL_areCords 154 = .ok (.iload 14, 2) := by decide +kernel
theorem dL_areCords_156 : decode cL_areCords 156 = .ok (.iload 9, 2) := by decide +kernel
theorem dL_areCords_158 : decode cL_areCords 158 = .ok (.if_icmp .ge 97, 3) := by decide +kernel
theorem dL_areCords_161 : decode cL_areCords 161 = .ok (.iconst 0, 1) := by decide +kernel
theorem dL_areCords_162 : decode cL_areCords 162 = .ok (.istore 15, 2) := by decide +kernel
theorem dL_areCords_164 : decode cL_areCords 164 = .ok (.iload 15, 2) := by decide +kernel
theorem dL_areCords_166 : decode cL_areCords 166 = .ok (.aload_n 1, 1) := by decide +kernel
theorem dL_areCords_167 : decode cL_areCords 167 = .ok (.bipush 6, 2) := by decide +kernel
theorem dL_areCords_169 : decode cL_areCords 169 = .ok (.iload 8, 2) := by decide +kernel
theorem dL_areCords_171 : decode cL_areCords 171 = .ok (.imul, 1) := by decide +kernel
theorem dL_areCords_172 : decode cL_areCords 172 = .ok (.iload 14, 2) := by decide +kernel
theorem dL_areCords_174 : decode cL_areCords 174 = .ok (.iadd, 1) := by decide +kernel
theorem dL_areCords_175 : decode cL_areCords 175 = .ok (.iaload, 1) := by decide +kernel
theorem dL_areCords_176 : decode cL_areCords 176 = .ok (.if_icmp .ge 73, 3) := by decide +kernel
theorem dL_areCords_179 : decode cL_areCords 179 = .ok (.iload 11, 2) := by decide +kernel
theorem dL_areCords_181 : decode cL_areCords 181 = .ok (.aload_n 2, 1) := by decide +kernel
theorem dL_areCords_182 : decode cL_areCords 182 = .ok (.iconst 5, 1) := by decide +kernel
theorem dL_areCords_183 : decode cL_areCords 183 = .ok (.iload 8, 2) := by decide +kernel
theorem dL_areCords_185 : decode cL_areCords 185 = .ok (.imul, 1) := by decide +kernel
theorem dL_areCords_186 : decode cL_areCords 186 = .ok (.iaload, 1) := by decide +kernel
theorem dL_areCords_187 : decode cL_areCords 187 = .ok (.if_icmp .ne 13, 3) := by decide +kernel
theorem dL_areCords_190 : decode cL_areCords 190 = .ok (.iload 10, 2) := by decide +kernel
theorem dL_areCords_192 : decode cL_areCords 192 = .ok (.ifCond .le 8, 3) := by decide +kernel
theorem dL_areCords_195 : decode cL_areCords 195 = .ok (.iload 14, 2) := by decide +kernel
theorem dL_areCords_197 : decode cL_areCords 197 = .ok (.goto 5, 3) := by decide +kernel
theorem dL_areCords_200 : decode cL_areCords 200 = .ok (.iload 12, 2) := by decide +kernel
theorem dL_areCords_202 : decode cL_areCords 202 = .ok (.istore 12, 2) := by decide +kernel
theorem dL_areCords_204 : decode cL_areCords 204 = .ok (.iload 11, 2) := by decide +kernel
theorem dL_areCords_206 : decode cL_areCords 206 = .ok (.aload_n 1, 1) := by decide +kernel
theorem dL_areCords_207 : decode cL_areCords 207 = .ok (.iload 8, 2) := by decide +kernel
theorem dL_areCords_209 : decode cL_areCords 209 = .ok (.invokestatic 9, 3) := by decide +kernel
theorem dL_areCords_212 : decode cL_areCords 212 = .ok (.iconst 1, 1) := by decide +kernel
theorem dL_areCords_213 : decode cL_areCords 213 = .ok (.isub, 1) := by decide +kernel
theorem dL_areCords_214 : decode cL_areCords 214 = .ok (.aload_n 2, 1) := by decide +kernel
theorem dL_areCords_215 : decode cL_areCords 215 = .ok (.iconst 5, 1) := by decide +kernel
theorem dL_areCords_216 : decode cL_areCords 216 = .ok (.iload 8, 2) := by decide +kernel
theorem dL_areCords_218 : decode cL_areCords 218 = .ok (.imul, 1) := by decide +kernel
theorem dL_areCords_219 : decode cL_areCords 219 = .ok (.iconst 1, 1) := by decide +kernel
theorem dL_areCords_220 : decode cL_areCords 220 = .ok (.iadd, 1) := by decide +kernel
theorem dL_areCords_221 : decode cL_areCords 221 = .ok (.iaload, 1) := by decide +kernel
theorem dL_areCords_222 : decode cL_areCords 222 = .ok (.isub, 1) := by decide +kernel
theorem dL_areCords_223 : decode cL_areCords 223 = .ok (.if_icmp .ne 13, 3) := by decide +kernel
theorem dL_areCords_226 : decode cL_areCords 226 = .ok (.iload 10, 2) := by decide +kernel
theorem dL_areCords_228 : decode cL_areCords 228 = .ok (.ifCond .le 8, 3) := by decide +kernel
theorem dL_areCords_231 : decode cL_areCords 231 = .ok (.iload 14, 2) := by decide +kernel
theorem dL_areCords_233 : decode cL_areCords 233 = .ok (.goto 5, 3) := by decide +kernel
theorem dL_areCords_236 : decode cL_areCords 236 = .ok (.iload 13, 2) := by decide +kernel
theorem dL_areCords_238 : decode cL_areCords 238 = .ok (.istore 13, 2) := by decide +kernel
theorem dL_areCords_240 : decode cL_areCords 240 = .ok (.iinc 11 1, 3) := by decide +kernel
theorem dL_areCords_243 : decode cL_areCords 243 = .ok (.iinc 15 1, 3) := by decide +kernel
theorem dL_areCords_246 : decode cL_areCords 246 = .ok (.goto (-82), 3) := by decide +kernel
theorem dL_areCords_249 : decode cL_areCords 249 = .ok (.iinc 14 1, 3) := by decide +kernel
theorem dL_areCords_252 : decode cL_areCords 252 = .ok (.goto (-98), 3) := by decide +kernel
theorem dL_areCords_255 : decode cL_areCords 255 = .ok (.iload 7, 2) := by decide +kernel
theorem dL_areCords_257 : decode cL_areCords 257 = .ok (.ifCond .eq 230, 3) := by decide +kernel
theorem dL_areCords_260 : decode cL_areCords 260 = .ok (.aload_n 0, 1) := by decide +kernel
theorem dL_areCords_261 : decode cL_areCords 261 = .ok (.iload 8, 2) := by decide +kernel
theorem dL_areCords_263 : decode cL_areCords 263 = .ok (.iconst 0, 1) := by decide +kernel
theorem dL_areCords_264 : decode cL_areCords 264 = .ok (.invokevirtual 42, 3) := by decide +kernel
theorem dL_areCords_267 : decode cL_areCords 267 = .ok (.iload 11, 2) := by decide +kernel
theorem dL_areCords_269 : decode cL_areCords 269 = .ok (.if_icmp .ne 218, 3) := by decide +kernel
theorem dL_areCords_272 : decode cL_areCords 272 = .ok (.aload_n 0, 1) := by decide +kernel
theorem dL_areCords_273 : decode cL_areCords 273 = .ok (.iload 8, 2) := by decide +kernel
theorem dL_areCords_275 : decode cL_areCords 275 = .ok (.iconst 1, 1) := by decide +kernel
theorem dL_areCords_276 : decode cL_areCords 276 = .ok (.invokevirtual 42, 3) := by decide +kernel
theorem dL_areCords_279 : decode cL_areCords 279 = .ok (.iload 9, 2) := by decide +kernel
theorem dL_areCords_281 : decode cL_areCords 281 = .ok (.if_icmp .ne 206, 3) := by decide +kernel
theorem dL_areCords_284 : decode cL_areCords 284 = .ok (.aload_n 0, 1) := by decide +kernel
theorem dL_areCords_285 : decode cL_areCords 285 = .ok (.iload 8, 2) := by decide +kernel
theorem dL_areCords_287 : decode cL_areCords 287 = .ok (.iconst 2, 1) := by decide +kernel
theorem dL_areCords_288 : decode cL_areCords 288 = .ok (.invokevirtual 42, 3) := by decide +kernel
theorem dL_areCords_291 : decode cL_areCords 291 = .ok (.aload_n 2, 1) := by decide +kernel
theorem dL_areCords_292 : decode cL_areCords 292 = .ok (.iconst 5, 1) := by decide +kernel
theorem dL_areCords_293 : decode cL_areCords 293 = .ok (.iload 8, 2) := by decide +kernel
theorem dL_areCords_295 : decode cL_areCords 295 = .ok (.imul, 1) := by decide +kernel
theorem dL_areCords_296 : decode cL_areCords 296 = .ok (.iaload, 1) := by decide +kernel
theorem dL_areCords_297 : decode cL_areCords 297 = .ok (.if_icmp .ne 190, 3) := by decide +kernel
theorem dL_areCords_300 : decode cL_areCords 300 = .ok (.aload_n 0, 1) := by decide +kernel
theorem dL_areCords_301 : decode cL_areCords 301 = .ok (.iload 8, 2) := by decide +kernel
theorem dL_areCords_303 : decode cL_areCords 303 = .ok (.iconst 3, 1) := by decide +kernel
theorem dL_areCords_304 : decode cL_areCords 304 = .ok (.invokevirtual 42, 3) := by decide +kernel
theorem dL_areCords_307 : decode cL_areCords 307 = .ok (.aload_n 2, 1) := by decide +kernel
theorem dL_areCords_308 : decode cL_areCords 308 = .ok (.iconst 5, 1) := by decide +kernel
theorem dL_areCords_309 : decode cL_areCords 309 = .ok (.iload 8, 2) := by decide +kernel
theorem dL_areCords_311 : decode cL_areCords 311 = .ok (.imul, 1) := by decide +kernel
theorem dL_areCords_312 : decode cL_areCords 312 = .ok (.iconst 1, 1) := by decide +kernel
theorem dL_areCords_313 : decode cL_areCords 313 = .ok (.iadd, 1) := by decide +kernel
theorem dL_areCords_314 : decode cL_areCords 314 = .ok (.iaload, 1) := by decide +kernel
theorem dL_areCords_315 : decode cL_areCords 315 = .ok (.if_icmp .ne 172, 3) := by decide +kernel
theorem dL_areCords_318 : decode cL_areCords 318 = .ok (.aload_n 0, 1) := by decide +kernel
theorem dL_areCords_319 : decode cL_areCords 319 = .ok (.iload 8, 2) := by decide +kernel
theorem dL_areCords_321 : decode cL_areCords 321 = .ok (.iconst 4, 1) := by decide +kernel
theorem dL_areCords_322 : decode cL_areCords 322 = .ok (.invokevirtual 42, 3) := by decide +kernel
theorem dL_areCords_325 : decode cL_areCords 325 = .ok (.iload 10, 2) := by decide +kernel
theorem dL_areCords_327 : decode cL_areCords 327 = .ok (.if_icmp .ne 160, 3) := by decide +kernel
theorem dL_areCords_330 : decode cL_areCords 330 = .ok (.aload_n 0, 1) := by decide +kernel
theorem dL_areCords_331 : decode cL_areCords 331 = .ok (.iload 8, 2) := by decide +kernel
theorem dL_areCords_333 : decode cL_areCords 333 = .ok (.iconst 5, 1) := by decide +kernel
theorem dL_areCords_334 : decode cL_areCords 334 = .ok (.invokevirtual 42, 3) := by decide +kernel
theorem dL_areCords_337 : decode cL_areCords 337 = .ok (.aload_n 2, 1) := by decide +kernel
theorem dL_areCords_338 : decode cL_areCords 338 = .ok (.iconst 5, 1) := by decide +kernel
theorem dL_areCords_339 : decode cL_areCords 339 = .ok (.iload 8, 2) := by decide +kernel
theorem dL_areCords_341 : decode cL_areCords 341 = .ok (.imul, 1) := by decide +kernel
theorem dL_areCords_342 : decode cL_areCords 342 = .ok (.iconst 2, 1) := by decide +kernel
theorem dL_areCords_343 : decode cL_areCords 343 = .ok (.iadd, 1) := by decide +kernel
theorem dL_areCords_344 : decode cL_areCords 344 = .ok (.iaload, 1) := by decide +kernel
theorem dL_areCords_345 : decode cL_areCords 345 = .ok (.iconst 2, 1) := by decide +kernel
theorem dL_areCords_346 : decode cL_areCords 346 = .ok (.aload_n 2, 1) := by decide +kernel
theorem dL_areCords_347 : decode cL_areCords 347 = .ok (.iconst 5, 1) := by decide +kernel
theorem dL_areCords_348 : decode cL_areCords 348 = .ok (.iload 8, 2) := by decide +kernel
theorem dL_areCords_350 : decode cL_areCords 350 = .ok (.imul, 1) := by decide +kernel
theorem dL_areCords_351 : decode cL_areCords 351 = .ok (.iconst 3, 1) := by decide +kernel
theorem dL_areCords_352 : decode cL_areCords 352 = .ok (.iadd, 1) := by decide +kernel
theorem dL_areCords_353 : decode cL_areCords 353 = .ok (.iaload, 1) := by decide +kernel
theorem dL_areCords_354 : decode cL_areCords 354 = .ok (.imul, 1) := by decide +kernel
theorem dL_areCords_355 : decode cL_areCords 355 = .ok (.iadd, 1) := by decide +kernel
theorem dL_areCords_356 : decode cL_areCords 356 = .ok (.if_icmp .ne 131, 3) := by decide +kernel
theorem dL_areCords_359 : decode cL_areCords 359 = .ok (.aload_n 0, 1) := by decide +kernel
theorem dL_areCords_360 : decode cL_areCords 360 = .ok (.iload 8, 2) := by decide +kernel
theorem dL_areCords_362 : decode cL_areCords 362 = .ok (.bipush 6, 2) := by decide +kernel
theorem dL_areCords_364 : decode cL_areCords 364 = .ok (.invokevirtual 42, 3) := by decide +kernel
theorem dL_areCords_367 : decode cL_areCords 367 = .ok (.iload 10, 2) := by decide +kernel
theorem dL_areCords_369 : decode cL_areCords 369 = .ok (.ifCond .ne 7, 3) := by decide +kernel
theorem dL_areCords_372 : decode cL_areCords 372 = .ok (.iconst 1, 1) := by decide +kernel
theorem dL_areCords_373 : decode cL_areCords 373 = .ok (.goto 4, 3) := by decide +kernel
theorem dL_areCords_376 : decode cL_areCords 376 = .ok (.iconst 0, 1) := by decide +kernel
theorem dL_areCords_377 : decode cL_areCords 377 = .ok (.if_icmp .ne 110, 3) := by decide +kernel
theorem dL_areCords_380 : decode cL_areCords 380 = .ok (.aload_n 0, 1) := by decide +kernel
theorem dL_areCords_381 : decode cL_areCords 381 = .ok (.iload 8, 2) := by decide +kernel
theorem dL_areCords_383 : decode cL_areCords 383 = .ok (.bipush 7, 2) := by decide +kernel
theorem dL_areCords_385 : decode cL_areCords 385 = .ok (.invokevirtual 42, 3) := by decide +kernel
theorem dL_areCords_388 : decode cL_areCords 388 = .ok (.aload_n 2, 1) := by decide +kernel
theorem dL_areCords_389 : decode cL_areCords 389 = .ok (.iconst 5, 1) := by decide +kernel
theorem dL_areCords_390 : decode cL_areCords 390 = .ok (.iload 8, 2) := by decide +kernel
theorem dL_areCords_392 : decode cL_areCords 392 = .ok (.imul, 1) := by decide +kernel
theorem dL_areCords_393 : decode cL_areCords 393 = .ok (.iconst 4, 1) := by decide +kernel
theorem dL_areCords_394 : decode cL_areCords 394 = .ok (.iadd, 1) := by decide +kernel
theorem dL_areCords_395 : decode cL_areCords 395 = .ok (.iaload, 1) := by decide +kernel
theorem dL_areCords_396 : decode cL_areCords 396 = .ok (.if_icmp .ne 91, 3) := by decide +kernel
theorem dL_areCords_399 : decode cL_areCords 399 = .ok (.aload_n 0, 1) := by decide +kernel
theorem dL_areCords_400 : decode cL_areCords 400 = .ok (.iload 8, 2) := by decide +kernel
theorem dL_areCords_402 : decode cL_areCords 402 = .ok (.iconst 1, 1) := by decide +kernel
theorem dL_areCords_403 : decode cL_areCords 403 = .ok (.invokevirtual 45, 3) := by decide +kernel
theorem dL_areCords_406 : decode cL_areCords 406 = .ok (.iload 12, 2) := by decide +kernel
theorem dL_areCords_408 : decode cL_areCords 408 = .ok (.if_icmp .ne 79, 3) := by decide +kernel
theorem dL_areCords_411 : decode cL_areCords 411 = .ok (.aload_n 0, 1) := by decide +kernel
theorem dL_areCords_412 : decode cL_areCords 412 = .ok (.iload 8, 2) := by decide +kernel
theorem dL_areCords_414 : decode cL_areCords 414 = .ok (.iconst 0, 1) := by decide +kernel
theorem dL_areCords_415 : decode cL_areCords 415 = .ok (.invokevirtual 45, 3) := by decide +kernel
theorem dL_areCords_418 : decode cL_areCords 418 = .ok (.iload 13, 2) := by decide +kernel
theorem dL_areCords_420 : decode cL_areCords 420 = .ok (.if_icmp .ne 67, 3) := by decide +kernel
theorem dL_areCords_423 : decode cL_areCords 423 = .ok (.aload_n 0, 1) := by decide +kernel
theorem dL_areCords_424 : decode cL_areCords 424 = .ok (.iload 8, 2) := by decide +kernel
theorem dL_areCords_426 : decode cL_areCords 426 = .ok (.iconst 1, 1) := by decide +kernel
theorem dL_areCords_427 : decode cL_areCords 427 = .ok (.iconst 0, 1) := by decide +kernel
theorem dL_areCords_428 : decode cL_areCords 428 = .ok (.invokevirtual 49, 3) := by decide +kernel
theorem dL_areCords_431 : decode cL_areCords 431 = .ok (.iload 10, 2) := by decide +kernel
theorem dL_areCords_433 : decode cL_areCords 433 = .ok (.if_icmp .ne 54, 3) := by decide +kernel
theorem dL_areCords_436 : decode cL_areCords 436 = .ok (.aload_n 0, 1) := by decide +kernel
theorem dL_areCords_437 : decode cL_areCords 437 = .ok (.iload 8, 2) := by decide +kernel
theorem dL_areCords_439 : decode cL_areCords 439 = .ok (.iconst 1, 1) := by decide +kernel
theorem dL_areCords_440 : decode cL_areCords 440 = .ok (.iconst 1, 1) := by decide +kernel
theorem dL_areCords_441 : decode cL_areCords 441 = .ok (.invokevirtual 49, 3) := by decide +kernel
theorem dL_areCords_444 : decode cL_areCords 444 = .ok (.iload 10, 2) := by decide +kernel
theorem dL_areCords_446 : decode cL_areCords 446 = .ok (.if_icmp .ne 41, 3) := by decide +kernel
theorem dL_areCords_449 : decode cL_areCords 449 = .ok (.aload_n 0, 1) := by decide +kernel
theorem dL_areCords_450 : decode cL_areCords 450 = .ok (.iload 8, 2) := by decide +kernel
theorem dL_areCords_452 : decode cL_areCords 452 = .ok (.iconst 2, 1) := by decide +kernel
theorem dL_areCords_453 : decode cL_areCords 453 = .ok (.iconst 0, 1) := by decide +kernel
theorem dL_areCords_454 : decode cL_areCords 454 = .ok (.invokevirtual 49, 3) := by decide +kernel
theorem dL_areCords_457 : decode cL_areCords 457 = .ok (.iload 10, 2) := by decide +kernel
theorem dL_areCords_459 : decode cL_areCords 459 = .ok (.iconst 1, 1) := by decide +kernel
theorem dL_areCords_460 : decode cL_areCords 460 = .ok (.iadd, 1) := by decide +kernel
theorem dL_areCords_461 : decode cL_areCords 461 = .ok (.iconst 2, 1) := by decide +kernel
theorem dL_areCords_462 : decode cL_areCords 462 = .ok (.idiv, 1) := by decide +kernel
theorem dL_areCords_463 : decode cL_areCords 463 = .ok (.if_icmp .ne 24, 3) := by decide +kernel
theorem dL_areCords_466 : decode cL_areCords 466 = .ok (.aload_n 0, 1) := by decide +kernel
theorem dL_areCords_467 : decode cL_areCords 467 = .ok (.iload 8, 2) := by decide +kernel
theorem dL_areCords_469 : decode cL_areCords 469 = .ok (.iconst 2, 1) := by decide +kernel
theorem dL_areCords_470 : decode cL_areCords 470 = .ok (.iconst 1, 1) := by decide +kernel
theorem dL_areCords_471 : decode cL_areCords 471 = .ok (.invokevirtual 49, 3) := by decide +kernel
theorem dL_areCords_474 : decode cL_areCords 474 = .ok (.iload 10, 2) := by decide +kernel
theorem dL_areCords_476 : decode cL_areCords 476 = .ok (.iconst 1, 1) := by decide +kernel
theorem dL_areCords_477 : decode cL_areCords 477 = .ok (.iadd, 1) := by decide +kernel
theorem dL_areCords_478 : decode cL_areCords 478 = .ok (.iconst 2, 1) := by decide +kernel
theorem dL_areCords_479 : decode cL_areCords 479 = .ok (.idiv, 1) := by decide +kernel
theorem dL_areCords_480 : decode cL_areCords 480 = .ok (.if_icmp .ne 7, 3) := by decide +kernel
theorem dL_areCords_483 : decode cL_areCords 483 = .ok (.iconst 1, 1) := by decide +kernel
theorem dL_areCords_484 : decode cL_areCords 484 = .ok (.goto 4, 3) := by decide +kernel
theorem dL_areCords_487 : decode cL_areCords 487 = .ok (.iconst 0, 1) := by decide +kernel
theorem dL_areCords_488 : decode cL_areCords 488 = .ok (.istore 7, 2) := by decide +kernel
theorem dL_areCords_490 : decode cL_areCords 490 = .ok (.iload 4, 2) := by decide +kernel
theorem dL_areCords_492 : decode cL_areCords 492 = .ok (.iload 10, 2) := by decide +kernel
theorem dL_areCords_494 : decode cL_areCords 494 = .ok (.ifCond .ne 10, 3) := by decide +kernel
theorem dL_areCords_497 : decode cL_areCords 497 = .ok (.iconst 1, 1) := by decide +kernel
theorem dL_areCords_498 : decode cL_areCords 498 = .ok (.iload 8, 2) := by decide +kernel
theorem dL_areCords_500 : decode cL_areCords 500 = .ok (.ishl, 1) := by decide +kernel
theorem dL_areCords_501 : decode cL_areCords 501 = .ok (.goto 4, 3) := by decide +kernel
theorem dL_areCords_504 : decode cL_areCords 504 = .ok (.iconst 0, 1) := by decide +kernel
theorem dL_areCords_505 : decode cL_areCords 505 = .ok (.ior, 1) := by decide +kernel
theorem dL_areCords_506 : decode cL_areCords 506 = .ok (.istore 4, 2) := by decide +kernel
theorem dL_areCords_508 : decode cL_areCords 508 = .ok (.iload 5, 2) := by decide +kernel
theorem dL_areCords_510 : decode cL_areCords 510 = .ok (.iload 11, 2) := by decide +kernel
theorem dL_areCords_512 : decode cL_areCords 512 = .ok (.iadd, 1) := by decide +kernel
theorem dL_areCords_513 : decode cL_areCords 513 = .ok (.istore 5, 2) := by decide +kernel
theorem dL_areCords_515 : decode cL_areCords 515 = .ok (.iload 6, 2) := by decide +kernel
theorem dL_areCords_517 : decode cL_areCords 517 = .ok (.iload 11, 2) := by decide +kernel
theorem dL_areCords_519 : decode cL_areCords 519 = .ok (.iload 10, 2) := by decide +kernel
theorem dL_areCords_521 : decode cL_areCords 521 = .ok (.isub, 1) := by decide +kernel
theorem dL_areCords_522 : decode cL_areCords 522 = .ok (.iadd, 1) := by decide +kernel
theorem dL_areCords_523 : decode cL_areCords 523 = .ok (.istore 6, 2) := by decide +kernel
theorem dL_areCords_525 : decode cL_areCords 525 = .ok (.iinc 8 1, 3) := by decide +kernel
theorem dL_areCords_528 : decode cL_areCords 528 = .ok (.goto (-497), 3) := by decide +kernel
theorem dL_areCords_531 : decode cL_areCords 531 = .ok (.iload 7, 2) := by decide +kernel
theorem dL_areCords_533 : decode cL_areCords 533 = .ok (.ifCond .eq 114, 3) := by decide +kernel
theorem dL_areCords_536 : decode cL_areCords 536 = .ok (.aload_n 0, 1) := by decide +kernel
theorem dL_areCords_537 : decode cL_areCords 537 = .ok (.iconst 0, 1) := by decide +kernel
theorem dL_areCords_538 : decode cL_areCords 538 = .ok (.invokevirtual 32, 3) := by decide +kernel
theorem dL_areCords_541 : decode cL_areCords 541 = .ok (.aload_n 3, 1) := by decide +kernel
theorem dL_areCords_542 : decode cL_areCords 542 = .ok (.iconst 0, 1) := by decide +kernel
theorem dL_areCords_543 : decode cL_areCords 543 = .ok (.iaload, 1) := by decide +kernel
theorem dL_areCords_544 : decode cL_areCords 544 = .ok (.if_icmp .ne 103, 3) := by decide +kernel
theorem dL_areCords_547 : decode cL_areCords 547 = .ok (.aload_n 0, 1) := by decide +kernel
theorem dL_areCords_548 : decode cL_areCords 548 = .ok (.iconst 3, 1) := by decide +kernel
theorem dL_areCords_549 : decode cL_areCords 549 = .ok (.invokevirtual 32, 3) := by decide +kernel
theorem dL_areCords_552 : decode cL_areCords 552 = .ok (.aload_n 2, 1) := by decide +kernel
theorem dL_areCords_553 : decode cL_areCords 553 = .ok (.aload_n 3, 1) := by decide +kernel
theorem dL_areCords_554 : decode cL_areCords 554 = .ok (.invokestatic 24, 3) := by decide +kernel
theorem dL_areCords_557 : decode cL_areCords 557 = .ok (.if_icmp .ne 90, 3) := by decide +kernel
theorem dL_areCords_560 : decode cL_areCords 560 = .ok (.aload_n 0, 1) := by decide +kernel
theorem dL_areCords_561 : decode cL_areCords 561 = .ok (.iconst 4, 1) := by decide +kernel
theorem dL_areCords_562 : decode cL_areCords 562 = .ok (.invokevirtual 32, 3) := by decide +kernel
theorem dL_areCords_565 : decode cL_areCords 565 = .ok (.iload 4, 2) := by decide +kernel
theorem dL_areCords_567 : decode cL_areCords 567 = .ok (.if_icmp .ne 80, 3) := by decide +kernel
theorem dL_areCords_570 : decode cL_areCords 570 = .ok (.aload_n 0, 1) := by decide +kernel
theorem dL_areCords_571 : decode cL_areCords 571 = .ok (.iconst 5, 1) := by decide +kernel
theorem dL_areCords_572 : decode cL_areCords 572 = .ok (.invokevirtual 32, 3) := by decide +kernel
theorem dL_areCords_575 : decode cL_areCords 575 = .ok (.aload_n 3, 1) := by decide +kernel
theorem dL_areCords_576 : decode cL_areCords 576 = .ok (.iconst 1, 1) := by decide +kernel
theorem dL_areCords_577 : decode cL_areCords 577 = .ok (.iaload, 1) := by decide +kernel
theorem dL_areCords_578 : decode cL_areCords 578 = .ok (.if_icmp .ne 69, 3) := by decide +kernel
theorem dL_areCords_581 : decode cL_areCords 581 = .ok (.aload_n 0, 1) := by decide +kernel
theorem dL_areCords_582 : decode cL_areCords 582 = .ok (.bipush 6, 2) := by decide +kernel
theorem dL_areCords_584 : decode cL_areCords 584 = .ok (.invokevirtual 32, 3) := by decide +kernel
theorem dL_areCords_587 : decode cL_areCords 587 = .ok (.aload_n 3, 1) := by decide +kernel
theorem dL_areCords_588 : decode cL_areCords 588 = .ok (.iconst 2, 1) := by decide +kernel
theorem dL_areCords_589 : decode cL_areCords 589 = .ok (.iaload, 1) := by decide +kernel
theorem dL_areCords_590 : decode cL_areCords 590 = .ok (.if_icmp .ne 57, 3) := by decide +kernel
theorem dL_areCords_593 : decode cL_areCords 593 = .ok (.aload_n 0, 1) := by decide +kernel
theorem dL_areCords_594 : decode cL_areCords 594 = .ok (.bipush 7, 2) := by decide +kernel
theorem dL_areCords_596 : decode cL_areCords 596 = .ok (.invokevirtual 32, 3) := by decide +kernel
theorem dL_areCords_599 : decode cL_areCords 599 = .ok (.aload_n 3, 1) := by decide +kernel
theorem dL_areCords_600 : decode cL_areCords 600 = .ok (.iconst 3, 1) := by decide +kernel
theorem dL_areCords_601 : decode cL_areCords 601 = .ok (.iaload, 1) := by decide +kernel
theorem dL_areCords_602 : decode cL_areCords 602 = .ok (.if_icmp .ne 45, 3) := by decide +kernel
theorem dL_areCords_605 : decode cL_areCords 605 = .ok (.aload_n 0, 1) := by decide +kernel
theorem dL_areCords_606 : decode cL_areCords 606 = .ok (.bipush 8, 2) := by decide +kernel
theorem dL_areCords_608 : decode cL_areCords 608 = .ok (.invokevirtual 32, 3) := by decide +kernel
theorem dL_areCords_611 : decode cL_areCords 611 = .ok (.aload_n 3, 1) := by decide +kernel
theorem dL_areCords_612 : decode cL_areCords 612 = .ok (.iconst 5, 1) := by decide +kernel
theorem dL_areCords_613 : decode cL_areCords 613 = .ok (.iaload, 1) := by decide +kernel
theorem dL_areCords_614 : decode cL_areCords 614 = .ok (.if_icmp .ne 33, 3) := by decide +kernel
theorem dL_areCords_617 : decode cL_areCords 617 = .ok (.aload_n 0, 1) := by decide +kernel
theorem dL_areCords_618 : decode cL_areCords 618 = .ok (.invokevirtual 53, 3) := by decide +kernel
theorem dL_areCords_621 : decode cL_areCords 621 = .ok (.aload_n 3, 1) := by decide +kernel
theorem dL_areCords_622 : decode cL_areCords 622 = .ok (.bipush 6, 2) := by decide +kernel
theorem dL_areCords_624 : decode cL_areCords 624 = .ok (.iaload, 1) := by decide +kernel
theorem dL_areCords_625 : decode cL_areCords 625 = .ok (.ifCond .ne 7, 3) := by decide +kernel
theorem dL_areCords_628 : decode cL_areCords 628 = .ok (.fconst 0, 1) := by decide +kernel
theorem dL_areCords_629 : decode cL_areCords 629 = .ok (.goto 10, 3) := by decide +kernel
theorem dL_areCords_632 : decode cL_areCords 632 = .ok (.iload 6, 2) := by decide +kernel
theorem dL_areCords_634 : decode cL_areCords 634 = .ok (.i2f, 1) := by decide +kernel
theorem dL_areCords_635 : decode cL_areCords 635 = .ok (.iload 5, 2) := by decide +kernel
theorem dL_areCords_637 : decode cL_areCords 637 = .ok (.i2f, 1) := by decide +kernel
theorem dL_areCords_638 : decode cL_areCords 638 = .ok (.fdiv, 1) := by decide +kernel
theorem dL_areCords_639 : decode cL_areCords 639 = .ok (.fcmp .l, 1) := by decide +kernel
theorem dL_areCords_640 : decode cL_areCords 640 = .ok (.ifCond .ne 7, 3) := by decide +kernel
theorem dL_areCords_643 : decode cL_areCords 643 = .ok (.iconst 1, 1) := by decide +kernel
theorem dL_areCords_644 : decode cL_areCords 644 = .ok (.goto 4, 3) := by decide +kernel
theorem dL_areCords_647 : decode cL_areCords 647 = .ok (.iconst 0, 1) := by decide +kernel
theorem dL_areCords_648 : decode cL_areCords 648 = .ok (.ireturn, 1) := by decide +kernel
