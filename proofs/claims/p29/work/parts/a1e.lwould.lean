/-! the law's words and instructions (out of a short program) -/
set_option maxRecDepth 20000 in
theorem ggL_would_L_copy : GoodIn wsL_would wsL_copy := goodIn_r _ [5] (by decide +kernel) (by decide +kernel)
set_option maxRecDepth 20000 in
theorem gL_would_L_copy : GoodIn wsL_would (va_wsS RL 63 yL_copy wsL_copy) := goodIn_app (goodIn_of _ (by decide +kernel)) ggL_would_L_copy
set_option maxRecDepth 20000 in
theorem ggL_would_L_left : GoodIn wsL_would wsL_left := goodIn_r _ [8, 9, 10, 4, 11] (by decide +kernel) (by decide +kernel)
set_option maxRecDepth 20000 in
theorem gL_would_L_left : GoodIn wsL_would (va_wsS RL 16 yL_left wsL_left) := goodIn_app (goodIn_of _ (by decide +kernel)) ggL_would_L_left
set_option maxRecDepth 20000 in
theorem ggL_would_L_flames : GoodIn wsL_would wsL_flames := goodIn_r _ [14] (by decide +kernel) (by decide +kernel)
set_option maxRecDepth 20000 in
theorem gL_would_L_flames : GoodIn wsL_would (va_wsS RL 24 yL_flames wsL_flames) := goodIn_app (goodIn_of _ (by decide +kernel)) ggL_would_L_flames
set_option maxRecDepth 20000 in
theorem ggL_would_L_steps : GoodIn wsL_would wsL_steps := goodIn_r _ [17, 12, 13, 4, 14, 6, 7, 8, 9, 10, 11, 18, 19, 20, 21, 22, 23, 24] (by decide +kernel) (by decide +kernel)
set_option maxRecDepth 20000 in
theorem gL_would_L_steps : GoodIn wsL_would (va_wsS RL 67 yL_steps wsL_steps) := goodIn_app (goodIn_of _ (by decide +kernel)) ggL_would_L_steps
set_option maxRecDepth 20000 in
theorem ggL_would_X6_outIn : GoodIn wsL_would wsX6_outIn := goodIn_ca (goodIn_r _ [29, 30, 31, 32, 33, 34, 28, 35, 36, 37, 38, 39, 40, 41, 42, 43, 44, 45, 46, 47, 48, 49, 50, 51, 52, 53, 54, 55, 56, 57, 58, 59, 60, 61, 62, 63, 64, 65, 66, 67, 68, 69, 70, 71, 72, 73, 74, 75, 76, 77, 78, 79, 80, 81, 82, 83, 84, 85, 86, 87, 88, 89, 90, 91, 92, 93, 94, 95, 96, 97, 98, 99, 100, 101, 102, 103, 104, 105, 106, 107, 108, 109, 110, 111, 112, 113, 114, 115, 116, 117, 118, 119, 120, 121, 122, 123, 124, 125, 126, 127, 128, 129, 130, 131, 132, 133, 134, 135, 136, 137, 138, 139, 140, 141, 142, 143, 144, 145, 146, 147, 148, 149, 150, 151, 152, 153, 154, 155, 156, 157, 158, 159, 160, 161, 162, 163, 164, 165, 166, 167, 168, 169, 170, 171, 172, 173, 174, 175, 176, 177, 178, 179, 180, 181, 182, 183, 184, 185, 186, 187, 188, 189, 190, 191, 192, 193] (by decide +kernel) (by decide +kernel)) (goodIn_sub (fun _ h => List.mem_cons_of_mem _ (List.mem_append_right _ h)) (by decide +kernel))
set_option maxRecDepth 20000 in
theorem gL_would_X6_outIn : GoodIn wsL_would (wsV RL 71 RX6 yX6_outIn wsX6_outIn) := goodIn_app (goodIn_of _ (by decide +kernel)) ggL_would_X6_outIn
theorem dL_would_0 : decode cL_would 0 = .ok (.iconst 1, 1) := by decide +kernel
theorem dL_would_1 : decode cL_would 1 = .ok (.istore 6, 2) := by decide +kernel
theorem dL_would_3 : decode cL_would 3 = .ok (.iconst 0, 1) := by decide +kernel
theorem dL_would_4 : decode cL_would 4 = .ok (.istore 7, 2) := by decide +kernel
theorem dL_would_6 : decode cL_would 6 = .ok (.iload 7, 2) := by decide +kernel
theorem dL_would_8 : decode cL_would 8 = .ok (.aload 4, 2) := by decide +kernel
theorem dL_would_10 : decode cL_would 10 = .ok (.bipush 6, 2) := by decide +kernel
theorem dL_would_12 : decode cL_would 12 = .ok (.iaload, 1) := by decide +kernel
theorem dL_would_13 : decode cL_would 13 = .ok (.if_icmp .ge 141, 3) := by decide +kernel
theorem dL_would_16 : decode cL_would 16 = .ok (.iload 6, 2) := by decide +kernel
theorem dL_would_18 : decode cL_would 18 = .ok (.ifCond .eq 136, 3) := by decide +kernel
theorem dL_would_21 : decode cL_would 21 = .ok (.bipush 20, 2) := by decide +kernel
theorem dL_would_23 : decode cL_would 23 = .ok (.newarray .int, 2) := by decide +kernel
theorem dL_would_25 : decode cL_would 25 = .ok (.astore 8, 2) := by decide +kernel
theorem dL_would_27 : decode cL_would 27 = .ok (.bipush 32, 2) := by decide +kernel
theorem dL_would_29 : decode cL_would 29 = .ok (.newarray .int, 2) := by decide +kernel
theorem dL_would_31 : decode cL_would 31 = .ok (.astore 9, 2) := by decide +kernel
theorem dL_would_33 : decode cL_would 33 = .ok (.bipush 9, 2) := by decide +kernel
theorem dL_would_35 : decode cL_would 35 = .ok (.newarray .int, 2) := by decide +kernel
theorem dL_would_37 : decode cL_would 37 = .ok (.astore 10, 2) := by decide +kernel
theorem dL_would_39 : decode cL_would 39 = .ok (.bipush 8, 2) := by decide +kernel
theorem dL_would_41 : decode cL_would 41 = .ok (.newarray .int, 2) := by decide +kernel
theorem dL_would_43 : decode cL_would 43 = .ok (.astore 11, 2) := by decide +kernel
theorem dL_would_45 : decode cL_would 45 = .ok (.aload_n 2, 1) := by decide +kernel
theorem dL_would_46 : decode cL_would 46 = .ok (.aload 8, 2) := by decide +kernel
theorem dL_would_48 : decode cL_would 48 = .ok (.invokestatic 63, 3) := by decide +kernel
theorem dL_would_51 : decode cL_would 51 = .ok (.aload_n 3, 1) := by decide +kernel
theorem dL_would_52 : decode cL_would 52 = .ok (.aload 9, 2) := by decide +kernel
theorem dL_would_54 : decode cL_would 54 = .ok (.invokestatic 63, 3) := by decide +kernel
theorem dL_would_57 : decode cL_would 57 = .ok (.aload 4, 2) := by decide +kernel
theorem dL_would_59 : decode cL_would 59 = .ok (.aload 10, 2) := by decide +kernel
theorem dL_would_61 : decode cL_would 61 = .ok (.invokestatic 63, 3) := by decide +kernel
theorem dL_would_64 : decode cL_would 64 = .ok (.aload 5, 2) := by decide +kernel
theorem dL_would_66 : decode cL_would 66 = .ok (.aload 11, 2) := by decide +kernel
theorem dL_would_68 : decode cL_would 68 = .ok (.invokestatic 63, 3) := by decide +kernel
theorem dL_would_71 : decode cL_would 71 = .ok (.iconst 0, 1) := by decide +kernel
theorem dL_would_72 : decode cL_would 72 = .ok (.istore 12, 2) := by decide +kernel
theorem dL_would_74 : decode cL_would 74 = .ok (.aload_n 1, 1) := by decide +kernel
theorem dL_would_75 : decode cL_would 75 = .ok (.aload 8, 2) := by decide +kernel
theorem dL_would_77 : decode cL_would 77 = .ok (.iload 7, 2) := by decide +kernel
theorem dL_would_79 : decode cL_would 79 = .ok (.invokestatic 16, 3) := by decide +kernel
theorem dL_would_82 : decode cL_would 82 = .ok (.ifCond .le 33, 3) := by decide +kernel
theorem dL_would_85 : decode cL_would 85 = .ok (.aload 8, 2) := by decide +kernel
theorem dL_would_87 : decode cL_would 87 = .ok (.aload 10, 2) := by decide +kernel
theorem dL_would_89 : decode cL_would 89 = .ok (.invokestatic 24, 3) := by decide +kernel
theorem dL_would_92 : decode cL_would 92 = .ok (.ifCond .le 23, 3) := by decide +kernel
theorem dL_would_95 : decode cL_would 95 = .ok (.aload_n 1, 1) := by decide +kernel
theorem dL_would_96 : decode cL_would 96 = .ok (.aload 8, 2) := by decide +kernel
theorem dL_would_98 : decode cL_would 98 = .ok (.aload 9, 2) := by decide +kernel
theorem dL_would_100 : decode cL_would 100 = .ok (.aload 10, 2) := by decide +kernel
theorem dL_would_102 : decode cL_would 102 = .ok (.aload 11, 2) := by decide +kernel
theorem dL_would_104 : decode cL_would 104 = .ok (.invokestatic 67, 3) := by decide +kernel
theorem dL_would_107 : decode cL_would 107 = .ok (.istore 13, 2) := by decide +kernel
theorem dL_would_109 : decode cL_would 109 = .ok (.iinc 12 1, 3) := by decide +kernel
theorem dL_would_112 : decode cL_would 112 = .ok (.goto (-38), 3) := by decide +kernel
theorem dL_would_115 : decode cL_would 115 = .ok (.aload_n 0, 1) := by decide +kernel
theorem dL_would_116 : decode cL_would 116 = .ok (.iload 7, 2) := by decide +kernel
theorem dL_would_118 : decode cL_would 118 = .ok (.invokevirtual 71, 3) := by decide +kernel
theorem dL_would_121 : decode cL_would 121 = .ok (.aload_n 1, 1) := by decide +kernel
theorem dL_would_122 : decode cL_would 122 = .ok (.aload 8, 2) := by decide +kernel
theorem dL_would_124 : decode cL_would 124 = .ok (.iload 7, 2) := by decide +kernel
theorem dL_would_126 : decode cL_would 126 = .ok (.invokestatic 16, 3) := by decide +kernel
theorem dL_would_129 : decode cL_would 129 = .ok (.ifCond .ne 8, 3) := by decide +kernel
theorem dL_would_132 : decode cL_would 132 = .ok (.iload 12, 2) := by decide +kernel
theorem dL_would_134 : decode cL_would 134 = .ok (.goto 4, 3) := by decide +kernel
theorem dL_would_137 : decode cL_would 137 = .ok (.iconst (-1), 1) := by decide +kernel
theorem dL_would_138 : decode cL_would 138 = .ok (.if_icmp .ne 7, 3) := by decide +kernel
theorem dL_would_141 : decode cL_would 141 = .ok (.iconst 1, 1) := by decide +kernel
theorem dL_would_142 : decode cL_would 142 = .ok (.goto 4, 3) := by decide +kernel
theorem dL_would_145 : decode cL_would 145 = .ok (.iconst 0, 1) := by decide +kernel
theorem dL_would_146 : decode cL_would 146 = .ok (.istore 6, 2) := by decide +kernel
theorem dL_would_148 : decode cL_would 148 = .ok (.iinc 7 1, 3) := by decide +kernel
theorem dL_would_151 : decode cL_would 151 = .ok (.goto (-145), 3) := by decide +kernel
theorem dL_would_154 : decode cL_would 154 = .ok (.iload 6, 2) := by decide +kernel
theorem dL_would_156 : decode cL_would 156 = .ok (.ireturn, 1) := by decide +kernel
