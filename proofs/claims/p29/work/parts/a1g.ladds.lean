/-! the law's words and instructions (out of a short program) -/
set_option maxRecDepth 20000 in
theorem ggL_adds_X6_count : GoodIn wsL_adds wsX6_count := goodIn_ca (goodIn_r _ [5, 6, 7, 8, 9, 10, 11, 12, 13, 14, 15, 16, 17, 18, 19, 20, 21, 22, 23, 24, 25, 26, 27, 28, 29, 30, 31, 32, 33, 34, 35, 115, 116, 117, 118, 119, 120, 121, 122, 123, 124, 125, 126, 127, 128, 129, 130, 131, 132, 133, 134, 135, 136, 137, 138, 139, 140, 141, 142, 143, 144, 145, 146, 147, 148, 149, 150, 151, 152, 153, 154, 155, 156, 157] (by decide +kernel) (by decide +kernel)) (goodIn_sub (fun _ h => List.mem_cons_of_mem _ (List.mem_append_left _ (List.mem_append_right _ h))) (by decide +kernel))
set_option maxRecDepth 20000 in
theorem gL_adds_X6_count : GoodIn wsL_adds (wsV RL 32 RX6 yX6_count wsX6_count) := goodIn_app (goodIn_of _ (by decide +kernel)) ggL_adds_X6_count
set_option maxRecDepth 20000 in
theorem ggL_adds_L_low : GoodIn wsL_adds wsL_low := goodIn_r _ [39, 40] (by decide +kernel) (by decide +kernel)
set_option maxRecDepth 20000 in
theorem gL_adds_L_low : GoodIn wsL_adds (va_wsS RL 90 yL_low wsL_low) := goodIn_app (goodIn_of _ (by decide +kernel)) ggL_adds_L_low
set_option maxRecDepth 20000 in
theorem ggL_adds_X6_cord : GoodIn wsL_adds wsX6_cord := goodIn_ca (goodIn_ca (goodIn_r _ [44, 6, 7, 45, 46, 8, 47, 48, 4, 49, 50, 51, 52, 14, 53, 16, 54, 55, 56, 57, 9, 58, 59, 60, 61, 62, 63, 17, 64, 65, 66, 67, 68, 69, 70, 71, 72, 73, 74, 75, 21, 76, 77, 78, 35, 33, 34, 23, 24, 79, 80, 81, 82, 83, 84, 85, 86, 87, 88, 89, 90, 91, 92, 93, 94, 95, 96, 97, 98, 99, 100, 101, 102, 103, 104, 105, 106, 107, 108, 109, 110, 111, 112, 113, 114, 115, 116, 117, 118, 119, 120, 121, 122, 123, 124, 125, 126, 127, 128, 129, 130, 131, 132, 133, 134, 150, 151, 152, 153, 154, 155, 156, 157, 158, 159, 160, 161, 135, 136, 137, 138, 139] (by decide +kernel) (by decide +kernel)) (goodIn_sub (fun _ h => List.mem_cons_of_mem _ (List.mem_append_left _ (List.mem_append_right _ h))) (by decide +kernel))) (goodIn_sub (fun _ h => List.mem_cons_of_mem _ (List.mem_append_right _ h)) (by decide +kernel))
set_option maxRecDepth 20000 in
theorem gL_adds_X6_cord : GoodIn wsL_adds (wsV RL 93 RX6 yX6_cord wsX6_cord) := goodIn_app (goodIn_of _ (by decide +kernel)) ggL_adds_X6_cord
theorem dL_adds_0 : decode cL_adds 0 = .ok (.aload_n 3, 1) := by decide +kernel
theorem dL_adds_1 : decode cL_adds 1 = .ok (.bipush 6, 2) := by decide +kernel
theorem dL_adds_3 : decode cL_adds 3 = .ok (.iaload, 1) := by decide +kernel
theorem dL_adds_4 : decode cL_adds 4 = .ok (.iconst 4, 1) := by decide +kernel
theorem dL_adds_5 : decode cL_adds 5 = .ok (.if_icmp .ne 18, 3) := by decide +kernel
theorem dL_adds_8 : decode cL_adds 8 = .ok (.aload_n 0, 1) := by decide +kernel
theorem dL_adds_9 : decode cL_adds 9 = .ok (.iconst 1, 1) := by decide +kernel
theorem dL_adds_10 : decode cL_adds 10 = .ok (.invokevirtual 32, 3) := by decide +kernel
theorem dL_adds_13 : decode cL_adds 13 = .ok (.iconst 4, 1) := by decide +kernel
theorem dL_adds_14 : decode cL_adds 14 = .ok (.if_icmp .ne 7, 3) := by decide +kernel
theorem dL_adds_17 : decode cL_adds 17 = .ok (.iconst 1, 1) := by decide +kernel
theorem dL_adds_18 : decode cL_adds 18 = .ok (.goto 4, 3) := by decide +kernel
theorem dL_adds_21 : decode cL_adds 21 = .ok (.iconst 0, 1) := by decide +kernel
theorem dL_adds_22 : decode cL_adds 22 = .ok (.ireturn, 1) := by decide +kernel
theorem dL_adds_23 : decode cL_adds 23 = .ok (.iconst 1, 1) := by decide +kernel
theorem dL_adds_24 : decode cL_adds 24 = .ok (.iload 4, 2) := by decide +kernel
theorem dL_adds_26 : decode cL_adds 26 = .ok (.bipush 6, 2) := by decide +kernel
theorem dL_adds_28 : decode cL_adds 28 = .ok (.invokestatic 90, 3) := by decide +kernel
theorem dL_adds_31 : decode cL_adds 31 = .ok (.iadd, 1) := by decide +kernel
theorem dL_adds_32 : decode cL_adds 32 = .ok (.istore 5, 2) := by decide +kernel
theorem dL_adds_34 : decode cL_adds 34 = .ok (.iconst 1, 1) := by decide +kernel
theorem dL_adds_35 : decode cL_adds 35 = .ok (.iload 4, 2) := by decide +kernel
theorem dL_adds_37 : decode cL_adds 37 = .ok (.iconst 4, 1) := by decide +kernel
theorem dL_adds_38 : decode cL_adds 38 = .ok (.ishr, 1) := by decide +kernel
theorem dL_adds_39 : decode cL_adds 39 = .ok (.iload 4, 2) := by decide +kernel
theorem dL_adds_41 : decode cL_adds 41 = .ok (.bipush 10, 2) := by decide +kernel
theorem dL_adds_43 : decode cL_adds 43 = .ok (.ishr, 1) := by decide +kernel
theorem dL_adds_44 : decode cL_adds 44 = .ok (.iconst 3, 1) := by decide +kernel
theorem dL_adds_45 : decode cL_adds 45 = .ok (.invokestatic 90, 3) := by decide +kernel
theorem dL_adds_48 : decode cL_adds 48 = .ok (.ifCond .ne 8, 3) := by decide +kernel
theorem dL_adds_51 : decode cL_adds 51 = .ok (.bipush 60, 2) := by decide +kernel
theorem dL_adds_53 : decode cL_adds 53 = .ok (.goto 5, 3) := by decide +kernel
theorem dL_adds_56 : decode cL_adds 56 = .ok (.bipush 9, 2) := by decide +kernel
theorem dL_adds_58 : decode cL_adds 58 = .ok (.invokestatic 90, 3) := by decide +kernel
theorem dL_adds_61 : decode cL_adds 61 = .ok (.iadd, 1) := by decide +kernel
theorem dL_adds_62 : decode cL_adds 62 = .ok (.istore 6, 2) := by decide +kernel
theorem dL_adds_64 : decode cL_adds 64 = .ok (.iconst 0, 1) := by decide +kernel
theorem dL_adds_65 : decode cL_adds 65 = .ok (.istore 7, 2) := by decide +kernel
theorem dL_adds_67 : decode cL_adds 67 = .ok (.iload 7, 2) := by decide +kernel
theorem dL_adds_69 : decode cL_adds 69 = .ok (.bipush 6, 2) := by decide +kernel
theorem dL_adds_71 : decode cL_adds 71 = .ok (.if_icmp .ge 34, 3) := by decide +kernel
theorem dL_adds_74 : decode cL_adds 74 = .ok (.aload_n 1, 1) := by decide +kernel
theorem dL_adds_75 : decode cL_adds 75 = .ok (.bipush 6, 2) := by decide +kernel
theorem dL_adds_77 : decode cL_adds 77 = .ok (.aload_n 3, 1) := by decide +kernel
theorem dL_adds_78 : decode cL_adds 78 = .ok (.bipush 6, 2) := by decide +kernel
theorem dL_adds_80 : decode cL_adds 80 = .ok (.iaload, 1) := by decide +kernel
theorem dL_adds_81 : decode cL_adds 81 = .ok (.imul, 1) := by decide +kernel
theorem dL_adds_82 : decode cL_adds 82 = .ok (.iload 7, 2) := by decide +kernel
theorem dL_adds_84 : decode cL_adds 84 = .ok (.iadd, 1) := by decide +kernel
theorem dL_adds_85 : decode cL_adds 85 = .ok (.iload 7, 2) := by decide +kernel
theorem dL_adds_87 : decode cL_adds 87 = .ok (.iload 5, 2) := by decide +kernel
theorem dL_adds_89 : decode cL_adds 89 = .ok (.if_icmp .ge 8, 3) := by decide +kernel
theorem dL_adds_92 : decode cL_adds 92 = .ok (.iload 6, 2) := by decide +kernel
theorem dL_adds_94 : decode cL_adds 94 = .ok (.goto 4, 3) := by decide +kernel
theorem dL_adds_97 : decode cL_adds 97 = .ok (.iconst 0, 1) := by decide +kernel
theorem dL_adds_98 : decode cL_adds 98 = .ok (.iastore, 1) := by decide +kernel
theorem dL_adds_99 : decode cL_adds 99 = .ok (.iinc 7 1, 3) := by decide +kernel
theorem dL_adds_102 : decode cL_adds 102 = .ok (.goto (-35), 3) := by decide +kernel
theorem dL_adds_105 : decode cL_adds 105 = .ok (.iconst 0, 1) := by decide +kernel
theorem dL_adds_106 : decode cL_adds 106 = .ok (.istore 7, 2) := by decide +kernel
theorem dL_adds_108 : decode cL_adds 108 = .ok (.iload 7, 2) := by decide +kernel
theorem dL_adds_110 : decode cL_adds 110 = .ok (.iconst 5, 1) := by decide +kernel
theorem dL_adds_111 : decode cL_adds 111 = .ok (.if_icmp .ge 31, 3) := by decide +kernel
theorem dL_adds_114 : decode cL_adds 114 = .ok (.aload_n 2, 1) := by decide +kernel
theorem dL_adds_115 : decode cL_adds 115 = .ok (.iconst 5, 1) := by decide +kernel
theorem dL_adds_116 : decode cL_adds 116 = .ok (.aload_n 3, 1) := by decide +kernel
theorem dL_adds_117 : decode cL_adds 117 = .ok (.bipush 6, 2) := by decide +kernel
theorem dL_adds_119 : decode cL_adds 119 = .ok (.iaload, 1) := by decide +kernel
theorem dL_adds_120 : decode cL_adds 120 = .ok (.imul, 1) := by decide +kernel
theorem dL_adds_121 : decode cL_adds 121 = .ok (.iload 7, 2) := by decide +kernel
theorem dL_adds_123 : decode cL_adds 123 = .ok (.iadd, 1) := by decide +kernel
theorem dL_adds_124 : decode cL_adds 124 = .ok (.iload 7, 2) := by decide +kernel
theorem dL_adds_126 : decode cL_adds 126 = .ok (.iconst 4, 1) := by decide +kernel
theorem dL_adds_127 : decode cL_adds 127 = .ok (.if_icmp .ge 7, 3) := by decide +kernel
theorem dL_adds_130 : decode cL_adds 130 = .ok (.iconst 0, 1) := by decide +kernel
theorem dL_adds_131 : decode cL_adds 131 = .ok (.goto 4, 3) := by decide +kernel
theorem dL_adds_134 : decode cL_adds 134 = .ok (.iconst (-1), 1) := by decide +kernel
theorem dL_adds_135 : decode cL_adds 135 = .ok (.iastore, 1) := by decide +kernel
theorem dL_adds_136 : decode cL_adds 136 = .ok (.iinc 7 1, 3) := by decide +kernel
theorem dL_adds_139 : decode cL_adds 139 = .ok (.goto (-31), 3) := by decide +kernel
theorem dL_adds_142 : decode cL_adds 142 = .ok (.aload_n 3, 1) := by decide +kernel
theorem dL_adds_143 : decode cL_adds 143 = .ok (.bipush 6, 2) := by decide +kernel
theorem dL_adds_145 : decode cL_adds 145 = .ok (.dup2, 1) := by decide +kernel
theorem dL_adds_146 : decode cL_adds 146 = .ok (.iaload, 1) := by decide +kernel
theorem dL_adds_147 : decode cL_adds 147 = .ok (.iconst 1, 1) := by decide +kernel
theorem dL_adds_148 : decode cL_adds 148 = .ok (.iadd, 1) := by decide +kernel
theorem dL_adds_149 : decode cL_adds 149 = .ok (.iastore, 1) := by decide +kernel
theorem dL_adds_150 : decode cL_adds 150 = .ok (.aload_n 0, 1) := by decide +kernel
theorem dL_adds_151 : decode cL_adds 151 = .ok (.iload 5, 2) := by decide +kernel
theorem dL_adds_153 : decode cL_adds 153 = .ok (.iload 6, 2) := by decide +kernel
theorem dL_adds_155 : decode cL_adds 155 = .ok (.invokevirtual 93, 3) := by decide +kernel
theorem dL_adds_158 : decode cL_adds 158 = .ok (.aload_n 3, 1) := by decide +kernel
theorem dL_adds_159 : decode cL_adds 159 = .ok (.bipush 6, 2) := by decide +kernel
theorem dL_adds_161 : decode cL_adds 161 = .ok (.iaload, 1) := by decide +kernel
theorem dL_adds_162 : decode cL_adds 162 = .ok (.iconst 1, 1) := by decide +kernel
theorem dL_adds_163 : decode cL_adds 163 = .ok (.isub, 1) := by decide +kernel
theorem dL_adds_164 : decode cL_adds 164 = .ok (.if_icmp .ne 7, 3) := by decide +kernel
theorem dL_adds_167 : decode cL_adds 167 = .ok (.iconst 1, 1) := by decide +kernel
theorem dL_adds_168 : decode cL_adds 168 = .ok (.goto 4, 3) := by decide +kernel
theorem dL_adds_171 : decode cL_adds 171 = .ok (.iconst 0, 1) := by decide +kernel
theorem dL_adds_172 : decode cL_adds 172 = .ok (.ireturn, 1) := by decide +kernel
