/-! the law's words and instructions (out of a short program) -/
set_option maxRecDepth 20000 in
theorem ggL_arePlans_L_time : GoodIn wsL_arePlans wsL_time := goodIn_r _ [5] (by decide +kernel) (by decide +kernel)
set_option maxRecDepth 20000 in
theorem gL_arePlans_L_time : GoodIn wsL_arePlans (va_wsS RL 9 yL_time wsL_time) := goodIn_app (goodIn_of _ (by decide +kernel)) ggL_arePlans_L_time
set_option maxRecDepth 20000 in
theorem ggL_arePlans_L_plan : GoodIn wsL_arePlans wsL_plan := goodIn_r _ [8, 1, 9, 10, 4, 11, 12, 13, 14] (by decide +kernel) (by decide +kernel)
set_option maxRecDepth 20000 in
theorem gL_arePlans_L_plan : GoodIn wsL_arePlans (va_wsS RL 80 yL_plan wsL_plan) := goodIn_app (goodIn_of _ (by decide +kernel)) ggL_arePlans_L_plan
set_option maxRecDepth 20000 in
theorem ggL_arePlans_L_fewest : GoodIn wsL_arePlans wsL_fewest := goodIn_r _ [14] (by decide +kernel) (by decide +kernel)
set_option maxRecDepth 20000 in
theorem gL_arePlans_L_fewest : GoodIn wsL_arePlans (va_wsS RL 74 yL_fewest wsL_fewest) := goodIn_app (goodIn_of _ (by decide +kernel)) ggL_arePlans_L_fewest
set_option maxRecDepth 20000 in
theorem ggL_arePlans_X6_tellable : GoodIn wsL_arePlans wsX6_tellable := goodIn_ca (goodIn_r _ [19, 20, 21, 22, 23, 24, 25, 18, 26, 27, 28, 29, 30, 31, 32, 33, 34, 35, 36, 37, 38, 39, 40, 41, 42, 43, 44, 45, 46, 47, 48, 49, 50, 51, 52, 53, 54, 55, 56, 57, 58, 59, 60, 61, 62, 63, 64, 65, 66, 67, 68, 69, 70, 71, 72, 73, 74, 75, 76, 77, 78, 79, 80, 81, 82, 83, 84, 85, 86, 87, 88, 89, 90, 91, 92, 93, 94, 95, 96, 105, 106, 107, 108, 109, 110, 111, 112, 113, 114, 115, 116, 117, 118, 119, 120, 121, 122, 123, 124, 125, 126, 127, 128, 129, 130, 131, 132, 133, 134, 135, 136] (by decide +kernel) (by decide +kernel)) (goodIn_sub (fun _ h => List.mem_cons_of_mem _ (List.mem_append_right _ h)) (by decide +kernel))
set_option maxRecDepth 20000 in
theorem gL_arePlans_X6_tellable : GoodIn wsL_arePlans (wsV RL 84 RX6 yX6_tellable wsX6_tellable) := goodIn_app (goodIn_of _ (by decide +kernel)) ggL_arePlans_X6_tellable
set_option maxRecDepth 20000 in
theorem ggL_arePlans_X6_fewestFlames : GoodIn wsL_arePlans wsX6_fewestFlames := goodIn_ca (goodIn_r _ [100, 20, 21, 22, 23, 24, 25, 18, 26, 27, 28, 29, 30, 31, 32, 33, 34, 35, 36, 37, 38, 39, 40, 41, 42, 43, 44, 45, 46, 47, 48, 49, 50, 51, 52, 53, 54, 55, 56, 57, 58, 59, 60, 61, 62, 63, 64, 65, 66, 67, 68, 69, 70, 71, 72, 73, 74, 75, 76, 77, 78, 79, 80, 81, 82, 83, 84, 85, 86, 87, 88, 105, 106, 107, 108, 109, 110, 111, 112, 113, 133, 134, 135, 136, 114, 115, 116, 117, 118, 119, 120, 121, 122, 123, 124, 125, 126, 127, 128, 129, 130, 131, 132] (by decide +kernel) (by decide +kernel)) (goodIn_sub (fun _ h => List.mem_cons_of_mem _ (List.mem_append_right _ h)) (by decide +kernel))
set_option maxRecDepth 20000 in
theorem gL_arePlans_X6_fewestFlames : GoodIn wsL_arePlans (wsV RL 87 RX6 yX6_fewestFlames wsX6_fewestFlames) := goodIn_app (goodIn_of _ (by decide +kernel)) ggL_arePlans_X6_fewestFlames
set_option maxRecDepth 20000 in
theorem ggL_arePlans_L_low : GoodIn wsL_arePlans wsL_low := goodIn_r _ [103, 104] (by decide +kernel) (by decide +kernel)
set_option maxRecDepth 20000 in
theorem gL_arePlans_L_low : GoodIn wsL_arePlans (va_wsS RL 90 yL_low wsL_low) := goodIn_app (goodIn_of _ (by decide +kernel)) ggL_arePlans_L_low
theorem dL_arePlans_0 : decode cL_arePlans 0 = .ok (.iconst 3, 1) := by decide +kernel
theorem dL_arePlans_1 : decode cL_arePlans 1 = .ok (.newarray .int, 2) := by decide +kernel
theorem dL_arePlans_3 : decode cL_arePlans 3 = .ok (.astore 5, 2) := by decide +kernel
theorem dL_arePlans_5 : decode cL_arePlans 5 = .ok (.iconst 0, 1) := by decide +kernel
theorem dL_arePlans_6 : decode cL_arePlans 6 = .ok (.istore 6, 2) := by decide +kernel
theorem dL_arePlans_8 : decode cL_arePlans 8 = .ok (.iconst 0, 1) := by decide +kernel
theorem dL_arePlans_9 : decode cL_arePlans 9 = .ok (.istore 7, 2) := by decide +kernel
theorem dL_arePlans_11 : decode cL_arePlans 11 = .ok (.iload 7, 2) := by decide +kernel
theorem dL_arePlans_13 : decode cL_arePlans 13 = .ok (.aload_n 2, 1) := by decide +kernel
theorem dL_arePlans_14 : decode cL_arePlans 14 = .ok (.bipush 6, 2) := by decide +kernel
theorem dL_arePlans_16 : decode cL_arePlans 16 = .ok (.iaload, 1) := by decide +kernel
theorem dL_arePlans_17 : decode cL_arePlans 17 = .ok (.if_icmp .ge 33, 3) := by decide +kernel
theorem dL_arePlans_20 : decode cL_arePlans 20 = .ok (.iload_n 3, 1) := by decide +kernel
theorem dL_arePlans_21 : decode cL_arePlans 21 = .ok (.iload 7, 2) := by decide +kernel
theorem dL_arePlans_23 : decode cL_arePlans 23 = .ok (.ishr, 1) := by decide +kernel
theorem dL_arePlans_24 : decode cL_arePlans 24 = .ok (.iconst 1, 1) := by decide +kernel
theorem dL_arePlans_25 : decode cL_arePlans 25 = .ok (.iand, 1) := by decide +kernel
theorem dL_arePlans_26 : decode cL_arePlans 26 = .ok (.iconst 1, 1) := by decide +kernel
theorem dL_arePlans_27 : decode cL_arePlans 27 = .ok (.if_icmp .ne 17, 3) := by decide +kernel
theorem dL_arePlans_30 : decode cL_arePlans 30 = .ok (.aload 5, 2) := by decide +kernel
theorem dL_arePlans_32 : decode cL_arePlans 32 = .ok (.iload 6, 2) := by decide +kernel
theorem dL_arePlans_34 : decode cL_arePlans 34 = .ok (.aload_n 1, 1) := by decide +kernel
theorem dL_arePlans_35 : decode cL_arePlans 35 = .ok (.iload 7, 2) := by decide +kernel
theorem dL_arePlans_37 : decode cL_arePlans 37 = .ok (.invokestatic 9, 3) := by decide +kernel
theorem dL_arePlans_40 : decode cL_arePlans 40 = .ok (.iastore, 1) := by decide +kernel
theorem dL_arePlans_41 : decode cL_arePlans 41 = .ok (.iinc 6 1, 3) := by decide +kernel
theorem dL_arePlans_44 : decode cL_arePlans 44 = .ok (.iinc 7 1, 3) := by decide +kernel
theorem dL_arePlans_47 : decode cL_arePlans 47 = .ok (.goto (-36), 3) := by decide +kernel
theorem dL_arePlans_50 : decode cL_arePlans 50 = .ok (.bipush 55, 2) := by decide +kernel
theorem dL_arePlans_52 : decode cL_arePlans 52 = .ok (.newarray .int, 2) := by decide +kernel
theorem dL_arePlans_54 : decode cL_arePlans 54 = .ok (.astore 7, 2) := by decide +kernel
theorem dL_arePlans_56 : decode cL_arePlans 56 = .ok (.bipush 55, 2) := by decide +kernel
theorem dL_arePlans_58 : decode cL_arePlans 58 = .ok (.newarray .int, 2) := by decide +kernel
theorem dL_arePlans_60 : decode cL_arePlans 60 = .ok (.astore 8, 2) := by decide +kernel
theorem dL_arePlans_62 : decode cL_arePlans 62 = .ok (.iconst 0, 1) := by decide +kernel
theorem dL_arePlans_63 : decode cL_arePlans 63 = .ok (.istore 9, 2) := by decide +kernel
theorem dL_arePlans_65 : decode cL_arePlans 65 = .ok (.iload 9, 2) := by decide +kernel
theorem dL_arePlans_67 : decode cL_arePlans 67 = .ok (.sipush 4096, 3) := by decide +kernel
theorem dL_arePlans_70 : decode cL_arePlans 70 = .ok (.if_icmp .ge 88, 3) := by decide +kernel
theorem dL_arePlans_73 : decode cL_arePlans 73 = .ok (.iload 9, 2) := by decide +kernel
theorem dL_arePlans_75 : decode cL_arePlans 75 = .ok (.iconst 3, 1) := by decide +kernel
theorem dL_arePlans_76 : decode cL_arePlans 76 = .ok (.iand, 1) := by decide +kernel
theorem dL_arePlans_77 : decode cL_arePlans 77 = .ok (.iload 9, 2) := by decide +kernel
theorem dL_arePlans_79 : decode cL_arePlans 79 = .ok (.iconst 2, 1) := by decide +kernel
theorem dL_arePlans_80 : decode cL_arePlans 80 = .ok (.ishr, 1) := by decide +kernel
theorem dL_arePlans_81 : decode cL_arePlans 81 = .ok (.iconst 3, 1) := by decide +kernel
theorem dL_arePlans_82 : decode cL_arePlans 82 = .ok (.iand, 1) := by decide +kernel
theorem dL_arePlans_83 : decode cL_arePlans 83 = .ok (.if_icmp .gt 40, 3) := by decide +kernel
theorem dL_arePlans_86 : decode cL_arePlans 86 = .ok (.iload 9, 2) := by decide +kernel
theorem dL_arePlans_88 : decode cL_arePlans 88 = .ok (.iconst 4, 1) := by decide +kernel
theorem dL_arePlans_89 : decode cL_arePlans 89 = .ok (.ishr, 1) := by decide +kernel
theorem dL_arePlans_90 : decode cL_arePlans 90 = .ok (.iconst 3, 1) := by decide +kernel
theorem dL_arePlans_91 : decode cL_arePlans 91 = .ok (.iand, 1) := by decide +kernel
theorem dL_arePlans_92 : decode cL_arePlans 92 = .ok (.iload 9, 2) := by decide +kernel
theorem dL_arePlans_94 : decode cL_arePlans 94 = .ok (.bipush 6, 2) := by decide +kernel
theorem dL_arePlans_96 : decode cL_arePlans 96 = .ok (.ishr, 1) := by decide +kernel
theorem dL_arePlans_97 : decode cL_arePlans 97 = .ok (.iconst 3, 1) := by decide +kernel
theorem dL_arePlans_98 : decode cL_arePlans 98 = .ok (.iand, 1) := by decide +kernel
theorem dL_arePlans_99 : decode cL_arePlans 99 = .ok (.if_icmp .gt 24, 3) := by decide +kernel
theorem dL_arePlans_102 : decode cL_arePlans 102 = .ok (.iload 9, 2) := by decide +kernel
theorem dL_arePlans_104 : decode cL_arePlans 104 = .ok (.bipush 8, 2) := by decide +kernel
theorem dL_arePlans_106 : decode cL_arePlans 106 = .ok (.ishr, 1) := by decide +kernel
theorem dL_arePlans_107 : decode cL_arePlans 107 = .ok (.iconst 3, 1) := by decide +kernel
theorem dL_arePlans_108 : decode cL_arePlans 108 = .ok (.iand, 1) := by decide +kernel
theorem dL_arePlans_109 : decode cL_arePlans 109 = .ok (.iload 9, 2) := by decide +kernel
theorem dL_arePlans_111 : decode cL_arePlans 111 = .ok (.bipush 10, 2) := by decide +kernel
theorem dL_arePlans_113 : decode cL_arePlans 113 = .ok (.ishr, 1) := by decide +kernel
theorem dL_arePlans_114 : decode cL_arePlans 114 = .ok (.iconst 3, 1) := by decide +kernel
theorem dL_arePlans_115 : decode cL_arePlans 115 = .ok (.iand, 1) := by decide +kernel
theorem dL_arePlans_116 : decode cL_arePlans 116 = .ok (.if_icmp .gt 7, 3) := by decide +kernel
theorem dL_arePlans_119 : decode cL_arePlans 119 = .ok (.iconst 1, 1) := by decide +kernel
theorem dL_arePlans_120 : decode cL_arePlans 120 = .ok (.goto 4, 3) := by decide +kernel
theorem dL_arePlans_123 : decode cL_arePlans 123 = .ok (.iconst 0, 1) := by decide +kernel
theorem dL_arePlans_124 : decode cL_arePlans 124 = .ok (.istore 10, 2) := by decide +kernel
theorem dL_arePlans_126 : decode cL_arePlans 126 = .ok (.iload 10, 2) := by decide +kernel
theorem dL_arePlans_128 : decode cL_arePlans 128 = .ok (.ifCond .eq 24, 3) := by decide +kernel
theorem dL_arePlans_131 : decode cL_arePlans 131 = .ok (.aload 5, 2) := by decide +kernel
theorem dL_arePlans_133 : decode cL_arePlans 133 = .ok (.iconst 0, 1) := by decide +kernel
theorem dL_arePlans_134 : decode cL_arePlans 134 = .ok (.iaload, 1) := by decide +kernel
theorem dL_arePlans_135 : decode cL_arePlans 135 = .ok (.aload 5, 2) := by decide +kernel
theorem dL_arePlans_137 : decode cL_arePlans 137 = .ok (.iconst 1, 1) := by decide +kernel
theorem dL_arePlans_138 : decode cL_arePlans 138 = .ok (.iaload, 1) := by decide +kernel
theorem dL_arePlans_139 : decode cL_arePlans 139 = .ok (.aload 5, 2) := by decide +kernel
theorem dL_arePlans_141 : decode cL_arePlans 141 = .ok (.iconst 2, 1) := by decide +kernel
theorem dL_arePlans_142 : decode cL_arePlans 142 = .ok (.iaload, 1) := by decide +kernel
theorem dL_arePlans_143 : decode cL_arePlans 143 = .ok (.iload 9, 2) := by decide +kernel
theorem dL_arePlans_145 : decode cL_arePlans 145 = .ok (.aload 7, 2) := by decide +kernel
theorem dL_arePlans_147 : decode cL_arePlans 147 = .ok (.aload 8, 2) := by decide +kernel
theorem dL_arePlans_149 : decode cL_arePlans 149 = .ok (.invokestatic 80, 3) := by decide +kernel
theorem dL_arePlans_152 : decode cL_arePlans 152 = .ok (.iinc 9 1, 3) := by decide +kernel
theorem dL_arePlans_155 : decode cL_arePlans 155 = .ok (.goto (-90), 3) := by decide +kernel
theorem dL_arePlans_158 : decode cL_arePlans 158 = .ok (.iconst 0, 1) := by decide +kernel
theorem dL_arePlans_159 : decode cL_arePlans 159 = .ok (.istore 9, 2) := by decide +kernel
theorem dL_arePlans_161 : decode cL_arePlans 161 = .ok (.iconst 1, 1) := by decide +kernel
theorem dL_arePlans_162 : decode cL_arePlans 162 = .ok (.istore 10, 2) := by decide +kernel
theorem dL_arePlans_164 : decode cL_arePlans 164 = .ok (.iconst 1, 1) := by decide +kernel
theorem dL_arePlans_165 : decode cL_arePlans 165 = .ok (.istore 11, 2) := by decide +kernel
theorem dL_arePlans_167 : decode cL_arePlans 167 = .ok (.iload 11, 2) := by decide +kernel
theorem dL_arePlans_169 : decode cL_arePlans 169 = .ok (.sipush 1080, 3) := by decide +kernel
theorem dL_arePlans_172 : decode cL_arePlans 172 = .ok (.if_icmp .gt 80, 3) := by decide +kernel
theorem dL_arePlans_175 : decode cL_arePlans 175 = .ok (.aload 7, 2) := by decide +kernel
theorem dL_arePlans_177 : decode cL_arePlans 177 = .ok (.aload 8, 2) := by decide +kernel
theorem dL_arePlans_179 : decode cL_arePlans 179 = .ok (.iload 11, 2) := by decide +kernel
theorem dL_arePlans_181 : decode cL_arePlans 181 = .ok (.invokestatic 74, 3) := by decide +kernel
theorem dL_arePlans_184 : decode cL_arePlans 184 = .ok (.ifCond .le 62, 3) := by decide +kernel
theorem dL_arePlans_187 : decode cL_arePlans 187 = .ok (.iload 10, 2) := by decide +kernel
theorem dL_arePlans_189 : decode cL_arePlans 189 = .ok (.ifCond .eq 51, 3) := by decide +kernel
theorem dL_arePlans_192 : decode cL_arePlans 192 = .ok (.iload 9, 2) := by decide +kernel
theorem dL_arePlans_194 : decode cL_arePlans 194 = .ok (.bipush 7, 2) := by decide +kernel
theorem dL_arePlans_196 : decode cL_arePlans 196 = .ok (.irem, 1) := by decide +kernel
theorem dL_arePlans_197 : decode cL_arePlans 197 = .ok (.iload 4, 2) := by decide +kernel
theorem dL_arePlans_199 : decode cL_arePlans 199 = .ok (.bipush 7, 2) := by decide +kernel
theorem dL_arePlans_201 : decode cL_arePlans 201 = .ok (.irem, 1) := by decide +kernel
theorem dL_arePlans_202 : decode cL_arePlans 202 = .ok (.if_icmp .ne 34, 3) := by decide +kernel
theorem dL_arePlans_205 : decode cL_arePlans 205 = .ok (.aload_n 0, 1) := by decide +kernel
theorem dL_arePlans_206 : decode cL_arePlans 206 = .ok (.iload_n 3, 1) := by decide +kernel
theorem dL_arePlans_207 : decode cL_arePlans 207 = .ok (.iload 9, 2) := by decide +kernel
theorem dL_arePlans_209 : decode cL_arePlans 209 = .ok (.invokevirtual 84, 3) := by decide +kernel
theorem dL_arePlans_212 : decode cL_arePlans 212 = .ok (.iload 11, 2) := by decide +kernel
theorem dL_arePlans_214 : decode cL_arePlans 214 = .ok (.if_icmp .ne 26, 3) := by decide +kernel
theorem dL_arePlans_217 : decode cL_arePlans 217 = .ok (.aload_n 0, 1) := by decide +kernel
theorem dL_arePlans_218 : decode cL_arePlans 218 = .ok (.iload_n 3, 1) := by decide +kernel
theorem dL_arePlans_219 : decode cL_arePlans 219 = .ok (.iload 11, 2) := by decide +kernel
theorem dL_arePlans_221 : decode cL_arePlans 221 = .ok (.invokevirtual 87, 3) := by decide +kernel
theorem dL_arePlans_224 : decode cL_arePlans 224 = .ok (.aload 7, 2) := by decide +kernel
theorem dL_arePlans_226 : decode cL_arePlans 226 = .ok (.aload 8, 2) := by decide +kernel
theorem dL_arePlans_228 : decode cL_arePlans 228 = .ok (.iload 11, 2) := by decide +kernel
theorem dL_arePlans_230 : decode cL_arePlans 230 = .ok (.invokestatic 74, 3) := by decide +kernel
theorem dL_arePlans_233 : decode cL_arePlans 233 = .ok (.if_icmp .ne 7, 3) := by decide +kernel
theorem dL_arePlans_236 : decode cL_arePlans 236 = .ok (.iconst 1, 1) := by decide +kernel
theorem dL_arePlans_237 : decode cL_arePlans 237 = .ok (.goto 4, 3) := by decide +kernel
theorem dL_arePlans_240 : decode cL_arePlans 240 = .ok (.iconst 0, 1) := by decide +kernel
theorem dL_arePlans_241 : decode cL_arePlans 241 = .ok (.istore 10, 2) := by decide +kernel
theorem dL_arePlans_243 : decode cL_arePlans 243 = .ok (.iinc 9 1, 3) := by decide +kernel
theorem dL_arePlans_246 : decode cL_arePlans 246 = .ok (.iinc 11 1, 3) := by decide +kernel
theorem dL_arePlans_249 : decode cL_arePlans 249 = .ok (.goto (-82), 3) := by decide +kernel
theorem dL_arePlans_252 : decode cL_arePlans 252 = .ok (.iconst 1, 1) := by decide +kernel
theorem dL_arePlans_253 : decode cL_arePlans 253 = .ok (.iload 4, 2) := by decide +kernel
theorem dL_arePlans_255 : decode cL_arePlans 255 = .ok (.iconst 3, 1) := by decide +kernel
theorem dL_arePlans_256 : decode cL_arePlans 256 = .ok (.ishr, 1) := by decide +kernel
theorem dL_arePlans_257 : decode cL_arePlans 257 = .ok (.sipush 200, 3) := by decide +kernel
theorem dL_arePlans_260 : decode cL_arePlans 260 = .ok (.invokestatic 90, 3) := by decide +kernel
theorem dL_arePlans_263 : decode cL_arePlans 263 = .ok (.iadd, 1) := by decide +kernel
theorem dL_arePlans_264 : decode cL_arePlans 264 = .ok (.istore 11, 2) := by decide +kernel
theorem dL_arePlans_266 : decode cL_arePlans 266 = .ok (.iload 10, 2) := by decide +kernel
theorem dL_arePlans_268 : decode cL_arePlans 268 = .ok (.ifCond .eq 64, 3) := by decide +kernel
theorem dL_arePlans_271 : decode cL_arePlans 271 = .ok (.aload_n 0, 1) := by decide +kernel
theorem dL_arePlans_272 : decode cL_arePlans 272 = .ok (.iload_n 3, 1) := by decide +kernel
theorem dL_arePlans_273 : decode cL_arePlans 273 = .ok (.iconst (-1), 1) := by decide +kernel
theorem dL_arePlans_274 : decode cL_arePlans 274 = .ok (.invokevirtual 84, 3) := by decide +kernel
theorem dL_arePlans_277 : decode cL_arePlans 277 = .ok (.iload 9, 2) := by decide +kernel
theorem dL_arePlans_279 : decode cL_arePlans 279 = .ok (.if_icmp .ne 53, 3) := by decide +kernel
theorem dL_arePlans_282 : decode cL_arePlans 282 = .ok (.aload_n 0, 1) := by decide +kernel
theorem dL_arePlans_283 : decode cL_arePlans 283 = .ok (.iload_n 3, 1) := by decide +kernel
theorem dL_arePlans_284 : decode cL_arePlans 284 = .ok (.iload 9, 2) := by decide +kernel
theorem dL_arePlans_286 : decode cL_arePlans 286 = .ok (.invokevirtual 84, 3) := by decide +kernel
theorem dL_arePlans_289 : decode cL_arePlans 289 = .ok (.iconst (-1), 1) := by decide +kernel
theorem dL_arePlans_290 : decode cL_arePlans 290 = .ok (.if_icmp .ne 42, 3) := by decide +kernel
theorem dL_arePlans_293 : decode cL_arePlans 293 = .ok (.aload_n 0, 1) := by decide +kernel
theorem dL_arePlans_294 : decode cL_arePlans 294 = .ok (.iload_n 3, 1) := by decide +kernel
theorem dL_arePlans_295 : decode cL_arePlans 295 = .ok (.iload 11, 2) := by decide +kernel
theorem dL_arePlans_297 : decode cL_arePlans 297 = .ok (.invokevirtual 87, 3) := by decide +kernel
theorem dL_arePlans_300 : decode cL_arePlans 300 = .ok (.aload 7, 2) := by decide +kernel
theorem dL_arePlans_302 : decode cL_arePlans 302 = .ok (.aload 8, 2) := by decide +kernel
theorem dL_arePlans_304 : decode cL_arePlans 304 = .ok (.iload 11, 2) := by decide +kernel
theorem dL_arePlans_306 : decode cL_arePlans 306 = .ok (.invokestatic 74, 3) := by decide +kernel
theorem dL_arePlans_309 : decode cL_arePlans 309 = .ok (.ifCond .ne 7, 3) := by decide +kernel
theorem dL_arePlans_312 : decode cL_arePlans 312 = .ok (.iconst (-1), 1) := by decide +kernel
theorem dL_arePlans_313 : decode cL_arePlans 313 = .ok (.goto 12, 3) := by decide +kernel
theorem dL_arePlans_316 : decode cL_arePlans 316 = .ok (.aload 7, 2) := by decide +kernel
theorem dL_arePlans_318 : decode cL_arePlans 318 = .ok (.aload 8, 2) := by decide +kernel
theorem dL_arePlans_320 : decode cL_arePlans 320 = .ok (.iload 11, 2) := by decide +kernel
theorem dL_arePlans_322 : decode cL_arePlans 322 = .ok (.invokestatic 74, 3) := by decide +kernel
theorem dL_arePlans_325 : decode cL_arePlans 325 = .ok (.if_icmp .ne 7, 3) := by decide +kernel
theorem dL_arePlans_328 : decode cL_arePlans 328 = .ok (.iconst 1, 1) := by decide +kernel
theorem dL_arePlans_329 : decode cL_arePlans 329 = .ok (.goto 4, 3) := by decide +kernel
theorem dL_arePlans_332 : decode cL_arePlans 332 = .ok (.iconst 0, 1) := by decide +kernel
theorem dL_arePlans_333 : decode cL_arePlans 333 = .ok (.ireturn, 1) := by decide +kernel
