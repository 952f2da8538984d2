/-! the law's words and instructions (out of a short program) -/
set_option maxRecDepth 20000 in
theorem ggL_isBook_X6_count : GoodIn wsL_isBook wsX6_count := goodIn_ca (goodIn_r _ [6, 7, 8, 9, 10, 11, 12, 13, 14, 15, 16, 17, 18, 19, 20, 21, 22, 23, 24, 25, 26, 27, 28, 29, 30, 31, 32, 33, 34, 35, 36, 290, 291, 292, 293, 294, 295, 296, 297, 298, 299, 300, 301, 302, 303, 304, 305, 306, 307, 308, 309, 310, 311, 312, 313, 314, 315, 316, 317, 318, 319, 320, 321, 322, 323, 324, 325, 326, 327, 328, 329, 330, 331, 332] (by decide +kernel) (by decide +kernel)) (goodIn_sub (fun _ h => List.mem_cons_of_mem _ (List.mem_append_left _ (List.mem_append_right _ h))) (by decide +kernel))
set_option maxRecDepth 20000 in
theorem gL_isBook_X6_count : GoodIn wsL_isBook (wsV RL 32 RX6 yX6_count wsX6_count) := goodIn_app (goodIn_of _ (by decide +kernel)) ggL_isBook_X6_count
set_option maxRecDepth 20000 in
theorem ggL_isBook_X6_entry : GoodIn wsL_isBook wsX6_entry := goodIn_ca (goodIn_r _ [40, 7, 8, 9, 41, 42, 43, 44, 45, 46, 47, 48, 49, 50, 51, 52, 53, 54, 55, 56, 57, 58, 59, 60, 61, 62, 63, 64, 65, 66, 67, 68, 69, 70, 71, 72, 73, 74, 75, 76, 77, 78, 79, 80, 81, 82, 83, 84, 85, 86, 87, 88, 89, 90, 91, 92, 93, 94, 95, 96, 97, 98, 99, 100, 101, 102, 103, 104, 105, 106, 107, 108, 109, 110, 111, 112, 113, 114, 115, 116, 117, 118, 119, 120, 121, 122, 123, 124, 125, 126, 127, 128, 129, 130, 131, 132, 133, 134, 135, 136, 137, 138, 139, 140, 141, 142, 143, 144, 145, 146, 147, 148, 149, 150, 151, 152, 153, 154, 155, 156, 157, 158, 159, 160, 161, 162, 163, 164, 165, 166, 167, 168, 169, 170, 171, 172, 173, 174, 175, 176, 177, 178, 179, 180, 181, 182, 183, 184, 185, 186, 187, 188, 189, 190, 191, 192, 193, 194, 195, 196, 197, 198, 199, 200, 201, 202, 203, 204, 205, 206, 207, 208, 209, 210, 211, 212, 213, 214, 215, 216, 217, 218, 219, 220, 221, 222, 223, 224, 225, 226, 227, 228, 229, 230, 231, 232, 233, 234, 235, 236, 237, 238, 239, 240, 241, 242, 243, 244, 245, 246, 247, 248, 249, 250, 251, 252, 253, 254, 255, 256, 257, 258, 259, 260, 261, 262, 263, 264, 265, 266, 267, 268, 269, 270, 271, 272, 273, 274, 275, 276, 277, 278, 279, 280, 281, 282, 283, 290, 291, 292, 293, 294, 295, 296, 297, 298, 299, 300, 301, 302, 303, 304, 305, 306, 307, 308, 309, 310, 311, 312, 313, 314, 333, 334, 335, 336] (by decide +kernel) (by decide +kernel)) (goodIn_sub (fun _ h => List.mem_cons_of_mem _ (List.mem_append_left _ (List.mem_append_right _ h))) (by decide +kernel))
set_option maxRecDepth 20000 in
theorem gL_isBook_X6_entry : GoodIn wsL_isBook (wsV RL 57 RX6 yX6_entry wsX6_entry) := goodIn_app (goodIn_of _ (by decide +kernel)) ggL_isBook_X6_entry
set_option maxRecDepth 20000 in
theorem ggL_isBook_X6_ruleOf : GoodIn wsL_isBook wsX6_ruleOf := goodIn_ca (goodIn_ca (goodIn_r _ [287, 288, 289, 7, 8, 9, 290, 291, 292, 293, 294, 295, 296, 297, 298, 299, 300, 301, 302, 303, 304, 305, 306, 307, 308, 309, 337, 338, 339, 340] (by decide +kernel) (by decide +kernel)) (goodIn_sub (fun _ h => List.mem_cons_of_mem _ (List.mem_append_right _ h)) (by decide +kernel))) (goodIn_sub (fun _ h => List.mem_cons_of_mem _ (List.mem_append_left _ (List.mem_append_right _ h))) (by decide +kernel))
set_option maxRecDepth 20000 in
theorem gL_isBook_X6_ruleOf : GoodIn wsL_isBook (wsV RL 60 RX6 yX6_ruleOf wsX6_ruleOf) := goodIn_app (goodIn_of _ (by decide +kernel)) ggL_isBook_X6_ruleOf
theorem dL_isBook_0 : decode cL_isBook 0 = .ok (.aload_n 0, 1) := by decide +kernel
theorem dL_isBook_1 : decode cL_isBook 1 = .ok (.iconst 2, 1) := by decide +kernel
theorem dL_isBook_2 : decode cL_isBook 2 = .ok (.invokevirtual 32, 3) := by decide +kernel
theorem dL_isBook_5 : decode cL_isBook 5 = .ok (.aload_n 2, 1) := by decide +kernel
theorem dL_isBook_6 : decode cL_isBook 6 = .ok (.bipush 7, 2) := by decide +kernel
theorem dL_isBook_8 : decode cL_isBook 8 = .ok (.iaload, 1) := by decide +kernel
theorem dL_isBook_9 : decode cL_isBook 9 = .ok (.if_icmp .ne 33, 3) := by decide +kernel
theorem dL_isBook_12 : decode cL_isBook 12 = .ok (.aload_n 0, 1) := by decide +kernel
theorem dL_isBook_13 : decode cL_isBook 13 = .ok (.bipush 9, 2) := by decide +kernel
theorem dL_isBook_15 : decode cL_isBook 15 = .ok (.invokevirtual 32, 3) := by decide +kernel
theorem dL_isBook_18 : decode cL_isBook 18 = .ok (.aload_n 2, 1) := by decide +kernel
theorem dL_isBook_19 : decode cL_isBook 19 = .ok (.bipush 8, 2) := by decide +kernel
theorem dL_isBook_21 : decode cL_isBook 21 = .ok (.iaload, 1) := by decide +kernel
theorem dL_isBook_22 : decode cL_isBook 22 = .ok (.if_icmp .ne 20, 3) := by decide +kernel
theorem dL_isBook_25 : decode cL_isBook 25 = .ok (.aload_n 0, 1) := by decide +kernel
theorem dL_isBook_26 : decode cL_isBook 26 = .ok (.aload_n 2, 1) := by decide +kernel
theorem dL_isBook_27 : decode cL_isBook 27 = .ok (.bipush 8, 2) := by decide +kernel
theorem dL_isBook_29 : decode cL_isBook 29 = .ok (.iaload, 1) := by decide +kernel
theorem dL_isBook_30 : decode cL_isBook 30 = .ok (.iconst 0, 1) := by decide +kernel
theorem dL_isBook_31 : decode cL_isBook 31 = .ok (.invokevirtual 57, 3) := by decide +kernel
theorem dL_isBook_34 : decode cL_isBook 34 = .ok (.iconst (-1), 1) := by decide +kernel
theorem dL_isBook_35 : decode cL_isBook 35 = .ok (.if_icmp .ne 7, 3) := by decide +kernel
theorem dL_isBook_38 : decode cL_isBook 38 = .ok (.iconst 1, 1) := by decide +kernel
theorem dL_isBook_39 : decode cL_isBook 39 = .ok (.goto 4, 3) := by decide +kernel
theorem dL_isBook_42 : decode cL_isBook 42 = .ok (.iconst 0, 1) := by decide +kernel
theorem dL_isBook_43 : decode cL_isBook 43 = .ok (.istore 4, 2) := by decide +kernel
theorem dL_isBook_45 : decode cL_isBook 45 = .ok (.iconst 0, 1) := by decide +kernel
theorem dL_isBook_46 : decode cL_isBook 46 = .ok (.istore 5, 2) := by decide +kernel
theorem dL_isBook_48 : decode cL_isBook 48 = .ok (.iload 5, 2) := by decide +kernel
theorem dL_isBook_50 : decode cL_isBook 50 = .ok (.iconst 4, 1) := by decide +kernel
theorem dL_isBook_51 : decode cL_isBook 51 = .ok (.aload_n 2, 1) := by decide +kernel
theorem dL_isBook_52 : decode cL_isBook 52 = .ok (.bipush 7, 2) := by decide +kernel
theorem dL_isBook_54 : decode cL_isBook 54 = .ok (.iaload, 1) := by decide +kernel
theorem dL_isBook_55 : decode cL_isBook 55 = .ok (.imul, 1) := by decide +kernel
theorem dL_isBook_56 : decode cL_isBook 56 = .ok (.if_icmp .ge 57, 3) := by decide +kernel
theorem dL_isBook_59 : decode cL_isBook 59 = .ok (.iload 4, 2) := by decide +kernel
theorem dL_isBook_61 : decode cL_isBook 61 = .ok (.ifCond .eq 43, 3) := by decide +kernel
theorem dL_isBook_64 : decode cL_isBook 64 = .ok (.aload_n 0, 1) := by decide +kernel
theorem dL_isBook_65 : decode cL_isBook 65 = .ok (.iload 5, 2) := by decide +kernel
theorem dL_isBook_67 : decode cL_isBook 67 = .ok (.iconst 4, 1) := by decide +kernel
theorem dL_isBook_68 : decode cL_isBook 68 = .ok (.idiv, 1) := by decide +kernel
theorem dL_isBook_69 : decode cL_isBook 69 = .ok (.iload 5, 2) := by decide +kernel
theorem dL_isBook_71 : decode cL_isBook 71 = .ok (.iconst 4, 1) := by decide +kernel
theorem dL_isBook_72 : decode cL_isBook 72 = .ok (.irem, 1) := by decide +kernel
theorem dL_isBook_73 : decode cL_isBook 73 = .ok (.invokevirtual 60, 3) := by decide +kernel
theorem dL_isBook_76 : decode cL_isBook 76 = .ok (.iload 5, 2) := by decide +kernel
theorem dL_isBook_78 : decode cL_isBook 78 = .ok (.iconst 4, 1) := by decide +kernel
theorem dL_isBook_79 : decode cL_isBook 79 = .ok (.irem, 1) := by decide +kernel
theorem dL_isBook_80 : decode cL_isBook 80 = .ok (.iconst 2, 1) := by decide +kernel
theorem dL_isBook_81 : decode cL_isBook 81 = .ok (.if_icmp .ne 12, 3) := by decide +kernel
theorem dL_isBook_84 : decode cL_isBook 84 = .ok (.iconst 1, 1) := by decide +kernel
theorem dL_isBook_85 : decode cL_isBook 85 = .ok (.aload_n 1, 1) := by decide +kernel
theorem dL_isBook_86 : decode cL_isBook 86 = .ok (.iload 5, 2) := by decide +kernel
theorem dL_isBook_88 : decode cL_isBook 88 = .ok (.iaload, 1) := by decide +kernel
theorem dL_isBook_89 : decode cL_isBook 89 = .ok (.isub, 1) := by decide +kernel
theorem dL_isBook_90 : decode cL_isBook 90 = .ok (.goto 7, 3) := by decide +kernel
theorem dL_isBook_93 : decode cL_isBook 93 = .ok (.aload_n 1, 1) := by decide +kernel
theorem dL_isBook_94 : decode cL_isBook 94 = .ok (.iload 5, 2) := by decide +kernel
theorem dL_isBook_96 : decode cL_isBook 96 = .ok (.iaload, 1) := by decide +kernel
theorem dL_isBook_97 : decode cL_isBook 97 = .ok (.if_icmp .ne 7, 3) := by decide +kernel
theorem dL_isBook_100 : decode cL_isBook 100 = .ok (.iconst 1, 1) := by decide +kernel
theorem dL_isBook_101 : decode cL_isBook 101 = .ok (.goto 4, 3) := by decide +kernel
theorem dL_isBook_104 : decode cL_isBook 104 = .ok (.iconst 0, 1) := by decide +kernel
theorem dL_isBook_105 : decode cL_isBook 105 = .ok (.istore 4, 2) := by decide +kernel
theorem dL_isBook_107 : decode cL_isBook 107 = .ok (.iinc 5 1, 3) := by decide +kernel
theorem dL_isBook_110 : decode cL_isBook 110 = .ok (.goto (-62), 3) := by decide +kernel
theorem dL_isBook_113 : decode cL_isBook 113 = .ok (.iconst 0, 1) := by decide +kernel
theorem dL_isBook_114 : decode cL_isBook 114 = .ok (.istore 5, 2) := by decide +kernel
theorem dL_isBook_116 : decode cL_isBook 116 = .ok (.iload 5, 2) := by decide +kernel
theorem dL_isBook_118 : decode cL_isBook 118 = .ok (.aload_n 2, 1) := by decide +kernel
theorem dL_isBook_119 : decode cL_isBook 119 = .ok (.bipush 8, 2) := by decide +kernel
theorem dL_isBook_121 : decode cL_isBook 121 = .ok (.iaload, 1) := by decide +kernel
theorem dL_isBook_122 : decode cL_isBook 122 = .ok (.if_icmp .ge 319, 3) := by decide +kernel
theorem dL_isBook_125 : decode cL_isBook 125 = .ok (.iload 4, 2) := by decide +kernel
theorem dL_isBook_127 : decode cL_isBook 127 = .ok (.ifCond .eq 314, 3) := by decide +kernel
theorem dL_isBook_130 : decode cL_isBook 130 = .ok (.aload_n 3, 1) := by decide +kernel
theorem dL_isBook_131 : decode cL_isBook 131 = .ok (.iload 5, 2) := by decide +kernel
theorem dL_isBook_133 : decode cL_isBook 133 = .ok (.iaload, 1) := by decide +kernel
theorem dL_isBook_134 : decode cL_isBook 134 = .ok (.ldc 15, 2) := by decide +kernel
theorem dL_isBook_136 : decode cL_isBook 136 = .ok (.idiv, 1) := by decide +kernel
theorem dL_isBook_137 : decode cL_isBook 137 = .ok (.istore 6, 2) := by decide +kernel
theorem dL_isBook_139 : decode cL_isBook 139 = .ok (.aload_n 3, 1) := by decide +kernel
theorem dL_isBook_140 : decode cL_isBook 140 = .ok (.iload 5, 2) := by decide +kernel
theorem dL_isBook_142 : decode cL_isBook 142 = .ok (.iaload, 1) := by decide +kernel
theorem dL_isBook_143 : decode cL_isBook 143 = .ok (.bipush 10, 2) := by decide +kernel
theorem dL_isBook_145 : decode cL_isBook 145 = .ok (.idiv, 1) := by decide +kernel
theorem dL_isBook_146 : decode cL_isBook 146 = .ok (.sipush 10000, 3) := by decide +kernel
theorem dL_isBook_149 : decode cL_isBook 149 = .ok (.irem, 1) := by decide +kernel
theorem dL_isBook_150 : decode cL_isBook 150 = .ok (.istore 7, 2) := by decide +kernel
theorem dL_isBook_152 : decode cL_isBook 152 = .ok (.iload 6, 2) := by decide +kernel
theorem dL_isBook_154 : decode cL_isBook 154 = .ok (.iconst 2, 1) := by decide +kernel
theorem dL_isBook_155 : decode cL_isBook 155 = .ok (.if_icmp .ne 8, 3) := by decide +kernel
theorem dL_isBook_158 : decode cL_isBook 158 = .ok (.bipush 6, 2) := by decide +kernel
theorem dL_isBook_160 : decode cL_isBook 160 = .ok (.goto 5, 3) := by decide +kernel
theorem dL_isBook_163 : decode cL_isBook 163 = .ok (.bipush 8, 2) := by decide +kernel
theorem dL_isBook_165 : decode cL_isBook 165 = .ok (.iload 7, 2) := by decide +kernel
theorem dL_isBook_167 : decode cL_isBook 167 = .ok (.sipush 999, 3) := by decide +kernel
theorem dL_isBook_170 : decode cL_isBook 170 = .ok (.if_icmp .le 7, 3) := by decide +kernel
theorem dL_isBook_173 : decode cL_isBook 173 = .ok (.iconst 4, 1) := by decide +kernel
theorem dL_isBook_174 : decode cL_isBook 174 = .ok (.goto 26, 3) := by decide +kernel
theorem dL_isBook_177 : decode cL_isBook 177 = .ok (.iload 7, 2) := by decide +kernel
theorem dL_isBook_179 : decode cL_isBook 179 = .ok (.bipush 99, 2) := by decide +kernel
theorem dL_isBook_181 : decode cL_isBook 181 = .ok (.if_icmp .le 7, 3) := by decide +kernel
theorem dL_isBook_184 : decode cL_isBook 184 = .ok (.iconst 3, 1) := by decide +kernel
theorem dL_isBook_185 : decode cL_isBook 185 = .ok (.goto 15, 3) := by decide +kernel
theorem dL_isBook_188 : decode cL_isBook 188 = .ok (.iload 7, 2) := by decide +kernel
theorem dL_isBook_190 : decode cL_isBook 190 = .ok (.bipush 9, 2) := by decide +kernel
theorem dL_isBook_192 : decode cL_isBook 192 = .ok (.if_icmp .le 7, 3) := by decide +kernel
theorem dL_isBook_195 : decode cL_isBook 195 = .ok (.iconst 2, 1) := by decide +kernel
theorem dL_isBook_196 : decode cL_isBook 196 = .ok (.goto 4, 3) := by decide +kernel
theorem dL_isBook_199 : decode cL_isBook 199 = .ok (.iconst 1, 1) := by decide +kernel
theorem dL_isBook_200 : decode cL_isBook 200 = .ok (.iadd, 1) := by decide +kernel
theorem dL_isBook_201 : decode cL_isBook 201 = .ok (.istore 8, 2) := by decide +kernel
theorem dL_isBook_203 : decode cL_isBook 203 = .ok (.aload_n 0, 1) := by decide +kernel
theorem dL_isBook_204 : decode cL_isBook 204 = .ok (.iload 5, 2) := by decide +kernel
theorem dL_isBook_206 : decode cL_isBook 206 = .ok (.iload 8, 2) := by decide +kernel
theorem dL_isBook_208 : decode cL_isBook 208 = .ok (.invokevirtual 57, 3) := by decide +kernel
theorem dL_isBook_211 : decode cL_isBook 211 = .ok (.iconst (-1), 1) := by decide +kernel
theorem dL_isBook_212 : decode cL_isBook 212 = .ok (.if_icmp .ne 7, 3) := by decide +kernel
theorem dL_isBook_215 : decode cL_isBook 215 = .ok (.iconst 1, 1) := by decide +kernel
theorem dL_isBook_216 : decode cL_isBook 216 = .ok (.goto 4, 3) := by decide +kernel
theorem dL_isBook_219 : decode cL_isBook 219 = .ok (.iconst 0, 1) := by decide +kernel
theorem dL_isBook_220 : decode cL_isBook 220 = .ok (.istore 4, 2) := by decide +kernel
theorem dL_isBook_222 : decode cL_isBook 222 = .ok (.iload 8, 2) := by decide +kernel
theorem dL_isBook_224 : decode cL_isBook 224 = .ok (.iconst 1, 1) := by decide +kernel
theorem dL_isBook_225 : decode cL_isBook 225 = .ok (.isub, 1) := by decide +kernel
theorem dL_isBook_226 : decode cL_isBook 226 = .ok (.istore 9, 2) := by decide +kernel
theorem dL_isBook_228 : decode cL_isBook 228 = .ok (.iload 4, 2) := by decide +kernel
theorem dL_isBook_230 : decode cL_isBook 230 = .ok (.ifCond .eq 26, 3) := by decide +kernel
theorem dL_isBook_233 : decode cL_isBook 233 = .ok (.aload_n 0, 1) := by decide +kernel
theorem dL_isBook_234 : decode cL_isBook 234 = .ok (.iload 5, 2) := by decide +kernel
theorem dL_isBook_236 : decode cL_isBook 236 = .ok (.iload 9, 2) := by decide +kernel
theorem dL_isBook_238 : decode cL_isBook 238 = .ok (.invokevirtual 57, 3) := by decide +kernel
theorem dL_isBook_241 : decode cL_isBook 241 = .ok (.bipush 48, 2) := by decide +kernel
theorem dL_isBook_243 : decode cL_isBook 243 = .ok (.iload 7, 2) := by decide +kernel
theorem dL_isBook_245 : decode cL_isBook 245 = .ok (.bipush 10, 2) := by decide +kernel
theorem dL_isBook_247 : decode cL_isBook 247 = .ok (.irem, 1) := by decide +kernel
theorem dL_isBook_248 : decode cL_isBook 248 = .ok (.iadd, 1) := by decide +kernel
theorem dL_isBook_249 : decode cL_isBook 249 = .ok (.if_icmp .ne 7, 3) := by decide +kernel
theorem dL_isBook_252 : decode cL_isBook 252 = .ok (.iconst 1, 1) := by decide +kernel
theorem dL_isBook_253 : decode cL_isBook 253 = .ok (.goto 4, 3) := by decide +kernel
theorem dL_isBook_256 : decode cL_isBook 256 = .ok (.iconst 0, 1) := by decide +kernel
theorem dL_isBook_257 : decode cL_isBook 257 = .ok (.istore 4, 2) := by decide +kernel
theorem dL_isBook_259 : decode cL_isBook 259 = .ok (.iload 7, 2) := by decide +kernel
theorem dL_isBook_261 : decode cL_isBook 261 = .ok (.bipush 10, 2) := by decide +kernel
theorem dL_isBook_263 : decode cL_isBook 263 = .ok (.idiv, 1) := by decide +kernel
theorem dL_isBook_264 : decode cL_isBook 264 = .ok (.istore 7, 2) := by decide +kernel
theorem dL_isBook_266 : decode cL_isBook 266 = .ok (.iinc 9 (-1), 3) := by decide +kernel
theorem dL_isBook_269 : decode cL_isBook 269 = .ok (.iload 7, 2) := by decide +kernel
theorem dL_isBook_271 : decode cL_isBook 271 = .ok (.ifCond .gt (-43), 3) := by decide +kernel
theorem dL_isBook_274 : decode cL_isBook 274 = .ok (.iload 4, 2) := by decide +kernel
theorem dL_isBook_276 : decode cL_isBook 276 = .ok (.ifCond .eq 156, 3) := by decide +kernel
theorem dL_isBook_279 : decode cL_isBook 279 = .ok (.aload_n 0, 1) := by decide +kernel
theorem dL_isBook_280 : decode cL_isBook 280 = .ok (.iload 5, 2) := by decide +kernel
theorem dL_isBook_282 : decode cL_isBook 282 = .ok (.iload 9, 2) := by decide +kernel
theorem dL_isBook_284 : decode cL_isBook 284 = .ok (.invokevirtual 57, 3) := by decide +kernel
theorem dL_isBook_287 : decode cL_isBook 287 = .ok (.bipush 64, 2) := by decide +kernel
theorem dL_isBook_289 : decode cL_isBook 289 = .ok (.if_icmp .ne 143, 3) := by decide +kernel
theorem dL_isBook_292 : decode cL_isBook 292 = .ok (.aload_n 0, 1) := by decide +kernel
theorem dL_isBook_293 : decode cL_isBook 293 = .ok (.iload 5, 2) := by decide +kernel
theorem dL_isBook_295 : decode cL_isBook 295 = .ok (.iload 9, 2) := by decide +kernel
theorem dL_isBook_297 : decode cL_isBook 297 = .ok (.iconst 1, 1) := by decide +kernel
theorem dL_isBook_298 : decode cL_isBook 298 = .ok (.isub, 1) := by decide +kernel
theorem dL_isBook_299 : decode cL_isBook 299 = .ok (.invokevirtual 57, 3) := by decide +kernel
theorem dL_isBook_302 : decode cL_isBook 302 = .ok (.bipush 48, 2) := by decide +kernel
theorem dL_isBook_304 : decode cL_isBook 304 = .ok (.aload_n 3, 1) := by decide +kernel
theorem dL_isBook_305 : decode cL_isBook 305 = .ok (.iload 5, 2) := by decide +kernel
theorem dL_isBook_307 : decode cL_isBook 307 = .ok (.iaload, 1) := by decide +kernel
theorem dL_isBook_308 : decode cL_isBook 308 = .ok (.bipush 10, 2) := by decide +kernel
theorem dL_isBook_310 : decode cL_isBook 310 = .ok (.irem, 1) := by decide +kernel
theorem dL_isBook_311 : decode cL_isBook 311 = .ok (.iadd, 1) := by decide +kernel
theorem dL_isBook_312 : decode cL_isBook 312 = .ok (.if_icmp .ne 120, 3) := by decide +kernel
theorem dL_isBook_315 : decode cL_isBook 315 = .ok (.aload_n 0, 1) := by decide +kernel
theorem dL_isBook_316 : decode cL_isBook 316 = .ok (.iload 5, 2) := by decide +kernel
theorem dL_isBook_318 : decode cL_isBook 318 = .ok (.iload 9, 2) := by decide +kernel
theorem dL_isBook_320 : decode cL_isBook 320 = .ok (.iconst 2, 1) := by decide +kernel
theorem dL_isBook_321 : decode cL_isBook 321 = .ok (.isub, 1) := by decide +kernel
theorem dL_isBook_322 : decode cL_isBook 322 = .ok (.invokevirtual 57, 3) := by decide +kernel
theorem dL_isBook_325 : decode cL_isBook 325 = .ok (.bipush 32, 2) := by decide +kernel
theorem dL_isBook_327 : decode cL_isBook 327 = .ok (.if_icmp .ne 105, 3) := by decide +kernel
theorem dL_isBook_330 : decode cL_isBook 330 = .ok (.aload_n 0, 1) := by decide +kernel
theorem dL_isBook_331 : decode cL_isBook 331 = .ok (.iload 5, 2) := by decide +kernel
theorem dL_isBook_333 : decode cL_isBook 333 = .ok (.iconst 0, 1) := by decide +kernel
theorem dL_isBook_334 : decode cL_isBook 334 = .ok (.invokevirtual 57, 3) := by decide +kernel
theorem dL_isBook_337 : decode cL_isBook 337 = .ok (.iload 6, 2) := by decide +kernel
theorem dL_isBook_339 : decode cL_isBook 339 = .ok (.iconst 2, 1) := by decide +kernel
theorem dL_isBook_340 : decode cL_isBook 340 = .ok (.if_icmp .ne 8, 3) := by decide +kernel
theorem dL_isBook_343 : decode cL_isBook 343 = .ok (.bipush 111, 2) := by decide +kernel
theorem dL_isBook_345 : decode cL_isBook 345 = .ok (.goto 5, 3) := by decide +kernel
theorem dL_isBook_348 : decode cL_isBook 348 = .ok (.bipush 108, 2) := by decide +kernel
theorem dL_isBook_350 : decode cL_isBook 350 = .ok (.if_icmp .ne 82, 3) := by decide +kernel
theorem dL_isBook_353 : decode cL_isBook 353 = .ok (.aload_n 0, 1) := by decide +kernel
theorem dL_isBook_354 : decode cL_isBook 354 = .ok (.iload 5, 2) := by decide +kernel
theorem dL_isBook_356 : decode cL_isBook 356 = .ok (.iconst 1, 1) := by decide +kernel
theorem dL_isBook_357 : decode cL_isBook 357 = .ok (.invokevirtual 57, 3) := by decide +kernel
theorem dL_isBook_360 : decode cL_isBook 360 = .ok (.iload 6, 2) := by decide +kernel
theorem dL_isBook_362 : decode cL_isBook 362 = .ok (.iconst 2, 1) := by decide +kernel
theorem dL_isBook_363 : decode cL_isBook 363 = .ok (.if_icmp .ne 8, 3) := by decide +kernel
theorem dL_isBook_366 : decode cL_isBook 366 = .ok (.bipush 117, 2) := by decide +kernel
theorem dL_isBook_368 : decode cL_isBook 368 = .ok (.goto 5, 3) := by decide +kernel
theorem dL_isBook_371 : decode cL_isBook 371 = .ok (.bipush 105, 2) := by decide +kernel
theorem dL_isBook_373 : decode cL_isBook 373 = .ok (.if_icmp .ne 59, 3) := by decide +kernel
theorem dL_isBook_376 : decode cL_isBook 376 = .ok (.aload_n 0, 1) := by decide +kernel
theorem dL_isBook_377 : decode cL_isBook 377 = .ok (.iload 5, 2) := by decide +kernel
theorem dL_isBook_379 : decode cL_isBook 379 = .ok (.iconst 2, 1) := by decide +kernel
theorem dL_isBook_380 : decode cL_isBook 380 = .ok (.invokevirtual 57, 3) := by decide +kernel
theorem dL_isBook_383 : decode cL_isBook 383 = .ok (.bipush 116, 2) := by decide +kernel
theorem dL_isBook_385 : decode cL_isBook 385 = .ok (.if_icmp .ne 47, 3) := by decide +kernel
theorem dL_isBook_388 : decode cL_isBook 388 = .ok (.iload 6, 2) := by decide +kernel
theorem dL_isBook_390 : decode cL_isBook 390 = .ok (.iconst 2, 1) := by decide +kernel
theorem dL_isBook_391 : decode cL_isBook 391 = .ok (.if_icmp .eq 37, 3) := by decide +kernel
theorem dL_isBook_394 : decode cL_isBook 394 = .ok (.aload_n 0, 1) := by decide +kernel
theorem dL_isBook_395 : decode cL_isBook 395 = .ok (.iload 5, 2) := by decide +kernel
theorem dL_isBook_397 : decode cL_isBook 397 = .ok (.iconst 3, 1) := by decide +kernel
theorem dL_isBook_398 : decode cL_isBook 398 = .ok (.invokevirtual 57, 3) := by decide +kernel
theorem dL_isBook_401 : decode cL_isBook 401 = .ok (.bipush 32, 2) := by decide +kernel
theorem dL_isBook_403 : decode cL_isBook 403 = .ok (.if_icmp .ne 29, 3) := by decide +kernel
theorem dL_isBook_406 : decode cL_isBook 406 = .ok (.aload_n 0, 1) := by decide +kernel
theorem dL_isBook_407 : decode cL_isBook 407 = .ok (.iload 5, 2) := by decide +kernel
theorem dL_isBook_409 : decode cL_isBook 409 = .ok (.iconst 4, 1) := by decide +kernel
theorem dL_isBook_410 : decode cL_isBook 410 = .ok (.invokevirtual 57, 3) := by decide +kernel
theorem dL_isBook_413 : decode cL_isBook 413 = .ok (.iload 6, 2) := by decide +kernel
theorem dL_isBook_415 : decode cL_isBook 415 = .ok (.ifCond .ne 8, 3) := by decide +kernel
theorem dL_isBook_418 : decode cL_isBook 418 = .ok (.bipush 76, 2) := by decide +kernel
theorem dL_isBook_420 : decode cL_isBook 420 = .ok (.goto 5, 3) := by decide +kernel
theorem dL_isBook_423 : decode cL_isBook 423 = .ok (.bipush 82, 2) := by decide +kernel
theorem dL_isBook_425 : decode cL_isBook 425 = .ok (.if_icmp .ne 7, 3) := by decide +kernel
theorem dL_isBook_428 : decode cL_isBook 428 = .ok (.iconst 1, 1) := by decide +kernel
theorem dL_isBook_429 : decode cL_isBook 429 = .ok (.goto 4, 3) := by decide +kernel
theorem dL_isBook_432 : decode cL_isBook 432 = .ok (.iconst 0, 1) := by decide +kernel
theorem dL_isBook_433 : decode cL_isBook 433 = .ok (.istore 4, 2) := by decide +kernel
theorem dL_isBook_435 : decode cL_isBook 435 = .ok (.iinc 5 1, 3) := by decide +kernel
theorem dL_isBook_438 : decode cL_isBook 438 = .ok (.goto (-322), 3) := by decide +kernel
theorem dL_isBook_441 : decode cL_isBook 441 = .ok (.iload 4, 2) := by decide +kernel
theorem dL_isBook_443 : decode cL_isBook 443 = .ok (.ireturn, 1) := by decide +kernel
