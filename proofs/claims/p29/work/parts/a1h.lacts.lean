/-! the law's words and instructions (out of a short program) -/
set_option maxRecDepth 20000 in
theorem ggL_acts_L_low : GoodIn wsL_acts wsL_low := goodIn_r _ [4, 5] (by decide +kernel) (by decide +kernel)
set_option maxRecDepth 20000 in
theorem gL_acts_L_low : GoodIn wsL_acts (va_wsS RL 90 yL_low wsL_low) := goodIn_app (goodIn_of _ (by decide +kernel)) ggL_acts_L_low
set_option maxRecDepth 20000 in
theorem ggL_acts_L_adds : GoodIn wsL_acts wsL_adds := goodIn_ca (goodIn_ca (goodIn_r _ [8, 9, 10, 11, 12, 13, 14, 15, 16, 17, 18, 19, 20, 21, 22, 23, 24, 25, 26, 27, 28, 29, 30, 31, 32, 33, 34, 35, 36, 37, 38, 39, 40, 41, 42, 43, 1, 2, 3, 4, 5, 44, 45, 46, 47, 48, 49, 50, 51, 52, 53, 54, 55, 56, 57, 58, 59, 60, 61, 62, 63, 64, 65, 66, 67, 68, 69, 70, 71, 72, 73, 74, 75, 76, 77, 78, 79, 80, 81, 82, 83, 84, 85, 86, 87, 88, 89, 90, 91, 92, 93, 94, 95, 96, 97, 98, 99, 100, 101, 102, 103, 104, 105, 106, 107, 108, 109, 110, 111, 112, 113, 114, 115, 116, 117, 273, 274, 275, 276, 277, 278, 279, 280, 281, 282, 283, 284, 285, 286, 287, 288, 289, 290, 291, 292, 293, 294, 295, 296, 297, 298, 299, 300, 301, 302, 303, 304, 305, 306, 307, 308, 309, 310, 311, 312, 313, 314, 315, 316, 317, 318, 319] (by decide +kernel) (by decide +kernel)) (goodIn_sub (fun _ h => List.mem_cons_of_mem _ (List.mem_append_left _ (List.mem_append_left _ (List.mem_append_right _ h)))) (by decide +kernel))) (goodIn_sub (fun _ h => List.mem_cons_of_mem _ (List.mem_append_left _ (List.mem_append_right _ h))) (by decide +kernel))
set_option maxRecDepth 20000 in
theorem gL_acts_L_adds : GoodIn wsL_acts (va_wsS RL 96 yL_adds wsL_adds) := goodIn_app (goodIn_of _ (by decide +kernel)) ggL_acts_L_adds
set_option maxRecDepth 20000 in
theorem ggL_acts_X6_cordOf : GoodIn wsL_acts wsX6_cordOf := goodIn_ca (goodIn_ca (goodIn_r _ [121, 14, 15, 16, 122, 123, 124, 12, 125, 126, 127, 128, 129, 130, 22, 131, 24, 132, 133, 134, 29, 135, 43, 41, 42, 136, 38, 39, 40, 273, 274, 275, 276, 277, 278, 279, 280, 281, 282, 283, 284, 285, 286, 287, 288, 289, 290, 291, 292, 308, 309, 310, 311, 312, 313, 314, 315] (by decide +kernel) (by decide +kernel)) (goodIn_sub (fun _ h => List.mem_cons_of_mem _ (List.mem_append_left _ (List.mem_append_left _ (List.mem_append_right _ h)))) (by decide +kernel))) (goodIn_sub (fun _ h => List.mem_cons_of_mem _ (List.mem_append_right _ h)) (by decide +kernel))
set_option maxRecDepth 20000 in
theorem gL_acts_X6_cordOf : GoodIn wsL_acts (wsV RL 42 RX6 yX6_cordOf wsX6_cordOf) := goodIn_app (goodIn_of _ (by decide +kernel)) ggL_acts_X6_cordOf
set_option maxRecDepth 20000 in
theorem ggL_acts_X6_segment : GoodIn wsL_acts wsX6_segment := goodIn_ca (goodIn_r _ [140, 16, 141, 142, 143, 12, 144, 126, 127, 122, 123, 124, 125, 128, 129, 130, 22, 131, 24, 273, 274, 275, 276, 277, 278, 279, 280, 281, 282, 283, 284, 285, 286, 287, 288, 289, 290, 291, 292, 308, 309, 310, 311, 312, 313, 314, 315] (by decide +kernel) (by decide +kernel)) (goodIn_sub (fun _ h => List.mem_cons_of_mem _ (List.mem_append_right _ h)) (by decide +kernel))
set_option maxRecDepth 20000 in
theorem gL_acts_X6_segment : GoodIn wsL_acts (wsV RL 38 RX6 yX6_segment wsX6_segment) := goodIn_app (goodIn_of _ (by decide +kernel)) ggL_acts_X6_segment
set_option maxRecDepth 20000 in
theorem ggL_acts_X6_uneven : GoodIn wsL_acts wsX6_uneven := goodIn_ca (goodIn_ca (goodIn_ca (goodIn_r _ [148, 14, 15, 48, 49, 16, 141, 142, 143, 12, 144, 126, 127, 122, 123, 124, 125, 128, 129, 130, 22, 131, 24, 50, 51, 52, 149, 150, 151, 29, 152, 41, 42, 153, 27, 28, 30, 31, 32, 57, 58, 59, 60, 17, 61, 62, 63, 64, 65, 66, 25, 67, 68, 69, 70, 71, 72, 73, 74, 75, 76, 77, 78, 79, 80, 81, 43, 82, 83, 84, 85, 86, 87, 88, 89, 90, 91, 92, 93, 94, 95, 96, 97, 98, 99, 100, 101, 154, 155, 156, 157, 273, 274, 275, 276, 277, 278, 279, 280, 281, 282, 283, 284, 285, 286, 287, 288, 289, 290, 291, 292, 308, 309, 310, 311, 312, 313, 314, 315, 316, 317, 318, 319, 293, 294, 295, 296, 297] (by decide +kernel) (by decide +kernel)) (goodIn_sub (fun _ h => List.mem_cons_of_mem _ (List.mem_append_left _ (List.mem_append_left _ (List.mem_append_right _ h)))) (by decide +kernel))) (goodIn_sub (fun _ h => List.mem_cons_of_mem _ (List.mem_append_left _ (List.mem_append_right _ h))) (by decide +kernel))) (goodIn_sub (fun _ h => List.mem_cons_of_mem _ (List.mem_append_right _ h)) (by decide +kernel))
set_option maxRecDepth 20000 in
theorem gL_acts_X6_uneven : GoodIn wsL_acts (wsV RL 100 RX6 yX6_uneven wsX6_uneven) := goodIn_app (goodIn_of _ (by decide +kernel)) ggL_acts_X6_uneven
set_option maxRecDepth 20000 in
theorem ggL_acts_X6_renew : GoodIn wsL_acts wsX6_renew := goodIn_ca (goodIn_r _ [161, 16, 122, 123, 124, 12, 125, 126, 127, 128, 129, 130, 22, 131, 24, 57, 58, 59, 60, 17, 61, 62, 63, 64, 65, 66, 25, 67, 68, 69, 70, 71, 72, 73, 74, 75, 76, 77, 78, 29, 79, 80, 81, 43, 41, 42, 31, 32, 82, 83, 84, 85, 86, 87, 88, 89, 90, 91, 92, 93, 94, 95, 96, 97, 98, 99, 100, 101, 149, 150, 151, 152, 162, 111, 112, 113, 273, 274, 275, 276, 277, 278, 279, 280, 281, 282, 283, 284, 285, 286, 287, 288, 289, 290, 291, 292, 308, 309, 310, 311, 312, 313, 314, 315, 316, 317, 318, 319, 293, 294, 295, 296, 297] (by decide +kernel) (by decide +kernel)) (goodIn_sub (fun _ h => List.mem_cons_of_mem _ (List.mem_append_right _ h)) (by decide +kernel))
set_option maxRecDepth 20000 in
theorem gL_acts_X6_renew : GoodIn wsL_acts (wsV RL 103 RX6 yX6_renew wsX6_renew) := goodIn_app (goodIn_of _ (by decide +kernel)) ggL_acts_X6_renew
set_option maxRecDepth 20000 in
theorem ggL_acts_X6_count : GoodIn wsL_acts wsX6_count := goodIn_ca (goodIn_r _ [13, 14, 15, 16, 17, 18, 19, 20, 21, 22, 23, 24, 25, 26, 27, 28, 29, 30, 31, 32, 33, 34, 35, 36, 37, 38, 39, 40, 41, 42, 43, 273, 274, 275, 276, 277, 278, 279, 280, 281, 282, 283, 284, 285, 286, 287, 288, 289, 290, 291, 292, 293, 294, 295, 296, 297, 298, 299, 300, 301, 302, 303, 304, 305, 306, 307, 308, 309, 310, 311, 312, 313, 314, 315] (by decide +kernel) (by decide +kernel)) (goodIn_sub (fun _ h => List.mem_cons_of_mem _ (List.mem_append_left _ (List.mem_append_left _ (List.mem_append_right _ h)))) (by decide +kernel))
set_option maxRecDepth 20000 in
theorem gL_acts_X6_count : GoodIn wsL_acts (wsV RL 32 RX6 yX6_count wsX6_count) := goodIn_app (goodIn_of _ (by decide +kernel)) ggL_acts_X6_count
set_option maxRecDepth 20000 in
theorem ggL_acts_L_flames : GoodIn wsL_acts wsL_flames := goodIn_r _ [165] (by decide +kernel) (by decide +kernel)
set_option maxRecDepth 20000 in
theorem gL_acts_L_flames : GoodIn wsL_acts (va_wsS RL 24 yL_flames wsL_flames) := goodIn_app (goodIn_of _ (by decide +kernel)) ggL_acts_L_flames
set_option maxRecDepth 20000 in
theorem ggL_acts_X6_putOut : GoodIn wsL_acts wsX6_putOut := goodIn_ca (goodIn_ca (goodIn_r _ [169, 48, 49, 16, 122, 123, 124, 12, 125, 126, 127, 128, 129, 130, 22, 131, 24, 170, 171, 172, 29, 173, 31, 32, 57, 58, 59, 60, 17, 61, 62, 63, 64, 65, 66, 25, 67, 68, 69, 70, 71, 72, 73, 74, 75, 76, 77, 78, 79, 80, 81, 43, 41, 42, 82, 83, 84, 85, 86, 87, 88, 89, 90, 91, 92, 93, 94, 95, 96, 97, 98, 99, 100, 101, 174, 175, 176, 177, 19, 20, 21, 23, 26, 27, 28, 30, 273, 274, 275, 276, 277, 278, 279, 280, 281, 282, 283, 284, 285, 286, 287, 288, 289, 290, 291, 292, 308, 309, 310, 311, 312, 313, 314, 315, 316, 317, 318, 319, 293, 294, 295, 296, 297] (by decide +kernel) (by decide +kernel)) (goodIn_sub (fun _ h => List.mem_cons_of_mem _ (List.mem_append_left _ (List.mem_append_right _ h))) (by decide +kernel))) (goodIn_sub (fun _ h => List.mem_cons_of_mem _ (List.mem_append_right _ h)) (by decide +kernel))
set_option maxRecDepth 20000 in
theorem gL_acts_X6_putOut : GoodIn wsL_acts (wsV RL 106 RX6 yX6_putOut wsX6_putOut) := goodIn_app (goodIn_of _ (by decide +kernel)) ggL_acts_X6_putOut
set_option maxRecDepth 20000 in
theorem ggL_acts_X6_rule : GoodIn wsL_acts wsX6_rule := goodIn_ca (goodIn_ca (goodIn_ca (goodIn_r _ [181, 14, 15, 48, 49, 16, 122, 123, 124, 12, 125, 126, 127, 128, 129, 130, 22, 131, 24, 182, 183, 184, 185, 68, 57, 58, 59, 60, 17, 61, 62, 63, 64, 65, 66, 25, 67, 69, 70, 71, 72, 73, 74, 75, 76, 77, 78, 29, 79, 80, 81, 43, 41, 42, 31, 32, 82, 83, 84, 85, 86, 87, 88, 89, 90, 91, 92, 93, 94, 95, 96, 97, 98, 99, 100, 101, 186, 187, 188, 189, 273, 274, 275, 276, 277, 278, 279, 280, 281, 282, 283, 284, 285, 286, 287, 288, 289, 290, 291, 292, 308, 309, 310, 311, 312, 313, 314, 315, 316, 317, 318, 319, 293, 294, 295, 296, 297] (by decide +kernel) (by decide +kernel)) (goodIn_sub (fun _ h => List.mem_cons_of_mem _ (List.mem_append_left _ (List.mem_append_left _ (List.mem_append_right _ h)))) (by decide +kernel))) (goodIn_sub (fun _ h => List.mem_cons_of_mem _ (List.mem_append_left _ (List.mem_append_right _ h))) (by decide +kernel))) (goodIn_sub (fun _ h => List.mem_cons_of_mem _ (List.mem_append_right _ h)) (by decide +kernel))
set_option maxRecDepth 20000 in
theorem gL_acts_X6_rule : GoodIn wsL_acts (wsV RL 109 RX6 yX6_rule wsX6_rule) := goodIn_app (goodIn_of _ (by decide +kernel)) ggL_acts_X6_rule
set_option maxRecDepth 20000 in
theorem ggL_acts_X6_dropRules : GoodIn wsL_acts wsX6_dropRules := goodIn_r _ [193, 16, 57, 58, 59, 12, 60, 17, 61, 62, 63, 64, 65, 22, 66, 25, 24, 67, 68, 69, 70, 71, 72, 73, 74, 75, 76, 77, 78, 29, 79, 80, 81, 43, 41, 42, 31, 32, 82, 83, 84, 85, 86, 87, 88, 89, 90, 91, 92, 93, 94, 95, 96, 97, 98, 99, 100, 101, 273, 274, 275, 276, 277, 278, 279, 280, 281, 282, 283, 284, 285, 286, 287, 288, 289, 290, 291, 292, 308, 309, 310, 311, 312, 313, 314, 315, 316, 317, 318, 319, 293, 294, 295, 296, 297] (by decide +kernel) (by decide +kernel)
set_option maxRecDepth 20000 in
theorem gL_acts_X6_dropRules : GoodIn wsL_acts (wsV RL 113 RX6 yX6_dropRules wsX6_dropRules) := goodIn_app (goodIn_of _ (by decide +kernel)) ggL_acts_X6_dropRules
set_option maxRecDepth 20000 in
theorem ggL_acts_L_lights : GoodIn wsL_acts wsL_lights := goodIn_r _ [196, 197, 198, 3, 199, 200, 201, 202, 203, 204, 205, 206] (by decide +kernel) (by decide +kernel)
set_option maxRecDepth 20000 in
theorem gL_acts_L_lights : GoodIn wsL_acts (va_wsS RL 28 yL_lights wsL_lights) := goodIn_app (goodIn_of _ (by decide +kernel)) ggL_acts_L_lights
set_option maxRecDepth 20000 in
theorem ggL_acts_X6_light : GoodIn wsL_acts wsX6_light := goodIn_ca (goodIn_ca (goodIn_r _ [210, 48, 49, 16, 122, 123, 124, 12, 125, 126, 127, 128, 129, 130, 22, 131, 24, 211, 212, 213, 29, 214, 215, 38, 39, 40, 41, 42, 43, 216, 171, 172, 173, 31, 32, 57, 58, 59, 60, 17, 61, 62, 63, 64, 65, 66, 25, 67, 68, 69, 70, 71, 72, 73, 74, 75, 76, 77, 78, 79, 80, 81, 82, 83, 84, 85, 86, 87, 88, 89, 90, 91, 92, 93, 94, 95, 96, 97, 98, 99, 100, 101, 217, 218, 219, 220, 221, 175, 176, 177, 222, 223, 224, 225, 19, 20, 21, 23, 26, 27, 28, 30, 273, 274, 275, 276, 277, 278, 279, 280, 281, 282, 283, 284, 285, 286, 287, 288, 289, 290, 291, 292, 308, 309, 310, 311, 312, 313, 314, 315, 316, 317, 318, 319, 293, 294, 295, 296, 297] (by decide +kernel) (by decide +kernel)) (goodIn_sub (fun _ h => List.mem_cons_of_mem _ (List.mem_append_left _ (List.mem_append_right _ h))) (by decide +kernel))) (goodIn_sub (fun _ h => List.mem_cons_of_mem _ (List.mem_append_right _ h)) (by decide +kernel))
set_option maxRecDepth 20000 in
theorem gL_acts_X6_light : GoodIn wsL_acts (wsV RL 117 RX6 yX6_light wsX6_light) := goodIn_app (goodIn_of _ (by decide +kernel)) ggL_acts_X6_light
set_option maxRecDepth 20000 in
theorem ggL_acts_L_steps : GoodIn wsL_acts wsL_steps := goodIn_r _ [228, 163, 164, 3, 165, 197, 198, 199, 200, 201, 202, 203, 204, 205, 206, 194, 195, 196] (by decide +kernel) (by decide +kernel)
set_option maxRecDepth 20000 in
theorem gL_acts_L_steps : GoodIn wsL_acts (va_wsS RL 67 yL_steps wsL_steps) := goodIn_app (goodIn_of _ (by decide +kernel)) ggL_acts_L_steps
set_option maxRecDepth 20000 in
theorem ggL_acts_X6_run : GoodIn wsL_acts wsX6_run := goodIn_ca (goodIn_r _ [232, 14, 15, 16, 57, 58, 59, 12, 60, 17, 61, 62, 63, 64, 65, 22, 66, 25, 24, 67, 68, 69, 70, 71, 72, 73, 74, 75, 76, 77, 78, 29, 79, 80, 81, 43, 41, 42, 31, 32, 82, 83, 84, 85, 86, 87, 88, 89, 90, 91, 92, 93, 94, 95, 96, 97, 98, 99, 100, 101, 233, 234, 235, 236, 237, 238, 239, 240, 241, 242, 243, 244, 245, 246, 247, 248, 249, 20, 21, 23, 26, 27, 28, 30, 250, 251, 252, 253, 254, 255, 256, 257, 258, 215, 38, 39, 40, 259, 260, 261, 262, 222, 223, 224, 225, 263, 129, 130, 131, 264, 212, 213, 214, 216, 171, 172, 173, 265, 218, 219, 220, 221, 175, 176, 177, 266, 267, 268, 269, 270, 271, 272, 273, 274, 275, 276, 277, 278, 279, 280, 281, 282, 283, 284, 285, 286, 287, 288, 289, 290, 291, 292, 308, 309, 310, 311, 312, 313, 314, 315, 316, 317, 318, 319, 293, 294, 295, 296, 297] (by decide +kernel) (by decide +kernel)) (goodIn_sub (fun _ h => List.mem_cons_of_mem _ (List.mem_append_left _ (List.mem_append_left _ (List.mem_append_right _ h)))) (by decide +kernel))
set_option maxRecDepth 20000 in
theorem gL_acts_X6_run : GoodIn wsL_acts (wsV RL 120 RX6 yX6_run wsX6_run) := goodIn_app (goodIn_of _ (by decide +kernel)) ggL_acts_X6_run
theorem dL_acts_0 : decode cL_acts 0 = .ok (.iload 7, 2) := by decide +kernel
theorem dL_acts_2 : decode cL_acts 2 = .ok (.aload 4, 2) := by decide +kernel
theorem dL_acts_4 : decode cL_acts 4 = .ok (.bipush 6, 2) := by decide +kernel
theorem dL_acts_6 : decode cL_acts 6 = .ok (.iaload, 1) := by decide +kernel
theorem dL_acts_7 : decode cL_acts 7 = .ok (.invokestatic 90, 3) := by decide +kernel
theorem dL_acts_10 : decode cL_acts 10 = .ok (.istore 8, 2) := by decide +kernel
theorem dL_acts_12 : decode cL_acts 12 = .ok (.iload 7, 2) := by decide +kernel
theorem dL_acts_14 : decode cL_acts 14 = .ok (.iconst 3, 1) := by decide +kernel
theorem dL_acts_15 : decode cL_acts 15 = .ok (.ishr, 1) := by decide +kernel
theorem dL_acts_16 : decode cL_acts 16 = .ok (.iconst 2, 1) := by decide +kernel
theorem dL_acts_17 : decode cL_acts 17 = .ok (.invokestatic 90, 3) := by decide +kernel
theorem dL_acts_20 : decode cL_acts 20 = .ok (.istore 9, 2) := by decide +kernel
theorem dL_acts_22 : decode cL_acts 22 = .ok (.iload 6, 2) := by decide +kernel
theorem dL_acts_24 : decode cL_acts 24 = .ok (.tableswitch 607 0 11 #[64, 75, 75, 205, 264, 341, 341, 483, 538, 538, 538, 538], 64) := by decide +kernel
theorem dL_acts_88 : decode cL_acts 88 = .ok (.aload_n 0, 1) := by decide +kernel
theorem dL_acts_89 : decode cL_acts 89 = .ok (.aload_n 1, 1) := by decide +kernel
theorem dL_acts_90 : decode cL_acts 90 = .ok (.aload_n 2, 1) := by decide +kernel
theorem dL_acts_91 : decode cL_acts 91 = .ok (.aload 4, 2) := by decide +kernel
theorem dL_acts_93 : decode cL_acts 93 = .ok (.iload 7, 2) := by decide +kernel
theorem dL_acts_95 : decode cL_acts 95 = .ok (.invokestatic 96, 3) := by decide +kernel
theorem dL_acts_98 : decode cL_acts 98 = .ok (.ireturn, 1) := by decide +kernel
theorem dL_acts_99 : decode cL_acts 99 = .ok (.iload 7, 2) := by decide +kernel
theorem dL_acts_101 : decode cL_acts 101 = .ok (.iconst 4, 1) := by decide +kernel
theorem dL_acts_102 : decode cL_acts 102 = .ok (.ishr, 1) := by decide +kernel
theorem dL_acts_103 : decode cL_acts 103 = .ok (.aload_n 0, 1) := by decide +kernel
theorem dL_acts_104 : decode cL_acts 104 = .ok (.iload 8, 2) := by decide +kernel
theorem dL_acts_106 : decode cL_acts 106 = .ok (.iconst 1, 1) := by decide +kernel
theorem dL_acts_107 : decode cL_acts 107 = .ok (.invokevirtual 42, 3) := by decide +kernel
theorem dL_acts_110 : decode cL_acts 110 = .ok (.invokestatic 90, 3) := by decide +kernel
theorem dL_acts_113 : decode cL_acts 113 = .ok (.istore 10, 2) := by decide +kernel
theorem dL_acts_115 : decode cL_acts 115 = .ok (.iconst 1, 1) := by decide +kernel
theorem dL_acts_116 : decode cL_acts 116 = .ok (.iload 7, 2) := by decide +kernel
theorem dL_acts_118 : decode cL_acts 118 = .ok (.bipush 7, 2) := by decide +kernel
theorem dL_acts_120 : decode cL_acts 120 = .ok (.ishr, 1) := by decide +kernel
theorem dL_acts_121 : decode cL_acts 121 = .ok (.bipush 30, 2) := by decide +kernel
theorem dL_acts_123 : decode cL_acts 123 = .ok (.invokestatic 90, 3) := by decide +kernel
theorem dL_acts_126 : decode cL_acts 126 = .ok (.iadd, 1) := by decide +kernel
theorem dL_acts_127 : decode cL_acts 127 = .ok (.istore 11, 2) := by decide +kernel
theorem dL_acts_129 : decode cL_acts 129 = .ok (.aload_n 1, 1) := by decide +kernel
theorem dL_acts_130 : decode cL_acts 130 = .ok (.bipush 6, 2) := by decide +kernel
theorem dL_acts_132 : decode cL_acts 132 = .ok (.iload 8, 2) := by decide +kernel
theorem dL_acts_134 : decode cL_acts 134 = .ok (.imul, 1) := by decide +kernel
theorem dL_acts_135 : decode cL_acts 135 = .ok (.iload 10, 2) := by decide +kernel
theorem dL_acts_137 : decode cL_acts 137 = .ok (.iadd, 1) := by decide +kernel
theorem dL_acts_138 : decode cL_acts 138 = .ok (.iaload, 1) := by decide +kernel
theorem dL_acts_139 : decode cL_acts 139 = .ok (.istore 12, 2) := by decide +kernel
theorem dL_acts_141 : decode cL_acts 141 = .ok (.aload_n 2, 1) := by decide +kernel
theorem dL_acts_142 : decode cL_acts 142 = .ok (.iconst 5, 1) := by decide +kernel
theorem dL_acts_143 : decode cL_acts 143 = .ok (.iload 8, 2) := by decide +kernel
theorem dL_acts_145 : decode cL_acts 145 = .ok (.imul, 1) := by decide +kernel
theorem dL_acts_146 : decode cL_acts 146 = .ok (.iaload, 1) := by decide +kernel
theorem dL_acts_147 : decode cL_acts 147 = .ok (.aload_n 2, 1) := by decide +kernel
theorem dL_acts_148 : decode cL_acts 148 = .ok (.iconst 5, 1) := by decide +kernel
theorem dL_acts_149 : decode cL_acts 149 = .ok (.iload 8, 2) := by decide +kernel
theorem dL_acts_151 : decode cL_acts 151 = .ok (.imul, 1) := by decide +kernel
theorem dL_acts_152 : decode cL_acts 152 = .ok (.iconst 1, 1) := by decide +kernel
theorem dL_acts_153 : decode cL_acts 153 = .ok (.iadd, 1) := by decide +kernel
theorem dL_acts_154 : decode cL_acts 154 = .ok (.iaload, 1) := by decide +kernel
theorem dL_acts_155 : decode cL_acts 155 = .ok (.iadd, 1) := by decide +kernel
theorem dL_acts_156 : decode cL_acts 156 = .ok (.aload_n 2, 1) := by decide +kernel
theorem dL_acts_157 : decode cL_acts 157 = .ok (.iconst 5, 1) := by decide +kernel
theorem dL_acts_158 : decode cL_acts 158 = .ok (.iload 8, 2) := by decide +kernel
theorem dL_acts_160 : decode cL_acts 160 = .ok (.imul, 1) := by decide +kernel
theorem dL_acts_161 : decode cL_acts 161 = .ok (.iconst 2, 1) := by decide +kernel
theorem dL_acts_162 : decode cL_acts 162 = .ok (.iadd, 1) := by decide +kernel
theorem dL_acts_163 : decode cL_acts 163 = .ok (.iaload, 1) := by decide +kernel
theorem dL_acts_164 : decode cL_acts 164 = .ok (.iadd, 1) := by decide +kernel
theorem dL_acts_165 : decode cL_acts 165 = .ok (.aload_n 2, 1) := by decide +kernel
theorem dL_acts_166 : decode cL_acts 166 = .ok (.iconst 5, 1) := by decide +kernel
theorem dL_acts_167 : decode cL_acts 167 = .ok (.iload 8, 2) := by decide +kernel
theorem dL_acts_169 : decode cL_acts 169 = .ok (.imul, 1) := by decide +kernel
theorem dL_acts_170 : decode cL_acts 170 = .ok (.iconst 3, 1) := by decide +kernel
theorem dL_acts_171 : decode cL_acts 171 = .ok (.iadd, 1) := by decide +kernel
theorem dL_acts_172 : decode cL_acts 172 = .ok (.iaload, 1) := by decide +kernel
theorem dL_acts_173 : decode cL_acts 173 = .ok (.iadd, 1) := by decide +kernel
theorem dL_acts_174 : decode cL_acts 174 = .ok (.ifCond .le 22, 3) := by decide +kernel
theorem dL_acts_177 : decode cL_acts 177 = .ok (.aload_n 0, 1) := by decide +kernel
theorem dL_acts_178 : decode cL_acts 178 = .ok (.iload 8, 2) := by decide +kernel
theorem dL_acts_180 : decode cL_acts 180 = .ok (.iload 10, 2) := by decide +kernel
theorem dL_acts_182 : decode cL_acts 182 = .ok (.invokevirtual 38, 3) := by decide +kernel
theorem dL_acts_185 : decode cL_acts 185 = .ok (.iload 12, 2) := by decide +kernel
theorem dL_acts_187 : decode cL_acts 187 = .ok (.if_icmp .ne 7, 3) := by decide +kernel
theorem dL_acts_190 : decode cL_acts 190 = .ok (.iconst 1, 1) := by decide +kernel
theorem dL_acts_191 : decode cL_acts 191 = .ok (.goto 4, 3) := by decide +kernel
theorem dL_acts_194 : decode cL_acts 194 = .ok (.iconst 0, 1) := by decide +kernel
theorem dL_acts_195 : decode cL_acts 195 = .ok (.ireturn, 1) := by decide +kernel
theorem dL_acts_196 : decode cL_acts 196 = .ok (.aload_n 1, 1) := by decide +kernel
theorem dL_acts_197 : decode cL_acts 197 = .ok (.bipush 6, 2) := by decide +kernel
theorem dL_acts_199 : decode cL_acts 199 = .ok (.iload 8, 2) := by decide +kernel
theorem dL_acts_201 : decode cL_acts 201 = .ok (.imul, 1) := by decide +kernel
theorem dL_acts_202 : decode cL_acts 202 = .ok (.iload 10, 2) := by decide +kernel
theorem dL_acts_204 : decode cL_acts 204 = .ok (.iadd, 1) := by decide +kernel
theorem dL_acts_205 : decode cL_acts 205 = .ok (.iload 11, 2) := by decide +kernel
theorem dL_acts_207 : decode cL_acts 207 = .ok (.iastore, 1) := by decide +kernel
theorem dL_acts_208 : decode cL_acts 208 = .ok (.aload_n 0, 1) := by decide +kernel
theorem dL_acts_209 : decode cL_acts 209 = .ok (.iload 8, 2) := by decide +kernel
theorem dL_acts_211 : decode cL_acts 211 = .ok (.iload 10, 2) := by decide +kernel
theorem dL_acts_213 : decode cL_acts 213 = .ok (.iload 11, 2) := by decide +kernel
theorem dL_acts_215 : decode cL_acts 215 = .ok (.invokevirtual 100, 3) := by decide +kernel
theorem dL_acts_218 : decode cL_acts 218 = .ok (.iload 12, 2) := by decide +kernel
theorem dL_acts_220 : decode cL_acts 220 = .ok (.if_icmp .ne 7, 3) := by decide +kernel
theorem dL_acts_223 : decode cL_acts 223 = .ok (.iconst 1, 1) := by decide +kernel
theorem dL_acts_224 : decode cL_acts 224 = .ok (.goto 4, 3) := by decide +kernel
theorem dL_acts_227 : decode cL_acts 227 = .ok (.iconst 0, 1) := by decide +kernel
theorem dL_acts_228 : decode cL_acts 228 = .ok (.ireturn, 1) := by decide +kernel
theorem dL_acts_229 : decode cL_acts 229 = .ok (.aload_n 2, 1) := by decide +kernel
theorem dL_acts_230 : decode cL_acts 230 = .ok (.iconst 5, 1) := by decide +kernel
theorem dL_acts_231 : decode cL_acts 231 = .ok (.iload 8, 2) := by decide +kernel
theorem dL_acts_233 : decode cL_acts 233 = .ok (.imul, 1) := by decide +kernel
theorem dL_acts_234 : decode cL_acts 234 = .ok (.iaload, 1) := by decide +kernel
theorem dL_acts_235 : decode cL_acts 235 = .ok (.aload_n 2, 1) := by decide +kernel
theorem dL_acts_236 : decode cL_acts 236 = .ok (.iconst 5, 1) := by decide +kernel
theorem dL_acts_237 : decode cL_acts 237 = .ok (.iload 8, 2) := by decide +kernel
theorem dL_acts_239 : decode cL_acts 239 = .ok (.imul, 1) := by decide +kernel
theorem dL_acts_240 : decode cL_acts 240 = .ok (.iconst 1, 1) := by decide +kernel
theorem dL_acts_241 : decode cL_acts 241 = .ok (.iadd, 1) := by decide +kernel
theorem dL_acts_242 : decode cL_acts 242 = .ok (.iaload, 1) := by decide +kernel
theorem dL_acts_243 : decode cL_acts 243 = .ok (.iadd, 1) := by decide +kernel
theorem dL_acts_244 : decode cL_acts 244 = .ok (.istore 13, 2) := by decide +kernel
theorem dL_acts_246 : decode cL_acts 246 = .ok (.iconst 0, 1) := by decide +kernel
theorem dL_acts_247 : decode cL_acts 247 = .ok (.istore 14, 2) := by decide +kernel
theorem dL_acts_249 : decode cL_acts 249 = .ok (.iload 14, 2) := by decide +kernel
theorem dL_acts_251 : decode cL_acts 251 = .ok (.iconst 4, 1) := by decide +kernel
theorem dL_acts_252 : decode cL_acts 252 = .ok (.if_icmp .ge 19, 3) := by decide +kernel
theorem dL_acts_255 : decode cL_acts 255 = .ok (.aload_n 2, 1) := by decide +kernel
theorem dL_acts_256 : decode cL_acts 256 = .ok (.iconst 5, 1) := by decide +kernel
theorem dL_acts_257 : decode cL_acts 257 = .ok (.iload 8, 2) := by decide +kernel
theorem dL_acts_259 : decode cL_acts 259 = .ok (.imul, 1) := by decide +kernel
theorem dL_acts_260 : decode cL_acts 260 = .ok (.iload 14, 2) := by decide +kernel
theorem dL_acts_262 : decode cL_acts 262 = .ok (.iadd, 1) := by decide +kernel
theorem dL_acts_263 : decode cL_acts 263 = .ok (.iconst 0, 1) := by decide +kernel
theorem dL_acts_264 : decode cL_acts 264 = .ok (.iastore, 1) := by decide +kernel
theorem dL_acts_265 : decode cL_acts 265 = .ok (.iinc 14 1, 3) := by decide +kernel
theorem dL_acts_268 : decode cL_acts 268 = .ok (.goto (-19), 3) := by decide +kernel
theorem dL_acts_271 : decode cL_acts 271 = .ok (.aload_n 0, 1) := by decide +kernel
theorem dL_acts_272 : decode cL_acts 272 = .ok (.iload 8, 2) := by decide +kernel
theorem dL_acts_274 : decode cL_acts 274 = .ok (.invokevirtual 103, 3) := by decide +kernel
theorem dL_acts_277 : decode cL_acts 277 = .ok (.iload 13, 2) := by decide +kernel
theorem dL_acts_279 : decode cL_acts 279 = .ok (.if_icmp .ne 7, 3) := by decide +kernel
theorem dL_acts_282 : decode cL_acts 282 = .ok (.iconst 1, 1) := by decide +kernel
theorem dL_acts_283 : decode cL_acts 283 = .ok (.goto 4, 3) := by decide +kernel
theorem dL_acts_286 : decode cL_acts 286 = .ok (.iconst 0, 1) := by decide +kernel
theorem dL_acts_287 : decode cL_acts 287 = .ok (.ireturn, 1) := by decide +kernel
theorem dL_acts_288 : decode cL_acts 288 = .ok (.aload_n 2, 1) := by decide +kernel
theorem dL_acts_289 : decode cL_acts 289 = .ok (.iconst 5, 1) := by decide +kernel
theorem dL_acts_290 : decode cL_acts 290 = .ok (.iload 8, 2) := by decide +kernel
theorem dL_acts_292 : decode cL_acts 292 = .ok (.imul, 1) := by decide +kernel
theorem dL_acts_293 : decode cL_acts 293 = .ok (.iconst 2, 1) := by decide +kernel
theorem dL_acts_294 : decode cL_acts 294 = .ok (.iadd, 1) := by decide +kernel
theorem dL_acts_295 : decode cL_acts 295 = .ok (.iload 9, 2) := by decide +kernel
theorem dL_acts_297 : decode cL_acts 297 = .ok (.iadd, 1) := by decide +kernel
theorem dL_acts_298 : decode cL_acts 298 = .ok (.iaload, 1) := by decide +kernel
theorem dL_acts_299 : decode cL_acts 299 = .ok (.ifCond .ne 23, 3) := by decide +kernel
theorem dL_acts_302 : decode cL_acts 302 = .ok (.aload_n 0, 1) := by decide +kernel
theorem dL_acts_303 : decode cL_acts 303 = .ok (.iconst 3, 1) := by decide +kernel
theorem dL_acts_304 : decode cL_acts 304 = .ok (.invokevirtual 32, 3) := by decide +kernel
theorem dL_acts_307 : decode cL_acts 307 = .ok (.aload_n 2, 1) := by decide +kernel
theorem dL_acts_308 : decode cL_acts 308 = .ok (.aload 4, 2) := by decide +kernel
theorem dL_acts_310 : decode cL_acts 310 = .ok (.invokestatic 24, 3) := by decide +kernel
theorem dL_acts_313 : decode cL_acts 313 = .ok (.if_icmp .ne 7, 3) := by decide +kernel
theorem dL_acts_316 : decode cL_acts 316 = .ok (.iconst 1, 1) := by decide +kernel
theorem dL_acts_317 : decode cL_acts 317 = .ok (.goto 4, 3) := by decide +kernel
theorem dL_acts_320 : decode cL_acts 320 = .ok (.iconst 0, 1) := by decide +kernel
theorem dL_acts_321 : decode cL_acts 321 = .ok (.ireturn, 1) := by decide +kernel
theorem dL_acts_322 : decode cL_acts 322 = .ok (.aload_n 2, 1) := by decide +kernel
theorem dL_acts_323 : decode cL_acts 323 = .ok (.iconst 5, 1) := by decide +kernel
theorem dL_acts_324 : decode cL_acts 324 = .ok (.iload 8, 2) := by decide +kernel
theorem dL_acts_326 : decode cL_acts 326 = .ok (.imul, 1) := by decide +kernel
theorem dL_acts_327 : decode cL_acts 327 = .ok (.iconst 2, 1) := by decide +kernel
theorem dL_acts_328 : decode cL_acts 328 = .ok (.iadd, 1) := by decide +kernel
theorem dL_acts_329 : decode cL_acts 329 = .ok (.iload 9, 2) := by decide +kernel
theorem dL_acts_331 : decode cL_acts 331 = .ok (.iadd, 1) := by decide +kernel
theorem dL_acts_332 : decode cL_acts 332 = .ok (.iconst 0, 1) := by decide +kernel
theorem dL_acts_333 : decode cL_acts 333 = .ok (.iastore, 1) := by decide +kernel
theorem dL_acts_334 : decode cL_acts 334 = .ok (.aload_n 0, 1) := by decide +kernel
theorem dL_acts_335 : decode cL_acts 335 = .ok (.iload 8, 2) := by decide +kernel
theorem dL_acts_337 : decode cL_acts 337 = .ok (.iload 9, 2) := by decide +kernel
theorem dL_acts_339 : decode cL_acts 339 = .ok (.ifCond .ne 7, 3) := by decide +kernel
theorem dL_acts_342 : decode cL_acts 342 = .ok (.iconst 1, 1) := by decide +kernel
theorem dL_acts_343 : decode cL_acts 343 = .ok (.goto 4, 3) := by decide +kernel
theorem dL_acts_346 : decode cL_acts 346 = .ok (.iconst 0, 1) := by decide +kernel
theorem dL_acts_347 : decode cL_acts 347 = .ok (.invokevirtual 106, 3) := by decide +kernel
theorem dL_acts_350 : decode cL_acts 350 = .ok (.aload_n 2, 1) := by decide +kernel
theorem dL_acts_351 : decode cL_acts 351 = .ok (.aload 4, 2) := by decide +kernel
theorem dL_acts_353 : decode cL_acts 353 = .ok (.invokestatic 24, 3) := by decide +kernel
theorem dL_acts_356 : decode cL_acts 356 = .ok (.if_icmp .ne 7, 3) := by decide +kernel
theorem dL_acts_359 : decode cL_acts 359 = .ok (.iconst 1, 1) := by decide +kernel
theorem dL_acts_360 : decode cL_acts 360 = .ok (.goto 4, 3) := by decide +kernel
theorem dL_acts_363 : decode cL_acts 363 = .ok (.iconst 0, 1) := by decide +kernel
theorem dL_acts_364 : decode cL_acts 364 = .ok (.ireturn, 1) := by decide +kernel
theorem dL_acts_365 : decode cL_acts 365 = .ok (.iload 7, 2) := by decide +kernel
theorem dL_acts_367 : decode cL_acts 367 = .ok (.iconst 4, 1) := by decide +kernel
theorem dL_acts_368 : decode cL_acts 368 = .ok (.ishr, 1) := by decide +kernel
theorem dL_acts_369 : decode cL_acts 369 = .ok (.aload 4, 2) := by decide +kernel
theorem dL_acts_371 : decode cL_acts 371 = .ok (.bipush 6, 2) := by decide +kernel
theorem dL_acts_373 : decode cL_acts 373 = .ok (.iaload, 1) := by decide +kernel
theorem dL_acts_374 : decode cL_acts 374 = .ok (.invokestatic 90, 3) := by decide +kernel
theorem dL_acts_377 : decode cL_acts 377 = .ok (.istore 14, 2) := by decide +kernel
theorem dL_acts_379 : decode cL_acts 379 = .ok (.iload 14, 2) := by decide +kernel
theorem dL_acts_381 : decode cL_acts 381 = .ok (.iload 8, 2) := by decide +kernel
theorem dL_acts_383 : decode cL_acts 383 = .ok (.if_icmp .eq 13, 3) := by decide +kernel
theorem dL_acts_386 : decode cL_acts 386 = .ok (.aload 4, 2) := by decide +kernel
theorem dL_acts_388 : decode cL_acts 388 = .ok (.bipush 7, 2) := by decide +kernel
theorem dL_acts_390 : decode cL_acts 390 = .ok (.iaload, 1) := by decide +kernel
theorem dL_acts_391 : decode cL_acts 391 = .ok (.bipush 8, 2) := by decide +kernel
theorem dL_acts_393 : decode cL_acts 393 = .ok (.if_icmp .ne 22, 3) := by decide +kernel
theorem dL_acts_396 : decode cL_acts 396 = .ok (.aload_n 0, 1) := by decide +kernel
theorem dL_acts_397 : decode cL_acts 397 = .ok (.iconst 2, 1) := by decide +kernel
theorem dL_acts_398 : decode cL_acts 398 = .ok (.invokevirtual 32, 3) := by decide +kernel
theorem dL_acts_401 : decode cL_acts 401 = .ok (.aload 4, 2) := by decide +kernel
theorem dL_acts_403 : decode cL_acts 403 = .ok (.bipush 7, 2) := by decide +kernel
theorem dL_acts_405 : decode cL_acts 405 = .ok (.iaload, 1) := by decide +kernel
theorem dL_acts_406 : decode cL_acts 406 = .ok (.if_icmp .ne 7, 3) := by decide +kernel
theorem dL_acts_409 : decode cL_acts 409 = .ok (.iconst 1, 1) := by decide +kernel
theorem dL_acts_410 : decode cL_acts 410 = .ok (.goto 4, 3) := by decide +kernel
theorem dL_acts_413 : decode cL_acts 413 = .ok (.iconst 0, 1) := by decide +kernel
theorem dL_acts_414 : decode cL_acts 414 = .ok (.ireturn, 1) := by decide +kernel
theorem dL_acts_415 : decode cL_acts 415 = .ok (.aload_n 3, 1) := by decide +kernel
theorem dL_acts_416 : decode cL_acts 416 = .ok (.iconst 4, 1) := by decide +kernel
theorem dL_acts_417 : decode cL_acts 417 = .ok (.aload 4, 2) := by decide +kernel
theorem dL_acts_419 : decode cL_acts 419 = .ok (.bipush 7, 2) := by decide +kernel
theorem dL_acts_421 : decode cL_acts 421 = .ok (.iaload, 1) := by decide +kernel
theorem dL_acts_422 : decode cL_acts 422 = .ok (.imul, 1) := by decide +kernel
theorem dL_acts_423 : decode cL_acts 423 = .ok (.iload 8, 2) := by decide +kernel
theorem dL_acts_425 : decode cL_acts 425 = .ok (.iastore, 1) := by decide +kernel
theorem dL_acts_426 : decode cL_acts 426 = .ok (.aload_n 3, 1) := by decide +kernel
theorem dL_acts_427 : decode cL_acts 427 = .ok (.iconst 4, 1) := by decide +kernel
theorem dL_acts_428 : decode cL_acts 428 = .ok (.aload 4, 2) := by decide +kernel
theorem dL_acts_430 : decode cL_acts 430 = .ok (.bipush 7, 2) := by decide +kernel
theorem dL_acts_432 : decode cL_acts 432 = .ok (.iaload, 1) := by decide +kernel
theorem dL_acts_433 : decode cL_acts 433 = .ok (.imul, 1) := by decide +kernel
theorem dL_acts_434 : decode cL_acts 434 = .ok (.iconst 1, 1) := by decide +kernel
theorem dL_acts_435 : decode cL_acts 435 = .ok (.iadd, 1) := by decide +kernel
theorem dL_acts_436 : decode cL_acts 436 = .ok (.iload 14, 2) := by decide +kernel
theorem dL_acts_438 : decode cL_acts 438 = .ok (.iastore, 1) := by decide +kernel
theorem dL_acts_439 : decode cL_acts 439 = .ok (.aload_n 3, 1) := by decide +kernel
theorem dL_acts_440 : decode cL_acts 440 = .ok (.iconst 4, 1) := by decide +kernel
theorem dL_acts_441 : decode cL_acts 441 = .ok (.aload 4, 2) := by decide +kernel
theorem dL_acts_443 : decode cL_acts 443 = .ok (.bipush 7, 2) := by decide +kernel
theorem dL_acts_445 : decode cL_acts 445 = .ok (.iaload, 1) := by decide +kernel
theorem dL_acts_446 : decode cL_acts 446 = .ok (.imul, 1) := by decide +kernel
theorem dL_acts_447 : decode cL_acts 447 = .ok (.iconst 2, 1) := by decide +kernel
theorem dL_acts_448 : decode cL_acts 448 = .ok (.iadd, 1) := by decide +kernel
theorem dL_acts_449 : decode cL_acts 449 = .ok (.iload 9, 2) := by decide +kernel
theorem dL_acts_451 : decode cL_acts 451 = .ok (.iastore, 1) := by decide +kernel
theorem dL_acts_452 : decode cL_acts 452 = .ok (.aload_n 3, 1) := by decide +kernel
theorem dL_acts_453 : decode cL_acts 453 = .ok (.iconst 4, 1) := by decide +kernel
theorem dL_acts_454 : decode cL_acts 454 = .ok (.aload 4, 2) := by decide +kernel
theorem dL_acts_456 : decode cL_acts 456 = .ok (.bipush 7, 2) := by decide +kernel
theorem dL_acts_458 : decode cL_acts 458 = .ok (.iaload, 1) := by decide +kernel
theorem dL_acts_459 : decode cL_acts 459 = .ok (.imul, 1) := by decide +kernel
theorem dL_acts_460 : decode cL_acts 460 = .ok (.iconst 3, 1) := by decide +kernel
theorem dL_acts_461 : decode cL_acts 461 = .ok (.iadd, 1) := by decide +kernel
theorem dL_acts_462 : decode cL_acts 462 = .ok (.iconst 0, 1) := by decide +kernel
theorem dL_acts_463 : decode cL_acts 463 = .ok (.iastore, 1) := by decide +kernel
theorem dL_acts_464 : decode cL_acts 464 = .ok (.aload 4, 2) := by decide +kernel
theorem dL_acts_466 : decode cL_acts 466 = .ok (.bipush 7, 2) := by decide +kernel
theorem dL_acts_468 : decode cL_acts 468 = .ok (.dup2, 1) := by decide +kernel
theorem dL_acts_469 : decode cL_acts 469 = .ok (.iaload, 1) := by decide +kernel
theorem dL_acts_470 : decode cL_acts 470 = .ok (.iconst 1, 1) := by decide +kernel
theorem dL_acts_471 : decode cL_acts 471 = .ok (.iadd, 1) := by decide +kernel
theorem dL_acts_472 : decode cL_acts 472 = .ok (.iastore, 1) := by decide +kernel
theorem dL_acts_473 : decode cL_acts 473 = .ok (.aload_n 0, 1) := by decide +kernel
theorem dL_acts_474 : decode cL_acts 474 = .ok (.iload 8, 2) := by decide +kernel
theorem dL_acts_476 : decode cL_acts 476 = .ok (.iload 14, 2) := by decide +kernel
theorem dL_acts_478 : decode cL_acts 478 = .ok (.iload 9, 2) := by decide +kernel
theorem dL_acts_480 : decode cL_acts 480 = .ok (.ifCond .ne 7, 3) := by decide +kernel
theorem dL_acts_483 : decode cL_acts 483 = .ok (.iconst 1, 1) := by decide +kernel
theorem dL_acts_484 : decode cL_acts 484 = .ok (.goto 4, 3) := by decide +kernel
theorem dL_acts_487 : decode cL_acts 487 = .ok (.iconst 0, 1) := by decide +kernel
theorem dL_acts_488 : decode cL_acts 488 = .ok (.invokevirtual 109, 3) := by decide +kernel
theorem dL_acts_491 : decode cL_acts 491 = .ok (.aload 4, 2) := by decide +kernel
theorem dL_acts_493 : decode cL_acts 493 = .ok (.bipush 7, 2) := by decide +kernel
theorem dL_acts_495 : decode cL_acts 495 = .ok (.iaload, 1) := by decide +kernel
theorem dL_acts_496 : decode cL_acts 496 = .ok (.iconst 1, 1) := by decide +kernel
theorem dL_acts_497 : decode cL_acts 497 = .ok (.isub, 1) := by decide +kernel
theorem dL_acts_498 : decode cL_acts 498 = .ok (.if_icmp .ne 7, 3) := by decide +kernel
theorem dL_acts_501 : decode cL_acts 501 = .ok (.iconst 1, 1) := by decide +kernel
theorem dL_acts_502 : decode cL_acts 502 = .ok (.goto 4, 3) := by decide +kernel
theorem dL_acts_505 : decode cL_acts 505 = .ok (.iconst 0, 1) := by decide +kernel
theorem dL_acts_506 : decode cL_acts 506 = .ok (.ireturn, 1) := by decide +kernel
theorem dL_acts_507 : decode cL_acts 507 = .ok (.aload 4, 2) := by decide +kernel
theorem dL_acts_509 : decode cL_acts 509 = .ok (.bipush 7, 2) := by decide +kernel
theorem dL_acts_511 : decode cL_acts 511 = .ok (.iaload, 1) := by decide +kernel
theorem dL_acts_512 : decode cL_acts 512 = .ok (.istore 15, 2) := by decide +kernel
theorem dL_acts_514 : decode cL_acts 514 = .ok (.iload 7, 2) := by decide +kernel
theorem dL_acts_516 : decode cL_acts 516 = .ok (.iconst 4, 1) := by decide +kernel
theorem dL_acts_517 : decode cL_acts 517 = .ok (.ishr, 1) := by decide +kernel
theorem dL_acts_518 : decode cL_acts 518 = .ok (.iconst 4, 1) := by decide +kernel
theorem dL_acts_519 : decode cL_acts 519 = .ok (.invokestatic 90, 3) := by decide +kernel
theorem dL_acts_522 : decode cL_acts 522 = .ok (.ifCond .le 19, 3) := by decide +kernel
theorem dL_acts_525 : decode cL_acts 525 = .ok (.aload_n 0, 1) := by decide +kernel
theorem dL_acts_526 : decode cL_acts 526 = .ok (.iconst 2, 1) := by decide +kernel
theorem dL_acts_527 : decode cL_acts 527 = .ok (.invokevirtual 32, 3) := by decide +kernel
theorem dL_acts_530 : decode cL_acts 530 = .ok (.iload 15, 2) := by decide +kernel
theorem dL_acts_532 : decode cL_acts 532 = .ok (.if_icmp .ne 7, 3) := by decide +kernel
theorem dL_acts_535 : decode cL_acts 535 = .ok (.iconst 1, 1) := by decide +kernel
theorem dL_acts_536 : decode cL_acts 536 = .ok (.goto 4, 3) := by decide +kernel
theorem dL_acts_539 : decode cL_acts 539 = .ok (.iconst 0, 1) := by decide +kernel
theorem dL_acts_540 : decode cL_acts 540 = .ok (.ireturn, 1) := by decide +kernel
theorem dL_acts_541 : decode cL_acts 541 = .ok (.aload 4, 2) := by decide +kernel
theorem dL_acts_543 : decode cL_acts 543 = .ok (.bipush 7, 2) := by decide +kernel
theorem dL_acts_545 : decode cL_acts 545 = .ok (.iconst 0, 1) := by decide +kernel
theorem dL_acts_546 : decode cL_acts 546 = .ok (.iastore, 1) := by decide +kernel
theorem dL_acts_547 : decode cL_acts 547 = .ok (.aload_n 0, 1) := by decide +kernel
theorem dL_acts_548 : decode cL_acts 548 = .ok (.invokevirtual 113, 3) := by decide +kernel
theorem dL_acts_551 : decode cL_acts 551 = .ok (.iload 15, 2) := by decide +kernel
theorem dL_acts_553 : decode cL_acts 553 = .ok (.if_icmp .ne 7, 3) := by decide +kernel
theorem dL_acts_556 : decode cL_acts 556 = .ok (.iconst 1, 1) := by decide +kernel
theorem dL_acts_557 : decode cL_acts 557 = .ok (.goto 4, 3) := by decide +kernel
theorem dL_acts_560 : decode cL_acts 560 = .ok (.iconst 0, 1) := by decide +kernel
theorem dL_acts_561 : decode cL_acts 561 = .ok (.ireturn, 1) := by decide +kernel
theorem dL_acts_562 : decode cL_acts 562 = .ok (.aload_n 1, 1) := by decide +kernel
theorem dL_acts_563 : decode cL_acts 563 = .ok (.aload_n 2, 1) := by decide +kernel
theorem dL_acts_564 : decode cL_acts 564 = .ok (.aload 4, 2) := by decide +kernel
theorem dL_acts_566 : decode cL_acts 566 = .ok (.aload 5, 2) := by decide +kernel
theorem dL_acts_568 : decode cL_acts 568 = .ok (.iload 8, 2) := by decide +kernel
theorem dL_acts_570 : decode cL_acts 570 = .ok (.iload 9, 2) := by decide +kernel
theorem dL_acts_572 : decode cL_acts 572 = .ok (.invokestatic 28, 3) := by decide +kernel
theorem dL_acts_575 : decode cL_acts 575 = .ok (.ifCond .eq 36, 3) := by decide +kernel
theorem dL_acts_578 : decode cL_acts 578 = .ok (.aload_n 0, 1) := by decide +kernel
theorem dL_acts_579 : decode cL_acts 579 = .ok (.iload 8, 2) := by decide +kernel
theorem dL_acts_581 : decode cL_acts 581 = .ok (.iload 9, 2) := by decide +kernel
theorem dL_acts_583 : decode cL_acts 583 = .ok (.ifCond .ne 7, 3) := by decide +kernel
theorem dL_acts_586 : decode cL_acts 586 = .ok (.iconst 1, 1) := by decide +kernel
theorem dL_acts_587 : decode cL_acts 587 = .ok (.goto 4, 3) := by decide +kernel
theorem dL_acts_590 : decode cL_acts 590 = .ok (.iconst 0, 1) := by decide +kernel
theorem dL_acts_591 : decode cL_acts 591 = .ok (.invokevirtual 117, 3) := by decide +kernel
theorem dL_acts_594 : decode cL_acts 594 = .ok (.aload_n 2, 1) := by decide +kernel
theorem dL_acts_595 : decode cL_acts 595 = .ok (.aload 4, 2) := by decide +kernel
theorem dL_acts_597 : decode cL_acts 597 = .ok (.invokestatic 24, 3) := by decide +kernel
theorem dL_acts_600 : decode cL_acts 600 = .ok (.if_icmp .ne 7, 3) := by decide +kernel
theorem dL_acts_603 : decode cL_acts 603 = .ok (.iconst 1, 1) := by decide +kernel
theorem dL_acts_604 : decode cL_acts 604 = .ok (.goto 26, 3) := by decide +kernel
theorem dL_acts_607 : decode cL_acts 607 = .ok (.iconst 0, 1) := by decide +kernel
theorem dL_acts_608 : decode cL_acts 608 = .ok (.goto 22, 3) := by decide +kernel
theorem dL_acts_611 : decode cL_acts 611 = .ok (.aload_n 0, 1) := by decide +kernel
theorem dL_acts_612 : decode cL_acts 612 = .ok (.iconst 3, 1) := by decide +kernel
theorem dL_acts_613 : decode cL_acts 613 = .ok (.invokevirtual 32, 3) := by decide +kernel
theorem dL_acts_616 : decode cL_acts 616 = .ok (.aload_n 2, 1) := by decide +kernel
theorem dL_acts_617 : decode cL_acts 617 = .ok (.aload 4, 2) := by decide +kernel
theorem dL_acts_619 : decode cL_acts 619 = .ok (.invokestatic 24, 3) := by decide +kernel
theorem dL_acts_622 : decode cL_acts 622 = .ok (.if_icmp .ne 7, 3) := by decide +kernel
theorem dL_acts_625 : decode cL_acts 625 = .ok (.iconst 1, 1) := by decide +kernel
theorem dL_acts_626 : decode cL_acts 626 = .ok (.goto 4, 3) := by decide +kernel
theorem dL_acts_629 : decode cL_acts 629 = .ok (.iconst 0, 1) := by decide +kernel
theorem dL_acts_630 : decode cL_acts 630 = .ok (.ireturn, 1) := by decide +kernel
theorem dL_acts_631 : decode cL_acts 631 = .ok (.iconst 1, 1) := by decide +kernel
theorem dL_acts_632 : decode cL_acts 632 = .ok (.iload 7, 2) := by decide +kernel
theorem dL_acts_634 : decode cL_acts 634 = .ok (.iload 7, 2) := by decide +kernel
theorem dL_acts_636 : decode cL_acts 636 = .ok (.bipush 8, 2) := by decide +kernel
theorem dL_acts_638 : decode cL_acts 638 = .ok (.ishr, 1) := by decide +kernel
theorem dL_acts_639 : decode cL_acts 639 = .ok (.iconst 4, 1) := by decide +kernel
theorem dL_acts_640 : decode cL_acts 640 = .ok (.invokestatic 90, 3) := by decide +kernel
theorem dL_acts_643 : decode cL_acts 643 = .ok (.ifCond .ne 9, 3) := by decide +kernel
theorem dL_acts_646 : decode cL_acts 646 = .ok (.sipush 200, 3) := by decide +kernel
theorem dL_acts_649 : decode cL_acts 649 = .ok (.goto 5, 3) := by decide +kernel
theorem dL_acts_652 : decode cL_acts 652 = .ok (.bipush 20, 2) := by decide +kernel
theorem dL_acts_654 : decode cL_acts 654 = .ok (.invokestatic 90, 3) := by decide +kernel
theorem dL_acts_657 : decode cL_acts 657 = .ok (.iadd, 1) := by decide +kernel
theorem dL_acts_658 : decode cL_acts 658 = .ok (.istore 16, 2) := by decide +kernel
theorem dL_acts_660 : decode cL_acts 660 = .ok (.iconst 0, 1) := by decide +kernel
theorem dL_acts_661 : decode cL_acts 661 = .ok (.istore 17, 2) := by decide +kernel
theorem dL_acts_663 : decode cL_acts 663 = .ok (.iconst 0, 1) := by decide +kernel
theorem dL_acts_664 : decode cL_acts 664 = .ok (.istore 18, 2) := by decide +kernel
theorem dL_acts_666 : decode cL_acts 666 = .ok (.iload 18, 2) := by decide +kernel
theorem dL_acts_668 : decode cL_acts 668 = .ok (.iload 16, 2) := by decide +kernel
theorem dL_acts_670 : decode cL_acts 670 = .ok (.if_icmp .ge 24, 3) := by decide +kernel
theorem dL_acts_673 : decode cL_acts 673 = .ok (.iload 17, 2) := by decide +kernel
theorem dL_acts_675 : decode cL_acts 675 = .ok (.aload_n 1, 1) := by decide +kernel
theorem dL_acts_676 : decode cL_acts 676 = .ok (.aload_n 2, 1) := by decide +kernel
theorem dL_acts_677 : decode cL_acts 677 = .ok (.aload_n 3, 1) := by decide +kernel
theorem dL_acts_678 : decode cL_acts 678 = .ok (.aload 4, 2) := by decide +kernel
theorem dL_acts_680 : decode cL_acts 680 = .ok (.aload 5, 2) := by decide +kernel
theorem dL_acts_682 : decode cL_acts 682 = .ok (.invokestatic 67, 3) := by decide +kernel
theorem dL_acts_685 : decode cL_acts 685 = .ok (.iadd, 1) := by decide +kernel
theorem dL_acts_686 : decode cL_acts 686 = .ok (.istore 17, 2) := by decide +kernel
theorem dL_acts_688 : decode cL_acts 688 = .ok (.iinc 18 1, 3) := by decide +kernel
theorem dL_acts_691 : decode cL_acts 691 = .ok (.goto (-25), 3) := by decide +kernel
theorem dL_acts_694 : decode cL_acts 694 = .ok (.aload_n 0, 1) := by decide +kernel
theorem dL_acts_695 : decode cL_acts 695 = .ok (.iload 16, 2) := by decide +kernel
theorem dL_acts_697 : decode cL_acts 697 = .ok (.invokevirtual 120, 3) := by decide +kernel
theorem dL_acts_700 : decode cL_acts 700 = .ok (.iload 17, 2) := by decide +kernel
theorem dL_acts_702 : decode cL_acts 702 = .ok (.if_icmp .ne 7, 3) := by decide +kernel
theorem dL_acts_705 : decode cL_acts 705 = .ok (.iconst 1, 1) := by decide +kernel
theorem dL_acts_706 : decode cL_acts 706 = .ok (.goto 4, 3) := by decide +kernel
theorem dL_acts_709 : decode cL_acts 709 = .ok (.iconst 0, 1) := by decide +kernel
theorem dL_acts_710 : decode cL_acts 710 = .ok (.ireturn, 1) := by decide +kernel
