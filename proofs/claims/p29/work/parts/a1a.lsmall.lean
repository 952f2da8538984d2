/-! the law's words and instructions (out of a short program) -/
set_option maxRecDepth 20000 in
theorem ggL_left_L_time : GoodIn wsL_left wsL_time := goodIn_r _ [4] (by decide +kernel) (by decide +kernel)
set_option maxRecDepth 20000 in
theorem gL_left_L_time : GoodIn wsL_left (va_wsS RL 9 yL_time wsL_time) := goodIn_app (goodIn_of _ (by decide +kernel)) ggL_left_L_time
set_option maxRecDepth 20000 in
theorem ggL_lights_L_left : GoodIn wsL_lights wsL_left := goodIn_r _ [4, 5, 6, 3, 7] (by decide +kernel) (by decide +kernel)
set_option maxRecDepth 20000 in
theorem gL_lights_L_left : GoodIn wsL_lights (va_wsS RL 16 yL_left wsL_left) := goodIn_app (goodIn_of _ (by decide +kernel)) ggL_lights_L_left
set_option maxRecDepth 20000 in
theorem ggL_lights_L_writes : GoodIn wsL_lights wsL_writes := goodIn_r _ [10, 11] (by decide +kernel) (by decide +kernel)
set_option maxRecDepth 20000 in
theorem gL_lights_L_writes : GoodIn wsL_lights (va_wsS RL 20 yL_writes wsL_writes) := goodIn_app (goodIn_of _ (by decide +kernel)) ggL_lights_L_writes
set_option maxRecDepth 20000 in
theorem ggL_steps_L_flames : GoodIn wsL_steps wsL_flames := goodIn_r _ [4] (by decide +kernel) (by decide +kernel)
set_option maxRecDepth 20000 in
theorem gL_steps_L_flames : GoodIn wsL_steps (va_wsS RL 24 yL_flames wsL_flames) := goodIn_app (goodIn_of _ (by decide +kernel)) ggL_steps_L_flames
set_option maxRecDepth 20000 in
theorem ggL_steps_L_left : GoodIn wsL_steps wsL_left := goodIn_r _ [7, 8, 9, 3, 10] (by decide +kernel) (by decide +kernel)
set_option maxRecDepth 20000 in
theorem gL_steps_L_left : GoodIn wsL_steps (va_wsS RL 16 yL_left wsL_left) := goodIn_app (goodIn_of _ (by decide +kernel)) ggL_steps_L_left
set_option maxRecDepth 20000 in
theorem ggL_steps_L_writes : GoodIn wsL_steps wsL_writes := goodIn_r _ [13, 14] (by decide +kernel) (by decide +kernel)
set_option maxRecDepth 20000 in
theorem gL_steps_L_writes : GoodIn wsL_steps (va_wsS RL 20 yL_writes wsL_writes) := goodIn_app (goodIn_of _ (by decide +kernel)) ggL_steps_L_writes
set_option maxRecDepth 20000 in
theorem ggL_steps_L_lights : GoodIn wsL_steps wsL_lights := goodIn_r _ [17, 5, 6, 3, 7, 8, 9, 10, 11, 12, 13, 14] (by decide +kernel) (by decide +kernel)
set_option maxRecDepth 20000 in
theorem gL_steps_L_lights : GoodIn wsL_steps (va_wsS RL 28 yL_lights wsL_lights) := goodIn_app (goodIn_of _ (by decide +kernel)) ggL_steps_L_lights
set_option maxRecDepth 20000 in
theorem ggL_tells_L_fewest : GoodIn wsL_tells wsL_fewest := goodIn_r _ [4] (by decide +kernel) (by decide +kernel)
set_option maxRecDepth 20000 in
theorem gL_tells_L_fewest : GoodIn wsL_tells (va_wsS RL 74 yL_fewest wsL_fewest) := goodIn_app (goodIn_of _ (by decide +kernel)) ggL_tells_L_fewest
set_option maxRecDepth 20000 in
theorem ggL_plan_L_tells : GoodIn wsL_plan wsL_tells := goodIn_r _ [5, 6, 7, 4, 8] (by decide +kernel) (by decide +kernel)
set_option maxRecDepth 20000 in
theorem gL_plan_L_tells : GoodIn wsL_plan (va_wsS RL 77 yL_tells wsL_tells) := goodIn_app (goodIn_of _ (by decide +kernel)) ggL_plan_L_tells
theorem dL_cell_0 : decode cL_cell 0 = .ok (.iload_n 1, 1) := by decide +kernel
theorem dL_cell_1 : decode cL_cell 1 = .ok (.aload_n 0, 1) := by decide +kernel
theorem dL_cell_2 : decode cL_cell 2 = .ok (.arraylength, 1) := by decide +kernel
theorem dL_cell_3 : decode cL_cell 3 = .ok (.if_icmp .ge 9, 3) := by decide +kernel
theorem dL_cell_6 : decode cL_cell 6 = .ok (.aload_n 0, 1) := by decide +kernel
theorem dL_cell_7 : decode cL_cell 7 = .ok (.iload_n 1, 1) := by decide +kernel
theorem dL_cell_8 : decode cL_cell 8 = .ok (.iaload, 1) := by decide +kernel
theorem dL_cell_9 : decode cL_cell 9 = .ok (.goto 9, 3) := by decide +kernel
theorem dL_cell_12 : decode cL_cell 12 = .ok (.ldc 7, 2) := by decide +kernel
theorem dL_cell_14 : decode cL_cell 14 = .ok (.iload_n 1, 1) := by decide +kernel
theorem dL_cell_15 : decode cL_cell 15 = .ok (.iconst 1, 1) := by decide +kernel
theorem dL_cell_16 : decode cL_cell 16 = .ok (.iadd, 1) := by decide +kernel
theorem dL_cell_17 : decode cL_cell 17 = .ok (.imul, 1) := by decide +kernel
theorem dL_cell_18 : decode cL_cell 18 = .ok (.ireturn, 1) := by decide +kernel
theorem dL_low_0 : decode cL_low 0 = .ok (.iload_n 0, 1) := by decide +kernel
theorem dL_low_1 : decode cL_low 1 = .ok (.ldc 8, 2) := by decide +kernel
theorem dL_low_3 : decode cL_low 3 = .ok (.iand, 1) := by decide +kernel
theorem dL_low_4 : decode cL_low 4 = .ok (.iload_n 1, 1) := by decide +kernel
theorem dL_low_5 : decode cL_low 5 = .ok (.irem, 1) := by decide +kernel
theorem dL_low_6 : decode cL_low 6 = .ok (.ireturn, 1) := by decide +kernel
theorem dL_time_0 : decode cL_time 0 = .ok (.iconst 0, 1) := by decide +kernel
theorem dL_time_1 : decode cL_time 1 = .ok (.istore_n 2, 1) := by decide +kernel
theorem dL_time_2 : decode cL_time 2 = .ok (.iconst 0, 1) := by decide +kernel
theorem dL_time_3 : decode cL_time 3 = .ok (.istore_n 3, 1) := by decide +kernel
theorem dL_time_4 : decode cL_time 4 = .ok (.iload_n 3, 1) := by decide +kernel
theorem dL_time_5 : decode cL_time 5 = .ok (.bipush 6, 2) := by decide +kernel
theorem dL_time_7 : decode cL_time 7 = .ok (.if_icmp .ge 20, 3) := by decide +kernel
theorem dL_time_10 : decode cL_time 10 = .ok (.iload_n 2, 1) := by decide +kernel
theorem dL_time_11 : decode cL_time 11 = .ok (.aload_n 0, 1) := by decide +kernel
theorem dL_time_12 : decode cL_time 12 = .ok (.bipush 6, 2) := by decide +kernel
theorem dL_time_14 : decode cL_time 14 = .ok (.iload_n 1, 1) := by decide +kernel
theorem dL_time_15 : decode cL_time 15 = .ok (.imul, 1) := by decide +kernel
theorem dL_time_16 : decode cL_time 16 = .ok (.iload_n 3, 1) := by decide +kernel
theorem dL_time_17 : decode cL_time 17 = .ok (.iadd, 1) := by decide +kernel
theorem dL_time_18 : decode cL_time 18 = .ok (.iaload, 1) := by decide +kernel
theorem dL_time_19 : decode cL_time 19 = .ok (.iadd, 1) := by decide +kernel
theorem dL_time_20 : decode cL_time 20 = .ok (.istore_n 2, 1) := by decide +kernel
theorem dL_time_21 : decode cL_time 21 = .ok (.iinc 3 1, 3) := by decide +kernel
theorem dL_time_24 : decode cL_time 24 = .ok (.goto (-20), 3) := by decide +kernel
theorem dL_time_27 : decode cL_time 27 = .ok (.iload_n 2, 1) := by decide +kernel
theorem dL_time_28 : decode cL_time 28 = .ok (.ireturn, 1) := by decide +kernel
theorem dL_left_0 : decode cL_left 0 = .ok (.aload_n 0, 1) := by decide +kernel
theorem dL_left_1 : decode cL_left 1 = .ok (.iload_n 2, 1) := by decide +kernel
theorem dL_left_2 : decode cL_left 2 = .ok (.invokestatic 9, 3) := by decide +kernel
theorem dL_left_5 : decode cL_left 5 = .ok (.aload_n 1, 1) := by decide +kernel
theorem dL_left_6 : decode cL_left 6 = .ok (.iconst 5, 1) := by decide +kernel
theorem dL_left_7 : decode cL_left 7 = .ok (.iload_n 2, 1) := by decide +kernel
theorem dL_left_8 : decode cL_left 8 = .ok (.imul, 1) := by decide +kernel
theorem dL_left_9 : decode cL_left 9 = .ok (.iaload, 1) := by decide +kernel
theorem dL_left_10 : decode cL_left 10 = .ok (.isub, 1) := by decide +kernel
theorem dL_left_11 : decode cL_left 11 = .ok (.aload_n 1, 1) := by decide +kernel
theorem dL_left_12 : decode cL_left 12 = .ok (.iconst 5, 1) := by decide +kernel
theorem dL_left_13 : decode cL_left 13 = .ok (.iload_n 2, 1) := by decide +kernel
theorem dL_left_14 : decode cL_left 14 = .ok (.imul, 1) := by decide +kernel
theorem dL_left_15 : decode cL_left 15 = .ok (.iconst 1, 1) := by decide +kernel
theorem dL_left_16 : decode cL_left 16 = .ok (.iadd, 1) := by decide +kernel
theorem dL_left_17 : decode cL_left 17 = .ok (.iaload, 1) := by decide +kernel
theorem dL_left_18 : decode cL_left 18 = .ok (.isub, 1) := by decide +kernel
theorem dL_left_19 : decode cL_left 19 = .ok (.ireturn, 1) := by decide +kernel
theorem dL_writes_0 : decode cL_writes 0 = .ok (.bipush 7, 2) := by decide +kernel
theorem dL_writes_2 : decode cL_writes 2 = .ok (.istore 4, 2) := by decide +kernel
theorem dL_writes_4 : decode cL_writes 4 = .ok (.iload 4, 2) := by decide +kernel
theorem dL_writes_6 : decode cL_writes 6 = .ok (.ifCond .le 19, 3) := by decide +kernel
theorem dL_writes_9 : decode cL_writes 9 = .ok (.aload_n 0, 1) := by decide +kernel
theorem dL_writes_10 : decode cL_writes 10 = .ok (.iload 4, 2) := by decide +kernel
theorem dL_writes_12 : decode cL_writes 12 = .ok (.aload_n 0, 1) := by decide +kernel
theorem dL_writes_13 : decode cL_writes 13 = .ok (.iload 4, 2) := by decide +kernel
theorem dL_writes_15 : decode cL_writes 15 = .ok (.iconst 1, 1) := by decide +kernel
theorem dL_writes_16 : decode cL_writes 16 = .ok (.isub, 1) := by decide +kernel
theorem dL_writes_17 : decode cL_writes 17 = .ok (.iaload, 1) := by decide +kernel
theorem dL_writes_18 : decode cL_writes 18 = .ok (.iastore, 1) := by decide +kernel
theorem dL_writes_19 : decode cL_writes 19 = .ok (.iinc 4 (-1), 3) := by decide +kernel
theorem dL_writes_22 : decode cL_writes 22 = .ok (.goto (-18), 3) := by decide +kernel
theorem dL_writes_25 : decode cL_writes 25 = .ok (.aload_n 0, 1) := by decide +kernel
theorem dL_writes_26 : decode cL_writes 26 = .ok (.iconst 0, 1) := by decide +kernel
theorem dL_writes_27 : decode cL_writes 27 = .ok (.ldc 15, 2) := by decide +kernel
theorem dL_writes_29 : decode cL_writes 29 = .ok (.iload_n 2, 1) := by decide +kernel
theorem dL_writes_30 : decode cL_writes 30 = .ok (.imul, 1) := by decide +kernel
theorem dL_writes_31 : decode cL_writes 31 = .ok (.bipush 10, 2) := by decide +kernel
theorem dL_writes_33 : decode cL_writes 33 = .ok (.aload_n 1, 1) := by decide +kernel
theorem dL_writes_34 : decode cL_writes 34 = .ok (.iconst 0, 1) := by decide +kernel
theorem dL_writes_35 : decode cL_writes 35 = .ok (.iaload, 1) := by decide +kernel
theorem dL_writes_36 : decode cL_writes 36 = .ok (.imul, 1) := by decide +kernel
theorem dL_writes_37 : decode cL_writes 37 = .ok (.iadd, 1) := by decide +kernel
theorem dL_writes_38 : decode cL_writes 38 = .ok (.iload_n 3, 1) := by decide +kernel
theorem dL_writes_39 : decode cL_writes 39 = .ok (.iadd, 1) := by decide +kernel
theorem dL_writes_40 : decode cL_writes 40 = .ok (.iastore, 1) := by decide +kernel
theorem dL_writes_41 : decode cL_writes 41 = .ok (.aload_n 1, 1) := by decide +kernel
theorem dL_writes_42 : decode cL_writes 42 = .ok (.bipush 8, 2) := by decide +kernel
theorem dL_writes_44 : decode cL_writes 44 = .ok (.dup2, 1) := by decide +kernel
theorem dL_writes_45 : decode cL_writes 45 = .ok (.iaload, 1) := by decide +kernel
theorem dL_writes_46 : decode cL_writes 46 = .ok (.aload_n 1, 1) := by decide +kernel
theorem dL_writes_47 : decode cL_writes 47 = .ok (.bipush 8, 2) := by decide +kernel
theorem dL_writes_49 : decode cL_writes 49 = .ok (.iaload, 1) := by decide +kernel
theorem dL_writes_50 : decode cL_writes 50 = .ok (.bipush 8, 2) := by decide +kernel
theorem dL_writes_52 : decode cL_writes 52 = .ok (.if_icmp .ge 7, 3) := by decide +kernel
theorem dL_writes_55 : decode cL_writes 55 = .ok (.iconst 1, 1) := by decide +kernel
theorem dL_writes_56 : decode cL_writes 56 = .ok (.goto 4, 3) := by decide +kernel
theorem dL_writes_59 : decode cL_writes 59 = .ok (.iconst 0, 1) := by decide +kernel
theorem dL_writes_60 : decode cL_writes 60 = .ok (.iadd, 1) := by decide +kernel
theorem dL_writes_61 : decode cL_writes 61 = .ok (.iastore, 1) := by decide +kernel
theorem dL_writes_62 : decode cL_writes 62 = .ok (.return_, 1) := by decide +kernel
theorem dL_lights_0 : decode cL_lights 0 = .ok (.aload_n 0, 1) := by decide +kernel
theorem dL_lights_1 : decode cL_lights 1 = .ok (.aload_n 1, 1) := by decide +kernel
theorem dL_lights_2 : decode cL_lights 2 = .ok (.iload 4, 2) := by decide +kernel
theorem dL_lights_4 : decode cL_lights 4 = .ok (.invokestatic 16, 3) := by decide +kernel
theorem dL_lights_7 : decode cL_lights 7 = .ok (.ifCond .le 21, 3) := by decide +kernel
theorem dL_lights_10 : decode cL_lights 10 = .ok (.aload_n 1, 1) := by decide +kernel
theorem dL_lights_11 : decode cL_lights 11 = .ok (.iconst 5, 1) := by decide +kernel
theorem dL_lights_12 : decode cL_lights 12 = .ok (.iload 4, 2) := by decide +kernel
theorem dL_lights_14 : decode cL_lights 14 = .ok (.imul, 1) := by decide +kernel
theorem dL_lights_15 : decode cL_lights 15 = .ok (.iconst 2, 1) := by decide +kernel
theorem dL_lights_16 : decode cL_lights 16 = .ok (.iadd, 1) := by decide +kernel
theorem dL_lights_17 : decode cL_lights 17 = .ok (.iload 5, 2) := by decide +kernel
theorem dL_lights_19 : decode cL_lights 19 = .ok (.iadd, 1) := by decide +kernel
theorem dL_lights_20 : decode cL_lights 20 = .ok (.iaload, 1) := by decide +kernel
theorem dL_lights_21 : decode cL_lights 21 = .ok (.ifCond .ne 7, 3) := by decide +kernel
theorem dL_lights_24 : decode cL_lights 24 = .ok (.iconst 1, 1) := by decide +kernel
theorem dL_lights_25 : decode cL_lights 25 = .ok (.goto 4, 3) := by decide +kernel
theorem dL_lights_28 : decode cL_lights 28 = .ok (.iconst 0, 1) := by decide +kernel
theorem dL_lights_29 : decode cL_lights 29 = .ok (.istore 6, 2) := by decide +kernel
theorem dL_lights_31 : decode cL_lights 31 = .ok (.iload 6, 2) := by decide +kernel
theorem dL_lights_33 : decode cL_lights 33 = .ok (.ifCond .eq 31, 3) := by decide +kernel
theorem dL_lights_36 : decode cL_lights 36 = .ok (.aload_n 1, 1) := by decide +kernel
theorem dL_lights_37 : decode cL_lights 37 = .ok (.iconst 5, 1) := by decide +kernel
theorem dL_lights_38 : decode cL_lights 38 = .ok (.iload 4, 2) := by decide +kernel
theorem dL_lights_40 : decode cL_lights 40 = .ok (.imul, 1) := by decide +kernel
theorem dL_lights_41 : decode cL_lights 41 = .ok (.iconst 2, 1) := by decide +kernel
theorem dL_lights_42 : decode cL_lights 42 = .ok (.iadd, 1) := by decide +kernel
theorem dL_lights_43 : decode cL_lights 43 = .ok (.iload 5, 2) := by decide +kernel
theorem dL_lights_45 : decode cL_lights 45 = .ok (.iadd, 1) := by decide +kernel
theorem dL_lights_46 : decode cL_lights 46 = .ok (.iconst 1, 1) := by decide +kernel
theorem dL_lights_47 : decode cL_lights 47 = .ok (.iastore, 1) := by decide +kernel
theorem dL_lights_48 : decode cL_lights 48 = .ok (.aload_n 2, 1) := by decide +kernel
theorem dL_lights_49 : decode cL_lights 49 = .ok (.iconst 2, 1) := by decide +kernel
theorem dL_lights_50 : decode cL_lights 50 = .ok (.dup2, 1) := by decide +kernel
theorem dL_lights_51 : decode cL_lights 51 = .ok (.iaload, 1) := by decide +kernel
theorem dL_lights_52 : decode cL_lights 52 = .ok (.iconst 1, 1) := by decide +kernel
theorem dL_lights_53 : decode cL_lights 53 = .ok (.iadd, 1) := by decide +kernel
theorem dL_lights_54 : decode cL_lights 54 = .ok (.iastore, 1) := by decide +kernel
theorem dL_lights_55 : decode cL_lights 55 = .ok (.aload_n 3, 1) := by decide +kernel
theorem dL_lights_56 : decode cL_lights 56 = .ok (.aload_n 2, 1) := by decide +kernel
theorem dL_lights_57 : decode cL_lights 57 = .ok (.iload 5, 2) := by decide +kernel
theorem dL_lights_59 : decode cL_lights 59 = .ok (.iload 4, 2) := by decide +kernel
theorem dL_lights_61 : decode cL_lights 61 = .ok (.invokestatic 20, 3) := by decide +kernel
theorem dL_lights_64 : decode cL_lights 64 = .ok (.iload 6, 2) := by decide +kernel
theorem dL_lights_66 : decode cL_lights 66 = .ok (.ireturn, 1) := by decide +kernel
theorem dL_flames_0 : decode cL_flames 0 = .ok (.iconst 0, 1) := by decide +kernel
theorem dL_flames_1 : decode cL_flames 1 = .ok (.istore_n 2, 1) := by decide +kernel
theorem dL_flames_2 : decode cL_flames 2 = .ok (.iconst 0, 1) := by decide +kernel
theorem dL_flames_3 : decode cL_flames 3 = .ok (.istore_n 3, 1) := by decide +kernel
theorem dL_flames_4 : decode cL_flames 4 = .ok (.iload_n 3, 1) := by decide +kernel
theorem dL_flames_5 : decode cL_flames 5 = .ok (.aload_n 1, 1) := by decide +kernel
theorem dL_flames_6 : decode cL_flames 6 = .ok (.bipush 6, 2) := by decide +kernel
theorem dL_flames_8 : decode cL_flames 8 = .ok (.iaload, 1) := by decide +kernel
theorem dL_flames_9 : decode cL_flames 9 = .ok (.if_icmp .ge 27, 3) := by decide +kernel
theorem dL_flames_12 : decode cL_flames 12 = .ok (.iload_n 2, 1) := by decide +kernel
theorem dL_flames_13 : decode cL_flames 13 = .ok (.aload_n 0, 1) := by decide +kernel
theorem dL_flames_14 : decode cL_flames 14 = .ok (.iconst 5, 1) := by decide +kernel
theorem dL_flames_15 : decode cL_flames 15 = .ok (.iload_n 3, 1) := by decide +kernel
theorem dL_flames_16 : decode cL_flames 16 = .ok (.imul, 1) := by decide +kernel
theorem dL_flames_17 : decode cL_flames 17 = .ok (.iconst 2, 1) := by decide +kernel
theorem dL_flames_18 : decode cL_flames 18 = .ok (.iadd, 1) := by decide +kernel
theorem dL_flames_19 : decode cL_flames 19 = .ok (.iaload, 1) := by decide +kernel
theorem dL_flames_20 : decode cL_flames 20 = .ok (.aload_n 0, 1) := by decide +kernel
theorem dL_flames_21 : decode cL_flames 21 = .ok (.iconst 5, 1) := by decide +kernel
theorem dL_flames_22 : decode cL_flames 22 = .ok (.iload_n 3, 1) := by decide +kernel
theorem dL_flames_23 : decode cL_flames 23 = .ok (.imul, 1) := by decide +kernel
theorem dL_flames_24 : decode cL_flames 24 = .ok (.iconst 3, 1) := by decide +kernel
theorem dL_flames_25 : decode cL_flames 25 = .ok (.iadd, 1) := by decide +kernel
theorem dL_flames_26 : decode cL_flames 26 = .ok (.iaload, 1) := by decide +kernel
theorem dL_flames_27 : decode cL_flames 27 = .ok (.iadd, 1) := by decide +kernel
theorem dL_flames_28 : decode cL_flames 28 = .ok (.iadd, 1) := by decide +kernel
theorem dL_flames_29 : decode cL_flames 29 = .ok (.istore_n 2, 1) := by decide +kernel
theorem dL_flames_30 : decode cL_flames 30 = .ok (.iinc 3 1, 3) := by decide +kernel
theorem dL_flames_33 : decode cL_flames 33 = .ok (.goto (-29), 3) := by decide +kernel
theorem dL_flames_36 : decode cL_flames 36 = .ok (.iload_n 2, 1) := by decide +kernel
theorem dL_flames_37 : decode cL_flames 37 = .ok (.ireturn, 1) := by decide +kernel
theorem dL_copy_0 : decode cL_copy 0 = .ok (.iconst 0, 1) := by decide +kernel
theorem dL_copy_1 : decode cL_copy 1 = .ok (.istore_n 2, 1) := by decide +kernel
theorem dL_copy_2 : decode cL_copy 2 = .ok (.iload_n 2, 1) := by decide +kernel
theorem dL_copy_3 : decode cL_copy 3 = .ok (.aload_n 0, 1) := by decide +kernel
theorem dL_copy_4 : decode cL_copy 4 = .ok (.arraylength, 1) := by decide +kernel
theorem dL_copy_5 : decode cL_copy 5 = .ok (.if_icmp .ge 15, 3) := by decide +kernel
theorem dL_copy_8 : decode cL_copy 8 = .ok (.aload_n 1, 1) := by decide +kernel
theorem dL_copy_9 : decode cL_copy 9 = .ok (.iload_n 2, 1) := by decide +kernel
theorem dL_copy_10 : decode cL_copy 10 = .ok (.aload_n 0, 1) := by decide +kernel
theorem dL_copy_11 : decode cL_copy 11 = .ok (.iload_n 2, 1) := by decide +kernel
theorem dL_copy_12 : decode cL_copy 12 = .ok (.iaload, 1) := by decide +kernel
theorem dL_copy_13 : decode cL_copy 13 = .ok (.iastore, 1) := by decide +kernel
theorem dL_copy_14 : decode cL_copy 14 = .ok (.iinc 2 1, 3) := by decide +kernel
theorem dL_copy_17 : decode cL_copy 17 = .ok (.goto (-15), 3) := by decide +kernel
theorem dL_copy_20 : decode cL_copy 20 = .ok (.return_, 1) := by decide +kernel
theorem dL_fewest_0 : decode cL_fewest 0 = .ok (.iload_n 2, 1) := by decide +kernel
theorem dL_fewest_1 : decode cL_fewest 1 = .ok (.bipush 10, 2) := by decide +kernel
theorem dL_fewest_3 : decode cL_fewest 3 = .ok (.idiv, 1) := by decide +kernel
theorem dL_fewest_4 : decode cL_fewest 4 = .ok (.istore_n 3, 1) := by decide +kernel
theorem dL_fewest_5 : decode cL_fewest 5 = .ok (.iload_n 3, 1) := by decide +kernel
theorem dL_fewest_6 : decode cL_fewest 6 = .ok (.bipush 55, 2) := by decide +kernel
theorem dL_fewest_8 : decode cL_fewest 8 = .ok (.if_icmp .ge 9, 3) := by decide +kernel
theorem dL_fewest_11 : decode cL_fewest 11 = .ok (.aload_n 0, 1) := by decide +kernel
theorem dL_fewest_12 : decode cL_fewest 12 = .ok (.iload_n 3, 1) := by decide +kernel
theorem dL_fewest_13 : decode cL_fewest 13 = .ok (.iaload, 1) := by decide +kernel
theorem dL_fewest_14 : decode cL_fewest 14 = .ok (.goto 9, 3) := by decide +kernel
theorem dL_fewest_17 : decode cL_fewest 17 = .ok (.aload_n 1, 1) := by decide +kernel
theorem dL_fewest_18 : decode cL_fewest 18 = .ok (.iload_n 3, 1) := by decide +kernel
theorem dL_fewest_19 : decode cL_fewest 19 = .ok (.bipush 55, 2) := by decide +kernel
theorem dL_fewest_21 : decode cL_fewest 21 = .ok (.isub, 1) := by decide +kernel
theorem dL_fewest_22 : decode cL_fewest 22 = .ok (.iaload, 1) := by decide +kernel
theorem dL_fewest_23 : decode cL_fewest 23 = .ok (.iconst 3, 1) := by decide +kernel
theorem dL_fewest_24 : decode cL_fewest 24 = .ok (.iload_n 2, 1) := by decide +kernel
theorem dL_fewest_25 : decode cL_fewest 25 = .ok (.bipush 10, 2) := by decide +kernel
theorem dL_fewest_27 : decode cL_fewest 27 = .ok (.irem, 1) := by decide +kernel
theorem dL_fewest_28 : decode cL_fewest 28 = .ok (.imul, 1) := by decide +kernel
theorem dL_fewest_29 : decode cL_fewest 29 = .ok (.ishr, 1) := by decide +kernel
theorem dL_fewest_30 : decode cL_fewest 30 = .ok (.bipush 7, 2) := by decide +kernel
theorem dL_fewest_32 : decode cL_fewest 32 = .ok (.iand, 1) := by decide +kernel
theorem dL_fewest_33 : decode cL_fewest 33 = .ok (.ireturn, 1) := by decide +kernel
theorem dL_tells_0 : decode cL_tells 0 = .ok (.aload_n 0, 1) := by decide +kernel
theorem dL_tells_1 : decode cL_tells 1 = .ok (.aload_n 1, 1) := by decide +kernel
theorem dL_tells_2 : decode cL_tells 2 = .ok (.iload_n 2, 1) := by decide +kernel
theorem dL_tells_3 : decode cL_tells 3 = .ok (.invokestatic 74, 3) := by decide +kernel
theorem dL_tells_6 : decode cL_tells 6 = .ok (.istore 4, 2) := by decide +kernel
theorem dL_tells_8 : decode cL_tells 8 = .ok (.iload 4, 2) := by decide +kernel
theorem dL_tells_10 : decode cL_tells 10 = .ok (.ifCond .eq 9, 3) := by decide +kernel
theorem dL_tells_13 : decode cL_tells 13 = .ok (.iload_n 3, 1) := by decide +kernel
theorem dL_tells_14 : decode cL_tells 14 = .ok (.iload 4, 2) := by decide +kernel
theorem dL_tells_16 : decode cL_tells 16 = .ok (.if_icmp .ge 87, 3) := by decide +kernel
theorem dL_tells_19 : decode cL_tells 19 = .ok (.iload 4, 2) := by decide +kernel
theorem dL_tells_21 : decode cL_tells 21 = .ok (.iload_n 3, 1) := by decide +kernel
theorem dL_tells_22 : decode cL_tells 22 = .ok (.ixor, 1) := by decide +kernel
theorem dL_tells_23 : decode cL_tells 23 = .ok (.iconst 3, 1) := by decide +kernel
theorem dL_tells_24 : decode cL_tells 24 = .ok (.iload_n 2, 1) := by decide +kernel
theorem dL_tells_25 : decode cL_tells 25 = .ok (.bipush 10, 2) := by decide +kernel
theorem dL_tells_27 : decode cL_tells 27 = .ok (.irem, 1) := by decide +kernel
theorem dL_tells_28 : decode cL_tells 28 = .ok (.imul, 1) := by decide +kernel
theorem dL_tells_29 : decode cL_tells 29 = .ok (.ishl, 1) := by decide +kernel
theorem dL_tells_30 : decode cL_tells 30 = .ok (.istore 5, 2) := by decide +kernel
theorem dL_tells_32 : decode cL_tells 32 = .ok (.iload_n 2, 1) := by decide +kernel
theorem dL_tells_33 : decode cL_tells 33 = .ok (.bipush 10, 2) := by decide +kernel
theorem dL_tells_35 : decode cL_tells 35 = .ok (.idiv, 1) := by decide +kernel
theorem dL_tells_36 : decode cL_tells 36 = .ok (.istore 6, 2) := by decide +kernel
theorem dL_tells_38 : decode cL_tells 38 = .ok (.aload_n 0, 1) := by decide +kernel
theorem dL_tells_39 : decode cL_tells 39 = .ok (.iload 6, 2) := by decide +kernel
theorem dL_tells_41 : decode cL_tells 41 = .ok (.bipush 55, 2) := by decide +kernel
theorem dL_tells_43 : decode cL_tells 43 = .ok (.if_icmp .ge 8, 3) := by decide +kernel
theorem dL_tells_46 : decode cL_tells 46 = .ok (.iload 6, 2) := by decide +kernel
theorem dL_tells_48 : decode cL_tells 48 = .ok (.goto 4, 3) := by decide +kernel
theorem dL_tells_51 : decode cL_tells 51 = .ok (.iconst 0, 1) := by decide +kernel
theorem dL_tells_52 : decode cL_tells 52 = .ok (.dup2, 1) := by decide +kernel
theorem dL_tells_53 : decode cL_tells 53 = .ok (.iaload, 1) := by decide +kernel
theorem dL_tells_54 : decode cL_tells 54 = .ok (.iload 6, 2) := by decide +kernel
theorem dL_tells_56 : decode cL_tells 56 = .ok (.bipush 55, 2) := by decide +kernel
theorem dL_tells_58 : decode cL_tells 58 = .ok (.if_icmp .ge 8, 3) := by decide +kernel
theorem dL_tells_61 : decode cL_tells 61 = .ok (.iload 5, 2) := by decide +kernel
theorem dL_tells_63 : decode cL_tells 63 = .ok (.goto 4, 3) := by decide +kernel
theorem dL_tells_66 : decode cL_tells 66 = .ok (.iconst 0, 1) := by decide +kernel
theorem dL_tells_67 : decode cL_tells 67 = .ok (.ixor, 1) := by decide +kernel
theorem dL_tells_68 : decode cL_tells 68 = .ok (.iastore, 1) := by decide +kernel
theorem dL_tells_69 : decode cL_tells 69 = .ok (.aload_n 1, 1) := by decide +kernel
theorem dL_tells_70 : decode cL_tells 70 = .ok (.iload 6, 2) := by decide +kernel
theorem dL_tells_72 : decode cL_tells 72 = .ok (.bipush 55, 2) := by decide +kernel
theorem dL_tells_74 : decode cL_tells 74 = .ok (.if_icmp .ge 7, 3) := by decide +kernel
theorem dL_tells_77 : decode cL_tells 77 = .ok (.iconst 0, 1) := by decide +kernel
theorem dL_tells_78 : decode cL_tells 78 = .ok (.goto 8, 3) := by decide +kernel
theorem dL_tells_81 : decode cL_tells 81 = .ok (.iload 6, 2) := by decide +kernel
theorem dL_tells_83 : decode cL_tells 83 = .ok (.bipush 55, 2) := by decide +kernel
theorem dL_tells_85 : decode cL_tells 85 = .ok (.isub, 1) := by decide +kernel
theorem dL_tells_86 : decode cL_tells 86 = .ok (.dup2, 1) := by decide +kernel
theorem dL_tells_87 : decode cL_tells 87 = .ok (.iaload, 1) := by decide +kernel
theorem dL_tells_88 : decode cL_tells 88 = .ok (.iload 6, 2) := by decide +kernel
theorem dL_tells_90 : decode cL_tells 90 = .ok (.bipush 55, 2) := by decide +kernel
theorem dL_tells_92 : decode cL_tells 92 = .ok (.if_icmp .ge 7, 3) := by decide +kernel
theorem dL_tells_95 : decode cL_tells 95 = .ok (.iconst 0, 1) := by decide +kernel
theorem dL_tells_96 : decode cL_tells 96 = .ok (.goto 5, 3) := by decide +kernel
theorem dL_tells_99 : decode cL_tells 99 = .ok (.iload 5, 2) := by decide +kernel
theorem dL_tells_101 : decode cL_tells 101 = .ok (.ixor, 1) := by decide +kernel
theorem dL_tells_102 : decode cL_tells 102 = .ok (.iastore, 1) := by decide +kernel
theorem dL_tells_103 : decode cL_tells 103 = .ok (.return_, 1) := by decide +kernel
theorem dL_plan_0 : decode cL_plan 0 = .ok (.iconst 3, 1) := by decide +kernel
theorem dL_plan_1 : decode cL_plan 1 = .ok (.newarray .int, 2) := by decide +kernel
theorem dL_plan_3 : decode cL_plan 3 = .ok (.astore 6, 2) := by decide +kernel
theorem dL_plan_5 : decode cL_plan 5 = .ok (.aload 6, 2) := by decide +kernel
theorem dL_plan_7 : decode cL_plan 7 = .ok (.iconst 0, 1) := by decide +kernel
theorem dL_plan_8 : decode cL_plan 8 = .ok (.iload_n 0, 1) := by decide +kernel
theorem dL_plan_9 : decode cL_plan 9 = .ok (.iastore, 1) := by decide +kernel
theorem dL_plan_10 : decode cL_plan 10 = .ok (.aload 6, 2) := by decide +kernel
theorem dL_plan_12 : decode cL_plan 12 = .ok (.iconst 1, 1) := by decide +kernel
theorem dL_plan_13 : decode cL_plan 13 = .ok (.iload_n 1, 1) := by decide +kernel
theorem dL_plan_14 : decode cL_plan 14 = .ok (.iastore, 1) := by decide +kernel
theorem dL_plan_15 : decode cL_plan 15 = .ok (.aload 6, 2) := by decide +kernel
theorem dL_plan_17 : decode cL_plan 17 = .ok (.iconst 2, 1) := by decide +kernel
theorem dL_plan_18 : decode cL_plan 18 = .ok (.iload_n 2, 1) := by decide +kernel
theorem dL_plan_19 : decode cL_plan 19 = .ok (.iastore, 1) := by decide +kernel
theorem dL_plan_20 : decode cL_plan 20 = .ok (.iconst 0, 1) := by decide +kernel
theorem dL_plan_21 : decode cL_plan 21 = .ok (.istore 7, 2) := by decide +kernel
theorem dL_plan_23 : decode cL_plan 23 = .ok (.iconst 0, 1) := by decide +kernel
theorem dL_plan_24 : decode cL_plan 24 = .ok (.istore 8, 2) := by decide +kernel
theorem dL_plan_26 : decode cL_plan 26 = .ok (.iconst 3, 1) := by decide +kernel
theorem dL_plan_27 : decode cL_plan 27 = .ok (.newarray .int, 2) := by decide +kernel
theorem dL_plan_29 : decode cL_plan 29 = .ok (.astore 9, 2) := by decide +kernel
theorem dL_plan_31 : decode cL_plan 31 = .ok (.iconst 0, 1) := by decide +kernel
theorem dL_plan_32 : decode cL_plan 32 = .ok (.istore 10, 2) := by decide +kernel
theorem dL_plan_34 : decode cL_plan 34 = .ok (.iload 10, 2) := by decide +kernel
theorem dL_plan_36 : decode cL_plan 36 = .ok (.iconst 3, 1) := by decide +kernel
theorem dL_plan_37 : decode cL_plan 37 = .ok (.if_icmp .ge 243, 3) := by decide +kernel
theorem dL_plan_40 : decode cL_plan 40 = .ok (.iconst 0, 1) := by decide +kernel
theorem dL_plan_41 : decode cL_plan 41 = .ok (.istore 11, 2) := by decide +kernel
theorem dL_plan_43 : decode cL_plan 43 = .ok (.iconst 0, 1) := by decide +kernel
theorem dL_plan_44 : decode cL_plan 44 = .ok (.istore 12, 2) := by decide +kernel
theorem dL_plan_46 : decode cL_plan 46 = .ok (.iload 12, 2) := by decide +kernel
theorem dL_plan_48 : decode cL_plan 48 = .ok (.iconst 3, 1) := by decide +kernel
theorem dL_plan_49 : decode cL_plan 49 = .ok (.if_icmp .ge 109, 3) := by decide +kernel
theorem dL_plan_52 : decode cL_plan 52 = .ok (.iload_n 3, 1) := by decide +kernel
theorem dL_plan_53 : decode cL_plan 53 = .ok (.iconst 4, 1) := by decide +kernel
theorem dL_plan_54 : decode cL_plan 54 = .ok (.iload 12, 2) := by decide +kernel
theorem dL_plan_56 : decode cL_plan 56 = .ok (.imul, 1) := by decide +kernel
theorem dL_plan_57 : decode cL_plan 57 = .ok (.ishr, 1) := by decide +kernel
theorem dL_plan_58 : decode cL_plan 58 = .ok (.iconst 3, 1) := by decide +kernel
theorem dL_plan_59 : decode cL_plan 59 = .ok (.iand, 1) := by decide +kernel
theorem dL_plan_60 : decode cL_plan 60 = .ok (.istore 13, 2) := by decide +kernel
theorem dL_plan_62 : decode cL_plan 62 = .ok (.iload_n 3, 1) := by decide +kernel
theorem dL_plan_63 : decode cL_plan 63 = .ok (.iconst 4, 1) := by decide +kernel
theorem dL_plan_64 : decode cL_plan 64 = .ok (.iload 12, 2) := by decide +kernel
theorem dL_plan_66 : decode cL_plan 66 = .ok (.imul, 1) := by decide +kernel
theorem dL_plan_67 : decode cL_plan 67 = .ok (.iconst 2, 1) := by decide +kernel
theorem dL_plan_68 : decode cL_plan 68 = .ok (.iadd, 1) := by decide +kernel
theorem dL_plan_69 : decode cL_plan 69 = .ok (.ishr, 1) := by decide +kernel
theorem dL_plan_70 : decode cL_plan 70 = .ok (.iconst 3, 1) := by decide +kernel
theorem dL_plan_71 : decode cL_plan 71 = .ok (.iand, 1) := by decide +kernel
theorem dL_plan_72 : decode cL_plan 72 = .ok (.istore 14, 2) := by decide +kernel
theorem dL_plan_74 : decode cL_plan 74 = .ok (.aload 6, 2) := by decide +kernel
theorem dL_plan_76 : decode cL_plan 76 = .ok (.iload 12, 2) := by decide +kernel
theorem dL_plan_78 : decode cL_plan 78 = .ok (.iaload, 1) := by decide +kernel
theorem dL_plan_79 : decode cL_plan 79 = .ok (.ifCond .le 31, 3) := by decide +kernel
theorem dL_plan_82 : decode cL_plan 82 = .ok (.iload 13, 2) := by decide +kernel
theorem dL_plan_84 : decode cL_plan 84 = .ok (.iload 10, 2) := by decide +kernel
theorem dL_plan_86 : decode cL_plan 86 = .ok (.if_icmp .ne 7, 3) := by decide +kernel
theorem dL_plan_89 : decode cL_plan 89 = .ok (.iconst 1, 1) := by decide +kernel
theorem dL_plan_90 : decode cL_plan 90 = .ok (.goto 4, 3) := by decide +kernel
theorem dL_plan_93 : decode cL_plan 93 = .ok (.iconst 0, 1) := by decide +kernel
theorem dL_plan_94 : decode cL_plan 94 = .ok (.iload 14, 2) := by decide +kernel
theorem dL_plan_96 : decode cL_plan 96 = .ok (.iload 10, 2) := by decide +kernel
theorem dL_plan_98 : decode cL_plan 98 = .ok (.if_icmp .ne 7, 3) := by decide +kernel
theorem dL_plan_101 : decode cL_plan 101 = .ok (.iconst 1, 1) := by decide +kernel
theorem dL_plan_102 : decode cL_plan 102 = .ok (.goto 4, 3) := by decide +kernel
theorem dL_plan_105 : decode cL_plan 105 = .ok (.iconst 0, 1) := by decide +kernel
theorem dL_plan_106 : decode cL_plan 106 = .ok (.iadd, 1) := by decide +kernel
theorem dL_plan_107 : decode cL_plan 107 = .ok (.goto 4, 3) := by decide +kernel
theorem dL_plan_110 : decode cL_plan 110 = .ok (.iconst 0, 1) := by decide +kernel
theorem dL_plan_111 : decode cL_plan 111 = .ok (.istore 15, 2) := by decide +kernel
theorem dL_plan_113 : decode cL_plan 113 = .ok (.aload 9, 2) := by decide +kernel
theorem dL_plan_115 : decode cL_plan 115 = .ok (.iload 12, 2) := by decide +kernel
theorem dL_plan_117 : decode cL_plan 117 = .ok (.dup2, 1) := by decide +kernel
theorem dL_plan_118 : decode cL_plan 118 = .ok (.iaload, 1) := by decide +kernel
theorem dL_plan_119 : decode cL_plan 119 = .ok (.iload 15, 2) := by decide +kernel
theorem dL_plan_121 : decode cL_plan 121 = .ok (.iadd, 1) := by decide +kernel
theorem dL_plan_122 : decode cL_plan 122 = .ok (.iastore, 1) := by decide +kernel
theorem dL_plan_123 : decode cL_plan 123 = .ok (.iload 7, 2) := by decide +kernel
theorem dL_plan_125 : decode cL_plan 125 = .ok (.iload 15, 2) := by decide +kernel
theorem dL_plan_127 : decode cL_plan 127 = .ok (.iadd, 1) := by decide +kernel
theorem dL_plan_128 : decode cL_plan 128 = .ok (.istore 7, 2) := by decide +kernel
theorem dL_plan_130 : decode cL_plan 130 = .ok (.iload 11, 2) := by decide +kernel
theorem dL_plan_132 : decode cL_plan 132 = .ok (.aload 6, 2) := by decide +kernel
theorem dL_plan_134 : decode cL_plan 134 = .ok (.iload 12, 2) := by decide +kernel
theorem dL_plan_136 : decode cL_plan 136 = .ok (.iaload, 1) := by decide +kernel
theorem dL_plan_137 : decode cL_plan 137 = .ok (.ifCond .le 11, 3) := by decide +kernel
theorem dL_plan_140 : decode cL_plan 140 = .ok (.aload 9, 2) := by decide +kernel
theorem dL_plan_142 : decode cL_plan 142 = .ok (.iload 12, 2) := by decide +kernel
theorem dL_plan_144 : decode cL_plan 144 = .ok (.iaload, 1) := by decide +kernel
theorem dL_plan_145 : decode cL_plan 145 = .ok (.goto 4, 3) := by decide +kernel
theorem dL_plan_148 : decode cL_plan 148 = .ok (.iconst 0, 1) := by decide +kernel
theorem dL_plan_149 : decode cL_plan 149 = .ok (.iadd, 1) := by decide +kernel
theorem dL_plan_150 : decode cL_plan 150 = .ok (.istore 11, 2) := by decide +kernel
theorem dL_plan_152 : decode cL_plan 152 = .ok (.iinc 12 1, 3) := by decide +kernel
theorem dL_plan_155 : decode cL_plan 155 = .ok (.goto (-109), 3) := by decide +kernel
theorem dL_plan_158 : decode cL_plan 158 = .ok (.iload 11, 2) := by decide +kernel
theorem dL_plan_160 : decode cL_plan 160 = .ok (.ifCond .ne 7, 3) := by decide +kernel
theorem dL_plan_163 : decode cL_plan 163 = .ok (.iconst 1, 1) := by decide +kernel
theorem dL_plan_164 : decode cL_plan 164 = .ok (.goto 4, 3) := by decide +kernel
theorem dL_plan_167 : decode cL_plan 167 = .ok (.iconst 0, 1) := by decide +kernel
theorem dL_plan_168 : decode cL_plan 168 = .ok (.istore 12, 2) := by decide +kernel
theorem dL_plan_170 : decode cL_plan 170 = .ok (.iload 12, 2) := by decide +kernel
theorem dL_plan_172 : decode cL_plan 172 = .ok (.ifCond .ne 86, 3) := by decide +kernel
theorem dL_plan_175 : decode cL_plan 175 = .ok (.iinc 8 1, 3) := by decide +kernel
theorem dL_plan_178 : decode cL_plan 178 = .ok (.iconst 0, 1) := by decide +kernel
theorem dL_plan_179 : decode cL_plan 179 = .ok (.istore 13, 2) := by decide +kernel
theorem dL_plan_181 : decode cL_plan 181 = .ok (.iload 13, 2) := by decide +kernel
theorem dL_plan_183 : decode cL_plan 183 = .ok (.iconst 3, 1) := by decide +kernel
theorem dL_plan_184 : decode cL_plan 184 = .ok (.if_icmp .ge 71, 3) := by decide +kernel
theorem dL_plan_187 : decode cL_plan 187 = .ok (.aload 6, 2) := by decide +kernel
theorem dL_plan_189 : decode cL_plan 189 = .ok (.iload 13, 2) := by decide +kernel
theorem dL_plan_191 : decode cL_plan 191 = .ok (.iaload, 1) := by decide +kernel
theorem dL_plan_192 : decode cL_plan 192 = .ok (.ifCond .le 7, 3) := by decide +kernel
theorem dL_plan_195 : decode cL_plan 195 = .ok (.iconst 1, 1) := by decide +kernel
theorem dL_plan_196 : decode cL_plan 196 = .ok (.goto 4, 3) := by decide +kernel
theorem dL_plan_199 : decode cL_plan 199 = .ok (.iconst 0, 1) := by decide +kernel
theorem dL_plan_200 : decode cL_plan 200 = .ok (.istore 14, 2) := by decide +kernel
theorem dL_plan_202 : decode cL_plan 202 = .ok (.aload 6, 2) := by decide +kernel
theorem dL_plan_204 : decode cL_plan 204 = .ok (.iload 13, 2) := by decide +kernel
theorem dL_plan_206 : decode cL_plan 206 = .ok (.dup2, 1) := by decide +kernel
theorem dL_plan_207 : decode cL_plan 207 = .ok (.iaload, 1) := by decide +kernel
theorem dL_plan_208 : decode cL_plan 208 = .ok (.iload 14, 2) := by decide +kernel
theorem dL_plan_210 : decode cL_plan 210 = .ok (.ifCond .eq 11, 3) := by decide +kernel
theorem dL_plan_213 : decode cL_plan 213 = .ok (.aload 9, 2) := by decide +kernel
theorem dL_plan_215 : decode cL_plan 215 = .ok (.iload 13, 2) := by decide +kernel
theorem dL_plan_217 : decode cL_plan 217 = .ok (.iaload, 1) := by decide +kernel
theorem dL_plan_218 : decode cL_plan 218 = .ok (.goto 4, 3) := by decide +kernel
theorem dL_plan_221 : decode cL_plan 221 = .ok (.iconst 0, 1) := by decide +kernel
theorem dL_plan_222 : decode cL_plan 222 = .ok (.isub, 1) := by decide +kernel
theorem dL_plan_223 : decode cL_plan 223 = .ok (.iastore, 1) := by decide +kernel
theorem dL_plan_224 : decode cL_plan 224 = .ok (.iload 12, 2) := by decide +kernel
theorem dL_plan_226 : decode cL_plan 226 = .ok (.ifCond .ne 16, 3) := by decide +kernel
theorem dL_plan_229 : decode cL_plan 229 = .ok (.iload 14, 2) := by decide +kernel
theorem dL_plan_231 : decode cL_plan 231 = .ok (.ifCond .eq 15, 3) := by decide +kernel
theorem dL_plan_234 : decode cL_plan 234 = .ok (.aload 6, 2) := by decide +kernel
theorem dL_plan_236 : decode cL_plan 236 = .ok (.iload 13, 2) := by decide +kernel
theorem dL_plan_238 : decode cL_plan 238 = .ok (.iaload, 1) := by decide +kernel
theorem dL_plan_239 : decode cL_plan 239 = .ok (.ifCond .gt 7, 3) := by decide +kernel
theorem dL_plan_242 : decode cL_plan 242 = .ok (.iconst 1, 1) := by decide +kernel
theorem dL_plan_243 : decode cL_plan 243 = .ok (.goto 4, 3) := by decide +kernel
theorem dL_plan_246 : decode cL_plan 246 = .ok (.iconst 0, 1) := by decide +kernel
theorem dL_plan_247 : decode cL_plan 247 = .ok (.istore 12, 2) := by decide +kernel
theorem dL_plan_249 : decode cL_plan 249 = .ok (.iinc 13 1, 3) := by decide +kernel
theorem dL_plan_252 : decode cL_plan 252 = .ok (.goto (-71), 3) := by decide +kernel
theorem dL_plan_255 : decode cL_plan 255 = .ok (.goto (-85), 3) := by decide +kernel
theorem dL_plan_258 : decode cL_plan 258 = .ok (.iload 11, 2) := by decide +kernel
theorem dL_plan_260 : decode cL_plan 260 = .ok (.ifCond .le 14, 3) := by decide +kernel
theorem dL_plan_263 : decode cL_plan 263 = .ok (.aload 4, 2) := by decide +kernel
theorem dL_plan_265 : decode cL_plan 265 = .ok (.aload 5, 2) := by decide +kernel
theorem dL_plan_267 : decode cL_plan 267 = .ok (.iload 8, 2) := by decide +kernel
theorem dL_plan_269 : decode cL_plan 269 = .ok (.iload 7, 2) := by decide +kernel
theorem dL_plan_271 : decode cL_plan 271 = .ok (.invokestatic 77, 3) := by decide +kernel
theorem dL_plan_274 : decode cL_plan 274 = .ok (.iinc 10 1, 3) := by decide +kernel
theorem dL_plan_277 : decode cL_plan 277 = .ok (.goto (-243), 3) := by decide +kernel
theorem dL_plan_280 : decode cL_plan 280 = .ok (.return_, 1) := by decide +kernel
