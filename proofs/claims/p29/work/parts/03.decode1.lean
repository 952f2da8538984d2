set_option maxRecDepth 20000 in
theorem gX6_renew_X6_save : GoodIn wsX6_renew (wsV RX6 64 RX6 yX6_save wsX6_save) := goodIn_app (goodIn_of _ (by decide +kernel)) ggX6_renew_X6_save
set_option maxRecDepth 20000 in
theorem ggX6_renew_X1_burnedTime : GoodIn wsX6_renew wsX1_burnedTime := goodIn_r _ [71, 44, 45, 96, 97, 98, 99, 100, 101, 102, 103] (by decide +kernel) (by decide +kernel)
set_option maxRecDepth 20000 in
theorem gX6_renew_X1_burnedTime : GoodIn wsX6_renew (wsV RX6 91 RX1 yX1_burnedTime wsX1_burnedTime) := goodIn_app (goodIn_of _ (by decide +kernel)) ggX6_renew_X1_burnedTime
set_option maxRecDepth 20000 in
theorem ggX6_renew_X1_makeNew : GoodIn wsX6_renew wsX1_makeNew := goodIn_r _ [75, 44, 45, 46, 47, 96, 97, 98, 99, 100, 101, 102, 103] (by decide +kernel) (by decide +kernel)
set_option maxRecDepth 20000 in
theorem gX6_renew_X1_makeNew : GoodIn wsX6_renew (wsV RX6 110 RX1 yX1_makeNew wsX1_makeNew) := goodIn_app (goodIn_of _ (by decide +kernel)) ggX6_renew_X1_makeNew
theorem dX6_renew_0 : decode cX6_renew 0 = .ok (.aload_n 0, 1) := by decide +kernel
theorem dX6_renew_1 : decode cX6_renew 1 = .ok (.iload_n 1, 1) := by decide +kernel
theorem dX6_renew_2 : decode cX6_renew 2 = .ok (.invokevirtual 107, 3) := by decide +kernel
theorem dX6_renew_5 : decode cX6_renew 5 = .ok (.aload_n 0, 1) := by decide +kernel
theorem dX6_renew_6 : decode cX6_renew 6 = .ok (.invokevirtual 64, 3) := by decide +kernel
theorem dX6_renew_9 : decode cX6_renew 9 = .ok (.aload_n 0, 1) := by decide +kernel
theorem dX6_renew_10 : decode cX6_renew 10 = .ok (.getfield 10, 3) := by decide +kernel
theorem dX6_renew_13 : decode cX6_renew 13 = .ok (.getfield 87, 3) := by decide +kernel
theorem dX6_renew_16 : decode cX6_renew 16 = .ok (.iload_n 1, 1) := by decide +kernel
theorem dX6_renew_17 : decode cX6_renew 17 = .ok (.aaload, 1) := by decide +kernel
theorem dX6_renew_18 : decode cX6_renew 18 = .ok (.invokevirtual 91, 3) := by decide +kernel
theorem dX6_renew_21 : decode cX6_renew 21 = .ok (.istore_n 2, 1) := by decide +kernel
theorem dX6_renew_22 : decode cX6_renew 22 = .ok (.aload_n 0, 1) := by decide +kernel
theorem dX6_renew_23 : decode cX6_renew 23 = .ok (.getfield 10, 3) := by decide +kernel
theorem dX6_renew_26 : decode cX6_renew 26 = .ok (.getfield 87, 3) := by decide +kernel
theorem dX6_renew_29 : decode cX6_renew 29 = .ok (.iload_n 1, 1) := by decide +kernel
theorem dX6_renew_30 : decode cX6_renew 30 = .ok (.aaload, 1) := by decide +kernel
theorem dX6_renew_31 : decode cX6_renew 31 = .ok (.invokevirtual 110, 3) := by decide +kernel
theorem dX6_renew_34 : decode cX6_renew 34 = .ok (.iload_n 2, 1) := by decide +kernel
theorem dX6_renew_35 : decode cX6_renew 35 = .ok (.ireturn, 1) := by decide +kernel
set_option maxRecDepth 20000 in
theorem ggX6_light_X6_requireCord : GoodIn wsX6_light wsX6_requireCord := goodIn_ca (goodIn_r _ [8, 9, 10, 3, 11, 12, 13, 14, 15, 16, 102, 103, 104, 105, 106, 107, 108, 109, 110, 111, 112, 113, 114, 115, 116, 117, 118, 119, 120, 121] (by decide +kernel) (by decide +kernel)) (goodIn_sub (fun _ h => List.mem_cons_of_mem _ (List.mem_append_right _ h)) (by decide +kernel))
set_option maxRecDepth 20000 in
theorem gX6_light_X6_requireCord : GoodIn wsX6_light (wsV RX6 107 RX6 yX6_requireCord wsX6_requireCord) := goodIn_app (goodIn_of _ (by decide +kernel)) ggX6_light_X6_requireCord
set_option maxRecDepth 20000 in
theorem ggX6_light_X1_canBeLit : GoodIn wsX6_light wsX1_canBeLit := goodIn_r _ [21, 22, 23, 24, 20, 25, 26, 27, 28, 29, 30, 31, 32, 33, 34, 122, 123, 124, 125, 126, 127, 128, 129] (by decide +kernel) (by decide +kernel)
set_option maxRecDepth 20000 in
theorem gX6_light_X1_canBeLit : GoodIn wsX6_light (wsV RX6 113 RX1 yX1_canBeLit wsX1_canBeLit) := goodIn_app (goodIn_of _ (by decide +kernel)) ggX6_light_X1_canBeLit
set_option maxRecDepth 20000 in
theorem ggX6_light_X6_save : GoodIn wsX6_light wsX6_save := goodIn_r _ [38, 39, 40, 41, 3, 42, 43, 44, 14, 45, 46, 16, 47, 48, 49, 50, 51, 52, 53, 54, 55, 56, 57, 58, 20, 59, 60, 61, 28, 26, 27, 33, 34, 62, 63, 64, 65, 66, 67, 68, 69, 70, 71, 72, 73, 74, 75, 76, 77, 78, 79, 80, 81, 102, 103, 104, 105, 106, 107, 108, 109, 110, 111, 112, 113, 114, 115, 116, 117, 118, 119, 120, 121, 122, 123, 124, 125, 126, 127, 128, 129, 130, 131, 132, 133, 134, 135, 136, 137, 138] (by decide +kernel) (by decide +kernel)
set_option maxRecDepth 20000 in
theorem gX6_light_X6_save : GoodIn wsX6_light (wsV RX6 64 RX6 yX6_save wsX6_save) := goodIn_app (goodIn_of _ (by decide +kernel)) ggX6_light_X6_save
set_option maxRecDepth 20000 in
theorem ggX6_light_X5_lightEnd : GoodIn wsX6_light wsX5_lightEnd := goodIn_r _ [85, 46, 52, 49, 50, 86, 87, 88, 20, 89, 33, 34, 90, 91, 92, 75, 93, 77, 80, 78, 79, 81, 111, 112, 113, 114, 115, 116, 117, 118, 119, 120, 121, 122, 123, 124, 125, 126, 127, 128, 129, 134, 135, 136, 137, 138] (by decide +kernel) (by decide +kernel)
set_option maxRecDepth 20000 in
theorem gX6_light_X5_lightEnd : GoodIn wsX6_light (wsV RX6 119 RX5 yX5_lightEnd wsX5_lightEnd) := goodIn_app (goodIn_of _ (by decide +kernel)) ggX6_light_X5_lightEnd
set_option maxRecDepth 20000 in
theorem ggX6_light_X5_flameCount : GoodIn wsX6_light wsX5_flameCount := goodIn_r _ [97, 16, 46, 98, 99, 100, 20, 101, 33, 34, 111, 112, 113, 114, 115, 116, 117, 118, 119, 120, 121, 122, 123, 124, 125, 126, 127, 128, 129] (by decide +kernel) (by decide +kernel)
set_option maxRecDepth 20000 in
theorem gX6_light_X5_flameCount : GoodIn wsX6_light (wsV RX6 123 RX5 yX5_flameCount wsX5_flameCount) := goodIn_app (goodIn_of _ (by decide +kernel)) ggX6_light_X5_flameCount
theorem dX6_light_0 : decode cX6_light 0 = .ok (.aload_n 0, 1) := by decide +kernel
theorem dX6_light_1 : decode cX6_light 1 = .ok (.iload_n 1, 1) := by decide +kernel
theorem dX6_light_2 : decode cX6_light 2 = .ok (.invokevirtual 107, 3) := by decide +kernel
theorem dX6_light_5 : decode cX6_light 5 = .ok (.aload_n 0, 1) := by decide +kernel
theorem dX6_light_6 : decode cX6_light 6 = .ok (.getfield 10, 3) := by decide +kernel
theorem dX6_light_9 : decode cX6_light 9 = .ok (.getfield 87, 3) := by decide +kernel
theorem dX6_light_12 : decode cX6_light 12 = .ok (.iload_n 1, 1) := by decide +kernel
theorem dX6_light_13 : decode cX6_light 13 = .ok (.aaload, 1) := by decide +kernel
theorem dX6_light_14 : decode cX6_light 14 = .ok (.iload_n 2, 1) := by decide +kernel
theorem dX6_light_15 : decode cX6_light 15 = .ok (.invokevirtual 113, 3) := by decide +kernel
theorem dX6_light_18 : decode cX6_light 18 = .ok (.ifCond .ne 13, 3) := by decide +kernel
theorem dX6_light_21 : decode cX6_light 21 = .ok (.new 59, 3) := by decide +kernel
theorem dX6_light_24 : decode cX6_light 24 = .ok (.dup, 1) := by decide +kernel
theorem dX6_light_25 : decode cX6_light 25 = .ok (.ldc 117, 2) := by decide +kernel
theorem dX6_light_27 : decode cX6_light 27 = .ok (.invokespecial 63, 3) := by decide +kernel
theorem dX6_light_30 : decode cX6_light 30 = .ok (.athrow, 1) := by decide +kernel
theorem dX6_light_31 : decode cX6_light 31 = .ok (.aload_n 0, 1) := by decide +kernel
theorem dX6_light_32 : decode cX6_light 32 = .ok (.invokevirtual 64, 3) := by decide +kernel
theorem dX6_light_35 : decode cX6_light 35 = .ok (.aload_n 0, 1) := by decide +kernel
theorem dX6_light_36 : decode cX6_light 36 = .ok (.getfield 10, 3) := by decide +kernel
theorem dX6_light_39 : decode cX6_light 39 = .ok (.iload_n 1, 1) := by decide +kernel
theorem dX6_light_40 : decode cX6_light 40 = .ok (.iload_n 2, 1) := by decide +kernel
theorem dX6_light_41 : decode cX6_light 41 = .ok (.invokevirtual 119, 3) := by decide +kernel
theorem dX6_light_44 : decode cX6_light 44 = .ok (.aload_n 0, 1) := by decide +kernel
theorem dX6_light_45 : decode cX6_light 45 = .ok (.getfield 10, 3) := by decide +kernel
theorem dX6_light_48 : decode cX6_light 48 = .ok (.invokevirtual 123, 3) := by decide +kernel
theorem dX6_light_51 : decode cX6_light 51 = .ok (.ireturn, 1) := by decide +kernel
set_option maxRecDepth 20000 in
theorem ggX6_putOut_X6_requireCord : GoodIn wsX6_putOut wsX6_requireCord := goodIn_ca (goodIn_r _ [8, 9, 10, 3, 11, 12, 13, 14, 15, 16, 86, 87, 88, 89, 90, 91, 92, 93, 94, 95, 96, 97, 98, 99, 100, 101, 102, 103, 104, 105] (by decide +kernel) (by decide +kernel)) (goodIn_sub (fun _ h => List.mem_cons_of_mem _ (List.mem_append_right _ h)) (by decide +kernel))
set_option maxRecDepth 20000 in
theorem gX6_putOut_X6_requireCord : GoodIn wsX6_putOut (wsV RX6 107 RX6 yX6_requireCord wsX6_requireCord) := goodIn_app (goodIn_of _ (by decide +kernel)) ggX6_putOut_X6_requireCord
set_option maxRecDepth 20000 in
theorem ggX6_putOut_X1_hasFlame : GoodIn wsX6_putOut wsX1_hasFlame := goodIn_r _ [21, 22, 23, 106, 107, 108, 109, 110, 111, 112, 113] (by decide +kernel) (by decide +kernel)
set_option maxRecDepth 20000 in
theorem gX6_putOut_X1_hasFlame : GoodIn wsX6_putOut (wsV RX6 124 RX1 yX1_hasFlame wsX1_hasFlame) := goodIn_app (goodIn_of _ (by decide +kernel)) ggX6_putOut_X1_hasFlame
set_option maxRecDepth 20000 in
theorem ggX6_putOut_X6_save : GoodIn wsX6_putOut wsX6_save := goodIn_r _ [27, 28, 29, 30, 3, 31, 32, 33, 14, 34, 35, 16, 36, 37, 38, 39, 40, 41, 42, 43, 44, 45, 46, 47, 20, 48, 49, 50, 51, 52, 53, 22, 23, 54, 55, 56, 57, 58, 59, 60, 61, 62, 63, 64, 65, 66, 67, 68, 69, 70, 71, 72, 73, 86, 87, 88, 89, 90, 91, 92, 93, 94, 95, 96, 97, 98, 99, 100, 101, 102, 103, 104, 105, 106, 107, 108, 109, 110, 111, 112, 113, 114, 115, 116, 117, 118, 119, 120, 121, 122] (by decide +kernel) (by decide +kernel)
set_option maxRecDepth 20000 in
theorem gX6_putOut_X6_save : GoodIn wsX6_putOut (wsV RX6 64 RX6 yX6_save wsX6_save) := goodIn_app (goodIn_of _ (by decide +kernel)) ggX6_putOut_X6_save
set_option maxRecDepth 20000 in
theorem ggX6_putOut_X1_setFlame : GoodIn wsX6_putOut wsX1_setFlame := goodIn_r _ [77, 22, 23, 106, 107, 108, 109, 110, 111, 112, 113] (by decide +kernel) (by decide +kernel)
set_option maxRecDepth 20000 in
theorem gX6_putOut_X1_setFlame : GoodIn wsX6_putOut (wsV RX6 129 RX1 yX1_setFlame wsX1_setFlame) := goodIn_app (goodIn_of _ (by decide +kernel)) ggX6_putOut_X1_setFlame
set_option maxRecDepth 20000 in
theorem ggX6_putOut_X5_flameCount : GoodIn wsX6_putOut wsX5_flameCount := goodIn_r _ [81, 16, 35, 82, 83, 84, 20, 85, 22, 23, 95, 96, 97, 98, 99, 100, 101, 102, 103, 104, 105, 106, 107, 108, 109, 110, 111, 112, 113] (by decide +kernel) (by decide +kernel)
set_option maxRecDepth 20000 in
theorem gX6_putOut_X5_flameCount : GoodIn wsX6_putOut (wsV RX6 123 RX5 yX5_flameCount wsX5_flameCount) := goodIn_app (goodIn_of _ (by decide +kernel)) ggX6_putOut_X5_flameCount
theorem dX6_putOut_0 : decode cX6_putOut 0 = .ok (.aload_n 0, 1) := by decide +kernel
theorem dX6_putOut_1 : decode cX6_putOut 1 = .ok (.iload_n 1, 1) := by decide +kernel
theorem dX6_putOut_2 : decode cX6_putOut 2 = .ok (.invokevirtual 107, 3) := by decide +kernel
theorem dX6_putOut_5 : decode cX6_putOut 5 = .ok (.aload_n 0, 1) := by decide +kernel
theorem dX6_putOut_6 : decode cX6_putOut 6 = .ok (.getfield 10, 3) := by decide +kernel
theorem dX6_putOut_9 : decode cX6_putOut 9 = .ok (.getfield 87, 3) := by decide +kernel
theorem dX6_putOut_12 : decode cX6_putOut 12 = .ok (.iload_n 1, 1) := by decide +kernel
theorem dX6_putOut_13 : decode cX6_putOut 13 = .ok (.aaload, 1) := by decide +kernel
theorem dX6_putOut_14 : decode cX6_putOut 14 = .ok (.iload_n 2, 1) := by decide +kernel
theorem dX6_putOut_15 : decode cX6_putOut 15 = .ok (.invokevirtual 124, 3) := by decide +kernel
theorem dX6_putOut_18 : decode cX6_putOut 18 = .ok (.ifCond .ne 13, 3) := by decide +kernel
theorem dX6_putOut_21 : decode cX6_putOut 21 = .ok (.new 59, 3) := by decide +kernel
theorem dX6_putOut_24 : decode cX6_putOut 24 = .ok (.dup, 1) := by decide +kernel
theorem dX6_putOut_25 : decode cX6_putOut 25 = .ok (.ldc 127, 2) := by decide +kernel
theorem dX6_putOut_27 : decode cX6_putOut 27 = .ok (.invokespecial 63, 3) := by decide +kernel
theorem dX6_putOut_30 : decode cX6_putOut 30 = .ok (.athrow, 1) := by decide +kernel
theorem dX6_putOut_31 : decode cX6_putOut 31 = .ok (.aload_n 0, 1) := by decide +kernel
theorem dX6_putOut_32 : decode cX6_putOut 32 = .ok (.invokevirtual 64, 3) := by decide +kernel
theorem dX6_putOut_35 : decode cX6_putOut 35 = .ok (.aload_n 0, 1) := by decide +kernel
theorem dX6_putOut_36 : decode cX6_putOut 36 = .ok (.getfield 10, 3) := by decide +kernel
theorem dX6_putOut_39 : decode cX6_putOut 39 = .ok (.getfield 87, 3) := by decide +kernel
theorem dX6_putOut_42 : decode cX6_putOut 42 = .ok (.iload_n 1, 1) := by decide +kernel
theorem dX6_putOut_43 : decode cX6_putOut 43 = .ok (.aaload, 1) := by decide +kernel
theorem dX6_putOut_44 : decode cX6_putOut 44 = .ok (.iload_n 2, 1) := by decide +kernel
theorem dX6_putOut_45 : decode cX6_putOut 45 = .ok (.iconst 0, 1) := by decide +kernel
theorem dX6_putOut_46 : decode cX6_putOut 46 = .ok (.invokevirtual 129, 3) := by decide +kernel
theorem dX6_putOut_49 : decode cX6_putOut 49 = .ok (.aload_n 0, 1) := by decide +kernel
theorem dX6_putOut_50 : decode cX6_putOut 50 = .ok (.getfield 10, 3) := by decide +kernel
theorem dX6_putOut_53 : decode cX6_putOut 53 = .ok (.invokevirtual 123, 3) := by decide +kernel
theorem dX6_putOut_56 : decode cX6_putOut 56 = .ok (.ireturn, 1) := by decide +kernel
set_option maxRecDepth 20000 in
theorem ggX6_rule_X6_requireCord : GoodIn wsX6_rule wsX6_requireCord := goodIn_ca (goodIn_r _ [10, 11, 12, 5, 13, 14, 15, 16, 17, 18, 80, 81, 82, 83, 84, 85, 86, 87, 88, 89, 90, 91, 92, 93, 94, 95, 96, 97, 98, 99] (by decide +kernel) (by decide +kernel)) (goodIn_sub (fun _ h => List.mem_cons_of_mem _ (List.mem_append_right _ h)) (by decide +kernel))
set_option maxRecDepth 20000 in
theorem gX6_rule_X6_requireCord : GoodIn wsX6_rule (wsV RX6 107 RX6 yX6_requireCord wsX6_requireCord) := goodIn_app (goodIn_of _ (by decide +kernel)) ggX6_rule_X6_requireCord
set_option maxRecDepth 20000 in
theorem ggX6_rule_X5_hasRoomForRule : GoodIn wsX6_rule wsX5_hasRoomForRule := goodIn_r _ [22, 23, 89, 90, 91, 92, 93, 94, 95, 96, 97, 98, 99] (by decide +kernel) (by decide +kernel)
set_option maxRecDepth 20000 in
theorem gX6_rule_X5_hasRoomForRule : GoodIn wsX6_rule (wsV RX6 135 RX5 yX5_hasRoomForRule wsX5_hasRoomForRule) := goodIn_app (goodIn_of _ (by decide +kernel)) ggX6_rule_X5_hasRoomForRule
set_option maxRecDepth 20000 in
theorem ggX6_rule_X6_save : GoodIn wsX6_rule wsX6_save := goodIn_r _ [27, 28, 29, 30, 5, 31, 32, 33, 16, 34, 35, 18, 36, 23, 37, 38, 39, 40, 41, 42, 43, 44, 45, 46, 47, 48, 49, 50, 51, 52, 53, 54, 55, 56, 57, 58, 59, 60, 61, 62, 63, 64, 65, 66, 67, 68, 69, 70, 71, 72, 73, 74, 75, 80, 81, 82, 83, 84, 85, 86, 87, 88, 89, 90, 91, 92, 93, 94, 95, 96, 97, 98, 99, 100, 101, 102, 103, 104, 105, 106, 107, 108, 109, 110, 111, 112, 113, 114, 115, 116] (by decide +kernel) (by decide +kernel)
set_option maxRecDepth 20000 in
theorem gX6_rule_X6_save : GoodIn wsX6_rule (wsV RX6 64 RX6 yX6_save wsX6_save) := goodIn_app (goodIn_of _ (by decide +kernel)) ggX6_rule_X6_save
set_option maxRecDepth 20000 in
theorem ggX6_rule_X5_addRule : GoodIn wsX6_rule wsX5_addRule := goodIn_r _ [79, 36, 23, 89, 90, 91, 92, 93, 94, 95, 96, 97, 98, 99, 108, 109, 110, 111] (by decide +kernel) (by decide +kernel)
set_option maxRecDepth 20000 in
theorem gX6_rule_X5_addRule : GoodIn wsX6_rule (wsV RX6 140 RX5 yX5_addRule wsX5_addRule) := goodIn_app (goodIn_of _ (by decide +kernel)) ggX6_rule_X5_addRule
theorem dX6_rule_0 : decode cX6_rule 0 = .ok (.aload_n 0, 1) := by decide +kernel
theorem dX6_rule_1 : decode cX6_rule 1 = .ok (.iload_n 1, 1) := by decide +kernel
theorem dX6_rule_2 : decode cX6_rule 2 = .ok (.invokevirtual 107, 3) := by decide +kernel
theorem dX6_rule_5 : decode cX6_rule 5 = .ok (.aload_n 0, 1) := by decide +kernel
theorem dX6_rule_6 : decode cX6_rule 6 = .ok (.iload_n 2, 1) := by decide +kernel
theorem dX6_rule_7 : decode cX6_rule 7 = .ok (.invokevirtual 107, 3) := by decide +kernel
theorem dX6_rule_10 : decode cX6_rule 10 = .ok (.iload_n 1, 1) := by decide +kernel
theorem dX6_rule_11 : decode cX6_rule 11 = .ok (.iload_n 2, 1) := by decide +kernel
theorem dX6_rule_12 : decode cX6_rule 12 = .ok (.if_icmp .ne 13, 3) := by decide +kernel
theorem dX6_rule_15 : decode cX6_rule 15 = .ok (.new 48, 3) := by decide +kernel
theorem dX6_rule_18 : decode cX6_rule 18 = .ok (.dup, 1) := by decide +kernel
theorem dX6_rule_19 : decode cX6_rule 19 = .ok (.ldc 133, 2) := by decide +kernel
theorem dX6_rule_21 : decode cX6_rule 21 = .ok (.invokespecial 52, 3) := by decide +kernel
theorem dX6_rule_24 : decode cX6_rule 24 = .ok (.athrow, 1) := by decide +kernel
theorem dX6_rule_25 : decode cX6_rule 25 = .ok (.aload_n 0, 1) := by decide +kernel
theorem dX6_rule_26 : decode cX6_rule 26 = .ok (.getfield 10, 3) := by decide +kernel
theorem dX6_rule_29 : decode cX6_rule 29 = .ok (.invokevirtual 135, 3) := by decide +kernel
theorem dX6_rule_32 : decode cX6_rule 32 = .ok (.ifCond .ne 13, 3) := by decide +kernel
theorem dX6_rule_35 : decode cX6_rule 35 = .ok (.new 59, 3) := by decide +kernel
theorem dX6_rule_38 : decode cX6_rule 38 = .ok (.dup, 1) := by decide +kernel
theorem dX6_rule_39 : decode cX6_rule 39 = .ok (.ldc 138, 2) := by decide +kernel
theorem dX6_rule_41 : decode cX6_rule 41 = .ok (.invokespecial 63, 3) := by decide +kernel
theorem dX6_rule_44 : decode cX6_rule 44 = .ok (.athrow, 1) := by decide +kernel
theorem dX6_rule_45 : decode cX6_rule 45 = .ok (.aload_n 0, 1) := by decide +kernel
theorem dX6_rule_46 : decode cX6_rule 46 = .ok (.invokevirtual 64, 3) := by decide +kernel
theorem dX6_rule_49 : decode cX6_rule 49 = .ok (.aload_n 0, 1) := by decide +kernel
theorem dX6_rule_50 : decode cX6_rule 50 = .ok (.getfield 10, 3) := by decide +kernel
theorem dX6_rule_53 : decode cX6_rule 53 = .ok (.iload_n 1, 1) := by decide +kernel
theorem dX6_rule_54 : decode cX6_rule 54 = .ok (.iload_n 2, 1) := by decide +kernel
theorem dX6_rule_55 : decode cX6_rule 55 = .ok (.iload_n 3, 1) := by decide +kernel
theorem dX6_rule_56 : decode cX6_rule 56 = .ok (.invokevirtual 140, 3) := by decide +kernel
theorem dX6_rule_59 : decode cX6_rule 59 = .ok (.aload_n 0, 1) := by decide +kernel
theorem dX6_rule_60 : decode cX6_rule 60 = .ok (.getfield 10, 3) := by decide +kernel
theorem dX6_rule_63 : decode cX6_rule 63 = .ok (.getfield 144, 3) := by decide +kernel
theorem dX6_rule_66 : decode cX6_rule 66 = .ok (.iconst 1, 1) := by decide +kernel
theorem dX6_rule_67 : decode cX6_rule 67 = .ok (.isub, 1) := by decide +kernel
theorem dX6_rule_68 : decode cX6_rule 68 = .ok (.ireturn, 1) := by decide +kernel
set_option maxRecDepth 20000 in
theorem ggX6_dropRules_X6_save : GoodIn wsX6_dropRules wsX6_save := goodIn_r _ [6, 7, 8, 9, 1, 10, 11, 12, 13, 14, 15, 16, 17, 18, 19, 20, 21, 22, 23, 24, 25, 26, 27, 28, 29, 30, 31, 32, 33, 34, 35, 36, 37, 38, 39, 40, 41, 42, 43, 44, 45, 46, 47, 48, 49, 50, 51, 52, 53, 54, 55, 56, 57, 58, 59, 60, 61, 62, 63, 64, 65, 66, 67, 68, 69, 70, 71, 72, 73, 74, 75, 76, 77, 78, 79, 80, 81, 82, 83, 84, 85, 86, 87, 88, 89, 90, 91, 92, 93, 94] (by decide +kernel) (by decide +kernel)
set_option maxRecDepth 20000 in
theorem gX6_dropRules_X6_save : GoodIn wsX6_dropRules (wsV RX6 64 RX6 yX6_save wsX6_save) := goodIn_app (goodIn_of _ (by decide +kernel)) ggX6_dropRules_X6_save
theorem dX6_dropRules_0 : decode cX6_dropRules 0 = .ok (.aload_n 0, 1) := by decide +kernel
theorem dX6_dropRules_1 : decode cX6_dropRules 1 = .ok (.invokevirtual 64, 3) := by decide +kernel
theorem dX6_dropRules_4 : decode cX6_dropRules 4 = .ok (.aload_n 0, 1) := by decide +kernel
theorem dX6_dropRules_5 : decode cX6_dropRules 5 = .ok (.getfield 10, 3) := by decide +kernel
theorem dX6_dropRules_8 : decode cX6_dropRules 8 = .ok (.getfield 144, 3) := by decide +kernel
theorem dX6_dropRules_11 : decode cX6_dropRules 11 = .ok (.istore_n 1, 1) := by decide +kernel
theorem dX6_dropRules_12 : decode cX6_dropRules 12 = .ok (.aload_n 0, 1) := by decide +kernel
theorem dX6_dropRules_13 : decode cX6_dropRules 13 = .ok (.getfield 10, 3) := by decide +kernel
theorem dX6_dropRules_16 : decode cX6_dropRules 16 = .ok (.iconst 0, 1) := by decide +kernel
theorem dX6_dropRules_17 : decode cX6_dropRules 17 = .ok (.putfield 144, 3) := by decide +kernel
theorem dX6_dropRules_20 : decode cX6_dropRules 20 = .ok (.iload_n 1, 1) := by decide +kernel
theorem dX6_dropRules_21 : decode cX6_dropRules 21 = .ok (.ireturn, 1) := by decide +kernel
set_option maxRecDepth 20000 in
theorem ggX6_run_X6_save : GoodIn wsX6_run wsX6_save := goodIn_r _ [8, 9, 10, 11, 3, 12, 13, 14, 15, 16, 17, 18, 19, 20, 21, 22, 23, 24, 25, 26, 27, 28, 29, 30, 31, 32, 33, 34, 35, 36, 37, 38, 39, 40, 41, 42, 43, 44, 45, 46, 47, 48, 49, 50, 51, 52, 53, 54, 55, 56, 57, 58, 59, 132, 133, 134, 135, 136, 137, 138, 139, 140, 141, 142, 143, 144, 145, 146, 147, 148, 149, 150, 151, 152, 153, 154, 155, 156, 157, 158, 159, 160, 161, 162, 163, 164, 165, 166, 167, 168] (by decide +kernel) (by decide +kernel)
set_option maxRecDepth 20000 in
theorem gX6_run_X6_save : GoodIn wsX6_run (wsV RX6 64 RX6 yX6_save wsX6_save) := goodIn_app (goodIn_of _ (by decide +kernel)) ggX6_run_X6_save
set_option maxRecDepth 20000 in
theorem ggX6_run_X5_passSteps : GoodIn wsX6_run wsX5_passSteps := goodIn_r _ [63, 64, 65, 66, 15, 67, 22, 18, 68, 69, 70, 71, 25, 26, 27, 72, 73, 74, 75, 76, 77, 78, 79, 17, 80, 81, 82, 31, 83, 38, 39, 84, 85, 86, 87, 88, 89, 90, 91, 36, 37, 92, 93, 94, 95, 96, 35, 97, 98, 99, 100, 23, 21, 20, 19, 101, 102, 103, 53, 104, 55, 58, 56, 57, 59, 105, 106, 107, 108, 109, 110, 111, 112, 113, 114, 115, 116, 117, 118, 119, 120, 24, 121, 122, 123, 124, 125, 126, 127, 128, 129, 130, 131, 141, 142, 143, 144, 145, 146, 147, 148, 149, 150, 151, 152, 153, 154, 155, 156, 157, 158, 159, 160, 161, 162, 163, 164, 165, 166, 167, 168] (by decide +kernel) (by decide +kernel)
set_option maxRecDepth 20000 in
theorem gX6_run_X5_passSteps : GoodIn wsX6_run (wsV RX6 149 RX5 yX5_passSteps wsX5_passSteps) := goodIn_app (goodIn_of _ (by decide +kernel)) ggX6_run_X5_passSteps
theorem dX6_run_0 : decode cX6_run 0 = .ok (.iload_n 1, 1) := by decide +kernel
theorem dX6_run_1 : decode cX6_run 1 = .ok (.iconst 1, 1) := by decide +kernel
theorem dX6_run_2 : decode cX6_run 2 = .ok (.if_icmp .lt 10, 3) := by decide +kernel
theorem dX6_run_5 : decode cX6_run 5 = .ok (.iload_n 1, 1) := by decide +kernel
theorem dX6_run_6 : decode cX6_run 6 = .ok (.sipush 200, 3) := by decide +kernel
theorem dX6_run_9 : decode cX6_run 9 = .ok (.if_icmp .le 13, 3) := by decide +kernel
theorem dX6_run_12 : decode cX6_run 12 = .ok (.new 48, 3) := by decide +kernel
theorem dX6_run_15 : decode cX6_run 15 = .ok (.dup, 1) := by decide +kernel
theorem dX6_run_16 : decode cX6_run 16 = .ok (.ldc 147, 2) := by decide +kernel
theorem dX6_run_18 : decode cX6_run 18 = .ok (.invokespecial 52, 3) := by decide +kernel
theorem dX6_run_21 : decode cX6_run 21 = .ok (.athrow, 1) := by decide +kernel
theorem dX6_run_22 : decode cX6_run 22 = .ok (.aload_n 0, 1) := by decide +kernel
theorem dX6_run_23 : decode cX6_run 23 = .ok (.invokevirtual 64, 3) := by decide +kernel
theorem dX6_run_26 : decode cX6_run 26 = .ok (.aload_n 0, 1) := by decide +kernel
theorem dX6_run_27 : decode cX6_run 27 = .ok (.getfield 10, 3) := by decide +kernel
theorem dX6_run_30 : decode cX6_run 30 = .ok (.iload_n 1, 1) := by decide +kernel
theorem dX6_run_31 : decode cX6_run 31 = .ok (.invokevirtual 149, 3) := by decide +kernel
theorem dX6_run_34 : decode cX6_run 34 = .ok (.ireturn, 1) := by decide +kernel
set_option maxRecDepth 20000 in
theorem ggX6_cordOf_X6_requireCord : GoodIn wsX6_cordOf wsX6_requireCord := goodIn_ca (goodIn_r _ [8, 9, 10, 3, 11, 12, 13, 14, 15, 16, 29, 30, 31, 32, 33, 34, 35, 36, 37, 38, 39, 40, 41, 42, 43, 44, 45, 46, 47, 48] (by decide +kernel) (by decide +kernel)) (goodIn_sub (fun _ h => List.mem_cons_of_mem _ (List.mem_append_right _ h)) (by decide +kernel))
set_option maxRecDepth 20000 in
theorem gX6_cordOf_X6_requireCord : GoodIn wsX6_cordOf (wsV RX6 107 RX6 yX6_requireCord wsX6_requireCord) := goodIn_app (goodIn_of _ (by decide +kernel)) ggX6_cordOf_X6_requireCord
set_option maxRecDepth 20000 in
theorem ggX6_cordOf_X1_timeLeft : GoodIn wsX6_cordOf wsX1_timeLeft := goodIn_r _ [21, 22, 23, 24, 49, 50, 51, 52, 53, 54, 55, 56] (by decide +kernel) (by decide +kernel)
set_option maxRecDepth 20000 in
theorem gX6_cordOf_X1_timeLeft : GoodIn wsX6_cordOf (wsV RX6 210 RX1 yX1_timeLeft wsX1_timeLeft) := goodIn_app (goodIn_of _ (by decide +kernel)) ggX6_cordOf_X1_timeLeft
set_option maxRecDepth 20000 in
theorem ggX6_cordOf_X1_isOut : GoodIn wsX6_cordOf wsX1_isOut := goodIn_r _ [28, 23, 24, 22, 49, 50, 51, 52, 53, 54, 55, 56] (by decide +kernel) (by decide +kernel)
set_option maxRecDepth 20000 in
theorem gX6_cordOf_X1_isOut : GoodIn wsX6_cordOf (wsV RX6 220 RX1 yX1_isOut wsX1_isOut) := goodIn_app (goodIn_of _ (by decide +kernel)) ggX6_cordOf_X1_isOut
theorem dX6_cordOf_0 : decode cX6_cordOf 0 = .ok (.aload_n 0, 1) := by decide +kernel
theorem dX6_cordOf_1 : decode cX6_cordOf 1 = .ok (.iload_n 1, 1) := by decide +kernel
theorem dX6_cordOf_2 : decode cX6_cordOf 2 = .ok (.invokevirtual 107, 3) := by decide +kernel
theorem dX6_cordOf_5 : decode cX6_cordOf 5 = .ok (.aload_n 0, 1) := by decide +kernel
theorem dX6_cordOf_6 : decode cX6_cordOf 6 = .ok (.getfield 10, 3) := by decide +kernel
theorem dX6_cordOf_9 : decode cX6_cordOf 9 = .ok (.getfield 87, 3) := by decide +kernel
theorem dX6_cordOf_12 : decode cX6_cordOf 12 = .ok (.iload_n 1, 1) := by decide +kernel
theorem dX6_cordOf_13 : decode cX6_cordOf 13 = .ok (.aaload, 1) := by decide +kernel
theorem dX6_cordOf_14 : decode cX6_cordOf 14 = .ok (.astore_n 3, 1) := by decide +kernel
theorem dX6_cordOf_15 : decode cX6_cordOf 15 = .ok (.iload_n 2, 1) := by decide +kernel
theorem dX6_cordOf_16 : decode cX6_cordOf 16 = .ok (.tableswitch 117 0 7 #[48, 53, 58, 63, 68, 73, 99, 112], 48) := by decide +kernel
theorem dX6_cordOf_64 : decode cX6_cordOf 64 = .ok (.aload_n 3, 1) := by decide +kernel
theorem dX6_cordOf_65 : decode cX6_cordOf 65 = .ok (.getfield 198, 3) := by decide +kernel
theorem dX6_cordOf_68 : decode cX6_cordOf 68 = .ok (.ireturn, 1) := by decide +kernel
theorem dX6_cordOf_69 : decode cX6_cordOf 69 = .ok (.aload_n 3, 1) := by decide +kernel
theorem dX6_cordOf_70 : decode cX6_cordOf 70 = .ok (.getfield 201, 3) := by decide +kernel
theorem dX6_cordOf_73 : decode cX6_cordOf 73 = .ok (.ireturn, 1) := by decide +kernel
theorem dX6_cordOf_74 : decode cX6_cordOf 74 = .ok (.aload_n 3, 1) := by decide +kernel
theorem dX6_cordOf_75 : decode cX6_cordOf 75 = .ok (.getfield 204, 3) := by decide +kernel
theorem dX6_cordOf_78 : decode cX6_cordOf 78 = .ok (.ireturn, 1) := by decide +kernel
theorem dX6_cordOf_79 : decode cX6_cordOf 79 = .ok (.aload_n 3, 1) := by decide +kernel
theorem dX6_cordOf_80 : decode cX6_cordOf 80 = .ok (.getfield 207, 3) := by decide +kernel
theorem dX6_cordOf_83 : decode cX6_cordOf 83 = .ok (.ireturn, 1) := by decide +kernel
theorem dX6_cordOf_84 : decode cX6_cordOf 84 = .ok (.aload_n 3, 1) := by decide +kernel
theorem dX6_cordOf_85 : decode cX6_cordOf 85 = .ok (.invokevirtual 210, 3) := by decide +kernel
theorem dX6_cordOf_88 : decode cX6_cordOf 88 = .ok (.ireturn, 1) := by decide +kernel
theorem dX6_cordOf_89 : decode cX6_cordOf 89 = .ok (.aload_n 3, 1) := by decide +kernel
theorem dX6_cordOf_90 : decode cX6_cordOf 90 = .ok (.getfield 213, 3) := by decide +kernel
theorem dX6_cordOf_93 : decode cX6_cordOf 93 = .ok (.ifCond .eq 7, 3) := by decide +kernel
theorem dX6_cordOf_96 : decode cX6_cordOf 96 = .ok (.iconst 1, 1) := by decide +kernel
theorem dX6_cordOf_97 : decode cX6_cordOf 97 = .ok (.goto 4, 3) := by decide +kernel
theorem dX6_cordOf_100 : decode cX6_cordOf 100 = .ok (.iconst 0, 1) := by decide +kernel
theorem dX6_cordOf_101 : decode cX6_cordOf 101 = .ok (.aload_n 3, 1) := by decide +kernel
theorem dX6_cordOf_102 : decode cX6_cordOf 102 = .ok (.getfield 217, 3) := by decide +kernel
theorem dX6_cordOf_105 : decode cX6_cordOf 105 = .ok (.ifCond .eq 7, 3) := by decide +kernel
theorem dX6_cordOf_108 : decode cX6_cordOf 108 = .ok (.iconst 2, 1) := by decide +kernel
theorem dX6_cordOf_109 : decode cX6_cordOf 109 = .ok (.goto 4, 3) := by decide +kernel
theorem dX6_cordOf_112 : decode cX6_cordOf 112 = .ok (.iconst 0, 1) := by decide +kernel
theorem dX6_cordOf_113 : decode cX6_cordOf 113 = .ok (.iadd, 1) := by decide +kernel
theorem dX6_cordOf_114 : decode cX6_cordOf 114 = .ok (.ireturn, 1) := by decide +kernel
theorem dX6_cordOf_115 : decode cX6_cordOf 115 = .ok (.aload_n 3, 1) := by decide +kernel
theorem dX6_cordOf_116 : decode cX6_cordOf 116 = .ok (.invokevirtual 220, 3) := by decide +kernel
theorem dX6_cordOf_119 : decode cX6_cordOf 119 = .ok (.ifCond .eq 7, 3) := by decide +kernel
theorem dX6_cordOf_122 : decode cX6_cordOf 122 = .ok (.iconst 1, 1) := by decide +kernel
theorem dX6_cordOf_123 : decode cX6_cordOf 123 = .ok (.goto 4, 3) := by decide +kernel
theorem dX6_cordOf_126 : decode cX6_cordOf 126 = .ok (.iconst 0, 1) := by decide +kernel
theorem dX6_cordOf_127 : decode cX6_cordOf 127 = .ok (.ireturn, 1) := by decide +kernel
theorem dX6_cordOf_128 : decode cX6_cordOf 128 = .ok (.aload_n 3, 1) := by decide +kernel
theorem dX6_cordOf_129 : decode cX6_cordOf 129 = .ok (.getfield 223, 3) := by decide +kernel
theorem dX6_cordOf_132 : decode cX6_cordOf 132 = .ok (.ireturn, 1) := by decide +kernel
theorem dX6_cordOf_133 : decode cX6_cordOf 133 = .ok (.new 48, 3) := by decide +kernel
theorem dX6_cordOf_136 : decode cX6_cordOf 136 = .ok (.dup, 1) := by decide +kernel
theorem dX6_cordOf_137 : decode cX6_cordOf 137 = .ok (.ldc 226, 2) := by decide +kernel
theorem dX6_cordOf_139 : decode cX6_cordOf 139 = .ok (.invokespecial 52, 3) := by decide +kernel
theorem dX6_cordOf_142 : decode cX6_cordOf 142 = .ok (.athrow, 1) := by decide +kernel
set_option maxRecDepth 20000 in
theorem ggX6_segment_X6_requireSegment : GoodIn wsX6_segment wsX6_requireSegment := goodIn_ca (goodIn_r _ [6, 7, 8, 1, 9, 10, 11, 5, 12, 13, 14, 15, 16, 17, 18, 19, 20, 21, 22, 23, 24, 25, 26, 27, 28, 29, 30, 31, 32, 33, 34, 35, 36, 37, 38, 39, 40, 41, 42, 43, 44, 45, 46] (by decide +kernel) (by decide +kernel)) (goodIn_sub (fun _ h => List.mem_cons_of_mem _ (List.mem_append_right _ h)) (by decide +kernel))
set_option maxRecDepth 20000 in
theorem gX6_segment_X6_requireSegment : GoodIn wsX6_segment (wsV RX6 81 RX6 yX6_requireSegment wsX6_requireSegment) := goodIn_app (goodIn_of _ (by decide +kernel)) ggX6_segment_X6_requireSegment
theorem dX6_segment_0 : decode cX6_segment 0 = .ok (.aload_n 0, 1) := by decide +kernel
theorem dX6_segment_1 : decode cX6_segment 1 = .ok (.iload_n 1, 1) := by decide +kernel
theorem dX6_segment_2 : decode cX6_segment 2 = .ok (.iload_n 2, 1) := by decide +kernel
theorem dX6_segment_3 : decode cX6_segment 3 = .ok (.invokevirtual 81, 3) := by decide +kernel
theorem dX6_segment_6 : decode cX6_segment 6 = .ok (.aload_n 0, 1) := by decide +kernel
theorem dX6_segment_7 : decode cX6_segment 7 = .ok (.getfield 10, 3) := by decide +kernel
theorem dX6_segment_10 : decode cX6_segment 10 = .ok (.getfield 87, 3) := by decide +kernel
theorem dX6_segment_13 : decode cX6_segment 13 = .ok (.iload_n 1, 1) := by decide +kernel
theorem dX6_segment_14 : decode cX6_segment 14 = .ok (.aaload, 1) := by decide +kernel
theorem dX6_segment_15 : decode cX6_segment 15 = .ok (.getfield 100, 3) := by decide +kernel
theorem dX6_segment_18 : decode cX6_segment 18 = .ok (.iload_n 2, 1) := by decide +kernel
theorem dX6_segment_19 : decode cX6_segment 19 = .ok (.iaload, 1) := by decide +kernel
theorem dX6_segment_20 : decode cX6_segment 20 = .ok (.ireturn, 1) := by decide +kernel
set_option maxRecDepth 20000 in
theorem ggX6_front_X6_requireCord : GoodIn wsX6_front wsX6_requireCord := goodIn_ca (goodIn_r _ [6, 7, 8, 1, 9, 10, 11, 12, 13, 14, 29, 30, 31, 32, 33, 34, 35, 36, 37, 38, 39, 40, 41, 42, 43, 44, 45, 46, 47, 48] (by decide +kernel) (by decide +kernel)) (goodIn_sub (fun _ h => List.mem_cons_of_mem _ (List.mem_append_right _ h)) (by decide +kernel))
set_option maxRecDepth 20000 in
theorem gX6_front_X6_requireCord : GoodIn wsX6_front (wsV RX6 107 RX6 yX6_requireCord wsX6_requireCord) := goodIn_app (goodIn_of _ (by decide +kernel)) ggX6_front_X6_requireCord
set_option maxRecDepth 20000 in
theorem ggX6_front_X1_frontSegment : GoodIn wsX6_front wsX1_frontSegment := goodIn_r _ [19, 20, 21, 22, 23, 24, 25, 26, 18, 27, 28, 49, 50, 51, 52, 53, 54, 55, 56] (by decide +kernel) (by decide +kernel)
set_option maxRecDepth 20000 in
theorem gX6_front_X1_frontSegment : GoodIn wsX6_front (wsV RX6 228 RX1 yX1_frontSegment wsX1_frontSegment) := goodIn_app (goodIn_of _ (by decide +kernel)) ggX6_front_X1_frontSegment
theorem dX6_front_0 : decode cX6_front 0 = .ok (.aload_n 0, 1) := by decide +kernel
theorem dX6_front_1 : decode cX6_front 1 = .ok (.iload_n 1, 1) := by decide +kernel
theorem dX6_front_2 : decode cX6_front 2 = .ok (.invokevirtual 107, 3) := by decide +kernel
theorem dX6_front_5 : decode cX6_front 5 = .ok (.aload_n 0, 1) := by decide +kernel
theorem dX6_front_6 : decode cX6_front 6 = .ok (.getfield 10, 3) := by decide +kernel
theorem dX6_front_9 : decode cX6_front 9 = .ok (.getfield 87, 3) := by decide +kernel
theorem dX6_front_12 : decode cX6_front 12 = .ok (.iload_n 1, 1) := by decide +kernel
theorem dX6_front_13 : decode cX6_front 13 = .ok (.aaload, 1) := by decide +kernel
theorem dX6_front_14 : decode cX6_front 14 = .ok (.iload_n 2, 1) := by decide +kernel
theorem dX6_front_15 : decode cX6_front 15 = .ok (.invokevirtual 228, 3) := by decide +kernel
theorem dX6_front_18 : decode cX6_front 18 = .ok (.ireturn, 1) := by decide +kernel
theorem dX6_ruleOf_0 : decode cX6_ruleOf 0 = .ok (.iload_n 1, 1) := by decide +kernel
theorem dX6_ruleOf_1 : decode cX6_ruleOf 1 = .ok (.ifCond .lt 14, 3) := by decide +kernel
theorem dX6_ruleOf_4 : decode cX6_ruleOf 4 = .ok (.iload_n 1, 1) := by decide +kernel
theorem dX6_ruleOf_5 : decode cX6_ruleOf 5 = .ok (.aload_n 0, 1) := by decide +kernel
theorem dX6_ruleOf_6 : decode cX6_ruleOf 6 = .ok (.getfield 10, 3) := by decide +kernel
theorem dX6_ruleOf_9 : decode cX6_ruleOf 9 = .ok (.getfield 144, 3) := by decide +kernel
theorem dX6_ruleOf_12 : decode cX6_ruleOf 12 = .ok (.if_icmp .lt 13, 3) := by decide +kernel
theorem dX6_ruleOf_15 : decode cX6_ruleOf 15 = .ok (.new 232, 3) := by decide +kernel
theorem dX6_ruleOf_18 : decode cX6_ruleOf 18 = .ok (.dup, 1) := by decide +kernel
theorem dX6_ruleOf_19 : decode cX6_ruleOf 19 = .ok (.ldc 234, 2) := by decide +kernel
theorem dX6_ruleOf_21 : decode cX6_ruleOf 21 = .ok (.invokespecial 236, 3) := by decide +kernel
theorem dX6_ruleOf_24 : decode cX6_ruleOf 24 = .ok (.athrow, 1) := by decide +kernel
theorem dX6_ruleOf_25 : decode cX6_ruleOf 25 = .ok (.aload_n 0, 1) := by decide +kernel
theorem dX6_ruleOf_26 : decode cX6_ruleOf 26 = .ok (.getfield 10, 3) := by decide +kernel
theorem dX6_ruleOf_29 : decode cX6_ruleOf 29 = .ok (.getfield 237, 3) := by decide +kernel
theorem dX6_ruleOf_32 : decode cX6_ruleOf 32 = .ok (.iload_n 1, 1) := by decide +kernel
theorem dX6_ruleOf_33 : decode cX6_ruleOf 33 = .ok (.aaload, 1) := by decide +kernel
theorem dX6_ruleOf_34 : decode cX6_ruleOf 34 = .ok (.astore_n 3, 1) := by decide +kernel
theorem dX6_ruleOf_35 : decode cX6_ruleOf 35 = .ok (.iload_n 2, 1) := by decide +kernel
theorem dX6_ruleOf_36 : decode cX6_ruleOf 36 = .ok (.tableswitch 60 0 3 #[32, 37, 42, 55], 32) := by decide +kernel
theorem dX6_ruleOf_68 : decode cX6_ruleOf 68 = .ok (.aload_n 3, 1) := by decide +kernel
theorem dX6_ruleOf_69 : decode cX6_ruleOf 69 = .ok (.getfield 241, 3) := by decide +kernel
theorem dX6_ruleOf_72 : decode cX6_ruleOf 72 = .ok (.ireturn, 1) := by decide +kernel
theorem dX6_ruleOf_73 : decode cX6_ruleOf 73 = .ok (.aload_n 3, 1) := by decide +kernel
theorem dX6_ruleOf_74 : decode cX6_ruleOf 74 = .ok (.getfield 246, 3) := by decide +kernel
theorem dX6_ruleOf_77 : decode cX6_ruleOf 77 = .ok (.ireturn, 1) := by decide +kernel
theorem dX6_ruleOf_78 : decode cX6_ruleOf 78 = .ok (.aload_n 3, 1) := by decide +kernel
theorem dX6_ruleOf_79 : decode cX6_ruleOf 79 = .ok (.getfield 249, 3) := by decide +kernel
theorem dX6_ruleOf_82 : decode cX6_ruleOf 82 = .ok (.ifCond .eq 7, 3) := by decide +kernel
theorem dX6_ruleOf_85 : decode cX6_ruleOf 85 = .ok (.iconst 1, 1) := by decide +kernel
theorem dX6_ruleOf_86 : decode cX6_ruleOf 86 = .ok (.goto 4, 3) := by decide +kernel
theorem dX6_ruleOf_89 : decode cX6_ruleOf 89 = .ok (.iconst 0, 1) := by decide +kernel
theorem dX6_ruleOf_90 : decode cX6_ruleOf 90 = .ok (.ireturn, 1) := by decide +kernel
theorem dX6_ruleOf_91 : decode cX6_ruleOf 91 = .ok (.aload_n 3, 1) := by decide +kernel
theorem dX6_ruleOf_92 : decode cX6_ruleOf 92 = .ok (.getfield 252, 3) := by decide +kernel
theorem dX6_ruleOf_95 : decode cX6_ruleOf 95 = .ok (.ireturn, 1) := by decide +kernel
theorem dX6_ruleOf_96 : decode cX6_ruleOf 96 = .ok (.new 48, 3) := by decide +kernel
theorem dX6_ruleOf_99 : decode cX6_ruleOf 99 = .ok (.dup, 1) := by decide +kernel
theorem dX6_ruleOf_100 : decode cX6_ruleOf 100 = .ok (.ldc 255, 2) := by decide +kernel
theorem dX6_ruleOf_102 : decode cX6_ruleOf 102 = .ok (.invokespecial 52, 3) := by decide +kernel
theorem dX6_ruleOf_105 : decode cX6_ruleOf 105 = .ok (.athrow, 1) := by decide +kernel
set_option maxRecDepth 20000 in
theorem ggX6_count_X5_flameCount : GoodIn wsX6_count wsX5_flameCount := goodIn_r _ [10, 11, 12, 13, 14, 15, 16, 17, 18, 19, 40, 41, 42, 43, 44, 45, 46, 47, 48, 49, 50, 66, 67, 68, 69, 70, 71, 72, 73] (by decide +kernel) (by decide +kernel)
set_option maxRecDepth 20000 in
theorem gX6_count_X5_flameCount : GoodIn wsX6_count (wsV RX6 123 RX5 yX5_flameCount wsX5_flameCount) := goodIn_app (goodIn_of _ (by decide +kernel)) ggX6_count_X5_flameCount
set_option maxRecDepth 20000 in
theorem ggX6_count_X5_cordsOut : GoodIn wsX6_count wsX5_cordsOut := goodIn_r _ [23, 11, 12, 24, 25, 26, 16, 27, 28, 29, 30, 40, 41, 42, 43, 44, 45, 46, 47, 48, 49, 50, 66, 67, 68, 69, 70, 71, 72, 73] (by decide +kernel) (by decide +kernel)
set_option maxRecDepth 20000 in
theorem gX6_count_X5_cordsOut : GoodIn wsX6_count (wsV RX6 257 RX5 yX5_cordsOut wsX5_cordsOut) := goodIn_app (goodIn_of _ (by decide +kernel)) ggX6_count_X5_cordsOut
theorem dX6_count_0 : decode cX6_count 0 = .ok (.iload_n 1, 1) := by decide +kernel
theorem dX6_count_1 : decode cX6_count 1 = .ok (.tableswitch 159 0 11 #[63, 71, 79, 87, 95, 103, 111, 119, 127, 135, 146, 151], 63) := by decide +kernel
theorem dX6_count_64 : decode cX6_count 64 = .ok (.aload_n 0, 1) := by decide +kernel
theorem dX6_count_65 : decode cX6_count 65 = .ok (.getfield 10, 3) := by decide +kernel
theorem dX6_count_68 : decode cX6_count 68 = .ok (.getfield 193, 3) := by decide +kernel
theorem dX6_count_71 : decode cX6_count 71 = .ok (.ireturn, 1) := by decide +kernel
theorem dX6_count_72 : decode cX6_count 72 = .ok (.aload_n 0, 1) := by decide +kernel
theorem dX6_count_73 : decode cX6_count 73 = .ok (.getfield 10, 3) := by decide +kernel
theorem dX6_count_76 : decode cX6_count 76 = .ok (.getfield 77, 3) := by decide +kernel
theorem dX6_count_79 : decode cX6_count 79 = .ok (.ireturn, 1) := by decide +kernel
theorem dX6_count_80 : decode cX6_count 80 = .ok (.aload_n 0, 1) := by decide +kernel
theorem dX6_count_81 : decode cX6_count 81 = .ok (.getfield 10, 3) := by decide +kernel
theorem dX6_count_84 : decode cX6_count 84 = .ok (.getfield 144, 3) := by decide +kernel
theorem dX6_count_87 : decode cX6_count 87 = .ok (.ireturn, 1) := by decide +kernel
theorem dX6_count_88 : decode cX6_count 88 = .ok (.aload_n 0, 1) := by decide +kernel
theorem dX6_count_89 : decode cX6_count 89 = .ok (.getfield 10, 3) := by decide +kernel
theorem dX6_count_92 : decode cX6_count 92 = .ok (.invokevirtual 123, 3) := by decide +kernel
theorem dX6_count_95 : decode cX6_count 95 = .ok (.ireturn, 1) := by decide +kernel
theorem dX6_count_96 : decode cX6_count 96 = .ok (.aload_n 0, 1) := by decide +kernel
theorem dX6_count_97 : decode cX6_count 97 = .ok (.getfield 10, 3) := by decide +kernel
theorem dX6_count_100 : decode cX6_count 100 = .ok (.invokevirtual 257, 3) := by decide +kernel
theorem dX6_count_103 : decode cX6_count 103 = .ok (.ireturn, 1) := by decide +kernel
theorem dX6_count_104 : decode cX6_count 104 = .ok (.aload_n 0, 1) := by decide +kernel
theorem dX6_count_105 : decode cX6_count 105 = .ok (.getfield 10, 3) := by decide +kernel
theorem dX6_count_108 : decode cX6_count 108 = .ok (.getfield 260, 3) := by decide +kernel
theorem dX6_count_111 : decode cX6_count 111 = .ok (.ireturn, 1) := by decide +kernel
theorem dX6_count_112 : decode cX6_count 112 = .ok (.aload_n 0, 1) := by decide +kernel
theorem dX6_count_113 : decode cX6_count 113 = .ok (.getfield 10, 3) := by decide +kernel
theorem dX6_count_116 : decode cX6_count 116 = .ok (.getfield 263, 3) := by decide +kernel
theorem dX6_count_119 : decode cX6_count 119 = .ok (.ireturn, 1) := by decide +kernel
theorem dX6_count_120 : decode cX6_count 120 = .ok (.aload_n 0, 1) := by decide +kernel
theorem dX6_count_121 : decode cX6_count 121 = .ok (.getfield 10, 3) := by decide +kernel
theorem dX6_count_124 : decode cX6_count 124 = .ok (.getfield 266, 3) := by decide +kernel
theorem dX6_count_127 : decode cX6_count 127 = .ok (.ireturn, 1) := by decide +kernel
theorem dX6_count_128 : decode cX6_count 128 = .ok (.aload_n 0, 1) := by decide +kernel
theorem dX6_count_129 : decode cX6_count 129 = .ok (.getfield 10, 3) := by decide +kernel
theorem dX6_count_132 : decode cX6_count 132 = .ok (.getfield 269, 3) := by decide +kernel
theorem dX6_count_135 : decode cX6_count 135 = .ok (.ireturn, 1) := by decide +kernel
theorem dX6_count_136 : decode cX6_count 136 = .ok (.aload_n 0, 1) := by decide +kernel
theorem dX6_count_137 : decode cX6_count 137 = .ok (.getfield 10, 3) := by decide +kernel
theorem dX6_count_140 : decode cX6_count 140 = .ok (.getfield 272, 3) := by decide +kernel
theorem dX6_count_143 : decode cX6_count 143 = .ok (.getfield 276, 3) := by decide +kernel
theorem dX6_count_146 : decode cX6_count 146 = .ok (.ireturn, 1) := by decide +kernel
theorem dX6_count_147 : decode cX6_count 147 = .ok (.aload_n 0, 1) := by decide +kernel
theorem dX6_count_148 : decode cX6_count 148 = .ok (.getfield 178, 3) := by decide +kernel
theorem dX6_count_151 : decode cX6_count 151 = .ok (.ireturn, 1) := by decide +kernel
theorem dX6_count_152 : decode cX6_count 152 = .ok (.aload_n 0, 1) := by decide +kernel
theorem dX6_count_153 : decode cX6_count 153 = .ok (.getfield 33, 3) := by decide +kernel
theorem dX6_count_156 : decode cX6_count 156 = .ok (.getfield 155, 3) := by decide +kernel
theorem dX6_count_159 : decode cX6_count 159 = .ok (.ireturn, 1) := by decide +kernel
theorem dX6_count_160 : decode cX6_count 160 = .ok (.new 48, 3) := by decide +kernel
theorem dX6_count_163 : decode cX6_count 163 = .ok (.dup, 1) := by decide +kernel
theorem dX6_count_164 : decode cX6_count 164 = .ok (.ldc_w 281, 3) := by decide +kernel
theorem dX6_count_167 : decode cX6_count 167 = .ok (.invokespecial 52, 3) := by decide +kernel
theorem dX6_count_170 : decode cX6_count 170 = .ok (.athrow, 1) := by decide +kernel
set_option maxRecDepth 20000 in
theorem ggX6_entry_J4_init_da8c8 : GoodIn wsX6_entry wsJ4_init_da8c8 := goodIn_r _ [9, 10, 11, 12, 13, 14, 15, 16, 17, 18, 19, 20, 21, 22, 23, 24, 25, 26, 27, 28, 272, 273, 274, 275] (by decide +kernel) (by decide +kernel)
set_option maxRecDepth 20000 in
theorem gX6_entry_J4_init_da8c8 : GoodIn wsX6_entry (wsJ4_init_da8c8) := ggX6_entry_J4_init_da8c8
set_option maxRecDepth 20000 in
theorem ggX6_entry_X0_tell : GoodIn wsX6_entry wsX0_tell := goodIn_r _ [33, 34, 35, 36, 37, 38, 39, 40, 41, 42, 43, 32, 44, 45, 46, 47, 6, 48, 49, 50, 51, 52, 12, 53, 54, 55, 56, 57, 58, 59, 19, 60, 61, 62, 63, 64, 20, 65, 66, 67, 68, 69, 70, 71, 72, 73, 74, 75, 76, 77, 78, 79, 80, 81, 82, 83, 84, 85, 86, 87, 88, 89, 90, 91, 92, 18, 93, 94, 95, 96, 97, 98, 99, 100, 101, 102, 103, 104, 17, 105, 106, 23, 107, 108, 109, 110, 111, 112, 113, 114, 115, 116, 117, 118, 119, 120, 121, 122, 123, 124, 125, 126, 127, 128, 129, 130, 131, 132, 133, 134, 135, 136, 137, 138, 139, 140, 141, 142, 143, 144, 145, 146, 147, 148, 149, 150, 151, 152, 153, 154, 155, 21, 22, 24, 25, 26, 27, 28, 156, 157, 158, 159, 160, 161, 162, 163, 164, 165, 166, 167, 168, 169, 170, 171, 172, 173, 174, 175, 176, 177, 178, 179, 180, 181, 182, 183, 184, 185, 186, 187, 188, 189, 190, 191, 192, 193, 194, 195, 196, 197, 198, 199, 200, 201, 202, 203, 204, 205, 206, 207, 208, 209, 210, 211, 212, 213, 214, 215, 216, 217, 218, 219, 220, 221, 222, 223, 224, 225, 267, 268, 269, 270, 271, 272, 273, 274, 275] (by decide +kernel) (by decide +kernel)
set_option maxRecDepth 20000 in
theorem gX6_entry_X0_tell : GoodIn wsX6_entry (wsV RX6 288 RX0 yX0_tell wsX0_tell) := goodIn_app (goodIn_of _ (by decide +kernel)) ggX6_entry_X0_tell
set_option maxRecDepth 20000 in
theorem ggX6_entry_J4_length_8abf5 : GoodIn wsX6_entry wsJ4_length_8abf5 := goodIn_r _ [229, 230, 231, 51, 232, 12, 233, 54, 272, 273, 274, 275] (by decide +kernel) (by decide +kernel)
set_option maxRecDepth 20000 in
theorem gX6_entry_J4_length_8abf5 : GoodIn wsX6_entry (wsV RX6 292 RJ4 yJ4_length_8abf5 wsJ4_length_8abf5) := goodIn_app (goodIn_of _ (by decide +kernel)) ggX6_entry_J4_length_8abf5
set_option maxRecDepth 20000 in
theorem ggX6_entry_J4_charAt_5068e : GoodIn wsX6_entry wsJ4_charAt_5068e := goodIn_r _ [237, 238, 239, 51, 240, 12, 241, 20, 19, 54, 242, 94, 77, 95, 243, 196, 117, 197, 119, 198, 199, 122, 200, 244, 245, 23, 246, 108, 127, 128, 112, 113, 114, 272, 273, 274, 275] (by decide +kernel) (by decide +kernel)
set_option maxRecDepth 20000 in
theorem gX6_entry_J4_charAt_5068e : GoodIn wsX6_entry (wsV RX6 294 RJ4 yJ4_charAt_5068e wsJ4_charAt_5068e) := goodIn_app (goodIn_of _ (by decide +kernel)) ggX6_entry_J4_charAt_5068e
theorem dX6_entry_0 : decode cX6_entry 0 = .ok (.iload_n 1, 1) := by decide +kernel
theorem dX6_entry_1 : decode cX6_entry 1 = .ok (.ifCond .lt 7, 3) := by decide +kernel
theorem dX6_entry_4 : decode cX6_entry 4 = .ok (.iload_n 2, 1) := by decide +kernel
theorem dX6_entry_5 : decode cX6_entry 5 = .ok (.ifCond .ge 14, 3) := by decide +kernel
theorem dX6_entry_8 : decode cX6_entry 8 = .ok (.new 48, 3) := by decide +kernel
theorem dX6_entry_11 : decode cX6_entry 11 = .ok (.dup, 1) := by decide +kernel
theorem dX6_entry_12 : decode cX6_entry 12 = .ok (.ldc_w 283, 3) := by decide +kernel
theorem dX6_entry_15 : decode cX6_entry 15 = .ok (.invokespecial 52, 3) := by decide +kernel
theorem dX6_entry_18 : decode cX6_entry 18 = .ok (.athrow, 1) := by decide +kernel
theorem dX6_entry_19 : decode cX6_entry 19 = .ok (.iload_n 1, 1) := by decide +kernel
theorem dX6_entry_20 : decode cX6_entry 20 = .ok (.aload_n 0, 1) := by decide +kernel
theorem dX6_entry_21 : decode cX6_entry 21 = .ok (.getfield 10, 3) := by decide +kernel
theorem dX6_entry_24 : decode cX6_entry 24 = .ok (.getfield 272, 3) := by decide +kernel
theorem dX6_entry_27 : decode cX6_entry 27 = .ok (.getfield 276, 3) := by decide +kernel
theorem dX6_entry_30 : decode cX6_entry 30 = .ok (.if_icmp .lt 5, 3) := by decide +kernel
theorem dX6_entry_33 : decode cX6_entry 33 = .ok (.iconst (-1), 1) := by decide +kernel
theorem dX6_entry_34 : decode cX6_entry 34 = .ok (.ireturn, 1) := by decide +kernel
theorem dX6_entry_35 : decode cX6_entry 35 = .ok (.new 285, 3) := by decide +kernel
theorem dX6_entry_38 : decode cX6_entry 38 = .ok (.dup, 1) := by decide +kernel
theorem dX6_entry_39 : decode cX6_entry 39 = .ok (.invokespecial 287, 3) := by decide +kernel
theorem dX6_entry_42 : decode cX6_entry 42 = .ok (.astore_n 3, 1) := by decide +kernel
theorem dX6_entry_43 : decode cX6_entry 43 = .ok (.aload_n 0, 1) := by decide +kernel
theorem dX6_entry_44 : decode cX6_entry 44 = .ok (.getfield 10, 3) := by decide +kernel
theorem dX6_entry_47 : decode cX6_entry 47 = .ok (.getfield 272, 3) := by decide +kernel
theorem dX6_entry_50 : decode cX6_entry 50 = .ok (.iload_n 1, 1) := by decide +kernel
theorem dX6_entry_51 : decode cX6_entry 51 = .ok (.aload_n 3, 1) := by decide +kernel
theorem dX6_entry_52 : decode cX6_entry 52 = .ok (.invokevirtual 288, 3) := by decide +kernel
theorem dX6_entry_55 : decode cX6_entry 55 = .ok (.iload_n 2, 1) := by decide +kernel
theorem dX6_entry_56 : decode cX6_entry 56 = .ok (.aload_n 3, 1) := by decide +kernel
theorem dX6_entry_57 : decode cX6_entry 57 = .ok (.invokevirtual 292, 3) := by decide +kernel
theorem dX6_entry_60 : decode cX6_entry 60 = .ok (.if_icmp .lt 5, 3) := by decide +kernel
theorem dX6_entry_63 : decode cX6_entry 63 = .ok (.iconst (-1), 1) := by decide +kernel
theorem dX6_entry_64 : decode cX6_entry 64 = .ok (.ireturn, 1) := by decide +kernel
theorem dX6_entry_65 : decode cX6_entry 65 = .ok (.aload_n 3, 1) := by decide +kernel
theorem dX6_entry_66 : decode cX6_entry 66 = .ok (.iload_n 2, 1) := by decide +kernel
theorem dX6_entry_67 : decode cX6_entry 67 = .ok (.invokevirtual 294, 3) := by decide +kernel
theorem dX6_entry_70 : decode cX6_entry 70 = .ok (.ireturn, 1) := by decide +kernel
set_option maxRecDepth 20000 in
theorem ggX6_outIn_X6_requireCord : GoodIn wsX6_outIn wsX6_requireCord := goodIn_ca (goodIn_r _ [7, 8, 9, 2, 10, 11, 12, 13, 14, 15, 129, 130, 131, 132, 133, 134, 135, 136, 137, 138, 139, 140, 141, 142, 143, 144, 145, 146, 147, 148] (by decide +kernel) (by decide +kernel)) (goodIn_sub (fun _ h => List.mem_cons_of_mem _ (List.mem_append_right _ h)) (by decide +kernel))
set_option maxRecDepth 20000 in
theorem gX6_outIn_X6_requireCord : GoodIn wsX6_outIn (wsV RX6 107 RX6 yX6_requireCord wsX6_requireCord) := goodIn_app (goodIn_of _ (by decide +kernel)) ggX6_outIn_X6_requireCord
set_option maxRecDepth 20000 in
theorem ggX6_outIn_X5_copyFrom : GoodIn wsX6_outIn wsX5_copyFrom := goodIn_r _ [19, 20, 15, 21, 22, 23, 24, 25, 26, 27, 28, 29, 30, 31, 32, 33, 34, 35, 36, 37, 38, 39, 40, 41, 42, 43, 44, 45, 46, 47, 48, 49, 50, 51, 52, 53, 54, 55, 56, 57, 58, 59, 60, 61, 138, 139, 140, 141, 142, 143, 144, 145, 146, 147, 148, 149, 150, 151, 152, 153, 154, 155, 156, 157, 158, 159, 160, 161, 162, 163, 164, 165] (by decide +kernel) (by decide +kernel)
set_option maxRecDepth 20000 in
theorem gX6_outIn_X5_copyFrom : GoodIn wsX6_outIn (wsV RX6 186 RX5 yX5_copyFrom wsX5_copyFrom) := goodIn_app (goodIn_of _ (by decide +kernel)) ggX6_outIn_X5_copyFrom
set_option maxRecDepth 20000 in
theorem ggX6_outIn_X1_isOut : GoodIn wsX6_outIn wsX1_isOut := goodIn_r _ [65, 38, 39, 37, 149, 150, 151, 152, 153, 154, 155, 156] (by decide +kernel) (by decide +kernel)
set_option maxRecDepth 20000 in
theorem gX6_outIn_X1_isOut : GoodIn wsX6_outIn (wsV RX6 220 RX1 yX1_isOut wsX1_isOut) := goodIn_app (goodIn_of _ (by decide +kernel)) ggX6_outIn_X1_isOut
set_option maxRecDepth 20000 in
theorem ggX6_outIn_X5_flameCount : GoodIn wsX6_outIn wsX5_flameCount := goodIn_r _ [69, 15, 20, 70, 71, 72, 33, 73, 40, 41, 138, 139, 140, 141, 142, 143, 144, 145, 146, 147, 148, 149, 150, 151, 152, 153, 154, 155, 156] (by decide +kernel) (by decide +kernel)
set_option maxRecDepth 20000 in
theorem gX6_outIn_X5_flameCount : GoodIn wsX6_outIn (wsV RX6 123 RX5 yX5_flameCount wsX5_flameCount) := goodIn_app (goodIn_of _ (by decide +kernel)) ggX6_outIn_X5_flameCount
set_option maxRecDepth 20000 in
theorem ggX6_outIn_X5_passStep : GoodIn wsX6_outIn wsX5_passStep := goodIn_r _ [77, 24, 15, 78, 79, 80, 13, 81, 27, 28, 29, 82, 83, 84, 85, 86, 67, 68, 69, 20, 70, 71, 72, 33, 73, 40, 41, 87, 88, 89, 90, 91, 92, 93, 94, 38, 39, 95, 96, 63, 64, 65, 37, 97, 98, 99, 100, 25, 23, 22, 21, 101, 102, 103, 55, 104, 57, 60, 58, 59, 61, 105, 11, 12, 14, 106, 107, 108, 109, 110, 111, 112, 113, 114, 115, 116, 117, 26, 118, 119, 120, 121, 122, 123, 124, 125, 126, 127, 128, 138, 139, 140, 141, 142, 143, 144, 145, 146, 147, 148, 149, 150, 151, 152, 153, 154, 155, 156, 157, 158, 159, 160, 161, 162, 163, 164, 165] (by decide +kernel) (by decide +kernel)
set_option maxRecDepth 20000 in
theorem gX6_outIn_X5_passStep : GoodIn wsX6_outIn (wsV RX6 298 RX5 yX5_passStep wsX5_passStep) := goodIn_app (goodIn_of _ (by decide +kernel)) ggX6_outIn_X5_passStep
theorem dX6_outIn_0 : decode cX6_outIn 0 = .ok (.aload_n 0, 1) := by decide +kernel
theorem dX6_outIn_1 : decode cX6_outIn 1 = .ok (.iload_n 1, 1) := by decide +kernel
theorem dX6_outIn_2 : decode cX6_outIn 2 = .ok (.invokevirtual 107, 3) := by decide +kernel
theorem dX6_outIn_5 : decode cX6_outIn 5 = .ok (.aload_n 0, 1) := by decide +kernel
theorem dX6_outIn_6 : decode cX6_outIn 6 = .ok (.getfield 16, 3) := by decide +kernel
theorem dX6_outIn_9 : decode cX6_outIn 9 = .ok (.aload_n 0, 1) := by decide +kernel
theorem dX6_outIn_10 : decode cX6_outIn 10 = .ok (.getfield 10, 3) := by decide +kernel
theorem dX6_outIn_13 : decode cX6_outIn 13 = .ok (.invokevirtual 186, 3) := by decide +kernel
theorem dX6_outIn_16 : decode cX6_outIn 16 = .ok (.iconst 0, 1) := by decide +kernel
theorem dX6_outIn_17 : decode cX6_outIn 17 = .ok (.istore_n 2, 1) := by decide +kernel
theorem dX6_outIn_18 : decode cX6_outIn 18 = .ok (.iload_n 2, 1) := by decide +kernel
theorem dX6_outIn_19 : decode cX6_outIn 19 = .ok (.sipush 2000, 3) := by decide +kernel
theorem dX6_outIn_22 : decode cX6_outIn 22 = .ok (.if_icmp .gt 46, 3) := by decide +kernel
theorem dX6_outIn_25 : decode cX6_outIn 25 = .ok (.aload_n 0, 1) := by decide +kernel
theorem dX6_outIn_26 : decode cX6_outIn 26 = .ok (.getfield 16, 3) := by decide +kernel
theorem dX6_outIn_29 : decode cX6_outIn 29 = .ok (.getfield 87, 3) := by decide +kernel
theorem dX6_outIn_32 : decode cX6_outIn 32 = .ok (.iload_n 1, 1) := by decide +kernel
theorem dX6_outIn_33 : decode cX6_outIn 33 = .ok (.aaload, 1) := by decide +kernel
theorem dX6_outIn_34 : decode cX6_outIn 34 = .ok (.invokevirtual 220, 3) := by decide +kernel
theorem dX6_outIn_37 : decode cX6_outIn 37 = .ok (.ifCond .eq 5, 3) := by decide +kernel
theorem dX6_outIn_40 : decode cX6_outIn 40 = .ok (.iload_n 2, 1) := by decide +kernel
theorem dX6_outIn_41 : decode cX6_outIn 41 = .ok (.ireturn, 1) := by decide +kernel
theorem dX6_outIn_42 : decode cX6_outIn 42 = .ok (.aload_n 0, 1) := by decide +kernel
theorem dX6_outIn_43 : decode cX6_outIn 43 = .ok (.getfield 16, 3) := by decide +kernel
theorem dX6_outIn_46 : decode cX6_outIn 46 = .ok (.invokevirtual 123, 3) := by decide +kernel
theorem dX6_outIn_49 : decode cX6_outIn 49 = .ok (.ifCond .ne 5, 3) := by decide +kernel
theorem dX6_outIn_52 : decode cX6_outIn 52 = .ok (.iconst (-1), 1) := by decide +kernel
theorem dX6_outIn_53 : decode cX6_outIn 53 = .ok (.ireturn, 1) := by decide +kernel
theorem dX6_outIn_54 : decode cX6_outIn 54 = .ok (.aload_n 0, 1) := by decide +kernel
theorem dX6_outIn_55 : decode cX6_outIn 55 = .ok (.getfield 16, 3) := by decide +kernel
theorem dX6_outIn_58 : decode cX6_outIn 58 = .ok (.invokevirtual 298, 3) := by decide +kernel
theorem dX6_outIn_61 : decode cX6_outIn 61 = .ok (.pop, 1) := by decide +kernel
theorem dX6_outIn_62 : decode cX6_outIn 62 = .ok (.iinc 2 1, 3) := by decide +kernel
theorem dX6_outIn_65 : decode cX6_outIn 65 = .ok (.goto (-47), 3) := by decide +kernel
theorem dX6_outIn_68 : decode cX6_outIn 68 = .ok (.iconst (-1), 1) := by decide +kernel
theorem dX6_outIn_69 : decode cX6_outIn 69 = .ok (.ireturn, 1) := by decide +kernel
set_option maxRecDepth 20000 in
theorem ggX6_lasts_X6_requireCord : GoodIn wsX6_lasts wsX6_requireCord := goodIn_ca (goodIn_r _ [8, 9, 10, 3, 11, 12, 13, 14, 15, 16, 31, 32, 33, 34, 35, 36, 37, 38, 39, 40, 41, 42, 43, 44, 45, 46, 47, 48, 49, 50] (by decide +kernel) (by decide +kernel)) (goodIn_sub (fun _ h => List.mem_cons_of_mem _ (List.mem_append_right _ h)) (by decide +kernel))
set_option maxRecDepth 20000 in
theorem gX6_lasts_X6_requireCord : GoodIn wsX6_lasts (wsV RX6 107 RX6 yX6_requireCord wsX6_requireCord) := goodIn_app (goodIn_of _ (by decide +kernel)) ggX6_lasts_X6_requireCord
set_option maxRecDepth 20000 in
theorem ggX6_lasts_X1_timeLeft : GoodIn wsX6_lasts wsX1_timeLeft := goodIn_r _ [21, 22, 23, 24, 51, 52, 53, 54, 55, 56, 57, 58] (by decide +kernel) (by decide +kernel)
set_option maxRecDepth 20000 in
theorem gX6_lasts_X1_timeLeft : GoodIn wsX6_lasts (wsV RX6 210 RX1 yX1_timeLeft wsX1_timeLeft) := goodIn_app (goodIn_of _ (by decide +kernel)) ggX6_lasts_X1_timeLeft
set_option maxRecDepth 20000 in
theorem ggX6_lasts_X6_stepsByCounting : GoodIn wsX6_lasts wsX6_stepsByCounting := goodIn_r _ [27] (by decide +kernel) (by decide +kernel)
set_option maxRecDepth 20000 in
theorem gX6_lasts_X6_stepsByCounting : GoodIn wsX6_lasts (va_wsS RX6 303 yX6_stepsByCounting wsX6_stepsByCounting) := goodIn_app (goodIn_of _ (by decide +kernel)) ggX6_lasts_X6_stepsByCounting
set_option maxRecDepth 20000 in
theorem ggX6_lasts_X6_stepsByDividing : GoodIn wsX6_lasts wsX6_stepsByDividing := goodIn_r _ [30] (by decide +kernel) (by decide +kernel)
set_option maxRecDepth 20000 in
theorem gX6_lasts_X6_stepsByDividing : GoodIn wsX6_lasts (va_wsS RX6 307 yX6_stepsByDividing wsX6_stepsByDividing) := goodIn_app (goodIn_of _ (by decide +kernel)) ggX6_lasts_X6_stepsByDividing
theorem dX6_lasts_0 : decode cX6_lasts 0 = .ok (.aload_n 0, 1) := by decide +kernel
theorem dX6_lasts_1 : decode cX6_lasts 1 = .ok (.iload_n 1, 1) := by decide +kernel
theorem dX6_lasts_2 : decode cX6_lasts 2 = .ok (.invokevirtual 107, 3) := by decide +kernel
theorem dX6_lasts_5 : decode cX6_lasts 5 = .ok (.iload_n 2, 1) := by decide +kernel
theorem dX6_lasts_6 : decode cX6_lasts 6 = .ok (.iconst 1, 1) := by decide +kernel
theorem dX6_lasts_7 : decode cX6_lasts 7 = .ok (.if_icmp .lt 17, 3) := by decide +kernel
theorem dX6_lasts_10 : decode cX6_lasts 10 = .ok (.iload_n 2, 1) := by decide +kernel
theorem dX6_lasts_11 : decode cX6_lasts 11 = .ok (.iconst 2, 1) := by decide +kernel
theorem dX6_lasts_12 : decode cX6_lasts 12 = .ok (.if_icmp .gt 12, 3) := by decide +kernel
theorem dX6_lasts_15 : decode cX6_lasts 15 = .ok (.iload_n 3, 1) := by decide +kernel
theorem dX6_lasts_16 : decode cX6_lasts 16 = .ok (.ifCond .lt 8, 3) := by decide +kernel
theorem dX6_lasts_19 : decode cX6_lasts 19 = .ok (.iload_n 3, 1) := by decide +kernel
theorem dX6_lasts_20 : decode cX6_lasts 20 = .ok (.iconst 1, 1) := by decide +kernel
theorem dX6_lasts_21 : decode cX6_lasts 21 = .ok (.if_icmp .le 14, 3) := by decide +kernel
theorem dX6_lasts_24 : decode cX6_lasts 24 = .ok (.new 48, 3) := by decide +kernel
theorem dX6_lasts_27 : decode cX6_lasts 27 = .ok (.dup, 1) := by decide +kernel
theorem dX6_lasts_28 : decode cX6_lasts 28 = .ok (.ldc_w 301, 3) := by decide +kernel
theorem dX6_lasts_31 : decode cX6_lasts 31 = .ok (.invokespecial 52, 3) := by decide +kernel
theorem dX6_lasts_34 : decode cX6_lasts 34 = .ok (.athrow, 1) := by decide +kernel
theorem dX6_lasts_35 : decode cX6_lasts 35 = .ok (.aload_n 0, 1) := by decide +kernel
theorem dX6_lasts_36 : decode cX6_lasts 36 = .ok (.getfield 10, 3) := by decide +kernel
theorem dX6_lasts_39 : decode cX6_lasts 39 = .ok (.getfield 87, 3) := by decide +kernel
theorem dX6_lasts_42 : decode cX6_lasts 42 = .ok (.iload_n 1, 1) := by decide +kernel
theorem dX6_lasts_43 : decode cX6_lasts 43 = .ok (.aaload, 1) := by decide +kernel
theorem dX6_lasts_44 : decode cX6_lasts 44 = .ok (.invokevirtual 210, 3) := by decide +kernel
theorem dX6_lasts_47 : decode cX6_lasts 47 = .ok (.istore 4, 2) := by decide +kernel
theorem dX6_lasts_49 : decode cX6_lasts 49 = .ok (.iload_n 3, 1) := by decide +kernel
theorem dX6_lasts_50 : decode cX6_lasts 50 = .ok (.ifCond .ne 12, 3) := by decide +kernel
theorem dX6_lasts_53 : decode cX6_lasts 53 = .ok (.iload 4, 2) := by decide +kernel
theorem dX6_lasts_55 : decode cX6_lasts 55 = .ok (.iload_n 2, 1) := by decide +kernel
theorem dX6_lasts_56 : decode cX6_lasts 56 = .ok (.invokestatic 303, 3) := by decide +kernel
theorem dX6_lasts_59 : decode cX6_lasts 59 = .ok (.goto 9, 3) := by decide +kernel
theorem dX6_lasts_62 : decode cX6_lasts 62 = .ok (.iload 4, 2) := by decide +kernel
theorem dX6_lasts_64 : decode cX6_lasts 64 = .ok (.iload_n 2, 1) := by decide +kernel
theorem dX6_lasts_65 : decode cX6_lasts 65 = .ok (.invokestatic 307, 3) := by decide +kernel
theorem dX6_lasts_68 : decode cX6_lasts 68 = .ok (.ireturn, 1) := by decide +kernel
set_option maxRecDepth 20000 in
theorem ggX6_tellable_X6_isPlanSet : GoodIn wsX6_tellable wsX6_isPlanSet := goodIn_r _ [8, 9, 10, 11, 12, 13, 14, 15, 16, 79, 80, 81, 82, 83, 84, 85, 86, 87, 88, 89, 90, 91, 92, 93, 94, 95, 96, 97, 98] (by decide +kernel) (by decide +kernel)
set_option maxRecDepth 20000 in
theorem gX6_tellable_X6_isPlanSet : GoodIn wsX6_tellable (wsV RX6 310 RX6 yX6_isPlanSet wsX6_isPlanSet) := goodIn_app (goodIn_of _ (by decide +kernel)) ggX6_tellable_X6_isPlanSet
set_option maxRecDepth 20000 in
theorem ggX6_tellable_X6_makePlans : GoodIn wsX6_tellable wsX6_makePlans := goodIn_r _ [20, 3, 9, 21, 22, 23, 24, 25, 26, 27, 28, 29, 30, 31, 32, 33, 34, 35, 36, 37, 38, 39, 40, 41, 42, 43, 44, 45, 46, 47, 48, 49, 50, 51, 52, 53, 54, 55, 56, 57, 58, 59, 60, 61, 62, 63, 64, 65, 7, 66, 67, 68, 69, 70, 79, 80, 81, 82, 83, 84, 85, 86, 87, 88, 89, 90, 91, 92, 93, 94, 95, 96, 97, 98, 99, 100, 101, 102, 103, 104, 105, 106, 107, 108, 109, 110] (by decide +kernel) (by decide +kernel)
set_option maxRecDepth 20000 in
theorem gX6_tellable_X6_makePlans : GoodIn wsX6_tellable (wsV RX6 315 RX6 yX6_makePlans wsX6_makePlans) := goodIn_app (goodIn_of _ (by decide +kernel)) ggX6_tellable_X6_makePlans
set_option maxRecDepth 20000 in
theorem ggX6_tellable_X3_toldTimes : GoodIn wsX6_tellable wsX3_toldTimes := goodIn_r _ [74, 26, 107, 108, 109, 110] (by decide +kernel) (by decide +kernel)
set_option maxRecDepth 20000 in
theorem gX6_tellable_X3_toldTimes : GoodIn wsX6_tellable (wsV RX6 318 RX3 yX3_toldTimes wsX3_toldTimes) := goodIn_app (goodIn_of _ (by decide +kernel)) ggX6_tellable_X3_toldTimes
set_option maxRecDepth 20000 in
theorem ggX6_tellable_X3_toldTime : GoodIn wsX6_tellable wsX3_toldTime := goodIn_r _ [78, 26, 107, 108, 109, 110] (by decide +kernel) (by decide +kernel)
set_option maxRecDepth 20000 in
theorem gX6_tellable_X3_toldTime : GoodIn wsX6_tellable (wsV RX6 321 RX3 yX3_toldTime wsX3_toldTime) := goodIn_app (goodIn_of _ (by decide +kernel)) ggX6_tellable_X3_toldTime
theorem dX6_tellable_0 : decode cX6_tellable 0 = .ok (.aload_n 0, 1) := by decide +kernel
theorem dX6_tellable_1 : decode cX6_tellable 1 = .ok (.iload_n 1, 1) := by decide +kernel
theorem dX6_tellable_2 : decode cX6_tellable 2 = .ok (.invokevirtual 310, 3) := by decide +kernel
theorem dX6_tellable_5 : decode cX6_tellable 5 = .ok (.ifCond .eq 8, 3) := by decide +kernel
theorem dX6_tellable_8 : decode cX6_tellable 8 = .ok (.iload_n 2, 1) := by decide +kernel
theorem dX6_tellable_9 : decode cX6_tellable 9 = .ok (.iconst (-1), 1) := by decide +kernel
theorem dX6_tellable_10 : decode cX6_tellable 10 = .ok (.if_icmp .ge 14, 3) := by decide +kernel
theorem dX6_tellable_13 : decode cX6_tellable 13 = .ok (.new 48, 3) := by decide +kernel
theorem dX6_tellable_16 : decode cX6_tellable 16 = .ok (.dup, 1) := by decide +kernel
theorem dX6_tellable_17 : decode cX6_tellable 17 = .ok (.ldc_w 313, 3) := by decide +kernel
theorem dX6_tellable_20 : decode cX6_tellable 20 = .ok (.invokespecial 52, 3) := by decide +kernel
theorem dX6_tellable_23 : decode cX6_tellable 23 = .ok (.athrow, 1) := by decide +kernel
theorem dX6_tellable_24 : decode cX6_tellable 24 = .ok (.aload_n 0, 1) := by decide +kernel
theorem dX6_tellable_25 : decode cX6_tellable 25 = .ok (.iload_n 1, 1) := by decide +kernel
theorem dX6_tellable_26 : decode cX6_tellable 26 = .ok (.invokevirtual 315, 3) := by decide +kernel
theorem dX6_tellable_29 : decode cX6_tellable 29 = .ok (.iload_n 2, 1) := by decide +kernel
theorem dX6_tellable_30 : decode cX6_tellable 30 = .ok (.iconst (-1), 1) := by decide +kernel
theorem dX6_tellable_31 : decode cX6_tellable 31 = .ok (.if_icmp .ne 13, 3) := by decide +kernel
theorem dX6_tellable_34 : decode cX6_tellable 34 = .ok (.aload_n 0, 1) := by decide +kernel
theorem dX6_tellable_35 : decode cX6_tellable 35 = .ok (.getfield 40, 3) := by decide +kernel
theorem dX6_tellable_38 : decode cX6_tellable 38 = .ok (.invokevirtual 318, 3) := by decide +kernel
theorem dX6_tellable_41 : decode cX6_tellable 41 = .ok (.goto 11, 3) := by decide +kernel
theorem dX6_tellable_44 : decode cX6_tellable 44 = .ok (.aload_n 0, 1) := by decide +kernel
theorem dX6_tellable_45 : decode cX6_tellable 45 = .ok (.getfield 40, 3) := by decide +kernel
theorem dX6_tellable_48 : decode cX6_tellable 48 = .ok (.iload_n 2, 1) := by decide +kernel
theorem dX6_tellable_49 : decode cX6_tellable 49 = .ok (.invokevirtual 321, 3) := by decide +kernel
theorem dX6_tellable_52 : decode cX6_tellable 52 = .ok (.ireturn, 1) := by decide +kernel
set_option maxRecDepth 20000 in
theorem ggX6_fewestFlames_X6_isPlanSet : GoodIn wsX6_fewestFlames wsX6_isPlanSet := goodIn_r _ [8, 9, 10, 11, 12, 13, 14, 15, 16, 71, 72, 73, 74, 75, 76, 77, 78, 79, 84, 85, 86, 87, 88, 89, 90, 91, 92, 93, 94] (by decide +kernel) (by decide +kernel)
set_option maxRecDepth 20000 in
theorem gX6_fewestFlames_X6_isPlanSet : GoodIn wsX6_fewestFlames (wsV RX6 310 RX6 yX6_isPlanSet wsX6_isPlanSet) := goodIn_app (goodIn_of _ (by decide +kernel)) ggX6_fewestFlames_X6_isPlanSet
set_option maxRecDepth 20000 in
theorem ggX6_fewestFlames_X6_makePlans : GoodIn wsX6_fewestFlames wsX6_makePlans := goodIn_r _ [20, 3, 9, 21, 22, 23, 24, 25, 26, 27, 28, 29, 30, 31, 32, 33, 34, 35, 36, 37, 38, 39, 40, 41, 42, 43, 44, 45, 46, 47, 48, 49, 50, 51, 52, 53, 54, 55, 56, 57, 58, 59, 60, 61, 62, 63, 64, 65, 7, 66, 67, 68, 69, 70, 71, 72, 73, 74, 75, 76, 77, 78, 79, 84, 85, 86, 87, 88, 89, 90, 91, 92, 93, 94, 95, 96, 97, 98, 99, 100, 101, 102, 80, 81, 82, 83] (by decide +kernel) (by decide +kernel)
set_option maxRecDepth 20000 in
theorem gX6_fewestFlames_X6_makePlans : GoodIn wsX6_fewestFlames (wsV RX6 315 RX6 yX6_makePlans wsX6_makePlans) := goodIn_app (goodIn_of _ (by decide +kernel)) ggX6_fewestFlames_X6_makePlans
theorem dX6_fewestFlames_0 : decode cX6_fewestFlames 0 = .ok (.aload_n 0, 1) := by decide +kernel
theorem dX6_fewestFlames_1 : decode cX6_fewestFlames 1 = .ok (.iload_n 1, 1) := by decide +kernel
theorem dX6_fewestFlames_2 : decode cX6_fewestFlames 2 = .ok (.invokevirtual 310, 3) := by decide +kernel
theorem dX6_fewestFlames_5 : decode cX6_fewestFlames 5 = .ok (.ifCond .eq 15, 3) := by decide +kernel
theorem dX6_fewestFlames_8 : decode cX6_fewestFlames 8 = .ok (.iload_n 2, 1) := by decide +kernel
theorem dX6_fewestFlames_9 : decode cX6_fewestFlames 9 = .ok (.iconst 1, 1) := by decide +kernel
theorem dX6_fewestFlames_10 : decode cX6_fewestFlames 10 = .ok (.if_icmp .lt 10, 3) := by decide +kernel
theorem dX6_fewestFlames_13 : decode cX6_fewestFlames 13 = .ok (.iload_n 2, 1) := by decide +kernel
theorem dX6_fewestFlames_14 : decode cX6_fewestFlames 14 = .ok (.sipush 1080, 3) := by decide +kernel
theorem dX6_fewestFlames_17 : decode cX6_fewestFlames 17 = .ok (.if_icmp .le 14, 3) := by decide +kernel
theorem dX6_fewestFlames_20 : decode cX6_fewestFlames 20 = .ok (.new 48, 3) := by decide +kernel
theorem dX6_fewestFlames_23 : decode cX6_fewestFlames 23 = .ok (.dup, 1) := by decide +kernel
theorem dX6_fewestFlames_24 : decode cX6_fewestFlames 24 = .ok (.ldc_w 324, 3) := by decide +kernel
theorem dX6_fewestFlames_27 : decode cX6_fewestFlames 27 = .ok (.invokespecial 52, 3) := by decide +kernel
theorem dX6_fewestFlames_30 : decode cX6_fewestFlames 30 = .ok (.athrow, 1) := by decide +kernel
theorem dX6_fewestFlames_31 : decode cX6_fewestFlames 31 = .ok (.aload_n 0, 1) := by decide +kernel
theorem dX6_fewestFlames_32 : decode cX6_fewestFlames 32 = .ok (.iload_n 1, 1) := by decide +kernel
theorem dX6_fewestFlames_33 : decode cX6_fewestFlames 33 = .ok (.invokevirtual 315, 3) := by decide +kernel
theorem dX6_fewestFlames_36 : decode cX6_fewestFlames 36 = .ok (.aload_n 0, 1) := by decide +kernel
theorem dX6_fewestFlames_37 : decode cX6_fewestFlames 37 = .ok (.getfield 40, 3) := by decide +kernel
theorem dX6_fewestFlames_40 : decode cX6_fewestFlames 40 = .ok (.getfield 326, 3) := by decide +kernel
theorem dX6_fewestFlames_43 : decode cX6_fewestFlames 43 = .ok (.iload_n 2, 1) := by decide +kernel
theorem dX6_fewestFlames_44 : decode cX6_fewestFlames 44 = .ok (.iaload, 1) := by decide +kernel
theorem dX6_fewestFlames_45 : decode cX6_fewestFlames 45 = .ok (.ireturn, 1) := by decide +kernel
set_option maxRecDepth 20000 in
theorem ggX6_burned_X1_burnedTime : GoodIn wsX6_burned wsX1_burnedTime := goodIn_r _ [6, 7, 8, 29, 30, 31, 32, 33, 34, 35, 36] (by decide +kernel) (by decide +kernel)
set_option maxRecDepth 20000 in
theorem gX6_burned_X1_burnedTime : GoodIn wsX6_burned (wsV RX6 91 RX1 yX1_burnedTime wsX1_burnedTime) := goodIn_app (goodIn_of _ (by decide +kernel)) ggX6_burned_X1_burnedTime
theorem dX6_burned_0 : decode cX6_burned 0 = .ok (.iconst 0, 1) := by decide +kernel
theorem dX6_burned_1 : decode cX6_burned 1 = .ok (.istore_n 1, 1) := by decide +kernel
theorem dX6_burned_2 : decode cX6_burned 2 = .ok (.iconst 0, 1) := by decide +kernel
theorem dX6_burned_3 : decode cX6_burned 3 = .ok (.istore_n 2, 1) := by decide +kernel
theorem dX6_burned_4 : decode cX6_burned 4 = .ok (.iconst 0, 1) := by decide +kernel
theorem dX6_burned_5 : decode cX6_burned 5 = .ok (.istore_n 3, 1) := by decide +kernel
theorem dX6_burned_6 : decode cX6_burned 6 = .ok (.iload_n 3, 1) := by decide +kernel
theorem dX6_burned_7 : decode cX6_burned 7 = .ok (.aload_n 0, 1) := by decide +kernel
theorem dX6_burned_8 : decode cX6_burned 8 = .ok (.getfield 10, 3) := by decide +kernel
theorem dX6_burned_11 : decode cX6_burned 11 = .ok (.getfield 77, 3) := by decide +kernel
theorem dX6_burned_14 : decode cX6_burned 14 = .ok (.if_icmp .ge 39, 3) := by decide +kernel
theorem dX6_burned_17 : decode cX6_burned 17 = .ok (.iload_n 1, 1) := by decide +kernel
theorem dX6_burned_18 : decode cX6_burned 18 = .ok (.aload_n 0, 1) := by decide +kernel
theorem dX6_burned_19 : decode cX6_burned 19 = .ok (.getfield 10, 3) := by decide +kernel
theorem dX6_burned_22 : decode cX6_burned 22 = .ok (.getfield 87, 3) := by decide +kernel
theorem dX6_burned_25 : decode cX6_burned 25 = .ok (.iload_n 3, 1) := by decide +kernel
theorem dX6_burned_26 : decode cX6_burned 26 = .ok (.aaload, 1) := by decide +kernel
theorem dX6_burned_27 : decode cX6_burned 27 = .ok (.invokevirtual 91, 3) := by decide +kernel
theorem dX6_burned_30 : decode cX6_burned 30 = .ok (.iadd, 1) := by decide +kernel
theorem dX6_burned_31 : decode cX6_burned 31 = .ok (.istore_n 1, 1) := by decide +kernel
theorem dX6_burned_32 : decode cX6_burned 32 = .ok (.iload_n 2, 1) := by decide +kernel
theorem dX6_burned_33 : decode cX6_burned 33 = .ok (.aload_n 0, 1) := by decide +kernel
theorem dX6_burned_34 : decode cX6_burned 34 = .ok (.getfield 10, 3) := by decide +kernel
theorem dX6_burned_37 : decode cX6_burned 37 = .ok (.getfield 87, 3) := by decide +kernel
theorem dX6_burned_40 : decode cX6_burned 40 = .ok (.iload_n 3, 1) := by decide +kernel
theorem dX6_burned_41 : decode cX6_burned 41 = .ok (.aaload, 1) := by decide +kernel
theorem dX6_burned_42 : decode cX6_burned 42 = .ok (.getfield 198, 3) := by decide +kernel
theorem dX6_burned_45 : decode cX6_burned 45 = .ok (.iadd, 1) := by decide +kernel
theorem dX6_burned_46 : decode cX6_burned 46 = .ok (.istore_n 2, 1) := by decide +kernel
theorem dX6_burned_47 : decode cX6_burned 47 = .ok (.iinc 3 1, 3) := by decide +kernel
theorem dX6_burned_50 : decode cX6_burned 50 = .ok (.goto (-44), 3) := by decide +kernel
theorem dX6_burned_53 : decode cX6_burned 53 = .ok (.iload_n 2, 1) := by decide +kernel
theorem dX6_burned_54 : decode cX6_burned 54 = .ok (.ifCond .le 11, 3) := by decide +kernel
theorem dX6_burned_57 : decode cX6_burned 57 = .ok (.iload_n 1, 1) := by decide +kernel
theorem dX6_burned_58 : decode cX6_burned 58 = .ok (.i2f, 1) := by decide +kernel
theorem dX6_burned_59 : decode cX6_burned 59 = .ok (.iload_n 2, 1) := by decide +kernel
theorem dX6_burned_60 : decode cX6_burned 60 = .ok (.i2f, 1) := by decide +kernel
theorem dX6_burned_61 : decode cX6_burned 61 = .ok (.fdiv, 1) := by decide +kernel
theorem dX6_burned_62 : decode cX6_burned 62 = .ok (.goto 4, 3) := by decide +kernel
theorem dX6_burned_65 : decode cX6_burned 65 = .ok (.fconst 0, 1) := by decide +kernel
theorem dX6_burned_66 : decode cX6_burned 66 = .ok (.freturn, 1) := by decide +kernel
set_option maxRecDepth 20000 in
theorem ggX6_requireCord_X5_hasCord : GoodIn wsX6_requireCord wsX5_hasCord := goodIn_r _ [8, 9, 19, 20, 21, 22, 23, 24, 25, 26, 27, 28, 29] (by decide +kernel) (by decide +kernel)
set_option maxRecDepth 20000 in
theorem gX6_requireCord_X5_hasCord : GoodIn wsX6_requireCord (wsV RX6 329 RX5 yX5_hasCord wsX5_hasCord) := goodIn_app (goodIn_of _ (by decide +kernel)) ggX6_requireCord_X5_hasCord
theorem dX6_requireCord_0 : decode cX6_requireCord 0 = .ok (.aload_n 0, 1) := by decide +kernel
theorem dX6_requireCord_1 : decode cX6_requireCord 1 = .ok (.getfield 10, 3) := by decide +kernel
theorem dX6_requireCord_4 : decode cX6_requireCord 4 = .ok (.iload_n 1, 1) := by decide +kernel
theorem dX6_requireCord_5 : decode cX6_requireCord 5 = .ok (.invokevirtual 329, 3) := by decide +kernel
theorem dX6_requireCord_8 : decode cX6_requireCord 8 = .ok (.ifCond .ne 14, 3) := by decide +kernel
theorem dX6_requireCord_11 : decode cX6_requireCord 11 = .ok (.new 232, 3) := by decide +kernel
theorem dX6_requireCord_14 : decode cX6_requireCord 14 = .ok (.dup, 1) := by decide +kernel
theorem dX6_requireCord_15 : decode cX6_requireCord 15 = .ok (.ldc_w 332, 3) := by decide +kernel
theorem dX6_requireCord_18 : decode cX6_requireCord 18 = .ok (.invokespecial 236, 3) := by decide +kernel
theorem dX6_requireCord_21 : decode cX6_requireCord 21 = .ok (.athrow, 1) := by decide +kernel
theorem dX6_requireCord_22 : decode cX6_requireCord 22 = .ok (.return_, 1) := by decide +kernel
set_option maxRecDepth 20000 in
theorem ggX6_requireSegment_X6_requireCord : GoodIn wsX6_requireSegment wsX6_requireCord := goodIn_ca (goodIn_r _ [8, 1, 2, 3, 9, 10, 11, 12, 13, 14, 15, 16, 17, 18, 19, 20, 21, 22, 23, 24, 25, 26, 27, 28, 29, 30, 31, 32, 33, 34] (by decide +kernel) (by decide +kernel)) (goodIn_sub (fun _ h => List.mem_cons_of_mem _ (List.mem_append_right _ h)) (by decide +kernel))
set_option maxRecDepth 20000 in
theorem gX6_requireSegment_X6_requireCord : GoodIn wsX6_requireSegment (wsV RX6 107 RX6 yX6_requireCord wsX6_requireCord) := goodIn_app (goodIn_of _ (by decide +kernel)) ggX6_requireSegment_X6_requireCord
theorem dX6_requireSegment_0 : decode cX6_requireSegment 0 = .ok (.aload_n 0, 1) := by decide +kernel
theorem dX6_requireSegment_1 : decode cX6_requireSegment 1 = .ok (.iload_n 1, 1) := by decide +kernel
theorem dX6_requireSegment_2 : decode cX6_requireSegment 2 = .ok (.invokevirtual 107, 3) := by decide +kernel
theorem dX6_requireSegment_5 : decode cX6_requireSegment 5 = .ok (.iload_n 2, 1) := by decide +kernel
theorem dX6_requireSegment_6 : decode cX6_requireSegment 6 = .ok (.ifCond .lt 19, 3) := by decide +kernel
theorem dX6_requireSegment_9 : decode cX6_requireSegment 9 = .ok (.iload_n 2, 1) := by decide +kernel
theorem dX6_requireSegment_10 : decode cX6_requireSegment 10 = .ok (.aload_n 0, 1) := by decide +kernel
theorem dX6_requireSegment_11 : decode cX6_requireSegment 11 = .ok (.getfield 10, 3) := by decide +kernel
theorem dX6_requireSegment_14 : decode cX6_requireSegment 14 = .ok (.getfield 87, 3) := by decide +kernel
theorem dX6_requireSegment_17 : decode cX6_requireSegment 17 = .ok (.iload_n 1, 1) := by decide +kernel
theorem dX6_requireSegment_18 : decode cX6_requireSegment 18 = .ok (.aaload, 1) := by decide +kernel
theorem dX6_requireSegment_19 : decode cX6_requireSegment 19 = .ok (.getfield 201, 3) := by decide +kernel
theorem dX6_requireSegment_22 : decode cX6_requireSegment 22 = .ok (.if_icmp .lt 14, 3) := by decide +kernel
theorem dX6_requireSegment_25 : decode cX6_requireSegment 25 = .ok (.new 232, 3) := by decide +kernel
theorem dX6_requireSegment_28 : decode cX6_requireSegment 28 = .ok (.dup, 1) := by decide +kernel
theorem dX6_requireSegment_29 : decode cX6_requireSegment 29 = .ok (.ldc_w 334, 3) := by decide +kernel
theorem dX6_requireSegment_32 : decode cX6_requireSegment 32 = .ok (.invokespecial 236, 3) := by decide +kernel
theorem dX6_requireSegment_35 : decode cX6_requireSegment 35 = .ok (.athrow, 1) := by decide +kernel
theorem dX6_requireSegment_36 : decode cX6_requireSegment 36 = .ok (.return_, 1) := by decide +kernel
theorem dX6_isSegmentTime_0 : decode cX6_isSegmentTime 0 = .ok (.iload_n 0, 1) := by decide +kernel
theorem dX6_isSegmentTime_1 : decode cX6_isSegmentTime 1 = .ok (.iconst 1, 1) := by decide +kernel
theorem dX6_isSegmentTime_2 : decode cX6_isSegmentTime 2 = .ok (.if_icmp .lt 13, 3) := by decide +kernel
theorem dX6_isSegmentTime_5 : decode cX6_isSegmentTime 5 = .ok (.iload_n 0, 1) := by decide +kernel
theorem dX6_isSegmentTime_6 : decode cX6_isSegmentTime 6 = .ok (.bipush 60, 2) := by decide +kernel
theorem dX6_isSegmentTime_8 : decode cX6_isSegmentTime 8 = .ok (.if_icmp .gt 7, 3) := by decide +kernel
theorem dX6_isSegmentTime_11 : decode cX6_isSegmentTime 11 = .ok (.iconst 1, 1) := by decide +kernel
theorem dX6_isSegmentTime_12 : decode cX6_isSegmentTime 12 = .ok (.goto 4, 3) := by decide +kernel
theorem dX6_isSegmentTime_15 : decode cX6_isSegmentTime 15 = .ok (.iconst 0, 1) := by decide +kernel
theorem dX6_isSegmentTime_16 : decode cX6_isSegmentTime 16 = .ok (.ireturn, 1) := by decide +kernel
set_option maxRecDepth 20000 in
theorem ggX6_save_X5_copyFrom : GoodIn wsX6_save wsX5_copyFrom := goodIn_r _ [9, 10, 11, 12, 13, 14, 15, 16, 17, 18, 19, 20, 21, 22, 23, 24, 25, 26, 27, 28, 29, 30, 31, 32, 33, 34, 35, 36, 37, 38, 39, 40, 41, 42, 43, 44, 45, 46, 47, 48, 49, 50, 51, 52, 62, 63, 64, 65, 66, 67, 68, 69, 70, 71, 72, 73, 74, 75, 76, 77, 78, 79, 80, 81, 82, 83, 84, 85, 86, 87, 88, 89] (by decide +kernel) (by decide +kernel)
set_option maxRecDepth 20000 in
theorem gX6_save_X5_copyFrom : GoodIn wsX6_save (wsV RX6 186 RX5 yX5_copyFrom wsX5_copyFrom) := goodIn_app (goodIn_of _ (by decide +kernel)) ggX6_save_X5_copyFrom
theorem dX6_save_0 : decode cX6_save 0 = .ok (.aload_n 0, 1) := by decide +kernel
theorem dX6_save_1 : decode cX6_save 1 = .ok (.getfield 178, 3) := by decide +kernel
theorem dX6_save_4 : decode cX6_save 4 = .ok (.bipush 6, 2) := by decide +kernel
theorem dX6_save_6 : decode cX6_save 6 = .ok (.if_icmp .ne 26, 3) := by decide +kernel
theorem dX6_save_9 : decode cX6_save 9 = .ok (.aload_n 0, 1) := by decide +kernel
theorem dX6_save_10 : decode cX6_save 10 = .ok (.aload_n 0, 1) := by decide +kernel
theorem dX6_save_11 : decode cX6_save 11 = .ok (.getfield 183, 3) := by decide +kernel
theorem dX6_save_14 : decode cX6_save 14 = .ok (.iconst 1, 1) := by decide +kernel
theorem dX6_save_15 : decode cX6_save 15 = .ok (.iadd, 1) := by decide +kernel
theorem dX6_save_16 : decode cX6_save 16 = .ok (.bipush 6, 2) := by decide +kernel
theorem dX6_save_18 : decode cX6_save 18 = .ok (.irem, 1) := by decide +kernel
theorem dX6_save_19 : decode cX6_save 19 = .ok (.putfield 183, 3) := by decide +kernel
theorem dX6_save_22 : decode cX6_save 22 = .ok (.aload_n 0, 1) := by decide +kernel
theorem dX6_save_23 : decode cX6_save 23 = .ok (.dup, 1) := by decide +kernel
theorem dX6_save_24 : decode cX6_save 24 = .ok (.getfield 178, 3) := by decide +kernel
theorem dX6_save_27 : decode cX6_save 27 = .ok (.iconst 1, 1) := by decide +kernel
theorem dX6_save_28 : decode cX6_save 28 = .ok (.isub, 1) := by decide +kernel
theorem dX6_save_29 : decode cX6_save 29 = .ok (.putfield 178, 3) := by decide +kernel
theorem dX6_save_32 : decode cX6_save 32 = .ok (.aload_n 0, 1) := by decide +kernel
theorem dX6_save_33 : decode cX6_save 33 = .ok (.getfield 19, 3) := by decide +kernel
theorem dX6_save_36 : decode cX6_save 36 = .ok (.aload_n 0, 1) := by decide +kernel
theorem dX6_save_37 : decode cX6_save 37 = .ok (.getfield 183, 3) := by decide +kernel
theorem dX6_save_40 : decode cX6_save 40 = .ok (.aload_n 0, 1) := by decide +kernel
theorem dX6_save_41 : decode cX6_save 41 = .ok (.getfield 178, 3) := by decide +kernel
theorem dX6_save_44 : decode cX6_save 44 = .ok (.iadd, 1) := by decide +kernel
theorem dX6_save_45 : decode cX6_save 45 = .ok (.bipush 6, 2) := by decide +kernel
theorem dX6_save_47 : decode cX6_save 47 = .ok (.irem, 1) := by decide +kernel
theorem dX6_save_48 : decode cX6_save 48 = .ok (.aaload, 1) := by decide +kernel
theorem dX6_save_49 : decode cX6_save 49 = .ok (.aload_n 0, 1) := by decide +kernel
theorem dX6_save_50 : decode cX6_save 50 = .ok (.getfield 10, 3) := by decide +kernel
theorem dX6_save_53 : decode cX6_save 53 = .ok (.invokevirtual 186, 3) := by decide +kernel
theorem dX6_save_56 : decode cX6_save 56 = .ok (.aload_n 0, 1) := by decide +kernel
theorem dX6_save_57 : decode cX6_save 57 = .ok (.dup, 1) := by decide +kernel
theorem dX6_save_58 : decode cX6_save 58 = .ok (.getfield 178, 3) := by decide +kernel
theorem dX6_save_61 : decode cX6_save 61 = .ok (.iconst 1, 1) := by decide +kernel
theorem dX6_save_62 : decode cX6_save 62 = .ok (.iadd, 1) := by decide +kernel
theorem dX6_save_63 : decode cX6_save 63 = .ok (.putfield 178, 3) := by decide +kernel
theorem dX6_save_66 : decode cX6_save 66 = .ok (.return_, 1) := by decide +kernel
theorem dX6_stepsByCounting_0 : decode cX6_stepsByCounting 0 = .ok (.iconst 0, 1) := by decide +kernel
theorem dX6_stepsByCounting_1 : decode cX6_stepsByCounting 1 = .ok (.istore_n 2, 1) := by decide +kernel
theorem dX6_stepsByCounting_2 : decode cX6_stepsByCounting 2 = .ok (.iload_n 0, 1) := by decide +kernel
theorem dX6_stepsByCounting_3 : decode cX6_stepsByCounting 3 = .ok (.istore_n 3, 1) := by decide +kernel
theorem dX6_stepsByCounting_4 : decode cX6_stepsByCounting 4 = .ok (.iload_n 3, 1) := by decide +kernel
theorem dX6_stepsByCounting_5 : decode cX6_stepsByCounting 5 = .ok (.ifCond .le 20, 3) := by decide +kernel
theorem dX6_stepsByCounting_8 : decode cX6_stepsByCounting 8 = .ok (.iload_n 2, 1) := by decide +kernel
theorem dX6_stepsByCounting_9 : decode cX6_stepsByCounting 9 = .ok (.sipush 2000, 3) := by decide +kernel
theorem dX6_stepsByCounting_12 : decode cX6_stepsByCounting 12 = .ok (.if_icmp .ge 13, 3) := by decide +kernel
theorem dX6_stepsByCounting_15 : decode cX6_stepsByCounting 15 = .ok (.iload_n 3, 1) := by decide +kernel
theorem dX6_stepsByCounting_16 : decode cX6_stepsByCounting 16 = .ok (.iload_n 1, 1) := by decide +kernel
theorem dX6_stepsByCounting_17 : decode cX6_stepsByCounting 17 = .ok (.isub, 1) := by decide +kernel
theorem dX6_stepsByCounting_18 : decode cX6_stepsByCounting 18 = .ok (.istore_n 3, 1) := by decide +kernel
theorem dX6_stepsByCounting_19 : decode cX6_stepsByCounting 19 = .ok (.iinc 2 1, 3) := by decide +kernel
theorem dX6_stepsByCounting_22 : decode cX6_stepsByCounting 22 = .ok (.goto (-18), 3) := by decide +kernel
theorem dX6_stepsByCounting_25 : decode cX6_stepsByCounting 25 = .ok (.iload_n 2, 1) := by decide +kernel
theorem dX6_stepsByCounting_26 : decode cX6_stepsByCounting 26 = .ok (.ireturn, 1) := by decide +kernel
theorem dX6_stepsByDividing_0 : decode cX6_stepsByDividing 0 = .ok (.iload_n 1, 1) := by decide +kernel
theorem dX6_stepsByDividing_1 : decode cX6_stepsByDividing 1 = .ok (.ifCond .le 13, 3) := by decide +kernel
theorem dX6_stepsByDividing_4 : decode cX6_stepsByDividing 4 = .ok (.iload_n 0, 1) := by decide +kernel
theorem dX6_stepsByDividing_5 : decode cX6_stepsByDividing 5 = .ok (.iload_n 1, 1) := by decide +kernel
theorem dX6_stepsByDividing_6 : decode cX6_stepsByDividing 6 = .ok (.iadd, 1) := by decide +kernel
theorem dX6_stepsByDividing_7 : decode cX6_stepsByDividing 7 = .ok (.iconst 1, 1) := by decide +kernel
theorem dX6_stepsByDividing_8 : decode cX6_stepsByDividing 8 = .ok (.isub, 1) := by decide +kernel
theorem dX6_stepsByDividing_9 : decode cX6_stepsByDividing 9 = .ok (.iload_n 1, 1) := by decide +kernel
theorem dX6_stepsByDividing_10 : decode cX6_stepsByDividing 10 = .ok (.idiv, 1) := by decide +kernel
theorem dX6_stepsByDividing_11 : decode cX6_stepsByDividing 11 = .ok (.goto 4, 3) := by decide +kernel
theorem dX6_stepsByDividing_14 : decode cX6_stepsByDividing 14 = .ok (.iconst 0, 1) := by decide +kernel
theorem dX6_stepsByDividing_15 : decode cX6_stepsByDividing 15 = .ok (.ireturn, 1) := by decide +kernel
set_option maxRecDepth 20000 in
theorem ggX6_isPlanSet_J6_bitCount_0f7a4 : GoodIn wsX6_isPlanSet wsJ6_bitCount_0f7a4 := goodIn_r _ [5, 6, 7, 8] (by decide +kernel) (by decide +kernel)
set_option maxRecDepth 20000 in
theorem gX6_isPlanSet_J6_bitCount_0f7a4 : GoodIn wsX6_isPlanSet (va_wsS RX6 362 yJ6_bitCount_0f7a4 wsJ6_bitCount_0f7a4) := goodIn_app (goodIn_of _ (by decide +kernel)) ggX6_isPlanSet_J6_bitCount_0f7a4
theorem dX6_isPlanSet_0 : decode cX6_isPlanSet 0 = .ok (.iload_n 1, 1) := by decide +kernel
theorem dX6_isPlanSet_1 : decode cX6_isPlanSet 1 = .ok (.ifCond .lt 28, 3) := by decide +kernel
theorem dX6_isPlanSet_4 : decode cX6_isPlanSet 4 = .ok (.iload_n 1, 1) := by decide +kernel
theorem dX6_isPlanSet_5 : decode cX6_isPlanSet 5 = .ok (.iconst 1, 1) := by decide +kernel
theorem dX6_isPlanSet_6 : decode cX6_isPlanSet 6 = .ok (.aload_n 0, 1) := by decide +kernel
theorem dX6_isPlanSet_7 : decode cX6_isPlanSet 7 = .ok (.getfield 10, 3) := by decide +kernel
theorem dX6_isPlanSet_10 : decode cX6_isPlanSet 10 = .ok (.getfield 77, 3) := by decide +kernel
theorem dX6_isPlanSet_13 : decode cX6_isPlanSet 13 = .ok (.ishl, 1) := by decide +kernel
theorem dX6_isPlanSet_14 : decode cX6_isPlanSet 14 = .ok (.if_icmp .ge 15, 3) := by decide +kernel
theorem dX6_isPlanSet_17 : decode cX6_isPlanSet 17 = .ok (.iload_n 1, 1) := by decide +kernel
theorem dX6_isPlanSet_18 : decode cX6_isPlanSet 18 = .ok (.invokestatic 362, 3) := by decide +kernel
theorem dX6_isPlanSet_21 : decode cX6_isPlanSet 21 = .ok (.iconst 3, 1) := by decide +kernel
theorem dX6_isPlanSet_22 : decode cX6_isPlanSet 22 = .ok (.if_icmp .gt 7, 3) := by decide +kernel
theorem dX6_isPlanSet_25 : decode cX6_isPlanSet 25 = .ok (.iconst 1, 1) := by decide +kernel
theorem dX6_isPlanSet_26 : decode cX6_isPlanSet 26 = .ok (.goto 4, 3) := by decide +kernel
theorem dX6_isPlanSet_29 : decode cX6_isPlanSet 29 = .ok (.iconst 0, 1) := by decide +kernel
theorem dX6_isPlanSet_30 : decode cX6_isPlanSet 30 = .ok (.ireturn, 1) := by decide +kernel
set_option maxRecDepth 20000 in
theorem ggX6_makePlans_X3_clear : GoodIn wsX6_makePlans wsX3_clear := goodIn_r _ [7, 8, 9, 10, 11, 82, 83, 84, 85] (by decide +kernel) (by decide +kernel)
set_option maxRecDepth 20000 in
theorem gX6_makePlans_X3_clear : GoodIn wsX6_makePlans (wsV RX6 367 RX3 yX3_clear wsX3_clear) := goodIn_app (goodIn_of _ (by decide +kernel)) ggX6_makePlans_X3_clear
set_option maxRecDepth 20000 in
theorem ggX6_makePlans_X3_addCord : GoodIn wsX6_makePlans wsX3_addCord := goodIn_r _ [15, 11, 9, 82, 83, 84, 85] (by decide +kernel) (by decide +kernel)
set_option maxRecDepth 20000 in
theorem gX6_makePlans_X3_addCord : GoodIn wsX6_makePlans (wsV RX6 370 RX3 yX3_addCord wsX3_addCord) := goodIn_app (goodIn_of _ (by decide +kernel)) ggX6_makePlans_X3_addCord
set_option maxRecDepth 20000 in
theorem ggX6_makePlans_X3_tryFromBeginning : GoodIn wsX6_makePlans wsX3_tryFromBeginning := goodIn_r _ [19, 20, 21, 22, 6, 23, 10, 24, 25, 26, 27, 9, 28, 29, 30, 31, 32, 33, 34, 35, 36, 37, 38, 39, 40, 41, 42, 43, 44, 45, 46, 47, 48, 49, 50, 51, 52, 53, 8, 82, 83, 84, 85] (by decide +kernel) (by decide +kernel)
set_option maxRecDepth 20000 in
theorem gX6_makePlans_X3_tryFromBeginning : GoodIn wsX6_makePlans (wsV RX6 372 RX3 yX3_tryFromBeginning wsX3_tryFromBeginning) := goodIn_app (goodIn_of _ (by decide +kernel)) ggX6_makePlans_X3_tryFromBeginning
theorem dX6_makePlans_0 : decode cX6_makePlans 0 = .ok (.aload_n 0, 1) := by decide +kernel
theorem dX6_makePlans_1 : decode cX6_makePlans 1 = .ok (.getfield 40, 3) := by decide +kernel
theorem dX6_makePlans_4 : decode cX6_makePlans 4 = .ok (.invokevirtual 367, 3) := by decide +kernel
theorem dX6_makePlans_7 : decode cX6_makePlans 7 = .ok (.iconst 0, 1) := by decide +kernel
theorem dX6_makePlans_8 : decode cX6_makePlans 8 = .ok (.istore_n 2, 1) := by decide +kernel
theorem dX6_makePlans_9 : decode cX6_makePlans 9 = .ok (.iload_n 2, 1) := by decide +kernel
theorem dX6_makePlans_10 : decode cX6_makePlans 10 = .ok (.aload_n 0, 1) := by decide +kernel
theorem dX6_makePlans_11 : decode cX6_makePlans 11 = .ok (.getfield 10, 3) := by decide +kernel
theorem dX6_makePlans_14 : decode cX6_makePlans 14 = .ok (.getfield 77, 3) := by decide +kernel
theorem dX6_makePlans_17 : decode cX6_makePlans 17 = .ok (.if_icmp .ge 36, 3) := by decide +kernel
theorem dX6_makePlans_20 : decode cX6_makePlans 20 = .ok (.iload_n 1, 1) := by decide +kernel
theorem dX6_makePlans_21 : decode cX6_makePlans 21 = .ok (.iload_n 2, 1) := by decide +kernel
theorem dX6_makePlans_22 : decode cX6_makePlans 22 = .ok (.ishr, 1) := by decide +kernel
theorem dX6_makePlans_23 : decode cX6_makePlans 23 = .ok (.iconst 1, 1) := by decide +kernel
theorem dX6_makePlans_24 : decode cX6_makePlans 24 = .ok (.iand, 1) := by decide +kernel
theorem dX6_makePlans_25 : decode cX6_makePlans 25 = .ok (.ifCond .eq 22, 3) := by decide +kernel
theorem dX6_makePlans_28 : decode cX6_makePlans 28 = .ok (.aload_n 0, 1) := by decide +kernel
theorem dX6_makePlans_29 : decode cX6_makePlans 29 = .ok (.getfield 40, 3) := by decide +kernel
theorem dX6_makePlans_32 : decode cX6_makePlans 32 = .ok (.aload_n 0, 1) := by decide +kernel
theorem dX6_makePlans_33 : decode cX6_makePlans 33 = .ok (.getfield 10, 3) := by decide +kernel
theorem dX6_makePlans_36 : decode cX6_makePlans 36 = .ok (.getfield 87, 3) := by decide +kernel
theorem dX6_makePlans_39 : decode cX6_makePlans 39 = .ok (.iload_n 2, 1) := by decide +kernel
theorem dX6_makePlans_40 : decode cX6_makePlans 40 = .ok (.aaload, 1) := by decide +kernel
theorem dX6_makePlans_41 : decode cX6_makePlans 41 = .ok (.getfield 198, 3) := by decide +kernel
theorem dX6_makePlans_44 : decode cX6_makePlans 44 = .ok (.invokevirtual 370, 3) := by decide +kernel
theorem dX6_makePlans_47 : decode cX6_makePlans 47 = .ok (.iinc 2 1, 3) := by decide +kernel
theorem dX6_makePlans_50 : decode cX6_makePlans 50 = .ok (.goto (-41), 3) := by decide +kernel
theorem dX6_makePlans_53 : decode cX6_makePlans 53 = .ok (.aload_n 0, 1) := by decide +kernel
theorem dX6_makePlans_54 : decode cX6_makePlans 54 = .ok (.getfield 40, 3) := by decide +kernel
theorem dX6_makePlans_57 : decode cX6_makePlans 57 = .ok (.invokevirtual 372, 3) := by decide +kernel
theorem dX6_makePlans_60 : decode cX6_makePlans 60 = .ok (.return_, 1) := by decide +kernel
set_option maxRecDepth 20000 in
theorem ggJ5_init_d00df_J2_newBytesFor_77867 : GoodIn wsJ5_init_d00df wsJ2_newBytesFor_77867 := goodIn_r _ [11, 5, 12, 13, 10, 14, 15] (by decide +kernel) (by decide +kernel)
set_option maxRecDepth 20000 in
theorem gJ5_init_d00df_J2_newBytesFor_77867 : GoodIn wsJ5_init_d00df (va_wsS RJ5 26 yJ2_newBytesFor_77867 wsJ2_newBytesFor_77867) := goodIn_app (goodIn_of _ (by decide +kernel)) ggJ5_init_d00df_J2_newBytesFor_77867
theorem dJ5_init_d00df_0 : decode cJ5_init_d00df 0 = .ok (.aload_n 0, 1) := by decide +kernel
theorem dJ5_init_d00df_1 : decode cJ5_init_d00df 1 = .ok (.invokespecial 3, 3) := by decide +kernel
theorem dJ5_init_d00df_4 : decode cJ5_init_d00df 4 = .ok (.getstatic 18, 3) := by decide +kernel
theorem dJ5_init_d00df_7 : decode cJ5_init_d00df 7 = .ok (.ifCond .eq 18, 3) := by decide +kernel
theorem dJ5_init_d00df_10 : decode cJ5_init_d00df 10 = .ok (.aload_n 0, 1) := by decide +kernel
theorem dJ5_init_d00df_11 : decode cJ5_init_d00df 11 = .ok (.iload_n 1, 1) := by decide +kernel
theorem dJ5_init_d00df_12 : decode cJ5_init_d00df 12 = .ok (.newarray .byte, 2) := by decide +kernel
theorem dJ5_init_d00df_14 : decode cJ5_init_d00df 14 = .ok (.putfield 15, 3) := by decide +kernel
theorem dJ5_init_d00df_17 : decode cJ5_init_d00df 17 = .ok (.aload_n 0, 1) := by decide +kernel
theorem dJ5_init_d00df_18 : decode cJ5_init_d00df 18 = .ok (.iconst 0, 1) := by decide +kernel
theorem dJ5_init_d00df_19 : decode cJ5_init_d00df 19 = .ok (.putfield 22, 3) := by decide +kernel
theorem dJ5_init_d00df_22 : decode cJ5_init_d00df 22 = .ok (.goto 16, 3) := by decide +kernel
theorem dJ5_init_d00df_25 : decode cJ5_init_d00df 25 = .ok (.aload_n 0, 1) := by decide +kernel
theorem dJ5_init_d00df_26 : decode cJ5_init_d00df 26 = .ok (.iload_n 1, 1) := by decide +kernel
theorem dJ5_init_d00df_27 : decode cJ5_init_d00df 27 = .ok (.invokestatic 26, 3) := by decide +kernel
theorem dJ5_init_d00df_30 : decode cJ5_init_d00df 30 = .ok (.putfield 15, 3) := by decide +kernel
theorem dJ5_init_d00df_33 : decode cJ5_init_d00df 33 = .ok (.aload_n 0, 1) := by decide +kernel
theorem dJ5_init_d00df_34 : decode cJ5_init_d00df 34 = .ok (.iconst 1, 1) := by decide +kernel
theorem dJ5_init_d00df_35 : decode cJ5_init_d00df 35 = .ok (.putfield 22, 3) := by decide +kernel
theorem dJ5_init_d00df_38 : decode cJ5_init_d00df 38 = .ok (.return_, 1) := by decide +kernel
theorem dJ5_length_8abf5_0 : decode cJ5_length_8abf5 0 = .ok (.aload_n 0, 1) := by decide +kernel
theorem dJ5_length_8abf5_1 : decode cJ5_length_8abf5 1 = .ok (.getfield 79, 3) := by decide +kernel
theorem dJ5_length_8abf5_4 : decode cJ5_length_8abf5 4 = .ok (.ireturn, 1) := by decide +kernel
set_option maxRecDepth 20000 in
theorem ggJ5_ensureCapacityInternal_d00df_J5_newCapacity_0f7a4 : GoodIn wsJ5_ensureCapacityInternal_d00df wsJ5_newCapacity_0f7a4 := goodIn_r _ [8, 1, 2, 9, 10, 11, 12, 13, 14, 15, 16, 17, 18, 19, 20, 21, 40, 41, 42, 43] (by decide +kernel) (by decide +kernel)
set_option maxRecDepth 20000 in
theorem gJ5_ensureCapacityInternal_d00df_J5_newCapacity_0f7a4_u104J4 : GoodIn wsJ5_ensureCapacityInternal_d00df (va_wsU RJ5 104 RJ4 "java/lang/AbstractStringBuilder" ⟨"java/lang/AbstractStringBuilder", "newCapacity", "(I)I"⟩ yJ5_newCapacity_0f7a4 wsJ5_newCapacity_0f7a4) := goodIn_app (goodIn_of _ (by decide +kernel)) ggJ5_ensureCapacityInternal_d00df_J5_newCapacity_0f7a4
set_option maxRecDepth 20000 in
theorem ggJ5_ensureCapacityInternal_d00df_J7_copyOf_9075b : GoodIn wsJ5_ensureCapacityInternal_d00df wsJ7_copyOf_9075b := goodIn_r _ [25, 26, 27, 28, 29, 30, 31, 32, 33, 34, 16, 35, 36, 37, 38, 39] (by decide +kernel) (by decide +kernel)
set_option maxRecDepth 20000 in
theorem gJ5_ensureCapacityInternal_d00df_J7_copyOf_9075b : GoodIn wsJ5_ensureCapacityInternal_d00df (va_wsS RJ5 108 yJ7_copyOf_9075b wsJ7_copyOf_9075b) := goodIn_app (goodIn_of _ (by decide +kernel)) ggJ5_ensureCapacityInternal_d00df_J7_copyOf_9075b
theorem dJ5_ensureCapacityInternal_d00df_0 : decode cJ5_ensureCapacityInternal_d00df 0 = .ok (.aload_n 0, 1) := by decide +kernel
theorem dJ5_ensureCapacityInternal_d00df_1 : decode cJ5_ensureCapacityInternal_d00df 1 = .ok (.getfield 15, 3) := by decide +kernel
theorem dJ5_ensureCapacityInternal_d00df_4 : decode cJ5_ensureCapacityInternal_d00df 4 = .ok (.arraylength, 1) := by decide +kernel
theorem dJ5_ensureCapacityInternal_d00df_5 : decode cJ5_ensureCapacityInternal_d00df 5 = .ok (.aload_n 0, 1) := by decide +kernel
theorem dJ5_ensureCapacityInternal_d00df_6 : decode cJ5_ensureCapacityInternal_d00df 6 = .ok (.getfield 22, 3) := by decide +kernel
theorem dJ5_ensureCapacityInternal_d00df_9 : decode cJ5_ensureCapacityInternal_d00df 9 = .ok (.ishr, 1) := by decide +kernel
theorem dJ5_ensureCapacityInternal_d00df_10 : decode cJ5_ensureCapacityInternal_d00df 10 = .ok (.istore_n 2, 1) := by decide +kernel
theorem dJ5_ensureCapacityInternal_d00df_11 : decode cJ5_ensureCapacityInternal_d00df 11 = .ok (.iload_n 1, 1) := by decide +kernel
theorem dJ5_ensureCapacityInternal_d00df_12 : decode cJ5_ensureCapacityInternal_d00df 12 = .ok (.iload_n 2, 1) := by decide +kernel
theorem dJ5_ensureCapacityInternal_d00df_13 : decode cJ5_ensureCapacityInternal_d00df 13 = .ok (.isub, 1) := by decide +kernel
theorem dJ5_ensureCapacityInternal_d00df_14 : decode cJ5_ensureCapacityInternal_d00df 14 = .ok (.ifCond .le 24, 3) := by decide +kernel
theorem dJ5_ensureCapacityInternal_d00df_17 : decode cJ5_ensureCapacityInternal_d00df 17 = .ok (.aload_n 0, 1) := by decide +kernel
theorem dJ5_ensureCapacityInternal_d00df_18 : decode cJ5_ensureCapacityInternal_d00df 18 = .ok (.aload_n 0, 1) := by decide +kernel
theorem dJ5_ensureCapacityInternal_d00df_19 : decode cJ5_ensureCapacityInternal_d00df 19 = .ok (.getfield 15, 3) := by decide +kernel
theorem dJ5_ensureCapacityInternal_d00df_22 : decode cJ5_ensureCapacityInternal_d00df 22 = .ok (.aload_n 0, 1) := by decide +kernel
theorem dJ5_ensureCapacityInternal_d00df_23 : decode cJ5_ensureCapacityInternal_d00df 23 = .ok (.iload_n 1, 1) := by decide +kernel
theorem dJ5_ensureCapacityInternal_d00df_24 : decode cJ5_ensureCapacityInternal_d00df 24 = .ok (.invokevirtual 104, 3) := by decide +kernel
theorem dJ5_ensureCapacityInternal_d00df_27 : decode cJ5_ensureCapacityInternal_d00df 27 = .ok (.aload_n 0, 1) := by decide +kernel
theorem dJ5_ensureCapacityInternal_d00df_28 : decode cJ5_ensureCapacityInternal_d00df 28 = .ok (.getfield 22, 3) := by decide +kernel
theorem dJ5_ensureCapacityInternal_d00df_31 : decode cJ5_ensureCapacityInternal_d00df 31 = .ok (.ishl, 1) := by decide +kernel
theorem dJ5_ensureCapacityInternal_d00df_32 : decode cJ5_ensureCapacityInternal_d00df 32 = .ok (.invokestatic 108, 3) := by decide +kernel
theorem dJ5_ensureCapacityInternal_d00df_35 : decode cJ5_ensureCapacityInternal_d00df 35 = .ok (.putfield 15, 3) := by decide +kernel
theorem dJ5_ensureCapacityInternal_d00df_38 : decode cJ5_ensureCapacityInternal_d00df 38 = .ok (.return_, 1) := by decide +kernel
set_option maxRecDepth 20000 in
theorem ggJ5_newCapacity_0f7a4_J8_newLength_cabcc : GoodIn wsJ5_newCapacity_0f7a4 wsJ8_newLength_cabcc := goodIn_r _ [7, 8, 9, 10, 11, 12, 13, 14, 6, 15] (by decide +kernel) (by decide +kernel)
set_option maxRecDepth 20000 in
theorem gJ5_newCapacity_0f7a4_J8_newLength_cabcc : GoodIn wsJ5_newCapacity_0f7a4 (va_wsS RJ5 114 yJ8_newLength_cabcc wsJ8_newLength_cabcc) := goodIn_app (goodIn_of _ (by decide +kernel)) ggJ5_newCapacity_0f7a4_J8_newLength_cabcc
theorem dJ5_newCapacity_0f7a4_0 : decode cJ5_newCapacity_0f7a4 0 = .ok (.aload_n 0, 1) := by decide +kernel
theorem dJ5_newCapacity_0f7a4_1 : decode cJ5_newCapacity_0f7a4 1 = .ok (.getfield 15, 3) := by decide +kernel
theorem dJ5_newCapacity_0f7a4_4 : decode cJ5_newCapacity_0f7a4 4 = .ok (.arraylength, 1) := by decide +kernel
theorem dJ5_newCapacity_0f7a4_5 : decode cJ5_newCapacity_0f7a4 5 = .ok (.istore_n 2, 1) := by decide +kernel
theorem dJ5_newCapacity_0f7a4_6 : decode cJ5_newCapacity_0f7a4 6 = .ok (.iload_n 1, 1) := by decide +kernel
theorem dJ5_newCapacity_0f7a4_7 : decode cJ5_newCapacity_0f7a4 7 = .ok (.aload_n 0, 1) := by decide +kernel
theorem dJ5_newCapacity_0f7a4_8 : decode cJ5_newCapacity_0f7a4 8 = .ok (.getfield 22, 3) := by decide +kernel
theorem dJ5_newCapacity_0f7a4_11 : decode cJ5_newCapacity_0f7a4 11 = .ok (.ishl, 1) := by decide +kernel
theorem dJ5_newCapacity_0f7a4_12 : decode cJ5_newCapacity_0f7a4 12 = .ok (.istore_n 3, 1) := by decide +kernel
theorem dJ5_newCapacity_0f7a4_13 : decode cJ5_newCapacity_0f7a4 13 = .ok (.iload_n 3, 1) := by decide +kernel
theorem dJ5_newCapacity_0f7a4_14 : decode cJ5_newCapacity_0f7a4 14 = .ok (.iload_n 2, 1) := by decide +kernel
theorem dJ5_newCapacity_0f7a4_15 : decode cJ5_newCapacity_0f7a4 15 = .ok (.isub, 1) := by decide +kernel
theorem dJ5_newCapacity_0f7a4_16 : decode cJ5_newCapacity_0f7a4 16 = .ok (.istore 4, 2) := by decide +kernel
theorem dJ5_newCapacity_0f7a4_18 : decode cJ5_newCapacity_0f7a4 18 = .ok (.iload_n 2, 1) := by decide +kernel
theorem dJ5_newCapacity_0f7a4_19 : decode cJ5_newCapacity_0f7a4 19 = .ok (.iload 4, 2) := by decide +kernel
theorem dJ5_newCapacity_0f7a4_21 : decode cJ5_newCapacity_0f7a4 21 = .ok (.iload_n 2, 1) := by decide +kernel
theorem dJ5_newCapacity_0f7a4_22 : decode cJ5_newCapacity_0f7a4 22 = .ok (.iconst 2, 1) := by decide +kernel
theorem dJ5_newCapacity_0f7a4_23 : decode cJ5_newCapacity_0f7a4 23 = .ok (.aload_n 0, 1) := by decide +kernel
theorem dJ5_newCapacity_0f7a4_24 : decode cJ5_newCapacity_0f7a4 24 = .ok (.getfield 22, 3) := by decide +kernel
theorem dJ5_newCapacity_0f7a4_27 : decode cJ5_newCapacity_0f7a4 27 = .ok (.ishl, 1) := by decide +kernel
theorem dJ5_newCapacity_0f7a4_28 : decode cJ5_newCapacity_0f7a4 28 = .ok (.iadd, 1) := by decide +kernel
theorem dJ5_newCapacity_0f7a4_29 : decode cJ5_newCapacity_0f7a4 29 = .ok (.invokestatic 114, 3) := by decide +kernel
theorem dJ5_newCapacity_0f7a4_32 : decode cJ5_newCapacity_0f7a4 32 = .ok (.istore 5, 2) := by decide +kernel
theorem dJ5_newCapacity_0f7a4_34 : decode cJ5_newCapacity_0f7a4 34 = .ok (.iload 5, 2) := by decide +kernel
theorem dJ5_newCapacity_0f7a4_36 : decode cJ5_newCapacity_0f7a4 36 = .ok (.ldc 39, 2) := by decide +kernel
theorem dJ5_newCapacity_0f7a4_38 : decode cJ5_newCapacity_0f7a4 38 = .ok (.if_icmp .ne 13, 3) := by decide +kernel
theorem dJ5_newCapacity_0f7a4_41 : decode cJ5_newCapacity_0f7a4 41 = .ok (.new 120, 3) := by decide +kernel
theorem dJ5_newCapacity_0f7a4_44 : decode cJ5_newCapacity_0f7a4 44 = .ok (.dup, 1) := by decide +kernel
theorem dJ5_newCapacity_0f7a4_45 : decode cJ5_newCapacity_0f7a4 45 = .ok (.ldc 122, 2) := by decide +kernel
theorem dJ5_newCapacity_0f7a4_47 : decode cJ5_newCapacity_0f7a4 47 = .ok (.invokespecial 124, 3) := by decide +kernel
theorem dJ5_newCapacity_0f7a4_50 : decode cJ5_newCapacity_0f7a4 50 = .ok (.athrow, 1) := by decide +kernel
theorem dJ5_newCapacity_0f7a4_51 : decode cJ5_newCapacity_0f7a4 51 = .ok (.iload 5, 2) := by decide +kernel
theorem dJ5_newCapacity_0f7a4_53 : decode cJ5_newCapacity_0f7a4 53 = .ok (.aload_n 0, 1) := by decide +kernel
theorem dJ5_newCapacity_0f7a4_54 : decode cJ5_newCapacity_0f7a4 54 = .ok (.getfield 22, 3) := by decide +kernel
theorem dJ5_newCapacity_0f7a4_57 : decode cJ5_newCapacity_0f7a4 57 = .ok (.ishr, 1) := by decide +kernel
theorem dJ5_newCapacity_0f7a4_58 : decode cJ5_newCapacity_0f7a4 58 = .ok (.ireturn, 1) := by decide +kernel
set_option maxRecDepth 20000 in
theorem ggJ5_inflate_da8c8_J5_isLatin1_aae02 : GoodIn wsJ5_inflate_da8c8 wsJ5_isLatin1_aae02 := goodIn_r _ [9, 10, 3, 48, 49, 50, 51] (by decide +kernel) (by decide +kernel)
set_option maxRecDepth 20000 in
theorem gJ5_inflate_da8c8_J5_isLatin1_aae02_u83J4 : GoodIn wsJ5_inflate_da8c8 (va_wsU RJ5 83 RJ4 "java/lang/AbstractStringBuilder" ⟨"java/lang/AbstractStringBuilder", "isLatin1", "()Z"⟩ yJ5_isLatin1_aae02 wsJ5_isLatin1_aae02) := goodIn_app (goodIn_of _ (by decide +kernel)) ggJ5_inflate_da8c8_J5_isLatin1_aae02
set_option maxRecDepth 20000 in
theorem ggJ5_inflate_da8c8_J2_newBytesFor_77867 : GoodIn wsJ5_inflate_da8c8 wsJ2_newBytesFor_77867 := goodIn_r _ [14, 15, 16, 17, 13, 18, 19] (by decide +kernel) (by decide +kernel)
set_option maxRecDepth 20000 in
theorem gJ5_inflate_da8c8_J2_newBytesFor_77867 : GoodIn wsJ5_inflate_da8c8 (va_wsS RJ5 26 yJ2_newBytesFor_77867 wsJ2_newBytesFor_77867) := goodIn_app (goodIn_of _ (by decide +kernel)) ggJ5_inflate_da8c8_J2_newBytesFor_77867
set_option maxRecDepth 20000 in
theorem ggJ5_inflate_da8c8_J1_inflate_0e8fd : GoodIn wsJ5_inflate_da8c8 wsJ1_inflate_0e8fd := goodIn_r _ [23, 24, 25, 13, 26, 27, 28, 29, 30, 31, 32, 33, 34, 35, 36, 37, 38, 39, 40, 41, 42, 43, 44, 45, 46, 47] (by decide +kernel) (by decide +kernel)
set_option maxRecDepth 20000 in
theorem gJ5_inflate_da8c8_J1_inflate_0e8fd : GoodIn wsJ5_inflate_da8c8 (va_wsS RJ5 125 yJ1_inflate_0e8fd wsJ1_inflate_0e8fd) := goodIn_app (goodIn_of _ (by decide +kernel)) ggJ5_inflate_da8c8_J1_inflate_0e8fd
theorem dJ5_inflate_da8c8_0 : decode cJ5_inflate_da8c8 0 = .ok (.aload_n 0, 1) := by decide +kernel
theorem dJ5_inflate_da8c8_1 : decode cJ5_inflate_da8c8 1 = .ok (.invokevirtual 83, 3) := by decide +kernel
theorem dJ5_inflate_da8c8_4 : decode cJ5_inflate_da8c8 4 = .ok (.ifCond .ne 4, 3) := by decide +kernel
theorem dJ5_inflate_da8c8_7 : decode cJ5_inflate_da8c8 7 = .ok (.return_, 1) := by decide +kernel
theorem dJ5_inflate_da8c8_8 : decode cJ5_inflate_da8c8 8 = .ok (.aload_n 0, 1) := by decide +kernel
theorem dJ5_inflate_da8c8_9 : decode cJ5_inflate_da8c8 9 = .ok (.getfield 15, 3) := by decide +kernel
theorem dJ5_inflate_da8c8_12 : decode cJ5_inflate_da8c8 12 = .ok (.arraylength, 1) := by decide +kernel
theorem dJ5_inflate_da8c8_13 : decode cJ5_inflate_da8c8 13 = .ok (.invokestatic 26, 3) := by decide +kernel
theorem dJ5_inflate_da8c8_16 : decode cJ5_inflate_da8c8 16 = .ok (.astore_n 1, 1) := by decide +kernel
theorem dJ5_inflate_da8c8_17 : decode cJ5_inflate_da8c8 17 = .ok (.aload_n 0, 1) := by decide +kernel
theorem dJ5_inflate_da8c8_18 : decode cJ5_inflate_da8c8 18 = .ok (.getfield 15, 3) := by decide +kernel
theorem dJ5_inflate_da8c8_21 : decode cJ5_inflate_da8c8 21 = .ok (.iconst 0, 1) := by decide +kernel
theorem dJ5_inflate_da8c8_22 : decode cJ5_inflate_da8c8 22 = .ok (.aload_n 1, 1) := by decide +kernel
theorem dJ5_inflate_da8c8_23 : decode cJ5_inflate_da8c8 23 = .ok (.iconst 0, 1) := by decide +kernel
theorem dJ5_inflate_da8c8_24 : decode cJ5_inflate_da8c8 24 = .ok (.aload_n 0, 1) := by decide +kernel
theorem dJ5_inflate_da8c8_25 : decode cJ5_inflate_da8c8 25 = .ok (.getfield 79, 3) := by decide +kernel
theorem dJ5_inflate_da8c8_28 : decode cJ5_inflate_da8c8 28 = .ok (.invokestatic 125, 3) := by decide +kernel
theorem dJ5_inflate_da8c8_31 : decode cJ5_inflate_da8c8 31 = .ok (.aload_n 0, 1) := by decide +kernel
theorem dJ5_inflate_da8c8_32 : decode cJ5_inflate_da8c8 32 = .ok (.aload_n 1, 1) := by decide +kernel
theorem dJ5_inflate_da8c8_33 : decode cJ5_inflate_da8c8 33 = .ok (.putfield 15, 3) := by decide +kernel
theorem dJ5_inflate_da8c8_36 : decode cJ5_inflate_da8c8 36 = .ok (.aload_n 0, 1) := by decide +kernel
theorem dJ5_inflate_da8c8_37 : decode cJ5_inflate_da8c8 37 = .ok (.iconst 1, 1) := by decide +kernel
theorem dJ5_inflate_da8c8_38 : decode cJ5_inflate_da8c8 38 = .ok (.putfield 22, 3) := by decide +kernel
theorem dJ5_inflate_da8c8_41 : decode cJ5_inflate_da8c8 41 = .ok (.return_, 1) := by decide +kernel
set_option maxRecDepth 20000 in
theorem ggJ5_charAt_5068e_J0_checkIndex_df160 : GoodIn wsJ5_charAt_5068e wsJ0_checkIndex_df160 := goodIn_r _ [11, 12, 13, 14, 15, 16] (by decide +kernel) (by decide +kernel)
set_option maxRecDepth 20000 in
theorem gJ5_charAt_5068e_J0_checkIndex_df160 : GoodIn wsJ5_charAt_5068e (va_wsS RJ5 144 yJ0_checkIndex_df160 wsJ0_checkIndex_df160) := goodIn_app (goodIn_of _ (by decide +kernel)) ggJ5_charAt_5068e_J0_checkIndex_df160
set_option maxRecDepth 20000 in
theorem ggJ5_charAt_5068e_J2_getChar_3b067 : GoodIn wsJ5_charAt_5068e wsJ2_getChar_3b067 := goodIn_r _ [20, 21, 22, 23, 24, 25, 19, 26] (by decide +kernel) (by decide +kernel)
set_option maxRecDepth 20000 in
theorem gJ5_charAt_5068e_J2_getChar_3b067 : GoodIn wsJ5_charAt_5068e (va_wsS RJ5 148 yJ2_getChar_3b067 wsJ2_getChar_3b067) := goodIn_app (goodIn_of _ (by decide +kernel)) ggJ5_charAt_5068e_J2_getChar_3b067
theorem dJ5_charAt_5068e_0 : decode cJ5_charAt_5068e 0 = .ok (.aload_n 0, 1) := by decide +kernel
theorem dJ5_charAt_5068e_1 : decode cJ5_charAt_5068e 1 = .ok (.getfield 22, 3) := by decide +kernel
theorem dJ5_charAt_5068e_4 : decode cJ5_charAt_5068e 4 = .ok (.istore_n 2, 1) := by decide +kernel
theorem dJ5_charAt_5068e_5 : decode cJ5_charAt_5068e 5 = .ok (.aload_n 0, 1) := by decide +kernel
theorem dJ5_charAt_5068e_6 : decode cJ5_charAt_5068e 6 = .ok (.getfield 15, 3) := by decide +kernel
theorem dJ5_charAt_5068e_9 : decode cJ5_charAt_5068e 9 = .ok (.astore_n 3, 1) := by decide +kernel
theorem dJ5_charAt_5068e_10 : decode cJ5_charAt_5068e 10 = .ok (.aload_n 0, 1) := by decide +kernel
theorem dJ5_charAt_5068e_11 : decode cJ5_charAt_5068e 11 = .ok (.getfield 79, 3) := by decide +kernel
theorem dJ5_charAt_5068e_14 : decode cJ5_charAt_5068e 14 = .ok (.aload_n 3, 1) := by decide +kernel
theorem dJ5_charAt_5068e_15 : decode cJ5_charAt_5068e 15 = .ok (.arraylength, 1) := by decide +kernel
theorem dJ5_charAt_5068e_16 : decode cJ5_charAt_5068e 16 = .ok (.iload_n 2, 1) := by decide +kernel
theorem dJ5_charAt_5068e_17 : decode cJ5_charAt_5068e 17 = .ok (.ishr, 1) := by decide +kernel
theorem dJ5_charAt_5068e_18 : decode cJ5_charAt_5068e 18 = .ok (.invokestatic 138, 3) := by decide +kernel
theorem dJ5_charAt_5068e_21 : decode cJ5_charAt_5068e 21 = .ok (.istore 4, 2) := by decide +kernel
theorem dJ5_charAt_5068e_23 : decode cJ5_charAt_5068e 23 = .ok (.iload_n 1, 1) := by decide +kernel
theorem dJ5_charAt_5068e_24 : decode cJ5_charAt_5068e 24 = .ok (.iload 4, 2) := by decide +kernel
theorem dJ5_charAt_5068e_26 : decode cJ5_charAt_5068e 26 = .ok (.invokestatic 144, 3) := by decide +kernel
theorem dJ5_charAt_5068e_29 : decode cJ5_charAt_5068e 29 = .ok (.iload_n 2, 1) := by decide +kernel
theorem dJ5_charAt_5068e_30 : decode cJ5_charAt_5068e 30 = .ok (.ifCond .ne 12, 3) := by decide +kernel
theorem dJ5_charAt_5068e_33 : decode cJ5_charAt_5068e 33 = .ok (.aload_n 3, 1) := by decide +kernel
theorem dJ5_charAt_5068e_34 : decode cJ5_charAt_5068e 34 = .ok (.iload_n 1, 1) := by decide +kernel
theorem dJ5_charAt_5068e_35 : decode cJ5_charAt_5068e 35 = .ok (.baload, 1) := by decide +kernel
theorem dJ5_charAt_5068e_36 : decode cJ5_charAt_5068e 36 = .ok (.sipush 255, 3) := by decide +kernel
theorem dJ5_charAt_5068e_39 : decode cJ5_charAt_5068e 39 = .ok (.iand, 1) := by decide +kernel
theorem dJ5_charAt_5068e_40 : decode cJ5_charAt_5068e 40 = .ok (.i2c, 1) := by decide +kernel
theorem dJ5_charAt_5068e_41 : decode cJ5_charAt_5068e 41 = .ok (.ireturn, 1) := by decide +kernel
theorem dJ5_charAt_5068e_42 : decode cJ5_charAt_5068e 42 = .ok (.aload_n 3, 1) := by decide +kernel
theorem dJ5_charAt_5068e_43 : decode cJ5_charAt_5068e 43 = .ok (.iload_n 1, 1) := by decide +kernel
theorem dJ5_charAt_5068e_44 : decode cJ5_charAt_5068e 44 = .ok (.invokestatic 148, 3) := by decide +kernel
theorem dJ5_charAt_5068e_47 : decode cJ5_charAt_5068e 47 = .ok (.ireturn, 1) := by decide +kernel
set_option maxRecDepth 20000 in
theorem ggJ5_append_cf1ce_J5_appendNull_278bc : GoodIn wsJ5_append_cf1ce wsJ5_appendNull_278bc := goodIn_r _ [7, 1, 8, 9, 10, 11, 12, 6, 13, 14, 15, 16, 17, 18, 19, 20, 21, 22, 23, 24, 25, 26, 27, 28, 29, 30, 31, 32, 33, 34, 35, 36, 37, 38, 39, 40, 41, 42, 43, 44, 45, 46, 47, 48, 49, 50, 51, 52, 53, 54, 55, 56, 57, 58, 59, 60, 61, 62, 63, 64, 65, 66, 67, 68, 69, 70, 71, 72, 73, 74, 75, 76, 77, 78, 79, 80, 81, 138, 139, 140, 141] (by decide +kernel) (by decide +kernel)
set_option maxRecDepth 20000 in
theorem gJ5_append_cf1ce_J5_appendNull_278bc_u204J4 : GoodIn wsJ5_append_cf1ce (va_wsU RJ5 204 RJ4 "java/lang/AbstractStringBuilder" ⟨"java/lang/AbstractStringBuilder", "appendNull", "()Ljava/lang/AbstractStringBuilder;"⟩ yJ5_appendNull_278bc wsJ5_appendNull_278bc) := goodIn_app (goodIn_of _ (by decide +kernel)) ggJ5_append_cf1ce_J5_appendNull_278bc
set_option maxRecDepth 20000 in
theorem ggJ5_append_cf1ce_J0_length_8abf5 : GoodIn wsJ5_append_cf1ce wsJ0_length_8abf5 := goodIn_r _ [85, 86, 87, 88, 89, 70, 90, 91, 92] (by decide +kernel) (by decide +kernel)
set_option maxRecDepth 20000 in
theorem gJ5_append_cf1ce_J0_length_8abf5 : GoodIn wsJ5_append_cf1ce (wsV RJ5 32 RJ0 yJ0_length_8abf5 wsJ0_length_8abf5) := goodIn_app (goodIn_of _ (by decide +kernel)) ggJ5_append_cf1ce_J0_length_8abf5
set_option maxRecDepth 20000 in
theorem ggJ5_append_cf1ce_J5_ensureCapacityInternal_d00df : GoodIn wsJ5_append_cf1ce wsJ5_ensureCapacityInternal_d00df := goodIn_r _ [13, 8, 14, 15, 16, 17, 18, 6, 19, 20, 21, 22, 23, 24, 25, 26, 27, 28, 29, 30, 31, 32, 33, 34, 35, 36, 37, 38, 39, 40, 41, 42, 43, 44, 45, 46, 47, 48, 49, 50, 138, 139, 140, 141] (by decide +kernel) (by decide +kernel)
set_option maxRecDepth 20000 in
theorem gJ5_append_cf1ce_J5_ensureCapacityInternal_d00df_u100J4 : GoodIn wsJ5_append_cf1ce (va_wsU RJ5 100 RJ4 "java/lang/AbstractStringBuilder" ⟨"java/lang/AbstractStringBuilder", "ensureCapacityInternal", "(I)V"⟩ yJ5_ensureCapacityInternal_d00df wsJ5_ensureCapacityInternal_d00df) := goodIn_app (goodIn_of _ (by decide +kernel)) ggJ5_append_cf1ce_J5_ensureCapacityInternal_d00df
set_option maxRecDepth 20000 in
theorem ggJ5_append_cf1ce_J5_putStringAt_47b60 : GoodIn wsJ5_append_cf1ce wsJ5_putStringAt_47b60 := goodIn_r _ [97, 8, 14, 98, 99, 100, 101, 6, 102, 56, 103, 88, 89, 70, 90, 91, 92, 104, 105, 106, 107, 108, 1, 51, 52, 53, 54, 55, 109, 110, 59, 111, 43, 112, 113, 114, 115, 116, 117, 118, 119, 120, 121, 122, 123, 124, 125, 65, 66, 67, 126, 127, 128, 72, 129, 130, 75, 131, 77, 78, 79, 61, 80, 81, 132, 133, 134, 135, 86, 136, 48, 49, 50, 87, 137, 138, 139, 140, 141] (by decide +kernel) (by decide +kernel)
set_option maxRecDepth 20000 in
theorem gJ5_append_cf1ce_J5_putStringAt_47b60_u208J4 : GoodIn wsJ5_append_cf1ce (va_wsU RJ5 208 RJ4 "java/lang/AbstractStringBuilder" ⟨"java/lang/AbstractStringBuilder", "putStringAt", "(ILjava/lang/String;)V"⟩ yJ5_putStringAt_47b60 wsJ5_putStringAt_47b60) := goodIn_app (goodIn_of _ (by decide +kernel)) ggJ5_append_cf1ce_J5_putStringAt_47b60
theorem dJ5_append_cf1ce_0 : decode cJ5_append_cf1ce 0 = .ok (.aload_n 1, 1) := by decide +kernel
theorem dJ5_append_cf1ce_1 : decode cJ5_append_cf1ce 1 = .ok (.ifnonnull 8, 3) := by decide +kernel
theorem dJ5_append_cf1ce_4 : decode cJ5_append_cf1ce 4 = .ok (.aload_n 0, 1) := by decide +kernel
theorem dJ5_append_cf1ce_5 : decode cJ5_append_cf1ce 5 = .ok (.invokevirtual 204, 3) := by decide +kernel
theorem dJ5_append_cf1ce_8 : decode cJ5_append_cf1ce 8 = .ok (.areturn, 1) := by decide +kernel
theorem dJ5_append_cf1ce_9 : decode cJ5_append_cf1ce 9 = .ok (.aload_n 1, 1) := by decide +kernel
theorem dJ5_append_cf1ce_10 : decode cJ5_append_cf1ce 10 = .ok (.invokevirtual 32, 3) := by decide +kernel
theorem dJ5_append_cf1ce_13 : decode cJ5_append_cf1ce 13 = .ok (.istore_n 2, 1) := by decide +kernel
theorem dJ5_append_cf1ce_14 : decode cJ5_append_cf1ce 14 = .ok (.aload_n 0, 1) := by decide +kernel
theorem dJ5_append_cf1ce_15 : decode cJ5_append_cf1ce 15 = .ok (.aload_n 0, 1) := by decide +kernel
theorem dJ5_append_cf1ce_16 : decode cJ5_append_cf1ce 16 = .ok (.getfield 79, 3) := by decide +kernel
theorem dJ5_append_cf1ce_19 : decode cJ5_append_cf1ce 19 = .ok (.iload_n 2, 1) := by decide +kernel
theorem dJ5_append_cf1ce_20 : decode cJ5_append_cf1ce 20 = .ok (.iadd, 1) := by decide +kernel
theorem dJ5_append_cf1ce_21 : decode cJ5_append_cf1ce 21 = .ok (.invokevirtual 100, 3) := by decide +kernel
theorem dJ5_append_cf1ce_24 : decode cJ5_append_cf1ce 24 = .ok (.aload_n 0, 1) := by decide +kernel
theorem dJ5_append_cf1ce_25 : decode cJ5_append_cf1ce 25 = .ok (.aload_n 0, 1) := by decide +kernel
theorem dJ5_append_cf1ce_26 : decode cJ5_append_cf1ce 26 = .ok (.getfield 79, 3) := by decide +kernel
theorem dJ5_append_cf1ce_29 : decode cJ5_append_cf1ce 29 = .ok (.aload_n 1, 1) := by decide +kernel
theorem dJ5_append_cf1ce_30 : decode cJ5_append_cf1ce 30 = .ok (.invokevirtual 208, 3) := by decide +kernel
theorem dJ5_append_cf1ce_33 : decode cJ5_append_cf1ce 33 = .ok (.aload_n 0, 1) := by decide +kernel
theorem dJ5_append_cf1ce_34 : decode cJ5_append_cf1ce 34 = .ok (.dup, 1) := by decide +kernel
theorem dJ5_append_cf1ce_35 : decode cJ5_append_cf1ce 35 = .ok (.getfield 79, 3) := by decide +kernel
theorem dJ5_append_cf1ce_38 : decode cJ5_append_cf1ce 38 = .ok (.iload_n 2, 1) := by decide +kernel
theorem dJ5_append_cf1ce_39 : decode cJ5_append_cf1ce 39 = .ok (.iadd, 1) := by decide +kernel
theorem dJ5_append_cf1ce_40 : decode cJ5_append_cf1ce 40 = .ok (.putfield 79, 3) := by decide +kernel
theorem dJ5_append_cf1ce_43 : decode cJ5_append_cf1ce 43 = .ok (.aload_n 0, 1) := by decide +kernel
theorem dJ5_append_cf1ce_44 : decode cJ5_append_cf1ce 44 = .ok (.areturn, 1) := by decide +kernel
set_option maxRecDepth 20000 in
theorem ggJ5_appendNull_278bc_J5_ensureCapacityInternal_d00df : GoodIn wsJ5_appendNull_278bc wsJ5_ensureCapacityInternal_d00df := goodIn_r _ [8, 2, 9, 10, 11, 12, 13, 7, 14, 15, 16, 17, 18, 19, 20, 21, 22, 23, 24, 25, 26, 27, 28, 29, 30, 31, 32, 33, 34, 35, 36, 37, 38, 39, 40, 41, 42, 43, 44, 45, 77, 78, 79, 80] (by decide +kernel) (by decide +kernel)
set_option maxRecDepth 20000 in
theorem gJ5_appendNull_278bc_J5_ensureCapacityInternal_d00df_u100J4 : GoodIn wsJ5_appendNull_278bc (va_wsU RJ5 100 RJ4 "java/lang/AbstractStringBuilder" ⟨"java/lang/AbstractStringBuilder", "ensureCapacityInternal", "(I)V"⟩ yJ5_ensureCapacityInternal_d00df wsJ5_ensureCapacityInternal_d00df) := goodIn_app (goodIn_of _ (by decide +kernel)) ggJ5_appendNull_278bc_J5_ensureCapacityInternal_d00df
set_option maxRecDepth 20000 in
theorem ggJ5_appendNull_278bc_J5_isLatin1_aae02 : GoodIn wsJ5_appendNull_278bc wsJ5_isLatin1_aae02 := goodIn_r _ [50, 51, 9, 77, 78, 79, 80] (by decide +kernel) (by decide +kernel)
set_option maxRecDepth 20000 in
theorem gJ5_appendNull_278bc_J5_isLatin1_aae02_u83J4 : GoodIn wsJ5_appendNull_278bc (va_wsU RJ5 83 RJ4 "java/lang/AbstractStringBuilder" ⟨"java/lang/AbstractStringBuilder", "isLatin1", "()Z"⟩ yJ5_isLatin1_aae02 wsJ5_isLatin1_aae02) := goodIn_app (goodIn_of _ (by decide +kernel)) ggJ5_appendNull_278bc_J5_isLatin1_aae02
set_option maxRecDepth 20000 in
theorem ggJ5_appendNull_278bc_J2_putCharsAt_cd4e5 : GoodIn wsJ5_appendNull_278bc wsJ2_putCharsAt_cd4e5 := goodIn_r _ [55, 56, 57, 58, 54, 59, 60, 61, 62, 63, 64, 65, 66, 67, 68, 69, 70, 71, 72, 73, 74, 75, 76] (by decide +kernel) (by decide +kernel)
set_option maxRecDepth 20000 in
theorem gJ5_appendNull_278bc_J2_putCharsAt_cd4e5 : GoodIn wsJ5_appendNull_278bc (va_wsS RJ5 226 yJ2_putCharsAt_cd4e5 wsJ2_putCharsAt_cd4e5) := goodIn_app (goodIn_of _ (by decide +kernel)) ggJ5_appendNull_278bc_J2_putCharsAt_cd4e5
theorem dJ5_appendNull_278bc_0 : decode cJ5_appendNull_278bc 0 = .ok (.aload_n 0, 1) := by decide +kernel
theorem dJ5_appendNull_278bc_1 : decode cJ5_appendNull_278bc 1 = .ok (.aload_n 0, 1) := by decide +kernel
theorem dJ5_appendNull_278bc_2 : decode cJ5_appendNull_278bc 2 = .ok (.getfield 79, 3) := by decide +kernel
theorem dJ5_appendNull_278bc_5 : decode cJ5_appendNull_278bc 5 = .ok (.iconst 4, 1) := by decide +kernel
theorem dJ5_appendNull_278bc_6 : decode cJ5_appendNull_278bc 6 = .ok (.iadd, 1) := by decide +kernel
theorem dJ5_appendNull_278bc_7 : decode cJ5_appendNull_278bc 7 = .ok (.invokevirtual 100, 3) := by decide +kernel
theorem dJ5_appendNull_278bc_10 : decode cJ5_appendNull_278bc 10 = .ok (.aload_n 0, 1) := by decide +kernel
theorem dJ5_appendNull_278bc_11 : decode cJ5_appendNull_278bc 11 = .ok (.getfield 79, 3) := by decide +kernel
theorem dJ5_appendNull_278bc_14 : decode cJ5_appendNull_278bc 14 = .ok (.istore_n 1, 1) := by decide +kernel
theorem dJ5_appendNull_278bc_15 : decode cJ5_appendNull_278bc 15 = .ok (.aload_n 0, 1) := by decide +kernel
theorem dJ5_appendNull_278bc_16 : decode cJ5_appendNull_278bc 16 = .ok (.getfield 15, 3) := by decide +kernel
theorem dJ5_appendNull_278bc_19 : decode cJ5_appendNull_278bc 19 = .ok (.astore_n 2, 1) := by decide +kernel
theorem dJ5_appendNull_278bc_20 : decode cJ5_appendNull_278bc 20 = .ok (.aload_n 0, 1) := by decide +kernel
theorem dJ5_appendNull_278bc_21 : decode cJ5_appendNull_278bc 21 = .ok (.invokevirtual 83, 3) := by decide +kernel
theorem dJ5_appendNull_278bc_24 : decode cJ5_appendNull_278bc 24 = .ok (.ifCond .eq 38, 3) := by decide +kernel
theorem dJ5_appendNull_278bc_27 : decode cJ5_appendNull_278bc 27 = .ok (.aload_n 2, 1) := by decide +kernel
theorem dJ5_appendNull_278bc_28 : decode cJ5_appendNull_278bc 28 = .ok (.iload_n 1, 1) := by decide +kernel
theorem dJ5_appendNull_278bc_29 : decode cJ5_appendNull_278bc 29 = .ok (.iinc 1 1, 3) := by decide +kernel
theorem dJ5_appendNull_278bc_32 : decode cJ5_appendNull_278bc 32 = .ok (.bipush 110, 2) := by decide +kernel
theorem dJ5_appendNull_278bc_34 : decode cJ5_appendNull_278bc 34 = .ok (.bastore, 1) := by decide +kernel
theorem dJ5_appendNull_278bc_35 : decode cJ5_appendNull_278bc 35 = .ok (.aload_n 2, 1) := by decide +kernel
theorem dJ5_appendNull_278bc_36 : decode cJ5_appendNull_278bc 36 = .ok (.iload_n 1, 1) := by decide +kernel
theorem dJ5_appendNull_278bc_37 : decode cJ5_appendNull_278bc 37 = .ok (.iinc 1 1, 3) := by decide +kernel
theorem dJ5_appendNull_278bc_40 : decode cJ5_appendNull_278bc 40 = .ok (.bipush 117, 2) := by decide +kernel
theorem dJ5_appendNull_278bc_42 : decode cJ5_appendNull_278bc 42 = .ok (.bastore, 1) := by decide +kernel
theorem dJ5_appendNull_278bc_43 : decode cJ5_appendNull_278bc 43 = .ok (.aload_n 2, 1) := by decide +kernel
theorem dJ5_appendNull_278bc_44 : decode cJ5_appendNull_278bc 44 = .ok (.iload_n 1, 1) := by decide +kernel
theorem dJ5_appendNull_278bc_45 : decode cJ5_appendNull_278bc 45 = .ok (.iinc 1 1, 3) := by decide +kernel
theorem dJ5_appendNull_278bc_48 : decode cJ5_appendNull_278bc 48 = .ok (.bipush 108, 2) := by decide +kernel
theorem dJ5_appendNull_278bc_50 : decode cJ5_appendNull_278bc 50 = .ok (.bastore, 1) := by decide +kernel
theorem dJ5_appendNull_278bc_51 : decode cJ5_appendNull_278bc 51 = .ok (.aload_n 2, 1) := by decide +kernel
theorem dJ5_appendNull_278bc_52 : decode cJ5_appendNull_278bc 52 = .ok (.iload_n 1, 1) := by decide +kernel
theorem dJ5_appendNull_278bc_53 : decode cJ5_appendNull_278bc 53 = .ok (.iinc 1 1, 3) := by decide +kernel
theorem dJ5_appendNull_278bc_56 : decode cJ5_appendNull_278bc 56 = .ok (.bipush 108, 2) := by decide +kernel
theorem dJ5_appendNull_278bc_58 : decode cJ5_appendNull_278bc 58 = .ok (.bastore, 1) := by decide +kernel
theorem dJ5_appendNull_278bc_59 : decode cJ5_appendNull_278bc 59 = .ok (.goto 17, 3) := by decide +kernel
theorem dJ5_appendNull_278bc_62 : decode cJ5_appendNull_278bc 62 = .ok (.aload_n 2, 1) := by decide +kernel
theorem dJ5_appendNull_278bc_63 : decode cJ5_appendNull_278bc 63 = .ok (.iload_n 1, 1) := by decide +kernel
theorem dJ5_appendNull_278bc_64 : decode cJ5_appendNull_278bc 64 = .ok (.bipush 110, 2) := by decide +kernel
theorem dJ5_appendNull_278bc_66 : decode cJ5_appendNull_278bc 66 = .ok (.bipush 117, 2) := by decide +kernel
theorem dJ5_appendNull_278bc_68 : decode cJ5_appendNull_278bc 68 = .ok (.bipush 108, 2) := by decide +kernel
theorem dJ5_appendNull_278bc_70 : decode cJ5_appendNull_278bc 70 = .ok (.bipush 108, 2) := by decide +kernel
theorem dJ5_appendNull_278bc_72 : decode cJ5_appendNull_278bc 72 = .ok (.invokestatic 226, 3) := by decide +kernel
theorem dJ5_appendNull_278bc_75 : decode cJ5_appendNull_278bc 75 = .ok (.istore_n 1, 1) := by decide +kernel
theorem dJ5_appendNull_278bc_76 : decode cJ5_appendNull_278bc 76 = .ok (.aload_n 0, 1) := by decide +kernel
theorem dJ5_appendNull_278bc_77 : decode cJ5_appendNull_278bc 77 = .ok (.iload_n 1, 1) := by decide +kernel
theorem dJ5_appendNull_278bc_78 : decode cJ5_appendNull_278bc 78 = .ok (.putfield 79, 3) := by decide +kernel
theorem dJ5_appendNull_278bc_81 : decode cJ5_appendNull_278bc 81 = .ok (.aload_n 0, 1) := by decide +kernel
theorem dJ5_appendNull_278bc_82 : decode cJ5_appendNull_278bc 82 = .ok (.areturn, 1) := by decide +kernel
set_option maxRecDepth 20000 in
theorem ggJ5_append_3fe6f_J5_ensureCapacityInternal_d00df : GoodIn wsJ5_append_3fe6f wsJ5_ensureCapacityInternal_d00df := goodIn_r _ [8, 2, 9, 10, 11, 12, 13, 7, 14, 15, 16, 17, 18, 19, 20, 21, 22, 23, 24, 25, 26, 27, 28, 29, 30, 31, 32, 33, 34, 35, 36, 37, 38, 39, 40, 41, 42, 43, 44, 45, 108, 109, 110, 111] (by decide +kernel) (by decide +kernel)
set_option maxRecDepth 20000 in
theorem gJ5_append_3fe6f_J5_ensureCapacityInternal_d00df_u100J4 : GoodIn wsJ5_append_3fe6f (va_wsU RJ5 100 RJ4 "java/lang/AbstractStringBuilder" ⟨"java/lang/AbstractStringBuilder", "ensureCapacityInternal", "(I)V"⟩ yJ5_ensureCapacityInternal_d00df wsJ5_ensureCapacityInternal_d00df) := goodIn_app (goodIn_of _ (by decide +kernel)) ggJ5_append_3fe6f_J5_ensureCapacityInternal_d00df
set_option maxRecDepth 20000 in
theorem ggJ5_append_3fe6f_J5_isLatin1_aae02 : GoodIn wsJ5_append_3fe6f wsJ5_isLatin1_aae02 := goodIn_r _ [50, 51, 9, 108, 109, 110, 111] (by decide +kernel) (by decide +kernel)
set_option maxRecDepth 20000 in
theorem gJ5_append_3fe6f_J5_isLatin1_aae02_u83J4 : GoodIn wsJ5_append_3fe6f (va_wsU RJ5 83 RJ4 "java/lang/AbstractStringBuilder" ⟨"java/lang/AbstractStringBuilder", "isLatin1", "()Z"⟩ yJ5_isLatin1_aae02 wsJ5_isLatin1_aae02) := goodIn_app (goodIn_of _ (by decide +kernel)) ggJ5_append_3fe6f_J5_isLatin1_aae02
set_option maxRecDepth 20000 in
theorem ggJ5_append_3fe6f_J1_canEncode_fc78d : GoodIn wsJ5_append_3fe6f wsJ1_canEncode_fc78d := goodIn_r _ [55] (by decide +kernel) (by decide +kernel)
set_option maxRecDepth 20000 in
theorem gJ5_append_3fe6f_J1_canEncode_fc78d : GoodIn wsJ5_append_3fe6f (va_wsS RJ5 191 yJ1_canEncode_fc78d wsJ1_canEncode_fc78d) := goodIn_app (goodIn_of _ (by decide +kernel)) ggJ5_append_3fe6f_J1_canEncode_fc78d
set_option maxRecDepth 20000 in
theorem ggJ5_append_3fe6f_J5_inflate_da8c8 : GoodIn wsJ5_append_3fe6f wsJ5_inflate_da8c8 := goodIn_r _ [60, 2, 1, 9, 46, 47, 48, 49, 7, 50, 51, 61, 62, 63, 64, 38, 65, 66, 67, 68, 69, 70, 54, 71, 72, 73, 74, 75, 76, 77, 78, 79, 80, 81, 82, 83, 84, 85, 86, 87, 88, 89, 90, 91, 92, 93, 94, 95, 108, 109, 110, 111] (by decide +kernel) (by decide +kernel)
set_option maxRecDepth 20000 in
theorem gJ5_append_3fe6f_J5_inflate_da8c8_u195J4 : GoodIn wsJ5_append_3fe6f (va_wsU RJ5 195 RJ4 "java/lang/AbstractStringBuilder" ⟨"java/lang/AbstractStringBuilder", "inflate", "()V"⟩ yJ5_inflate_da8c8 wsJ5_inflate_da8c8) := goodIn_app (goodIn_of _ (by decide +kernel)) ggJ5_append_3fe6f_J5_inflate_da8c8
set_option maxRecDepth 20000 in
theorem ggJ5_append_3fe6f_J2_putCharSB_b72d1 : GoodIn wsJ5_append_3fe6f wsJ2_putCharSB_b72d1 := goodIn_r _ [98, 99, 100, 63, 101, 78, 79, 80, 102, 103, 83, 104, 85, 105, 106, 88, 107, 90, 91, 92, 93, 94, 95] (by decide +kernel) (by decide +kernel)
set_option maxRecDepth 20000 in
theorem gJ5_append_3fe6f_J2_putCharSB_b72d1 : GoodIn wsJ5_append_3fe6f (va_wsS RJ5 197 yJ2_putCharSB_b72d1 wsJ2_putCharSB_b72d1) := goodIn_app (goodIn_of _ (by decide +kernel)) ggJ5_append_3fe6f_J2_putCharSB_b72d1
theorem dJ5_append_3fe6f_0 : decode cJ5_append_3fe6f 0 = .ok (.aload_n 0, 1) := by decide +kernel
theorem dJ5_append_3fe6f_1 : decode cJ5_append_3fe6f 1 = .ok (.aload_n 0, 1) := by decide +kernel
theorem dJ5_append_3fe6f_2 : decode cJ5_append_3fe6f 2 = .ok (.getfield 79, 3) := by decide +kernel
theorem dJ5_append_3fe6f_5 : decode cJ5_append_3fe6f 5 = .ok (.iconst 1, 1) := by decide +kernel
theorem dJ5_append_3fe6f_6 : decode cJ5_append_3fe6f 6 = .ok (.iadd, 1) := by decide +kernel
theorem dJ5_append_3fe6f_7 : decode cJ5_append_3fe6f 7 = .ok (.invokevirtual 100, 3) := by decide +kernel
theorem dJ5_append_3fe6f_10 : decode cJ5_append_3fe6f 10 = .ok (.aload_n 0, 1) := by decide +kernel
theorem dJ5_append_3fe6f_11 : decode cJ5_append_3fe6f 11 = .ok (.invokevirtual 83, 3) := by decide +kernel
theorem dJ5_append_3fe6f_14 : decode cJ5_append_3fe6f 14 = .ok (.ifCond .eq 31, 3) := by decide +kernel
theorem dJ5_append_3fe6f_17 : decode cJ5_append_3fe6f 17 = .ok (.iload_n 1, 1) := by decide +kernel
theorem dJ5_append_3fe6f_18 : decode cJ5_append_3fe6f 18 = .ok (.invokestatic 191, 3) := by decide +kernel
theorem dJ5_append_3fe6f_21 : decode cJ5_append_3fe6f 21 = .ok (.ifCond .eq 24, 3) := by decide +kernel
theorem dJ5_append_3fe6f_24 : decode cJ5_append_3fe6f 24 = .ok (.aload_n 0, 1) := by decide +kernel
theorem dJ5_append_3fe6f_25 : decode cJ5_append_3fe6f 25 = .ok (.getfield 15, 3) := by decide +kernel
theorem dJ5_append_3fe6f_28 : decode cJ5_append_3fe6f 28 = .ok (.aload_n 0, 1) := by decide +kernel
theorem dJ5_append_3fe6f_29 : decode cJ5_append_3fe6f 29 = .ok (.dup, 1) := by decide +kernel
theorem dJ5_append_3fe6f_30 : decode cJ5_append_3fe6f 30 = .ok (.getfield 79, 3) := by decide +kernel
theorem dJ5_append_3fe6f_33 : decode cJ5_append_3fe6f 33 = .ok (.dup_x1, 1) := by decide +kernel
theorem dJ5_append_3fe6f_34 : decode cJ5_append_3fe6f 34 = .ok (.iconst 1, 1) := by decide +kernel
theorem dJ5_append_3fe6f_35 : decode cJ5_append_3fe6f 35 = .ok (.iadd, 1) := by decide +kernel
theorem dJ5_append_3fe6f_36 : decode cJ5_append_3fe6f 36 = .ok (.putfield 79, 3) := by decide +kernel
theorem dJ5_append_3fe6f_39 : decode cJ5_append_3fe6f 39 = .ok (.iload_n 1, 1) := by decide +kernel
theorem dJ5_append_3fe6f_40 : decode cJ5_append_3fe6f 40 = .ok (.i2b, 1) := by decide +kernel
theorem dJ5_append_3fe6f_41 : decode cJ5_append_3fe6f 41 = .ok (.bastore, 1) := by decide +kernel
theorem dJ5_append_3fe6f_42 : decode cJ5_append_3fe6f 42 = .ok (.goto 33, 3) := by decide +kernel
theorem dJ5_append_3fe6f_45 : decode cJ5_append_3fe6f 45 = .ok (.aload_n 0, 1) := by decide +kernel
theorem dJ5_append_3fe6f_46 : decode cJ5_append_3fe6f 46 = .ok (.invokevirtual 83, 3) := by decide +kernel
theorem dJ5_append_3fe6f_49 : decode cJ5_append_3fe6f 49 = .ok (.ifCond .eq 7, 3) := by decide +kernel
theorem dJ5_append_3fe6f_52 : decode cJ5_append_3fe6f 52 = .ok (.aload_n 0, 1) := by decide +kernel
theorem dJ5_append_3fe6f_53 : decode cJ5_append_3fe6f 53 = .ok (.invokevirtual 195, 3) := by decide +kernel
theorem dJ5_append_3fe6f_56 : decode cJ5_append_3fe6f 56 = .ok (.aload_n 0, 1) := by decide +kernel
theorem dJ5_append_3fe6f_57 : decode cJ5_append_3fe6f 57 = .ok (.getfield 15, 3) := by decide +kernel
theorem dJ5_append_3fe6f_60 : decode cJ5_append_3fe6f 60 = .ok (.aload_n 0, 1) := by decide +kernel
theorem dJ5_append_3fe6f_61 : decode cJ5_append_3fe6f 61 = .ok (.dup, 1) := by decide +kernel
theorem dJ5_append_3fe6f_62 : decode cJ5_append_3fe6f 62 = .ok (.getfield 79, 3) := by decide +kernel
theorem dJ5_append_3fe6f_65 : decode cJ5_append_3fe6f 65 = .ok (.dup_x1, 1) := by decide +kernel
theorem dJ5_append_3fe6f_66 : decode cJ5_append_3fe6f 66 = .ok (.iconst 1, 1) := by decide +kernel
theorem dJ5_append_3fe6f_67 : decode cJ5_append_3fe6f 67 = .ok (.iadd, 1) := by decide +kernel
theorem dJ5_append_3fe6f_68 : decode cJ5_append_3fe6f 68 = .ok (.putfield 79, 3) := by decide +kernel
theorem dJ5_append_3fe6f_71 : decode cJ5_append_3fe6f 71 = .ok (.iload_n 1, 1) := by decide +kernel
theorem dJ5_append_3fe6f_72 : decode cJ5_append_3fe6f 72 = .ok (.invokestatic 197, 3) := by decide +kernel
theorem dJ5_append_3fe6f_75 : decode cJ5_append_3fe6f 75 = .ok (.aload_n 0, 1) := by decide +kernel
theorem dJ5_append_3fe6f_76 : decode cJ5_append_3fe6f 76 = .ok (.areturn, 1) := by decide +kernel
set_option maxRecDepth 20000 in
theorem ggJ5_append_c97b9_J6_stringSize_0f7a4 : GoodIn wsJ5_append_c97b9 wsJ6_stringSize_0f7a4 := goodIn_r _ [6] (by decide +kernel) (by decide +kernel)
set_option maxRecDepth 20000 in
theorem gJ5_append_c97b9_J6_stringSize_0f7a4 : GoodIn wsJ5_append_c97b9 (va_wsS RJ5 245 yJ6_stringSize_0f7a4 wsJ6_stringSize_0f7a4) := goodIn_app (goodIn_of _ (by decide +kernel)) ggJ5_append_c97b9_J6_stringSize_0f7a4
set_option maxRecDepth 20000 in
theorem ggJ5_append_c97b9_J5_ensureCapacityInternal_d00df : GoodIn wsJ5_append_c97b9 wsJ5_ensureCapacityInternal_d00df := goodIn_r _ [12, 2, 13, 14, 15, 16, 17, 11, 18, 19, 20, 21, 22, 23, 24, 25, 26, 27, 28, 29, 30, 31, 32, 33, 34, 35, 36, 37, 38, 39, 40, 41, 42, 43, 44, 45, 46, 47, 48, 49, 91, 92, 93, 94] (by decide +kernel) (by decide +kernel)
set_option maxRecDepth 20000 in
theorem gJ5_append_c97b9_J5_ensureCapacityInternal_d00df_u100J4 : GoodIn wsJ5_append_c97b9 (va_wsU RJ5 100 RJ4 "java/lang/AbstractStringBuilder" ⟨"java/lang/AbstractStringBuilder", "ensureCapacityInternal", "(I)V"⟩ yJ5_ensureCapacityInternal_d00df wsJ5_ensureCapacityInternal_d00df) := goodIn_app (goodIn_of _ (by decide +kernel)) ggJ5_append_c97b9_J5_ensureCapacityInternal_d00df
set_option maxRecDepth 20000 in
theorem ggJ5_append_c97b9_J5_isLatin1_aae02 : GoodIn wsJ5_append_c97b9 wsJ5_isLatin1_aae02 := goodIn_r _ [54, 55, 13, 91, 92, 93, 94] (by decide +kernel) (by decide +kernel)
set_option maxRecDepth 20000 in
theorem gJ5_append_c97b9_J5_isLatin1_aae02_u83J4 : GoodIn wsJ5_append_c97b9 (va_wsU RJ5 83 RJ4 "java/lang/AbstractStringBuilder" ⟨"java/lang/AbstractStringBuilder", "isLatin1", "()Z"⟩ yJ5_isLatin1_aae02 wsJ5_isLatin1_aae02) := goodIn_app (goodIn_of _ (by decide +kernel)) ggJ5_append_c97b9_J5_isLatin1_aae02
set_option maxRecDepth 20000 in
theorem ggJ5_append_c97b9_J6_getChars_ba4f3 : GoodIn wsJ5_append_c97b9 wsJ6_getChars_ba4f3 := goodIn_r _ [58, 59, 60] (by decide +kernel) (by decide +kernel)
set_option maxRecDepth 20000 in
theorem gJ5_append_c97b9_J6_getChars_ba4f3 : GoodIn wsJ5_append_c97b9 (va_wsS RJ5 248 yJ6_getChars_ba4f3 wsJ6_getChars_ba4f3) := goodIn_app (goodIn_of _ (by decide +kernel)) ggJ5_append_c97b9_J6_getChars_ba4f3
set_option maxRecDepth 20000 in
theorem ggJ5_append_c97b9_J2_getChars_46870 : GoodIn wsJ5_append_c97b9 wsJ2_getChars_46870 := goodIn_r _ [64, 65, 66, 67, 63, 68, 69, 70, 71, 72, 73, 74, 75, 76, 77, 78, 79, 80, 81, 82, 83, 84, 85, 86, 87, 88, 89, 90] (by decide +kernel) (by decide +kernel)
set_option maxRecDepth 20000 in
theorem gJ5_append_c97b9_J2_getChars_46870 : GoodIn wsJ5_append_c97b9 (va_wsS RJ5 251 yJ2_getChars_46870 wsJ2_getChars_46870) := goodIn_app (goodIn_of _ (by decide +kernel)) ggJ5_append_c97b9_J2_getChars_46870
theorem dJ5_append_c97b9_0 : decode cJ5_append_c97b9 0 = .ok (.aload_n 0, 1) := by decide +kernel
theorem dJ5_append_c97b9_1 : decode cJ5_append_c97b9 1 = .ok (.getfield 79, 3) := by decide +kernel
theorem dJ5_append_c97b9_4 : decode cJ5_append_c97b9 4 = .ok (.istore_n 2, 1) := by decide +kernel
theorem dJ5_append_c97b9_5 : decode cJ5_append_c97b9 5 = .ok (.iload_n 2, 1) := by decide +kernel
theorem dJ5_append_c97b9_6 : decode cJ5_append_c97b9 6 = .ok (.iload_n 1, 1) := by decide +kernel
theorem dJ5_append_c97b9_7 : decode cJ5_append_c97b9 7 = .ok (.invokestatic 245, 3) := by decide +kernel
theorem dJ5_append_c97b9_10 : decode cJ5_append_c97b9 10 = .ok (.iadd, 1) := by decide +kernel
theorem dJ5_append_c97b9_11 : decode cJ5_append_c97b9 11 = .ok (.istore_n 3, 1) := by decide +kernel
theorem dJ5_append_c97b9_12 : decode cJ5_append_c97b9 12 = .ok (.aload_n 0, 1) := by decide +kernel
theorem dJ5_append_c97b9_13 : decode cJ5_append_c97b9 13 = .ok (.iload_n 3, 1) := by decide +kernel
theorem dJ5_append_c97b9_14 : decode cJ5_append_c97b9 14 = .ok (.invokevirtual 100, 3) := by decide +kernel
theorem dJ5_append_c97b9_17 : decode cJ5_append_c97b9 17 = .ok (.aload_n 0, 1) := by decide +kernel
theorem dJ5_append_c97b9_18 : decode cJ5_append_c97b9 18 = .ok (.invokevirtual 83, 3) := by decide +kernel
theorem dJ5_append_c97b9_21 : decode cJ5_append_c97b9 21 = .ok (.ifCond .eq 16, 3) := by decide +kernel
theorem dJ5_append_c97b9_24 : decode cJ5_append_c97b9 24 = .ok (.iload_n 1, 1) := by decide +kernel
theorem dJ5_append_c97b9_25 : decode cJ5_append_c97b9 25 = .ok (.iload_n 3, 1) := by decide +kernel
theorem dJ5_append_c97b9_26 : decode cJ5_append_c97b9 26 = .ok (.aload_n 0, 1) := by decide +kernel
theorem dJ5_append_c97b9_27 : decode cJ5_append_c97b9 27 = .ok (.getfield 15, 3) := by decide +kernel
theorem dJ5_append_c97b9_30 : decode cJ5_append_c97b9 30 = .ok (.invokestatic 248, 3) := by decide +kernel
theorem dJ5_append_c97b9_33 : decode cJ5_append_c97b9 33 = .ok (.pop, 1) := by decide +kernel
theorem dJ5_append_c97b9_34 : decode cJ5_append_c97b9 34 = .ok (.goto 14, 3) := by decide +kernel
theorem dJ5_append_c97b9_37 : decode cJ5_append_c97b9 37 = .ok (.iload_n 1, 1) := by decide +kernel
theorem dJ5_append_c97b9_38 : decode cJ5_append_c97b9 38 = .ok (.iload_n 2, 1) := by decide +kernel
theorem dJ5_append_c97b9_39 : decode cJ5_append_c97b9 39 = .ok (.iload_n 3, 1) := by decide +kernel
theorem dJ5_append_c97b9_40 : decode cJ5_append_c97b9 40 = .ok (.aload_n 0, 1) := by decide +kernel
theorem dJ5_append_c97b9_41 : decode cJ5_append_c97b9 41 = .ok (.getfield 15, 3) := by decide +kernel
theorem dJ5_append_c97b9_44 : decode cJ5_append_c97b9 44 = .ok (.invokestatic 251, 3) := by decide +kernel
theorem dJ5_append_c97b9_47 : decode cJ5_append_c97b9 47 = .ok (.pop, 1) := by decide +kernel
theorem dJ5_append_c97b9_48 : decode cJ5_append_c97b9 48 = .ok (.aload_n 0, 1) := by decide +kernel
theorem dJ5_append_c97b9_49 : decode cJ5_append_c97b9 49 = .ok (.iload_n 3, 1) := by decide +kernel
theorem dJ5_append_c97b9_50 : decode cJ5_append_c97b9 50 = .ok (.putfield 79, 3) := by decide +kernel
theorem dJ5_append_c97b9_53 : decode cJ5_append_c97b9 53 = .ok (.aload_n 0, 1) := by decide +kernel
theorem dJ5_append_c97b9_54 : decode cJ5_append_c97b9 54 = .ok (.areturn, 1) := by decide +kernel
theorem dJ5_isLatin1_aae02_0 : decode cJ5_isLatin1_aae02 0 = .ok (.getstatic 18, 3) := by decide +kernel
theorem dJ5_isLatin1_aae02_3 : decode cJ5_isLatin1_aae02 3 = .ok (.ifCond .eq 14, 3) := by decide +kernel
theorem dJ5_isLatin1_aae02_6 : decode cJ5_isLatin1_aae02 6 = .ok (.aload_n 0, 1) := by decide +kernel
theorem dJ5_isLatin1_aae02_7 : decode cJ5_isLatin1_aae02 7 = .ok (.getfield 22, 3) := by decide +kernel
theorem dJ5_isLatin1_aae02_10 : decode cJ5_isLatin1_aae02 10 = .ok (.ifCond .ne 7, 3) := by decide +kernel
theorem dJ5_isLatin1_aae02_13 : decode cJ5_isLatin1_aae02 13 = .ok (.iconst 1, 1) := by decide +kernel
theorem dJ5_isLatin1_aae02_14 : decode cJ5_isLatin1_aae02 14 = .ok (.goto 4, 3) := by decide +kernel
theorem dJ5_isLatin1_aae02_17 : decode cJ5_isLatin1_aae02 17 = .ok (.iconst 0, 1) := by decide +kernel
theorem dJ5_isLatin1_aae02_18 : decode cJ5_isLatin1_aae02 18 = .ok (.ireturn, 1) := by decide +kernel
set_option maxRecDepth 20000 in
theorem ggJ5_inflateIfNeededFor_a7421_J0_coder_7d493 : GoodIn wsJ5_inflateIfNeededFor_a7421 wsJ0_coder_7d493 := goodIn_r _ [7, 8, 9] (by decide +kernel) (by decide +kernel)
set_option maxRecDepth 20000 in
theorem gJ5_inflateIfNeededFor_a7421_J0_coder_7d493 : GoodIn wsJ5_inflateIfNeededFor_a7421 (wsV RJ5 40 RJ0 yJ0_coder_7d493 wsJ0_coder_7d493) := goodIn_app (goodIn_of _ (by decide +kernel)) ggJ5_inflateIfNeededFor_a7421_J0_coder_7d493
set_option maxRecDepth 20000 in
theorem ggJ5_inflateIfNeededFor_a7421_J5_inflate_da8c8 : GoodIn wsJ5_inflateIfNeededFor_a7421 wsJ5_inflate_da8c8 := goodIn_r _ [15, 16, 17, 2, 18, 19, 20, 21, 14, 22, 1, 23, 24, 25, 26, 27, 28, 29, 30, 31, 32, 33, 34, 35, 36, 37, 38, 39, 40, 41, 42, 43, 44, 45, 46, 6, 47, 48, 49, 50, 51, 52, 53, 54, 55, 56, 57, 58, 59, 60, 61, 62] (by decide +kernel) (by decide +kernel)
set_option maxRecDepth 20000 in
theorem gJ5_inflateIfNeededFor_a7421_J5_inflate_da8c8_u195J4 : GoodIn wsJ5_inflateIfNeededFor_a7421 (va_wsU RJ5 195 RJ4 "java/lang/AbstractStringBuilder" ⟨"java/lang/AbstractStringBuilder", "inflate", "()V"⟩ yJ5_inflate_da8c8 wsJ5_inflate_da8c8) := goodIn_app (goodIn_of _ (by decide +kernel)) ggJ5_inflateIfNeededFor_a7421_J5_inflate_da8c8
theorem dJ5_inflateIfNeededFor_a7421_0 : decode cJ5_inflateIfNeededFor_a7421 0 = .ok (.getstatic 18, 3) := by decide +kernel
theorem dJ5_inflateIfNeededFor_a7421_3 : decode cJ5_inflateIfNeededFor_a7421 3 = .ok (.ifCond .eq 18, 3) := by decide +kernel
theorem dJ5_inflateIfNeededFor_a7421_6 : decode cJ5_inflateIfNeededFor_a7421 6 = .ok (.aload_n 0, 1) := by decide +kernel
theorem dJ5_inflateIfNeededFor_a7421_7 : decode cJ5_inflateIfNeededFor_a7421 7 = .ok (.getfield 22, 3) := by decide +kernel
theorem dJ5_inflateIfNeededFor_a7421_10 : decode cJ5_inflateIfNeededFor_a7421 10 = .ok (.aload_n 1, 1) := by decide +kernel
theorem dJ5_inflateIfNeededFor_a7421_11 : decode cJ5_inflateIfNeededFor_a7421 11 = .ok (.invokevirtual 40, 3) := by decide +kernel
theorem dJ5_inflateIfNeededFor_a7421_14 : decode cJ5_inflateIfNeededFor_a7421 14 = .ok (.if_icmp .eq 7, 3) := by decide +kernel
theorem dJ5_inflateIfNeededFor_a7421_17 : decode cJ5_inflateIfNeededFor_a7421 17 = .ok (.aload_n 0, 1) := by decide +kernel
theorem dJ5_inflateIfNeededFor_a7421_18 : decode cJ5_inflateIfNeededFor_a7421 18 = .ok (.invokevirtual 195, 3) := by decide +kernel
theorem dJ5_inflateIfNeededFor_a7421_21 : decode cJ5_inflateIfNeededFor_a7421 21 = .ok (.return_, 1) := by decide +kernel
set_option maxRecDepth 20000 in
theorem ggJ5_putStringAt_47b60_J5_inflateIfNeededFor_a7421 : GoodIn wsJ5_putStringAt_47b60 wsJ5_inflateIfNeededFor_a7421 := goodIn_r _ [8, 9, 2, 10, 11, 12, 13, 14, 15, 16, 17, 18, 19, 20, 7, 21, 1, 22, 23, 24, 25, 26, 27, 28, 29, 30, 31, 32, 33, 34, 35, 36, 37, 38, 39, 40, 41, 42, 43, 44, 45, 46, 47, 48, 49, 50, 51, 52, 53, 54, 55, 56, 57, 58, 59, 60, 61, 62, 63, 75, 76, 77, 78] (by decide +kernel) (by decide +kernel)
set_option maxRecDepth 20000 in
theorem gJ5_putStringAt_47b60_J5_inflateIfNeededFor_a7421_u397J4 : GoodIn wsJ5_putStringAt_47b60 (va_wsU RJ5 397 RJ4 "java/lang/AbstractStringBuilder" ⟨"java/lang/AbstractStringBuilder", "inflateIfNeededFor", "(Ljava/lang/String;)V"⟩ yJ5_inflateIfNeededFor_a7421 wsJ5_inflateIfNeededFor_a7421) := goodIn_app (goodIn_of _ (by decide +kernel)) ggJ5_putStringAt_47b60_J5_inflateIfNeededFor_a7421
set_option maxRecDepth 20000 in
theorem ggJ5_putStringAt_47b60_J0_getBytes_840e7 : GoodIn wsJ5_putStringAt_47b60 wsJ0_getBytes_840e7 := goodIn_r _ [67, 68, 69, 70, 71, 72, 73, 11, 12, 13, 14, 15, 16, 74, 38, 39, 40, 41, 42, 30, 43, 44, 45, 46, 47, 48, 49, 50, 51, 52, 53, 54, 55, 56, 57, 58, 59, 60, 61, 62, 63] (by decide +kernel) (by decide +kernel)
set_option maxRecDepth 20000 in
theorem gJ5_putStringAt_47b60_J0_getBytes_840e7 : GoodIn wsJ5_putStringAt_47b60 (wsV RJ5 399 RJ0 yJ0_getBytes_840e7 wsJ0_getBytes_840e7) := goodIn_app (goodIn_of _ (by decide +kernel)) ggJ5_putStringAt_47b60_J0_getBytes_840e7
theorem dJ5_putStringAt_47b60_0 : decode cJ5_putStringAt_47b60 0 = .ok (.aload_n 0, 1) := by decide +kernel
theorem dJ5_putStringAt_47b60_1 : decode cJ5_putStringAt_47b60 1 = .ok (.aload_n 2, 1) := by decide +kernel
theorem dJ5_putStringAt_47b60_2 : decode cJ5_putStringAt_47b60 2 = .ok (.invokevirtual 397, 3) := by decide +kernel
theorem dJ5_putStringAt_47b60_5 : decode cJ5_putStringAt_47b60 5 = .ok (.aload_n 2, 1) := by decide +kernel
theorem dJ5_putStringAt_47b60_6 : decode cJ5_putStringAt_47b60 6 = .ok (.aload_n 0, 1) := by decide +kernel
theorem dJ5_putStringAt_47b60_7 : decode cJ5_putStringAt_47b60 7 = .ok (.getfield 15, 3) := by decide +kernel
theorem dJ5_putStringAt_47b60_10 : decode cJ5_putStringAt_47b60 10 = .ok (.iload_n 1, 1) := by decide +kernel
theorem dJ5_putStringAt_47b60_11 : decode cJ5_putStringAt_47b60 11 = .ok (.aload_n 0, 1) := by decide +kernel
theorem dJ5_putStringAt_47b60_12 : decode cJ5_putStringAt_47b60 12 = .ok (.getfield 22, 3) := by decide +kernel
theorem dJ5_putStringAt_47b60_15 : decode cJ5_putStringAt_47b60 15 = .ok (.invokevirtual 399, 3) := by decide +kernel
theorem dJ5_putStringAt_47b60_18 : decode cJ5_putStringAt_47b60 18 = .ok (.return_, 1) := by decide +kernel
theorem dJ6_getChars_ba4f3_0 : decode cJ6_getChars_ba4f3 0 = .ok (.iload_n 1, 1) := by decide +kernel
theorem dJ6_getChars_ba4f3_1 : decode cJ6_getChars_ba4f3 1 = .ok (.istore 5, 2) := by decide +kernel
theorem dJ6_getChars_ba4f3_3 : decode cJ6_getChars_ba4f3 3 = .ok (.iload_n 0, 1) := by decide +kernel
theorem dJ6_getChars_ba4f3_4 : decode cJ6_getChars_ba4f3 4 = .ok (.ifCond .ge 7, 3) := by decide +kernel
theorem dJ6_getChars_ba4f3_7 : decode cJ6_getChars_ba4f3 7 = .ok (.iconst 1, 1) := by decide +kernel
theorem dJ6_getChars_ba4f3_8 : decode cJ6_getChars_ba4f3 8 = .ok (.goto 4, 3) := by decide +kernel
theorem dJ6_getChars_ba4f3_11 : decode cJ6_getChars_ba4f3 11 = .ok (.iconst 0, 1) := by decide +kernel
theorem dJ6_getChars_ba4f3_12 : decode cJ6_getChars_ba4f3 12 = .ok (.istore 6, 2) := by decide +kernel
theorem dJ6_getChars_ba4f3_14 : decode cJ6_getChars_ba4f3 14 = .ok (.iload 6, 2) := by decide +kernel
theorem dJ6_getChars_ba4f3_16 : decode cJ6_getChars_ba4f3 16 = .ok (.ifCond .ne 6, 3) := by decide +kernel
theorem dJ6_getChars_ba4f3_19 : decode cJ6_getChars_ba4f3 19 = .ok (.iload_n 0, 1) := by decide +kernel
theorem dJ6_getChars_ba4f3_20 : decode cJ6_getChars_ba4f3 20 = .ok (.ineg, 1) := by decide +kernel
theorem dJ6_getChars_ba4f3_21 : decode cJ6_getChars_ba4f3 21 = .ok (.istore_n 0, 1) := by decide +kernel
theorem dJ6_getChars_ba4f3_22 : decode cJ6_getChars_ba4f3 22 = .ok (.iload_n 0, 1) := by decide +kernel
theorem dJ6_getChars_ba4f3_23 : decode cJ6_getChars_ba4f3 23 = .ok (.bipush (-100), 2) := by decide +kernel
theorem dJ6_getChars_ba4f3_25 : decode cJ6_getChars_ba4f3 25 = .ok (.if_icmp .gt 47, 3) := by decide +kernel
theorem dJ6_getChars_ba4f3_28 : decode cJ6_getChars_ba4f3 28 = .ok (.iload_n 0, 1) := by decide +kernel
theorem dJ6_getChars_ba4f3_29 : decode cJ6_getChars_ba4f3 29 = .ok (.bipush 100, 2) := by decide +kernel
theorem dJ6_getChars_ba4f3_31 : decode cJ6_getChars_ba4f3 31 = .ok (.idiv, 1) := by decide +kernel
theorem dJ6_getChars_ba4f3_32 : decode cJ6_getChars_ba4f3 32 = .ok (.istore_n 3, 1) := by decide +kernel
theorem dJ6_getChars_ba4f3_33 : decode cJ6_getChars_ba4f3 33 = .ok (.iload_n 3, 1) := by decide +kernel
theorem dJ6_getChars_ba4f3_34 : decode cJ6_getChars_ba4f3 34 = .ok (.bipush 100, 2) := by decide +kernel
theorem dJ6_getChars_ba4f3_36 : decode cJ6_getChars_ba4f3 36 = .ok (.imul, 1) := by decide +kernel
theorem dJ6_getChars_ba4f3_37 : decode cJ6_getChars_ba4f3 37 = .ok (.iload_n 0, 1) := by decide +kernel
theorem dJ6_getChars_ba4f3_38 : decode cJ6_getChars_ba4f3 38 = .ok (.isub, 1) := by decide +kernel
theorem dJ6_getChars_ba4f3_39 : decode cJ6_getChars_ba4f3 39 = .ok (.istore 4, 2) := by decide +kernel
theorem dJ6_getChars_ba4f3_41 : decode cJ6_getChars_ba4f3 41 = .ok (.iload_n 3, 1) := by decide +kernel
theorem dJ6_getChars_ba4f3_42 : decode cJ6_getChars_ba4f3 42 = .ok (.istore_n 0, 1) := by decide +kernel
theorem dJ6_getChars_ba4f3_43 : decode cJ6_getChars_ba4f3 43 = .ok (.aload_n 2, 1) := by decide +kernel
theorem dJ6_getChars_ba4f3_44 : decode cJ6_getChars_ba4f3 44 = .ok (.iinc 5 (-1), 3) := by decide +kernel
theorem dJ6_getChars_ba4f3_47 : decode cJ6_getChars_ba4f3 47 = .ok (.iload 5, 2) := by decide +kernel
theorem dJ6_getChars_ba4f3_49 : decode cJ6_getChars_ba4f3 49 = .ok (.getstatic 83, 3) := by decide +kernel
theorem dJ6_getChars_ba4f3_52 : decode cJ6_getChars_ba4f3 52 = .ok (.iload 4, 2) := by decide +kernel
theorem dJ6_getChars_ba4f3_54 : decode cJ6_getChars_ba4f3 54 = .ok (.baload, 1) := by decide +kernel
theorem dJ6_getChars_ba4f3_55 : decode cJ6_getChars_ba4f3 55 = .ok (.bastore, 1) := by decide +kernel
theorem dJ6_getChars_ba4f3_56 : decode cJ6_getChars_ba4f3 56 = .ok (.aload_n 2, 1) := by decide +kernel
theorem dJ6_getChars_ba4f3_57 : decode cJ6_getChars_ba4f3 57 = .ok (.iinc 5 (-1), 3) := by decide +kernel
theorem dJ6_getChars_ba4f3_60 : decode cJ6_getChars_ba4f3 60 = .ok (.iload 5, 2) := by decide +kernel
theorem dJ6_getChars_ba4f3_62 : decode cJ6_getChars_ba4f3 62 = .ok (.getstatic 87, 3) := by decide +kernel
theorem dJ6_getChars_ba4f3_65 : decode cJ6_getChars_ba4f3 65 = .ok (.iload 4, 2) := by decide +kernel
theorem dJ6_getChars_ba4f3_67 : decode cJ6_getChars_ba4f3 67 = .ok (.baload, 1) := by decide +kernel
theorem dJ6_getChars_ba4f3_68 : decode cJ6_getChars_ba4f3 68 = .ok (.bastore, 1) := by decide +kernel
theorem dJ6_getChars_ba4f3_69 : decode cJ6_getChars_ba4f3 69 = .ok (.goto (-47), 3) := by decide +kernel
theorem dJ6_getChars_ba4f3_72 : decode cJ6_getChars_ba4f3 72 = .ok (.aload_n 2, 1) := by decide +kernel
theorem dJ6_getChars_ba4f3_73 : decode cJ6_getChars_ba4f3 73 = .ok (.iinc 5 (-1), 3) := by decide +kernel
theorem dJ6_getChars_ba4f3_76 : decode cJ6_getChars_ba4f3 76 = .ok (.iload 5, 2) := by decide +kernel
theorem dJ6_getChars_ba4f3_78 : decode cJ6_getChars_ba4f3 78 = .ok (.getstatic 83, 3) := by decide +kernel
theorem dJ6_getChars_ba4f3_81 : decode cJ6_getChars_ba4f3 81 = .ok (.iload_n 0, 1) := by decide +kernel
theorem dJ6_getChars_ba4f3_82 : decode cJ6_getChars_ba4f3 82 = .ok (.ineg, 1) := by decide +kernel
theorem dJ6_getChars_ba4f3_83 : decode cJ6_getChars_ba4f3 83 = .ok (.baload, 1) := by decide +kernel
theorem dJ6_getChars_ba4f3_84 : decode cJ6_getChars_ba4f3 84 = .ok (.bastore, 1) := by decide +kernel
theorem dJ6_getChars_ba4f3_85 : decode cJ6_getChars_ba4f3 85 = .ok (.iload_n 0, 1) := by decide +kernel
theorem dJ6_getChars_ba4f3_86 : decode cJ6_getChars_ba4f3 86 = .ok (.bipush (-9), 2) := by decide +kernel
theorem dJ6_getChars_ba4f3_88 : decode cJ6_getChars_ba4f3 88 = .ok (.if_icmp .ge 16, 3) := by decide +kernel
theorem dJ6_getChars_ba4f3_91 : decode cJ6_getChars_ba4f3 91 = .ok (.aload_n 2, 1) := by decide +kernel
theorem dJ6_getChars_ba4f3_92 : decode cJ6_getChars_ba4f3 92 = .ok (.iinc 5 (-1), 3) := by decide +kernel
theorem dJ6_getChars_ba4f3_95 : decode cJ6_getChars_ba4f3 95 = .ok (.iload 5, 2) := by decide +kernel
theorem dJ6_getChars_ba4f3_97 : decode cJ6_getChars_ba4f3 97 = .ok (.getstatic 87, 3) := by decide +kernel
theorem dJ6_getChars_ba4f3_100 : decode cJ6_getChars_ba4f3 100 = .ok (.iload_n 0, 1) := by decide +kernel
theorem dJ6_getChars_ba4f3_101 : decode cJ6_getChars_ba4f3 101 = .ok (.ineg, 1) := by decide +kernel
theorem dJ6_getChars_ba4f3_102 : decode cJ6_getChars_ba4f3 102 = .ok (.baload, 1) := by decide +kernel
theorem dJ6_getChars_ba4f3_103 : decode cJ6_getChars_ba4f3 103 = .ok (.bastore, 1) := by decide +kernel
theorem dJ6_getChars_ba4f3_104 : decode cJ6_getChars_ba4f3 104 = .ok (.iload 6, 2) := by decide +kernel
theorem dJ6_getChars_ba4f3_106 : decode cJ6_getChars_ba4f3 106 = .ok (.ifCond .eq 12, 3) := by decide +kernel
theorem dJ6_getChars_ba4f3_109 : decode cJ6_getChars_ba4f3 109 = .ok (.aload_n 2, 1) := by decide +kernel
theorem dJ6_getChars_ba4f3_110 : decode cJ6_getChars_ba4f3 110 = .ok (.iinc 5 (-1), 3) := by decide +kernel
theorem dJ6_getChars_ba4f3_113 : decode cJ6_getChars_ba4f3 113 = .ok (.iload 5, 2) := by decide +kernel
theorem dJ6_getChars_ba4f3_115 : decode cJ6_getChars_ba4f3 115 = .ok (.bipush 45, 2) := by decide +kernel
theorem dJ6_getChars_ba4f3_117 : decode cJ6_getChars_ba4f3 117 = .ok (.bastore, 1) := by decide +kernel
theorem dJ6_getChars_ba4f3_118 : decode cJ6_getChars_ba4f3 118 = .ok (.iload 5, 2) := by decide +kernel
theorem dJ6_getChars_ba4f3_120 : decode cJ6_getChars_ba4f3 120 = .ok (.ireturn, 1) := by decide +kernel
theorem dJ6_stringSize_0f7a4_0 : decode cJ6_stringSize_0f7a4 0 = .ok (.iconst 1, 1) := by decide +kernel
theorem dJ6_stringSize_0f7a4_1 : decode cJ6_stringSize_0f7a4 1 = .ok (.istore_n 1, 1) := by decide +kernel
theorem dJ6_stringSize_0f7a4_2 : decode cJ6_stringSize_0f7a4 2 = .ok (.iload_n 0, 1) := by decide +kernel
theorem dJ6_stringSize_0f7a4_3 : decode cJ6_stringSize_0f7a4 3 = .ok (.ifCond .lt 8, 3) := by decide +kernel
theorem dJ6_stringSize_0f7a4_6 : decode cJ6_stringSize_0f7a4 6 = .ok (.iconst 0, 1) := by decide +kernel
theorem dJ6_stringSize_0f7a4_7 : decode cJ6_stringSize_0f7a4 7 = .ok (.istore_n 1, 1) := by decide +kernel
theorem dJ6_stringSize_0f7a4_8 : decode cJ6_stringSize_0f7a4 8 = .ok (.iload_n 0, 1) := by decide +kernel
theorem dJ6_stringSize_0f7a4_9 : decode cJ6_stringSize_0f7a4 9 = .ok (.ineg, 1) := by decide +kernel
theorem dJ6_stringSize_0f7a4_10 : decode cJ6_stringSize_0f7a4 10 = .ok (.istore_n 0, 1) := by decide +kernel
theorem dJ6_stringSize_0f7a4_11 : decode cJ6_stringSize_0f7a4 11 = .ok (.bipush (-10), 2) := by decide +kernel
theorem dJ6_stringSize_0f7a4_13 : decode cJ6_stringSize_0f7a4 13 = .ok (.istore_n 2, 1) := by decide +kernel
theorem dJ6_stringSize_0f7a4_14 : decode cJ6_stringSize_0f7a4 14 = .ok (.iconst 1, 1) := by decide +kernel
theorem dJ6_stringSize_0f7a4_15 : decode cJ6_stringSize_0f7a4 15 = .ok (.istore_n 3, 1) := by decide +kernel
theorem dJ6_stringSize_0f7a4_16 : decode cJ6_stringSize_0f7a4 16 = .ok (.iload_n 3, 1) := by decide +kernel
theorem dJ6_stringSize_0f7a4_17 : decode cJ6_stringSize_0f7a4 17 = .ok (.bipush 10, 2) := by decide +kernel
theorem dJ6_stringSize_0f7a4_19 : decode cJ6_stringSize_0f7a4 19 = .ok (.if_icmp .ge 23, 3) := by decide +kernel
theorem dJ6_stringSize_0f7a4_22 : decode cJ6_stringSize_0f7a4 22 = .ok (.iload_n 0, 1) := by decide +kernel
theorem dJ6_stringSize_0f7a4_23 : decode cJ6_stringSize_0f7a4 23 = .ok (.iload_n 2, 1) := by decide +kernel
theorem dJ6_stringSize_0f7a4_24 : decode cJ6_stringSize_0f7a4 24 = .ok (.if_icmp .le 7, 3) := by decide +kernel
theorem dJ6_stringSize_0f7a4_27 : decode cJ6_stringSize_0f7a4 27 = .ok (.iload_n 3, 1) := by decide +kernel
theorem dJ6_stringSize_0f7a4_28 : decode cJ6_stringSize_0f7a4 28 = .ok (.iload_n 1, 1) := by decide +kernel
theorem dJ6_stringSize_0f7a4_29 : decode cJ6_stringSize_0f7a4 29 = .ok (.iadd, 1) := by decide +kernel
theorem dJ6_stringSize_0f7a4_30 : decode cJ6_stringSize_0f7a4 30 = .ok (.ireturn, 1) := by decide +kernel
theorem dJ6_stringSize_0f7a4_31 : decode cJ6_stringSize_0f7a4 31 = .ok (.bipush 10, 2) := by decide +kernel
theorem dJ6_stringSize_0f7a4_33 : decode cJ6_stringSize_0f7a4 33 = .ok (.iload_n 2, 1) := by decide +kernel
theorem dJ6_stringSize_0f7a4_34 : decode cJ6_stringSize_0f7a4 34 = .ok (.imul, 1) := by decide +kernel
theorem dJ6_stringSize_0f7a4_35 : decode cJ6_stringSize_0f7a4 35 = .ok (.istore_n 2, 1) := by decide +kernel
theorem dJ6_stringSize_0f7a4_36 : decode cJ6_stringSize_0f7a4 36 = .ok (.iinc 3 1, 3) := by decide +kernel
theorem dJ6_stringSize_0f7a4_39 : decode cJ6_stringSize_0f7a4 39 = .ok (.goto (-23), 3) := by decide +kernel
theorem dJ6_stringSize_0f7a4_42 : decode cJ6_stringSize_0f7a4 42 = .ok (.bipush 10, 2) := by decide +kernel
theorem dJ6_stringSize_0f7a4_44 : decode cJ6_stringSize_0f7a4 44 = .ok (.iload_n 1, 1) := by decide +kernel
theorem dJ6_stringSize_0f7a4_45 : decode cJ6_stringSize_0f7a4 45 = .ok (.iadd, 1) := by decide +kernel
theorem dJ6_stringSize_0f7a4_46 : decode cJ6_stringSize_0f7a4 46 = .ok (.ireturn, 1) := by decide +kernel
theorem dJ6_bitCount_0f7a4_0 : decode cJ6_bitCount_0f7a4 0 = .ok (.iload_n 0, 1) := by decide +kernel
theorem dJ6_bitCount_0f7a4_1 : decode cJ6_bitCount_0f7a4 1 = .ok (.iload_n 0, 1) := by decide +kernel
theorem dJ6_bitCount_0f7a4_2 : decode cJ6_bitCount_0f7a4 2 = .ok (.iconst 1, 1) := by decide +kernel
theorem dJ6_bitCount_0f7a4_3 : decode cJ6_bitCount_0f7a4 3 = .ok (.iushr, 1) := by decide +kernel
theorem dJ6_bitCount_0f7a4_4 : decode cJ6_bitCount_0f7a4 4 = .ok (.ldc_w 265, 3) := by decide +kernel
theorem dJ6_bitCount_0f7a4_7 : decode cJ6_bitCount_0f7a4 7 = .ok (.iand, 1) := by decide +kernel
theorem dJ6_bitCount_0f7a4_8 : decode cJ6_bitCount_0f7a4 8 = .ok (.isub, 1) := by decide +kernel
theorem dJ6_bitCount_0f7a4_9 : decode cJ6_bitCount_0f7a4 9 = .ok (.istore_n 0, 1) := by decide +kernel
theorem dJ6_bitCount_0f7a4_10 : decode cJ6_bitCount_0f7a4 10 = .ok (.iload_n 0, 1) := by decide +kernel
theorem dJ6_bitCount_0f7a4_11 : decode cJ6_bitCount_0f7a4 11 = .ok (.ldc_w 266, 3) := by decide +kernel
theorem dJ6_bitCount_0f7a4_14 : decode cJ6_bitCount_0f7a4 14 = .ok (.iand, 1) := by decide +kernel
theorem dJ6_bitCount_0f7a4_15 : decode cJ6_bitCount_0f7a4 15 = .ok (.iload_n 0, 1) := by decide +kernel
theorem dJ6_bitCount_0f7a4_16 : decode cJ6_bitCount_0f7a4 16 = .ok (.iconst 2, 1) := by decide +kernel
theorem dJ6_bitCount_0f7a4_17 : decode cJ6_bitCount_0f7a4 17 = .ok (.iushr, 1) := by decide +kernel
theorem dJ6_bitCount_0f7a4_18 : decode cJ6_bitCount_0f7a4 18 = .ok (.ldc_w 266, 3) := by decide +kernel
theorem dJ6_bitCount_0f7a4_21 : decode cJ6_bitCount_0f7a4 21 = .ok (.iand, 1) := by decide +kernel
theorem dJ6_bitCount_0f7a4_22 : decode cJ6_bitCount_0f7a4 22 = .ok (.iadd, 1) := by decide +kernel
theorem dJ6_bitCount_0f7a4_23 : decode cJ6_bitCount_0f7a4 23 = .ok (.istore_n 0, 1) := by decide +kernel
theorem dJ6_bitCount_0f7a4_24 : decode cJ6_bitCount_0f7a4 24 = .ok (.iload_n 0, 1) := by decide +kernel
theorem dJ6_bitCount_0f7a4_25 : decode cJ6_bitCount_0f7a4 25 = .ok (.iload_n 0, 1) := by decide +kernel
theorem dJ6_bitCount_0f7a4_26 : decode cJ6_bitCount_0f7a4 26 = .ok (.iconst 4, 1) := by decide +kernel
theorem dJ6_bitCount_0f7a4_27 : decode cJ6_bitCount_0f7a4 27 = .ok (.iushr, 1) := by decide +kernel
theorem dJ6_bitCount_0f7a4_28 : decode cJ6_bitCount_0f7a4 28 = .ok (.iadd, 1) := by decide +kernel
theorem dJ6_bitCount_0f7a4_29 : decode cJ6_bitCount_0f7a4 29 = .ok (.ldc_w 267, 3) := by decide +kernel
theorem dJ6_bitCount_0f7a4_32 : decode cJ6_bitCount_0f7a4 32 = .ok (.iand, 1) := by decide +kernel
theorem dJ6_bitCount_0f7a4_33 : decode cJ6_bitCount_0f7a4 33 = .ok (.istore_n 0, 1) := by decide +kernel
theorem dJ6_bitCount_0f7a4_34 : decode cJ6_bitCount_0f7a4 34 = .ok (.iload_n 0, 1) := by decide +kernel
theorem dJ6_bitCount_0f7a4_35 : decode cJ6_bitCount_0f7a4 35 = .ok (.iload_n 0, 1) := by decide +kernel
theorem dJ6_bitCount_0f7a4_36 : decode cJ6_bitCount_0f7a4 36 = .ok (.bipush 8, 2) := by decide +kernel
theorem dJ6_bitCount_0f7a4_38 : decode cJ6_bitCount_0f7a4 38 = .ok (.iushr, 1) := by decide +kernel
theorem dJ6_bitCount_0f7a4_39 : decode cJ6_bitCount_0f7a4 39 = .ok (.iadd, 1) := by decide +kernel
theorem dJ6_bitCount_0f7a4_40 : decode cJ6_bitCount_0f7a4 40 = .ok (.istore_n 0, 1) := by decide +kernel
theorem dJ6_bitCount_0f7a4_41 : decode cJ6_bitCount_0f7a4 41 = .ok (.iload_n 0, 1) := by decide +kernel
theorem dJ6_bitCount_0f7a4_42 : decode cJ6_bitCount_0f7a4 42 = .ok (.iload_n 0, 1) := by decide +kernel
theorem dJ6_bitCount_0f7a4_43 : decode cJ6_bitCount_0f7a4 43 = .ok (.bipush 16, 2) := by decide +kernel
theorem dJ6_bitCount_0f7a4_45 : decode cJ6_bitCount_0f7a4 45 = .ok (.iushr, 1) := by decide +kernel
theorem dJ6_bitCount_0f7a4_46 : decode cJ6_bitCount_0f7a4 46 = .ok (.iadd, 1) := by decide +kernel
theorem dJ6_bitCount_0f7a4_47 : decode cJ6_bitCount_0f7a4 47 = .ok (.istore_n 0, 1) := by decide +kernel
theorem dJ6_bitCount_0f7a4_48 : decode cJ6_bitCount_0f7a4 48 = .ok (.iload_n 0, 1) := by decide +kernel
theorem dJ6_bitCount_0f7a4_49 : decode cJ6_bitCount_0f7a4 49 = .ok (.bipush 63, 2) := by decide +kernel
theorem dJ6_bitCount_0f7a4_51 : decode cJ6_bitCount_0f7a4 51 = .ok (.iand, 1) := by decide +kernel
theorem dJ6_bitCount_0f7a4_52 : decode cJ6_bitCount_0f7a4 52 = .ok (.ireturn, 1) := by decide +kernel
theorem dJ9_floorMod_7cf53_0 : decode cJ9_floorMod_7cf53 0 = .ok (.iload_n 0, 1) := by decide +kernel
theorem dJ9_floorMod_7cf53_1 : decode cJ9_floorMod_7cf53 1 = .ok (.iload_n 1, 1) := by decide +kernel
theorem dJ9_floorMod_7cf53_2 : decode cJ9_floorMod_7cf53 2 = .ok (.irem, 1) := by decide +kernel
theorem dJ9_floorMod_7cf53_3 : decode cJ9_floorMod_7cf53 3 = .ok (.istore_n 2, 1) := by decide +kernel
theorem dJ9_floorMod_7cf53_4 : decode cJ9_floorMod_7cf53 4 = .ok (.iload_n 0, 1) := by decide +kernel
theorem dJ9_floorMod_7cf53_5 : decode cJ9_floorMod_7cf53 5 = .ok (.iload_n 1, 1) := by decide +kernel
theorem dJ9_floorMod_7cf53_6 : decode cJ9_floorMod_7cf53 6 = .ok (.ixor, 1) := by decide +kernel
theorem dJ9_floorMod_7cf53_7 : decode cJ9_floorMod_7cf53 7 = .ok (.ifCond .ge 11, 3) := by decide +kernel
theorem dJ9_floorMod_7cf53_10 : decode cJ9_floorMod_7cf53 10 = .ok (.iload_n 2, 1) := by decide +kernel
theorem dJ9_floorMod_7cf53_11 : decode cJ9_floorMod_7cf53 11 = .ok (.ifCond .eq 7, 3) := by decide +kernel
theorem dJ9_floorMod_7cf53_14 : decode cJ9_floorMod_7cf53 14 = .ok (.iload_n 2, 1) := by decide +kernel
theorem dJ9_floorMod_7cf53_15 : decode cJ9_floorMod_7cf53 15 = .ok (.iload_n 1, 1) := by decide +kernel
theorem dJ9_floorMod_7cf53_16 : decode cJ9_floorMod_7cf53 16 = .ok (.iadd, 1) := by decide +kernel
theorem dJ9_floorMod_7cf53_17 : decode cJ9_floorMod_7cf53 17 = .ok (.ireturn, 1) := by decide +kernel
theorem dJ9_floorMod_7cf53_18 : decode cJ9_floorMod_7cf53 18 = .ok (.iload_n 2, 1) := by decide +kernel
theorem dJ9_floorMod_7cf53_19 : decode cJ9_floorMod_7cf53 19 = .ok (.ireturn, 1) := by decide +kernel
theorem dJ9_max_7cf53_0 : decode cJ9_max_7cf53 0 = .ok (.iload_n 0, 1) := by decide +kernel
theorem dJ9_max_7cf53_1 : decode cJ9_max_7cf53 1 = .ok (.iload_n 1, 1) := by decide +kernel
theorem dJ9_max_7cf53_2 : decode cJ9_max_7cf53 2 = .ok (.if_icmp .lt 7, 3) := by decide +kernel
theorem dJ9_max_7cf53_5 : decode cJ9_max_7cf53 5 = .ok (.iload_n 0, 1) := by decide +kernel
theorem dJ9_max_7cf53_6 : decode cJ9_max_7cf53 6 = .ok (.goto 4, 3) := by decide +kernel
theorem dJ9_max_7cf53_9 : decode cJ9_max_7cf53 9 = .ok (.iload_n 1, 1) := by decide +kernel
theorem dJ9_max_7cf53_10 : decode cJ9_max_7cf53 10 = .ok (.ireturn, 1) := by decide +kernel
theorem dJ9_min_7cf53_0 : decode cJ9_min_7cf53 0 = .ok (.iload_n 0, 1) := by decide +kernel
theorem dJ9_min_7cf53_1 : decode cJ9_min_7cf53 1 = .ok (.iload_n 1, 1) := by decide +kernel
theorem dJ9_min_7cf53_2 : decode cJ9_min_7cf53 2 = .ok (.if_icmp .gt 7, 3) := by decide +kernel
theorem dJ9_min_7cf53_5 : decode cJ9_min_7cf53 5 = .ok (.iload_n 0, 1) := by decide +kernel
theorem dJ9_min_7cf53_6 : decode cJ9_min_7cf53 6 = .ok (.goto 4, 3) := by decide +kernel
theorem dJ9_min_7cf53_9 : decode cJ9_min_7cf53 9 = .ok (.iload_n 1, 1) := by decide +kernel
theorem dJ9_min_7cf53_10 : decode cJ9_min_7cf53 10 = .ok (.ireturn, 1) := by decide +kernel
set_option maxRecDepth 20000 in
theorem ggJ0_length_8abf5_J0_coder_7d493 : GoodIn wsJ0_length_8abf5 wsJ0_coder_7d493 := goodIn_r _ [6, 7, 8] (by decide +kernel) (by decide +kernel)
set_option maxRecDepth 20000 in
theorem gJ0_length_8abf5_J0_coder_7d493 : GoodIn wsJ0_length_8abf5 (wsV RJ0 335 RJ0 yJ0_coder_7d493 wsJ0_coder_7d493) := goodIn_app (goodIn_of _ (by decide +kernel)) ggJ0_length_8abf5_J0_coder_7d493
theorem dJ0_length_8abf5_0 : decode cJ0_length_8abf5 0 = .ok (.aload_n 0, 1) := by decide +kernel
theorem dJ0_length_8abf5_1 : decode cJ0_length_8abf5 1 = .ok (.getfield 9, 3) := by decide +kernel
theorem dJ0_length_8abf5_4 : decode cJ0_length_8abf5 4 = .ok (.arraylength, 1) := by decide +kernel
theorem dJ0_length_8abf5_5 : decode cJ0_length_8abf5 5 = .ok (.aload_n 0, 1) := by decide +kernel
theorem dJ0_length_8abf5_6 : decode cJ0_length_8abf5 6 = .ok (.invokevirtual 335, 3) := by decide +kernel
theorem dJ0_length_8abf5_9 : decode cJ0_length_8abf5 9 = .ok (.ishr, 1) := by decide +kernel
theorem dJ0_length_8abf5_10 : decode cJ0_length_8abf5 10 = .ok (.ireturn, 1) := by decide +kernel
set_option maxRecDepth 20000 in
theorem ggJ0_getBytes_840e7_J0_coder_7d493 : GoodIn wsJ0_getBytes_840e7 wsJ0_coder_7d493 := goodIn_r _ [10, 11, 12] (by decide +kernel) (by decide +kernel)
set_option maxRecDepth 20000 in
theorem gJ0_getBytes_840e7_J0_coder_7d493 : GoodIn wsJ0_getBytes_840e7 (wsV RJ0 335 RJ0 yJ0_coder_7d493 wsJ0_coder_7d493) := goodIn_app (goodIn_of _ (by decide +kernel)) ggJ0_getBytes_840e7_J0_coder_7d493
set_option maxRecDepth 20000 in
theorem ggJ0_getBytes_840e7_J1_inflate_0e8fd : GoodIn wsJ0_getBytes_840e7 wsJ1_inflate_0e8fd := goodIn_r _ [16, 17, 18, 19, 20, 21, 22, 23, 24, 25, 26, 27, 28, 9, 29, 30, 31, 32, 33, 34, 35, 36, 37, 38, 39, 40] (by decide +kernel) (by decide +kernel)
set_option maxRecDepth 20000 in
theorem gJ0_getBytes_840e7_J1_inflate_0e8fd : GoodIn wsJ0_getBytes_840e7 (va_wsS RJ0 106 yJ1_inflate_0e8fd wsJ1_inflate_0e8fd) := goodIn_app (goodIn_of _ (by decide +kernel)) ggJ0_getBytes_840e7_J1_inflate_0e8fd
theorem dJ0_getBytes_840e7_0 : decode cJ0_getBytes_840e7 0 = .ok (.aload_n 0, 1) := by decide +kernel
theorem dJ0_getBytes_840e7_1 : decode cJ0_getBytes_840e7 1 = .ok (.invokevirtual 335, 3) := by decide +kernel
theorem dJ0_getBytes_840e7_4 : decode cJ0_getBytes_840e7 4 = .ok (.iload_n 3, 1) := by decide +kernel
theorem dJ0_getBytes_840e7_5 : decode cJ0_getBytes_840e7 5 = .ok (.if_icmp .ne 23, 3) := by decide +kernel
theorem dJ0_getBytes_840e7_8 : decode cJ0_getBytes_840e7 8 = .ok (.aload_n 0, 1) := by decide +kernel
theorem dJ0_getBytes_840e7_9 : decode cJ0_getBytes_840e7 9 = .ok (.getfield 9, 3) := by decide +kernel
theorem dJ0_getBytes_840e7_12 : decode cJ0_getBytes_840e7 12 = .ok (.iconst 0, 1) := by decide +kernel
theorem dJ0_getBytes_840e7_13 : decode cJ0_getBytes_840e7 13 = .ok (.aload_n 1, 1) := by decide +kernel
theorem dJ0_getBytes_840e7_14 : decode cJ0_getBytes_840e7 14 = .ok (.iload_n 2, 1) := by decide +kernel
theorem dJ0_getBytes_840e7_15 : decode cJ0_getBytes_840e7 15 = .ok (.iload_n 3, 1) := by decide +kernel
theorem dJ0_getBytes_840e7_16 : decode cJ0_getBytes_840e7 16 = .ok (.ishl, 1) := by decide +kernel
theorem dJ0_getBytes_840e7_17 : decode cJ0_getBytes_840e7 17 = .ok (.aload_n 0, 1) := by decide +kernel
theorem dJ0_getBytes_840e7_18 : decode cJ0_getBytes_840e7 18 = .ok (.getfield 9, 3) := by decide +kernel
theorem dJ0_getBytes_840e7_21 : decode cJ0_getBytes_840e7 21 = .ok (.arraylength, 1) := by decide +kernel
theorem dJ0_getBytes_840e7_22 : decode cJ0_getBytes_840e7 22 = .ok (.invokestatic 212, 3) := by decide +kernel
theorem dJ0_getBytes_840e7_25 : decode cJ0_getBytes_840e7 25 = .ok (.goto 18, 3) := by decide +kernel
theorem dJ0_getBytes_840e7_28 : decode cJ0_getBytes_840e7 28 = .ok (.aload_n 0, 1) := by decide +kernel
theorem dJ0_getBytes_840e7_29 : decode cJ0_getBytes_840e7 29 = .ok (.getfield 9, 3) := by decide +kernel
theorem dJ0_getBytes_840e7_32 : decode cJ0_getBytes_840e7 32 = .ok (.iconst 0, 1) := by decide +kernel
theorem dJ0_getBytes_840e7_33 : decode cJ0_getBytes_840e7 33 = .ok (.aload_n 1, 1) := by decide +kernel
theorem dJ0_getBytes_840e7_34 : decode cJ0_getBytes_840e7 34 = .ok (.iload_n 2, 1) := by decide +kernel
theorem dJ0_getBytes_840e7_35 : decode cJ0_getBytes_840e7 35 = .ok (.aload_n 0, 1) := by decide +kernel
theorem dJ0_getBytes_840e7_36 : decode cJ0_getBytes_840e7 36 = .ok (.getfield 9, 3) := by decide +kernel
theorem dJ0_getBytes_840e7_39 : decode cJ0_getBytes_840e7 39 = .ok (.arraylength, 1) := by decide +kernel
theorem dJ0_getBytes_840e7_40 : decode cJ0_getBytes_840e7 40 = .ok (.invokestatic 106, 3) := by decide +kernel
theorem dJ0_getBytes_840e7_43 : decode cJ0_getBytes_840e7 43 = .ok (.return_, 1) := by decide +kernel
theorem dJ0_coder_7d493_0 : decode cJ0_coder_7d493 0 = .ok (.getstatic 38, 3) := by decide +kernel
theorem dJ0_coder_7d493_3 : decode cJ0_coder_7d493 3 = .ok (.ifCond .eq 10, 3) := by decide +kernel
theorem dJ0_coder_7d493_6 : decode cJ0_coder_7d493 6 = .ok (.aload_n 0, 1) := by decide +kernel
theorem dJ0_coder_7d493_7 : decode cJ0_coder_7d493 7 = .ok (.getfield 15, 3) := by decide +kernel
theorem dJ0_coder_7d493_10 : decode cJ0_coder_7d493 10 = .ok (.goto 4, 3) := by decide +kernel
theorem dJ0_coder_7d493_13 : decode cJ0_coder_7d493 13 = .ok (.iconst 1, 1) := by decide +kernel
theorem dJ0_coder_7d493_14 : decode cJ0_coder_7d493 14 = .ok (.ireturn, 1) := by decide +kernel
set_option maxRecDepth 20000 in
theorem ggJ0_checkIndex_df160_J3_checkIndex_8e157 : GoodIn wsJ0_checkIndex_df160 wsJ3_checkIndex_8e157 := goodIn_r _ [5] (by decide +kernel) (by decide +kernel)
set_option maxRecDepth 20000 in
theorem gJ0_checkIndex_df160_J3_checkIndex_8e157 : GoodIn wsJ0_checkIndex_df160 (va_wsS RJ0 1059 yJ3_checkIndex_8e157 wsJ3_checkIndex_8e157) := goodIn_app (goodIn_of _ (by decide +kernel)) ggJ0_checkIndex_df160_J3_checkIndex_8e157
theorem dJ0_checkIndex_df160_0 : decode cJ0_checkIndex_df160 0 = .ok (.iload_n 0, 1) := by decide +kernel
theorem dJ0_checkIndex_df160_1 : decode cJ0_checkIndex_df160 1 = .ok (.iload_n 1, 1) := by decide +kernel
theorem dJ0_checkIndex_df160_2 : decode cJ0_checkIndex_df160 2 = .ok (.getstatic 1053, 3) := by decide +kernel
theorem dJ0_checkIndex_df160_5 : decode cJ0_checkIndex_df160 5 = .ok (.invokestatic 1059, 3) := by decide +kernel
theorem dJ0_checkIndex_df160_8 : decode cJ0_checkIndex_df160 8 = .ok (.pop, 1) := by decide +kernel
theorem dJ0_checkIndex_df160_9 : decode cJ0_checkIndex_df160 9 = .ok (.return_, 1) := by decide +kernel
set_option maxRecDepth 20000 in
theorem ggJ0_checkBoundsOffCount_cabcc_J3_checkFromIndexSize_8c36e : GoodIn wsJ0_checkBoundsOffCount_cabcc wsJ3_checkFromIndexSize_8c36e := goodIn_r _ [5] (by decide +kernel) (by decide +kernel)
set_option maxRecDepth 20000 in
theorem gJ0_checkBoundsOffCount_cabcc_J3_checkFromIndexSize_8c36e : GoodIn wsJ0_checkBoundsOffCount_cabcc (va_wsS RJ0 1065 yJ3_checkFromIndexSize_8c36e wsJ3_checkFromIndexSize_8c36e) := goodIn_app (goodIn_of _ (by decide +kernel)) ggJ0_checkBoundsOffCount_cabcc_J3_checkFromIndexSize_8c36e
theorem dJ0_checkBoundsOffCount_cabcc_0 : decode cJ0_checkBoundsOffCount_cabcc 0 = .ok (.iload_n 0, 1) := by decide +kernel
theorem dJ0_checkBoundsOffCount_cabcc_1 : decode cJ0_checkBoundsOffCount_cabcc 1 = .ok (.iload_n 1, 1) := by decide +kernel
theorem dJ0_checkBoundsOffCount_cabcc_2 : decode cJ0_checkBoundsOffCount_cabcc 2 = .ok (.iload_n 2, 1) := by decide +kernel
theorem dJ0_checkBoundsOffCount_cabcc_3 : decode cJ0_checkBoundsOffCount_cabcc 3 = .ok (.getstatic 1053, 3) := by decide +kernel
theorem dJ0_checkBoundsOffCount_cabcc_6 : decode cJ0_checkBoundsOffCount_cabcc 6 = .ok (.invokestatic 1065, 3) := by decide +kernel
theorem dJ0_checkBoundsOffCount_cabcc_9 : decode cJ0_checkBoundsOffCount_cabcc 9 = .ok (.ireturn, 1) := by decide +kernel
set_option maxRecDepth 20000 in
theorem ggJ0_checkBoundsBeginEnd_23922_J3_checkFromToIndex_8c36e : GoodIn wsJ0_checkBoundsBeginEnd_23922 wsJ3_checkFromToIndex_8c36e := goodIn_r _ [5] (by decide +kernel) (by decide +kernel)
set_option maxRecDepth 20000 in
theorem gJ0_checkBoundsBeginEnd_23922_J3_checkFromToIndex_8c36e : GoodIn wsJ0_checkBoundsBeginEnd_23922 (va_wsS RJ0 1062 yJ3_checkFromToIndex_8c36e wsJ3_checkFromToIndex_8c36e) := goodIn_app (goodIn_of _ (by decide +kernel)) ggJ0_checkBoundsBeginEnd_23922_J3_checkFromToIndex_8c36e
theorem dJ0_checkBoundsBeginEnd_23922_0 : decode cJ0_checkBoundsBeginEnd_23922 0 = .ok (.iload_n 0, 1) := by decide +kernel
theorem dJ0_checkBoundsBeginEnd_23922_1 : decode cJ0_checkBoundsBeginEnd_23922 1 = .ok (.iload_n 1, 1) := by decide +kernel
theorem dJ0_checkBoundsBeginEnd_23922_2 : decode cJ0_checkBoundsBeginEnd_23922 2 = .ok (.iload_n 2, 1) := by decide +kernel
theorem dJ0_checkBoundsBeginEnd_23922_3 : decode cJ0_checkBoundsBeginEnd_23922 3 = .ok (.getstatic 1053, 3) := by decide +kernel
theorem dJ0_checkBoundsBeginEnd_23922_6 : decode cJ0_checkBoundsBeginEnd_23922 6 = .ok (.invokestatic 1062, 3) := by decide +kernel
theorem dJ0_checkBoundsBeginEnd_23922_9 : decode cJ0_checkBoundsBeginEnd_23922 9 = .ok (.pop, 1) := by decide +kernel
theorem dJ0_checkBoundsBeginEnd_23922_10 : decode cJ0_checkBoundsBeginEnd_23922 10 = .ok (.return_, 1) := by decide +kernel
set_option maxRecDepth 20000 in
theorem ggJ4_init_da8c8_J5_init_d00df : GoodIn wsJ4_init_da8c8 wsJ5_init_d00df := goodIn_r _ [4, 5, 6, 7, 8, 9, 10, 11, 12, 13, 14, 15, 16, 17, 18, 19, 20, 21, 22, 23] (by decide +kernel) (by decide +kernel)
set_option maxRecDepth 20000 in
theorem gJ4_init_da8c8_J5_init_d00df : GoodIn wsJ4_init_da8c8 (wsJ5_init_d00df) := ggJ4_init_da8c8_J5_init_d00df
theorem dJ4_init_da8c8_0 : decode cJ4_init_da8c8 0 = .ok (.aload_n 0, 1) := by decide +kernel
theorem dJ4_init_da8c8_1 : decode cJ4_init_da8c8 1 = .ok (.bipush 16, 2) := by decide +kernel
theorem dJ4_init_da8c8_3 : decode cJ4_init_da8c8 3 = .ok (.invokespecial 1, 3) := by decide +kernel
theorem dJ4_init_da8c8_6 : decode cJ4_init_da8c8 6 = .ok (.return_, 1) := by decide +kernel
set_option maxRecDepth 20000 in
theorem ggJ4_append_15ec4_J5_append_cf1ce : GoodIn wsJ4_append_15ec4 wsJ5_append_cf1ce := goodIn_r _ [6, 7, 8, 9, 10, 11, 5, 12, 13, 14, 15, 16, 17, 18, 19, 20, 21, 22, 23, 24, 25, 26, 27, 28, 29, 30, 31, 32, 33, 34, 35, 36, 37, 38, 39, 40, 41, 42, 43, 44, 45, 46, 47, 48, 49, 50, 51, 52, 53, 54, 55, 56, 57, 58, 59, 60, 61, 62, 63, 64, 65, 66, 67, 68, 69, 70, 71, 72, 73, 74, 75, 76, 77, 78, 79, 80, 81, 82, 83, 84, 85, 86, 87, 88, 89, 90, 91, 92, 93, 94, 95, 96, 97, 98, 99, 100, 101, 102, 103, 104, 105, 106, 107, 108, 109, 110, 111, 112, 113, 114, 115, 116, 117, 118, 119, 120, 121, 122, 123, 124, 125, 126, 127, 128, 129, 130, 131, 132, 133, 134, 135, 136, 137, 138, 139, 140, 141, 142, 143, 144, 145, 146] (by decide +kernel) (by decide +kernel)
set_option maxRecDepth 20000 in
theorem gJ4_append_15ec4_J5_append_cf1ce_s29 : GoodIn wsJ4_append_15ec4 (va_wsSU RJ4 29 yJ5_append_cf1ce wsJ5_append_cf1ce) := goodIn_app (goodIn_of _ (by decide +kernel)) ggJ4_append_15ec4_J5_append_cf1ce
theorem dJ4_append_15ec4_0 : decode cJ4_append_15ec4 0 = .ok (.aload_n 0, 1) := by decide +kernel
theorem dJ4_append_15ec4_1 : decode cJ4_append_15ec4 1 = .ok (.aload_n 1, 1) := by decide +kernel
theorem dJ4_append_15ec4_2 : decode cJ4_append_15ec4 2 = .ok (.invokespecial 29, 3) := by decide +kernel
theorem dJ4_append_15ec4_5 : decode cJ4_append_15ec4 5 = .ok (.pop, 1) := by decide +kernel
theorem dJ4_append_15ec4_6 : decode cJ4_append_15ec4 6 = .ok (.aload_n 0, 1) := by decide +kernel
theorem dJ4_append_15ec4_7 : decode cJ4_append_15ec4 7 = .ok (.areturn, 1) := by decide +kernel
set_option maxRecDepth 20000 in
theorem ggJ4_append_cf468_J5_append_3fe6f : GoodIn wsJ4_append_cf468 wsJ5_append_3fe6f := goodIn_r _ [6, 7, 8, 9, 10, 11, 12, 5, 13, 14, 15, 16, 17, 18, 19, 20, 21, 22, 23, 24, 25, 26, 27, 28, 29, 30, 31, 32, 33, 34, 35, 36, 37, 38, 39, 40, 41, 42, 43, 44, 45, 46, 47, 48, 49, 50, 51, 52, 53, 54, 55, 56, 57, 58, 59, 60, 61, 62, 63, 64, 65, 66, 67, 68, 69, 70, 71, 72, 73, 74, 75, 76, 77, 78, 79, 80, 81, 82, 83, 84, 85, 86, 87, 88, 89, 90, 91, 92, 93, 94, 95, 96, 97, 98, 99, 100, 101, 102, 103, 104, 105, 106, 107, 108, 109, 110, 111, 112, 113, 114, 115, 116] (by decide +kernel) (by decide +kernel)
set_option maxRecDepth 20000 in
theorem gJ4_append_cf468_J5_append_3fe6f_s50 : GoodIn wsJ4_append_cf468 (va_wsSU RJ4 50 yJ5_append_3fe6f wsJ5_append_3fe6f) := goodIn_app (goodIn_of _ (by decide +kernel)) ggJ4_append_cf468_J5_append_3fe6f
theorem dJ4_append_cf468_0 : decode cJ4_append_cf468 0 = .ok (.aload_n 0, 1) := by decide +kernel
theorem dJ4_append_cf468_1 : decode cJ4_append_cf468 1 = .ok (.iload_n 1, 1) := by decide +kernel
theorem dJ4_append_cf468_2 : decode cJ4_append_cf468 2 = .ok (.invokespecial 50, 3) := by decide +kernel
theorem dJ4_append_cf468_5 : decode cJ4_append_cf468 5 = .ok (.pop, 1) := by decide +kernel
theorem dJ4_append_cf468_6 : decode cJ4_append_cf468 6 = .ok (.aload_n 0, 1) := by decide +kernel
theorem dJ4_append_cf468_7 : decode cJ4_append_cf468 7 = .ok (.areturn, 1) := by decide +kernel
set_option maxRecDepth 20000 in
theorem ggJ4_append_bf812_J5_append_c97b9 : GoodIn wsJ4_append_bf812 wsJ5_append_c97b9 := goodIn_r _ [6, 7, 8, 9, 10, 11, 12, 13, 14, 15, 16, 5, 17, 18, 19, 20, 21, 22, 23, 24, 25, 26, 27, 28, 29, 30, 31, 32, 33, 34, 35, 36, 37, 38, 39, 40, 41, 42, 43, 44, 45, 46, 47, 48, 49, 50, 51, 52, 53, 54, 55, 56, 57, 58, 59, 60, 61, 62, 63, 64, 65, 66, 67, 68, 69, 70, 71, 72, 73, 74, 75, 76, 77, 78, 79, 80, 81, 82, 83, 84, 85, 86, 87, 88, 89, 90, 91, 92, 93, 94, 95, 96, 97, 98, 99] (by decide +kernel) (by decide +kernel)
set_option maxRecDepth 20000 in
theorem gJ4_append_bf812_J5_append_c97b9_s53 : GoodIn wsJ4_append_bf812 (va_wsSU RJ4 53 yJ5_append_c97b9 wsJ5_append_c97b9) := goodIn_app (goodIn_of _ (by decide +kernel)) ggJ4_append_bf812_J5_append_c97b9
theorem dJ4_append_bf812_0 : decode cJ4_append_bf812 0 = .ok (.aload_n 0, 1) := by decide +kernel
theorem dJ4_append_bf812_1 : decode cJ4_append_bf812 1 = .ok (.iload_n 1, 1) := by decide +kernel
theorem dJ4_append_bf812_2 : decode cJ4_append_bf812 2 = .ok (.invokespecial 53, 3) := by decide +kernel
theorem dJ4_append_bf812_5 : decode cJ4_append_bf812 5 = .ok (.pop, 1) := by decide +kernel
theorem dJ4_append_bf812_6 : decode cJ4_append_bf812 6 = .ok (.aload_n 0, 1) := by decide +kernel
theorem dJ4_append_bf812_7 : decode cJ4_append_bf812 7 = .ok (.areturn, 1) := by decide +kernel
set_option maxRecDepth 20000 in
theorem ggJ4_charAt_5068e_J5_charAt_5068e : GoodIn wsJ4_charAt_5068e wsJ5_charAt_5068e := goodIn_r _ [6, 7, 8, 9, 10, 11, 12, 13, 14, 15, 16, 17, 18, 19, 20, 21, 22, 23, 24, 25, 26, 27, 28, 29, 30, 31, 32, 33, 34, 35, 36] (by decide +kernel) (by decide +kernel)
set_option maxRecDepth 20000 in
theorem gJ4_charAt_5068e_J5_charAt_5068e_s329 : GoodIn wsJ4_charAt_5068e (va_wsSU RJ4 329 yJ5_charAt_5068e wsJ5_charAt_5068e) := goodIn_app (goodIn_of _ (by decide +kernel)) ggJ4_charAt_5068e_J5_charAt_5068e
theorem dJ4_charAt_5068e_0 : decode cJ4_charAt_5068e 0 = .ok (.aload_n 0, 1) := by decide +kernel
theorem dJ4_charAt_5068e_1 : decode cJ4_charAt_5068e 1 = .ok (.iload_n 1, 1) := by decide +kernel
theorem dJ4_charAt_5068e_2 : decode cJ4_charAt_5068e 2 = .ok (.invokespecial 329, 3) := by decide +kernel
theorem dJ4_charAt_5068e_5 : decode cJ4_charAt_5068e 5 = .ok (.ireturn, 1) := by decide +kernel
set_option maxRecDepth 20000 in
theorem ggJ4_length_8abf5_J5_length_8abf5 : GoodIn wsJ4_length_8abf5 wsJ5_length_8abf5 := goodIn_r _ [6, 7, 8, 9, 10, 11] (by decide +kernel) (by decide +kernel)
set_option maxRecDepth 20000 in
theorem gJ4_length_8abf5_J5_length_8abf5_s343 : GoodIn wsJ4_length_8abf5 (va_wsSU RJ4 343 yJ5_length_8abf5 wsJ5_length_8abf5) := goodIn_app (goodIn_of _ (by decide +kernel)) ggJ4_length_8abf5_J5_length_8abf5
theorem dJ4_length_8abf5_0 : decode cJ4_length_8abf5 0 = .ok (.aload_n 0, 1) := by decide +kernel
theorem dJ4_length_8abf5_1 : decode cJ4_length_8abf5 1 = .ok (.invokespecial 343, 3) := by decide +kernel
theorem dJ4_length_8abf5_4 : decode cJ4_length_8abf5 4 = .ok (.ireturn, 1) := by decide +kernel
theorem dJ1_canEncode_fc78d_0 : decode cJ1_canEncode_fc78d 0 = .ok (.iload_n 0, 1) := by decide +kernel
theorem dJ1_canEncode_fc78d_1 : decode cJ1_canEncode_fc78d 1 = .ok (.sipush 255, 3) := by decide +kernel
theorem dJ1_canEncode_fc78d_4 : decode cJ1_canEncode_fc78d 4 = .ok (.if_icmp .gt 7, 3) := by decide +kernel
theorem dJ1_canEncode_fc78d_7 : decode cJ1_canEncode_fc78d 7 = .ok (.iconst 1, 1) := by decide +kernel
theorem dJ1_canEncode_fc78d_8 : decode cJ1_canEncode_fc78d 8 = .ok (.goto 4, 3) := by decide +kernel
theorem dJ1_canEncode_fc78d_11 : decode cJ1_canEncode_fc78d 11 = .ok (.iconst 0, 1) := by decide +kernel
theorem dJ1_canEncode_fc78d_12 : decode cJ1_canEncode_fc78d 12 = .ok (.ireturn, 1) := by decide +kernel
set_option maxRecDepth 20000 in
theorem ggJ1_inflate_0e8fd_J2_inflate_0e8fd : GoodIn wsJ1_inflate_0e8fd wsJ2_inflate_0e8fd := goodIn_r _ [4, 5, 6, 3, 7, 8, 9, 10, 11, 12, 13, 14, 15, 16, 17, 18, 19, 20, 21, 22, 23, 24, 25] (by decide +kernel) (by decide +kernel)
set_option maxRecDepth 20000 in
theorem gJ1_inflate_0e8fd_J2_inflate_0e8fd : GoodIn wsJ1_inflate_0e8fd (va_wsS RJ1 240 yJ2_inflate_0e8fd wsJ2_inflate_0e8fd) := goodIn_app (goodIn_of _ (by decide +kernel)) ggJ1_inflate_0e8fd_J2_inflate_0e8fd
theorem dJ1_inflate_0e8fd_0 : decode cJ1_inflate_0e8fd 0 = .ok (.aload_n 0, 1) := by decide +kernel
theorem dJ1_inflate_0e8fd_1 : decode cJ1_inflate_0e8fd 1 = .ok (.iload_n 1, 1) := by decide +kernel
theorem dJ1_inflate_0e8fd_2 : decode cJ1_inflate_0e8fd 2 = .ok (.aload_n 2, 1) := by decide +kernel
theorem dJ1_inflate_0e8fd_3 : decode cJ1_inflate_0e8fd 3 = .ok (.iload_n 3, 1) := by decide +kernel
theorem dJ1_inflate_0e8fd_4 : decode cJ1_inflate_0e8fd 4 = .ok (.iload 4, 2) := by decide +kernel
theorem dJ1_inflate_0e8fd_6 : decode cJ1_inflate_0e8fd 6 = .ok (.invokestatic 240, 3) := by decide +kernel
theorem dJ1_inflate_0e8fd_9 : decode cJ1_inflate_0e8fd 9 = .ok (.return_, 1) := by decide +kernel
set_option maxRecDepth 20000 in
theorem ggJ2_newBytesFor_77867_J2_newBytesLength_0f7a4 : GoodIn wsJ2_newBytesFor_77867 wsJ2_newBytesLength_0f7a4 := goodIn_r _ [5, 6] (by decide +kernel) (by decide +kernel)
set_option maxRecDepth 20000 in
theorem gJ2_newBytesFor_77867_J2_newBytesLength_0f7a4 : GoodIn wsJ2_newBytesFor_77867 (va_wsS RJ2 11 yJ2_newBytesLength_0f7a4 wsJ2_newBytesLength_0f7a4) := goodIn_app (goodIn_of _ (by decide +kernel)) ggJ2_newBytesFor_77867_J2_newBytesLength_0f7a4
theorem dJ2_newBytesFor_77867_0 : decode cJ2_newBytesFor_77867 0 = .ok (.iload_n 0, 1) := by decide +kernel
theorem dJ2_newBytesFor_77867_1 : decode cJ2_newBytesFor_77867 1 = .ok (.invokestatic 11, 3) := by decide +kernel
theorem dJ2_newBytesFor_77867_4 : decode cJ2_newBytesFor_77867 4 = .ok (.newarray .byte, 2) := by decide +kernel
theorem dJ2_newBytesFor_77867_6 : decode cJ2_newBytesFor_77867 6 = .ok (.areturn, 1) := by decide +kernel
theorem dJ2_newBytesLength_0f7a4_0 : decode cJ2_newBytesLength_0f7a4 0 = .ok (.iload_n 0, 1) := by decide +kernel
theorem dJ2_newBytesLength_0f7a4_1 : decode cJ2_newBytesLength_0f7a4 1 = .ok (.ifCond .ge 11, 3) := by decide +kernel
theorem dJ2_newBytesLength_0f7a4_4 : decode cJ2_newBytesLength_0f7a4 4 = .ok (.new 17, 3) := by decide +kernel
theorem dJ2_newBytesLength_0f7a4_7 : decode cJ2_newBytesLength_0f7a4 7 = .ok (.dup, 1) := by decide +kernel
theorem dJ2_newBytesLength_0f7a4_8 : decode cJ2_newBytesLength_0f7a4 8 = .ok (.invokespecial 19, 3) := by decide +kernel
theorem dJ2_newBytesLength_0f7a4_11 : decode cJ2_newBytesLength_0f7a4 11 = .ok (.athrow, 1) := by decide +kernel
theorem dJ2_newBytesLength_0f7a4_12 : decode cJ2_newBytesLength_0f7a4 12 = .ok (.iload_n 0, 1) := by decide +kernel
theorem dJ2_newBytesLength_0f7a4_13 : decode cJ2_newBytesLength_0f7a4 13 = .ok (.ldc 20, 2) := by decide +kernel
theorem dJ2_newBytesLength_0f7a4_15 : decode cJ2_newBytesLength_0f7a4 15 = .ok (.if_icmp .lt 40, 3) := by decide +kernel
theorem dJ2_newBytesLength_0f7a4_18 : decode cJ2_newBytesLength_0f7a4 18 = .ok (.new 21, 3) := by decide +kernel
theorem dJ2_newBytesLength_0f7a4_21 : decode cJ2_newBytesLength_0f7a4 21 = .ok (.dup, 1) := by decide +kernel
theorem dJ2_newBytesLength_0f7a4_22 : decode cJ2_newBytesLength_0f7a4 22 = .ok (.new 23, 3) := by decide +kernel
theorem dJ2_newBytesLength_0f7a4_25 : decode cJ2_newBytesLength_0f7a4 25 = .ok (.dup, 1) := by decide +kernel
theorem dJ2_newBytesLength_0f7a4_26 : decode cJ2_newBytesLength_0f7a4 26 = .ok (.invokespecial 25, 3) := by decide +kernel
theorem dJ2_newBytesLength_0f7a4_29 : decode cJ2_newBytesLength_0f7a4 29 = .ok (.ldc 26, 2) := by decide +kernel
theorem dJ2_newBytesLength_0f7a4_31 : decode cJ2_newBytesLength_0f7a4 31 = .ok (.invokevirtual 28, 3) := by decide +kernel
theorem dJ2_newBytesLength_0f7a4_34 : decode cJ2_newBytesLength_0f7a4 34 = .ok (.iload_n 0, 1) := by decide +kernel
theorem dJ2_newBytesLength_0f7a4_35 : decode cJ2_newBytesLength_0f7a4 35 = .ok (.invokevirtual 32, 3) := by decide +kernel
theorem dJ2_newBytesLength_0f7a4_38 : decode cJ2_newBytesLength_0f7a4 38 = .ok (.ldc 35, 2) := by decide +kernel
theorem dJ2_newBytesLength_0f7a4_40 : decode cJ2_newBytesLength_0f7a4 40 = .ok (.invokevirtual 28, 3) := by decide +kernel
theorem dJ2_newBytesLength_0f7a4_43 : decode cJ2_newBytesLength_0f7a4 43 = .ok (.ldc 20, 2) := by decide +kernel
theorem dJ2_newBytesLength_0f7a4_45 : decode cJ2_newBytesLength_0f7a4 45 = .ok (.invokevirtual 32, 3) := by decide +kernel
theorem dJ2_newBytesLength_0f7a4_48 : decode cJ2_newBytesLength_0f7a4 48 = .ok (.invokevirtual 37, 3) := by decide +kernel
theorem dJ2_newBytesLength_0f7a4_51 : decode cJ2_newBytesLength_0f7a4 51 = .ok (.invokespecial 41, 3) := by decide +kernel
theorem dJ2_newBytesLength_0f7a4_54 : decode cJ2_newBytesLength_0f7a4 54 = .ok (.athrow, 1) := by decide +kernel
theorem dJ2_newBytesLength_0f7a4_55 : decode cJ2_newBytesLength_0f7a4 55 = .ok (.iload_n 0, 1) := by decide +kernel
theorem dJ2_newBytesLength_0f7a4_56 : decode cJ2_newBytesLength_0f7a4 56 = .ok (.iconst 1, 1) := by decide +kernel
theorem dJ2_newBytesLength_0f7a4_57 : decode cJ2_newBytesLength_0f7a4 57 = .ok (.ishl, 1) := by decide +kernel
