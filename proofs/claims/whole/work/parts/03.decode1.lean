theorem dX5_cordsOut_13 : decode cX5_cordsOut 13 = .ok (.getfield 11, 3) := by decide +kernel
theorem dX5_cordsOut_16 : decode cX5_cordsOut 16 = .ok (.iload_n 2, 1) := by decide +kernel
theorem dX5_cordsOut_17 : decode cX5_cordsOut 17 = .ok (.aaload, 1) := by decide +kernel
theorem dX5_cordsOut_18 : decode cX5_cordsOut 18 = .ok (.invokevirtual 87, 3) := by decide +kernel
theorem dX5_cordsOut_21 : decode cX5_cordsOut 21 = .ok (.ifCond .eq 9, 3) := by decide +kernel
theorem dX5_cordsOut_24 : decode cX5_cordsOut 24 = .ok (.iload_n 1, 1) := by decide +kernel
theorem dX5_cordsOut_25 : decode cX5_cordsOut 25 = .ok (.iconst 1, 1) := by decide +kernel
theorem dX5_cordsOut_26 : decode cX5_cordsOut 26 = .ok (.iload_n 2, 1) := by decide +kernel
theorem dX5_cordsOut_27 : decode cX5_cordsOut 27 = .ok (.ishl, 1) := by decide +kernel
theorem dX5_cordsOut_28 : decode cX5_cordsOut 28 = .ok (.ior, 1) := by decide +kernel
theorem dX5_cordsOut_29 : decode cX5_cordsOut 29 = .ok (.istore_n 1, 1) := by decide +kernel
theorem dX5_cordsOut_30 : decode cX5_cordsOut 30 = .ok (.iinc 2 1, 3) := by decide +kernel
theorem dX5_cordsOut_33 : decode cX5_cordsOut 33 = .ok (.goto (-29), 3) := by decide +kernel
theorem dX5_cordsOut_36 : decode cX5_cordsOut 36 = .ok (.iload_n 1, 1) := by decide +kernel
theorem dX5_cordsOut_37 : decode cX5_cordsOut 37 = .ok (.ireturn, 1) := by decide +kernel
set_option maxRecDepth 20000 in
theorem ggX5_lightEnd_X1_setFlame : GoodIn wsX5_lightEnd wsX1_setFlame := goodIn_r _ [9, 10, 11, 33, 34, 35, 36, 37, 38, 39, 40] (by decide +kernel) (by decide +kernel)
set_option maxRecDepth 20000 in
theorem gX5_lightEnd_X1_setFlame : GoodIn wsX5_lightEnd (wsV RX5 91 RX1 yX1_setFlame wsX1_setFlame) := goodIn_app (goodIn_of _ (by decide +kernel)) ggX5_lightEnd_X1_setFlame
set_option maxRecDepth 20000 in
theorem ggX5_lightEnd_X0_write : GoodIn wsX5_lightEnd wsX0_write := goodIn_r _ [16, 17, 18, 19, 20, 21, 41, 42, 43, 44, 45] (by decide +kernel) (by decide +kernel)
set_option maxRecDepth 20000 in
theorem gX5_lightEnd_X0_write : GoodIn wsX5_lightEnd (wsV RX5 95 RX0 yX0_write wsX0_write) := goodIn_app (goodIn_of _ (by decide +kernel)) ggX5_lightEnd_X0_write
theorem dX5_lightEnd_0 : decode cX5_lightEnd 0 = .ok (.aload_n 0, 1) := by decide +kernel
theorem dX5_lightEnd_1 : decode cX5_lightEnd 1 = .ok (.getfield 11, 3) := by decide +kernel
theorem dX5_lightEnd_4 : decode cX5_lightEnd 4 = .ok (.iload_n 1, 1) := by decide +kernel
theorem dX5_lightEnd_5 : decode cX5_lightEnd 5 = .ok (.aaload, 1) := by decide +kernel
theorem dX5_lightEnd_6 : decode cX5_lightEnd 6 = .ok (.iload_n 2, 1) := by decide +kernel
theorem dX5_lightEnd_7 : decode cX5_lightEnd 7 = .ok (.iconst 1, 1) := by decide +kernel
theorem dX5_lightEnd_8 : decode cX5_lightEnd 8 = .ok (.invokevirtual 91, 3) := by decide +kernel
theorem dX5_lightEnd_11 : decode cX5_lightEnd 11 = .ok (.aload_n 0, 1) := by decide +kernel
theorem dX5_lightEnd_12 : decode cX5_lightEnd 12 = .ok (.dup, 1) := by decide +kernel
theorem dX5_lightEnd_13 : decode cX5_lightEnd 13 = .ok (.getfield 55, 3) := by decide +kernel
theorem dX5_lightEnd_16 : decode cX5_lightEnd 16 = .ok (.iconst 1, 1) := by decide +kernel
theorem dX5_lightEnd_17 : decode cX5_lightEnd 17 = .ok (.iadd, 1) := by decide +kernel
theorem dX5_lightEnd_18 : decode cX5_lightEnd 18 = .ok (.putfield 55, 3) := by decide +kernel
theorem dX5_lightEnd_21 : decode cX5_lightEnd 21 = .ok (.aload_n 0, 1) := by decide +kernel
theorem dX5_lightEnd_22 : decode cX5_lightEnd 22 = .ok (.getfield 26, 3) := by decide +kernel
theorem dX5_lightEnd_25 : decode cX5_lightEnd 25 = .ok (.iload_n 2, 1) := by decide +kernel
theorem dX5_lightEnd_26 : decode cX5_lightEnd 26 = .ok (.ifCond .eq 7, 3) := by decide +kernel
theorem dX5_lightEnd_29 : decode cX5_lightEnd 29 = .ok (.iconst 0, 1) := by decide +kernel
theorem dX5_lightEnd_30 : decode cX5_lightEnd 30 = .ok (.goto 4, 3) := by decide +kernel
theorem dX5_lightEnd_33 : decode cX5_lightEnd 33 = .ok (.iconst 1, 1) := by decide +kernel
theorem dX5_lightEnd_34 : decode cX5_lightEnd 34 = .ok (.aload_n 0, 1) := by decide +kernel
theorem dX5_lightEnd_35 : decode cX5_lightEnd 35 = .ok (.getfield 49, 3) := by decide +kernel
theorem dX5_lightEnd_38 : decode cX5_lightEnd 38 = .ok (.iload_n 1, 1) := by decide +kernel
theorem dX5_lightEnd_39 : decode cX5_lightEnd 39 = .ok (.invokevirtual 95, 3) := by decide +kernel
theorem dX5_lightEnd_42 : decode cX5_lightEnd 42 = .ok (.return_, 1) := by decide +kernel
set_option maxRecDepth 20000 in
theorem ggX5_passSteps_X5_passStep : GoodIn wsX5_passSteps wsX5_passStep := goodIn_r _ [5, 6, 7, 8, 9, 10, 4, 11, 12, 13, 14, 15, 16, 17, 18, 19, 20, 21, 22, 23, 24, 25, 26, 27, 28, 29, 30, 31, 32, 33, 34, 35, 36, 37, 38, 39, 40, 41, 42, 43, 44, 45, 46, 47, 48, 49, 50, 51, 52, 53, 54, 55, 56, 57, 58, 59, 60, 61, 62, 63, 64, 65, 66, 67, 68, 69, 70, 71, 72, 73, 74, 75, 76, 77, 78, 79, 80, 81, 82, 83, 84, 85, 86, 87, 88, 89, 90, 91, 92, 93, 94, 95, 96, 97, 98, 99, 100, 101, 102, 103, 104, 105, 106, 107, 108, 109, 110, 111, 112, 113, 114, 115, 116, 117, 118, 119, 120] (by decide +kernel) (by decide +kernel)
set_option maxRecDepth 20000 in
theorem gX5_passSteps_X5_passStep : GoodIn wsX5_passSteps (wsV RX5 99 RX5 yX5_passStep wsX5_passStep) := goodIn_app (goodIn_of _ (by decide +kernel)) ggX5_passSteps_X5_passStep
theorem dX5_passSteps_0 : decode cX5_passSteps 0 = .ok (.iconst 0, 1) := by decide +kernel
theorem dX5_passSteps_1 : decode cX5_passSteps 1 = .ok (.istore_n 2, 1) := by decide +kernel
theorem dX5_passSteps_2 : decode cX5_passSteps 2 = .ok (.iconst 0, 1) := by decide +kernel
theorem dX5_passSteps_3 : decode cX5_passSteps 3 = .ok (.istore_n 3, 1) := by decide +kernel
theorem dX5_passSteps_4 : decode cX5_passSteps 4 = .ok (.iload_n 3, 1) := by decide +kernel
theorem dX5_passSteps_5 : decode cX5_passSteps 5 = .ok (.iload_n 1, 1) := by decide +kernel
theorem dX5_passSteps_6 : decode cX5_passSteps 6 = .ok (.if_icmp .ge 16, 3) := by decide +kernel
theorem dX5_passSteps_9 : decode cX5_passSteps 9 = .ok (.iload_n 2, 1) := by decide +kernel
theorem dX5_passSteps_10 : decode cX5_passSteps 10 = .ok (.aload_n 0, 1) := by decide +kernel
theorem dX5_passSteps_11 : decode cX5_passSteps 11 = .ok (.invokevirtual 99, 3) := by decide +kernel
theorem dX5_passSteps_14 : decode cX5_passSteps 14 = .ok (.iadd, 1) := by decide +kernel
theorem dX5_passSteps_15 : decode cX5_passSteps 15 = .ok (.istore_n 2, 1) := by decide +kernel
theorem dX5_passSteps_16 : decode cX5_passSteps 16 = .ok (.iinc 3 1, 3) := by decide +kernel
theorem dX5_passSteps_19 : decode cX5_passSteps 19 = .ok (.goto (-15), 3) := by decide +kernel
theorem dX5_passSteps_22 : decode cX5_passSteps 22 = .ok (.iload_n 2, 1) := by decide +kernel
theorem dX5_passSteps_23 : decode cX5_passSteps 23 = .ok (.ireturn, 1) := by decide +kernel
set_option maxRecDepth 20000 in
theorem ggX5_passStep_X5_noteSmoke : GoodIn wsX5_passStep wsX5_noteSmoke := goodIn_r _ [7, 8, 9, 10, 11, 12, 13, 14, 15, 16, 17, 6, 18, 2, 19, 20, 21, 22, 23, 24, 25, 26, 89, 90, 91, 92, 93, 94, 95, 96, 97, 98, 99, 100, 101, 102, 103, 104, 105, 106, 107] (by decide +kernel) (by decide +kernel)
set_option maxRecDepth 20000 in
theorem gX5_passStep_X5_noteSmoke : GoodIn wsX5_passStep (wsV RX5 102 RX5 yX5_noteSmoke wsX5_noteSmoke) := goodIn_app (goodIn_of _ (by decide +kernel)) ggX5_passStep_X5_noteSmoke
set_option maxRecDepth 20000 in
theorem ggX5_passStep_X5_burnCords : GoodIn wsX5_passStep wsX5_burnCords := goodIn_r _ [30, 2, 19, 31, 32, 33, 23, 34, 25, 35, 26, 36, 37, 21, 22, 24, 38, 39, 40, 41, 42, 89, 90, 91, 92, 93, 94, 95, 96, 97, 98, 99, 100, 101, 102, 103, 104, 105, 106, 107] (by decide +kernel) (by decide +kernel)
set_option maxRecDepth 20000 in
theorem gX5_passStep_X5_burnCords : GoodIn wsX5_passStep (wsV RX5 105 RX5 yX5_burnCords wsX5_burnCords) := goodIn_app (goodIn_of _ (by decide +kernel)) ggX5_passStep_X5_burnCords
set_option maxRecDepth 20000 in
theorem ggX5_passStep_X5_giveSignal : GoodIn wsX5_passStep wsX5_giveSignal := goodIn_r _ [46, 47, 19, 1, 48, 49, 50, 51, 52, 53, 54, 55, 56, 57, 58, 59, 60, 61, 62, 63, 6, 64, 2, 65, 66, 67, 23, 68, 38, 39, 40, 41, 35, 36, 42, 69, 70, 71, 72, 25, 26, 73, 74, 75, 76, 77, 78, 79, 80, 81, 89, 90, 91, 92, 93, 94, 95, 96, 97, 98, 99, 100, 101, 102, 103, 104, 105, 106, 107, 108, 109, 110, 111, 112, 113, 114, 115, 116] (by decide +kernel) (by decide +kernel)
set_option maxRecDepth 20000 in
theorem gX5_passStep_X5_giveSignal : GoodIn wsX5_passStep (wsV RX5 108 RX5 yX5_giveSignal wsX5_giveSignal) := goodIn_app (goodIn_of _ (by decide +kernel)) ggX5_passStep_X5_giveSignal
set_option maxRecDepth 20000 in
theorem ggX5_passStep_J6_bitCount_0f7a4 : GoodIn wsX5_passStep wsJ6_bitCount_0f7a4 := goodIn_r _ [85, 86, 87, 88] (by decide +kernel) (by decide +kernel)
set_option maxRecDepth 20000 in
theorem gX5_passStep_J6_bitCount_0f7a4 : GoodIn wsX5_passStep (va_wsS RX5 112 yJ6_bitCount_0f7a4 wsJ6_bitCount_0f7a4) := goodIn_app (goodIn_of _ (by decide +kernel)) ggX5_passStep_J6_bitCount_0f7a4
theorem dX5_passStep_0 : decode cX5_passStep 0 = .ok (.aload_n 0, 1) := by decide +kernel
theorem dX5_passStep_1 : decode cX5_passStep 1 = .ok (.invokevirtual 102, 3) := by decide +kernel
theorem dX5_passStep_4 : decode cX5_passStep 4 = .ok (.aload_n 0, 1) := by decide +kernel
theorem dX5_passStep_5 : decode cX5_passStep 5 = .ok (.invokevirtual 105, 3) := by decide +kernel
theorem dX5_passStep_8 : decode cX5_passStep 8 = .ok (.istore_n 1, 1) := by decide +kernel
theorem dX5_passStep_9 : decode cX5_passStep 9 = .ok (.aload_n 0, 1) := by decide +kernel
theorem dX5_passStep_10 : decode cX5_passStep 10 = .ok (.dup, 1) := by decide +kernel
theorem dX5_passStep_11 : decode cX5_passStep 11 = .ok (.getfield 49, 3) := by decide +kernel
theorem dX5_passStep_14 : decode cX5_passStep 14 = .ok (.iconst 1, 1) := by decide +kernel
theorem dX5_passStep_15 : decode cX5_passStep 15 = .ok (.iadd, 1) := by decide +kernel
theorem dX5_passStep_16 : decode cX5_passStep 16 = .ok (.putfield 49, 3) := by decide +kernel
theorem dX5_passStep_19 : decode cX5_passStep 19 = .ok (.iconst 0, 1) := by decide +kernel
theorem dX5_passStep_20 : decode cX5_passStep 20 = .ok (.istore_n 2, 1) := by decide +kernel
theorem dX5_passStep_21 : decode cX5_passStep 21 = .ok (.iload_n 2, 1) := by decide +kernel
theorem dX5_passStep_22 : decode cX5_passStep 22 = .ok (.aload_n 0, 1) := by decide +kernel
theorem dX5_passStep_23 : decode cX5_passStep 23 = .ok (.getfield 36, 3) := by decide +kernel
theorem dX5_passStep_26 : decode cX5_passStep 26 = .ok (.if_icmp .ge 22, 3) := by decide +kernel
theorem dX5_passStep_29 : decode cX5_passStep 29 = .ok (.iload_n 1, 1) := by decide +kernel
theorem dX5_passStep_30 : decode cX5_passStep 30 = .ok (.iload_n 2, 1) := by decide +kernel
theorem dX5_passStep_31 : decode cX5_passStep 31 = .ok (.ishr, 1) := by decide +kernel
theorem dX5_passStep_32 : decode cX5_passStep 32 = .ok (.iconst 1, 1) := by decide +kernel
theorem dX5_passStep_33 : decode cX5_passStep 33 = .ok (.iand, 1) := by decide +kernel
theorem dX5_passStep_34 : decode cX5_passStep 34 = .ok (.ifCond .eq 8, 3) := by decide +kernel
theorem dX5_passStep_37 : decode cX5_passStep 37 = .ok (.aload_n 0, 1) := by decide +kernel
theorem dX5_passStep_38 : decode cX5_passStep 38 = .ok (.iload_n 2, 1) := by decide +kernel
theorem dX5_passStep_39 : decode cX5_passStep 39 = .ok (.invokevirtual 108, 3) := by decide +kernel
theorem dX5_passStep_42 : decode cX5_passStep 42 = .ok (.iinc 2 1, 3) := by decide +kernel
theorem dX5_passStep_45 : decode cX5_passStep 45 = .ok (.goto (-24), 3) := by decide +kernel
theorem dX5_passStep_48 : decode cX5_passStep 48 = .ok (.iload_n 1, 1) := by decide +kernel
theorem dX5_passStep_49 : decode cX5_passStep 49 = .ok (.invokestatic 112, 3) := by decide +kernel
theorem dX5_passStep_52 : decode cX5_passStep 52 = .ok (.ireturn, 1) := by decide +kernel
set_option maxRecDepth 20000 in
theorem ggX5_noteSmoke_X5_flameCount : GoodIn wsX5_noteSmoke wsX5_flameCount := goodIn_r _ [12, 13, 14, 15, 16, 17, 18, 19, 20, 21, 22, 23, 24, 25, 26, 27, 28, 29, 30, 31, 32, 33, 34, 35, 36, 37, 38, 39, 40] (by decide +kernel) (by decide +kernel)
set_option maxRecDepth 20000 in
theorem gX5_noteSmoke_X5_flameCount : GoodIn wsX5_noteSmoke (wsV RX5 118 RX5 yX5_flameCount wsX5_flameCount) := goodIn_app (goodIn_of _ (by decide +kernel)) ggX5_noteSmoke_X5_flameCount
theorem dX5_noteSmoke_0 : decode cX5_noteSmoke 0 = .ok (.aload_n 0, 1) := by decide +kernel
theorem dX5_noteSmoke_1 : decode cX5_noteSmoke 1 = .ok (.invokevirtual 118, 3) := by decide +kernel
theorem dX5_noteSmoke_4 : decode cX5_noteSmoke 4 = .ok (.ifCond .le 21, 3) := by decide +kernel
theorem dX5_noteSmoke_7 : decode cX5_noteSmoke 7 = .ok (.aload_n 0, 1) := by decide +kernel
theorem dX5_noteSmoke_8 : decode cX5_noteSmoke 8 = .ok (.dup, 1) := by decide +kernel
theorem dX5_noteSmoke_9 : decode cX5_noteSmoke 9 = .ok (.getfield 58, 3) := by decide +kernel
theorem dX5_noteSmoke_12 : decode cX5_noteSmoke 12 = .ok (.iconst 1, 1) := by decide +kernel
theorem dX5_noteSmoke_13 : decode cX5_noteSmoke 13 = .ok (.iadd, 1) := by decide +kernel
theorem dX5_noteSmoke_14 : decode cX5_noteSmoke 14 = .ok (.putfield 58, 3) := by decide +kernel
theorem dX5_noteSmoke_17 : decode cX5_noteSmoke 17 = .ok (.aload_n 0, 1) := by decide +kernel
theorem dX5_noteSmoke_18 : decode cX5_noteSmoke 18 = .ok (.iconst 0, 1) := by decide +kernel
theorem dX5_noteSmoke_19 : decode cX5_noteSmoke 19 = .ok (.putfield 61, 3) := by decide +kernel
theorem dX5_noteSmoke_22 : decode cX5_noteSmoke 22 = .ok (.goto 28, 3) := by decide +kernel
theorem dX5_noteSmoke_25 : decode cX5_noteSmoke 25 = .ok (.aload_n 0, 1) := by decide +kernel
theorem dX5_noteSmoke_26 : decode cX5_noteSmoke 26 = .ok (.dup, 1) := by decide +kernel
theorem dX5_noteSmoke_27 : decode cX5_noteSmoke 27 = .ok (.getfield 61, 3) := by decide +kernel
theorem dX5_noteSmoke_30 : decode cX5_noteSmoke 30 = .ok (.iconst 1, 1) := by decide +kernel
theorem dX5_noteSmoke_31 : decode cX5_noteSmoke 31 = .ok (.iadd, 1) := by decide +kernel
theorem dX5_noteSmoke_32 : decode cX5_noteSmoke 32 = .ok (.putfield 61, 3) := by decide +kernel
theorem dX5_noteSmoke_35 : decode cX5_noteSmoke 35 = .ok (.aload_n 0, 1) := by decide +kernel
theorem dX5_noteSmoke_36 : decode cX5_noteSmoke 36 = .ok (.aload_n 0, 1) := by decide +kernel
theorem dX5_noteSmoke_37 : decode cX5_noteSmoke 37 = .ok (.getfield 64, 3) := by decide +kernel
theorem dX5_noteSmoke_40 : decode cX5_noteSmoke 40 = .ok (.aload_n 0, 1) := by decide +kernel
theorem dX5_noteSmoke_41 : decode cX5_noteSmoke 41 = .ok (.getfield 61, 3) := by decide +kernel
theorem dX5_noteSmoke_44 : decode cX5_noteSmoke 44 = .ok (.invokestatic 119, 3) := by decide +kernel
theorem dX5_noteSmoke_47 : decode cX5_noteSmoke 47 = .ok (.putfield 64, 3) := by decide +kernel
theorem dX5_noteSmoke_50 : decode cX5_noteSmoke 50 = .ok (.return_, 1) := by decide +kernel
set_option maxRecDepth 20000 in
theorem ggX5_burnCords_X1_burnsOut : GoodIn wsX5_burnCords wsX1_burnsOut := goodIn_r _ [7, 8, 9, 10, 11, 12, 13, 14, 6, 15, 16, 17, 18, 19, 20, 32, 33, 34, 35, 36, 37, 38, 39] (by decide +kernel) (by decide +kernel)
set_option maxRecDepth 20000 in
theorem gX5_burnCords_X1_burnsOut : GoodIn wsX5_burnCords (wsV RX5 125 RX1 yX1_burnsOut wsX1_burnsOut) := goodIn_app (goodIn_of _ (by decide +kernel)) ggX5_burnCords_X1_burnsOut
theorem dX5_burnCords_0 : decode cX5_burnCords 0 = .ok (.iconst 0, 1) := by decide +kernel
theorem dX5_burnCords_1 : decode cX5_burnCords 1 = .ok (.istore_n 1, 1) := by decide +kernel
theorem dX5_burnCords_2 : decode cX5_burnCords 2 = .ok (.iconst 0, 1) := by decide +kernel
theorem dX5_burnCords_3 : decode cX5_burnCords 3 = .ok (.istore_n 2, 1) := by decide +kernel
theorem dX5_burnCords_4 : decode cX5_burnCords 4 = .ok (.iload_n 2, 1) := by decide +kernel
theorem dX5_burnCords_5 : decode cX5_burnCords 5 = .ok (.aload_n 0, 1) := by decide +kernel
theorem dX5_burnCords_6 : decode cX5_burnCords 6 = .ok (.getfield 36, 3) := by decide +kernel
theorem dX5_burnCords_9 : decode cX5_burnCords 9 = .ok (.if_icmp .ge 27, 3) := by decide +kernel
theorem dX5_burnCords_12 : decode cX5_burnCords 12 = .ok (.aload_n 0, 1) := by decide +kernel
theorem dX5_burnCords_13 : decode cX5_burnCords 13 = .ok (.getfield 11, 3) := by decide +kernel
theorem dX5_burnCords_16 : decode cX5_burnCords 16 = .ok (.iload_n 2, 1) := by decide +kernel
theorem dX5_burnCords_17 : decode cX5_burnCords 17 = .ok (.aaload, 1) := by decide +kernel
theorem dX5_burnCords_18 : decode cX5_burnCords 18 = .ok (.invokevirtual 125, 3) := by decide +kernel
theorem dX5_burnCords_21 : decode cX5_burnCords 21 = .ok (.ifCond .eq 9, 3) := by decide +kernel
theorem dX5_burnCords_24 : decode cX5_burnCords 24 = .ok (.iload_n 1, 1) := by decide +kernel
theorem dX5_burnCords_25 : decode cX5_burnCords 25 = .ok (.iconst 1, 1) := by decide +kernel
theorem dX5_burnCords_26 : decode cX5_burnCords 26 = .ok (.iload_n 2, 1) := by decide +kernel
theorem dX5_burnCords_27 : decode cX5_burnCords 27 = .ok (.ishl, 1) := by decide +kernel
theorem dX5_burnCords_28 : decode cX5_burnCords 28 = .ok (.ior, 1) := by decide +kernel
theorem dX5_burnCords_29 : decode cX5_burnCords 29 = .ok (.istore_n 1, 1) := by decide +kernel
theorem dX5_burnCords_30 : decode cX5_burnCords 30 = .ok (.iinc 2 1, 3) := by decide +kernel
theorem dX5_burnCords_33 : decode cX5_burnCords 33 = .ok (.goto (-29), 3) := by decide +kernel
theorem dX5_burnCords_36 : decode cX5_burnCords 36 = .ok (.iload_n 1, 1) := by decide +kernel
theorem dX5_burnCords_37 : decode cX5_burnCords 37 = .ok (.ireturn, 1) := by decide +kernel
set_option maxRecDepth 20000 in
theorem ggX5_giveSignal_X0_write : GoodIn wsX5_giveSignal wsX0_write := goodIn_r _ [11, 12, 13, 14, 15, 16, 73, 74, 75, 76, 77] (by decide +kernel) (by decide +kernel)
set_option maxRecDepth 20000 in
theorem gX5_giveSignal_X0_write : GoodIn wsX5_giveSignal (wsV RX5 95 RX0 yX0_write wsX0_write) := goodIn_app (goodIn_of _ (by decide +kernel)) ggX5_giveSignal_X0_write
set_option maxRecDepth 20000 in
theorem ggX5_giveSignal_X5_hasCord : GoodIn wsX5_giveSignal wsX5_hasCord := goodIn_r _ [21, 22, 50, 51, 52, 53, 54, 55, 56, 57, 58, 59, 60] (by decide +kernel) (by decide +kernel)
set_option maxRecDepth 20000 in
theorem gX5_giveSignal_X5_hasCord : GoodIn wsX5_giveSignal (wsV RX5 131 RX5 yX5_hasCord wsX5_hasCord) := goodIn_app (goodIn_of _ (by decide +kernel)) ggX5_giveSignal_X5_hasCord
set_option maxRecDepth 20000 in
theorem ggX5_giveSignal_X1_canBeLit : GoodIn wsX5_giveSignal wsX1_canBeLit := goodIn_r _ [27, 28, 29, 30, 26, 31, 32, 33, 34, 35, 36, 37, 38, 39, 40, 61, 62, 63, 64, 65, 66, 67, 68] (by decide +kernel) (by decide +kernel)
set_option maxRecDepth 20000 in
theorem gX5_giveSignal_X1_canBeLit : GoodIn wsX5_giveSignal (wsV RX5 135 RX1 yX1_canBeLit wsX1_canBeLit) := goodIn_app (goodIn_of _ (by decide +kernel)) ggX5_giveSignal_X1_canBeLit
set_option maxRecDepth 20000 in
theorem ggX5_giveSignal_X5_lightEnd : GoodIn wsX5_giveSignal wsX5_lightEnd := goodIn_r _ [44, 2, 45, 4, 3, 46, 47, 48, 26, 49, 39, 40, 7, 8, 9, 10, 11, 12, 13, 14, 15, 16, 50, 51, 52, 53, 54, 55, 56, 57, 58, 59, 60, 61, 62, 63, 64, 65, 66, 67, 68, 73, 74, 75, 76, 77] (by decide +kernel) (by decide +kernel)
set_option maxRecDepth 20000 in
theorem gX5_giveSignal_X5_lightEnd : GoodIn wsX5_giveSignal (wsV RX5 139 RX5 yX5_lightEnd wsX5_lightEnd) := goodIn_app (goodIn_of _ (by decide +kernel)) ggX5_giveSignal_X5_lightEnd
theorem dX5_giveSignal_0 : decode cX5_giveSignal 0 = .ok (.aload_n 0, 1) := by decide +kernel
theorem dX5_giveSignal_1 : decode cX5_giveSignal 1 = .ok (.dup, 1) := by decide +kernel
theorem dX5_giveSignal_2 : decode cX5_giveSignal 2 = .ok (.getfield 52, 3) := by decide +kernel
theorem dX5_giveSignal_5 : decode cX5_giveSignal 5 = .ok (.iconst 1, 1) := by decide +kernel
theorem dX5_giveSignal_6 : decode cX5_giveSignal 6 = .ok (.iadd, 1) := by decide +kernel
theorem dX5_giveSignal_7 : decode cX5_giveSignal 7 = .ok (.putfield 52, 3) := by decide +kernel
theorem dX5_giveSignal_10 : decode cX5_giveSignal 10 = .ok (.aload_n 0, 1) := by decide +kernel
theorem dX5_giveSignal_11 : decode cX5_giveSignal 11 = .ok (.getfield 11, 3) := by decide +kernel
theorem dX5_giveSignal_14 : decode cX5_giveSignal 14 = .ok (.iload_n 1, 1) := by decide +kernel
theorem dX5_giveSignal_15 : decode cX5_giveSignal 15 = .ok (.aaload, 1) := by decide +kernel
theorem dX5_giveSignal_16 : decode cX5_giveSignal 16 = .ok (.aload_n 0, 1) := by decide +kernel
theorem dX5_giveSignal_17 : decode cX5_giveSignal 17 = .ok (.getfield 49, 3) := by decide +kernel
theorem dX5_giveSignal_20 : decode cX5_giveSignal 20 = .ok (.putfield 128, 3) := by decide +kernel
theorem dX5_giveSignal_23 : decode cX5_giveSignal 23 = .ok (.aload_n 0, 1) := by decide +kernel
theorem dX5_giveSignal_24 : decode cX5_giveSignal 24 = .ok (.getfield 26, 3) := by decide +kernel
theorem dX5_giveSignal_27 : decode cX5_giveSignal 27 = .ok (.iconst 2, 1) := by decide +kernel
theorem dX5_giveSignal_28 : decode cX5_giveSignal 28 = .ok (.aload_n 0, 1) := by decide +kernel
theorem dX5_giveSignal_29 : decode cX5_giveSignal 29 = .ok (.getfield 49, 3) := by decide +kernel
theorem dX5_giveSignal_32 : decode cX5_giveSignal 32 = .ok (.iload_n 1, 1) := by decide +kernel
theorem dX5_giveSignal_33 : decode cX5_giveSignal 33 = .ok (.invokevirtual 95, 3) := by decide +kernel
theorem dX5_giveSignal_36 : decode cX5_giveSignal 36 = .ok (.iconst 0, 1) := by decide +kernel
theorem dX5_giveSignal_37 : decode cX5_giveSignal 37 = .ok (.istore_n 2, 1) := by decide +kernel
theorem dX5_giveSignal_38 : decode cX5_giveSignal 38 = .ok (.iload_n 2, 1) := by decide +kernel
theorem dX5_giveSignal_39 : decode cX5_giveSignal 39 = .ok (.aload_n 0, 1) := by decide +kernel
theorem dX5_giveSignal_40 : decode cX5_giveSignal 40 = .ok (.getfield 43, 3) := by decide +kernel
theorem dX5_giveSignal_43 : decode cX5_giveSignal 43 = .ok (.if_icmp .ge 76, 3) := by decide +kernel
theorem dX5_giveSignal_46 : decode cX5_giveSignal 46 = .ok (.aload_n 0, 1) := by decide +kernel
theorem dX5_giveSignal_47 : decode cX5_giveSignal 47 = .ok (.getfield 19, 3) := by decide +kernel
theorem dX5_giveSignal_50 : decode cX5_giveSignal 50 = .ok (.iload_n 2, 1) := by decide +kernel
theorem dX5_giveSignal_51 : decode cX5_giveSignal 51 = .ok (.aaload, 1) := by decide +kernel
theorem dX5_giveSignal_52 : decode cX5_giveSignal 52 = .ok (.astore_n 3, 1) := by decide +kernel
theorem dX5_giveSignal_53 : decode cX5_giveSignal 53 = .ok (.aload_n 3, 1) := by decide +kernel
theorem dX5_giveSignal_54 : decode cX5_giveSignal 54 = .ok (.getfield 70, 3) := by decide +kernel
theorem dX5_giveSignal_57 : decode cX5_giveSignal 57 = .ok (.iload_n 1, 1) := by decide +kernel
theorem dX5_giveSignal_58 : decode cX5_giveSignal 58 = .ok (.if_icmp .ne 55, 3) := by decide +kernel
theorem dX5_giveSignal_61 : decode cX5_giveSignal 61 = .ok (.aload_n 0, 1) := by decide +kernel
theorem dX5_giveSignal_62 : decode cX5_giveSignal 62 = .ok (.aload_n 3, 1) := by decide +kernel
theorem dX5_giveSignal_63 : decode cX5_giveSignal 63 = .ok (.getfield 73, 3) := by decide +kernel
theorem dX5_giveSignal_66 : decode cX5_giveSignal 66 = .ok (.invokevirtual 131, 3) := by decide +kernel
theorem dX5_giveSignal_69 : decode cX5_giveSignal 69 = .ok (.ifCond .eq 44, 3) := by decide +kernel
theorem dX5_giveSignal_72 : decode cX5_giveSignal 72 = .ok (.aload_n 0, 1) := by decide +kernel
theorem dX5_giveSignal_73 : decode cX5_giveSignal 73 = .ok (.getfield 11, 3) := by decide +kernel
theorem dX5_giveSignal_76 : decode cX5_giveSignal 76 = .ok (.aload_n 3, 1) := by decide +kernel
theorem dX5_giveSignal_77 : decode cX5_giveSignal 77 = .ok (.getfield 73, 3) := by decide +kernel
theorem dX5_giveSignal_80 : decode cX5_giveSignal 80 = .ok (.aaload, 1) := by decide +kernel
theorem dX5_giveSignal_81 : decode cX5_giveSignal 81 = .ok (.aload_n 3, 1) := by decide +kernel
theorem dX5_giveSignal_82 : decode cX5_giveSignal 82 = .ok (.getfield 76, 3) := by decide +kernel
theorem dX5_giveSignal_85 : decode cX5_giveSignal 85 = .ok (.invokevirtual 135, 3) := by decide +kernel
theorem dX5_giveSignal_88 : decode cX5_giveSignal 88 = .ok (.ifCond .eq 25, 3) := by decide +kernel
theorem dX5_giveSignal_91 : decode cX5_giveSignal 91 = .ok (.aload_n 0, 1) := by decide +kernel
theorem dX5_giveSignal_92 : decode cX5_giveSignal 92 = .ok (.aload_n 3, 1) := by decide +kernel
theorem dX5_giveSignal_93 : decode cX5_giveSignal 93 = .ok (.getfield 73, 3) := by decide +kernel
theorem dX5_giveSignal_96 : decode cX5_giveSignal 96 = .ok (.aload_n 3, 1) := by decide +kernel
theorem dX5_giveSignal_97 : decode cX5_giveSignal 97 = .ok (.getfield 76, 3) := by decide +kernel
theorem dX5_giveSignal_100 : decode cX5_giveSignal 100 = .ok (.invokevirtual 139, 3) := by decide +kernel
theorem dX5_giveSignal_103 : decode cX5_giveSignal 103 = .ok (.aload_n 3, 1) := by decide +kernel
theorem dX5_giveSignal_104 : decode cX5_giveSignal 104 = .ok (.dup, 1) := by decide +kernel
theorem dX5_giveSignal_105 : decode cX5_giveSignal 105 = .ok (.getfield 80, 3) := by decide +kernel
theorem dX5_giveSignal_108 : decode cX5_giveSignal 108 = .ok (.iconst 1, 1) := by decide +kernel
theorem dX5_giveSignal_109 : decode cX5_giveSignal 109 = .ok (.iadd, 1) := by decide +kernel
theorem dX5_giveSignal_110 : decode cX5_giveSignal 110 = .ok (.putfield 80, 3) := by decide +kernel
theorem dX5_giveSignal_113 : decode cX5_giveSignal 113 = .ok (.iinc 2 1, 3) := by decide +kernel
theorem dX5_giveSignal_116 : decode cX5_giveSignal 116 = .ok (.goto (-78), 3) := by decide +kernel
theorem dX5_giveSignal_119 : decode cX5_giveSignal 119 = .ok (.return_, 1) := by decide +kernel
set_option maxRecDepth 20000 in
theorem ggX6_init_X5_init : GoodIn wsX6_init wsX5_init := goodIn_r _ [23, 24, 2, 3, 25, 26, 27, 28, 29, 30, 31, 32, 33, 34, 35, 36, 37, 38, 39, 40, 41, 42, 43, 44, 45, 46, 47, 48, 49, 50, 51, 65, 66, 67, 68, 69, 70, 71, 72, 73, 74, 75, 99, 100, 101, 102, 103, 104, 105, 106, 107, 108, 109, 110, 111, 112, 113, 114, 115] (by decide +kernel) (by decide +kernel)
set_option maxRecDepth 20000 in
theorem gX6_init_X5_init : GoodIn wsX6_init (wsX5_init) := ggX6_init_X5_init
set_option maxRecDepth 20000 in
theorem ggX6_init_X2_init : GoodIn wsX6_init wsX2_init := goodIn_r _ [53, 54, 2, 3, 55, 56, 40, 57, 85, 86, 87, 88, 89, 90, 91, 92, 93, 94] (by decide +kernel) (by decide +kernel)
set_option maxRecDepth 20000 in
theorem gX6_init_X2_init_n32 : GoodIn wsX6_init (wsX2_init) := ggX6_init_X2_init
set_option maxRecDepth 20000 in
theorem ggX6_init_X3_init : GoodIn wsX6_init wsX3_init := goodIn_r _ [59, 60, 2, 3, 40, 61, 62, 63, 64, 95, 96, 97, 98] (by decide +kernel) (by decide +kernel)
set_option maxRecDepth 20000 in
theorem gX6_init_X3_init_n39 : GoodIn wsX6_init (wsX3_init) := ggX6_init_X3_init
theorem dX6_init_0 : decode cX6_init 0 = .ok (.aload_n 0, 1) := by decide +kernel
theorem dX6_init_1 : decode cX6_init 1 = .ok (.invokespecial 1, 3) := by decide +kernel
theorem dX6_init_4 : decode cX6_init 4 = .ok (.aload_n 0, 1) := by decide +kernel
theorem dX6_init_5 : decode cX6_init 5 = .ok (.new 7, 3) := by decide +kernel
theorem dX6_init_8 : decode cX6_init 8 = .ok (.dup, 1) := by decide +kernel
theorem dX6_init_9 : decode cX6_init 9 = .ok (.invokespecial 9, 3) := by decide +kernel
theorem dX6_init_12 : decode cX6_init 12 = .ok (.putfield 10, 3) := by decide +kernel
theorem dX6_init_15 : decode cX6_init 15 = .ok (.aload_n 0, 1) := by decide +kernel
theorem dX6_init_16 : decode cX6_init 16 = .ok (.new 7, 3) := by decide +kernel
theorem dX6_init_19 : decode cX6_init 19 = .ok (.dup, 1) := by decide +kernel
theorem dX6_init_20 : decode cX6_init 20 = .ok (.invokespecial 9, 3) := by decide +kernel
theorem dX6_init_23 : decode cX6_init 23 = .ok (.putfield 16, 3) := by decide +kernel
theorem dX6_init_26 : decode cX6_init 26 = .ok (.aload_n 0, 1) := by decide +kernel
theorem dX6_init_27 : decode cX6_init 27 = .ok (.bipush 6, 2) := by decide +kernel
theorem dX6_init_29 : decode cX6_init 29 = .ok (.anewarray 7, 3) := by decide +kernel
theorem dX6_init_32 : decode cX6_init 32 = .ok (.putfield 19, 3) := by decide +kernel
theorem dX6_init_35 : decode cX6_init 35 = .ok (.aload_n 0, 1) := by decide +kernel
theorem dX6_init_36 : decode cX6_init 36 = .ok (.iconst 2, 1) := by decide +kernel
theorem dX6_init_37 : decode cX6_init 37 = .ok (.anewarray 7, 3) := by decide +kernel
theorem dX6_init_40 : decode cX6_init 40 = .ok (.putfield 23, 3) := by decide +kernel
theorem dX6_init_43 : decode cX6_init 43 = .ok (.aload_n 0, 1) := by decide +kernel
theorem dX6_init_44 : decode cX6_init 44 = .ok (.iconst 2, 1) := by decide +kernel
theorem dX6_init_45 : decode cX6_init 45 = .ok (.newarray .boolean, 2) := by decide +kernel
theorem dX6_init_47 : decode cX6_init 47 = .ok (.putfield 26, 3) := by decide +kernel
theorem dX6_init_50 : decode cX6_init 50 = .ok (.aload_n 0, 1) := by decide +kernel
theorem dX6_init_51 : decode cX6_init 51 = .ok (.new 30, 3) := by decide +kernel
theorem dX6_init_54 : decode cX6_init 54 = .ok (.dup, 1) := by decide +kernel
theorem dX6_init_55 : decode cX6_init 55 = .ok (.invokespecial 32, 3) := by decide +kernel
theorem dX6_init_58 : decode cX6_init 58 = .ok (.putfield 33, 3) := by decide +kernel
theorem dX6_init_61 : decode cX6_init 61 = .ok (.aload_n 0, 1) := by decide +kernel
theorem dX6_init_62 : decode cX6_init 62 = .ok (.new 37, 3) := by decide +kernel
theorem dX6_init_65 : decode cX6_init 65 = .ok (.dup, 1) := by decide +kernel
theorem dX6_init_66 : decode cX6_init 66 = .ok (.invokespecial 39, 3) := by decide +kernel
theorem dX6_init_69 : decode cX6_init 69 = .ok (.putfield 40, 3) := by decide +kernel
theorem dX6_init_72 : decode cX6_init 72 = .ok (.iconst 0, 1) := by decide +kernel
theorem dX6_init_73 : decode cX6_init 73 = .ok (.istore_n 1, 1) := by decide +kernel
theorem dX6_init_74 : decode cX6_init 74 = .ok (.iload_n 1, 1) := by decide +kernel
theorem dX6_init_75 : decode cX6_init 75 = .ok (.bipush 6, 2) := by decide +kernel
theorem dX6_init_77 : decode cX6_init 77 = .ok (.if_icmp .ge 22, 3) := by decide +kernel
theorem dX6_init_80 : decode cX6_init 80 = .ok (.aload_n 0, 1) := by decide +kernel
theorem dX6_init_81 : decode cX6_init 81 = .ok (.getfield 19, 3) := by decide +kernel
theorem dX6_init_84 : decode cX6_init 84 = .ok (.iload_n 1, 1) := by decide +kernel
theorem dX6_init_85 : decode cX6_init 85 = .ok (.new 7, 3) := by decide +kernel
theorem dX6_init_88 : decode cX6_init 88 = .ok (.dup, 1) := by decide +kernel
theorem dX6_init_89 : decode cX6_init 89 = .ok (.invokespecial 9, 3) := by decide +kernel
theorem dX6_init_92 : decode cX6_init 92 = .ok (.aastore, 1) := by decide +kernel
theorem dX6_init_93 : decode cX6_init 93 = .ok (.iinc 1 1, 3) := by decide +kernel
theorem dX6_init_96 : decode cX6_init 96 = .ok (.goto (-22), 3) := by decide +kernel
theorem dX6_init_99 : decode cX6_init 99 = .ok (.iconst 0, 1) := by decide +kernel
theorem dX6_init_100 : decode cX6_init 100 = .ok (.istore_n 1, 1) := by decide +kernel
theorem dX6_init_101 : decode cX6_init 101 = .ok (.iload_n 1, 1) := by decide +kernel
theorem dX6_init_102 : decode cX6_init 102 = .ok (.iconst 2, 1) := by decide +kernel
theorem dX6_init_103 : decode cX6_init 103 = .ok (.if_icmp .ge 22, 3) := by decide +kernel
theorem dX6_init_106 : decode cX6_init 106 = .ok (.aload_n 0, 1) := by decide +kernel
theorem dX6_init_107 : decode cX6_init 107 = .ok (.getfield 23, 3) := by decide +kernel
theorem dX6_init_110 : decode cX6_init 110 = .ok (.iload_n 1, 1) := by decide +kernel
theorem dX6_init_111 : decode cX6_init 111 = .ok (.new 7, 3) := by decide +kernel
theorem dX6_init_114 : decode cX6_init 114 = .ok (.dup, 1) := by decide +kernel
theorem dX6_init_115 : decode cX6_init 115 = .ok (.invokespecial 9, 3) := by decide +kernel
theorem dX6_init_118 : decode cX6_init 118 = .ok (.aastore, 1) := by decide +kernel
theorem dX6_init_119 : decode cX6_init 119 = .ok (.iinc 1 1, 3) := by decide +kernel
theorem dX6_init_122 : decode cX6_init 122 = .ok (.goto (-21), 3) := by decide +kernel
theorem dX6_init_125 : decode cX6_init 125 = .ok (.return_, 1) := by decide +kernel
set_option maxRecDepth 20000 in
theorem ggX6_cord_X6_isSegmentTime : GoodIn wsX6_cord wsX6_isSegmentTime := goodIn_r _ [9] (by decide +kernel) (by decide +kernel)
set_option maxRecDepth 20000 in
theorem gX6_cord_X6_isSegmentTime : GoodIn wsX6_cord (va_wsS RX6 44 yX6_isSegmentTime wsX6_isSegmentTime) := goodIn_app (goodIn_of _ (by decide +kernel)) ggX6_cord_X6_isSegmentTime
set_option maxRecDepth 20000 in
theorem ggX6_cord_X5_hasRoomForCord : GoodIn wsX6_cord wsX5_hasRoomForCord := goodIn_r _ [14, 15, 94, 95, 96, 97, 98, 99, 100, 101, 102, 103, 104] (by decide +kernel) (by decide +kernel)
set_option maxRecDepth 20000 in
theorem gX6_cord_X5_hasRoomForCord : GoodIn wsX6_cord (wsV RX6 55 RX5 yX5_hasRoomForCord wsX5_hasRoomForCord) := goodIn_app (goodIn_of _ (by decide +kernel)) ggX6_cord_X5_hasRoomForCord
set_option maxRecDepth 20000 in
theorem ggX6_cord_X6_save : GoodIn wsX6_cord wsX6_save := goodIn_r _ [19, 20, 21, 22, 5, 23, 24, 25, 13, 26, 27, 15, 28, 29, 30, 31, 32, 33, 34, 35, 36, 37, 38, 39, 40, 41, 42, 43, 44, 45, 46, 47, 48, 49, 50, 51, 52, 53, 54, 55, 56, 57, 58, 59, 60, 61, 62, 63, 64, 65, 66, 67, 68, 85, 86, 87, 88, 89, 90, 91, 92, 93, 94, 95, 96, 97, 98, 99, 100, 101, 102, 103, 104, 105, 106, 107, 108, 109, 110, 111, 112, 113, 114, 115, 116, 117, 118, 119, 120, 121] (by decide +kernel) (by decide +kernel)
set_option maxRecDepth 20000 in
theorem gX6_cord_X6_save : GoodIn wsX6_cord (wsV RX6 64 RX6 yX6_save wsX6_save) := goodIn_app (goodIn_of _ (by decide +kernel)) ggX6_cord_X6_save
set_option maxRecDepth 20000 in
theorem ggX6_cord_X5_addCord : GoodIn wsX6_cord wsX5_addCord := goodIn_r _ [72, 27, 15, 73, 74, 75, 40, 76, 43, 44, 49, 77, 78, 79, 80, 45, 46, 47, 48, 94, 95, 96, 97, 98, 99, 100, 101, 102, 103, 104, 105, 106, 107, 108, 109, 110, 111, 112] (by decide +kernel) (by decide +kernel)
set_option maxRecDepth 20000 in
theorem gX6_cord_X5_addCord : GoodIn wsX6_cord (wsV RX6 67 RX5 yX5_addCord wsX5_addCord) := goodIn_app (goodIn_of _ (by decide +kernel)) ggX6_cord_X5_addCord
set_option maxRecDepth 20000 in
theorem ggX6_cord_X1_addSegment : GoodIn wsX6_cord wsX1_addSegment := goodIn_r _ [84, 43, 42, 44, 105, 106, 107, 108, 109, 110, 111, 112] (by decide +kernel) (by decide +kernel)
set_option maxRecDepth 20000 in
theorem gX6_cord_X1_addSegment : GoodIn wsX6_cord (wsV RX6 71 RX1 yX1_addSegment wsX1_addSegment) := goodIn_app (goodIn_of _ (by decide +kernel)) ggX6_cord_X1_addSegment
theorem dX6_cord_0 : decode cX6_cord 0 = .ok (.iload_n 1, 1) := by decide +kernel
theorem dX6_cord_1 : decode cX6_cord 1 = .ok (.iconst 1, 1) := by decide +kernel
theorem dX6_cord_2 : decode cX6_cord 2 = .ok (.if_icmp .lt 16, 3) := by decide +kernel
theorem dX6_cord_5 : decode cX6_cord 5 = .ok (.iload_n 1, 1) := by decide +kernel
theorem dX6_cord_6 : decode cX6_cord 6 = .ok (.bipush 6, 2) := by decide +kernel
theorem dX6_cord_8 : decode cX6_cord 8 = .ok (.if_icmp .gt 10, 3) := by decide +kernel
theorem dX6_cord_11 : decode cX6_cord 11 = .ok (.iload_n 2, 1) := by decide +kernel
theorem dX6_cord_12 : decode cX6_cord 12 = .ok (.invokestatic 44, 3) := by decide +kernel
theorem dX6_cord_15 : decode cX6_cord 15 = .ok (.ifCond .ne 13, 3) := by decide +kernel
theorem dX6_cord_18 : decode cX6_cord 18 = .ok (.new 48, 3) := by decide +kernel
theorem dX6_cord_21 : decode cX6_cord 21 = .ok (.dup, 1) := by decide +kernel
theorem dX6_cord_22 : decode cX6_cord 22 = .ok (.ldc 50, 2) := by decide +kernel
theorem dX6_cord_24 : decode cX6_cord 24 = .ok (.invokespecial 52, 3) := by decide +kernel
theorem dX6_cord_27 : decode cX6_cord 27 = .ok (.athrow, 1) := by decide +kernel
theorem dX6_cord_28 : decode cX6_cord 28 = .ok (.aload_n 0, 1) := by decide +kernel
theorem dX6_cord_29 : decode cX6_cord 29 = .ok (.getfield 10, 3) := by decide +kernel
theorem dX6_cord_32 : decode cX6_cord 32 = .ok (.invokevirtual 55, 3) := by decide +kernel
theorem dX6_cord_35 : decode cX6_cord 35 = .ok (.ifCond .ne 13, 3) := by decide +kernel
theorem dX6_cord_38 : decode cX6_cord 38 = .ok (.new 59, 3) := by decide +kernel
theorem dX6_cord_41 : decode cX6_cord 41 = .ok (.dup, 1) := by decide +kernel
theorem dX6_cord_42 : decode cX6_cord 42 = .ok (.ldc 61, 2) := by decide +kernel
theorem dX6_cord_44 : decode cX6_cord 44 = .ok (.invokespecial 63, 3) := by decide +kernel
theorem dX6_cord_47 : decode cX6_cord 47 = .ok (.athrow, 1) := by decide +kernel
theorem dX6_cord_48 : decode cX6_cord 48 = .ok (.aload_n 0, 1) := by decide +kernel
theorem dX6_cord_49 : decode cX6_cord 49 = .ok (.invokevirtual 64, 3) := by decide +kernel
theorem dX6_cord_52 : decode cX6_cord 52 = .ok (.aload_n 0, 1) := by decide +kernel
theorem dX6_cord_53 : decode cX6_cord 53 = .ok (.getfield 10, 3) := by decide +kernel
theorem dX6_cord_56 : decode cX6_cord 56 = .ok (.invokevirtual 67, 3) := by decide +kernel
theorem dX6_cord_59 : decode cX6_cord 59 = .ok (.astore_n 3, 1) := by decide +kernel
theorem dX6_cord_60 : decode cX6_cord 60 = .ok (.iconst 0, 1) := by decide +kernel
theorem dX6_cord_61 : decode cX6_cord 61 = .ok (.istore 4, 2) := by decide +kernel
theorem dX6_cord_63 : decode cX6_cord 63 = .ok (.iload 4, 2) := by decide +kernel
theorem dX6_cord_65 : decode cX6_cord 65 = .ok (.iload_n 1, 1) := by decide +kernel
theorem dX6_cord_66 : decode cX6_cord 66 = .ok (.if_icmp .ge 14, 3) := by decide +kernel
theorem dX6_cord_69 : decode cX6_cord 69 = .ok (.aload_n 3, 1) := by decide +kernel
theorem dX6_cord_70 : decode cX6_cord 70 = .ok (.iload_n 2, 1) := by decide +kernel
theorem dX6_cord_71 : decode cX6_cord 71 = .ok (.invokevirtual 71, 3) := by decide +kernel
theorem dX6_cord_74 : decode cX6_cord 74 = .ok (.iinc 4 1, 3) := by decide +kernel
theorem dX6_cord_77 : decode cX6_cord 77 = .ok (.goto (-14), 3) := by decide +kernel
theorem dX6_cord_80 : decode cX6_cord 80 = .ok (.aload_n 0, 1) := by decide +kernel
theorem dX6_cord_81 : decode cX6_cord 81 = .ok (.getfield 10, 3) := by decide +kernel
theorem dX6_cord_84 : decode cX6_cord 84 = .ok (.getfield 77, 3) := by decide +kernel
theorem dX6_cord_87 : decode cX6_cord 87 = .ok (.iconst 1, 1) := by decide +kernel
theorem dX6_cord_88 : decode cX6_cord 88 = .ok (.isub, 1) := by decide +kernel
theorem dX6_cord_89 : decode cX6_cord 89 = .ok (.ireturn, 1) := by decide +kernel
set_option maxRecDepth 20000 in
theorem ggX6_uneven_X6_requireSegment : GoodIn wsX6_uneven wsX6_requireSegment := goodIn_ca (goodIn_r _ [10, 11, 12, 5, 13, 14, 15, 9, 16, 17, 18, 19, 20, 21, 22, 91, 92, 93, 94, 95, 96, 97, 98, 99, 100, 101, 102, 103, 104, 105, 106, 107, 108, 109, 110, 111, 112, 113, 114, 115, 116, 117, 118] (by decide +kernel) (by decide +kernel)) (goodIn_sub (fun _ h => List.mem_cons_of_mem _ (List.mem_append_right _ h)) (by decide +kernel))
set_option maxRecDepth 20000 in
theorem gX6_uneven_X6_requireSegment : GoodIn wsX6_uneven (wsV RX6 81 RX6 yX6_requireSegment wsX6_requireSegment) := goodIn_app (goodIn_of _ (by decide +kernel)) ggX6_uneven_X6_requireSegment
set_option maxRecDepth 20000 in
theorem ggX6_uneven_X6_isSegmentTime : GoodIn wsX6_uneven wsX6_isSegmentTime := goodIn_r _ [25] (by decide +kernel) (by decide +kernel)
set_option maxRecDepth 20000 in
theorem gX6_uneven_X6_isSegmentTime : GoodIn wsX6_uneven (va_wsS RX6 44 yX6_isSegmentTime wsX6_isSegmentTime) := goodIn_app (goodIn_of _ (by decide +kernel)) ggX6_uneven_X6_isSegmentTime
set_option maxRecDepth 20000 in
theorem ggX6_uneven_X1_burnedTime : GoodIn wsX6_uneven wsX1_burnedTime := goodIn_r _ [30, 31, 32, 111, 112, 113, 114, 115, 116, 117, 118] (by decide +kernel) (by decide +kernel)
set_option maxRecDepth 20000 in
theorem gX6_uneven_X1_burnedTime : GoodIn wsX6_uneven (wsV RX6 91 RX1 yX1_burnedTime wsX1_burnedTime) := goodIn_app (goodIn_of _ (by decide +kernel)) ggX6_uneven_X1_burnedTime
set_option maxRecDepth 20000 in
theorem ggX6_uneven_X1_flameCount : GoodIn wsX6_uneven wsX1_flameCount := goodIn_r _ [36, 37, 38, 111, 112, 113, 114, 115, 116, 117, 118] (by decide +kernel) (by decide +kernel)
set_option maxRecDepth 20000 in
theorem gX6_uneven_X1_flameCount : GoodIn wsX6_uneven (wsV RX6 95 RX1 yX1_flameCount wsX1_flameCount) := goodIn_app (goodIn_of _ (by decide +kernel)) ggX6_uneven_X1_flameCount
set_option maxRecDepth 20000 in
theorem ggX6_uneven_X6_save : GoodIn wsX6_uneven wsX6_save := goodIn_r _ [42, 43, 44, 45, 5, 46, 47, 48, 20, 49, 50, 22, 51, 52, 53, 54, 55, 56, 57, 58, 59, 60, 61, 62, 29, 63, 64, 65, 66, 31, 32, 37, 38, 67, 68, 69, 70, 71, 72, 73, 74, 75, 76, 77, 78, 79, 80, 81, 82, 83, 84, 85, 86, 91, 92, 93, 94, 95, 96, 97, 98, 99, 100, 101, 102, 103, 104, 105, 106, 107, 108, 109, 110, 111, 112, 113, 114, 115, 116, 117, 118, 119, 120, 121, 122, 123, 124, 125, 126, 127] (by decide +kernel) (by decide +kernel)
set_option maxRecDepth 20000 in
theorem gX6_uneven_X6_save : GoodIn wsX6_uneven (wsV RX6 64 RX6 yX6_save wsX6_save) := goodIn_app (goodIn_of _ (by decide +kernel)) ggX6_uneven_X6_save
set_option maxRecDepth 20000 in
theorem ggX6_uneven_X1_changeTime : GoodIn wsX6_uneven wsX1_changeTime := goodIn_r _ [90, 66, 64, 111, 112, 113, 114, 115, 116, 117, 118] (by decide +kernel) (by decide +kernel)
set_option maxRecDepth 20000 in
theorem gX6_uneven_X1_changeTime : GoodIn wsX6_uneven (wsV RX6 104 RX1 yX1_changeTime wsX1_changeTime) := goodIn_app (goodIn_of _ (by decide +kernel)) ggX6_uneven_X1_changeTime
theorem dX6_uneven_0 : decode cX6_uneven 0 = .ok (.aload_n 0, 1) := by decide +kernel
theorem dX6_uneven_1 : decode cX6_uneven 1 = .ok (.iload_n 1, 1) := by decide +kernel
theorem dX6_uneven_2 : decode cX6_uneven 2 = .ok (.iload_n 2, 1) := by decide +kernel
theorem dX6_uneven_3 : decode cX6_uneven 3 = .ok (.invokevirtual 81, 3) := by decide +kernel
theorem dX6_uneven_6 : decode cX6_uneven 6 = .ok (.iload_n 3, 1) := by decide +kernel
theorem dX6_uneven_7 : decode cX6_uneven 7 = .ok (.invokestatic 44, 3) := by decide +kernel
theorem dX6_uneven_10 : decode cX6_uneven 10 = .ok (.ifCond .ne 13, 3) := by decide +kernel
theorem dX6_uneven_13 : decode cX6_uneven 13 = .ok (.new 48, 3) := by decide +kernel
theorem dX6_uneven_16 : decode cX6_uneven 16 = .ok (.dup, 1) := by decide +kernel
theorem dX6_uneven_17 : decode cX6_uneven 17 = .ok (.ldc 85, 2) := by decide +kernel
theorem dX6_uneven_19 : decode cX6_uneven 19 = .ok (.invokespecial 52, 3) := by decide +kernel
theorem dX6_uneven_22 : decode cX6_uneven 22 = .ok (.athrow, 1) := by decide +kernel
theorem dX6_uneven_23 : decode cX6_uneven 23 = .ok (.aload_n 0, 1) := by decide +kernel
theorem dX6_uneven_24 : decode cX6_uneven 24 = .ok (.getfield 10, 3) := by decide +kernel
theorem dX6_uneven_27 : decode cX6_uneven 27 = .ok (.getfield 87, 3) := by decide +kernel
theorem dX6_uneven_30 : decode cX6_uneven 30 = .ok (.iload_n 1, 1) := by decide +kernel
theorem dX6_uneven_31 : decode cX6_uneven 31 = .ok (.aaload, 1) := by decide +kernel
theorem dX6_uneven_32 : decode cX6_uneven 32 = .ok (.astore 4, 2) := by decide +kernel
theorem dX6_uneven_34 : decode cX6_uneven 34 = .ok (.aload 4, 2) := by decide +kernel
theorem dX6_uneven_36 : decode cX6_uneven 36 = .ok (.invokevirtual 91, 3) := by decide +kernel
theorem dX6_uneven_39 : decode cX6_uneven 39 = .ok (.ifCond .gt 11, 3) := by decide +kernel
theorem dX6_uneven_42 : decode cX6_uneven 42 = .ok (.aload 4, 2) := by decide +kernel
theorem dX6_uneven_44 : decode cX6_uneven 44 = .ok (.invokevirtual 95, 3) := by decide +kernel
theorem dX6_uneven_47 : decode cX6_uneven 47 = .ok (.ifCond .le 13, 3) := by decide +kernel
theorem dX6_uneven_50 : decode cX6_uneven 50 = .ok (.new 59, 3) := by decide +kernel
theorem dX6_uneven_53 : decode cX6_uneven 53 = .ok (.dup, 1) := by decide +kernel
theorem dX6_uneven_54 : decode cX6_uneven 54 = .ok (.ldc 98, 2) := by decide +kernel
theorem dX6_uneven_56 : decode cX6_uneven 56 = .ok (.invokespecial 63, 3) := by decide +kernel
theorem dX6_uneven_59 : decode cX6_uneven 59 = .ok (.athrow, 1) := by decide +kernel
theorem dX6_uneven_60 : decode cX6_uneven 60 = .ok (.aload_n 0, 1) := by decide +kernel
theorem dX6_uneven_61 : decode cX6_uneven 61 = .ok (.invokevirtual 64, 3) := by decide +kernel
theorem dX6_uneven_64 : decode cX6_uneven 64 = .ok (.aload 4, 2) := by decide +kernel
theorem dX6_uneven_66 : decode cX6_uneven 66 = .ok (.getfield 100, 3) := by decide +kernel
theorem dX6_uneven_69 : decode cX6_uneven 69 = .ok (.iload_n 2, 1) := by decide +kernel
theorem dX6_uneven_70 : decode cX6_uneven 70 = .ok (.iaload, 1) := by decide +kernel
theorem dX6_uneven_71 : decode cX6_uneven 71 = .ok (.istore 5, 2) := by decide +kernel
theorem dX6_uneven_73 : decode cX6_uneven 73 = .ok (.aload 4, 2) := by decide +kernel
theorem dX6_uneven_75 : decode cX6_uneven 75 = .ok (.iload_n 2, 1) := by decide +kernel
theorem dX6_uneven_76 : decode cX6_uneven 76 = .ok (.iload_n 3, 1) := by decide +kernel
theorem dX6_uneven_77 : decode cX6_uneven 77 = .ok (.invokevirtual 104, 3) := by decide +kernel
theorem dX6_uneven_80 : decode cX6_uneven 80 = .ok (.iload 5, 2) := by decide +kernel
theorem dX6_uneven_82 : decode cX6_uneven 82 = .ok (.ireturn, 1) := by decide +kernel
set_option maxRecDepth 20000 in
theorem ggX6_renew_X6_requireCord : GoodIn wsX6_renew wsX6_requireCord := goodIn_ca (goodIn_r _ [6, 7, 8, 1, 9, 10, 11, 12, 13, 14, 76, 77, 78, 79, 80, 81, 82, 83, 84, 85, 86, 87, 88, 89, 90, 91, 92, 93, 94, 95] (by decide +kernel) (by decide +kernel)) (goodIn_sub (fun _ h => List.mem_cons_of_mem _ (List.mem_append_right _ h)) (by decide +kernel))
set_option maxRecDepth 20000 in
theorem gX6_renew_X6_requireCord : GoodIn wsX6_renew (wsV RX6 107 RX6 yX6_requireCord wsX6_requireCord) := goodIn_app (goodIn_of _ (by decide +kernel)) ggX6_renew_X6_requireCord
set_option maxRecDepth 20000 in
theorem ggX6_renew_X6_save : GoodIn wsX6_renew wsX6_save := goodIn_r _ [18, 19, 20, 21, 1, 22, 23, 24, 12, 25, 26, 14, 27, 28, 29, 30, 31, 32, 33, 34, 35, 36, 37, 38, 39, 40, 41, 42, 43, 44, 45, 46, 47, 48, 49, 50, 51, 52, 53, 54, 55, 56, 57, 58, 59, 60, 61, 62, 63, 64, 65, 66, 67, 76, 77, 78, 79, 80, 81, 82, 83, 84, 85, 86, 87, 88, 89, 90, 91, 92, 93, 94, 95, 96, 97, 98, 99, 100, 101, 102, 103, 104, 105, 106, 107, 108, 109, 110, 111, 112] (by decide +kernel) (by decide +kernel)
set_option maxRecDepth 20000 in
theorem gX6_renew_X6_save : GoodIn wsX6_renew (wsV RX6 64 RX6 yX6_save wsX6_save) := goodIn_app (goodIn_of _ (by decide +kernel)) ggX6_renew_X6_save
set_option maxRecDepth 20000 in
theorem ggX6_renew_X1_burnedTime : GoodIn wsX6_renew wsX1_burnedTime := goodIn_r _ [71, 44, 45, 96, 97, 98, 99, 100, 101, 102, 103] (by decide +kernel) (by decide +kernel)
set_option maxRecDepth 20000 in
theorem gX6_renew_X1_burnedTime : GoodIn wsX6_renew (wsV RX6 91 RX1 yX1_burnedTime wsX1_burnedTime) := goodIn_app (goodIn_of _ (by decide +kernel)) ggX6_renew_X1_burnedTime
set_option maxRecDepth 20000 in
theorem ggX6_renew_X1_makeNew : GoodIn wsX6_renew wsX1_makeNew := goodIn_r _ [75, 44, 45, 46, 47, 96, 97, 98, 99, 100, 101, 102, 103] (by decide +kernel) (by decide +kernel)
set_option maxRecDepth 20000 in
theorem gX6_renew_X1_makeNew : GoodIn wsX6_renew (wsV RX6 110 RX1 yX1_makeNew wsX1_makeNew) := goodIn_app (goodIn_of _ (by decide +kernel)) ggX6_renew_X1_makeNew
theorem dX6_renew_0 : decode cX6_renew 0 = .ok (.aload_n 0, 1) := by decide +kernel
theorem dX6_renew_1 : decode cX6_renew 1 = .ok (.iload_n 1, 1) := by decide +kernel
theorem dX6_renew_2 : decode cX6_renew 2 = .ok (.invokevirtual 107, 3) := by decide +kernel
theorem dX6_renew_5 : decode cX6_renew 5 = .ok (.aload_n 0, 1) := by decide +kernel
theorem dX6_renew_6 : decode cX6_renew 6 = .ok (.invokevirtual 64, 3) := by decide +kernel
theorem dX6_renew_9 : decode cX6_renew 9 = .ok (.aload_n 0, 1) := by decide +kernel
theorem dX6_renew_10 : decode cX6_renew 10 = .ok (.getfield 10, 3) := by decide +kernel
theorem dX6_renew_13 : decode cX6_renew 13 = .ok (.getfield 87, 3) := by decide +kernel
theorem dX6_renew_16 : decode cX6_renew 16 = .ok (.iload_n 1, 1) := by decide +kernel
theorem dX6_renew_17 : decode cX6_renew 17 = .ok (.aaload, 1) := by decide +kernel
theorem dX6_renew_18 : decode cX6_renew 18 = .ok (.invokevirtual 91, 3) := by decide +kernel
theorem dX6_renew_21 : decode cX6_renew 21 = .ok (.istore_n 2, 1) := by decide +kernel
theorem dX6_renew_22 : decode cX6_renew 22 = .ok (.aload_n 0, 1) := by decide +kernel
theorem dX6_renew_23 : decode cX6_renew 23 = .ok (.getfield 10, 3) := by decide +kernel
theorem dX6_renew_26 : decode cX6_renew 26 = .ok (.getfield 87, 3) := by decide +kernel
theorem dX6_renew_29 : decode cX6_renew 29 = .ok (.iload_n 1, 1) := by decide +kernel
theorem dX6_renew_30 : decode cX6_renew 30 = .ok (.aaload, 1) := by decide +kernel
theorem dX6_renew_31 : decode cX6_renew 31 = .ok (.invokevirtual 110, 3) := by decide +kernel
theorem dX6_renew_34 : decode cX6_renew 34 = .ok (.iload_n 2, 1) := by decide +kernel
theorem dX6_renew_35 : decode cX6_renew 35 = .ok (.ireturn, 1) := by decide +kernel
set_option maxRecDepth 20000 in
theorem ggX6_light_X6_requireCord : GoodIn wsX6_light wsX6_requireCord := goodIn_ca (goodIn_r _ [8, 9, 10, 3, 11, 12, 13, 14, 15, 16, 102, 103, 104, 105, 106, 107, 108, 109, 110, 111, 112, 113, 114, 115, 116, 117, 118, 119, 120, 121] (by decide +kernel) (by decide +kernel)) (goodIn_sub (fun _ h => List.mem_cons_of_mem _ (List.mem_append_right _ h)) (by decide +kernel))
set_option maxRecDepth 20000 in
theorem gX6_light_X6_requireCord : GoodIn wsX6_light (wsV RX6 107 RX6 yX6_requireCord wsX6_requireCord) := goodIn_app (goodIn_of _ (by decide +kernel)) ggX6_light_X6_requireCord
set_option maxRecDepth 20000 in
theorem ggX6_light_X1_canBeLit : GoodIn wsX6_light wsX1_canBeLit := goodIn_r _ [21, 22, 23, 24, 20, 25, 26, 27, 28, 29, 30, 31, 32, 33, 34, 122, 123, 124, 125, 126, 127, 128, 129] (by decide +kernel) (by decide +kernel)
set_option maxRecDepth 20000 in
theorem gX6_light_X1_canBeLit : GoodIn wsX6_light (wsV RX6 113 RX1 yX1_canBeLit wsX1_canBeLit) := goodIn_app (goodIn_of _ (by decide +kernel)) ggX6_light_X1_canBeLit
set_option maxRecDepth 20000 in
theorem ggX6_light_X6_save : GoodIn wsX6_light wsX6_save := goodIn_r _ [38, 39, 40, 41, 3, 42, 43, 44, 14, 45, 46, 16, 47, 48, 49, 50, 51, 52, 53, 54, 55, 56, 57, 58, 20, 59, 60, 61, 28, 26, 27, 33, 34, 62, 63, 64, 65, 66, 67, 68, 69, 70, 71, 72, 73, 74, 75, 76, 77, 78, 79, 80, 81, 102, 103, 104, 105, 106, 107, 108, 109, 110, 111, 112, 113, 114, 115, 116, 117, 118, 119, 120, 121, 122, 123, 124, 125, 126, 127, 128, 129, 130, 131, 132, 133, 134, 135, 136, 137, 138] (by decide +kernel) (by decide +kernel)
set_option maxRecDepth 20000 in
theorem gX6_light_X6_save : GoodIn wsX6_light (wsV RX6 64 RX6 yX6_save wsX6_save) := goodIn_app (goodIn_of _ (by decide +kernel)) ggX6_light_X6_save
set_option maxRecDepth 20000 in
theorem ggX6_light_X5_lightEnd : GoodIn wsX6_light wsX5_lightEnd := goodIn_r _ [85, 46, 52, 49, 50, 86, 87, 88, 20, 89, 33, 34, 90, 91, 92, 75, 93, 77, 80, 78, 79, 81, 111, 112, 113, 114, 115, 116, 117, 118, 119, 120, 121, 122, 123, 124, 125, 126, 127, 128, 129, 134, 135, 136, 137, 138] (by decide +kernel) (by decide +kernel)
set_option maxRecDepth 20000 in
theorem gX6_light_X5_lightEnd : GoodIn wsX6_light (wsV RX6 119 RX5 yX5_lightEnd wsX5_lightEnd) := goodIn_app (goodIn_of _ (by decide +kernel)) ggX6_light_X5_lightEnd
set_option maxRecDepth 20000 in
theorem ggX6_light_X5_flameCount : GoodIn wsX6_light wsX5_flameCount := goodIn_r _ [97, 16, 46, 98, 99, 100, 20, 101, 33, 34, 111, 112, 113, 114, 115, 116, 117, 118, 119, 120, 121, 122, 123, 124, 125, 126, 127, 128, 129] (by decide +kernel) (by decide +kernel)
set_option maxRecDepth 20000 in
theorem gX6_light_X5_flameCount : GoodIn wsX6_light (wsV RX6 123 RX5 yX5_flameCount wsX5_flameCount) := goodIn_app (goodIn_of _ (by decide +kernel)) ggX6_light_X5_flameCount
theorem dX6_light_0 : decode cX6_light 0 = .ok (.aload_n 0, 1) := by decide +kernel
theorem dX6_light_1 : decode cX6_light 1 = .ok (.iload_n 1, 1) := by decide +kernel
theorem dX6_light_2 : decode cX6_light 2 = .ok (.invokevirtual 107, 3) := by decide +kernel
theorem dX6_light_5 : decode cX6_light 5 = .ok (.aload_n 0, 1) := by decide +kernel
theorem dX6_light_6 : decode cX6_light 6 = .ok (.getfield 10, 3) := by decide +kernel
theorem dX6_light_9 : decode cX6_light 9 = .ok (.getfield 87, 3) := by decide +kernel
theorem dX6_light_12 : decode cX6_light 12 = .ok (.iload_n 1, 1) := by decide +kernel
theorem dX6_light_13 : decode cX6_light 13 = .ok (.aaload, 1) := by decide +kernel
theorem dX6_light_14 : decode cX6_light 14 = .ok (.iload_n 2, 1) := by decide +kernel
theorem dX6_light_15 : decode cX6_light 15 = .ok (.invokevirtual 113, 3) := by decide +kernel
theorem dX6_light_18 : decode cX6_light 18 = .ok (.ifCond .ne 13, 3) := by decide +kernel
theorem dX6_light_21 : decode cX6_light 21 = .ok (.new 59, 3) := by decide +kernel
theorem dX6_light_24 : decode cX6_light 24 = .ok (.dup, 1) := by decide +kernel
theorem dX6_light_25 : decode cX6_light 25 = .ok (.ldc 117, 2) := by decide +kernel
theorem dX6_light_27 : decode cX6_light 27 = .ok (.invokespecial 63, 3) := by decide +kernel
theorem dX6_light_30 : decode cX6_light 30 = .ok (.athrow, 1) := by decide +kernel
theorem dX6_light_31 : decode cX6_light 31 = .ok (.aload_n 0, 1) := by decide +kernel
theorem dX6_light_32 : decode cX6_light 32 = .ok (.invokevirtual 64, 3) := by decide +kernel
theorem dX6_light_35 : decode cX6_light 35 = .ok (.aload_n 0, 1) := by decide +kernel
theorem dX6_light_36 : decode cX6_light 36 = .ok (.getfield 10, 3) := by decide +kernel
theorem dX6_light_39 : decode cX6_light 39 = .ok (.iload_n 1, 1) := by decide +kernel
theorem dX6_light_40 : decode cX6_light 40 = .ok (.iload_n 2, 1) := by decide +kernel
theorem dX6_light_41 : decode cX6_light 41 = .ok (.invokevirtual 119, 3) := by decide +kernel
theorem dX6_light_44 : decode cX6_light 44 = .ok (.aload_n 0, 1) := by decide +kernel
theorem dX6_light_45 : decode cX6_light 45 = .ok (.getfield 10, 3) := by decide +kernel
theorem dX6_light_48 : decode cX6_light 48 = .ok (.invokevirtual 123, 3) := by decide +kernel
theorem dX6_light_51 : decode cX6_light 51 = .ok (.ireturn, 1) := by decide +kernel
set_option maxRecDepth 20000 in
theorem ggX6_putOut_X6_requireCord : GoodIn wsX6_putOut wsX6_requireCord := goodIn_ca (goodIn_r _ [8, 9, 10, 3, 11, 12, 13, 14, 15, 16, 86, 87, 88, 89, 90, 91, 92, 93, 94, 95, 96, 97, 98, 99, 100, 101, 102, 103, 104, 105] (by decide +kernel) (by decide +kernel)) (goodIn_sub (fun _ h => List.mem_cons_of_mem _ (List.mem_append_right _ h)) (by decide +kernel))
set_option maxRecDepth 20000 in
theorem gX6_putOut_X6_requireCord : GoodIn wsX6_putOut (wsV RX6 107 RX6 yX6_requireCord wsX6_requireCord) := goodIn_app (goodIn_of _ (by decide +kernel)) ggX6_putOut_X6_requireCord
set_option maxRecDepth 20000 in
theorem ggX6_putOut_X1_hasFlame : GoodIn wsX6_putOut wsX1_hasFlame := goodIn_r _ [21, 22, 23, 106, 107, 108, 109, 110, 111, 112, 113] (by decide +kernel) (by decide +kernel)
set_option maxRecDepth 20000 in
theorem gX6_putOut_X1_hasFlame : GoodIn wsX6_putOut (wsV RX6 124 RX1 yX1_hasFlame wsX1_hasFlame) := goodIn_app (goodIn_of _ (by decide +kernel)) ggX6_putOut_X1_hasFlame
set_option maxRecDepth 20000 in
theorem ggX6_putOut_X6_save : GoodIn wsX6_putOut wsX6_save := goodIn_r _ [27, 28, 29, 30, 3, 31, 32, 33, 14, 34, 35, 16, 36, 37, 38, 39, 40, 41, 42, 43, 44, 45, 46, 47, 20, 48, 49, 50, 51, 52, 53, 22, 23, 54, 55, 56, 57, 58, 59, 60, 61, 62, 63, 64, 65, 66, 67, 68, 69, 70, 71, 72, 73, 86, 87, 88, 89, 90, 91, 92, 93, 94, 95, 96, 97, 98, 99, 100, 101, 102, 103, 104, 105, 106, 107, 108, 109, 110, 111, 112, 113, 114, 115, 116, 117, 118, 119, 120, 121, 122] (by decide +kernel) (by decide +kernel)
set_option maxRecDepth 20000 in
theorem gX6_putOut_X6_save : GoodIn wsX6_putOut (wsV RX6 64 RX6 yX6_save wsX6_save) := goodIn_app (goodIn_of _ (by decide +kernel)) ggX6_putOut_X6_save
set_option maxRecDepth 20000 in
theorem ggX6_putOut_X1_setFlame : GoodIn wsX6_putOut wsX1_setFlame := goodIn_r _ [77, 22, 23, 106, 107, 108, 109, 110, 111, 112, 113] (by decide +kernel) (by decide +kernel)
set_option maxRecDepth 20000 in
theorem gX6_putOut_X1_setFlame : GoodIn wsX6_putOut (wsV RX6 129 RX1 yX1_setFlame wsX1_setFlame) := goodIn_app (goodIn_of _ (by decide +kernel)) ggX6_putOut_X1_setFlame
set_option maxRecDepth 20000 in
theorem ggX6_putOut_X5_flameCount : GoodIn wsX6_putOut wsX5_flameCount := goodIn_r _ [81, 16, 35, 82, 83, 84, 20, 85, 22, 23, 95, 96, 97, 98, 99, 100, 101, 102, 103, 104, 105, 106, 107, 108, 109, 110, 111, 112, 113] (by decide +kernel) (by decide +kernel)
set_option maxRecDepth 20000 in
theorem gX6_putOut_X5_flameCount : GoodIn wsX6_putOut (wsV RX6 123 RX5 yX5_flameCount wsX5_flameCount) := goodIn_app (goodIn_of _ (by decide +kernel)) ggX6_putOut_X5_flameCount
theorem dX6_putOut_0 : decode cX6_putOut 0 = .ok (.aload_n 0, 1) := by decide +kernel
theorem dX6_putOut_1 : decode cX6_putOut 1 = .ok (.iload_n 1, 1) := by decide +kernel
theorem dX6_putOut_2 : decode cX6_putOut 2 = .ok (.invokevirtual 107, 3) := by decide +kernel
theorem dX6_putOut_5 : decode cX6_putOut 5 = .ok (.aload_n 0, 1) := by decide +kernel
theorem dX6_putOut_6 : decode cX6_putOut 6 = .ok (.getfield 10, 3) := by decide +kernel
theorem dX6_putOut_9 : decode cX6_putOut 9 = .ok (.getfield 87, 3) := by decide +kernel
theorem dX6_putOut_12 : decode cX6_putOut 12 = .ok (.iload_n 1, 1) := by decide +kernel
theorem dX6_putOut_13 : decode cX6_putOut 13 = .ok (.aaload, 1) := by decide +kernel
theorem dX6_putOut_14 : decode cX6_putOut 14 = .ok (.iload_n 2, 1) := by decide +kernel
theorem dX6_putOut_15 : decode cX6_putOut 15 = .ok (.invokevirtual 124, 3) := by decide +kernel
theorem dX6_putOut_18 : decode cX6_putOut 18 = .ok (.ifCond .ne 13, 3) := by decide +kernel
theorem dX6_putOut_21 : decode cX6_putOut 21 = .ok (.new 59, 3) := by decide +kernel
theorem dX6_putOut_24 : decode cX6_putOut 24 = .ok (.dup, 1) := by decide +kernel
theorem dX6_putOut_25 : decode cX6_putOut 25 = .ok (.ldc 127, 2) := by decide +kernel
theorem dX6_putOut_27 : decode cX6_putOut 27 = .ok (.invokespecial 63, 3) := by decide +kernel
theorem dX6_putOut_30 : decode cX6_putOut 30 = .ok (.athrow, 1) := by decide +kernel
theorem dX6_putOut_31 : decode cX6_putOut 31 = .ok (.aload_n 0, 1) := by decide +kernel
theorem dX6_putOut_32 : decode cX6_putOut 32 = .ok (.invokevirtual 64, 3) := by decide +kernel
theorem dX6_putOut_35 : decode cX6_putOut 35 = .ok (.aload_n 0, 1) := by decide +kernel
theorem dX6_putOut_36 : decode cX6_putOut 36 = .ok (.getfield 10, 3) := by decide +kernel
theorem dX6_putOut_39 : decode cX6_putOut 39 = .ok (.getfield 87, 3) := by decide +kernel
theorem dX6_putOut_42 : decode cX6_putOut 42 = .ok (.iload_n 1, 1) := by decide +kernel
theorem dX6_putOut_43 : decode cX6_putOut 43 = .ok (.aaload, 1) := by decide +kernel
theorem dX6_putOut_44 : decode cX6_putOut 44 = .ok (.iload_n 2, 1) := by decide +kernel
theorem dX6_putOut_45 : decode cX6_putOut 45 = .ok (.iconst 0, 1) := by decide +kernel
theorem dX6_putOut_46 : decode cX6_putOut 46 = .ok (.invokevirtual 129, 3) := by decide +kernel
theorem dX6_putOut_49 : decode cX6_putOut 49 = .ok (.aload_n 0, 1) := by decide +kernel
theorem dX6_putOut_50 : decode cX6_putOut 50 = .ok (.getfield 10, 3) := by decide +kernel
theorem dX6_putOut_53 : decode cX6_putOut 53 = .ok (.invokevirtual 123, 3) := by decide +kernel
theorem dX6_putOut_56 : decode cX6_putOut 56 = .ok (.ireturn, 1) := by decide +kernel
set_option maxRecDepth 20000 in
theorem ggX6_rule_X6_requireCord : GoodIn wsX6_rule wsX6_requireCord := goodIn_ca (goodIn_r _ [10, 11, 12, 5, 13, 14, 15, 16, 17, 18, 80, 81, 82, 83, 84, 85, 86, 87, 88, 89, 90, 91, 92, 93, 94, 95, 96, 97, 98, 99] (by decide +kernel) (by decide +kernel)) (goodIn_sub (fun _ h => List.mem_cons_of_mem _ (List.mem_append_right _ h)) (by decide +kernel))
set_option maxRecDepth 20000 in
theorem gX6_rule_X6_requireCord : GoodIn wsX6_rule (wsV RX6 107 RX6 yX6_requireCord wsX6_requireCord) := goodIn_app (goodIn_of _ (by decide +kernel)) ggX6_rule_X6_requireCord
set_option maxRecDepth 20000 in
theorem ggX6_rule_X5_hasRoomForRule : GoodIn wsX6_rule wsX5_hasRoomForRule := goodIn_r _ [22, 23, 89, 90, 91, 92, 93, 94, 95, 96, 97, 98, 99] (by decide +kernel) (by decide +kernel)
set_option maxRecDepth 20000 in
theorem gX6_rule_X5_hasRoomForRule : GoodIn wsX6_rule (wsV RX6 135 RX5 yX5_hasRoomForRule wsX5_hasRoomForRule) := goodIn_app (goodIn_of _ (by decide +kernel)) ggX6_rule_X5_hasRoomForRule
set_option maxRecDepth 20000 in
theorem ggX6_rule_X6_save : GoodIn wsX6_rule wsX6_save := goodIn_r _ [27, 28, 29, 30, 5, 31, 32, 33, 16, 34, 35, 18, 36, 23, 37, 38, 39, 40, 41, 42, 43, 44, 45, 46, 47, 48, 49, 50, 51, 52, 53, 54, 55, 56, 57, 58, 59, 60, 61, 62, 63, 64, 65, 66, 67, 68, 69, 70, 71, 72, 73, 74, 75, 80, 81, 82, 83, 84, 85, 86, 87, 88, 89, 90, 91, 92, 93, 94, 95, 96, 97, 98, 99, 100, 101, 102, 103, 104, 105, 106, 107, 108, 109, 110, 111, 112, 113, 114, 115, 116] (by decide +kernel) (by decide +kernel)
set_option maxRecDepth 20000 in
theorem gX6_rule_X6_save : GoodIn wsX6_rule (wsV RX6 64 RX6 yX6_save wsX6_save) := goodIn_app (goodIn_of _ (by decide +kernel)) ggX6_rule_X6_save
set_option maxRecDepth 20000 in
theorem ggX6_rule_X5_addRule : GoodIn wsX6_rule wsX5_addRule := goodIn_r _ [79, 36, 23, 89, 90, 91, 92, 93, 94, 95, 96, 97, 98, 99, 108, 109, 110, 111] (by decide +kernel) (by decide +kernel)
set_option maxRecDepth 20000 in
theorem gX6_rule_X5_addRule : GoodIn wsX6_rule (wsV RX6 140 RX5 yX5_addRule wsX5_addRule) := goodIn_app (goodIn_of _ (by decide +kernel)) ggX6_rule_X5_addRule
theorem dX6_rule_0 : decode cX6_rule 0 = .ok (.aload_n 0, 1) := by decide +kernel
theorem dX6_rule_1 : decode cX6_rule 1 = .ok (.iload_n 1, 1) := by decide +kernel
theorem dX6_rule_2 : decode cX6_rule 2 = .ok (.invokevirtual 107, 3) := by decide +kernel
theorem dX6_rule_5 : decode cX6_rule 5 = .ok (.aload_n 0, 1) := by decide +kernel
theorem dX6_rule_6 : decode cX6_rule 6 = .ok (.iload_n 2, 1) := by decide +kernel
theorem dX6_rule_7 : decode cX6_rule 7 = .ok (.invokevirtual 107, 3) := by decide +kernel
theorem dX6_rule_10 : decode cX6_rule 10 = .ok (.iload_n 1, 1) := by decide +kernel
theorem dX6_rule_11 : decode cX6_rule 11 = .ok (.iload_n 2, 1) := by decide +kernel
theorem dX6_rule_12 : decode cX6_rule 12 = .ok (.if_icmp .ne 13, 3) := by decide +kernel
theorem dX6_rule_15 : decode cX6_rule 15 = .ok (.new 48, 3) := by decide +kernel
theorem dX6_rule_18 : decode cX6_rule 18 = .ok (.dup, 1) := by decide +kernel
theorem dX6_rule_19 : decode cX6_rule 19 = .ok (.ldc 133, 2) := by decide +kernel
theorem dX6_rule_21 : decode cX6_rule 21 = .ok (.invokespecial 52, 3) := by decide +kernel
theorem dX6_rule_24 : decode cX6_rule 24 = .ok (.athrow, 1) := by decide +kernel
theorem dX6_rule_25 : decode cX6_rule 25 = .ok (.aload_n 0, 1) := by decide +kernel
theorem dX6_rule_26 : decode cX6_rule 26 = .ok (.getfield 10, 3) := by decide +kernel
theorem dX6_rule_29 : decode cX6_rule 29 = .ok (.invokevirtual 135, 3) := by decide +kernel
theorem dX6_rule_32 : decode cX6_rule 32 = .ok (.ifCond .ne 13, 3) := by decide +kernel
theorem dX6_rule_35 : decode cX6_rule 35 = .ok (.new 59, 3) := by decide +kernel
theorem dX6_rule_38 : decode cX6_rule 38 = .ok (.dup, 1) := by decide +kernel
theorem dX6_rule_39 : decode cX6_rule 39 = .ok (.ldc 138, 2) := by decide +kernel
theorem dX6_rule_41 : decode cX6_rule 41 = .ok (.invokespecial 63, 3) := by decide +kernel
theorem dX6_rule_44 : decode cX6_rule 44 = .ok (.athrow, 1) := by decide +kernel
theorem dX6_rule_45 : decode cX6_rule 45 = .ok (.aload_n 0, 1) := by decide +kernel
theorem dX6_rule_46 : decode cX6_rule 46 = .ok (.invokevirtual 64, 3) := by decide +kernel
theorem dX6_rule_49 : decode cX6_rule 49 = .ok (.aload_n 0, 1) := by decide +kernel
theorem dX6_rule_50 : decode cX6_rule 50 = .ok (.getfield 10, 3) := by decide +kernel
theorem dX6_rule_53 : decode cX6_rule 53 = .ok (.iload_n 1, 1) := by decide +kernel
theorem dX6_rule_54 : decode cX6_rule 54 = .ok (.iload_n 2, 1) := by decide +kernel
theorem dX6_rule_55 : decode cX6_rule 55 = .ok (.iload_n 3, 1) := by decide +kernel
theorem dX6_rule_56 : decode cX6_rule 56 = .ok (.invokevirtual 140, 3) := by decide +kernel
theorem dX6_rule_59 : decode cX6_rule 59 = .ok (.aload_n 0, 1) := by decide +kernel
theorem dX6_rule_60 : decode cX6_rule 60 = .ok (.getfield 10, 3) := by decide +kernel
theorem dX6_rule_63 : decode cX6_rule 63 = .ok (.getfield 144, 3) := by decide +kernel
theorem dX6_rule_66 : decode cX6_rule 66 = .ok (.iconst 1, 1) := by decide +kernel
theorem dX6_rule_67 : decode cX6_rule 67 = .ok (.isub, 1) := by decide +kernel
theorem dX6_rule_68 : decode cX6_rule 68 = .ok (.ireturn, 1) := by decide +kernel
set_option maxRecDepth 20000 in
theorem ggX6_dropRules_X6_save : GoodIn wsX6_dropRules wsX6_save := goodIn_r _ [6, 7, 8, 9, 1, 10, 11, 12, 13, 14, 15, 16, 17, 18, 19, 20, 21, 22, 23, 24, 25, 26, 27, 28, 29, 30, 31, 32, 33, 34, 35, 36, 37, 38, 39, 40, 41, 42, 43, 44, 45, 46, 47, 48, 49, 50, 51, 52, 53, 54, 55, 56, 57, 58, 59, 60, 61, 62, 63, 64, 65, 66, 67, 68, 69, 70, 71, 72, 73, 74, 75, 76, 77, 78, 79, 80, 81, 82, 83, 84, 85, 86, 87, 88, 89, 90, 91, 92, 93, 94] (by decide +kernel) (by decide +kernel)
set_option maxRecDepth 20000 in
theorem gX6_dropRules_X6_save : GoodIn wsX6_dropRules (wsV RX6 64 RX6 yX6_save wsX6_save) := goodIn_app (goodIn_of _ (by decide +kernel)) ggX6_dropRules_X6_save
theorem dX6_dropRules_0 : decode cX6_dropRules 0 = .ok (.aload_n 0, 1) := by decide +kernel
theorem dX6_dropRules_1 : decode cX6_dropRules 1 = .ok (.invokevirtual 64, 3) := by decide +kernel
theorem dX6_dropRules_4 : decode cX6_dropRules 4 = .ok (.aload_n 0, 1) := by decide +kernel
theorem dX6_dropRules_5 : decode cX6_dropRules 5 = .ok (.getfield 10, 3) := by decide +kernel
theorem dX6_dropRules_8 : decode cX6_dropRules 8 = .ok (.getfield 144, 3) := by decide +kernel
theorem dX6_dropRules_11 : decode cX6_dropRules 11 = .ok (.istore_n 1, 1) := by decide +kernel
theorem dX6_dropRules_12 : decode cX6_dropRules 12 = .ok (.aload_n 0, 1) := by decide +kernel
theorem dX6_dropRules_13 : decode cX6_dropRules 13 = .ok (.getfield 10, 3) := by decide +kernel
theorem dX6_dropRules_16 : decode cX6_dropRules 16 = .ok (.iconst 0, 1) := by decide +kernel
theorem dX6_dropRules_17 : decode cX6_dropRules 17 = .ok (.putfield 144, 3) := by decide +kernel
theorem dX6_dropRules_20 : decode cX6_dropRules 20 = .ok (.iload_n 1, 1) := by decide +kernel
theorem dX6_dropRules_21 : decode cX6_dropRules 21 = .ok (.ireturn, 1) := by decide +kernel
set_option maxRecDepth 20000 in
theorem ggX6_run_X6_save : GoodIn wsX6_run wsX6_save := goodIn_r _ [8, 9, 10, 11, 3, 12, 13, 14, 15, 16, 17, 18, 19, 20, 21, 22, 23, 24, 25, 26, 27, 28, 29, 30, 31, 32, 33, 34, 35, 36, 37, 38, 39, 40, 41, 42, 43, 44, 45, 46, 47, 48, 49, 50, 51, 52, 53, 54, 55, 56, 57, 58, 59, 132, 133, 134, 135, 136, 137, 138, 139, 140, 141, 142, 143, 144, 145, 146, 147, 148, 149, 150, 151, 152, 153, 154, 155, 156, 157, 158, 159, 160, 161, 162, 163, 164, 165, 166, 167, 168] (by decide +kernel) (by decide +kernel)
set_option maxRecDepth 20000 in
theorem gX6_run_X6_save : GoodIn wsX6_run (wsV RX6 64 RX6 yX6_save wsX6_save) := goodIn_app (goodIn_of _ (by decide +kernel)) ggX6_run_X6_save
set_option maxRecDepth 20000 in
theorem ggX6_run_X5_passSteps : GoodIn wsX6_run wsX5_passSteps := goodIn_r _ [63, 64, 65, 66, 15, 67, 22, 18, 68, 69, 70, 71, 25, 26, 27, 72, 73, 74, 75, 76, 77, 78, 79, 17, 80, 81, 82, 31, 83, 38, 39, 84, 85, 86, 87, 88, 89, 90, 91, 36, 37, 92, 93, 94, 95, 96, 35, 97, 98, 99, 100, 23, 21, 20, 19, 101, 102, 103, 53, 104, 55, 58, 56, 57, 59, 105, 106, 107, 108, 109, 110, 111, 112, 113, 114, 115, 116, 117, 118, 119, 120, 24, 121, 122, 123, 124, 125, 126, 127, 128, 129, 130, 131, 141, 142, 143, 144, 145, 146, 147, 148, 149, 150, 151, 152, 153, 154, 155, 156, 157, 158, 159, 160, 161, 162, 163, 164, 165, 166, 167, 168] (by decide +kernel) (by decide +kernel)
set_option maxRecDepth 20000 in
theorem gX6_run_X5_passSteps : GoodIn wsX6_run (wsV RX6 149 RX5 yX5_passSteps wsX5_passSteps) := goodIn_app (goodIn_of _ (by decide +kernel)) ggX6_run_X5_passSteps
theorem dX6_run_0 : decode cX6_run 0 = .ok (.iload_n 1, 1) := by decide +kernel
theorem dX6_run_1 : decode cX6_run 1 = .ok (.iconst 1, 1) := by decide +kernel
theorem dX6_run_2 : decode cX6_run 2 = .ok (.if_icmp .lt 10, 3) := by decide +kernel
theorem dX6_run_5 : decode cX6_run 5 = .ok (.iload_n 1, 1) := by decide +kernel
theorem dX6_run_6 : decode cX6_run 6 = .ok (.sipush 200, 3) := by decide +kernel
theorem dX6_run_9 : decode cX6_run 9 = .ok (.if_icmp .le 13, 3) := by decide +kernel
theorem dX6_run_12 : decode cX6_run 12 = .ok (.new 48, 3) := by decide +kernel
theorem dX6_run_15 : decode cX6_run 15 = .ok (.dup, 1) := by decide +kernel
theorem dX6_run_16 : decode cX6_run 16 = .ok (.ldc 147, 2) := by decide +kernel
theorem dX6_run_18 : decode cX6_run 18 = .ok (.invokespecial 52, 3) := by decide +kernel
theorem dX6_run_21 : decode cX6_run 21 = .ok (.athrow, 1) := by decide +kernel
theorem dX6_run_22 : decode cX6_run 22 = .ok (.aload_n 0, 1) := by decide +kernel
theorem dX6_run_23 : decode cX6_run 23 = .ok (.invokevirtual 64, 3) := by decide +kernel
theorem dX6_run_26 : decode cX6_run 26 = .ok (.aload_n 0, 1) := by decide +kernel
theorem dX6_run_27 : decode cX6_run 27 = .ok (.getfield 10, 3) := by decide +kernel
theorem dX6_run_30 : decode cX6_run 30 = .ok (.iload_n 1, 1) := by decide +kernel
theorem dX6_run_31 : decode cX6_run 31 = .ok (.invokevirtual 149, 3) := by decide +kernel
theorem dX6_run_34 : decode cX6_run 34 = .ok (.ireturn, 1) := by decide +kernel
set_option maxRecDepth 20000 in
theorem ggX6_append_X2_addSign : GoodIn wsX6_append wsX2_addSign := goodIn_r _ [10, 11, 12, 22, 23, 24, 25, 26, 27, 28, 29, 30, 31] (by decide +kernel) (by decide +kernel)
set_option maxRecDepth 20000 in
theorem gX6_append_X2_addSign : GoodIn wsX6_append (wsV RX6 160 RX2 yX2_addSign wsX2_addSign) := goodIn_app (goodIn_of _ (by decide +kernel)) ggX6_append_X2_addSign
theorem dX6_append_0 : decode cX6_append 0 = .ok (.iload_n 1, 1) := by decide +kernel
theorem dX6_append_1 : decode cX6_append 1 = .ok (.bipush 33, 2) := by decide +kernel
theorem dX6_append_3 : decode cX6_append 3 = .ok (.if_icmp .lt 9, 3) := by decide +kernel
theorem dX6_append_6 : decode cX6_append 6 = .ok (.iload_n 1, 1) := by decide +kernel
theorem dX6_append_7 : decode cX6_append 7 = .ok (.bipush 126, 2) := by decide +kernel
theorem dX6_append_9 : decode cX6_append 9 = .ok (.if_icmp .le 13, 3) := by decide +kernel
theorem dX6_append_12 : decode cX6_append 12 = .ok (.new 48, 3) := by decide +kernel
theorem dX6_append_15 : decode cX6_append 15 = .ok (.dup, 1) := by decide +kernel
theorem dX6_append_16 : decode cX6_append 16 = .ok (.ldc 153, 2) := by decide +kernel
theorem dX6_append_18 : decode cX6_append 18 = .ok (.invokespecial 52, 3) := by decide +kernel
theorem dX6_append_21 : decode cX6_append 21 = .ok (.athrow, 1) := by decide +kernel
theorem dX6_append_22 : decode cX6_append 22 = .ok (.aload_n 0, 1) := by decide +kernel
theorem dX6_append_23 : decode cX6_append 23 = .ok (.getfield 33, 3) := by decide +kernel
theorem dX6_append_26 : decode cX6_append 26 = .ok (.getfield 155, 3) := by decide +kernel
theorem dX6_append_29 : decode cX6_append 29 = .ok (.bipush 60, 2) := by decide +kernel
theorem dX6_append_31 : decode cX6_append 31 = .ok (.if_icmp .lt 13, 3) := by decide +kernel
theorem dX6_append_34 : decode cX6_append 34 = .ok (.new 59, 3) := by decide +kernel
theorem dX6_append_37 : decode cX6_append 37 = .ok (.dup, 1) := by decide +kernel
theorem dX6_append_38 : decode cX6_append 38 = .ok (.ldc 158, 2) := by decide +kernel
theorem dX6_append_40 : decode cX6_append 40 = .ok (.invokespecial 63, 3) := by decide +kernel
theorem dX6_append_43 : decode cX6_append 43 = .ok (.athrow, 1) := by decide +kernel
theorem dX6_append_44 : decode cX6_append 44 = .ok (.aload_n 0, 1) := by decide +kernel
theorem dX6_append_45 : decode cX6_append 45 = .ok (.getfield 33, 3) := by decide +kernel
theorem dX6_append_48 : decode cX6_append 48 = .ok (.iload_n 1, 1) := by decide +kernel
theorem dX6_append_49 : decode cX6_append 49 = .ok (.i2c, 1) := by decide +kernel
theorem dX6_append_50 : decode cX6_append 50 = .ok (.invokevirtual 160, 3) := by decide +kernel
theorem dX6_append_53 : decode cX6_append 53 = .ok (.aload_n 0, 1) := by decide +kernel
theorem dX6_append_54 : decode cX6_append 54 = .ok (.getfield 33, 3) := by decide +kernel
theorem dX6_append_57 : decode cX6_append 57 = .ok (.getfield 155, 3) := by decide +kernel
theorem dX6_append_60 : decode cX6_append 60 = .ok (.ireturn, 1) := by decide +kernel
theorem dX6_clearBuffer_0 : decode cX6_clearBuffer 0 = .ok (.aload_n 0, 1) := by decide +kernel
theorem dX6_clearBuffer_1 : decode cX6_clearBuffer 1 = .ok (.getfield 33, 3) := by decide +kernel
theorem dX6_clearBuffer_4 : decode cX6_clearBuffer 4 = .ok (.getfield 155, 3) := by decide +kernel
theorem dX6_clearBuffer_7 : decode cX6_clearBuffer 7 = .ok (.istore_n 1, 1) := by decide +kernel
theorem dX6_clearBuffer_8 : decode cX6_clearBuffer 8 = .ok (.aload_n 0, 1) := by decide +kernel
theorem dX6_clearBuffer_9 : decode cX6_clearBuffer 9 = .ok (.getfield 33, 3) := by decide +kernel
theorem dX6_clearBuffer_12 : decode cX6_clearBuffer 12 = .ok (.iconst 0, 1) := by decide +kernel
theorem dX6_clearBuffer_13 : decode cX6_clearBuffer 13 = .ok (.putfield 155, 3) := by decide +kernel
theorem dX6_clearBuffer_16 : decode cX6_clearBuffer 16 = .ok (.iload_n 1, 1) := by decide +kernel
theorem dX6_clearBuffer_17 : decode cX6_clearBuffer 17 = .ok (.ireturn, 1) := by decide +kernel
set_option maxRecDepth 20000 in
theorem ggX6_firstError_X2_readAll : GoodIn wsX6_firstError wsX2_readAll := goodIn_r _ [6, 7, 8, 9, 10, 11, 5, 12, 13, 14, 15, 16, 17, 18, 19, 20, 21, 22, 23, 24, 25, 26, 27, 28, 29, 30, 31, 32, 33, 34, 35, 36, 37, 38, 39, 40, 41, 42, 43, 44, 45, 46, 47, 48, 49, 50, 51, 52, 53, 54, 55, 56, 57, 58, 59, 60, 61, 62, 63, 64, 65, 66, 67, 68, 69, 70, 71, 72, 73, 74, 75, 76, 77, 78, 79, 80, 81, 82, 83, 84, 85, 86, 87, 88, 89, 90, 91, 92, 93, 94, 95, 96, 97, 98, 99, 100, 101, 102, 103, 104, 105, 106, 107, 108, 109, 110, 111, 112, 113, 114, 115, 116, 117, 118, 119, 120, 130, 131, 132, 133, 134, 135, 136, 137, 138, 139] (by decide +kernel) (by decide +kernel)
set_option maxRecDepth 20000 in
theorem gX6_firstError_X2_readAll : GoodIn wsX6_firstError (wsV RX6 164 RX2 yX2_readAll wsX2_readAll) := goodIn_app (goodIn_of _ (by decide +kernel)) ggX6_firstError_X2_readAll
theorem dX6_firstError_0 : decode cX6_firstError 0 = .ok (.aload_n 0, 1) := by decide +kernel
theorem dX6_firstError_1 : decode cX6_firstError 1 = .ok (.getfield 33, 3) := by decide +kernel
theorem dX6_firstError_4 : decode cX6_firstError 4 = .ok (.invokevirtual 164, 3) := by decide +kernel
theorem dX6_firstError_7 : decode cX6_firstError 7 = .ok (.pop, 1) := by decide +kernel
theorem dX6_firstError_8 : decode cX6_firstError 8 = .ok (.aload_n 0, 1) := by decide +kernel
theorem dX6_firstError_9 : decode cX6_firstError 9 = .ok (.getfield 33, 3) := by decide +kernel
theorem dX6_firstError_12 : decode cX6_firstError 12 = .ok (.getfield 167, 3) := by decide +kernel
theorem dX6_firstError_15 : decode cX6_firstError 15 = .ok (.ireturn, 1) := by decide +kernel
set_option maxRecDepth 20000 in
theorem ggX6_execute_X2_readAll : GoodIn wsX6_execute wsX2_readAll := goodIn_r _ [8, 9, 10, 11, 12, 13, 7, 14, 15, 16, 17, 18, 19, 20, 21, 22, 23, 24, 25, 26, 27, 28, 29, 30, 31, 32, 33, 34, 35, 36, 37, 38, 39, 40, 41, 42, 43, 44, 45, 46, 47, 48, 49, 50, 51, 52, 53, 54, 55, 56, 57, 58, 59, 60, 61, 62, 63, 64, 65, 66, 67, 68, 69, 70, 71, 72, 73, 74, 75, 76, 77, 78, 79, 80, 81, 82, 83, 84, 85, 86, 87, 88, 89, 90, 91, 92, 93, 94, 95, 96, 97, 98, 99, 100, 101, 102, 103, 104, 105, 106, 107, 108, 109, 110, 111, 112, 113, 114, 115, 116, 117, 118, 119, 120, 121, 122, 308, 309, 310, 311, 312, 313, 314, 315, 316, 317] (by decide +kernel) (by decide +kernel)
set_option maxRecDepth 20000 in
theorem gX6_execute_X2_readAll : GoodIn wsX6_execute (wsV RX6 164 RX2 yX2_readAll wsX2_readAll) := goodIn_app (goodIn_of _ (by decide +kernel)) ggX6_execute_X2_readAll
set_option maxRecDepth 20000 in
theorem ggX6_execute_X6_save : GoodIn wsX6_execute wsX6_save := goodIn_r _ [127, 128, 129, 130, 131, 132, 133, 134, 135, 136, 137, 138, 139, 140, 141, 142, 143, 144, 145, 146, 147, 148, 149, 150, 151, 152, 153, 154, 155, 156, 157, 158, 159, 160, 161, 162, 163, 164, 165, 166, 167, 168, 169, 170, 171, 172, 173, 174, 175, 176, 177, 178, 179, 299, 300, 301, 302, 303, 304, 305, 306, 307, 318, 319, 320, 321, 322, 323, 324, 325, 326, 327, 328, 329, 330, 331, 332, 333, 334, 335, 336, 337, 338, 339, 340, 341, 342, 343, 344, 345] (by decide +kernel) (by decide +kernel)
set_option maxRecDepth 20000 in
theorem gX6_execute_X6_save : GoodIn wsX6_execute (wsV RX6 64 RX6 yX6_save wsX6_save) := goodIn_app (goodIn_of _ (by decide +kernel)) ggX6_execute_X6_save
set_option maxRecDepth 20000 in
theorem ggX6_execute_X2_readNextOrder : GoodIn wsX6_execute wsX2_readNextOrder := goodIn_r _ [14, 9, 15, 16, 17, 7, 18, 10, 19, 20, 21, 22, 23, 24, 25, 26, 27, 28, 29, 30, 31, 32, 33, 34, 35, 36, 37, 38, 39, 40, 41, 42, 43, 44, 45, 46, 47, 48, 49, 50, 51, 52, 53, 54, 55, 56, 57, 58, 59, 60, 61, 62, 63, 64, 65, 66, 67, 68, 69, 70, 71, 72, 73, 74, 75, 76, 77, 78, 79, 80, 81, 82, 83, 84, 85, 86, 87, 88, 89, 90, 91, 92, 93, 94, 95, 96, 97, 98, 99, 100, 101, 102, 103, 104, 105, 106, 107, 108, 109, 110, 111, 112, 113, 114, 115, 116, 117, 118, 119, 120, 121, 122, 308, 309, 310, 311, 312, 313, 314, 315, 316, 317] (by decide +kernel) (by decide +kernel)
set_option maxRecDepth 20000 in
theorem gX6_execute_X2_readNextOrder : GoodIn wsX6_execute (wsV RX6 172 RX2 yX2_readNextOrder wsX2_readNextOrder) := goodIn_app (goodIn_of _ (by decide +kernel)) ggX6_execute_X2_readNextOrder
set_option maxRecDepth 20000 in
theorem ggX6_execute_X6_carryOut : GoodIn wsX6_execute wsX6_carryOut := goodIn_r _ [184, 3, 131, 185, 186, 187, 126, 188, 189, 190, 191, 135, 192, 138, 193, 194, 195, 196, 137, 197, 198, 199, 151, 200, 154, 155, 160, 201, 202, 203, 204, 156, 157, 158, 159, 205, 206, 207, 208, 153, 209, 210, 211, 212, 213, 214, 215, 216, 217, 218, 219, 220, 221, 222, 223, 224, 225, 226, 227, 228, 229, 230, 231, 232, 144, 141, 142, 233, 234, 235, 236, 237, 238, 239, 173, 240, 175, 178, 176, 177, 179, 241, 242, 243, 244, 245, 246, 247, 248, 140, 249, 250, 251, 252, 139, 253, 254, 255, 256, 257, 258, 259, 260, 261, 262, 263, 264, 145, 146, 147, 265, 266, 97, 267, 268, 269, 270, 271, 272, 273, 274, 275, 276, 277, 278, 279, 280, 281, 282, 283, 284, 285, 286, 287, 288, 143, 289, 290, 291, 292, 293, 294, 295, 296, 297, 298, 299, 300, 301, 302, 303, 304, 305, 306, 307, 308, 309, 310, 311, 312, 313, 314, 315, 316, 317, 318, 319, 320, 321, 322, 323, 324, 325, 326, 327, 328, 329, 330, 331, 332, 333, 334, 335, 336, 341, 342, 343, 344, 345, 337, 338, 339, 340] (by decide +kernel) (by decide +kernel)
set_option maxRecDepth 20000 in
theorem gX6_execute_X6_carryOut : GoodIn wsX6_execute (wsV RX6 175 RX6 yX6_carryOut wsX6_carryOut) := goodIn_app (goodIn_of _ (by decide +kernel)) ggX6_execute_X6_carryOut
theorem dX6_execute_0 : decode cX6_execute 0 = .ok (.aload_n 0, 1) := by decide +kernel
theorem dX6_execute_1 : decode cX6_execute 1 = .ok (.getfield 33, 3) := by decide +kernel
theorem dX6_execute_4 : decode cX6_execute 4 = .ok (.invokevirtual 164, 3) := by decide +kernel
theorem dX6_execute_7 : decode cX6_execute 7 = .ok (.ifCond .ne 13, 3) := by decide +kernel
theorem dX6_execute_10 : decode cX6_execute 10 = .ok (.new 48, 3) := by decide +kernel
theorem dX6_execute_13 : decode cX6_execute 13 = .ok (.dup, 1) := by decide +kernel
theorem dX6_execute_14 : decode cX6_execute 14 = .ok (.ldc 170, 2) := by decide +kernel
theorem dX6_execute_16 : decode cX6_execute 16 = .ok (.invokespecial 52, 3) := by decide +kernel
theorem dX6_execute_19 : decode cX6_execute 19 = .ok (.athrow, 1) := by decide +kernel
theorem dX6_execute_20 : decode cX6_execute 20 = .ok (.aload_n 0, 1) := by decide +kernel
theorem dX6_execute_21 : decode cX6_execute 21 = .ok (.invokevirtual 64, 3) := by decide +kernel
theorem dX6_execute_24 : decode cX6_execute 24 = .ok (.iconst 0, 1) := by decide +kernel
theorem dX6_execute_25 : decode cX6_execute 25 = .ok (.istore_n 1, 1) := by decide +kernel
theorem dX6_execute_26 : decode cX6_execute 26 = .ok (.aload_n 0, 1) := by decide +kernel
theorem dX6_execute_27 : decode cX6_execute 27 = .ok (.getfield 33, 3) := by decide +kernel
theorem dX6_execute_30 : decode cX6_execute 30 = .ok (.iconst 0, 1) := by decide +kernel
theorem dX6_execute_31 : decode cX6_execute 31 = .ok (.putfield 167, 3) := by decide +kernel
theorem dX6_execute_34 : decode cX6_execute 34 = .ok (.iload_n 1, 1) := by decide +kernel
theorem dX6_execute_35 : decode cX6_execute 35 = .ok (.bipush 60, 2) := by decide +kernel
theorem dX6_execute_37 : decode cX6_execute 37 = .ok (.if_icmp .ge 26, 3) := by decide +kernel
theorem dX6_execute_40 : decode cX6_execute 40 = .ok (.aload_n 0, 1) := by decide +kernel
theorem dX6_execute_41 : decode cX6_execute 41 = .ok (.getfield 33, 3) := by decide +kernel
theorem dX6_execute_44 : decode cX6_execute 44 = .ok (.invokevirtual 172, 3) := by decide +kernel
theorem dX6_execute_47 : decode cX6_execute 47 = .ok (.ifCond .eq 16, 3) := by decide +kernel
theorem dX6_execute_50 : decode cX6_execute 50 = .ok (.aload_n 0, 1) := by decide +kernel
theorem dX6_execute_51 : decode cX6_execute 51 = .ok (.invokevirtual 175, 3) := by decide +kernel
theorem dX6_execute_54 : decode cX6_execute 54 = .ok (.ifCond .eq 9, 3) := by decide +kernel
theorem dX6_execute_57 : decode cX6_execute 57 = .ok (.iinc 1 1, 3) := by decide +kernel
theorem dX6_execute_60 : decode cX6_execute 60 = .ok (.goto (-26), 3) := by decide +kernel
theorem dX6_execute_63 : decode cX6_execute 63 = .ok (.aload_n 0, 1) := by decide +kernel
theorem dX6_execute_64 : decode cX6_execute 64 = .ok (.getfield 33, 3) := by decide +kernel
theorem dX6_execute_67 : decode cX6_execute 67 = .ok (.iconst 0, 1) := by decide +kernel
theorem dX6_execute_68 : decode cX6_execute 68 = .ok (.putfield 155, 3) := by decide +kernel
theorem dX6_execute_71 : decode cX6_execute 71 = .ok (.iload_n 1, 1) := by decide +kernel
theorem dX6_execute_72 : decode cX6_execute 72 = .ok (.ireturn, 1) := by decide +kernel
set_option maxRecDepth 20000 in
theorem ggX6_undo_X5_copyFrom : GoodIn wsX6_undo wsX5_copyFrom := goodIn_r _ [11, 12, 13, 14, 15, 16, 17, 18, 19, 20, 21, 22, 23, 24, 25, 26, 27, 28, 29, 30, 31, 32, 33, 34, 35, 36, 37, 38, 39, 40, 41, 42, 43, 44, 45, 46, 47, 48, 49, 50, 51, 52, 53, 54, 64, 65, 66, 67, 68, 69, 70, 71, 72, 73, 74, 75, 76, 77, 78, 79, 80, 81, 82, 83, 84, 85, 86, 87, 88, 89, 90, 91] (by decide +kernel) (by decide +kernel)
set_option maxRecDepth 20000 in
theorem gX6_undo_X5_copyFrom : GoodIn wsX6_undo (wsV RX6 186 RX5 yX5_copyFrom wsX5_copyFrom) := goodIn_app (goodIn_of _ (by decide +kernel)) ggX6_undo_X5_copyFrom
theorem dX6_undo_0 : decode cX6_undo 0 = .ok (.aload_n 0, 1) := by decide +kernel
theorem dX6_undo_1 : decode cX6_undo 1 = .ok (.getfield 178, 3) := by decide +kernel
theorem dX6_undo_4 : decode cX6_undo 4 = .ok (.ifCond .ne 13, 3) := by decide +kernel
theorem dX6_undo_7 : decode cX6_undo 7 = .ok (.new 59, 3) := by decide +kernel
theorem dX6_undo_10 : decode cX6_undo 10 = .ok (.dup, 1) := by decide +kernel
theorem dX6_undo_11 : decode cX6_undo 11 = .ok (.ldc 181, 2) := by decide +kernel
theorem dX6_undo_13 : decode cX6_undo 13 = .ok (.invokespecial 63, 3) := by decide +kernel
theorem dX6_undo_16 : decode cX6_undo 16 = .ok (.athrow, 1) := by decide +kernel
theorem dX6_undo_17 : decode cX6_undo 17 = .ok (.aload_n 0, 1) := by decide +kernel
theorem dX6_undo_18 : decode cX6_undo 18 = .ok (.dup, 1) := by decide +kernel
theorem dX6_undo_19 : decode cX6_undo 19 = .ok (.getfield 178, 3) := by decide +kernel
theorem dX6_undo_22 : decode cX6_undo 22 = .ok (.iconst 1, 1) := by decide +kernel
theorem dX6_undo_23 : decode cX6_undo 23 = .ok (.isub, 1) := by decide +kernel
theorem dX6_undo_24 : decode cX6_undo 24 = .ok (.putfield 178, 3) := by decide +kernel
theorem dX6_undo_27 : decode cX6_undo 27 = .ok (.aload_n 0, 1) := by decide +kernel
theorem dX6_undo_28 : decode cX6_undo 28 = .ok (.getfield 10, 3) := by decide +kernel
theorem dX6_undo_31 : decode cX6_undo 31 = .ok (.aload_n 0, 1) := by decide +kernel
theorem dX6_undo_32 : decode cX6_undo 32 = .ok (.getfield 19, 3) := by decide +kernel
theorem dX6_undo_35 : decode cX6_undo 35 = .ok (.aload_n 0, 1) := by decide +kernel
theorem dX6_undo_36 : decode cX6_undo 36 = .ok (.getfield 183, 3) := by decide +kernel
theorem dX6_undo_39 : decode cX6_undo 39 = .ok (.aload_n 0, 1) := by decide +kernel
theorem dX6_undo_40 : decode cX6_undo 40 = .ok (.getfield 178, 3) := by decide +kernel
theorem dX6_undo_43 : decode cX6_undo 43 = .ok (.iadd, 1) := by decide +kernel
theorem dX6_undo_44 : decode cX6_undo 44 = .ok (.bipush 6, 2) := by decide +kernel
theorem dX6_undo_46 : decode cX6_undo 46 = .ok (.irem, 1) := by decide +kernel
theorem dX6_undo_47 : decode cX6_undo 47 = .ok (.aaload, 1) := by decide +kernel
theorem dX6_undo_48 : decode cX6_undo 48 = .ok (.invokevirtual 186, 3) := by decide +kernel
theorem dX6_undo_51 : decode cX6_undo 51 = .ok (.aload_n 0, 1) := by decide +kernel
theorem dX6_undo_52 : decode cX6_undo 52 = .ok (.getfield 178, 3) := by decide +kernel
theorem dX6_undo_55 : decode cX6_undo 55 = .ok (.ireturn, 1) := by decide +kernel
set_option maxRecDepth 20000 in
theorem ggX6_keep_X6_requireSlot : GoodIn wsX6_keep wsX6_requireSlot := goodIn_ca (goodIn_r _ [7, 8, 9] (by decide +kernel) (by decide +kernel)) (goodIn_sub (fun _ h => List.mem_cons_of_mem _ (List.mem_append_right _ h)) (by decide +kernel))
set_option maxRecDepth 20000 in
theorem gX6_keep_X6_requireSlot : GoodIn wsX6_keep (va_wsS RX6 190 yX6_requireSlot wsX6_requireSlot) := goodIn_app (goodIn_of _ (by decide +kernel)) ggX6_keep_X6_requireSlot
set_option maxRecDepth 20000 in
theorem ggX6_keep_X5_copyFrom : GoodIn wsX6_keep wsX5_copyFrom := goodIn_r _ [14, 15, 16, 17, 18, 19, 20, 21, 22, 23, 24, 25, 26, 27, 28, 29, 30, 31, 32, 33, 34, 35, 36, 37, 38, 39, 40, 41, 42, 43, 44, 45, 46, 47, 48, 49, 50, 51, 52, 53, 54, 55, 56, 57, 67, 68, 69, 70, 71, 72, 73, 74, 75, 76, 77, 78, 79, 80, 81, 82, 83, 84, 85, 86, 87, 88, 89, 90, 91, 92, 93, 94] (by decide +kernel) (by decide +kernel)
set_option maxRecDepth 20000 in
theorem gX6_keep_X5_copyFrom : GoodIn wsX6_keep (wsV RX6 186 RX5 yX5_copyFrom wsX5_copyFrom) := goodIn_app (goodIn_of _ (by decide +kernel)) ggX6_keep_X5_copyFrom
theorem dX6_keep_0 : decode cX6_keep 0 = .ok (.iload_n 1, 1) := by decide +kernel
theorem dX6_keep_1 : decode cX6_keep 1 = .ok (.invokestatic 190, 3) := by decide +kernel
theorem dX6_keep_4 : decode cX6_keep 4 = .ok (.aload_n 0, 1) := by decide +kernel
theorem dX6_keep_5 : decode cX6_keep 5 = .ok (.getfield 23, 3) := by decide +kernel
theorem dX6_keep_8 : decode cX6_keep 8 = .ok (.iload_n 1, 1) := by decide +kernel
theorem dX6_keep_9 : decode cX6_keep 9 = .ok (.aaload, 1) := by decide +kernel
theorem dX6_keep_10 : decode cX6_keep 10 = .ok (.aload_n 0, 1) := by decide +kernel
theorem dX6_keep_11 : decode cX6_keep 11 = .ok (.getfield 10, 3) := by decide +kernel
theorem dX6_keep_14 : decode cX6_keep 14 = .ok (.invokevirtual 186, 3) := by decide +kernel
theorem dX6_keep_17 : decode cX6_keep 17 = .ok (.aload_n 0, 1) := by decide +kernel
theorem dX6_keep_18 : decode cX6_keep 18 = .ok (.getfield 26, 3) := by decide +kernel
theorem dX6_keep_21 : decode cX6_keep 21 = .ok (.iload_n 1, 1) := by decide +kernel
theorem dX6_keep_22 : decode cX6_keep 22 = .ok (.iconst 1, 1) := by decide +kernel
theorem dX6_keep_23 : decode cX6_keep 23 = .ok (.bastore, 1) := by decide +kernel
theorem dX6_keep_24 : decode cX6_keep 24 = .ok (.aload_n 0, 1) := by decide +kernel
theorem dX6_keep_25 : decode cX6_keep 25 = .ok (.getfield 10, 3) := by decide +kernel
theorem dX6_keep_28 : decode cX6_keep 28 = .ok (.getfield 193, 3) := by decide +kernel
theorem dX6_keep_31 : decode cX6_keep 31 = .ok (.ireturn, 1) := by decide +kernel
set_option maxRecDepth 20000 in
theorem ggX6_goBack_X6_requireSlot : GoodIn wsX6_goBack wsX6_requireSlot := goodIn_ca (goodIn_r _ [9, 10, 11] (by decide +kernel) (by decide +kernel)) (goodIn_sub (fun _ h => List.mem_cons_of_mem _ (List.mem_append_right _ h)) (by decide +kernel))
set_option maxRecDepth 20000 in
theorem gX6_goBack_X6_requireSlot : GoodIn wsX6_goBack (va_wsS RX6 190 yX6_requireSlot wsX6_requireSlot) := goodIn_app (goodIn_of _ (by decide +kernel)) ggX6_goBack_X6_requireSlot
set_option maxRecDepth 20000 in
theorem ggX6_goBack_X6_save : GoodIn wsX6_goBack wsX6_save := goodIn_r _ [15, 16, 17, 18, 4, 19, 20, 21, 22, 23, 24, 25, 26, 27, 28, 29, 30, 31, 32, 33, 34, 35, 36, 37, 38, 39, 40, 41, 42, 43, 44, 45, 46, 47, 48, 49, 50, 51, 52, 53, 54, 55, 56, 57, 58, 59, 60, 61, 62, 63, 64, 65, 66, 67, 68, 69, 70, 71, 72, 73, 74, 75, 76, 77, 78, 79, 80, 81, 82, 83, 84, 85, 86, 87, 88, 89, 90, 91, 92, 93, 94, 95, 96, 97, 98, 99, 100, 101, 102, 103] (by decide +kernel) (by decide +kernel)
set_option maxRecDepth 20000 in
theorem gX6_goBack_X6_save : GoodIn wsX6_goBack (wsV RX6 64 RX6 yX6_save wsX6_save) := goodIn_app (goodIn_of _ (by decide +kernel)) ggX6_goBack_X6_save
set_option maxRecDepth 20000 in
theorem ggX6_goBack_X5_copyFrom : GoodIn wsX6_goBack wsX5_copyFrom := goodIn_r _ [23, 24, 25, 26, 27, 28, 29, 30, 31, 32, 33, 34, 35, 36, 37, 38, 39, 40, 41, 42, 43, 44, 45, 46, 47, 48, 49, 50, 51, 52, 53, 54, 55, 56, 57, 58, 59, 60, 61, 62, 63, 64, 65, 66, 76, 77, 78, 79, 80, 81, 82, 83, 84, 85, 86, 87, 88, 89, 90, 91, 92, 93, 94, 95, 96, 97, 98, 99, 100, 101, 102, 103] (by decide +kernel) (by decide +kernel)
set_option maxRecDepth 20000 in
theorem gX6_goBack_X5_copyFrom : GoodIn wsX6_goBack (wsV RX6 186 RX5 yX5_copyFrom wsX5_copyFrom) := goodIn_app (goodIn_of _ (by decide +kernel)) ggX6_goBack_X5_copyFrom
theorem dX6_goBack_0 : decode cX6_goBack 0 = .ok (.iload_n 1, 1) := by decide +kernel
theorem dX6_goBack_1 : decode cX6_goBack 1 = .ok (.invokestatic 190, 3) := by decide +kernel
theorem dX6_goBack_4 : decode cX6_goBack 4 = .ok (.aload_n 0, 1) := by decide +kernel
theorem dX6_goBack_5 : decode cX6_goBack 5 = .ok (.getfield 26, 3) := by decide +kernel
theorem dX6_goBack_8 : decode cX6_goBack 8 = .ok (.iload_n 1, 1) := by decide +kernel
theorem dX6_goBack_9 : decode cX6_goBack 9 = .ok (.baload, 1) := by decide +kernel
theorem dX6_goBack_10 : decode cX6_goBack 10 = .ok (.ifCond .ne 13, 3) := by decide +kernel
theorem dX6_goBack_13 : decode cX6_goBack 13 = .ok (.new 59, 3) := by decide +kernel
theorem dX6_goBack_16 : decode cX6_goBack 16 = .ok (.dup, 1) := by decide +kernel
theorem dX6_goBack_17 : decode cX6_goBack 17 = .ok (.ldc 196, 2) := by decide +kernel
theorem dX6_goBack_19 : decode cX6_goBack 19 = .ok (.invokespecial 63, 3) := by decide +kernel
theorem dX6_goBack_22 : decode cX6_goBack 22 = .ok (.athrow, 1) := by decide +kernel
theorem dX6_goBack_23 : decode cX6_goBack 23 = .ok (.aload_n 0, 1) := by decide +kernel
theorem dX6_goBack_24 : decode cX6_goBack 24 = .ok (.invokevirtual 64, 3) := by decide +kernel
theorem dX6_goBack_27 : decode cX6_goBack 27 = .ok (.aload_n 0, 1) := by decide +kernel
theorem dX6_goBack_28 : decode cX6_goBack 28 = .ok (.getfield 10, 3) := by decide +kernel
theorem dX6_goBack_31 : decode cX6_goBack 31 = .ok (.aload_n 0, 1) := by decide +kernel
theorem dX6_goBack_32 : decode cX6_goBack 32 = .ok (.getfield 23, 3) := by decide +kernel
theorem dX6_goBack_35 : decode cX6_goBack 35 = .ok (.iload_n 1, 1) := by decide +kernel
theorem dX6_goBack_36 : decode cX6_goBack 36 = .ok (.aaload, 1) := by decide +kernel
theorem dX6_goBack_37 : decode cX6_goBack 37 = .ok (.invokevirtual 186, 3) := by decide +kernel
theorem dX6_goBack_40 : decode cX6_goBack 40 = .ok (.aload_n 0, 1) := by decide +kernel
theorem dX6_goBack_41 : decode cX6_goBack 41 = .ok (.getfield 10, 3) := by decide +kernel
theorem dX6_goBack_44 : decode cX6_goBack 44 = .ok (.getfield 193, 3) := by decide +kernel
theorem dX6_goBack_47 : decode cX6_goBack 47 = .ok (.ireturn, 1) := by decide +kernel
set_option maxRecDepth 20000 in
theorem ggX6_cordOf_X6_requireCord : GoodIn wsX6_cordOf wsX6_requireCord := goodIn_ca (goodIn_r _ [8, 9, 10, 3, 11, 12, 13, 14, 15, 16, 29, 30, 31, 32, 33, 34, 35, 36, 37, 38, 39, 40, 41, 42, 43, 44, 45, 46, 47, 48] (by decide +kernel) (by decide +kernel)) (goodIn_sub (fun _ h => List.mem_cons_of_mem _ (List.mem_append_right _ h)) (by decide +kernel))
set_option maxRecDepth 20000 in
theorem gX6_cordOf_X6_requireCord : GoodIn wsX6_cordOf (wsV RX6 107 RX6 yX6_requireCord wsX6_requireCord) := goodIn_app (goodIn_of _ (by decide +kernel)) ggX6_cordOf_X6_requireCord
set_option maxRecDepth 20000 in
theorem ggX6_cordOf_X1_timeLeft : GoodIn wsX6_cordOf wsX1_timeLeft := goodIn_r _ [21, 22, 23, 24, 49, 50, 51, 52, 53, 54, 55, 56] (by decide +kernel) (by decide +kernel)
set_option maxRecDepth 20000 in
theorem gX6_cordOf_X1_timeLeft : GoodIn wsX6_cordOf (wsV RX6 210 RX1 yX1_timeLeft wsX1_timeLeft) := goodIn_app (goodIn_of _ (by decide +kernel)) ggX6_cordOf_X1_timeLeft
set_option maxRecDepth 20000 in
theorem ggX6_cordOf_X1_isOut : GoodIn wsX6_cordOf wsX1_isOut := goodIn_r _ [28, 23, 24, 22, 49, 50, 51, 52, 53, 54, 55, 56] (by decide +kernel) (by decide +kernel)
set_option maxRecDepth 20000 in
theorem gX6_cordOf_X1_isOut : GoodIn wsX6_cordOf (wsV RX6 220 RX1 yX1_isOut wsX1_isOut) := goodIn_app (goodIn_of _ (by decide +kernel)) ggX6_cordOf_X1_isOut
theorem dX6_cordOf_0 : decode cX6_cordOf 0 = .ok (.aload_n 0, 1) := by decide +kernel
theorem dX6_cordOf_1 : decode cX6_cordOf 1 = .ok (.iload_n 1, 1) := by decide +kernel
theorem dX6_cordOf_2 : decode cX6_cordOf 2 = .ok (.invokevirtual 107, 3) := by decide +kernel
theorem dX6_cordOf_5 : decode cX6_cordOf 5 = .ok (.aload_n 0, 1) := by decide +kernel
theorem dX6_cordOf_6 : decode cX6_cordOf 6 = .ok (.getfield 10, 3) := by decide +kernel
theorem dX6_cordOf_9 : decode cX6_cordOf 9 = .ok (.getfield 87, 3) := by decide +kernel
theorem dX6_cordOf_12 : decode cX6_cordOf 12 = .ok (.iload_n 1, 1) := by decide +kernel
theorem dX6_cordOf_13 : decode cX6_cordOf 13 = .ok (.aaload, 1) := by decide +kernel
theorem dX6_cordOf_14 : decode cX6_cordOf 14 = .ok (.astore_n 3, 1) := by decide +kernel
theorem dX6_cordOf_15 : decode cX6_cordOf 15 = .ok (.iload_n 2, 1) := by decide +kernel
theorem dX6_cordOf_16 : decode cX6_cordOf 16 = .ok (.tableswitch 117 0 7 #[48, 53, 58, 63, 68, 73, 99, 112], 48) := by decide +kernel
theorem dX6_cordOf_64 : decode cX6_cordOf 64 = .ok (.aload_n 3, 1) := by decide +kernel
theorem dX6_cordOf_65 : decode cX6_cordOf 65 = .ok (.getfield 198, 3) := by decide +kernel
theorem dX6_cordOf_68 : decode cX6_cordOf 68 = .ok (.ireturn, 1) := by decide +kernel
theorem dX6_cordOf_69 : decode cX6_cordOf 69 = .ok (.aload_n 3, 1) := by decide +kernel
theorem dX6_cordOf_70 : decode cX6_cordOf 70 = .ok (.getfield 201, 3) := by decide +kernel
theorem dX6_cordOf_73 : decode cX6_cordOf 73 = .ok (.ireturn, 1) := by decide +kernel
theorem dX6_cordOf_74 : decode cX6_cordOf 74 = .ok (.aload_n 3, 1) := by decide +kernel
theorem dX6_cordOf_75 : decode cX6_cordOf 75 = .ok (.getfield 204, 3) := by decide +kernel
theorem dX6_cordOf_78 : decode cX6_cordOf 78 = .ok (.ireturn, 1) := by decide +kernel
theorem dX6_cordOf_79 : decode cX6_cordOf 79 = .ok (.aload_n 3, 1) := by decide +kernel
theorem dX6_cordOf_80 : decode cX6_cordOf 80 = .ok (.getfield 207, 3) := by decide +kernel
theorem dX6_cordOf_83 : decode cX6_cordOf 83 = .ok (.ireturn, 1) := by decide +kernel
theorem dX6_cordOf_84 : decode cX6_cordOf 84 = .ok (.aload_n 3, 1) := by decide +kernel
theorem dX6_cordOf_85 : decode cX6_cordOf 85 = .ok (.invokevirtual 210, 3) := by decide +kernel
theorem dX6_cordOf_88 : decode cX6_cordOf 88 = .ok (.ireturn, 1) := by decide +kernel
theorem dX6_cordOf_89 : decode cX6_cordOf 89 = .ok (.aload_n 3, 1) := by decide +kernel
theorem dX6_cordOf_90 : decode cX6_cordOf 90 = .ok (.getfield 213, 3) := by decide +kernel
theorem dX6_cordOf_93 : decode cX6_cordOf 93 = .ok (.ifCond .eq 7, 3) := by decide +kernel
theorem dX6_cordOf_96 : decode cX6_cordOf 96 = .ok (.iconst 1, 1) := by decide +kernel
theorem dX6_cordOf_97 : decode cX6_cordOf 97 = .ok (.goto 4, 3) := by decide +kernel
theorem dX6_cordOf_100 : decode cX6_cordOf 100 = .ok (.iconst 0, 1) := by decide +kernel
theorem dX6_cordOf_101 : decode cX6_cordOf 101 = .ok (.aload_n 3, 1) := by decide +kernel
theorem dX6_cordOf_102 : decode cX6_cordOf 102 = .ok (.getfield 217, 3) := by decide +kernel
theorem dX6_cordOf_105 : decode cX6_cordOf 105 = .ok (.ifCond .eq 7, 3) := by decide +kernel
theorem dX6_cordOf_108 : decode cX6_cordOf 108 = .ok (.iconst 2, 1) := by decide +kernel
theorem dX6_cordOf_109 : decode cX6_cordOf 109 = .ok (.goto 4, 3) := by decide +kernel
theorem dX6_cordOf_112 : decode cX6_cordOf 112 = .ok (.iconst 0, 1) := by decide +kernel
theorem dX6_cordOf_113 : decode cX6_cordOf 113 = .ok (.iadd, 1) := by decide +kernel
theorem dX6_cordOf_114 : decode cX6_cordOf 114 = .ok (.ireturn, 1) := by decide +kernel
theorem dX6_cordOf_115 : decode cX6_cordOf 115 = .ok (.aload_n 3, 1) := by decide +kernel
theorem dX6_cordOf_116 : decode cX6_cordOf 116 = .ok (.invokevirtual 220, 3) := by decide +kernel
theorem dX6_cordOf_119 : decode cX6_cordOf 119 = .ok (.ifCond .eq 7, 3) := by decide +kernel
theorem dX6_cordOf_122 : decode cX6_cordOf 122 = .ok (.iconst 1, 1) := by decide +kernel
theorem dX6_cordOf_123 : decode cX6_cordOf 123 = .ok (.goto 4, 3) := by decide +kernel
theorem dX6_cordOf_126 : decode cX6_cordOf 126 = .ok (.iconst 0, 1) := by decide +kernel
theorem dX6_cordOf_127 : decode cX6_cordOf 127 = .ok (.ireturn, 1) := by decide +kernel
theorem dX6_cordOf_128 : decode cX6_cordOf 128 = .ok (.aload_n 3, 1) := by decide +kernel
theorem dX6_cordOf_129 : decode cX6_cordOf 129 = .ok (.getfield 223, 3) := by decide +kernel
theorem dX6_cordOf_132 : decode cX6_cordOf 132 = .ok (.ireturn, 1) := by decide +kernel
theorem dX6_cordOf_133 : decode cX6_cordOf 133 = .ok (.new 48, 3) := by decide +kernel
theorem dX6_cordOf_136 : decode cX6_cordOf 136 = .ok (.dup, 1) := by decide +kernel
theorem dX6_cordOf_137 : decode cX6_cordOf 137 = .ok (.ldc 226, 2) := by decide +kernel
theorem dX6_cordOf_139 : decode cX6_cordOf 139 = .ok (.invokespecial 52, 3) := by decide +kernel
theorem dX6_cordOf_142 : decode cX6_cordOf 142 = .ok (.athrow, 1) := by decide +kernel
set_option maxRecDepth 20000 in
theorem ggX6_segment_X6_requireSegment : GoodIn wsX6_segment wsX6_requireSegment := goodIn_ca (goodIn_r _ [6, 7, 8, 1, 9, 10, 11, 5, 12, 13, 14, 15, 16, 17, 18, 19, 20, 21, 22, 23, 24, 25, 26, 27, 28, 29, 30, 31, 32, 33, 34, 35, 36, 37, 38, 39, 40, 41, 42, 43, 44, 45, 46] (by decide +kernel) (by decide +kernel)) (goodIn_sub (fun _ h => List.mem_cons_of_mem _ (List.mem_append_right _ h)) (by decide +kernel))
set_option maxRecDepth 20000 in
theorem gX6_segment_X6_requireSegment : GoodIn wsX6_segment (wsV RX6 81 RX6 yX6_requireSegment wsX6_requireSegment) := goodIn_app (goodIn_of _ (by decide +kernel)) ggX6_segment_X6_requireSegment
theorem dX6_segment_0 : decode cX6_segment 0 = .ok (.aload_n 0, 1) := by decide +kernel
theorem dX6_segment_1 : decode cX6_segment 1 = .ok (.iload_n 1, 1) := by decide +kernel
theorem dX6_segment_2 : decode cX6_segment 2 = .ok (.iload_n 2, 1) := by decide +kernel
theorem dX6_segment_3 : decode cX6_segment 3 = .ok (.invokevirtual 81, 3) := by decide +kernel
theorem dX6_segment_6 : decode cX6_segment 6 = .ok (.aload_n 0, 1) := by decide +kernel
theorem dX6_segment_7 : decode cX6_segment 7 = .ok (.getfield 10, 3) := by decide +kernel
theorem dX6_segment_10 : decode cX6_segment 10 = .ok (.getfield 87, 3) := by decide +kernel
theorem dX6_segment_13 : decode cX6_segment 13 = .ok (.iload_n 1, 1) := by decide +kernel
theorem dX6_segment_14 : decode cX6_segment 14 = .ok (.aaload, 1) := by decide +kernel
theorem dX6_segment_15 : decode cX6_segment 15 = .ok (.getfield 100, 3) := by decide +kernel
theorem dX6_segment_18 : decode cX6_segment 18 = .ok (.iload_n 2, 1) := by decide +kernel
theorem dX6_segment_19 : decode cX6_segment 19 = .ok (.iaload, 1) := by decide +kernel
theorem dX6_segment_20 : decode cX6_segment 20 = .ok (.ireturn, 1) := by decide +kernel
set_option maxRecDepth 20000 in
theorem ggX6_front_X6_requireCord : GoodIn wsX6_front wsX6_requireCord := goodIn_ca (goodIn_r _ [6, 7, 8, 1, 9, 10, 11, 12, 13, 14, 29, 30, 31, 32, 33, 34, 35, 36, 37, 38, 39, 40, 41, 42, 43, 44, 45, 46, 47, 48] (by decide +kernel) (by decide +kernel)) (goodIn_sub (fun _ h => List.mem_cons_of_mem _ (List.mem_append_right _ h)) (by decide +kernel))
set_option maxRecDepth 20000 in
theorem gX6_front_X6_requireCord : GoodIn wsX6_front (wsV RX6 107 RX6 yX6_requireCord wsX6_requireCord) := goodIn_app (goodIn_of _ (by decide +kernel)) ggX6_front_X6_requireCord
set_option maxRecDepth 20000 in
theorem ggX6_front_X1_frontSegment : GoodIn wsX6_front wsX1_frontSegment := goodIn_r _ [19, 20, 21, 22, 23, 24, 25, 26, 18, 27, 28, 49, 50, 51, 52, 53, 54, 55, 56] (by decide +kernel) (by decide +kernel)
set_option maxRecDepth 20000 in
theorem gX6_front_X1_frontSegment : GoodIn wsX6_front (wsV RX6 228 RX1 yX1_frontSegment wsX1_frontSegment) := goodIn_app (goodIn_of _ (by decide +kernel)) ggX6_front_X1_frontSegment
theorem dX6_front_0 : decode cX6_front 0 = .ok (.aload_n 0, 1) := by decide +kernel
theorem dX6_front_1 : decode cX6_front 1 = .ok (.iload_n 1, 1) := by decide +kernel
theorem dX6_front_2 : decode cX6_front 2 = .ok (.invokevirtual 107, 3) := by decide +kernel
theorem dX6_front_5 : decode cX6_front 5 = .ok (.aload_n 0, 1) := by decide +kernel
theorem dX6_front_6 : decode cX6_front 6 = .ok (.getfield 10, 3) := by decide +kernel
theorem dX6_front_9 : decode cX6_front 9 = .ok (.getfield 87, 3) := by decide +kernel
theorem dX6_front_12 : decode cX6_front 12 = .ok (.iload_n 1, 1) := by decide +kernel
theorem dX6_front_13 : decode cX6_front 13 = .ok (.aaload, 1) := by decide +kernel
theorem dX6_front_14 : decode cX6_front 14 = .ok (.iload_n 2, 1) := by decide +kernel
theorem dX6_front_15 : decode cX6_front 15 = .ok (.invokevirtual 228, 3) := by decide +kernel
theorem dX6_front_18 : decode cX6_front 18 = .ok (.ireturn, 1) := by decide +kernel
theorem dX6_ruleOf_0 : decode cX6_ruleOf 0 = .ok (.iload_n 1, 1) := by decide +kernel
theorem dX6_ruleOf_1 : decode cX6_ruleOf 1 = .ok (.ifCond .lt 14, 3) := by decide +kernel
theorem dX6_ruleOf_4 : decode cX6_ruleOf 4 = .ok (.iload_n 1, 1) := by decide +kernel
theorem dX6_ruleOf_5 : decode cX6_ruleOf 5 = .ok (.aload_n 0, 1) := by decide +kernel
theorem dX6_ruleOf_6 : decode cX6_ruleOf 6 = .ok (.getfield 10, 3) := by decide +kernel
theorem dX6_ruleOf_9 : decode cX6_ruleOf 9 = .ok (.getfield 144, 3) := by decide +kernel
theorem dX6_ruleOf_12 : decode cX6_ruleOf 12 = .ok (.if_icmp .lt 13, 3) := by decide +kernel
theorem dX6_ruleOf_15 : decode cX6_ruleOf 15 = .ok (.new 232, 3) := by decide +kernel
theorem dX6_ruleOf_18 : decode cX6_ruleOf 18 = .ok (.dup, 1) := by decide +kernel
theorem dX6_ruleOf_19 : decode cX6_ruleOf 19 = .ok (.ldc 234, 2) := by decide +kernel
theorem dX6_ruleOf_21 : decode cX6_ruleOf 21 = .ok (.invokespecial 236, 3) := by decide +kernel
theorem dX6_ruleOf_24 : decode cX6_ruleOf 24 = .ok (.athrow, 1) := by decide +kernel
theorem dX6_ruleOf_25 : decode cX6_ruleOf 25 = .ok (.aload_n 0, 1) := by decide +kernel
theorem dX6_ruleOf_26 : decode cX6_ruleOf 26 = .ok (.getfield 10, 3) := by decide +kernel
theorem dX6_ruleOf_29 : decode cX6_ruleOf 29 = .ok (.getfield 237, 3) := by decide +kernel
theorem dX6_ruleOf_32 : decode cX6_ruleOf 32 = .ok (.iload_n 1, 1) := by decide +kernel
theorem dX6_ruleOf_33 : decode cX6_ruleOf 33 = .ok (.aaload, 1) := by decide +kernel
theorem dX6_ruleOf_34 : decode cX6_ruleOf 34 = .ok (.astore_n 3, 1) := by decide +kernel
theorem dX6_ruleOf_35 : decode cX6_ruleOf 35 = .ok (.iload_n 2, 1) := by decide +kernel
theorem dX6_ruleOf_36 : decode cX6_ruleOf 36 = .ok (.tableswitch 60 0 3 #[32, 37, 42, 55], 32) := by decide +kernel
theorem dX6_ruleOf_68 : decode cX6_ruleOf 68 = .ok (.aload_n 3, 1) := by decide +kernel
theorem dX6_ruleOf_69 : decode cX6_ruleOf 69 = .ok (.getfield 241, 3) := by decide +kernel
theorem dX6_ruleOf_72 : decode cX6_ruleOf 72 = .ok (.ireturn, 1) := by decide +kernel
theorem dX6_ruleOf_73 : decode cX6_ruleOf 73 = .ok (.aload_n 3, 1) := by decide +kernel
theorem dX6_ruleOf_74 : decode cX6_ruleOf 74 = .ok (.getfield 246, 3) := by decide +kernel
theorem dX6_ruleOf_77 : decode cX6_ruleOf 77 = .ok (.ireturn, 1) := by decide +kernel
theorem dX6_ruleOf_78 : decode cX6_ruleOf 78 = .ok (.aload_n 3, 1) := by decide +kernel
theorem dX6_ruleOf_79 : decode cX6_ruleOf 79 = .ok (.getfield 249, 3) := by decide +kernel
theorem dX6_ruleOf_82 : decode cX6_ruleOf 82 = .ok (.ifCond .eq 7, 3) := by decide +kernel
theorem dX6_ruleOf_85 : decode cX6_ruleOf 85 = .ok (.iconst 1, 1) := by decide +kernel
theorem dX6_ruleOf_86 : decode cX6_ruleOf 86 = .ok (.goto 4, 3) := by decide +kernel
theorem dX6_ruleOf_89 : decode cX6_ruleOf 89 = .ok (.iconst 0, 1) := by decide +kernel
theorem dX6_ruleOf_90 : decode cX6_ruleOf 90 = .ok (.ireturn, 1) := by decide +kernel
theorem dX6_ruleOf_91 : decode cX6_ruleOf 91 = .ok (.aload_n 3, 1) := by decide +kernel
theorem dX6_ruleOf_92 : decode cX6_ruleOf 92 = .ok (.getfield 252, 3) := by decide +kernel
theorem dX6_ruleOf_95 : decode cX6_ruleOf 95 = .ok (.ireturn, 1) := by decide +kernel
theorem dX6_ruleOf_96 : decode cX6_ruleOf 96 = .ok (.new 48, 3) := by decide +kernel
theorem dX6_ruleOf_99 : decode cX6_ruleOf 99 = .ok (.dup, 1) := by decide +kernel
theorem dX6_ruleOf_100 : decode cX6_ruleOf 100 = .ok (.ldc 255, 2) := by decide +kernel
theorem dX6_ruleOf_102 : decode cX6_ruleOf 102 = .ok (.invokespecial 52, 3) := by decide +kernel
theorem dX6_ruleOf_105 : decode cX6_ruleOf 105 = .ok (.athrow, 1) := by decide +kernel
set_option maxRecDepth 20000 in
theorem ggX6_count_X5_flameCount : GoodIn wsX6_count wsX5_flameCount := goodIn_r _ [10, 11, 12, 13, 14, 15, 16, 17, 18, 19, 40, 41, 42, 43, 44, 45, 46, 47, 48, 49, 50, 66, 67, 68, 69, 70, 71, 72, 73] (by decide +kernel) (by decide +kernel)
set_option maxRecDepth 20000 in
theorem gX6_count_X5_flameCount : GoodIn wsX6_count (wsV RX6 123 RX5 yX5_flameCount wsX5_flameCount) := goodIn_app (goodIn_of _ (by decide +kernel)) ggX6_count_X5_flameCount
set_option maxRecDepth 20000 in
theorem ggX6_count_X5_cordsOut : GoodIn wsX6_count wsX5_cordsOut := goodIn_r _ [23, 11, 12, 24, 25, 26, 16, 27, 28, 29, 30, 40, 41, 42, 43, 44, 45, 46, 47, 48, 49, 50, 66, 67, 68, 69, 70, 71, 72, 73] (by decide +kernel) (by decide +kernel)
set_option maxRecDepth 20000 in
theorem gX6_count_X5_cordsOut : GoodIn wsX6_count (wsV RX6 257 RX5 yX5_cordsOut wsX5_cordsOut) := goodIn_app (goodIn_of _ (by decide +kernel)) ggX6_count_X5_cordsOut
theorem dX6_count_0 : decode cX6_count 0 = .ok (.iload_n 1, 1) := by decide +kernel
theorem dX6_count_1 : decode cX6_count 1 = .ok (.tableswitch 159 0 11 #[63, 71, 79, 87, 95, 103, 111, 119, 127, 135, 146, 151], 63) := by decide +kernel
theorem dX6_count_64 : decode cX6_count 64 = .ok (.aload_n 0, 1) := by decide +kernel
theorem dX6_count_65 : decode cX6_count 65 = .ok (.getfield 10, 3) := by decide +kernel
theorem dX6_count_68 : decode cX6_count 68 = .ok (.getfield 193, 3) := by decide +kernel
theorem dX6_count_71 : decode cX6_count 71 = .ok (.ireturn, 1) := by decide +kernel
theorem dX6_count_72 : decode cX6_count 72 = .ok (.aload_n 0, 1) := by decide +kernel
theorem dX6_count_73 : decode cX6_count 73 = .ok (.getfield 10, 3) := by decide +kernel
theorem dX6_count_76 : decode cX6_count 76 = .ok (.getfield 77, 3) := by decide +kernel
theorem dX6_count_79 : decode cX6_count 79 = .ok (.ireturn, 1) := by decide +kernel
theorem dX6_count_80 : decode cX6_count 80 = .ok (.aload_n 0, 1) := by decide +kernel
theorem dX6_count_81 : decode cX6_count 81 = .ok (.getfield 10, 3) := by decide +kernel
theorem dX6_count_84 : decode cX6_count 84 = .ok (.getfield 144, 3) := by decide +kernel
theorem dX6_count_87 : decode cX6_count 87 = .ok (.ireturn, 1) := by decide +kernel
theorem dX6_count_88 : decode cX6_count 88 = .ok (.aload_n 0, 1) := by decide +kernel
theorem dX6_count_89 : decode cX6_count 89 = .ok (.getfield 10, 3) := by decide +kernel
theorem dX6_count_92 : decode cX6_count 92 = .ok (.invokevirtual 123, 3) := by decide +kernel
theorem dX6_count_95 : decode cX6_count 95 = .ok (.ireturn, 1) := by decide +kernel
theorem dX6_count_96 : decode cX6_count 96 = .ok (.aload_n 0, 1) := by decide +kernel
theorem dX6_count_97 : decode cX6_count 97 = .ok (.getfield 10, 3) := by decide +kernel
theorem dX6_count_100 : decode cX6_count 100 = .ok (.invokevirtual 257, 3) := by decide +kernel
theorem dX6_count_103 : decode cX6_count 103 = .ok (.ireturn, 1) := by decide +kernel
theorem dX6_count_104 : decode cX6_count 104 = .ok (.aload_n 0, 1) := by decide +kernel
theorem dX6_count_105 : decode cX6_count 105 = .ok (.getfield 10, 3) := by decide +kernel
theorem dX6_count_108 : decode cX6_count 108 = .ok (.getfield 260, 3) := by decide +kernel
theorem dX6_count_111 : decode cX6_count 111 = .ok (.ireturn, 1) := by decide +kernel
theorem dX6_count_112 : decode cX6_count 112 = .ok (.aload_n 0, 1) := by decide +kernel
theorem dX6_count_113 : decode cX6_count 113 = .ok (.getfield 10, 3) := by decide +kernel
theorem dX6_count_116 : decode cX6_count 116 = .ok (.getfield 263, 3) := by decide +kernel
theorem dX6_count_119 : decode cX6_count 119 = .ok (.ireturn, 1) := by decide +kernel
theorem dX6_count_120 : decode cX6_count 120 = .ok (.aload_n 0, 1) := by decide +kernel
theorem dX6_count_121 : decode cX6_count 121 = .ok (.getfield 10, 3) := by decide +kernel
theorem dX6_count_124 : decode cX6_count 124 = .ok (.getfield 266, 3) := by decide +kernel
theorem dX6_count_127 : decode cX6_count 127 = .ok (.ireturn, 1) := by decide +kernel
theorem dX6_count_128 : decode cX6_count 128 = .ok (.aload_n 0, 1) := by decide +kernel
theorem dX6_count_129 : decode cX6_count 129 = .ok (.getfield 10, 3) := by decide +kernel
theorem dX6_count_132 : decode cX6_count 132 = .ok (.getfield 269, 3) := by decide +kernel
theorem dX6_count_135 : decode cX6_count 135 = .ok (.ireturn, 1) := by decide +kernel
theorem dX6_count_136 : decode cX6_count 136 = .ok (.aload_n 0, 1) := by decide +kernel
theorem dX6_count_137 : decode cX6_count 137 = .ok (.getfield 10, 3) := by decide +kernel
theorem dX6_count_140 : decode cX6_count 140 = .ok (.getfield 272, 3) := by decide +kernel
theorem dX6_count_143 : decode cX6_count 143 = .ok (.getfield 276, 3) := by decide +kernel
theorem dX6_count_146 : decode cX6_count 146 = .ok (.ireturn, 1) := by decide +kernel
theorem dX6_count_147 : decode cX6_count 147 = .ok (.aload_n 0, 1) := by decide +kernel
theorem dX6_count_148 : decode cX6_count 148 = .ok (.getfield 178, 3) := by decide +kernel
theorem dX6_count_151 : decode cX6_count 151 = .ok (.ireturn, 1) := by decide +kernel
theorem dX6_count_152 : decode cX6_count 152 = .ok (.aload_n 0, 1) := by decide +kernel
theorem dX6_count_153 : decode cX6_count 153 = .ok (.getfield 33, 3) := by decide +kernel
theorem dX6_count_156 : decode cX6_count 156 = .ok (.getfield 155, 3) := by decide +kernel
theorem dX6_count_159 : decode cX6_count 159 = .ok (.ireturn, 1) := by decide +kernel
theorem dX6_count_160 : decode cX6_count 160 = .ok (.new 48, 3) := by decide +kernel
theorem dX6_count_163 : decode cX6_count 163 = .ok (.dup, 1) := by decide +kernel
theorem dX6_count_164 : decode cX6_count 164 = .ok (.ldc_w 281, 3) := by decide +kernel
theorem dX6_count_167 : decode cX6_count 167 = .ok (.invokespecial 52, 3) := by decide +kernel
theorem dX6_count_170 : decode cX6_count 170 = .ok (.athrow, 1) := by decide +kernel
set_option maxRecDepth 20000 in
theorem ggX6_entry_J4_init_da8c8 : GoodIn wsX6_entry wsJ4_init_da8c8 := goodIn_r _ [9, 10, 11, 12, 13, 14, 15, 16, 17, 18, 19, 20, 21, 22, 23, 24, 25, 26, 27, 28, 272, 273, 274, 275] (by decide +kernel) (by decide +kernel)
set_option maxRecDepth 20000 in
theorem gX6_entry_J4_init_da8c8 : GoodIn wsX6_entry (wsJ4_init_da8c8) := ggX6_entry_J4_init_da8c8
set_option maxRecDepth 20000 in
theorem ggX6_entry_X0_tell : GoodIn wsX6_entry wsX0_tell := goodIn_r _ [33, 34, 35, 36, 37, 38, 39, 40, 41, 42, 43, 32, 44, 45, 46, 47, 6, 48, 49, 50, 51, 52, 12, 53, 54, 55, 56, 57, 58, 59, 19, 60, 61, 62, 63, 64, 20, 65, 66, 67, 68, 69, 70, 71, 72, 73, 74, 75, 76, 77, 78, 79, 80, 81, 82, 83, 84, 85, 86, 87, 88, 89, 90, 91, 92, 18, 93, 94, 95, 96, 97, 98, 99, 100, 101, 102, 103, 104, 17, 105, 106, 23, 107, 108, 109, 110, 111, 112, 113, 114, 115, 116, 117, 118, 119, 120, 121, 122, 123, 124, 125, 126, 127, 128, 129, 130, 131, 132, 133, 134, 135, 136, 137, 138, 139, 140, 141, 142, 143, 144, 145, 146, 147, 148, 149, 150, 151, 152, 153, 154, 155, 21, 22, 24, 25, 26, 27, 28, 156, 157, 158, 159, 160, 161, 162, 163, 164, 165, 166, 167, 168, 169, 170, 171, 172, 173, 174, 175, 176, 177, 178, 179, 180, 181, 182, 183, 184, 185, 186, 187, 188, 189, 190, 191, 192, 193, 194, 195, 196, 197, 198, 199, 200, 201, 202, 203, 204, 205, 206, 207, 208, 209, 210, 211, 212, 213, 214, 215, 216, 217, 218, 219, 220, 221, 222, 223, 224, 225, 267, 268, 269, 270, 271, 272, 273, 274, 275] (by decide +kernel) (by decide +kernel)
set_option maxRecDepth 20000 in
theorem gX6_entry_X0_tell : GoodIn wsX6_entry (wsV RX6 288 RX0 yX0_tell wsX0_tell) := goodIn_app (goodIn_of _ (by decide +kernel)) ggX6_entry_X0_tell
set_option maxRecDepth 20000 in
theorem ggX6_entry_J4_length_8abf5 : GoodIn wsX6_entry wsJ4_length_8abf5 := goodIn_r _ [229, 230, 231, 51, 232, 12, 233, 54, 272, 273, 274, 275] (by decide +kernel) (by decide +kernel)
set_option maxRecDepth 20000 in
theorem gX6_entry_J4_length_8abf5 : GoodIn wsX6_entry (wsV RX6 292 RJ4 yJ4_length_8abf5 wsJ4_length_8abf5) := goodIn_app (goodIn_of _ (by decide +kernel)) ggX6_entry_J4_length_8abf5
set_option maxRecDepth 20000 in
theorem ggX6_entry_J4_charAt_5068e : GoodIn wsX6_entry wsJ4_charAt_5068e := goodIn_r _ [237, 238, 239, 51, 240, 12, 241, 20, 19, 54, 242, 94, 77, 95, 243, 196, 117, 197, 119, 198, 199, 122, 200, 244, 245, 23, 246, 108, 127, 128, 112, 113, 114, 272, 273, 274, 275] (by decide +kernel) (by decide +kernel)
set_option maxRecDepth 20000 in
theorem gX6_entry_J4_charAt_5068e : GoodIn wsX6_entry (wsV RX6 294 RJ4 yJ4_charAt_5068e wsJ4_charAt_5068e) := goodIn_app (goodIn_of _ (by decide +kernel)) ggX6_entry_J4_charAt_5068e
theorem dX6_entry_0 : decode cX6_entry 0 = .ok (.iload_n 1, 1) := by decide +kernel
theorem dX6_entry_1 : decode cX6_entry 1 = .ok (.ifCond .lt 7, 3) := by decide +kernel
theorem dX6_entry_4 : decode cX6_entry 4 = .ok (.iload_n 2, 1) := by decide +kernel
theorem dX6_entry_5 : decode cX6_entry 5 = .ok (.ifCond .ge 14, 3) := by decide +kernel
theorem dX6_entry_8 : decode cX6_entry 8 = .ok (.new 48, 3) := by decide +kernel
theorem dX6_entry_11 : decode cX6_entry 11 = .ok (.dup, 1) := by decide +kernel
theorem dX6_entry_12 : decode cX6_entry 12 = .ok (.ldc_w 283, 3) := by decide +kernel
theorem dX6_entry_15 : decode cX6_entry 15 = .ok (.invokespecial 52, 3) := by decide +kernel
theorem dX6_entry_18 : decode cX6_entry 18 = .ok (.athrow, 1) := by decide +kernel
theorem dX6_entry_19 : decode cX6_entry 19 = .ok (.iload_n 1, 1) := by decide +kernel
theorem dX6_entry_20 : decode cX6_entry 20 = .ok (.aload_n 0, 1) := by decide +kernel
theorem dX6_entry_21 : decode cX6_entry 21 = .ok (.getfield 10, 3) := by decide +kernel
theorem dX6_entry_24 : decode cX6_entry 24 = .ok (.getfield 272, 3) := by decide +kernel
theorem dX6_entry_27 : decode cX6_entry 27 = .ok (.getfield 276, 3) := by decide +kernel
theorem dX6_entry_30 : decode cX6_entry 30 = .ok (.if_icmp .lt 5, 3) := by decide +kernel
theorem dX6_entry_33 : decode cX6_entry 33 = .ok (.iconst (-1), 1) := by decide +kernel
theorem dX6_entry_34 : decode cX6_entry 34 = .ok (.ireturn, 1) := by decide +kernel
theorem dX6_entry_35 : decode cX6_entry 35 = .ok (.new 285, 3) := by decide +kernel
theorem dX6_entry_38 : decode cX6_entry 38 = .ok (.dup, 1) := by decide +kernel
theorem dX6_entry_39 : decode cX6_entry 39 = .ok (.invokespecial 287, 3) := by decide +kernel
theorem dX6_entry_42 : decode cX6_entry 42 = .ok (.astore_n 3, 1) := by decide +kernel
theorem dX6_entry_43 : decode cX6_entry 43 = .ok (.aload_n 0, 1) := by decide +kernel
theorem dX6_entry_44 : decode cX6_entry 44 = .ok (.getfield 10, 3) := by decide +kernel
theorem dX6_entry_47 : decode cX6_entry 47 = .ok (.getfield 272, 3) := by decide +kernel
theorem dX6_entry_50 : decode cX6_entry 50 = .ok (.iload_n 1, 1) := by decide +kernel
theorem dX6_entry_51 : decode cX6_entry 51 = .ok (.aload_n 3, 1) := by decide +kernel
theorem dX6_entry_52 : decode cX6_entry 52 = .ok (.invokevirtual 288, 3) := by decide +kernel
theorem dX6_entry_55 : decode cX6_entry 55 = .ok (.iload_n 2, 1) := by decide +kernel
theorem dX6_entry_56 : decode cX6_entry 56 = .ok (.aload_n 3, 1) := by decide +kernel
theorem dX6_entry_57 : decode cX6_entry 57 = .ok (.invokevirtual 292, 3) := by decide +kernel
theorem dX6_entry_60 : decode cX6_entry 60 = .ok (.if_icmp .lt 5, 3) := by decide +kernel
theorem dX6_entry_63 : decode cX6_entry 63 = .ok (.iconst (-1), 1) := by decide +kernel
theorem dX6_entry_64 : decode cX6_entry 64 = .ok (.ireturn, 1) := by decide +kernel
theorem dX6_entry_65 : decode cX6_entry 65 = .ok (.aload_n 3, 1) := by decide +kernel
theorem dX6_entry_66 : decode cX6_entry 66 = .ok (.iload_n 2, 1) := by decide +kernel
theorem dX6_entry_67 : decode cX6_entry 67 = .ok (.invokevirtual 294, 3) := by decide +kernel
theorem dX6_entry_70 : decode cX6_entry 70 = .ok (.ireturn, 1) := by decide +kernel
set_option maxRecDepth 20000 in
theorem ggX6_outIn_X6_requireCord : GoodIn wsX6_outIn wsX6_requireCord := goodIn_ca (goodIn_r _ [7, 8, 9, 2, 10, 11, 12, 13, 14, 15, 129, 130, 131, 132, 133, 134, 135, 136, 137, 138, 139, 140, 141, 142, 143, 144, 145, 146, 147, 148] (by decide +kernel) (by decide +kernel)) (goodIn_sub (fun _ h => List.mem_cons_of_mem _ (List.mem_append_right _ h)) (by decide +kernel))
set_option maxRecDepth 20000 in
theorem gX6_outIn_X6_requireCord : GoodIn wsX6_outIn (wsV RX6 107 RX6 yX6_requireCord wsX6_requireCord) := goodIn_app (goodIn_of _ (by decide +kernel)) ggX6_outIn_X6_requireCord
set_option maxRecDepth 20000 in
theorem ggX6_outIn_X5_copyFrom : GoodIn wsX6_outIn wsX5_copyFrom := goodIn_r _ [19, 20, 15, 21, 22, 23, 24, 25, 26, 27, 28, 29, 30, 31, 32, 33, 34, 35, 36, 37, 38, 39, 40, 41, 42, 43, 44, 45, 46, 47, 48, 49, 50, 51, 52, 53, 54, 55, 56, 57, 58, 59, 60, 61, 138, 139, 140, 141, 142, 143, 144, 145, 146, 147, 148, 149, 150, 151, 152, 153, 154, 155, 156, 157, 158, 159, 160, 161, 162, 163, 164, 165] (by decide +kernel) (by decide +kernel)
set_option maxRecDepth 20000 in
theorem gX6_outIn_X5_copyFrom : GoodIn wsX6_outIn (wsV RX6 186 RX5 yX5_copyFrom wsX5_copyFrom) := goodIn_app (goodIn_of _ (by decide +kernel)) ggX6_outIn_X5_copyFrom
set_option maxRecDepth 20000 in
theorem ggX6_outIn_X1_isOut : GoodIn wsX6_outIn wsX1_isOut := goodIn_r _ [65, 38, 39, 37, 149, 150, 151, 152, 153, 154, 155, 156] (by decide +kernel) (by decide +kernel)
set_option maxRecDepth 20000 in
theorem gX6_outIn_X1_isOut : GoodIn wsX6_outIn (wsV RX6 220 RX1 yX1_isOut wsX1_isOut) := goodIn_app (goodIn_of _ (by decide +kernel)) ggX6_outIn_X1_isOut
set_option maxRecDepth 20000 in
theorem ggX6_outIn_X5_flameCount : GoodIn wsX6_outIn wsX5_flameCount := goodIn_r _ [69, 15, 20, 70, 71, 72, 33, 73, 40, 41, 138, 139, 140, 141, 142, 143, 144, 145, 146, 147, 148, 149, 150, 151, 152, 153, 154, 155, 156] (by decide +kernel) (by decide +kernel)
set_option maxRecDepth 20000 in
theorem gX6_outIn_X5_flameCount : GoodIn wsX6_outIn (wsV RX6 123 RX5 yX5_flameCount wsX5_flameCount) := goodIn_app (goodIn_of _ (by decide +kernel)) ggX6_outIn_X5_flameCount
set_option maxRecDepth 20000 in
theorem ggX6_outIn_X5_passStep : GoodIn wsX6_outIn wsX5_passStep := goodIn_r _ [77, 24, 15, 78, 79, 80, 13, 81, 27, 28, 29, 82, 83, 84, 85, 86, 67, 68, 69, 20, 70, 71, 72, 33, 73, 40, 41, 87, 88, 89, 90, 91, 92, 93, 94, 38, 39, 95, 96, 63, 64, 65, 37, 97, 98, 99, 100, 25, 23, 22, 21, 101, 102, 103, 55, 104, 57, 60, 58, 59, 61, 105, 11, 12, 14, 106, 107, 108, 109, 110, 111, 112, 113, 114, 115, 116, 117, 26, 118, 119, 120, 121, 122, 123, 124, 125, 126, 127, 128, 138, 139, 140, 141, 142, 143, 144, 145, 146, 147, 148, 149, 150, 151, 152, 153, 154, 155, 156, 157, 158, 159, 160, 161, 162, 163, 164, 165] (by decide +kernel) (by decide +kernel)
set_option maxRecDepth 20000 in
theorem gX6_outIn_X5_passStep : GoodIn wsX6_outIn (wsV RX6 298 RX5 yX5_passStep wsX5_passStep) := goodIn_app (goodIn_of _ (by decide +kernel)) ggX6_outIn_X5_passStep
theorem dX6_outIn_0 : decode cX6_outIn 0 = .ok (.aload_n 0, 1) := by decide +kernel
theorem dX6_outIn_1 : decode cX6_outIn 1 = .ok (.iload_n 1, 1) := by decide +kernel
theorem dX6_outIn_2 : decode cX6_outIn 2 = .ok (.invokevirtual 107, 3) := by decide +kernel
theorem dX6_outIn_5 : decode cX6_outIn 5 = .ok (.aload_n 0, 1) := by decide +kernel
theorem dX6_outIn_6 : decode cX6_outIn 6 = .ok (.getfield 16, 3) := by decide +kernel
theorem dX6_outIn_9 : decode cX6_outIn 9 = .ok (.aload_n 0, 1) := by decide +kernel
theorem dX6_outIn_10 : decode cX6_outIn 10 = .ok (.getfield 10, 3) := by decide +kernel
theorem dX6_outIn_13 : decode cX6_outIn 13 = .ok (.invokevirtual 186, 3) := by decide +kernel
theorem dX6_outIn_16 : decode cX6_outIn 16 = .ok (.iconst 0, 1) := by decide +kernel
theorem dX6_outIn_17 : decode cX6_outIn 17 = .ok (.istore_n 2, 1) := by decide +kernel
theorem dX6_outIn_18 : decode cX6_outIn 18 = .ok (.iload_n 2, 1) := by decide +kernel
theorem dX6_outIn_19 : decode cX6_outIn 19 = .ok (.sipush 2000, 3) := by decide +kernel
theorem dX6_outIn_22 : decode cX6_outIn 22 = .ok (.if_icmp .gt 46, 3) := by decide +kernel
theorem dX6_outIn_25 : decode cX6_outIn 25 = .ok (.aload_n 0, 1) := by decide +kernel
theorem dX6_outIn_26 : decode cX6_outIn 26 = .ok (.getfield 16, 3) := by decide +kernel
theorem dX6_outIn_29 : decode cX6_outIn 29 = .ok (.getfield 87, 3) := by decide +kernel
theorem dX6_outIn_32 : decode cX6_outIn 32 = .ok (.iload_n 1, 1) := by decide +kernel
theorem dX6_outIn_33 : decode cX6_outIn 33 = .ok (.aaload, 1) := by decide +kernel
theorem dX6_outIn_34 : decode cX6_outIn 34 = .ok (.invokevirtual 220, 3) := by decide +kernel
theorem dX6_outIn_37 : decode cX6_outIn 37 = .ok (.ifCond .eq 5, 3) := by decide +kernel
theorem dX6_outIn_40 : decode cX6_outIn 40 = .ok (.iload_n 2, 1) := by decide +kernel
theorem dX6_outIn_41 : decode cX6_outIn 41 = .ok (.ireturn, 1) := by decide +kernel
theorem dX6_outIn_42 : decode cX6_outIn 42 = .ok (.aload_n 0, 1) := by decide +kernel
theorem dX6_outIn_43 : decode cX6_outIn 43 = .ok (.getfield 16, 3) := by decide +kernel
theorem dX6_outIn_46 : decode cX6_outIn 46 = .ok (.invokevirtual 123, 3) := by decide +kernel
theorem dX6_outIn_49 : decode cX6_outIn 49 = .ok (.ifCond .ne 5, 3) := by decide +kernel
theorem dX6_outIn_52 : decode cX6_outIn 52 = .ok (.iconst (-1), 1) := by decide +kernel
theorem dX6_outIn_53 : decode cX6_outIn 53 = .ok (.ireturn, 1) := by decide +kernel
theorem dX6_outIn_54 : decode cX6_outIn 54 = .ok (.aload_n 0, 1) := by decide +kernel
theorem dX6_outIn_55 : decode cX6_outIn 55 = .ok (.getfield 16, 3) := by decide +kernel
theorem dX6_outIn_58 : decode cX6_outIn 58 = .ok (.invokevirtual 298, 3) := by decide +kernel
theorem dX6_outIn_61 : decode cX6_outIn 61 = .ok (.pop, 1) := by decide +kernel
theorem dX6_outIn_62 : decode cX6_outIn 62 = .ok (.iinc 2 1, 3) := by decide +kernel
theorem dX6_outIn_65 : decode cX6_outIn 65 = .ok (.goto (-47), 3) := by decide +kernel
theorem dX6_outIn_68 : decode cX6_outIn 68 = .ok (.iconst (-1), 1) := by decide +kernel
theorem dX6_outIn_69 : decode cX6_outIn 69 = .ok (.ireturn, 1) := by decide +kernel
set_option maxRecDepth 20000 in
theorem ggX6_lasts_X6_requireCord : GoodIn wsX6_lasts wsX6_requireCord := goodIn_ca (goodIn_r _ [8, 9, 10, 3, 11, 12, 13, 14, 15, 16, 31, 32, 33, 34, 35, 36, 37, 38, 39, 40, 41, 42, 43, 44, 45, 46, 47, 48, 49, 50] (by decide +kernel) (by decide +kernel)) (goodIn_sub (fun _ h => List.mem_cons_of_mem _ (List.mem_append_right _ h)) (by decide +kernel))
set_option maxRecDepth 20000 in
theorem gX6_lasts_X6_requireCord : GoodIn wsX6_lasts (wsV RX6 107 RX6 yX6_requireCord wsX6_requireCord) := goodIn_app (goodIn_of _ (by decide +kernel)) ggX6_lasts_X6_requireCord
set_option maxRecDepth 20000 in
theorem ggX6_lasts_X1_timeLeft : GoodIn wsX6_lasts wsX1_timeLeft := goodIn_r _ [21, 22, 23, 24, 51, 52, 53, 54, 55, 56, 57, 58] (by decide +kernel) (by decide +kernel)
set_option maxRecDepth 20000 in
theorem gX6_lasts_X1_timeLeft : GoodIn wsX6_lasts (wsV RX6 210 RX1 yX1_timeLeft wsX1_timeLeft) := goodIn_app (goodIn_of _ (by decide +kernel)) ggX6_lasts_X1_timeLeft
set_option maxRecDepth 20000 in
theorem ggX6_lasts_X6_stepsByCounting : GoodIn wsX6_lasts wsX6_stepsByCounting := goodIn_r _ [27] (by decide +kernel) (by decide +kernel)
set_option maxRecDepth 20000 in
theorem gX6_lasts_X6_stepsByCounting : GoodIn wsX6_lasts (va_wsS RX6 303 yX6_stepsByCounting wsX6_stepsByCounting) := goodIn_app (goodIn_of _ (by decide +kernel)) ggX6_lasts_X6_stepsByCounting
set_option maxRecDepth 20000 in
theorem ggX6_lasts_X6_stepsByDividing : GoodIn wsX6_lasts wsX6_stepsByDividing := goodIn_r _ [30] (by decide +kernel) (by decide +kernel)
set_option maxRecDepth 20000 in
theorem gX6_lasts_X6_stepsByDividing : GoodIn wsX6_lasts (va_wsS RX6 307 yX6_stepsByDividing wsX6_stepsByDividing) := goodIn_app (goodIn_of _ (by decide +kernel)) ggX6_lasts_X6_stepsByDividing
theorem dX6_lasts_0 : decode cX6_lasts 0 = .ok (.aload_n 0, 1) := by decide +kernel
theorem dX6_lasts_1 : decode cX6_lasts 1 = .ok (.iload_n 1, 1) := by decide +kernel
theorem dX6_lasts_2 : decode cX6_lasts 2 = .ok (.invokevirtual 107, 3) := by decide +kernel
theorem dX6_lasts_5 : decode cX6_lasts 5 = .ok (.iload_n 2, 1) := by decide +kernel
theorem dX6_lasts_6 : decode cX6_lasts 6 = .ok (.iconst 1, 1) := by decide +kernel
theorem dX6_lasts_7 : decode cX6_lasts 7 = .ok (.if_icmp .lt 17, 3) := by decide +kernel
theorem dX6_lasts_10 : decode cX6_lasts 10 = .ok (.iload_n 2, 1) := by decide +kernel
theorem dX6_lasts_11 : decode cX6_lasts 11 = .ok (.iconst 2, 1) := by decide +kernel
theorem dX6_lasts_12 : decode cX6_lasts 12 = .ok (.if_icmp .gt 12, 3) := by decide +kernel
theorem dX6_lasts_15 : decode cX6_lasts 15 = .ok (.iload_n 3, 1) := by decide +kernel
theorem dX6_lasts_16 : decode cX6_lasts 16 = .ok (.ifCond .lt 8, 3) := by decide +kernel
theorem dX6_lasts_19 : decode cX6_lasts 19 = .ok (.iload_n 3, 1) := by decide +kernel
theorem dX6_lasts_20 : decode cX6_lasts 20 = .ok (.iconst 1, 1) := by decide +kernel
theorem dX6_lasts_21 : decode cX6_lasts 21 = .ok (.if_icmp .le 14, 3) := by decide +kernel
theorem dX6_lasts_24 : decode cX6_lasts 24 = .ok (.new 48, 3) := by decide +kernel
theorem dX6_lasts_27 : decode cX6_lasts 27 = .ok (.dup, 1) := by decide +kernel
theorem dX6_lasts_28 : decode cX6_lasts 28 = .ok (.ldc_w 301, 3) := by decide +kernel
theorem dX6_lasts_31 : decode cX6_lasts 31 = .ok (.invokespecial 52, 3) := by decide +kernel
theorem dX6_lasts_34 : decode cX6_lasts 34 = .ok (.athrow, 1) := by decide +kernel
theorem dX6_lasts_35 : decode cX6_lasts 35 = .ok (.aload_n 0, 1) := by decide +kernel
theorem dX6_lasts_36 : decode cX6_lasts 36 = .ok (.getfield 10, 3) := by decide +kernel
theorem dX6_lasts_39 : decode cX6_lasts 39 = .ok (.getfield 87, 3) := by decide +kernel
theorem dX6_lasts_42 : decode cX6_lasts 42 = .ok (.iload_n 1, 1) := by decide +kernel
theorem dX6_lasts_43 : decode cX6_lasts 43 = .ok (.aaload, 1) := by decide +kernel
theorem dX6_lasts_44 : decode cX6_lasts 44 = .ok (.invokevirtual 210, 3) := by decide +kernel
theorem dX6_lasts_47 : decode cX6_lasts 47 = .ok (.istore 4, 2) := by decide +kernel
theorem dX6_lasts_49 : decode cX6_lasts 49 = .ok (.iload_n 3, 1) := by decide +kernel
theorem dX6_lasts_50 : decode cX6_lasts 50 = .ok (.ifCond .ne 12, 3) := by decide +kernel
theorem dX6_lasts_53 : decode cX6_lasts 53 = .ok (.iload 4, 2) := by decide +kernel
theorem dX6_lasts_55 : decode cX6_lasts 55 = .ok (.iload_n 2, 1) := by decide +kernel
theorem dX6_lasts_56 : decode cX6_lasts 56 = .ok (.invokestatic 303, 3) := by decide +kernel
theorem dX6_lasts_59 : decode cX6_lasts 59 = .ok (.goto 9, 3) := by decide +kernel
theorem dX6_lasts_62 : decode cX6_lasts 62 = .ok (.iload 4, 2) := by decide +kernel
theorem dX6_lasts_64 : decode cX6_lasts 64 = .ok (.iload_n 2, 1) := by decide +kernel
theorem dX6_lasts_65 : decode cX6_lasts 65 = .ok (.invokestatic 307, 3) := by decide +kernel
theorem dX6_lasts_68 : decode cX6_lasts 68 = .ok (.ireturn, 1) := by decide +kernel
set_option maxRecDepth 20000 in
theorem ggX6_tellable_X6_isPlanSet : GoodIn wsX6_tellable wsX6_isPlanSet := goodIn_r _ [8, 9, 10, 11, 12, 13, 14, 15, 16, 79, 80, 81, 82, 83, 84, 85, 86, 87, 88, 89, 90, 91, 92, 93, 94, 95, 96, 97, 98] (by decide +kernel) (by decide +kernel)
set_option maxRecDepth 20000 in
theorem gX6_tellable_X6_isPlanSet : GoodIn wsX6_tellable (wsV RX6 310 RX6 yX6_isPlanSet wsX6_isPlanSet) := goodIn_app (goodIn_of _ (by decide +kernel)) ggX6_tellable_X6_isPlanSet
set_option maxRecDepth 20000 in
theorem ggX6_tellable_X6_makePlans : GoodIn wsX6_tellable wsX6_makePlans := goodIn_r _ [20, 3, 9, 21, 22, 23, 24, 25, 26, 27, 28, 29, 30, 31, 32, 33, 34, 35, 36, 37, 38, 39, 40, 41, 42, 43, 44, 45, 46, 47, 48, 49, 50, 51, 52, 53, 54, 55, 56, 57, 58, 59, 60, 61, 62, 63, 64, 65, 7, 66, 67, 68, 69, 70, 79, 80, 81, 82, 83, 84, 85, 86, 87, 88, 89, 90, 91, 92, 93, 94, 95, 96, 97, 98, 99, 100, 101, 102, 103, 104, 105, 106, 107, 108, 109, 110] (by decide +kernel) (by decide +kernel)
set_option maxRecDepth 20000 in
theorem gX6_tellable_X6_makePlans : GoodIn wsX6_tellable (wsV RX6 315 RX6 yX6_makePlans wsX6_makePlans) := goodIn_app (goodIn_of _ (by decide +kernel)) ggX6_tellable_X6_makePlans
set_option maxRecDepth 20000 in
theorem ggX6_tellable_X3_toldTimes : GoodIn wsX6_tellable wsX3_toldTimes := goodIn_r _ [74, 26, 107, 108, 109, 110] (by decide +kernel) (by decide +kernel)
set_option maxRecDepth 20000 in
theorem gX6_tellable_X3_toldTimes : GoodIn wsX6_tellable (wsV RX6 318 RX3 yX3_toldTimes wsX3_toldTimes) := goodIn_app (goodIn_of _ (by decide +kernel)) ggX6_tellable_X3_toldTimes
set_option maxRecDepth 20000 in
theorem ggX6_tellable_X3_toldTime : GoodIn wsX6_tellable wsX3_toldTime := goodIn_r _ [78, 26, 107, 108, 109, 110] (by decide +kernel) (by decide +kernel)
set_option maxRecDepth 20000 in
theorem gX6_tellable_X3_toldTime : GoodIn wsX6_tellable (wsV RX6 321 RX3 yX3_toldTime wsX3_toldTime) := goodIn_app (goodIn_of _ (by decide +kernel)) ggX6_tellable_X3_toldTime
theorem dX6_tellable_0 : decode cX6_tellable 0 = .ok (.aload_n 0, 1) := by decide +kernel
theorem dX6_tellable_1 : decode cX6_tellable 1 = .ok (.iload_n 1, 1) := by decide +kernel
theorem dX6_tellable_2 : decode cX6_tellable 2 = .ok (.invokevirtual 310, 3) := by decide +kernel
theorem dX6_tellable_5 : decode cX6_tellable 5 = .ok (.ifCond .eq 8, 3) := by decide +kernel
theorem dX6_tellable_8 : decode cX6_tellable 8 = .ok (.iload_n 2, 1) := by decide +kernel
theorem dX6_tellable_9 : decode cX6_tellable 9 = .ok (.iconst (-1), 1) := by decide +kernel
theorem dX6_tellable_10 : decode cX6_tellable 10 = .ok (.if_icmp .ge 14, 3) := by decide +kernel
theorem dX6_tellable_13 : decode cX6_tellable 13 = .ok (.new 48, 3) := by decide +kernel
theorem dX6_tellable_16 : decode cX6_tellable 16 = .ok (.dup, 1) := by decide +kernel
theorem dX6_tellable_17 : decode cX6_tellable 17 = .ok (.ldc_w 313, 3) := by decide +kernel
theorem dX6_tellable_20 : decode cX6_tellable 20 = .ok (.invokespecial 52, 3) := by decide +kernel
theorem dX6_tellable_23 : decode cX6_tellable 23 = .ok (.athrow, 1) := by decide +kernel
theorem dX6_tellable_24 : decode cX6_tellable 24 = .ok (.aload_n 0, 1) := by decide +kernel
theorem dX6_tellable_25 : decode cX6_tellable 25 = .ok (.iload_n 1, 1) := by decide +kernel
theorem dX6_tellable_26 : decode cX6_tellable 26 = .ok (.invokevirtual 315, 3) := by decide +kernel
theorem dX6_tellable_29 : decode cX6_tellable 29 = .ok (.iload_n 2, 1) := by decide +kernel
theorem dX6_tellable_30 : decode cX6_tellable 30 = .ok (.iconst (-1), 1) := by decide +kernel
theorem dX6_tellable_31 : decode cX6_tellable 31 = .ok (.if_icmp .ne 13, 3) := by decide +kernel
theorem dX6_tellable_34 : decode cX6_tellable 34 = .ok (.aload_n 0, 1) := by decide +kernel
theorem dX6_tellable_35 : decode cX6_tellable 35 = .ok (.getfield 40, 3) := by decide +kernel
theorem dX6_tellable_38 : decode cX6_tellable 38 = .ok (.invokevirtual 318, 3) := by decide +kernel
theorem dX6_tellable_41 : decode cX6_tellable 41 = .ok (.goto 11, 3) := by decide +kernel
theorem dX6_tellable_44 : decode cX6_tellable 44 = .ok (.aload_n 0, 1) := by decide +kernel
theorem dX6_tellable_45 : decode cX6_tellable 45 = .ok (.getfield 40, 3) := by decide +kernel
theorem dX6_tellable_48 : decode cX6_tellable 48 = .ok (.iload_n 2, 1) := by decide +kernel
theorem dX6_tellable_49 : decode cX6_tellable 49 = .ok (.invokevirtual 321, 3) := by decide +kernel
theorem dX6_tellable_52 : decode cX6_tellable 52 = .ok (.ireturn, 1) := by decide +kernel
set_option maxRecDepth 20000 in
theorem ggX6_fewestFlames_X6_isPlanSet : GoodIn wsX6_fewestFlames wsX6_isPlanSet := goodIn_r _ [8, 9, 10, 11, 12, 13, 14, 15, 16, 71, 72, 73, 74, 75, 76, 77, 78, 79, 84, 85, 86, 87, 88, 89, 90, 91, 92, 93, 94] (by decide +kernel) (by decide +kernel)
set_option maxRecDepth 20000 in
theorem gX6_fewestFlames_X6_isPlanSet : GoodIn wsX6_fewestFlames (wsV RX6 310 RX6 yX6_isPlanSet wsX6_isPlanSet) := goodIn_app (goodIn_of _ (by decide +kernel)) ggX6_fewestFlames_X6_isPlanSet
set_option maxRecDepth 20000 in
theorem ggX6_fewestFlames_X6_makePlans : GoodIn wsX6_fewestFlames wsX6_makePlans := goodIn_r _ [20, 3, 9, 21, 22, 23, 24, 25, 26, 27, 28, 29, 30, 31, 32, 33, 34, 35, 36, 37, 38, 39, 40, 41, 42, 43, 44, 45, 46, 47, 48, 49, 50, 51, 52, 53, 54, 55, 56, 57, 58, 59, 60, 61, 62, 63, 64, 65, 7, 66, 67, 68, 69, 70, 71, 72, 73, 74, 75, 76, 77, 78, 79, 84, 85, 86, 87, 88, 89, 90, 91, 92, 93, 94, 95, 96, 97, 98, 99, 100, 101, 102, 80, 81, 82, 83] (by decide +kernel) (by decide +kernel)
set_option maxRecDepth 20000 in
theorem gX6_fewestFlames_X6_makePlans : GoodIn wsX6_fewestFlames (wsV RX6 315 RX6 yX6_makePlans wsX6_makePlans) := goodIn_app (goodIn_of _ (by decide +kernel)) ggX6_fewestFlames_X6_makePlans
theorem dX6_fewestFlames_0 : decode cX6_fewestFlames 0 = .ok (.aload_n 0, 1) := by decide +kernel
theorem dX6_fewestFlames_1 : decode cX6_fewestFlames 1 = .ok (.iload_n 1, 1) := by decide +kernel
theorem dX6_fewestFlames_2 : decode cX6_fewestFlames 2 = .ok (.invokevirtual 310, 3) := by decide +kernel
theorem dX6_fewestFlames_5 : decode cX6_fewestFlames 5 = .ok (.ifCond .eq 15, 3) := by decide +kernel
theorem dX6_fewestFlames_8 : decode cX6_fewestFlames 8 = .ok (.iload_n 2, 1) := by decide +kernel
theorem dX6_fewestFlames_9 : decode cX6_fewestFlames 9 = .ok (.iconst 1, 1) := by decide +kernel
theorem dX6_fewestFlames_10 : decode cX6_fewestFlames 10 = .ok (.if_icmp .lt 10, 3) := by decide +kernel
theorem dX6_fewestFlames_13 : decode cX6_fewestFlames 13 = .ok (.iload_n 2, 1) := by decide +kernel
theorem dX6_fewestFlames_14 : decode cX6_fewestFlames 14 = .ok (.sipush 1080, 3) := by decide +kernel
theorem dX6_fewestFlames_17 : decode cX6_fewestFlames 17 = .ok (.if_icmp .le 14, 3) := by decide +kernel
theorem dX6_fewestFlames_20 : decode cX6_fewestFlames 20 = .ok (.new 48, 3) := by decide +kernel
theorem dX6_fewestFlames_23 : decode cX6_fewestFlames 23 = .ok (.dup, 1) := by decide +kernel
theorem dX6_fewestFlames_24 : decode cX6_fewestFlames 24 = .ok (.ldc_w 324, 3) := by decide +kernel
theorem dX6_fewestFlames_27 : decode cX6_fewestFlames 27 = .ok (.invokespecial 52, 3) := by decide +kernel
theorem dX6_fewestFlames_30 : decode cX6_fewestFlames 30 = .ok (.athrow, 1) := by decide +kernel
theorem dX6_fewestFlames_31 : decode cX6_fewestFlames 31 = .ok (.aload_n 0, 1) := by decide +kernel
theorem dX6_fewestFlames_32 : decode cX6_fewestFlames 32 = .ok (.iload_n 1, 1) := by decide +kernel
theorem dX6_fewestFlames_33 : decode cX6_fewestFlames 33 = .ok (.invokevirtual 315, 3) := by decide +kernel
theorem dX6_fewestFlames_36 : decode cX6_fewestFlames 36 = .ok (.aload_n 0, 1) := by decide +kernel
theorem dX6_fewestFlames_37 : decode cX6_fewestFlames 37 = .ok (.getfield 40, 3) := by decide +kernel
theorem dX6_fewestFlames_40 : decode cX6_fewestFlames 40 = .ok (.getfield 326, 3) := by decide +kernel
theorem dX6_fewestFlames_43 : decode cX6_fewestFlames 43 = .ok (.iload_n 2, 1) := by decide +kernel
theorem dX6_fewestFlames_44 : decode cX6_fewestFlames 44 = .ok (.iaload, 1) := by decide +kernel
theorem dX6_fewestFlames_45 : decode cX6_fewestFlames 45 = .ok (.ireturn, 1) := by decide +kernel
set_option maxRecDepth 20000 in
theorem ggX6_burned_X1_burnedTime : GoodIn wsX6_burned wsX1_burnedTime := goodIn_r _ [6, 7, 8, 29, 30, 31, 32, 33, 34, 35, 36] (by decide +kernel) (by decide +kernel)
set_option maxRecDepth 20000 in
theorem gX6_burned_X1_burnedTime : GoodIn wsX6_burned (wsV RX6 91 RX1 yX1_burnedTime wsX1_burnedTime) := goodIn_app (goodIn_of _ (by decide +kernel)) ggX6_burned_X1_burnedTime
theorem dX6_burned_0 : decode cX6_burned 0 = .ok (.iconst 0, 1) := by decide +kernel
theorem dX6_burned_1 : decode cX6_burned 1 = .ok (.istore_n 1, 1) := by decide +kernel
theorem dX6_burned_2 : decode cX6_burned 2 = .ok (.iconst 0, 1) := by decide +kernel
theorem dX6_burned_3 : decode cX6_burned 3 = .ok (.istore_n 2, 1) := by decide +kernel
theorem dX6_burned_4 : decode cX6_burned 4 = .ok (.iconst 0, 1) := by decide +kernel
theorem dX6_burned_5 : decode cX6_burned 5 = .ok (.istore_n 3, 1) := by decide +kernel
theorem dX6_burned_6 : decode cX6_burned 6 = .ok (.iload_n 3, 1) := by decide +kernel
theorem dX6_burned_7 : decode cX6_burned 7 = .ok (.aload_n 0, 1) := by decide +kernel
theorem dX6_burned_8 : decode cX6_burned 8 = .ok (.getfield 10, 3) := by decide +kernel
theorem dX6_burned_11 : decode cX6_burned 11 = .ok (.getfield 77, 3) := by decide +kernel
theorem dX6_burned_14 : decode cX6_burned 14 = .ok (.if_icmp .ge 39, 3) := by decide +kernel
theorem dX6_burned_17 : decode cX6_burned 17 = .ok (.iload_n 1, 1) := by decide +kernel
theorem dX6_burned_18 : decode cX6_burned 18 = .ok (.aload_n 0, 1) := by decide +kernel
theorem dX6_burned_19 : decode cX6_burned 19 = .ok (.getfield 10, 3) := by decide +kernel
theorem dX6_burned_22 : decode cX6_burned 22 = .ok (.getfield 87, 3) := by decide +kernel
theorem dX6_burned_25 : decode cX6_burned 25 = .ok (.iload_n 3, 1) := by decide +kernel
theorem dX6_burned_26 : decode cX6_burned 26 = .ok (.aaload, 1) := by decide +kernel
theorem dX6_burned_27 : decode cX6_burned 27 = .ok (.invokevirtual 91, 3) := by decide +kernel
theorem dX6_burned_30 : decode cX6_burned 30 = .ok (.iadd, 1) := by decide +kernel
theorem dX6_burned_31 : decode cX6_burned 31 = .ok (.istore_n 1, 1) := by decide +kernel
theorem dX6_burned_32 : decode cX6_burned 32 = .ok (.iload_n 2, 1) := by decide +kernel
theorem dX6_burned_33 : decode cX6_burned 33 = .ok (.aload_n 0, 1) := by decide +kernel
theorem dX6_burned_34 : decode cX6_burned 34 = .ok (.getfield 10, 3) := by decide +kernel
theorem dX6_burned_37 : decode cX6_burned 37 = .ok (.getfield 87, 3) := by decide +kernel
theorem dX6_burned_40 : decode cX6_burned 40 = .ok (.iload_n 3, 1) := by decide +kernel
theorem dX6_burned_41 : decode cX6_burned 41 = .ok (.aaload, 1) := by decide +kernel
theorem dX6_burned_42 : decode cX6_burned 42 = .ok (.getfield 198, 3) := by decide +kernel
theorem dX6_burned_45 : decode cX6_burned 45 = .ok (.iadd, 1) := by decide +kernel
theorem dX6_burned_46 : decode cX6_burned 46 = .ok (.istore_n 2, 1) := by decide +kernel
theorem dX6_burned_47 : decode cX6_burned 47 = .ok (.iinc 3 1, 3) := by decide +kernel
theorem dX6_burned_50 : decode cX6_burned 50 = .ok (.goto (-44), 3) := by decide +kernel
theorem dX6_burned_53 : decode cX6_burned 53 = .ok (.iload_n 2, 1) := by decide +kernel
theorem dX6_burned_54 : decode cX6_burned 54 = .ok (.ifCond .le 11, 3) := by decide +kernel
theorem dX6_burned_57 : decode cX6_burned 57 = .ok (.iload_n 1, 1) := by decide +kernel
theorem dX6_burned_58 : decode cX6_burned 58 = .ok (.i2f, 1) := by decide +kernel
theorem dX6_burned_59 : decode cX6_burned 59 = .ok (.iload_n 2, 1) := by decide +kernel
theorem dX6_burned_60 : decode cX6_burned 60 = .ok (.i2f, 1) := by decide +kernel
theorem dX6_burned_61 : decode cX6_burned 61 = .ok (.fdiv, 1) := by decide +kernel
theorem dX6_burned_62 : decode cX6_burned 62 = .ok (.goto 4, 3) := by decide +kernel
theorem dX6_burned_65 : decode cX6_burned 65 = .ok (.fconst 0, 1) := by decide +kernel
theorem dX6_burned_66 : decode cX6_burned 66 = .ok (.freturn, 1) := by decide +kernel
set_option maxRecDepth 20000 in
theorem ggX6_requireCord_X5_hasCord : GoodIn wsX6_requireCord wsX5_hasCord := goodIn_r _ [8, 9, 19, 20, 21, 22, 23, 24, 25, 26, 27, 28, 29] (by decide +kernel) (by decide +kernel)
set_option maxRecDepth 20000 in
theorem gX6_requireCord_X5_hasCord : GoodIn wsX6_requireCord (wsV RX6 329 RX5 yX5_hasCord wsX5_hasCord) := goodIn_app (goodIn_of _ (by decide +kernel)) ggX6_requireCord_X5_hasCord
theorem dX6_requireCord_0 : decode cX6_requireCord 0 = .ok (.aload_n 0, 1) := by decide +kernel
theorem dX6_requireCord_1 : decode cX6_requireCord 1 = .ok (.getfield 10, 3) := by decide +kernel
theorem dX6_requireCord_4 : decode cX6_requireCord 4 = .ok (.iload_n 1, 1) := by decide +kernel
theorem dX6_requireCord_5 : decode cX6_requireCord 5 = .ok (.invokevirtual 329, 3) := by decide +kernel
theorem dX6_requireCord_8 : decode cX6_requireCord 8 = .ok (.ifCond .ne 14, 3) := by decide +kernel
theorem dX6_requireCord_11 : decode cX6_requireCord 11 = .ok (.new 232, 3) := by decide +kernel
theorem dX6_requireCord_14 : decode cX6_requireCord 14 = .ok (.dup, 1) := by decide +kernel
theorem dX6_requireCord_15 : decode cX6_requireCord 15 = .ok (.ldc_w 332, 3) := by decide +kernel
theorem dX6_requireCord_18 : decode cX6_requireCord 18 = .ok (.invokespecial 236, 3) := by decide +kernel
theorem dX6_requireCord_21 : decode cX6_requireCord 21 = .ok (.athrow, 1) := by decide +kernel
theorem dX6_requireCord_22 : decode cX6_requireCord 22 = .ok (.return_, 1) := by decide +kernel
set_option maxRecDepth 20000 in
theorem ggX6_requireSegment_X6_requireCord : GoodIn wsX6_requireSegment wsX6_requireCord := goodIn_ca (goodIn_r _ [8, 1, 2, 3, 9, 10, 11, 12, 13, 14, 15, 16, 17, 18, 19, 20, 21, 22, 23, 24, 25, 26, 27, 28, 29, 30, 31, 32, 33, 34] (by decide +kernel) (by decide +kernel)) (goodIn_sub (fun _ h => List.mem_cons_of_mem _ (List.mem_append_right _ h)) (by decide +kernel))
set_option maxRecDepth 20000 in
theorem gX6_requireSegment_X6_requireCord : GoodIn wsX6_requireSegment (wsV RX6 107 RX6 yX6_requireCord wsX6_requireCord) := goodIn_app (goodIn_of _ (by decide +kernel)) ggX6_requireSegment_X6_requireCord
theorem dX6_requireSegment_0 : decode cX6_requireSegment 0 = .ok (.aload_n 0, 1) := by decide +kernel
theorem dX6_requireSegment_1 : decode cX6_requireSegment 1 = .ok (.iload_n 1, 1) := by decide +kernel
theorem dX6_requireSegment_2 : decode cX6_requireSegment 2 = .ok (.invokevirtual 107, 3) := by decide +kernel
theorem dX6_requireSegment_5 : decode cX6_requireSegment 5 = .ok (.iload_n 2, 1) := by decide +kernel
theorem dX6_requireSegment_6 : decode cX6_requireSegment 6 = .ok (.ifCond .lt 19, 3) := by decide +kernel
theorem dX6_requireSegment_9 : decode cX6_requireSegment 9 = .ok (.iload_n 2, 1) := by decide +kernel
theorem dX6_requireSegment_10 : decode cX6_requireSegment 10 = .ok (.aload_n 0, 1) := by decide +kernel
theorem dX6_requireSegment_11 : decode cX6_requireSegment 11 = .ok (.getfield 10, 3) := by decide +kernel
theorem dX6_requireSegment_14 : decode cX6_requireSegment 14 = .ok (.getfield 87, 3) := by decide +kernel
theorem dX6_requireSegment_17 : decode cX6_requireSegment 17 = .ok (.iload_n 1, 1) := by decide +kernel
theorem dX6_requireSegment_18 : decode cX6_requireSegment 18 = .ok (.aaload, 1) := by decide +kernel
theorem dX6_requireSegment_19 : decode cX6_requireSegment 19 = .ok (.getfield 201, 3) := by decide +kernel
theorem dX6_requireSegment_22 : decode cX6_requireSegment 22 = .ok (.if_icmp .lt 14, 3) := by decide +kernel
theorem dX6_requireSegment_25 : decode cX6_requireSegment 25 = .ok (.new 232, 3) := by decide +kernel
theorem dX6_requireSegment_28 : decode cX6_requireSegment 28 = .ok (.dup, 1) := by decide +kernel
theorem dX6_requireSegment_29 : decode cX6_requireSegment 29 = .ok (.ldc_w 334, 3) := by decide +kernel
theorem dX6_requireSegment_32 : decode cX6_requireSegment 32 = .ok (.invokespecial 236, 3) := by decide +kernel
theorem dX6_requireSegment_35 : decode cX6_requireSegment 35 = .ok (.athrow, 1) := by decide +kernel
theorem dX6_requireSegment_36 : decode cX6_requireSegment 36 = .ok (.return_, 1) := by decide +kernel
theorem dX6_requireSlot_0 : decode cX6_requireSlot 0 = .ok (.iload_n 0, 1) := by decide +kernel
theorem dX6_requireSlot_1 : decode cX6_requireSlot 1 = .ok (.ifCond .lt 8, 3) := by decide +kernel
theorem dX6_requireSlot_4 : decode cX6_requireSlot 4 = .ok (.iload_n 0, 1) := by decide +kernel
theorem dX6_requireSlot_5 : decode cX6_requireSlot 5 = .ok (.iconst 2, 1) := by decide +kernel
theorem dX6_requireSlot_6 : decode cX6_requireSlot 6 = .ok (.if_icmp .lt 14, 3) := by decide +kernel
theorem dX6_requireSlot_9 : decode cX6_requireSlot 9 = .ok (.new 48, 3) := by decide +kernel
theorem dX6_requireSlot_12 : decode cX6_requireSlot 12 = .ok (.dup, 1) := by decide +kernel
theorem dX6_requireSlot_13 : decode cX6_requireSlot 13 = .ok (.ldc_w 336, 3) := by decide +kernel
theorem dX6_requireSlot_16 : decode cX6_requireSlot 16 = .ok (.invokespecial 52, 3) := by decide +kernel
theorem dX6_requireSlot_19 : decode cX6_requireSlot 19 = .ok (.athrow, 1) := by decide +kernel
theorem dX6_requireSlot_20 : decode cX6_requireSlot 20 = .ok (.return_, 1) := by decide +kernel
theorem dX6_isSegmentTime_0 : decode cX6_isSegmentTime 0 = .ok (.iload_n 0, 1) := by decide +kernel
theorem dX6_isSegmentTime_1 : decode cX6_isSegmentTime 1 = .ok (.iconst 1, 1) := by decide +kernel
theorem dX6_isSegmentTime_2 : decode cX6_isSegmentTime 2 = .ok (.if_icmp .lt 13, 3) := by decide +kernel
theorem dX6_isSegmentTime_5 : decode cX6_isSegmentTime 5 = .ok (.iload_n 0, 1) := by decide +kernel
theorem dX6_isSegmentTime_6 : decode cX6_isSegmentTime 6 = .ok (.bipush 60, 2) := by decide +kernel
theorem dX6_isSegmentTime_8 : decode cX6_isSegmentTime 8 = .ok (.if_icmp .gt 7, 3) := by decide +kernel
theorem dX6_isSegmentTime_11 : decode cX6_isSegmentTime 11 = .ok (.iconst 1, 1) := by decide +kernel
theorem dX6_isSegmentTime_12 : decode cX6_isSegmentTime 12 = .ok (.goto 4, 3) := by decide +kernel
theorem dX6_isSegmentTime_15 : decode cX6_isSegmentTime 15 = .ok (.iconst 0, 1) := by decide +kernel
theorem dX6_isSegmentTime_16 : decode cX6_isSegmentTime 16 = .ok (.ireturn, 1) := by decide +kernel
set_option maxRecDepth 20000 in
theorem ggX6_save_X5_copyFrom : GoodIn wsX6_save wsX5_copyFrom := goodIn_r _ [9, 10, 11, 12, 13, 14, 15, 16, 17, 18, 19, 20, 21, 22, 23, 24, 25, 26, 27, 28, 29, 30, 31, 32, 33, 34, 35, 36, 37, 38, 39, 40, 41, 42, 43, 44, 45, 46, 47, 48, 49, 50, 51, 52, 62, 63, 64, 65, 66, 67, 68, 69, 70, 71, 72, 73, 74, 75, 76, 77, 78, 79, 80, 81, 82, 83, 84, 85, 86, 87, 88, 89] (by decide +kernel) (by decide +kernel)
set_option maxRecDepth 20000 in
theorem gX6_save_X5_copyFrom : GoodIn wsX6_save (wsV RX6 186 RX5 yX5_copyFrom wsX5_copyFrom) := goodIn_app (goodIn_of _ (by decide +kernel)) ggX6_save_X5_copyFrom
theorem dX6_save_0 : decode cX6_save 0 = .ok (.aload_n 0, 1) := by decide +kernel
theorem dX6_save_1 : decode cX6_save 1 = .ok (.getfield 178, 3) := by decide +kernel
theorem dX6_save_4 : decode cX6_save 4 = .ok (.bipush 6, 2) := by decide +kernel
theorem dX6_save_6 : decode cX6_save 6 = .ok (.if_icmp .ne 26, 3) := by decide +kernel
theorem dX6_save_9 : decode cX6_save 9 = .ok (.aload_n 0, 1) := by decide +kernel
theorem dX6_save_10 : decode cX6_save 10 = .ok (.aload_n 0, 1) := by decide +kernel
theorem dX6_save_11 : decode cX6_save 11 = .ok (.getfield 183, 3) := by decide +kernel
theorem dX6_save_14 : decode cX6_save 14 = .ok (.iconst 1, 1) := by decide +kernel
theorem dX6_save_15 : decode cX6_save 15 = .ok (.iadd, 1) := by decide +kernel
theorem dX6_save_16 : decode cX6_save 16 = .ok (.bipush 6, 2) := by decide +kernel
theorem dX6_save_18 : decode cX6_save 18 = .ok (.irem, 1) := by decide +kernel
theorem dX6_save_19 : decode cX6_save 19 = .ok (.putfield 183, 3) := by decide +kernel
theorem dX6_save_22 : decode cX6_save 22 = .ok (.aload_n 0, 1) := by decide +kernel
theorem dX6_save_23 : decode cX6_save 23 = .ok (.dup, 1) := by decide +kernel
theorem dX6_save_24 : decode cX6_save 24 = .ok (.getfield 178, 3) := by decide +kernel
theorem dX6_save_27 : decode cX6_save 27 = .ok (.iconst 1, 1) := by decide +kernel
theorem dX6_save_28 : decode cX6_save 28 = .ok (.isub, 1) := by decide +kernel
theorem dX6_save_29 : decode cX6_save 29 = .ok (.putfield 178, 3) := by decide +kernel
theorem dX6_save_32 : decode cX6_save 32 = .ok (.aload_n 0, 1) := by decide +kernel
theorem dX6_save_33 : decode cX6_save 33 = .ok (.getfield 19, 3) := by decide +kernel
theorem dX6_save_36 : decode cX6_save 36 = .ok (.aload_n 0, 1) := by decide +kernel
theorem dX6_save_37 : decode cX6_save 37 = .ok (.getfield 183, 3) := by decide +kernel
theorem dX6_save_40 : decode cX6_save 40 = .ok (.aload_n 0, 1) := by decide +kernel
theorem dX6_save_41 : decode cX6_save 41 = .ok (.getfield 178, 3) := by decide +kernel
theorem dX6_save_44 : decode cX6_save 44 = .ok (.iadd, 1) := by decide +kernel
theorem dX6_save_45 : decode cX6_save 45 = .ok (.bipush 6, 2) := by decide +kernel
theorem dX6_save_47 : decode cX6_save 47 = .ok (.irem, 1) := by decide +kernel
theorem dX6_save_48 : decode cX6_save 48 = .ok (.aaload, 1) := by decide +kernel
theorem dX6_save_49 : decode cX6_save 49 = .ok (.aload_n 0, 1) := by decide +kernel
theorem dX6_save_50 : decode cX6_save 50 = .ok (.getfield 10, 3) := by decide +kernel
theorem dX6_save_53 : decode cX6_save 53 = .ok (.invokevirtual 186, 3) := by decide +kernel
theorem dX6_save_56 : decode cX6_save 56 = .ok (.aload_n 0, 1) := by decide +kernel
theorem dX6_save_57 : decode cX6_save 57 = .ok (.dup, 1) := by decide +kernel
theorem dX6_save_58 : decode cX6_save 58 = .ok (.getfield 178, 3) := by decide +kernel
theorem dX6_save_61 : decode cX6_save 61 = .ok (.iconst 1, 1) := by decide +kernel
theorem dX6_save_62 : decode cX6_save 62 = .ok (.iadd, 1) := by decide +kernel
theorem dX6_save_63 : decode cX6_save 63 = .ok (.putfield 178, 3) := by decide +kernel
theorem dX6_save_66 : decode cX6_save 66 = .ok (.return_, 1) := by decide +kernel
set_option maxRecDepth 20000 in
theorem ggX6_carryOut_X6_carryOutNew : GoodIn wsX6_carryOut wsX6_carryOutNew := goodIn_r _ [7, 2, 1, 8, 9, 10, 11, 12, 13, 14, 15, 16, 17, 18, 19, 20, 21, 22, 23, 24, 25, 26, 27, 28, 29, 30, 31, 32, 33, 34, 35, 36, 37, 38, 39, 146, 147, 148, 149, 150, 151, 152, 153, 154, 155, 156, 157, 158, 159, 160, 161, 162, 163, 164, 165, 166, 167, 168, 169, 170, 171, 172, 173, 174, 175, 176, 177, 178, 179, 180, 181, 182, 183] (by decide +kernel) (by decide +kernel)
set_option maxRecDepth 20000 in
theorem gX6_carryOut_X6_carryOutNew : GoodIn wsX6_carryOut (wsV RX6 341 RX6 yX6_carryOutNew wsX6_carryOutNew) := goodIn_app (goodIn_of _ (by decide +kernel)) ggX6_carryOut_X6_carryOutNew
set_option maxRecDepth 20000 in
theorem ggX6_carryOut_X6_carryOutLit : GoodIn wsX6_carryOut wsX6_carryOutLit := goodIn_r _ [43, 2, 1, 44, 45, 46, 11, 47, 13, 48, 49, 50, 22, 51, 52, 53, 54, 55, 31, 32, 25, 56, 57, 58, 59, 33, 34, 60, 61, 62, 63, 18, 64, 65, 66, 67, 68, 69, 70, 71, 72, 73, 74, 75, 76, 77, 78, 79, 80, 146, 147, 148, 149, 150, 151, 152, 153, 154, 155, 156, 157, 158, 159, 160, 161, 162, 163, 164, 165, 166, 167, 168, 169, 170, 171, 172, 173, 174, 175, 176, 177, 178, 179, 180, 181, 182, 183, 184, 185, 186, 187, 188] (by decide +kernel) (by decide +kernel)
set_option maxRecDepth 20000 in
theorem gX6_carryOut_X6_carryOutLit : GoodIn wsX6_carryOut (wsV RX6 344 RX6 yX6_carryOutLit wsX6_carryOutLit) := goodIn_app (goodIn_of _ (by decide +kernel)) ggX6_carryOut_X6_carryOutLit
set_option maxRecDepth 20000 in
theorem ggX6_carryOut_X6_carryOutWhen : GoodIn wsX6_carryOut wsX6_carryOutWhen := goodIn_r _ [84, 2, 1, 44, 45, 46, 11, 47, 13, 85, 86, 87, 88, 89, 90, 91, 92, 93, 94, 146, 147, 148, 149, 150, 151, 152, 153, 154, 155, 156, 157, 158, 159, 160, 161, 162, 163, 164, 165, 166, 167, 168, 169, 170, 171, 172, 173, 174, 175, 189, 190, 191, 192] (by decide +kernel) (by decide +kernel)
set_option maxRecDepth 20000 in
theorem gX6_carryOut_X6_carryOutWhen : GoodIn wsX6_carryOut (wsV RX6 347 RX6 yX6_carryOutWhen wsX6_carryOutWhen) := goodIn_app (goodIn_of _ (by decide +kernel)) ggX6_carryOut_X6_carryOutWhen
set_option maxRecDepth 20000 in
theorem ggX6_carryOut_X5_passSteps : GoodIn wsX6_carryOut wsX5_passSteps := goodIn_r _ [98, 99, 100, 101, 11, 102, 66, 13, 103, 104, 105, 106, 107, 108, 109, 110, 111, 112, 113, 114, 115, 116, 117, 18, 118, 119, 120, 22, 121, 33, 34, 122, 123, 124, 125, 126, 127, 128, 129, 31, 32, 130, 52, 53, 54, 55, 25, 131, 132, 133, 134, 135, 65, 89, 94, 71, 72, 73, 74, 75, 76, 77, 78, 79, 80, 136, 45, 46, 47, 137, 49, 50, 51, 56, 57, 58, 59, 138, 61, 62, 63, 64, 67, 68, 69, 70, 139, 140, 141, 142, 143, 144, 145, 165, 166, 167, 168, 169, 170, 171, 172, 173, 174, 175, 176, 177, 178, 179, 180, 181, 182, 183, 189, 190, 191, 192, 184, 185, 186, 187, 188] (by decide +kernel) (by decide +kernel)
set_option maxRecDepth 20000 in
theorem gX6_carryOut_X5_passSteps : GoodIn wsX6_carryOut (wsV RX6 149 RX5 yX5_passSteps wsX5_passSteps) := goodIn_app (goodIn_of _ (by decide +kernel)) ggX6_carryOut_X5_passSteps
theorem dX6_carryOut_0 : decode cX6_carryOut 0 = .ok (.aload_n 0, 1) := by decide +kernel
theorem dX6_carryOut_1 : decode cX6_carryOut 1 = .ok (.getfield 33, 3) := by decide +kernel
theorem dX6_carryOut_4 : decode cX6_carryOut 4 = .ok (.getfield 338, 3) := by decide +kernel
theorem dX6_carryOut_7 : decode cX6_carryOut 7 = .ok (.tableswitch 40 0 2 #[25, 30, 35], 25) := by decide +kernel
theorem dX6_carryOut_32 : decode cX6_carryOut 32 = .ok (.aload_n 0, 1) := by decide +kernel
theorem dX6_carryOut_33 : decode cX6_carryOut 33 = .ok (.invokevirtual 341, 3) := by decide +kernel
theorem dX6_carryOut_36 : decode cX6_carryOut 36 = .ok (.ireturn, 1) := by decide +kernel
theorem dX6_carryOut_37 : decode cX6_carryOut 37 = .ok (.aload_n 0, 1) := by decide +kernel
theorem dX6_carryOut_38 : decode cX6_carryOut 38 = .ok (.invokevirtual 344, 3) := by decide +kernel
theorem dX6_carryOut_41 : decode cX6_carryOut 41 = .ok (.ireturn, 1) := by decide +kernel
theorem dX6_carryOut_42 : decode cX6_carryOut 42 = .ok (.aload_n 0, 1) := by decide +kernel
theorem dX6_carryOut_43 : decode cX6_carryOut 43 = .ok (.invokevirtual 347, 3) := by decide +kernel
theorem dX6_carryOut_46 : decode cX6_carryOut 46 = .ok (.ireturn, 1) := by decide +kernel
theorem dX6_carryOut_47 : decode cX6_carryOut 47 = .ok (.aload_n 0, 1) := by decide +kernel
theorem dX6_carryOut_48 : decode cX6_carryOut 48 = .ok (.getfield 10, 3) := by decide +kernel
theorem dX6_carryOut_51 : decode cX6_carryOut 51 = .ok (.aload_n 0, 1) := by decide +kernel
theorem dX6_carryOut_52 : decode cX6_carryOut 52 = .ok (.getfield 33, 3) := by decide +kernel
theorem dX6_carryOut_55 : decode cX6_carryOut 55 = .ok (.getfield 350, 3) := by decide +kernel
theorem dX6_carryOut_58 : decode cX6_carryOut 58 = .ok (.invokevirtual 149, 3) := by decide +kernel
theorem dX6_carryOut_61 : decode cX6_carryOut 61 = .ok (.pop, 1) := by decide +kernel
theorem dX6_carryOut_62 : decode cX6_carryOut 62 = .ok (.iconst 1, 1) := by decide +kernel
theorem dX6_carryOut_63 : decode cX6_carryOut 63 = .ok (.ireturn, 1) := by decide +kernel
set_option maxRecDepth 20000 in
theorem ggX6_carryOutNew_X5_hasRoomForCord : GoodIn wsX6_carryOutNew wsX5_hasRoomForCord := goodIn_r _ [7, 8, 54, 55, 56, 57, 58, 59, 60, 61, 62, 63, 64] (by decide +kernel) (by decide +kernel)
set_option maxRecDepth 20000 in
theorem gX6_carryOutNew_X5_hasRoomForCord : GoodIn wsX6_carryOutNew (wsV RX6 55 RX5 yX5_hasRoomForCord wsX5_hasRoomForCord) := goodIn_app (goodIn_of _ (by decide +kernel)) ggX6_carryOutNew_X5_hasRoomForCord
set_option maxRecDepth 20000 in
theorem ggX6_carryOutNew_X5_addCord : GoodIn wsX6_carryOutNew wsX5_addCord := goodIn_r _ [12, 13, 8, 14, 15, 16, 17, 18, 19, 20, 21, 22, 23, 24, 25, 26, 27, 28, 29, 54, 55, 56, 57, 58, 59, 60, 61, 62, 63, 64, 65, 66, 67, 68, 69, 70, 71, 72] (by decide +kernel) (by decide +kernel)
set_option maxRecDepth 20000 in
theorem gX6_carryOutNew_X5_addCord : GoodIn wsX6_carryOutNew (wsV RX6 67 RX5 yX5_addCord wsX5_addCord) := goodIn_app (goodIn_of _ (by decide +kernel)) ggX6_carryOutNew_X5_addCord
set_option maxRecDepth 20000 in
theorem ggX6_carryOutNew_X1_addSegment : GoodIn wsX6_carryOutNew wsX1_addSegment := goodIn_r _ [33, 19, 34, 20, 65, 66, 67, 68, 69, 70, 71, 72] (by decide +kernel) (by decide +kernel)
set_option maxRecDepth 20000 in
theorem gX6_carryOutNew_X1_addSegment : GoodIn wsX6_carryOutNew (wsV RX6 71 RX1 yX1_addSegment wsX1_addSegment) := goodIn_app (goodIn_of _ (by decide +kernel)) ggX6_carryOutNew_X1_addSegment
theorem dX6_carryOutNew_0 : decode cX6_carryOutNew 0 = .ok (.aload_n 0, 1) := by decide +kernel
theorem dX6_carryOutNew_1 : decode cX6_carryOutNew 1 = .ok (.getfield 10, 3) := by decide +kernel
theorem dX6_carryOutNew_4 : decode cX6_carryOutNew 4 = .ok (.invokevirtual 55, 3) := by decide +kernel
theorem dX6_carryOutNew_7 : decode cX6_carryOutNew 7 = .ok (.ifCond .ne 5, 3) := by decide +kernel
theorem dX6_carryOutNew_10 : decode cX6_carryOutNew 10 = .ok (.iconst 0, 1) := by decide +kernel
theorem dX6_carryOutNew_11 : decode cX6_carryOutNew 11 = .ok (.ireturn, 1) := by decide +kernel
theorem dX6_carryOutNew_12 : decode cX6_carryOutNew 12 = .ok (.aload_n 0, 1) := by decide +kernel
theorem dX6_carryOutNew_13 : decode cX6_carryOutNew 13 = .ok (.getfield 10, 3) := by decide +kernel
theorem dX6_carryOutNew_16 : decode cX6_carryOutNew 16 = .ok (.invokevirtual 67, 3) := by decide +kernel
theorem dX6_carryOutNew_19 : decode cX6_carryOutNew 19 = .ok (.astore_n 1, 1) := by decide +kernel
theorem dX6_carryOutNew_20 : decode cX6_carryOutNew 20 = .ok (.iconst 0, 1) := by decide +kernel
theorem dX6_carryOutNew_21 : decode cX6_carryOutNew 21 = .ok (.istore_n 2, 1) := by decide +kernel
theorem dX6_carryOutNew_22 : decode cX6_carryOutNew 22 = .ok (.iload_n 2, 1) := by decide +kernel
theorem dX6_carryOutNew_23 : decode cX6_carryOutNew 23 = .ok (.aload_n 0, 1) := by decide +kernel
theorem dX6_carryOutNew_24 : decode cX6_carryOutNew 24 = .ok (.getfield 33, 3) := by decide +kernel
theorem dX6_carryOutNew_27 : decode cX6_carryOutNew 27 = .ok (.getfield 353, 3) := by decide +kernel
theorem dX6_carryOutNew_30 : decode cX6_carryOutNew 30 = .ok (.if_icmp .ge 22, 3) := by decide +kernel
theorem dX6_carryOutNew_33 : decode cX6_carryOutNew 33 = .ok (.aload_n 1, 1) := by decide +kernel
theorem dX6_carryOutNew_34 : decode cX6_carryOutNew 34 = .ok (.aload_n 0, 1) := by decide +kernel
theorem dX6_carryOutNew_35 : decode cX6_carryOutNew 35 = .ok (.getfield 33, 3) := by decide +kernel
theorem dX6_carryOutNew_38 : decode cX6_carryOutNew 38 = .ok (.getfield 356, 3) := by decide +kernel
theorem dX6_carryOutNew_41 : decode cX6_carryOutNew 41 = .ok (.iload_n 2, 1) := by decide +kernel
theorem dX6_carryOutNew_42 : decode cX6_carryOutNew 42 = .ok (.iaload, 1) := by decide +kernel
theorem dX6_carryOutNew_43 : decode cX6_carryOutNew 43 = .ok (.invokevirtual 71, 3) := by decide +kernel
theorem dX6_carryOutNew_46 : decode cX6_carryOutNew 46 = .ok (.iinc 2 1, 3) := by decide +kernel
theorem dX6_carryOutNew_49 : decode cX6_carryOutNew 49 = .ok (.goto (-27), 3) := by decide +kernel
theorem dX6_carryOutNew_52 : decode cX6_carryOutNew 52 = .ok (.iconst 1, 1) := by decide +kernel
theorem dX6_carryOutNew_53 : decode cX6_carryOutNew 53 = .ok (.ireturn, 1) := by decide +kernel
set_option maxRecDepth 20000 in
theorem ggX6_carryOutLit_X5_hasCord : GoodIn wsX6_carryOutLit wsX5_hasCord := goodIn_r _ [7, 8, 68, 69, 70, 71, 72, 73, 74, 75, 76, 77, 78] (by decide +kernel) (by decide +kernel)
set_option maxRecDepth 20000 in
theorem gX6_carryOutLit_X5_hasCord : GoodIn wsX6_carryOutLit (wsV RX6 329 RX5 yX5_hasCord wsX5_hasCord) := goodIn_app (goodIn_of _ (by decide +kernel)) ggX6_carryOutLit_X5_hasCord
set_option maxRecDepth 20000 in
theorem ggX6_carryOutLit_X1_canBeLit : GoodIn wsX6_carryOutLit wsX1_canBeLit := goodIn_r _ [13, 14, 15, 16, 12, 17, 18, 19, 20, 21, 22, 23, 24, 25, 26, 79, 80, 81, 82, 83, 84, 85, 86] (by decide +kernel) (by decide +kernel)
set_option maxRecDepth 20000 in
theorem gX6_carryOutLit_X1_canBeLit : GoodIn wsX6_carryOutLit (wsV RX6 113 RX1 yX1_canBeLit wsX1_canBeLit) := goodIn_app (goodIn_of _ (by decide +kernel)) ggX6_carryOutLit_X1_canBeLit
set_option maxRecDepth 20000 in
theorem ggX6_carryOutLit_X5_lightEnd : GoodIn wsX6_carryOutLit wsX5_lightEnd := goodIn_r _ [30, 31, 32, 33, 34, 35, 36, 37, 12, 38, 25, 26, 39, 40, 41, 42, 43, 44, 45, 46, 47, 48, 68, 69, 70, 71, 72, 73, 74, 75, 76, 77, 78, 79, 80, 81, 82, 83, 84, 85, 86, 87, 88, 89, 90, 91] (by decide +kernel) (by decide +kernel)
set_option maxRecDepth 20000 in
theorem gX6_carryOutLit_X5_lightEnd : GoodIn wsX6_carryOutLit (wsV RX6 119 RX5 yX5_lightEnd wsX5_lightEnd) := goodIn_app (goodIn_of _ (by decide +kernel)) ggX6_carryOutLit_X5_lightEnd
theorem dX6_carryOutLit_0 : decode cX6_carryOutLit 0 = .ok (.aload_n 0, 1) := by decide +kernel
theorem dX6_carryOutLit_1 : decode cX6_carryOutLit 1 = .ok (.getfield 10, 3) := by decide +kernel
theorem dX6_carryOutLit_4 : decode cX6_carryOutLit 4 = .ok (.aload_n 0, 1) := by decide +kernel
theorem dX6_carryOutLit_5 : decode cX6_carryOutLit 5 = .ok (.getfield 33, 3) := by decide +kernel
theorem dX6_carryOutLit_8 : decode cX6_carryOutLit 8 = .ok (.getfield 357, 3) := by decide +kernel
theorem dX6_carryOutLit_11 : decode cX6_carryOutLit 11 = .ok (.invokevirtual 329, 3) := by decide +kernel
theorem dX6_carryOutLit_14 : decode cX6_carryOutLit 14 = .ok (.ifCond .eq 31, 3) := by decide +kernel
theorem dX6_carryOutLit_17 : decode cX6_carryOutLit 17 = .ok (.aload_n 0, 1) := by decide +kernel
theorem dX6_carryOutLit_18 : decode cX6_carryOutLit 18 = .ok (.getfield 10, 3) := by decide +kernel
theorem dX6_carryOutLit_21 : decode cX6_carryOutLit 21 = .ok (.getfield 87, 3) := by decide +kernel
theorem dX6_carryOutLit_24 : decode cX6_carryOutLit 24 = .ok (.aload_n 0, 1) := by decide +kernel
theorem dX6_carryOutLit_25 : decode cX6_carryOutLit 25 = .ok (.getfield 33, 3) := by decide +kernel
theorem dX6_carryOutLit_28 : decode cX6_carryOutLit 28 = .ok (.getfield 357, 3) := by decide +kernel
theorem dX6_carryOutLit_31 : decode cX6_carryOutLit 31 = .ok (.aaload, 1) := by decide +kernel
theorem dX6_carryOutLit_32 : decode cX6_carryOutLit 32 = .ok (.aload_n 0, 1) := by decide +kernel
theorem dX6_carryOutLit_33 : decode cX6_carryOutLit 33 = .ok (.getfield 33, 3) := by decide +kernel
theorem dX6_carryOutLit_36 : decode cX6_carryOutLit 36 = .ok (.getfield 360, 3) := by decide +kernel
theorem dX6_carryOutLit_39 : decode cX6_carryOutLit 39 = .ok (.invokevirtual 113, 3) := by decide +kernel
theorem dX6_carryOutLit_42 : decode cX6_carryOutLit 42 = .ok (.ifCond .ne 5, 3) := by decide +kernel
theorem dX6_carryOutLit_45 : decode cX6_carryOutLit 45 = .ok (.iconst 0, 1) := by decide +kernel
theorem dX6_carryOutLit_46 : decode cX6_carryOutLit 46 = .ok (.ireturn, 1) := by decide +kernel
theorem dX6_carryOutLit_47 : decode cX6_carryOutLit 47 = .ok (.aload_n 0, 1) := by decide +kernel
theorem dX6_carryOutLit_48 : decode cX6_carryOutLit 48 = .ok (.getfield 10, 3) := by decide +kernel
theorem dX6_carryOutLit_51 : decode cX6_carryOutLit 51 = .ok (.aload_n 0, 1) := by decide +kernel
theorem dX6_carryOutLit_52 : decode cX6_carryOutLit 52 = .ok (.getfield 33, 3) := by decide +kernel
theorem dX6_carryOutLit_55 : decode cX6_carryOutLit 55 = .ok (.getfield 357, 3) := by decide +kernel
theorem dX6_carryOutLit_58 : decode cX6_carryOutLit 58 = .ok (.aload_n 0, 1) := by decide +kernel
theorem dX6_carryOutLit_59 : decode cX6_carryOutLit 59 = .ok (.getfield 33, 3) := by decide +kernel
theorem dX6_carryOutLit_62 : decode cX6_carryOutLit 62 = .ok (.getfield 360, 3) := by decide +kernel
theorem dX6_carryOutLit_65 : decode cX6_carryOutLit 65 = .ok (.invokevirtual 119, 3) := by decide +kernel
theorem dX6_carryOutLit_68 : decode cX6_carryOutLit 68 = .ok (.iconst 1, 1) := by decide +kernel
theorem dX6_carryOutLit_69 : decode cX6_carryOutLit 69 = .ok (.ireturn, 1) := by decide +kernel
set_option maxRecDepth 20000 in
theorem ggX6_carryOutWhen_X5_hasCord : GoodIn wsX6_carryOutWhen wsX5_hasCord := goodIn_r _ [7, 8, 38, 39, 40, 41, 42, 43, 44, 45, 46, 47, 48] (by decide +kernel) (by decide +kernel)
set_option maxRecDepth 20000 in
theorem gX6_carryOutWhen_X5_hasCord : GoodIn wsX6_carryOutWhen (wsV RX6 329 RX5 yX5_hasCord wsX5_hasCord) := goodIn_app (goodIn_of _ (by decide +kernel)) ggX6_carryOutWhen_X5_hasCord
set_option maxRecDepth 20000 in
theorem ggX6_carryOutWhen_X5_hasRoomForRule : GoodIn wsX6_carryOutWhen wsX5_hasRoomForRule := goodIn_r _ [12, 13, 38, 39, 40, 41, 42, 43, 44, 45, 46, 47, 48] (by decide +kernel) (by decide +kernel)
set_option maxRecDepth 20000 in
theorem gX6_carryOutWhen_X5_hasRoomForRule : GoodIn wsX6_carryOutWhen (wsV RX6 135 RX5 yX5_hasRoomForRule wsX5_hasRoomForRule) := goodIn_app (goodIn_of _ (by decide +kernel)) ggX6_carryOutWhen_X5_hasRoomForRule
set_option maxRecDepth 20000 in
theorem ggX6_carryOutWhen_X5_addRule : GoodIn wsX6_carryOutWhen wsX5_addRule := goodIn_r _ [17, 18, 13, 38, 39, 40, 41, 42, 43, 44, 45, 46, 47, 48, 49, 50, 51, 52] (by decide +kernel) (by decide +kernel)
set_option maxRecDepth 20000 in
theorem gX6_carryOutWhen_X5_addRule : GoodIn wsX6_carryOutWhen (wsV RX6 140 RX5 yX5_addRule wsX5_addRule) := goodIn_app (goodIn_of _ (by decide +kernel)) ggX6_carryOutWhen_X5_addRule
theorem dX6_carryOutWhen_0 : decode cX6_carryOutWhen 0 = .ok (.aload_n 0, 1) := by decide +kernel
theorem dX6_carryOutWhen_1 : decode cX6_carryOutWhen 1 = .ok (.getfield 10, 3) := by decide +kernel
theorem dX6_carryOutWhen_4 : decode cX6_carryOutWhen 4 = .ok (.aload_n 0, 1) := by decide +kernel
theorem dX6_carryOutWhen_5 : decode cX6_carryOutWhen 5 = .ok (.getfield 33, 3) := by decide +kernel
theorem dX6_carryOutWhen_8 : decode cX6_carryOutWhen 8 = .ok (.getfield 361, 3) := by decide +kernel
theorem dX6_carryOutWhen_11 : decode cX6_carryOutWhen 11 = .ok (.invokevirtual 329, 3) := by decide +kernel
theorem dX6_carryOutWhen_14 : decode cX6_carryOutWhen 14 = .ok (.ifCond .eq 20, 3) := by decide +kernel
theorem dX6_carryOutWhen_17 : decode cX6_carryOutWhen 17 = .ok (.aload_n 0, 1) := by decide +kernel
theorem dX6_carryOutWhen_18 : decode cX6_carryOutWhen 18 = .ok (.getfield 10, 3) := by decide +kernel
theorem dX6_carryOutWhen_21 : decode cX6_carryOutWhen 21 = .ok (.aload_n 0, 1) := by decide +kernel
theorem dX6_carryOutWhen_22 : decode cX6_carryOutWhen 22 = .ok (.getfield 33, 3) := by decide +kernel
theorem dX6_carryOutWhen_25 : decode cX6_carryOutWhen 25 = .ok (.getfield 357, 3) := by decide +kernel
theorem dX6_carryOutWhen_28 : decode cX6_carryOutWhen 28 = .ok (.invokevirtual 329, 3) := by decide +kernel
theorem dX6_carryOutWhen_31 : decode cX6_carryOutWhen 31 = .ok (.ifCond .ne 5, 3) := by decide +kernel
theorem dX6_carryOutWhen_34 : decode cX6_carryOutWhen 34 = .ok (.iconst 0, 1) := by decide +kernel
theorem dX6_carryOutWhen_35 : decode cX6_carryOutWhen 35 = .ok (.ireturn, 1) := by decide +kernel
theorem dX6_carryOutWhen_36 : decode cX6_carryOutWhen 36 = .ok (.aload_n 0, 1) := by decide +kernel
theorem dX6_carryOutWhen_37 : decode cX6_carryOutWhen 37 = .ok (.getfield 33, 3) := by decide +kernel
theorem dX6_carryOutWhen_40 : decode cX6_carryOutWhen 40 = .ok (.getfield 361, 3) := by decide +kernel
theorem dX6_carryOutWhen_43 : decode cX6_carryOutWhen 43 = .ok (.aload_n 0, 1) := by decide +kernel
theorem dX6_carryOutWhen_44 : decode cX6_carryOutWhen 44 = .ok (.getfield 33, 3) := by decide +kernel
theorem dX6_carryOutWhen_47 : decode cX6_carryOutWhen 47 = .ok (.getfield 357, 3) := by decide +kernel
theorem dX6_carryOutWhen_50 : decode cX6_carryOutWhen 50 = .ok (.if_icmp .eq 13, 3) := by decide +kernel
theorem dX6_carryOutWhen_53 : decode cX6_carryOutWhen 53 = .ok (.aload_n 0, 1) := by decide +kernel
theorem dX6_carryOutWhen_54 : decode cX6_carryOutWhen 54 = .ok (.getfield 10, 3) := by decide +kernel
theorem dX6_carryOutWhen_57 : decode cX6_carryOutWhen 57 = .ok (.invokevirtual 135, 3) := by decide +kernel
theorem dX6_carryOutWhen_60 : decode cX6_carryOutWhen 60 = .ok (.ifCond .ne 5, 3) := by decide +kernel
theorem dX6_carryOutWhen_63 : decode cX6_carryOutWhen 63 = .ok (.iconst 0, 1) := by decide +kernel
theorem dX6_carryOutWhen_64 : decode cX6_carryOutWhen 64 = .ok (.ireturn, 1) := by decide +kernel
theorem dX6_carryOutWhen_65 : decode cX6_carryOutWhen 65 = .ok (.aload_n 0, 1) := by decide +kernel
theorem dX6_carryOutWhen_66 : decode cX6_carryOutWhen 66 = .ok (.getfield 10, 3) := by decide +kernel
theorem dX6_carryOutWhen_69 : decode cX6_carryOutWhen 69 = .ok (.aload_n 0, 1) := by decide +kernel
theorem dX6_carryOutWhen_70 : decode cX6_carryOutWhen 70 = .ok (.getfield 33, 3) := by decide +kernel
theorem dX6_carryOutWhen_73 : decode cX6_carryOutWhen 73 = .ok (.getfield 361, 3) := by decide +kernel
theorem dX6_carryOutWhen_76 : decode cX6_carryOutWhen 76 = .ok (.aload_n 0, 1) := by decide +kernel
theorem dX6_carryOutWhen_77 : decode cX6_carryOutWhen 77 = .ok (.getfield 33, 3) := by decide +kernel
theorem dX6_carryOutWhen_80 : decode cX6_carryOutWhen 80 = .ok (.getfield 357, 3) := by decide +kernel
theorem dX6_carryOutWhen_83 : decode cX6_carryOutWhen 83 = .ok (.aload_n 0, 1) := by decide +kernel
theorem dX6_carryOutWhen_84 : decode cX6_carryOutWhen 84 = .ok (.getfield 33, 3) := by decide +kernel
theorem dX6_carryOutWhen_87 : decode cX6_carryOutWhen 87 = .ok (.getfield 360, 3) := by decide +kernel
theorem dX6_carryOutWhen_90 : decode cX6_carryOutWhen 90 = .ok (.invokevirtual 140, 3) := by decide +kernel
theorem dX6_carryOutWhen_93 : decode cX6_carryOutWhen 93 = .ok (.iconst 1, 1) := by decide +kernel
theorem dX6_carryOutWhen_94 : decode cX6_carryOutWhen 94 = .ok (.ireturn, 1) := by decide +kernel
theorem dX6_stepsByCounting_0 : decode cX6_stepsByCounting 0 = .ok (.iconst 0, 1) := by decide +kernel
theorem dX6_stepsByCounting_1 : decode cX6_stepsByCounting 1 = .ok (.istore_n 2, 1) := by decide +kernel
theorem dX6_stepsByCounting_2 : decode cX6_stepsByCounting 2 = .ok (.iload_n 0, 1) := by decide +kernel
theorem dX6_stepsByCounting_3 : decode cX6_stepsByCounting 3 = .ok (.istore_n 3, 1) := by decide +kernel
theorem dX6_stepsByCounting_4 : decode cX6_stepsByCounting 4 = .ok (.iload_n 3, 1) := by decide +kernel
theorem dX6_stepsByCounting_5 : decode cX6_stepsByCounting 5 = .ok (.ifCond .le 20, 3) := by decide +kernel
theorem dX6_stepsByCounting_8 : decode cX6_stepsByCounting 8 = .ok (.iload_n 2, 1) := by decide +kernel
theorem dX6_stepsByCounting_9 : decode cX6_stepsByCounting 9 = .ok (.sipush 2000, 3) := by decide +kernel
theorem dX6_stepsByCounting_12 : decode cX6_stepsByCounting 12 = .ok (.if_icmp .ge 13, 3) := by decide +kernel
theorem dX6_stepsByCounting_15 : decode cX6_stepsByCounting 15 = .ok (.iload_n 3, 1) := by decide +kernel
theorem dX6_stepsByCounting_16 : decode cX6_stepsByCounting 16 = .ok (.iload_n 1, 1) := by decide +kernel
theorem dX6_stepsByCounting_17 : decode cX6_stepsByCounting 17 = .ok (.isub, 1) := by decide +kernel
theorem dX6_stepsByCounting_18 : decode cX6_stepsByCounting 18 = .ok (.istore_n 3, 1) := by decide +kernel
theorem dX6_stepsByCounting_19 : decode cX6_stepsByCounting 19 = .ok (.iinc 2 1, 3) := by decide +kernel
theorem dX6_stepsByCounting_22 : decode cX6_stepsByCounting 22 = .ok (.goto (-18), 3) := by decide +kernel
theorem dX6_stepsByCounting_25 : decode cX6_stepsByCounting 25 = .ok (.iload_n 2, 1) := by decide +kernel
theorem dX6_stepsByCounting_26 : decode cX6_stepsByCounting 26 = .ok (.ireturn, 1) := by decide +kernel
theorem dX6_stepsByDividing_0 : decode cX6_stepsByDividing 0 = .ok (.iload_n 1, 1) := by decide +kernel
theorem dX6_stepsByDividing_1 : decode cX6_stepsByDividing 1 = .ok (.ifCond .le 13, 3) := by decide +kernel
theorem dX6_stepsByDividing_4 : decode cX6_stepsByDividing 4 = .ok (.iload_n 0, 1) := by decide +kernel
theorem dX6_stepsByDividing_5 : decode cX6_stepsByDividing 5 = .ok (.iload_n 1, 1) := by decide +kernel
theorem dX6_stepsByDividing_6 : decode cX6_stepsByDividing 6 = .ok (.iadd, 1) := by decide +kernel
theorem dX6_stepsByDividing_7 : decode cX6_stepsByDividing 7 = .ok (.iconst 1, 1) := by decide +kernel
theorem dX6_stepsByDividing_8 : decode cX6_stepsByDividing 8 = .ok (.isub, 1) := by decide +kernel
theorem dX6_stepsByDividing_9 : decode cX6_stepsByDividing 9 = .ok (.iload_n 1, 1) := by decide +kernel
theorem dX6_stepsByDividing_10 : decode cX6_stepsByDividing 10 = .ok (.idiv, 1) := by decide +kernel
theorem dX6_stepsByDividing_11 : decode cX6_stepsByDividing 11 = .ok (.goto 4, 3) := by decide +kernel
theorem dX6_stepsByDividing_14 : decode cX6_stepsByDividing 14 = .ok (.iconst 0, 1) := by decide +kernel
theorem dX6_stepsByDividing_15 : decode cX6_stepsByDividing 15 = .ok (.ireturn, 1) := by decide +kernel
set_option maxRecDepth 20000 in
theorem ggX6_isPlanSet_J6_bitCount_0f7a4 : GoodIn wsX6_isPlanSet wsJ6_bitCount_0f7a4 := goodIn_r _ [5, 6, 7, 8] (by decide +kernel) (by decide +kernel)
set_option maxRecDepth 20000 in
theorem gX6_isPlanSet_J6_bitCount_0f7a4 : GoodIn wsX6_isPlanSet (va_wsS RX6 362 yJ6_bitCount_0f7a4 wsJ6_bitCount_0f7a4) := goodIn_app (goodIn_of _ (by decide +kernel)) ggX6_isPlanSet_J6_bitCount_0f7a4
theorem dX6_isPlanSet_0 : decode cX6_isPlanSet 0 = .ok (.iload_n 1, 1) := by decide +kernel
theorem dX6_isPlanSet_1 : decode cX6_isPlanSet 1 = .ok (.ifCond .lt 28, 3) := by decide +kernel
theorem dX6_isPlanSet_4 : decode cX6_isPlanSet 4 = .ok (.iload_n 1, 1) := by decide +kernel
theorem dX6_isPlanSet_5 : decode cX6_isPlanSet 5 = .ok (.iconst 1, 1) := by decide +kernel
theorem dX6_isPlanSet_6 : decode cX6_isPlanSet 6 = .ok (.aload_n 0, 1) := by decide +kernel
theorem dX6_isPlanSet_7 : decode cX6_isPlanSet 7 = .ok (.getfield 10, 3) := by decide +kernel
theorem dX6_isPlanSet_10 : decode cX6_isPlanSet 10 = .ok (.getfield 77, 3) := by decide +kernel
theorem dX6_isPlanSet_13 : decode cX6_isPlanSet 13 = .ok (.ishl, 1) := by decide +kernel
theorem dX6_isPlanSet_14 : decode cX6_isPlanSet 14 = .ok (.if_icmp .ge 15, 3) := by decide +kernel
theorem dX6_isPlanSet_17 : decode cX6_isPlanSet 17 = .ok (.iload_n 1, 1) := by decide +kernel
theorem dX6_isPlanSet_18 : decode cX6_isPlanSet 18 = .ok (.invokestatic 362, 3) := by decide +kernel
theorem dX6_isPlanSet_21 : decode cX6_isPlanSet 21 = .ok (.iconst 3, 1) := by decide +kernel
theorem dX6_isPlanSet_22 : decode cX6_isPlanSet 22 = .ok (.if_icmp .gt 7, 3) := by decide +kernel
theorem dX6_isPlanSet_25 : decode cX6_isPlanSet 25 = .ok (.iconst 1, 1) := by decide +kernel
theorem dX6_isPlanSet_26 : decode cX6_isPlanSet 26 = .ok (.goto 4, 3) := by decide +kernel
theorem dX6_isPlanSet_29 : decode cX6_isPlanSet 29 = .ok (.iconst 0, 1) := by decide +kernel
theorem dX6_isPlanSet_30 : decode cX6_isPlanSet 30 = .ok (.ireturn, 1) := by decide +kernel
set_option maxRecDepth 20000 in
theorem ggX6_makePlans_X3_clear : GoodIn wsX6_makePlans wsX3_clear := goodIn_r _ [7, 8, 9, 10, 11, 82, 83, 84, 85] (by decide +kernel) (by decide +kernel)
set_option maxRecDepth 20000 in
theorem gX6_makePlans_X3_clear : GoodIn wsX6_makePlans (wsV RX6 367 RX3 yX3_clear wsX3_clear) := goodIn_app (goodIn_of _ (by decide +kernel)) ggX6_makePlans_X3_clear
