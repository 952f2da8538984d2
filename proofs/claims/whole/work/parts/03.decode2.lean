set_option maxRecDepth 20000 in
theorem ggX6_makePlans_X3_addCord : GoodIn wsX6_makePlans wsX3_addCord := goodIn_r _ [15, 11, 9, 82, 83, 84, 85] (by decide +kernel) (by decide +kernel)
set_option maxRecDepth 20000 in
theorem gX6_makePlans_X3_addCord : GoodIn wsX6_makePlans (wsV RX6 370 RX3 yX3_addCord wsX3_addCord) := goodIn_app (goodIn_of _ (by decide +kernel)) ggX6_makePlans_X3_addCord
set_option maxRecDepth 20000 in
theorem ggX6_makePlans_X3_tryFromBeginning : GoodIn wsX6_makePlans wsX3_tryFromBeginning := goodIn_r _ [19, 20, 21, 22, 6, 23, 10, 24, 25, 26, 27, 9, 28, 29, 30, 31, 32, 33, 34, 35, 36, 37, 38, 39, 40, 41, 42, 43, 44, 45, 46, 47, 48, 49, 50, 51, 52, 53, 8, 82, 83, 84, 85] (by decide +kernel) (by decide +kernel)
set_option maxRecDepth 20000 in
theorem gX6_makePlans_X3_tryFromBeginning : GoodIn wsX6_makePlans (wsV RX6 372 RX3 yX3_tryFromBeginning wsX3_tryFromBeginning) := goodIn_app (goodIn_of _ (by decide +kernel)) ggX6_makePlans_X3_tryFromBeginning
theorem dX6_makePlans_0 : decode cX6_makePlans 0 = .ok (.aload_n 0, 1) := by decide +kernel
theorem dX6_makePlans_1 : decode cX6_makePlans 1 = .ok (.getfield 40, 3) := by decide +kernel
theorem dX6_makePlans_4 : decode cX6_makePlans 4 = .ok (.invokevirtual 367, 3) := by decide +kernel
theorem dX6_makePlans_7 : decode cX6_makePlans 7 = .ok (.iconst 0, 1) := by decide +kernel
theorem dX6_makePlans_8 : decode cX6_makePlans 8 = .ok (.istore_n 2, 1) := by decide +kernel
theorem dX6_makePlans_9 : decode cX6_makePlans 9 = .ok (.iload_n 2, 1) := by decide +kernel
theorem dX6_makePlans_10 : decode cX6_makePlans 10 = .ok (.aload_n 0, 1) := by decide +kernel
theorem dX6_makePlans_11 : decode cX6_makePlans 11 = .ok (.getfield 10, 3) := by decide +kernel
theorem dX6_makePlans_14 : decode cX6_makePlans 14 = .ok (.getfield 77, 3) := by decide +kernel
theorem dX6_makePlans_17 : decode cX6_makePlans 17 = .ok (.if_icmp .ge 36, 3) := by decide +kernel
theorem dX6_makePlans_20 : decode cX6_makePlans 20 = .ok (.iload_n 1, 1) := by decide +kernel
theorem dX6_makePlans_21 : decode cX6_makePlans 21 = .ok (.iload_n 2, 1) := by decide +kernel
theorem dX6_makePlans_22 : decode cX6_makePlans 22 = .ok (.ishr, 1) := by decide +kernel
theorem dX6_makePlans_23 : decode cX6_makePlans 23 = .ok (.iconst 1, 1) := by decide +kernel
theorem dX6_makePlans_24 : decode cX6_makePlans 24 = .ok (.iand, 1) := by decide +kernel
theorem dX6_makePlans_25 : decode cX6_makePlans 25 = .ok (.ifCond .eq 22, 3) := by decide +kernel
theorem dX6_makePlans_28 : decode cX6_makePlans 28 = .ok (.aload_n 0, 1) := by decide +kernel
theorem dX6_makePlans_29 : decode cX6_makePlans 29 = .ok (.getfield 40, 3) := by decide +kernel
theorem dX6_makePlans_32 : decode cX6_makePlans 32 = .ok (.aload_n 0, 1) := by decide +kernel
theorem dX6_makePlans_33 : decode cX6_makePlans 33 = .ok (.getfield 10, 3) := by decide +kernel
theorem dX6_makePlans_36 : decode cX6_makePlans 36 = .ok (.getfield 87, 3) := by decide +kernel
theorem dX6_makePlans_39 : decode cX6_makePlans 39 = .ok (.iload_n 2, 1) := by decide +kernel
theorem dX6_makePlans_40 : decode cX6_makePlans 40 = .ok (.aaload, 1) := by decide +kernel
theorem dX6_makePlans_41 : decode cX6_makePlans 41 = .ok (.getfield 198, 3) := by decide +kernel
theorem dX6_makePlans_44 : decode cX6_makePlans 44 = .ok (.invokevirtual 370, 3) := by decide +kernel
theorem dX6_makePlans_47 : decode cX6_makePlans 47 = .ok (.iinc 2 1, 3) := by decide +kernel
theorem dX6_makePlans_50 : decode cX6_makePlans 50 = .ok (.goto (-41), 3) := by decide +kernel
theorem dX6_makePlans_53 : decode cX6_makePlans 53 = .ok (.aload_n 0, 1) := by decide +kernel
theorem dX6_makePlans_54 : decode cX6_makePlans 54 = .ok (.getfield 40, 3) := by decide +kernel
theorem dX6_makePlans_57 : decode cX6_makePlans 57 = .ok (.invokevirtual 372, 3) := by decide +kernel
theorem dX6_makePlans_60 : decode cX6_makePlans 60 = .ok (.return_, 1) := by decide +kernel
theorem dX7_init_0 : decode cX7_init 0 = .ok (.aload_n 0, 1) := by decide +kernel
theorem dX7_init_1 : decode cX7_init 1 = .ok (.invokespecial 1, 3) := by decide +kernel
theorem dX7_init_4 : decode cX7_init 4 = .ok (.aload_n 0, 1) := by decide +kernel
theorem dX7_init_5 : decode cX7_init 5 = .ok (.bipush 109, 2) := by decide +kernel
theorem dX7_init_7 : decode cX7_init 7 = .ok (.newarray .int, 2) := by decide +kernel
theorem dX7_init_9 : decode cX7_init 9 = .ok (.putfield 7, 3) := by decide +kernel
theorem dX7_init_12 : decode cX7_init 12 = .ok (.aload_n 0, 1) := by decide +kernel
theorem dX7_init_13 : decode cX7_init 13 = .ok (.sipush 654, 3) := by decide +kernel
theorem dX7_init_16 : decode cX7_init 16 = .ok (.newarray .int, 2) := by decide +kernel
theorem dX7_init_18 : decode cX7_init 18 = .ok (.putfield 13, 3) := by decide +kernel
theorem dX7_init_21 : decode cX7_init 21 = .ok (.aload_n 0, 1) := by decide +kernel
theorem dX7_init_22 : decode cX7_init 22 = .ok (.sipush 218, 3) := by decide +kernel
theorem dX7_init_25 : decode cX7_init 25 = .ok (.newarray .int, 2) := by decide +kernel
theorem dX7_init_27 : decode cX7_init 27 = .ok (.putfield 16, 3) := by decide +kernel
theorem dX7_init_30 : decode cX7_init 30 = .ok (.aload_n 0, 1) := by decide +kernel
theorem dX7_init_31 : decode cX7_init 31 = .ok (.iconst 2, 1) := by decide +kernel
theorem dX7_init_32 : decode cX7_init 32 = .ok (.newarray .boolean, 2) := by decide +kernel
theorem dX7_init_34 : decode cX7_init 34 = .ok (.putfield 19, 3) := by decide +kernel
theorem dX7_init_37 : decode cX7_init 37 = .ok (.aload_n 0, 1) := by decide +kernel
theorem dX7_init_38 : decode cX7_init 38 = .ok (.bipush 109, 2) := by decide +kernel
theorem dX7_init_40 : decode cX7_init 40 = .ok (.newarray .int, 2) := by decide +kernel
theorem dX7_init_42 : decode cX7_init 42 = .ok (.putfield 23, 3) := by decide +kernel
theorem dX7_init_45 : decode cX7_init 45 = .ok (.aload_n 0, 1) := by decide +kernel
theorem dX7_init_46 : decode cX7_init 46 = .ok (.bipush 60, 2) := by decide +kernel
theorem dX7_init_48 : decode cX7_init 48 = .ok (.newarray .int, 2) := by decide +kernel
theorem dX7_init_50 : decode cX7_init 50 = .ok (.putfield 26, 3) := by decide +kernel
theorem dX7_init_53 : decode cX7_init 53 = .ok (.aload_n 0, 1) := by decide +kernel
theorem dX7_init_54 : decode cX7_init 54 = .ok (.bipush 16, 2) := by decide +kernel
theorem dX7_init_56 : decode cX7_init 56 = .ok (.newarray .int, 2) := by decide +kernel
theorem dX7_init_58 : decode cX7_init 58 = .ok (.putfield 29, 3) := by decide +kernel
theorem dX7_init_61 : decode cX7_init 61 = .ok (.aload_n 0, 1) := by decide +kernel
theorem dX7_init_62 : decode cX7_init 62 = .ok (.bipush 16, 2) := by decide +kernel
theorem dX7_init_64 : decode cX7_init 64 = .ok (.newarray .int, 2) := by decide +kernel
theorem dX7_init_66 : decode cX7_init 66 = .ok (.putfield 32, 3) := by decide +kernel
theorem dX7_init_69 : decode cX7_init 69 = .ok (.aload_n 0, 1) := by decide +kernel
theorem dX7_init_70 : decode cX7_init 70 = .ok (.bipush 16, 2) := by decide +kernel
theorem dX7_init_72 : decode cX7_init 72 = .ok (.newarray .int, 2) := by decide +kernel
theorem dX7_init_74 : decode cX7_init 74 = .ok (.putfield 35, 3) := by decide +kernel
theorem dX7_init_77 : decode cX7_init 77 = .ok (.aload_n 0, 1) := by decide +kernel
theorem dX7_init_78 : decode cX7_init 78 = .ok (.bipush 16, 2) := by decide +kernel
theorem dX7_init_80 : decode cX7_init 80 = .ok (.newarray .int, 2) := by decide +kernel
theorem dX7_init_82 : decode cX7_init 82 = .ok (.putfield 38, 3) := by decide +kernel
theorem dX7_init_85 : decode cX7_init 85 = .ok (.aload_n 0, 1) := by decide +kernel
theorem dX7_init_86 : decode cX7_init 86 = .ok (.bipush 96, 2) := by decide +kernel
theorem dX7_init_88 : decode cX7_init 88 = .ok (.newarray .int, 2) := by decide +kernel
theorem dX7_init_90 : decode cX7_init 90 = .ok (.putfield 41, 3) := by decide +kernel
theorem dX7_init_93 : decode cX7_init 93 = .ok (.aload_n 0, 1) := by decide +kernel
theorem dX7_init_94 : decode cX7_init 94 = .ok (.sipush 1081, 3) := by decide +kernel
theorem dX7_init_97 : decode cX7_init 97 = .ok (.newarray .int, 2) := by decide +kernel
theorem dX7_init_99 : decode cX7_init 99 = .ok (.putfield 44, 3) := by decide +kernel
theorem dX7_init_102 : decode cX7_init 102 = .ok (.aload_n 0, 1) := by decide +kernel
theorem dX7_init_103 : decode cX7_init 103 = .ok (.sipush 5760, 3) := by decide +kernel
theorem dX7_init_106 : decode cX7_init 106 = .ok (.newarray .int, 2) := by decide +kernel
theorem dX7_init_108 : decode cX7_init 108 = .ok (.putfield 47, 3) := by decide +kernel
theorem dX7_init_111 : decode cX7_init 111 = .ok (.aload_n 0, 1) := by decide +kernel
theorem dX7_init_112 : decode cX7_init 112 = .ok (.sipush 5760, 3) := by decide +kernel
theorem dX7_init_115 : decode cX7_init 115 = .ok (.newarray .int, 2) := by decide +kernel
theorem dX7_init_117 : decode cX7_init 117 = .ok (.putfield 50, 3) := by decide +kernel
theorem dX7_init_120 : decode cX7_init 120 = .ok (.return_, 1) := by decide +kernel
theorem dX7_thrown_0 : decode cX7_thrown 0 = .ok (.aload_n 0, 1) := by decide +kernel
theorem dX7_thrown_1 : decode cX7_thrown 1 = .ok (.getfield 53, 3) := by decide +kernel
theorem dX7_thrown_4 : decode cX7_thrown 4 = .ok (.ireturn, 1) := by decide +kernel
theorem dX7_fails_0 : decode cX7_fails 0 = .ok (.aload_n 0, 1) := by decide +kernel
theorem dX7_fails_1 : decode cX7_fails 1 = .ok (.iload_n 1, 1) := by decide +kernel
theorem dX7_fails_2 : decode cX7_fails 2 = .ok (.putfield 53, 3) := by decide +kernel
theorem dX7_fails_5 : decode cX7_fails 5 = .ok (.iconst 0, 1) := by decide +kernel
theorem dX7_fails_6 : decode cX7_fails 6 = .ok (.ireturn, 1) := by decide +kernel
theorem dX7_in_0 : decode cX7_in 0 = .ok (.iload_n 0, 1) := by decide +kernel
theorem dX7_in_1 : decode cX7_in 1 = .ok (.iload_n 1, 1) := by decide +kernel
theorem dX7_in_2 : decode cX7_in 2 = .ok (.if_icmp .lt 12, 3) := by decide +kernel
theorem dX7_in_5 : decode cX7_in 5 = .ok (.iload_n 0, 1) := by decide +kernel
theorem dX7_in_6 : decode cX7_in 6 = .ok (.iload_n 2, 1) := by decide +kernel
theorem dX7_in_7 : decode cX7_in 7 = .ok (.if_icmp .gt 7, 3) := by decide +kernel
theorem dX7_in_10 : decode cX7_in 10 = .ok (.iconst 1, 1) := by decide +kernel
theorem dX7_in_11 : decode cX7_in 11 = .ok (.goto 4, 3) := by decide +kernel
theorem dX7_in_14 : decode cX7_in 14 = .ok (.iconst 0, 1) := by decide +kernel
theorem dX7_in_15 : decode cX7_in 15 = .ok (.ireturn, 1) := by decide +kernel
set_option maxRecDepth 20000 in
theorem ggX7_isCord_X7_in : GoodIn wsX7_isCord wsX7_in := goodIn_r _ [5] (by decide +kernel) (by decide +kernel)
set_option maxRecDepth 20000 in
theorem gX7_isCord_X7_in : GoodIn wsX7_isCord (va_wsS RX7 57 yX7_in wsX7_in) := goodIn_app (goodIn_of _ (by decide +kernel)) ggX7_isCord_X7_in
theorem dX7_isCord_0 : decode cX7_isCord 0 = .ok (.iload_n 1, 1) := by decide +kernel
theorem dX7_isCord_1 : decode cX7_isCord 1 = .ok (.iconst 0, 1) := by decide +kernel
theorem dX7_isCord_2 : decode cX7_isCord 2 = .ok (.aload_n 0, 1) := by decide +kernel
theorem dX7_isCord_3 : decode cX7_isCord 3 = .ok (.getfield 7, 3) := by decide +kernel
theorem dX7_isCord_6 : decode cX7_isCord 6 = .ok (.bipush 6, 2) := by decide +kernel
theorem dX7_isCord_8 : decode cX7_isCord 8 = .ok (.iaload, 1) := by decide +kernel
theorem dX7_isCord_9 : decode cX7_isCord 9 = .ok (.iconst 1, 1) := by decide +kernel
theorem dX7_isCord_10 : decode cX7_isCord 10 = .ok (.isub, 1) := by decide +kernel
theorem dX7_isCord_11 : decode cX7_isCord 11 = .ok (.invokestatic 57, 3) := by decide +kernel
theorem dX7_isCord_14 : decode cX7_isCord 14 = .ok (.ireturn, 1) := by decide +kernel
theorem dX7_of_0 : decode cX7_of 0 = .ok (.aload_n 0, 1) := by decide +kernel
theorem dX7_of_1 : decode cX7_of 1 = .ok (.getfield 7, 3) := by decide +kernel
theorem dX7_of_4 : decode cX7_of 4 = .ok (.bipush 7, 2) := by decide +kernel
theorem dX7_of_6 : decode cX7_of 6 = .ok (.bipush 11, 2) := by decide +kernel
theorem dX7_of_8 : decode cX7_of 8 = .ok (.iload_n 1, 1) := by decide +kernel
theorem dX7_of_9 : decode cX7_of 9 = .ok (.imul, 1) := by decide +kernel
theorem dX7_of_10 : decode cX7_of 10 = .ok (.iadd, 1) := by decide +kernel
theorem dX7_of_11 : decode cX7_of 11 = .ok (.iload_n 2, 1) := by decide +kernel
theorem dX7_of_12 : decode cX7_of 12 = .ok (.iadd, 1) := by decide +kernel
theorem dX7_of_13 : decode cX7_of 13 = .ok (.iaload, 1) := by decide +kernel
theorem dX7_of_14 : decode cX7_of 14 = .ok (.ireturn, 1) := by decide +kernel
theorem dX7_put_0 : decode cX7_put 0 = .ok (.aload_n 0, 1) := by decide +kernel
theorem dX7_put_1 : decode cX7_put 1 = .ok (.getfield 7, 3) := by decide +kernel
theorem dX7_put_4 : decode cX7_put 4 = .ok (.bipush 7, 2) := by decide +kernel
theorem dX7_put_6 : decode cX7_put 6 = .ok (.bipush 11, 2) := by decide +kernel
theorem dX7_put_8 : decode cX7_put 8 = .ok (.iload_n 1, 1) := by decide +kernel
theorem dX7_put_9 : decode cX7_put 9 = .ok (.imul, 1) := by decide +kernel
theorem dX7_put_10 : decode cX7_put 10 = .ok (.iadd, 1) := by decide +kernel
theorem dX7_put_11 : decode cX7_put 11 = .ok (.iload_n 2, 1) := by decide +kernel
theorem dX7_put_12 : decode cX7_put 12 = .ok (.iadd, 1) := by decide +kernel
theorem dX7_put_13 : decode cX7_put 13 = .ok (.iload_n 3, 1) := by decide +kernel
theorem dX7_put_14 : decode cX7_put 14 = .ok (.iastore, 1) := by decide +kernel
theorem dX7_put_15 : decode cX7_put 15 = .ok (.return_, 1) := by decide +kernel
theorem dX7_save_0 : decode cX7_save 0 = .ok (.aload_n 0, 1) := by decide +kernel
theorem dX7_save_1 : decode cX7_save 1 = .ok (.getfield 61, 3) := by decide +kernel
theorem dX7_save_4 : decode cX7_save 4 = .ok (.bipush 6, 2) := by decide +kernel
theorem dX7_save_6 : decode cX7_save 6 = .ok (.if_icmp .ne 43, 3) := by decide +kernel
theorem dX7_save_9 : decode cX7_save 9 = .ok (.iconst 0, 1) := by decide +kernel
theorem dX7_save_10 : decode cX7_save 10 = .ok (.istore_n 1, 1) := by decide +kernel
theorem dX7_save_11 : decode cX7_save 11 = .ok (.iload_n 1, 1) := by decide +kernel
theorem dX7_save_12 : decode cX7_save 12 = .ok (.sipush 545, 3) := by decide +kernel
theorem dX7_save_15 : decode cX7_save 15 = .ok (.if_icmp .ge 24, 3) := by decide +kernel
theorem dX7_save_18 : decode cX7_save 18 = .ok (.aload_n 0, 1) := by decide +kernel
theorem dX7_save_19 : decode cX7_save 19 = .ok (.getfield 13, 3) := by decide +kernel
theorem dX7_save_22 : decode cX7_save 22 = .ok (.iload_n 1, 1) := by decide +kernel
theorem dX7_save_23 : decode cX7_save 23 = .ok (.aload_n 0, 1) := by decide +kernel
theorem dX7_save_24 : decode cX7_save 24 = .ok (.getfield 13, 3) := by decide +kernel
theorem dX7_save_27 : decode cX7_save 27 = .ok (.iload_n 1, 1) := by decide +kernel
theorem dX7_save_28 : decode cX7_save 28 = .ok (.bipush 109, 2) := by decide +kernel
theorem dX7_save_30 : decode cX7_save 30 = .ok (.iadd, 1) := by decide +kernel
theorem dX7_save_31 : decode cX7_save 31 = .ok (.iaload, 1) := by decide +kernel
theorem dX7_save_32 : decode cX7_save 32 = .ok (.iastore, 1) := by decide +kernel
theorem dX7_save_33 : decode cX7_save 33 = .ok (.iinc 1 1, 3) := by decide +kernel
theorem dX7_save_36 : decode cX7_save 36 = .ok (.goto (-25), 3) := by decide +kernel
theorem dX7_save_39 : decode cX7_save 39 = .ok (.aload_n 0, 1) := by decide +kernel
theorem dX7_save_40 : decode cX7_save 40 = .ok (.dup, 1) := by decide +kernel
theorem dX7_save_41 : decode cX7_save 41 = .ok (.getfield 61, 3) := by decide +kernel
theorem dX7_save_44 : decode cX7_save 44 = .ok (.iconst 1, 1) := by decide +kernel
theorem dX7_save_45 : decode cX7_save 45 = .ok (.isub, 1) := by decide +kernel
theorem dX7_save_46 : decode cX7_save 46 = .ok (.putfield 61, 3) := by decide +kernel
theorem dX7_save_49 : decode cX7_save 49 = .ok (.iconst 0, 1) := by decide +kernel
theorem dX7_save_50 : decode cX7_save 50 = .ok (.istore_n 1, 1) := by decide +kernel
theorem dX7_save_51 : decode cX7_save 51 = .ok (.iload_n 1, 1) := by decide +kernel
theorem dX7_save_52 : decode cX7_save 52 = .ok (.bipush 109, 2) := by decide +kernel
theorem dX7_save_54 : decode cX7_save 54 = .ok (.if_icmp .ge 29, 3) := by decide +kernel
theorem dX7_save_57 : decode cX7_save 57 = .ok (.aload_n 0, 1) := by decide +kernel
theorem dX7_save_58 : decode cX7_save 58 = .ok (.getfield 13, 3) := by decide +kernel
theorem dX7_save_61 : decode cX7_save 61 = .ok (.bipush 109, 2) := by decide +kernel
theorem dX7_save_63 : decode cX7_save 63 = .ok (.aload_n 0, 1) := by decide +kernel
theorem dX7_save_64 : decode cX7_save 64 = .ok (.getfield 61, 3) := by decide +kernel
theorem dX7_save_67 : decode cX7_save 67 = .ok (.imul, 1) := by decide +kernel
theorem dX7_save_68 : decode cX7_save 68 = .ok (.iload_n 1, 1) := by decide +kernel
theorem dX7_save_69 : decode cX7_save 69 = .ok (.iadd, 1) := by decide +kernel
theorem dX7_save_70 : decode cX7_save 70 = .ok (.aload_n 0, 1) := by decide +kernel
theorem dX7_save_71 : decode cX7_save 71 = .ok (.getfield 7, 3) := by decide +kernel
theorem dX7_save_74 : decode cX7_save 74 = .ok (.iload_n 1, 1) := by decide +kernel
theorem dX7_save_75 : decode cX7_save 75 = .ok (.iaload, 1) := by decide +kernel
theorem dX7_save_76 : decode cX7_save 76 = .ok (.iastore, 1) := by decide +kernel
theorem dX7_save_77 : decode cX7_save 77 = .ok (.iinc 1 1, 3) := by decide +kernel
theorem dX7_save_80 : decode cX7_save 80 = .ok (.goto (-29), 3) := by decide +kernel
theorem dX7_save_83 : decode cX7_save 83 = .ok (.aload_n 0, 1) := by decide +kernel
theorem dX7_save_84 : decode cX7_save 84 = .ok (.dup, 1) := by decide +kernel
theorem dX7_save_85 : decode cX7_save 85 = .ok (.getfield 61, 3) := by decide +kernel
theorem dX7_save_88 : decode cX7_save 88 = .ok (.iconst 1, 1) := by decide +kernel
theorem dX7_save_89 : decode cX7_save 89 = .ok (.iadd, 1) := by decide +kernel
theorem dX7_save_90 : decode cX7_save 90 = .ok (.putfield 61, 3) := by decide +kernel
theorem dX7_save_93 : decode cX7_save 93 = .ok (.return_, 1) := by decide +kernel
set_option maxRecDepth 20000 in
theorem ggX7_undo_X7_fails : GoodIn wsX7_undo wsX7_fails := goodIn_r _ [9, 1, 10, 11, 12, 13, 14, 15, 16, 17, 18, 19, 20, 21, 22, 23, 24, 25, 26, 27, 28, 29, 30, 31] (by decide +kernel) (by decide +kernel)
set_option maxRecDepth 20000 in
theorem gX7_undo_X7_fails : GoodIn wsX7_undo (wsV RX7 64 RX7 yX7_fails wsX7_fails) := goodIn_app (goodIn_of _ (by decide +kernel)) ggX7_undo_X7_fails
theorem dX7_undo_0 : decode cX7_undo 0 = .ok (.aload_n 0, 1) := by decide +kernel
theorem dX7_undo_1 : decode cX7_undo 1 = .ok (.iconst 0, 1) := by decide +kernel
theorem dX7_undo_2 : decode cX7_undo 2 = .ok (.putfield 53, 3) := by decide +kernel
theorem dX7_undo_5 : decode cX7_undo 5 = .ok (.aload_n 0, 1) := by decide +kernel
theorem dX7_undo_6 : decode cX7_undo 6 = .ok (.getfield 61, 3) := by decide +kernel
theorem dX7_undo_9 : decode cX7_undo 9 = .ok (.ifCond .ne 9, 3) := by decide +kernel
theorem dX7_undo_12 : decode cX7_undo 12 = .ok (.aload_n 0, 1) := by decide +kernel
theorem dX7_undo_13 : decode cX7_undo 13 = .ok (.iconst 1, 1) := by decide +kernel
theorem dX7_undo_14 : decode cX7_undo 14 = .ok (.invokevirtual 64, 3) := by decide +kernel
theorem dX7_undo_17 : decode cX7_undo 17 = .ok (.ireturn, 1) := by decide +kernel
theorem dX7_undo_18 : decode cX7_undo 18 = .ok (.aload_n 0, 1) := by decide +kernel
theorem dX7_undo_19 : decode cX7_undo 19 = .ok (.dup, 1) := by decide +kernel
theorem dX7_undo_20 : decode cX7_undo 20 = .ok (.getfield 61, 3) := by decide +kernel
theorem dX7_undo_23 : decode cX7_undo 23 = .ok (.iconst 1, 1) := by decide +kernel
theorem dX7_undo_24 : decode cX7_undo 24 = .ok (.isub, 1) := by decide +kernel
theorem dX7_undo_25 : decode cX7_undo 25 = .ok (.putfield 61, 3) := by decide +kernel
theorem dX7_undo_28 : decode cX7_undo 28 = .ok (.iconst 0, 1) := by decide +kernel
theorem dX7_undo_29 : decode cX7_undo 29 = .ok (.istore_n 1, 1) := by decide +kernel
theorem dX7_undo_30 : decode cX7_undo 30 = .ok (.iload_n 1, 1) := by decide +kernel
theorem dX7_undo_31 : decode cX7_undo 31 = .ok (.bipush 109, 2) := by decide +kernel
theorem dX7_undo_33 : decode cX7_undo 33 = .ok (.if_icmp .ge 29, 3) := by decide +kernel
theorem dX7_undo_36 : decode cX7_undo 36 = .ok (.aload_n 0, 1) := by decide +kernel
theorem dX7_undo_37 : decode cX7_undo 37 = .ok (.getfield 7, 3) := by decide +kernel
theorem dX7_undo_40 : decode cX7_undo 40 = .ok (.iload_n 1, 1) := by decide +kernel
theorem dX7_undo_41 : decode cX7_undo 41 = .ok (.aload_n 0, 1) := by decide +kernel
theorem dX7_undo_42 : decode cX7_undo 42 = .ok (.getfield 13, 3) := by decide +kernel
theorem dX7_undo_45 : decode cX7_undo 45 = .ok (.bipush 109, 2) := by decide +kernel
theorem dX7_undo_47 : decode cX7_undo 47 = .ok (.aload_n 0, 1) := by decide +kernel
theorem dX7_undo_48 : decode cX7_undo 48 = .ok (.getfield 61, 3) := by decide +kernel
theorem dX7_undo_51 : decode cX7_undo 51 = .ok (.imul, 1) := by decide +kernel
theorem dX7_undo_52 : decode cX7_undo 52 = .ok (.iload_n 1, 1) := by decide +kernel
theorem dX7_undo_53 : decode cX7_undo 53 = .ok (.iadd, 1) := by decide +kernel
theorem dX7_undo_54 : decode cX7_undo 54 = .ok (.iaload, 1) := by decide +kernel
theorem dX7_undo_55 : decode cX7_undo 55 = .ok (.iastore, 1) := by decide +kernel
theorem dX7_undo_56 : decode cX7_undo 56 = .ok (.iinc 1 1, 3) := by decide +kernel
theorem dX7_undo_59 : decode cX7_undo 59 = .ok (.goto (-29), 3) := by decide +kernel
theorem dX7_undo_62 : decode cX7_undo 62 = .ok (.aload_n 0, 1) := by decide +kernel
theorem dX7_undo_63 : decode cX7_undo 63 = .ok (.getfield 61, 3) := by decide +kernel
theorem dX7_undo_66 : decode cX7_undo 66 = .ok (.ireturn, 1) := by decide +kernel
set_option maxRecDepth 20000 in
theorem ggX7_keep_X7_in : GoodIn wsX7_keep wsX7_in := goodIn_r _ [8] (by decide +kernel) (by decide +kernel)
set_option maxRecDepth 20000 in
theorem gX7_keep_X7_in : GoodIn wsX7_keep (va_wsS RX7 57 yX7_in wsX7_in) := goodIn_app (goodIn_of _ (by decide +kernel)) ggX7_keep_X7_in
set_option maxRecDepth 20000 in
theorem ggX7_keep_X7_fails : GoodIn wsX7_keep wsX7_fails := goodIn_r _ [12, 1, 13, 14, 15, 16, 17, 18, 19, 20, 21, 22, 23, 24, 25, 26, 27, 28, 29, 30, 31, 32, 33, 34] (by decide +kernel) (by decide +kernel)
set_option maxRecDepth 20000 in
theorem gX7_keep_X7_fails : GoodIn wsX7_keep (wsV RX7 64 RX7 yX7_fails wsX7_fails) := goodIn_app (goodIn_of _ (by decide +kernel)) ggX7_keep_X7_fails
theorem dX7_keep_0 : decode cX7_keep 0 = .ok (.aload_n 0, 1) := by decide +kernel
theorem dX7_keep_1 : decode cX7_keep 1 = .ok (.iconst 0, 1) := by decide +kernel
theorem dX7_keep_2 : decode cX7_keep 2 = .ok (.putfield 53, 3) := by decide +kernel
theorem dX7_keep_5 : decode cX7_keep 5 = .ok (.iload_n 1, 1) := by decide +kernel
theorem dX7_keep_6 : decode cX7_keep 6 = .ok (.iconst 0, 1) := by decide +kernel
theorem dX7_keep_7 : decode cX7_keep 7 = .ok (.iconst 1, 1) := by decide +kernel
theorem dX7_keep_8 : decode cX7_keep 8 = .ok (.invokestatic 57, 3) := by decide +kernel
theorem dX7_keep_11 : decode cX7_keep 11 = .ok (.ifCond .ne 9, 3) := by decide +kernel
theorem dX7_keep_14 : decode cX7_keep 14 = .ok (.aload_n 0, 1) := by decide +kernel
theorem dX7_keep_15 : decode cX7_keep 15 = .ok (.iconst 1, 1) := by decide +kernel
theorem dX7_keep_16 : decode cX7_keep 16 = .ok (.invokevirtual 64, 3) := by decide +kernel
theorem dX7_keep_19 : decode cX7_keep 19 = .ok (.ireturn, 1) := by decide +kernel
theorem dX7_keep_20 : decode cX7_keep 20 = .ok (.iconst 0, 1) := by decide +kernel
theorem dX7_keep_21 : decode cX7_keep 21 = .ok (.istore_n 2, 1) := by decide +kernel
theorem dX7_keep_22 : decode cX7_keep 22 = .ok (.iload_n 2, 1) := by decide +kernel
theorem dX7_keep_23 : decode cX7_keep 23 = .ok (.bipush 109, 2) := by decide +kernel
theorem dX7_keep_25 : decode cX7_keep 25 = .ok (.if_icmp .ge 26, 3) := by decide +kernel
theorem dX7_keep_28 : decode cX7_keep 28 = .ok (.aload_n 0, 1) := by decide +kernel
theorem dX7_keep_29 : decode cX7_keep 29 = .ok (.getfield 16, 3) := by decide +kernel
theorem dX7_keep_32 : decode cX7_keep 32 = .ok (.bipush 109, 2) := by decide +kernel
theorem dX7_keep_34 : decode cX7_keep 34 = .ok (.iload_n 1, 1) := by decide +kernel
theorem dX7_keep_35 : decode cX7_keep 35 = .ok (.imul, 1) := by decide +kernel
theorem dX7_keep_36 : decode cX7_keep 36 = .ok (.iload_n 2, 1) := by decide +kernel
theorem dX7_keep_37 : decode cX7_keep 37 = .ok (.iadd, 1) := by decide +kernel
theorem dX7_keep_38 : decode cX7_keep 38 = .ok (.aload_n 0, 1) := by decide +kernel
theorem dX7_keep_39 : decode cX7_keep 39 = .ok (.getfield 7, 3) := by decide +kernel
theorem dX7_keep_42 : decode cX7_keep 42 = .ok (.iload_n 2, 1) := by decide +kernel
theorem dX7_keep_43 : decode cX7_keep 43 = .ok (.iaload, 1) := by decide +kernel
theorem dX7_keep_44 : decode cX7_keep 44 = .ok (.iastore, 1) := by decide +kernel
theorem dX7_keep_45 : decode cX7_keep 45 = .ok (.iinc 2 1, 3) := by decide +kernel
theorem dX7_keep_48 : decode cX7_keep 48 = .ok (.goto (-26), 3) := by decide +kernel
theorem dX7_keep_51 : decode cX7_keep 51 = .ok (.aload_n 0, 1) := by decide +kernel
theorem dX7_keep_52 : decode cX7_keep 52 = .ok (.getfield 19, 3) := by decide +kernel
theorem dX7_keep_55 : decode cX7_keep 55 = .ok (.iload_n 1, 1) := by decide +kernel
theorem dX7_keep_56 : decode cX7_keep 56 = .ok (.iconst 1, 1) := by decide +kernel
theorem dX7_keep_57 : decode cX7_keep 57 = .ok (.bastore, 1) := by decide +kernel
theorem dX7_keep_58 : decode cX7_keep 58 = .ok (.aload_n 0, 1) := by decide +kernel
theorem dX7_keep_59 : decode cX7_keep 59 = .ok (.getfield 7, 3) := by decide +kernel
theorem dX7_keep_62 : decode cX7_keep 62 = .ok (.iconst 0, 1) := by decide +kernel
theorem dX7_keep_63 : decode cX7_keep 63 = .ok (.iaload, 1) := by decide +kernel
theorem dX7_keep_64 : decode cX7_keep 64 = .ok (.ireturn, 1) := by decide +kernel
set_option maxRecDepth 20000 in
theorem ggX7_goBack_X7_in : GoodIn wsX7_goBack wsX7_in := goodIn_r _ [8] (by decide +kernel) (by decide +kernel)
set_option maxRecDepth 20000 in
theorem gX7_goBack_X7_in : GoodIn wsX7_goBack (va_wsS RX7 57 yX7_in wsX7_in) := goodIn_app (goodIn_of _ (by decide +kernel)) ggX7_goBack_X7_in
set_option maxRecDepth 20000 in
theorem ggX7_goBack_X7_fails : GoodIn wsX7_goBack wsX7_fails := goodIn_r _ [12, 1, 19, 20, 21, 22, 23, 24, 25, 26, 27, 28, 29, 30, 31, 32, 33, 34, 35, 36, 37, 38, 39, 40] (by decide +kernel) (by decide +kernel)
set_option maxRecDepth 20000 in
theorem gX7_goBack_X7_fails : GoodIn wsX7_goBack (wsV RX7 64 RX7 yX7_fails wsX7_fails) := goodIn_app (goodIn_of _ (by decide +kernel)) ggX7_goBack_X7_fails
set_option maxRecDepth 20000 in
theorem ggX7_goBack_X7_save : GoodIn wsX7_goBack wsX7_save := goodIn_r _ [16, 17, 18, 3, 19, 20, 21, 22, 23, 24, 25, 26, 27, 28, 29, 30, 31, 32, 33, 34, 35, 36, 37, 38, 39, 40] (by decide +kernel) (by decide +kernel)
set_option maxRecDepth 20000 in
theorem gX7_goBack_X7_save : GoodIn wsX7_goBack (wsV RX7 68 RX7 yX7_save wsX7_save) := goodIn_app (goodIn_of _ (by decide +kernel)) ggX7_goBack_X7_save
theorem dX7_goBack_0 : decode cX7_goBack 0 = .ok (.aload_n 0, 1) := by decide +kernel
theorem dX7_goBack_1 : decode cX7_goBack 1 = .ok (.iconst 0, 1) := by decide +kernel
theorem dX7_goBack_2 : decode cX7_goBack 2 = .ok (.putfield 53, 3) := by decide +kernel
theorem dX7_goBack_5 : decode cX7_goBack 5 = .ok (.iload_n 1, 1) := by decide +kernel
theorem dX7_goBack_6 : decode cX7_goBack 6 = .ok (.iconst 0, 1) := by decide +kernel
theorem dX7_goBack_7 : decode cX7_goBack 7 = .ok (.iconst 1, 1) := by decide +kernel
theorem dX7_goBack_8 : decode cX7_goBack 8 = .ok (.invokestatic 57, 3) := by decide +kernel
theorem dX7_goBack_11 : decode cX7_goBack 11 = .ok (.ifCond .ne 9, 3) := by decide +kernel
theorem dX7_goBack_14 : decode cX7_goBack 14 = .ok (.aload_n 0, 1) := by decide +kernel
theorem dX7_goBack_15 : decode cX7_goBack 15 = .ok (.iconst 1, 1) := by decide +kernel
theorem dX7_goBack_16 : decode cX7_goBack 16 = .ok (.invokevirtual 64, 3) := by decide +kernel
theorem dX7_goBack_19 : decode cX7_goBack 19 = .ok (.ireturn, 1) := by decide +kernel
theorem dX7_goBack_20 : decode cX7_goBack 20 = .ok (.aload_n 0, 1) := by decide +kernel
theorem dX7_goBack_21 : decode cX7_goBack 21 = .ok (.getfield 19, 3) := by decide +kernel
theorem dX7_goBack_24 : decode cX7_goBack 24 = .ok (.iload_n 1, 1) := by decide +kernel
theorem dX7_goBack_25 : decode cX7_goBack 25 = .ok (.baload, 1) := by decide +kernel
theorem dX7_goBack_26 : decode cX7_goBack 26 = .ok (.ifCond .ne 9, 3) := by decide +kernel
theorem dX7_goBack_29 : decode cX7_goBack 29 = .ok (.aload_n 0, 1) := by decide +kernel
theorem dX7_goBack_30 : decode cX7_goBack 30 = .ok (.iconst 2, 1) := by decide +kernel
theorem dX7_goBack_31 : decode cX7_goBack 31 = .ok (.invokevirtual 64, 3) := by decide +kernel
theorem dX7_goBack_34 : decode cX7_goBack 34 = .ok (.ireturn, 1) := by decide +kernel
theorem dX7_goBack_35 : decode cX7_goBack 35 = .ok (.aload_n 0, 1) := by decide +kernel
theorem dX7_goBack_36 : decode cX7_goBack 36 = .ok (.invokevirtual 68, 3) := by decide +kernel
theorem dX7_goBack_39 : decode cX7_goBack 39 = .ok (.iconst 0, 1) := by decide +kernel
theorem dX7_goBack_40 : decode cX7_goBack 40 = .ok (.istore_n 2, 1) := by decide +kernel
theorem dX7_goBack_41 : decode cX7_goBack 41 = .ok (.iload_n 2, 1) := by decide +kernel
theorem dX7_goBack_42 : decode cX7_goBack 42 = .ok (.bipush 109, 2) := by decide +kernel
theorem dX7_goBack_44 : decode cX7_goBack 44 = .ok (.if_icmp .ge 26, 3) := by decide +kernel
theorem dX7_goBack_47 : decode cX7_goBack 47 = .ok (.aload_n 0, 1) := by decide +kernel
theorem dX7_goBack_48 : decode cX7_goBack 48 = .ok (.getfield 7, 3) := by decide +kernel
theorem dX7_goBack_51 : decode cX7_goBack 51 = .ok (.iload_n 2, 1) := by decide +kernel
theorem dX7_goBack_52 : decode cX7_goBack 52 = .ok (.aload_n 0, 1) := by decide +kernel
theorem dX7_goBack_53 : decode cX7_goBack 53 = .ok (.getfield 16, 3) := by decide +kernel
theorem dX7_goBack_56 : decode cX7_goBack 56 = .ok (.bipush 109, 2) := by decide +kernel
theorem dX7_goBack_58 : decode cX7_goBack 58 = .ok (.iload_n 1, 1) := by decide +kernel
theorem dX7_goBack_59 : decode cX7_goBack 59 = .ok (.imul, 1) := by decide +kernel
theorem dX7_goBack_60 : decode cX7_goBack 60 = .ok (.iload_n 2, 1) := by decide +kernel
theorem dX7_goBack_61 : decode cX7_goBack 61 = .ok (.iadd, 1) := by decide +kernel
theorem dX7_goBack_62 : decode cX7_goBack 62 = .ok (.iaload, 1) := by decide +kernel
theorem dX7_goBack_63 : decode cX7_goBack 63 = .ok (.iastore, 1) := by decide +kernel
theorem dX7_goBack_64 : decode cX7_goBack 64 = .ok (.iinc 2 1, 3) := by decide +kernel
theorem dX7_goBack_67 : decode cX7_goBack 67 = .ok (.goto (-26), 3) := by decide +kernel
theorem dX7_goBack_70 : decode cX7_goBack 70 = .ok (.aload_n 0, 1) := by decide +kernel
theorem dX7_goBack_71 : decode cX7_goBack 71 = .ok (.getfield 7, 3) := by decide +kernel
theorem dX7_goBack_74 : decode cX7_goBack 74 = .ok (.iconst 0, 1) := by decide +kernel
theorem dX7_goBack_75 : decode cX7_goBack 75 = .ok (.iaload, 1) := by decide +kernel
theorem dX7_goBack_76 : decode cX7_goBack 76 = .ok (.ireturn, 1) := by decide +kernel
set_option maxRecDepth 20000 in
theorem ggX7_timeOf_X7_of : GoodIn wsX7_timeOf wsX7_of := goodIn_r _ [5, 6, 7, 8, 9, 10, 11, 12, 13, 14, 15, 16, 17, 18, 19, 20, 21, 22, 23, 24, 25, 26, 27, 28] (by decide +kernel) (by decide +kernel)
set_option maxRecDepth 20000 in
theorem gX7_timeOf_X7_of : GoodIn wsX7_timeOf (wsV RX7 71 RX7 yX7_of wsX7_of) := goodIn_app (goodIn_of _ (by decide +kernel)) ggX7_timeOf_X7_of
theorem dX7_timeOf_0 : decode cX7_timeOf 0 = .ok (.iconst 0, 1) := by decide +kernel
theorem dX7_timeOf_1 : decode cX7_timeOf 1 = .ok (.istore_n 2, 1) := by decide +kernel
theorem dX7_timeOf_2 : decode cX7_timeOf 2 = .ok (.iconst 0, 1) := by decide +kernel
theorem dX7_timeOf_3 : decode cX7_timeOf 3 = .ok (.istore_n 3, 1) := by decide +kernel
theorem dX7_timeOf_4 : decode cX7_timeOf 4 = .ok (.iload_n 3, 1) := by decide +kernel
theorem dX7_timeOf_5 : decode cX7_timeOf 5 = .ok (.aload_n 0, 1) := by decide +kernel
theorem dX7_timeOf_6 : decode cX7_timeOf 6 = .ok (.iload_n 1, 1) := by decide +kernel
theorem dX7_timeOf_7 : decode cX7_timeOf 7 = .ok (.iconst 0, 1) := by decide +kernel
theorem dX7_timeOf_8 : decode cX7_timeOf 8 = .ok (.invokevirtual 71, 3) := by decide +kernel
theorem dX7_timeOf_11 : decode cX7_timeOf 11 = .ok (.if_icmp .ge 20, 3) := by decide +kernel
theorem dX7_timeOf_14 : decode cX7_timeOf 14 = .ok (.iload_n 2, 1) := by decide +kernel
theorem dX7_timeOf_15 : decode cX7_timeOf 15 = .ok (.aload_n 0, 1) := by decide +kernel
theorem dX7_timeOf_16 : decode cX7_timeOf 16 = .ok (.iload_n 1, 1) := by decide +kernel
theorem dX7_timeOf_17 : decode cX7_timeOf 17 = .ok (.iconst 1, 1) := by decide +kernel
theorem dX7_timeOf_18 : decode cX7_timeOf 18 = .ok (.iload_n 3, 1) := by decide +kernel
theorem dX7_timeOf_19 : decode cX7_timeOf 19 = .ok (.iadd, 1) := by decide +kernel
theorem dX7_timeOf_20 : decode cX7_timeOf 20 = .ok (.invokevirtual 71, 3) := by decide +kernel
theorem dX7_timeOf_23 : decode cX7_timeOf 23 = .ok (.iadd, 1) := by decide +kernel
theorem dX7_timeOf_24 : decode cX7_timeOf 24 = .ok (.istore_n 2, 1) := by decide +kernel
theorem dX7_timeOf_25 : decode cX7_timeOf 25 = .ok (.iinc 3 1, 3) := by decide +kernel
theorem dX7_timeOf_28 : decode cX7_timeOf 28 = .ok (.goto (-24), 3) := by decide +kernel
theorem dX7_timeOf_31 : decode cX7_timeOf 31 = .ok (.iload_n 2, 1) := by decide +kernel
theorem dX7_timeOf_32 : decode cX7_timeOf 32 = .ok (.ireturn, 1) := by decide +kernel
set_option maxRecDepth 20000 in
theorem ggX7_burnedOf_X7_of : GoodIn wsX7_burnedOf wsX7_of := goodIn_r _ [5, 6, 7, 8, 9, 10, 11, 12, 13, 14, 15, 16, 17, 18, 19, 20, 21, 22, 23, 24, 25, 26, 27, 28] (by decide +kernel) (by decide +kernel)
set_option maxRecDepth 20000 in
theorem gX7_burnedOf_X7_of : GoodIn wsX7_burnedOf (wsV RX7 71 RX7 yX7_of wsX7_of) := goodIn_app (goodIn_of _ (by decide +kernel)) ggX7_burnedOf_X7_of
theorem dX7_burnedOf_0 : decode cX7_burnedOf 0 = .ok (.aload_n 0, 1) := by decide +kernel
theorem dX7_burnedOf_1 : decode cX7_burnedOf 1 = .ok (.iload_n 1, 1) := by decide +kernel
theorem dX7_burnedOf_2 : decode cX7_burnedOf 2 = .ok (.bipush 7, 2) := by decide +kernel
theorem dX7_burnedOf_4 : decode cX7_burnedOf 4 = .ok (.invokevirtual 71, 3) := by decide +kernel
theorem dX7_burnedOf_7 : decode cX7_burnedOf 7 = .ok (.aload_n 0, 1) := by decide +kernel
theorem dX7_burnedOf_8 : decode cX7_burnedOf 8 = .ok (.iload_n 1, 1) := by decide +kernel
theorem dX7_burnedOf_9 : decode cX7_burnedOf 9 = .ok (.bipush 8, 2) := by decide +kernel
theorem dX7_burnedOf_11 : decode cX7_burnedOf 11 = .ok (.invokevirtual 71, 3) := by decide +kernel
theorem dX7_burnedOf_14 : decode cX7_burnedOf 14 = .ok (.iadd, 1) := by decide +kernel
theorem dX7_burnedOf_15 : decode cX7_burnedOf 15 = .ok (.ireturn, 1) := by decide +kernel
set_option maxRecDepth 20000 in
theorem ggX7_leftOf_X7_timeOf : GoodIn wsX7_leftOf wsX7_timeOf := goodIn_r _ [5, 6, 7, 8, 4, 9, 10, 15, 16, 17, 18, 19, 20, 21, 22, 23, 24, 25, 26, 27, 28, 29, 30, 31, 32, 33, 34, 35, 36] (by decide +kernel) (by decide +kernel)
set_option maxRecDepth 20000 in
theorem gX7_leftOf_X7_timeOf : GoodIn wsX7_leftOf (wsV RX7 75 RX7 yX7_timeOf wsX7_timeOf) := goodIn_app (goodIn_of _ (by decide +kernel)) ggX7_leftOf_X7_timeOf
set_option maxRecDepth 20000 in
theorem ggX7_leftOf_X7_burnedOf : GoodIn wsX7_leftOf wsX7_burnedOf := goodIn_r _ [14, 6, 7, 8, 4, 9, 10, 15, 16, 17, 18, 19, 20, 21, 22, 23, 24, 25, 26, 27, 28, 29, 30, 31, 32, 33, 34, 35, 36] (by decide +kernel) (by decide +kernel)
set_option maxRecDepth 20000 in
theorem gX7_leftOf_X7_burnedOf : GoodIn wsX7_leftOf (wsV RX7 78 RX7 yX7_burnedOf wsX7_burnedOf) := goodIn_app (goodIn_of _ (by decide +kernel)) ggX7_leftOf_X7_burnedOf
theorem dX7_leftOf_0 : decode cX7_leftOf 0 = .ok (.aload_n 0, 1) := by decide +kernel
theorem dX7_leftOf_1 : decode cX7_leftOf 1 = .ok (.iload_n 1, 1) := by decide +kernel
theorem dX7_leftOf_2 : decode cX7_leftOf 2 = .ok (.invokevirtual 75, 3) := by decide +kernel
theorem dX7_leftOf_5 : decode cX7_leftOf 5 = .ok (.aload_n 0, 1) := by decide +kernel
theorem dX7_leftOf_6 : decode cX7_leftOf 6 = .ok (.iload_n 1, 1) := by decide +kernel
theorem dX7_leftOf_7 : decode cX7_leftOf 7 = .ok (.invokevirtual 78, 3) := by decide +kernel
theorem dX7_leftOf_10 : decode cX7_leftOf 10 = .ok (.isub, 1) := by decide +kernel
theorem dX7_leftOf_11 : decode cX7_leftOf 11 = .ok (.ireturn, 1) := by decide +kernel
set_option maxRecDepth 20000 in
theorem ggX7_flamesOf_X7_of : GoodIn wsX7_flamesOf wsX7_of := goodIn_r _ [5, 6, 7, 8, 9, 10, 11, 12, 13, 14, 15, 16, 17, 18, 19, 20, 21, 22, 23, 24, 25, 26, 27, 28] (by decide +kernel) (by decide +kernel)
set_option maxRecDepth 20000 in
theorem gX7_flamesOf_X7_of : GoodIn wsX7_flamesOf (wsV RX7 71 RX7 yX7_of wsX7_of) := goodIn_app (goodIn_of _ (by decide +kernel)) ggX7_flamesOf_X7_of
theorem dX7_flamesOf_0 : decode cX7_flamesOf 0 = .ok (.aload_n 0, 1) := by decide +kernel
theorem dX7_flamesOf_1 : decode cX7_flamesOf 1 = .ok (.iload_n 1, 1) := by decide +kernel
theorem dX7_flamesOf_2 : decode cX7_flamesOf 2 = .ok (.bipush 9, 2) := by decide +kernel
theorem dX7_flamesOf_4 : decode cX7_flamesOf 4 = .ok (.invokevirtual 71, 3) := by decide +kernel
theorem dX7_flamesOf_7 : decode cX7_flamesOf 7 = .ok (.istore_n 2, 1) := by decide +kernel
theorem dX7_flamesOf_8 : decode cX7_flamesOf 8 = .ok (.iload_n 2, 1) := by decide +kernel
theorem dX7_flamesOf_9 : decode cX7_flamesOf 9 = .ok (.iconst 1, 1) := by decide +kernel
theorem dX7_flamesOf_10 : decode cX7_flamesOf 10 = .ok (.iand, 1) := by decide +kernel
theorem dX7_flamesOf_11 : decode cX7_flamesOf 11 = .ok (.iload_n 2, 1) := by decide +kernel
theorem dX7_flamesOf_12 : decode cX7_flamesOf 12 = .ok (.iconst 1, 1) := by decide +kernel
theorem dX7_flamesOf_13 : decode cX7_flamesOf 13 = .ok (.ishr, 1) := by decide +kernel
theorem dX7_flamesOf_14 : decode cX7_flamesOf 14 = .ok (.iadd, 1) := by decide +kernel
theorem dX7_flamesOf_15 : decode cX7_flamesOf 15 = .ok (.ireturn, 1) := by decide +kernel
set_option maxRecDepth 20000 in
theorem ggX7_flames_X7_flamesOf : GoodIn wsX7_flames wsX7_flamesOf := goodIn_r _ [6, 7, 8, 9, 5, 10, 1, 11, 12, 13, 14, 15, 16, 17, 18, 19, 20, 21, 22, 23, 24, 25, 26, 27, 28, 29, 30, 31, 32] (by decide +kernel) (by decide +kernel)
set_option maxRecDepth 20000 in
theorem gX7_flames_X7_flamesOf : GoodIn wsX7_flames (wsV RX7 81 RX7 yX7_flamesOf wsX7_flamesOf) := goodIn_app (goodIn_of _ (by decide +kernel)) ggX7_flames_X7_flamesOf
theorem dX7_flames_0 : decode cX7_flames 0 = .ok (.iconst 0, 1) := by decide +kernel
theorem dX7_flames_1 : decode cX7_flames 1 = .ok (.istore_n 1, 1) := by decide +kernel
theorem dX7_flames_2 : decode cX7_flames 2 = .ok (.iconst 0, 1) := by decide +kernel
theorem dX7_flames_3 : decode cX7_flames 3 = .ok (.istore_n 2, 1) := by decide +kernel
theorem dX7_flames_4 : decode cX7_flames 4 = .ok (.iload_n 2, 1) := by decide +kernel
theorem dX7_flames_5 : decode cX7_flames 5 = .ok (.aload_n 0, 1) := by decide +kernel
theorem dX7_flames_6 : decode cX7_flames 6 = .ok (.getfield 7, 3) := by decide +kernel
theorem dX7_flames_9 : decode cX7_flames 9 = .ok (.bipush 6, 2) := by decide +kernel
theorem dX7_flames_11 : decode cX7_flames 11 = .ok (.iaload, 1) := by decide +kernel
theorem dX7_flames_12 : decode cX7_flames 12 = .ok (.if_icmp .ge 17, 3) := by decide +kernel
theorem dX7_flames_15 : decode cX7_flames 15 = .ok (.iload_n 1, 1) := by decide +kernel
theorem dX7_flames_16 : decode cX7_flames 16 = .ok (.aload_n 0, 1) := by decide +kernel
theorem dX7_flames_17 : decode cX7_flames 17 = .ok (.iload_n 2, 1) := by decide +kernel
theorem dX7_flames_18 : decode cX7_flames 18 = .ok (.invokevirtual 81, 3) := by decide +kernel
theorem dX7_flames_21 : decode cX7_flames 21 = .ok (.iadd, 1) := by decide +kernel
theorem dX7_flames_22 : decode cX7_flames 22 = .ok (.istore_n 1, 1) := by decide +kernel
theorem dX7_flames_23 : decode cX7_flames 23 = .ok (.iinc 2 1, 3) := by decide +kernel
theorem dX7_flames_26 : decode cX7_flames 26 = .ok (.goto (-22), 3) := by decide +kernel
theorem dX7_flames_29 : decode cX7_flames 29 = .ok (.iload_n 1, 1) := by decide +kernel
theorem dX7_flames_30 : decode cX7_flames 30 = .ok (.ireturn, 1) := by decide +kernel
theorem dX7_write_0 : decode cX7_write 0 = .ok (.bipush 23, 2) := by decide +kernel
theorem dX7_write_2 : decode cX7_write 2 = .ok (.istore_n 3, 1) := by decide +kernel
theorem dX7_write_3 : decode cX7_write 3 = .ok (.iload_n 3, 1) := by decide +kernel
theorem dX7_write_4 : decode cX7_write 4 = .ok (.iconst 2, 1) := by decide +kernel
theorem dX7_write_5 : decode cX7_write 5 = .ok (.if_icmp .le 29, 3) := by decide +kernel
theorem dX7_write_8 : decode cX7_write 8 = .ok (.aload_n 0, 1) := by decide +kernel
theorem dX7_write_9 : decode cX7_write 9 = .ok (.getfield 7, 3) := by decide +kernel
theorem dX7_write_12 : decode cX7_write 12 = .ok (.bipush 85, 2) := by decide +kernel
theorem dX7_write_14 : decode cX7_write 14 = .ok (.iload_n 3, 1) := by decide +kernel
theorem dX7_write_15 : decode cX7_write 15 = .ok (.iadd, 1) := by decide +kernel
theorem dX7_write_16 : decode cX7_write 16 = .ok (.aload_n 0, 1) := by decide +kernel
theorem dX7_write_17 : decode cX7_write 17 = .ok (.getfield 7, 3) := by decide +kernel
theorem dX7_write_20 : decode cX7_write 20 = .ok (.bipush 85, 2) := by decide +kernel
theorem dX7_write_22 : decode cX7_write 22 = .ok (.iload_n 3, 1) := by decide +kernel
theorem dX7_write_23 : decode cX7_write 23 = .ok (.iadd, 1) := by decide +kernel
theorem dX7_write_24 : decode cX7_write 24 = .ok (.iconst 3, 1) := by decide +kernel
theorem dX7_write_25 : decode cX7_write 25 = .ok (.isub, 1) := by decide +kernel
theorem dX7_write_26 : decode cX7_write 26 = .ok (.iaload, 1) := by decide +kernel
theorem dX7_write_27 : decode cX7_write 27 = .ok (.iastore, 1) := by decide +kernel
theorem dX7_write_28 : decode cX7_write 28 = .ok (.iinc 3 (-1), 3) := by decide +kernel
theorem dX7_write_31 : decode cX7_write 31 = .ok (.goto (-28), 3) := by decide +kernel
theorem dX7_write_34 : decode cX7_write 34 = .ok (.aload_n 0, 1) := by decide +kernel
theorem dX7_write_35 : decode cX7_write 35 = .ok (.getfield 7, 3) := by decide +kernel
theorem dX7_write_38 : decode cX7_write 38 = .ok (.bipush 85, 2) := by decide +kernel
theorem dX7_write_40 : decode cX7_write 40 = .ok (.iload_n 1, 1) := by decide +kernel
theorem dX7_write_41 : decode cX7_write 41 = .ok (.iastore, 1) := by decide +kernel
theorem dX7_write_42 : decode cX7_write 42 = .ok (.aload_n 0, 1) := by decide +kernel
theorem dX7_write_43 : decode cX7_write 43 = .ok (.getfield 7, 3) := by decide +kernel
theorem dX7_write_46 : decode cX7_write 46 = .ok (.bipush 86, 2) := by decide +kernel
theorem dX7_write_48 : decode cX7_write 48 = .ok (.aload_n 0, 1) := by decide +kernel
theorem dX7_write_49 : decode cX7_write 49 = .ok (.getfield 7, 3) := by decide +kernel
theorem dX7_write_52 : decode cX7_write 52 = .ok (.iconst 0, 1) := by decide +kernel
theorem dX7_write_53 : decode cX7_write 53 = .ok (.iaload, 1) := by decide +kernel
theorem dX7_write_54 : decode cX7_write 54 = .ok (.iastore, 1) := by decide +kernel
theorem dX7_write_55 : decode cX7_write 55 = .ok (.aload_n 0, 1) := by decide +kernel
theorem dX7_write_56 : decode cX7_write 56 = .ok (.getfield 7, 3) := by decide +kernel
theorem dX7_write_59 : decode cX7_write 59 = .ok (.bipush 87, 2) := by decide +kernel
theorem dX7_write_61 : decode cX7_write 61 = .ok (.iload_n 2, 1) := by decide +kernel
theorem dX7_write_62 : decode cX7_write 62 = .ok (.iastore, 1) := by decide +kernel
theorem dX7_write_63 : decode cX7_write 63 = .ok (.aload_n 0, 1) := by decide +kernel
theorem dX7_write_64 : decode cX7_write 64 = .ok (.getfield 7, 3) := by decide +kernel
theorem dX7_write_67 : decode cX7_write 67 = .ok (.bipush 84, 2) := by decide +kernel
theorem dX7_write_69 : decode cX7_write 69 = .ok (.aload_n 0, 1) := by decide +kernel
theorem dX7_write_70 : decode cX7_write 70 = .ok (.getfield 7, 3) := by decide +kernel
theorem dX7_write_73 : decode cX7_write 73 = .ok (.bipush 84, 2) := by decide +kernel
theorem dX7_write_75 : decode cX7_write 75 = .ok (.iaload, 1) := by decide +kernel
theorem dX7_write_76 : decode cX7_write 76 = .ok (.bipush 8, 2) := by decide +kernel
theorem dX7_write_78 : decode cX7_write 78 = .ok (.if_icmp .ge 15, 3) := by decide +kernel
theorem dX7_write_81 : decode cX7_write 81 = .ok (.aload_n 0, 1) := by decide +kernel
theorem dX7_write_82 : decode cX7_write 82 = .ok (.getfield 7, 3) := by decide +kernel
theorem dX7_write_85 : decode cX7_write 85 = .ok (.bipush 84, 2) := by decide +kernel
theorem dX7_write_87 : decode cX7_write 87 = .ok (.iaload, 1) := by decide +kernel
theorem dX7_write_88 : decode cX7_write 88 = .ok (.iconst 1, 1) := by decide +kernel
theorem dX7_write_89 : decode cX7_write 89 = .ok (.iadd, 1) := by decide +kernel
theorem dX7_write_90 : decode cX7_write 90 = .ok (.goto 5, 3) := by decide +kernel
theorem dX7_write_93 : decode cX7_write 93 = .ok (.bipush 8, 2) := by decide +kernel
theorem dX7_write_95 : decode cX7_write 95 = .ok (.iastore, 1) := by decide +kernel
theorem dX7_write_96 : decode cX7_write 96 = .ok (.return_, 1) := by decide +kernel
theorem dX7_side_0 : decode cX7_side 0 = .ok (.iload_n 0, 1) := by decide +kernel
theorem dX7_side_1 : decode cX7_side 1 = .ok (.ifCond .eq 7, 3) := by decide +kernel
theorem dX7_side_4 : decode cX7_side 4 = .ok (.iconst 1, 1) := by decide +kernel
theorem dX7_side_5 : decode cX7_side 5 = .ok (.goto 4, 3) := by decide +kernel
theorem dX7_side_8 : decode cX7_side 8 = .ok (.iconst 2, 1) := by decide +kernel
theorem dX7_side_9 : decode cX7_side 9 = .ok (.ireturn, 1) := by decide +kernel
set_option maxRecDepth 20000 in
theorem ggX7_canLight_X7_leftOf : GoodIn wsX7_canLight wsX7_leftOf := goodIn_r _ [5, 6, 7, 8, 4, 9, 10, 11, 12, 13, 14, 15, 16, 17, 18, 22, 23, 24, 25, 26, 27, 28, 29, 30, 31, 32, 33, 34, 35, 36, 37, 38, 39, 40, 41, 42, 43] (by decide +kernel) (by decide +kernel)
set_option maxRecDepth 20000 in
theorem gX7_canLight_X7_leftOf : GoodIn wsX7_canLight (wsV RX7 84 RX7 yX7_leftOf wsX7_leftOf) := goodIn_app (goodIn_of _ (by decide +kernel)) ggX7_canLight_X7_leftOf
set_option maxRecDepth 20000 in
theorem ggX7_canLight_X7_of : GoodIn wsX7_canLight wsX7_of := goodIn_r _ [13, 14, 22, 23, 24, 25, 26, 27, 28, 29, 30, 31, 32, 33, 34, 35, 36, 37, 38, 39, 40, 41, 42, 43] (by decide +kernel) (by decide +kernel)
set_option maxRecDepth 20000 in
theorem gX7_canLight_X7_of : GoodIn wsX7_canLight (wsV RX7 71 RX7 yX7_of wsX7_of) := goodIn_app (goodIn_of _ (by decide +kernel)) ggX7_canLight_X7_of
set_option maxRecDepth 20000 in
theorem ggX7_canLight_X7_side : GoodIn wsX7_canLight wsX7_side := goodIn_r _ [21] (by decide +kernel) (by decide +kernel)
set_option maxRecDepth 20000 in
theorem gX7_canLight_X7_side : GoodIn wsX7_canLight (va_wsS RX7 87 yX7_side wsX7_side) := goodIn_app (goodIn_of _ (by decide +kernel)) ggX7_canLight_X7_side
theorem dX7_canLight_0 : decode cX7_canLight 0 = .ok (.aload_n 0, 1) := by decide +kernel
theorem dX7_canLight_1 : decode cX7_canLight 1 = .ok (.iload_n 1, 1) := by decide +kernel
theorem dX7_canLight_2 : decode cX7_canLight 2 = .ok (.invokevirtual 84, 3) := by decide +kernel
theorem dX7_canLight_5 : decode cX7_canLight 5 = .ok (.ifCond .le 22, 3) := by decide +kernel
theorem dX7_canLight_8 : decode cX7_canLight 8 = .ok (.aload_n 0, 1) := by decide +kernel
theorem dX7_canLight_9 : decode cX7_canLight 9 = .ok (.iload_n 1, 1) := by decide +kernel
theorem dX7_canLight_10 : decode cX7_canLight 10 = .ok (.bipush 9, 2) := by decide +kernel
theorem dX7_canLight_12 : decode cX7_canLight 12 = .ok (.invokevirtual 71, 3) := by decide +kernel
theorem dX7_canLight_15 : decode cX7_canLight 15 = .ok (.iload_n 2, 1) := by decide +kernel
theorem dX7_canLight_16 : decode cX7_canLight 16 = .ok (.invokestatic 87, 3) := by decide +kernel
theorem dX7_canLight_19 : decode cX7_canLight 19 = .ok (.iand, 1) := by decide +kernel
theorem dX7_canLight_20 : decode cX7_canLight 20 = .ok (.ifCond .ne 7, 3) := by decide +kernel
theorem dX7_canLight_23 : decode cX7_canLight 23 = .ok (.iconst 1, 1) := by decide +kernel
theorem dX7_canLight_24 : decode cX7_canLight 24 = .ok (.goto 4, 3) := by decide +kernel
theorem dX7_canLight_27 : decode cX7_canLight 27 = .ok (.iconst 0, 1) := by decide +kernel
theorem dX7_canLight_28 : decode cX7_canLight 28 = .ok (.ireturn, 1) := by decide +kernel
set_option maxRecDepth 20000 in
theorem ggX7_lightNow_X7_of : GoodIn wsX7_lightNow wsX7_of := goodIn_r _ [6, 1, 18, 19, 20, 21, 22, 23, 24, 25, 26, 27, 28, 29, 30, 31, 32, 33, 34, 35, 36, 37, 38, 39] (by decide +kernel) (by decide +kernel)
set_option maxRecDepth 20000 in
theorem gX7_lightNow_X7_of : GoodIn wsX7_lightNow (wsV RX7 71 RX7 yX7_of wsX7_of) := goodIn_app (goodIn_of _ (by decide +kernel)) ggX7_lightNow_X7_of
set_option maxRecDepth 20000 in
theorem ggX7_lightNow_X7_side : GoodIn wsX7_lightNow wsX7_side := goodIn_r _ [9] (by decide +kernel) (by decide +kernel)
set_option maxRecDepth 20000 in
theorem gX7_lightNow_X7_side : GoodIn wsX7_lightNow (va_wsS RX7 87 yX7_side wsX7_side) := goodIn_app (goodIn_of _ (by decide +kernel)) ggX7_lightNow_X7_side
set_option maxRecDepth 20000 in
theorem ggX7_lightNow_X7_put : GoodIn wsX7_lightNow wsX7_put := goodIn_r _ [13, 1, 18, 19, 20, 21, 22, 23, 24, 25, 26, 27, 28, 29, 30, 31, 32, 33, 34, 35, 36, 37, 38, 39] (by decide +kernel) (by decide +kernel)
set_option maxRecDepth 20000 in
theorem gX7_lightNow_X7_put : GoodIn wsX7_lightNow (wsV RX7 91 RX7 yX7_put wsX7_put) := goodIn_app (goodIn_of _ (by decide +kernel)) ggX7_lightNow_X7_put
set_option maxRecDepth 20000 in
theorem ggX7_lightNow_X7_write : GoodIn wsX7_lightNow wsX7_write := goodIn_r _ [17, 1, 18, 19, 20, 21, 22, 23, 24, 25, 26, 27, 28, 29, 30, 31, 32, 33, 34, 35, 36, 37, 38, 39] (by decide +kernel) (by decide +kernel)
set_option maxRecDepth 20000 in
theorem gX7_lightNow_X7_write : GoodIn wsX7_lightNow (wsV RX7 95 RX7 yX7_write wsX7_write) := goodIn_app (goodIn_of _ (by decide +kernel)) ggX7_lightNow_X7_write
theorem dX7_lightNow_0 : decode cX7_lightNow 0 = .ok (.aload_n 0, 1) := by decide +kernel
theorem dX7_lightNow_1 : decode cX7_lightNow 1 = .ok (.iload_n 1, 1) := by decide +kernel
theorem dX7_lightNow_2 : decode cX7_lightNow 2 = .ok (.bipush 9, 2) := by decide +kernel
theorem dX7_lightNow_4 : decode cX7_lightNow 4 = .ok (.aload_n 0, 1) := by decide +kernel
theorem dX7_lightNow_5 : decode cX7_lightNow 5 = .ok (.iload_n 1, 1) := by decide +kernel
theorem dX7_lightNow_6 : decode cX7_lightNow 6 = .ok (.bipush 9, 2) := by decide +kernel
theorem dX7_lightNow_8 : decode cX7_lightNow 8 = .ok (.invokevirtual 71, 3) := by decide +kernel
theorem dX7_lightNow_11 : decode cX7_lightNow 11 = .ok (.iload_n 2, 1) := by decide +kernel
theorem dX7_lightNow_12 : decode cX7_lightNow 12 = .ok (.invokestatic 87, 3) := by decide +kernel
theorem dX7_lightNow_15 : decode cX7_lightNow 15 = .ok (.ior, 1) := by decide +kernel
theorem dX7_lightNow_16 : decode cX7_lightNow 16 = .ok (.invokevirtual 91, 3) := by decide +kernel
theorem dX7_lightNow_19 : decode cX7_lightNow 19 = .ok (.aload_n 0, 1) := by decide +kernel
theorem dX7_lightNow_20 : decode cX7_lightNow 20 = .ok (.getfield 7, 3) := by decide +kernel
theorem dX7_lightNow_23 : decode cX7_lightNow 23 = .ok (.iconst 2, 1) := by decide +kernel
theorem dX7_lightNow_24 : decode cX7_lightNow 24 = .ok (.dup2, 1) := by decide +kernel
theorem dX7_lightNow_25 : decode cX7_lightNow 25 = .ok (.iaload, 1) := by decide +kernel
theorem dX7_lightNow_26 : decode cX7_lightNow 26 = .ok (.iconst 1, 1) := by decide +kernel
theorem dX7_lightNow_27 : decode cX7_lightNow 27 = .ok (.iadd, 1) := by decide +kernel
theorem dX7_lightNow_28 : decode cX7_lightNow 28 = .ok (.iastore, 1) := by decide +kernel
theorem dX7_lightNow_29 : decode cX7_lightNow 29 = .ok (.aload_n 0, 1) := by decide +kernel
theorem dX7_lightNow_30 : decode cX7_lightNow 30 = .ok (.iload_n 2, 1) := by decide +kernel
theorem dX7_lightNow_31 : decode cX7_lightNow 31 = .ok (.ifCond .eq 7, 3) := by decide +kernel
theorem dX7_lightNow_34 : decode cX7_lightNow 34 = .ok (.iconst 0, 1) := by decide +kernel
theorem dX7_lightNow_35 : decode cX7_lightNow 35 = .ok (.goto 4, 3) := by decide +kernel
theorem dX7_lightNow_38 : decode cX7_lightNow 38 = .ok (.iconst 1, 1) := by decide +kernel
theorem dX7_lightNow_39 : decode cX7_lightNow 39 = .ok (.iload_n 1, 1) := by decide +kernel
theorem dX7_lightNow_40 : decode cX7_lightNow 40 = .ok (.invokevirtual 95, 3) := by decide +kernel
theorem dX7_lightNow_43 : decode cX7_lightNow 43 = .ok (.return_, 1) := by decide +kernel
set_option maxRecDepth 20000 in
theorem ggX7_burns_X7_of : GoodIn wsX7_burns wsX7_of := goodIn_r _ [5, 6, 23, 24, 25, 26, 27, 28, 29, 30, 31, 32, 33, 34, 35, 36, 37, 38, 39, 40, 41, 42, 43, 44] (by decide +kernel) (by decide +kernel)
set_option maxRecDepth 20000 in
theorem gX7_burns_X7_of : GoodIn wsX7_burns (wsV RX7 71 RX7 yX7_of wsX7_of) := goodIn_app (goodIn_of _ (by decide +kernel)) ggX7_burns_X7_of
set_option maxRecDepth 20000 in
theorem ggX7_burns_X7_put : GoodIn wsX7_burns wsX7_put := goodIn_r _ [10, 6, 23, 24, 25, 26, 27, 28, 29, 30, 31, 32, 33, 34, 35, 36, 37, 38, 39, 40, 41, 42, 43, 44] (by decide +kernel) (by decide +kernel)
set_option maxRecDepth 20000 in
theorem gX7_burns_X7_put : GoodIn wsX7_burns (wsV RX7 91 RX7 yX7_put wsX7_put) := goodIn_app (goodIn_of _ (by decide +kernel)) ggX7_burns_X7_put
set_option maxRecDepth 20000 in
theorem ggX7_burns_X7_leftOf : GoodIn wsX7_burns wsX7_leftOf := goodIn_r _ [14, 15, 16, 17, 4, 18, 1, 2, 3, 5, 6, 19, 20, 21, 22, 23, 24, 25, 26, 27, 28, 29, 30, 31, 32, 33, 34, 35, 36, 37, 38, 39, 40, 41, 42, 43, 44] (by decide +kernel) (by decide +kernel)
set_option maxRecDepth 20000 in
theorem gX7_burns_X7_leftOf : GoodIn wsX7_burns (wsV RX7 84 RX7 yX7_leftOf wsX7_leftOf) := goodIn_app (goodIn_of _ (by decide +kernel)) ggX7_burns_X7_leftOf
theorem dX7_burns_0 : decode cX7_burns 0 = .ok (.aload_n 0, 1) := by decide +kernel
theorem dX7_burns_1 : decode cX7_burns 1 = .ok (.iload_n 1, 1) := by decide +kernel
theorem dX7_burns_2 : decode cX7_burns 2 = .ok (.bipush 9, 2) := by decide +kernel
theorem dX7_burns_4 : decode cX7_burns 4 = .ok (.invokevirtual 71, 3) := by decide +kernel
theorem dX7_burns_7 : decode cX7_burns 7 = .ok (.istore_n 2, 1) := by decide +kernel
theorem dX7_burns_8 : decode cX7_burns 8 = .ok (.iload_n 2, 1) := by decide +kernel
theorem dX7_burns_9 : decode cX7_burns 9 = .ok (.iconst 1, 1) := by decide +kernel
theorem dX7_burns_10 : decode cX7_burns 10 = .ok (.iand, 1) := by decide +kernel
theorem dX7_burns_11 : decode cX7_burns 11 = .ok (.iconst 1, 1) := by decide +kernel
theorem dX7_burns_12 : decode cX7_burns 12 = .ok (.if_icmp .ne 19, 3) := by decide +kernel
theorem dX7_burns_15 : decode cX7_burns 15 = .ok (.aload_n 0, 1) := by decide +kernel
theorem dX7_burns_16 : decode cX7_burns 16 = .ok (.iload_n 1, 1) := by decide +kernel
theorem dX7_burns_17 : decode cX7_burns 17 = .ok (.bipush 7, 2) := by decide +kernel
theorem dX7_burns_19 : decode cX7_burns 19 = .ok (.aload_n 0, 1) := by decide +kernel
theorem dX7_burns_20 : decode cX7_burns 20 = .ok (.iload_n 1, 1) := by decide +kernel
theorem dX7_burns_21 : decode cX7_burns 21 = .ok (.bipush 7, 2) := by decide +kernel
theorem dX7_burns_23 : decode cX7_burns 23 = .ok (.invokevirtual 71, 3) := by decide +kernel
theorem dX7_burns_26 : decode cX7_burns 26 = .ok (.iconst 1, 1) := by decide +kernel
theorem dX7_burns_27 : decode cX7_burns 27 = .ok (.iadd, 1) := by decide +kernel
theorem dX7_burns_28 : decode cX7_burns 28 = .ok (.invokevirtual 91, 3) := by decide +kernel
theorem dX7_burns_31 : decode cX7_burns 31 = .ok (.iload_n 2, 1) := by decide +kernel
theorem dX7_burns_32 : decode cX7_burns 32 = .ok (.iconst 2, 1) := by decide +kernel
theorem dX7_burns_33 : decode cX7_burns 33 = .ok (.iand, 1) := by decide +kernel
theorem dX7_burns_34 : decode cX7_burns 34 = .ok (.iconst 2, 1) := by decide +kernel
theorem dX7_burns_35 : decode cX7_burns 35 = .ok (.if_icmp .ne 27, 3) := by decide +kernel
theorem dX7_burns_38 : decode cX7_burns 38 = .ok (.aload_n 0, 1) := by decide +kernel
theorem dX7_burns_39 : decode cX7_burns 39 = .ok (.iload_n 1, 1) := by decide +kernel
theorem dX7_burns_40 : decode cX7_burns 40 = .ok (.invokevirtual 84, 3) := by decide +kernel
theorem dX7_burns_43 : decode cX7_burns 43 = .ok (.ifCond .le 19, 3) := by decide +kernel
theorem dX7_burns_46 : decode cX7_burns 46 = .ok (.aload_n 0, 1) := by decide +kernel
theorem dX7_burns_47 : decode cX7_burns 47 = .ok (.iload_n 1, 1) := by decide +kernel
theorem dX7_burns_48 : decode cX7_burns 48 = .ok (.bipush 8, 2) := by decide +kernel
theorem dX7_burns_50 : decode cX7_burns 50 = .ok (.aload_n 0, 1) := by decide +kernel
theorem dX7_burns_51 : decode cX7_burns 51 = .ok (.iload_n 1, 1) := by decide +kernel
theorem dX7_burns_52 : decode cX7_burns 52 = .ok (.bipush 8, 2) := by decide +kernel
theorem dX7_burns_54 : decode cX7_burns 54 = .ok (.invokevirtual 71, 3) := by decide +kernel
theorem dX7_burns_57 : decode cX7_burns 57 = .ok (.iconst 1, 1) := by decide +kernel
theorem dX7_burns_58 : decode cX7_burns 58 = .ok (.iadd, 1) := by decide +kernel
theorem dX7_burns_59 : decode cX7_burns 59 = .ok (.invokevirtual 91, 3) := by decide +kernel
theorem dX7_burns_62 : decode cX7_burns 62 = .ok (.iload_n 2, 1) := by decide +kernel
theorem dX7_burns_63 : decode cX7_burns 63 = .ok (.ifCond .eq 15, 3) := by decide +kernel
theorem dX7_burns_66 : decode cX7_burns 66 = .ok (.aload_n 0, 1) := by decide +kernel
theorem dX7_burns_67 : decode cX7_burns 67 = .ok (.iload_n 1, 1) := by decide +kernel
theorem dX7_burns_68 : decode cX7_burns 68 = .ok (.invokevirtual 84, 3) := by decide +kernel
theorem dX7_burns_71 : decode cX7_burns 71 = .ok (.ifCond .ne 7, 3) := by decide +kernel
theorem dX7_burns_74 : decode cX7_burns 74 = .ok (.iconst 1, 1) := by decide +kernel
theorem dX7_burns_75 : decode cX7_burns 75 = .ok (.goto 4, 3) := by decide +kernel
theorem dX7_burns_78 : decode cX7_burns 78 = .ok (.iconst 0, 1) := by decide +kernel
theorem dX7_burns_79 : decode cX7_burns 79 = .ok (.ireturn, 1) := by decide +kernel
set_option maxRecDepth 20000 in
theorem ggX7_signal_X7_put : GoodIn wsX7_signal wsX7_put := goodIn_r _ [6, 1, 38, 39, 40, 41, 42, 43, 44, 45, 46, 47, 48, 49, 50, 51, 52, 53, 54, 55, 56, 57, 58, 59] (by decide +kernel) (by decide +kernel)
set_option maxRecDepth 20000 in
theorem gX7_signal_X7_put : GoodIn wsX7_signal (wsV RX7 91 RX7 yX7_put wsX7_put) := goodIn_app (goodIn_of _ (by decide +kernel)) ggX7_signal_X7_put
set_option maxRecDepth 20000 in
theorem ggX7_signal_X7_write : GoodIn wsX7_signal wsX7_write := goodIn_r _ [10, 1, 38, 39, 40, 41, 42, 43, 44, 45, 46, 47, 48, 49, 50, 51, 52, 53, 54, 55, 56, 57, 58, 59] (by decide +kernel) (by decide +kernel)
set_option maxRecDepth 20000 in
theorem gX7_signal_X7_write : GoodIn wsX7_signal (wsV RX7 95 RX7 yX7_write wsX7_write) := goodIn_app (goodIn_of _ (by decide +kernel)) ggX7_signal_X7_write
set_option maxRecDepth 20000 in
theorem ggX7_signal_X7_canLight : GoodIn wsX7_signal wsX7_canLight := goodIn_r _ [14, 15, 16, 17, 5, 18, 19, 20, 21, 22, 23, 24, 25, 26, 1, 27, 28, 29, 30, 31, 32, 33, 38, 39, 40, 41, 42, 43, 44, 45, 46, 47, 48, 49, 50, 51, 52, 53, 54, 55, 56, 57, 58, 59] (by decide +kernel) (by decide +kernel)
set_option maxRecDepth 20000 in
theorem gX7_signal_X7_canLight : GoodIn wsX7_signal (wsV RX7 99 RX7 yX7_canLight wsX7_canLight) := goodIn_app (goodIn_of _ (by decide +kernel)) ggX7_signal_X7_canLight
set_option maxRecDepth 20000 in
theorem ggX7_signal_X7_lightNow : GoodIn wsX7_signal wsX7_lightNow := goodIn_r _ [37, 1, 23, 24, 25, 5, 26, 31, 32, 33, 2, 3, 4, 6, 7, 8, 9, 10, 38, 39, 40, 41, 42, 43, 44, 45, 46, 47, 48, 49, 50, 51, 52, 53, 54, 55, 56, 57, 58, 59] (by decide +kernel) (by decide +kernel)
set_option maxRecDepth 20000 in
theorem gX7_signal_X7_lightNow : GoodIn wsX7_signal (wsV RX7 103 RX7 yX7_lightNow wsX7_lightNow) := goodIn_app (goodIn_of _ (by decide +kernel)) ggX7_signal_X7_lightNow
theorem dX7_signal_0 : decode cX7_signal 0 = .ok (.aload_n 0, 1) := by decide +kernel
theorem dX7_signal_1 : decode cX7_signal 1 = .ok (.getfield 7, 3) := by decide +kernel
theorem dX7_signal_4 : decode cX7_signal 4 = .ok (.iconst 1, 1) := by decide +kernel
theorem dX7_signal_5 : decode cX7_signal 5 = .ok (.dup2, 1) := by decide +kernel
theorem dX7_signal_6 : decode cX7_signal 6 = .ok (.iaload, 1) := by decide +kernel
theorem dX7_signal_7 : decode cX7_signal 7 = .ok (.iconst 1, 1) := by decide +kernel
theorem dX7_signal_8 : decode cX7_signal 8 = .ok (.iadd, 1) := by decide +kernel
theorem dX7_signal_9 : decode cX7_signal 9 = .ok (.iastore, 1) := by decide +kernel
theorem dX7_signal_10 : decode cX7_signal 10 = .ok (.aload_n 0, 1) := by decide +kernel
theorem dX7_signal_11 : decode cX7_signal 11 = .ok (.iload_n 1, 1) := by decide +kernel
theorem dX7_signal_12 : decode cX7_signal 12 = .ok (.bipush 10, 2) := by decide +kernel
theorem dX7_signal_14 : decode cX7_signal 14 = .ok (.aload_n 0, 1) := by decide +kernel
theorem dX7_signal_15 : decode cX7_signal 15 = .ok (.getfield 7, 3) := by decide +kernel
theorem dX7_signal_18 : decode cX7_signal 18 = .ok (.iconst 0, 1) := by decide +kernel
theorem dX7_signal_19 : decode cX7_signal 19 = .ok (.iaload, 1) := by decide +kernel
theorem dX7_signal_20 : decode cX7_signal 20 = .ok (.invokevirtual 91, 3) := by decide +kernel
theorem dX7_signal_23 : decode cX7_signal 23 = .ok (.aload_n 0, 1) := by decide +kernel
theorem dX7_signal_24 : decode cX7_signal 24 = .ok (.iconst 2, 1) := by decide +kernel
theorem dX7_signal_25 : decode cX7_signal 25 = .ok (.iload_n 1, 1) := by decide +kernel
theorem dX7_signal_26 : decode cX7_signal 26 = .ok (.invokevirtual 95, 3) := by decide +kernel
theorem dX7_signal_29 : decode cX7_signal 29 = .ok (.iconst 0, 1) := by decide +kernel
theorem dX7_signal_30 : decode cX7_signal 30 = .ok (.istore_n 2, 1) := by decide +kernel
theorem dX7_signal_31 : decode cX7_signal 31 = .ok (.iload_n 2, 1) := by decide +kernel
theorem dX7_signal_32 : decode cX7_signal 32 = .ok (.aload_n 0, 1) := by decide +kernel
theorem dX7_signal_33 : decode cX7_signal 33 = .ok (.getfield 7, 3) := by decide +kernel
theorem dX7_signal_36 : decode cX7_signal 36 = .ok (.bipush 51, 2) := by decide +kernel
theorem dX7_signal_38 : decode cX7_signal 38 = .ok (.iaload, 1) := by decide +kernel
theorem dX7_signal_39 : decode cX7_signal 39 = .ok (.if_icmp .ge 99, 3) := by decide +kernel
theorem dX7_signal_42 : decode cX7_signal 42 = .ok (.bipush 52, 2) := by decide +kernel
theorem dX7_signal_44 : decode cX7_signal 44 = .ok (.iconst 4, 1) := by decide +kernel
theorem dX7_signal_45 : decode cX7_signal 45 = .ok (.iload_n 2, 1) := by decide +kernel
theorem dX7_signal_46 : decode cX7_signal 46 = .ok (.imul, 1) := by decide +kernel
theorem dX7_signal_47 : decode cX7_signal 47 = .ok (.iadd, 1) := by decide +kernel
theorem dX7_signal_48 : decode cX7_signal 48 = .ok (.istore_n 3, 1) := by decide +kernel
theorem dX7_signal_49 : decode cX7_signal 49 = .ok (.aload_n 0, 1) := by decide +kernel
theorem dX7_signal_50 : decode cX7_signal 50 = .ok (.getfield 7, 3) := by decide +kernel
theorem dX7_signal_53 : decode cX7_signal 53 = .ok (.iload_n 3, 1) := by decide +kernel
theorem dX7_signal_54 : decode cX7_signal 54 = .ok (.iaload, 1) := by decide +kernel
theorem dX7_signal_55 : decode cX7_signal 55 = .ok (.iload_n 1, 1) := by decide +kernel
theorem dX7_signal_56 : decode cX7_signal 56 = .ok (.if_icmp .ne 76, 3) := by decide +kernel
theorem dX7_signal_59 : decode cX7_signal 59 = .ok (.aload_n 0, 1) := by decide +kernel
theorem dX7_signal_60 : decode cX7_signal 60 = .ok (.aload_n 0, 1) := by decide +kernel
theorem dX7_signal_61 : decode cX7_signal 61 = .ok (.getfield 7, 3) := by decide +kernel
theorem dX7_signal_64 : decode cX7_signal 64 = .ok (.iload_n 3, 1) := by decide +kernel
theorem dX7_signal_65 : decode cX7_signal 65 = .ok (.iconst 1, 1) := by decide +kernel
theorem dX7_signal_66 : decode cX7_signal 66 = .ok (.iadd, 1) := by decide +kernel
theorem dX7_signal_67 : decode cX7_signal 67 = .ok (.iaload, 1) := by decide +kernel
theorem dX7_signal_68 : decode cX7_signal 68 = .ok (.aload_n 0, 1) := by decide +kernel
theorem dX7_signal_69 : decode cX7_signal 69 = .ok (.getfield 7, 3) := by decide +kernel
theorem dX7_signal_72 : decode cX7_signal 72 = .ok (.iload_n 3, 1) := by decide +kernel
theorem dX7_signal_73 : decode cX7_signal 73 = .ok (.iconst 2, 1) := by decide +kernel
theorem dX7_signal_74 : decode cX7_signal 74 = .ok (.iadd, 1) := by decide +kernel
theorem dX7_signal_75 : decode cX7_signal 75 = .ok (.iaload, 1) := by decide +kernel
theorem dX7_signal_76 : decode cX7_signal 76 = .ok (.iconst 1, 1) := by decide +kernel
theorem dX7_signal_77 : decode cX7_signal 77 = .ok (.if_icmp .ne 7, 3) := by decide +kernel
theorem dX7_signal_80 : decode cX7_signal 80 = .ok (.iconst 1, 1) := by decide +kernel
theorem dX7_signal_81 : decode cX7_signal 81 = .ok (.goto 4, 3) := by decide +kernel
theorem dX7_signal_84 : decode cX7_signal 84 = .ok (.iconst 0, 1) := by decide +kernel
theorem dX7_signal_85 : decode cX7_signal 85 = .ok (.invokevirtual 99, 3) := by decide +kernel
theorem dX7_signal_88 : decode cX7_signal 88 = .ok (.ifCond .eq 44, 3) := by decide +kernel
theorem dX7_signal_91 : decode cX7_signal 91 = .ok (.aload_n 0, 1) := by decide +kernel
theorem dX7_signal_92 : decode cX7_signal 92 = .ok (.aload_n 0, 1) := by decide +kernel
theorem dX7_signal_93 : decode cX7_signal 93 = .ok (.getfield 7, 3) := by decide +kernel
theorem dX7_signal_96 : decode cX7_signal 96 = .ok (.iload_n 3, 1) := by decide +kernel
theorem dX7_signal_97 : decode cX7_signal 97 = .ok (.iconst 1, 1) := by decide +kernel
theorem dX7_signal_98 : decode cX7_signal 98 = .ok (.iadd, 1) := by decide +kernel
theorem dX7_signal_99 : decode cX7_signal 99 = .ok (.iaload, 1) := by decide +kernel
theorem dX7_signal_100 : decode cX7_signal 100 = .ok (.aload_n 0, 1) := by decide +kernel
theorem dX7_signal_101 : decode cX7_signal 101 = .ok (.getfield 7, 3) := by decide +kernel
theorem dX7_signal_104 : decode cX7_signal 104 = .ok (.iload_n 3, 1) := by decide +kernel
theorem dX7_signal_105 : decode cX7_signal 105 = .ok (.iconst 2, 1) := by decide +kernel
theorem dX7_signal_106 : decode cX7_signal 106 = .ok (.iadd, 1) := by decide +kernel
theorem dX7_signal_107 : decode cX7_signal 107 = .ok (.iaload, 1) := by decide +kernel
theorem dX7_signal_108 : decode cX7_signal 108 = .ok (.iconst 1, 1) := by decide +kernel
theorem dX7_signal_109 : decode cX7_signal 109 = .ok (.if_icmp .ne 7, 3) := by decide +kernel
theorem dX7_signal_112 : decode cX7_signal 112 = .ok (.iconst 1, 1) := by decide +kernel
theorem dX7_signal_113 : decode cX7_signal 113 = .ok (.goto 4, 3) := by decide +kernel
theorem dX7_signal_116 : decode cX7_signal 116 = .ok (.iconst 0, 1) := by decide +kernel
theorem dX7_signal_117 : decode cX7_signal 117 = .ok (.invokevirtual 103, 3) := by decide +kernel
theorem dX7_signal_120 : decode cX7_signal 120 = .ok (.aload_n 0, 1) := by decide +kernel
theorem dX7_signal_121 : decode cX7_signal 121 = .ok (.getfield 7, 3) := by decide +kernel
theorem dX7_signal_124 : decode cX7_signal 124 = .ok (.iload_n 3, 1) := by decide +kernel
theorem dX7_signal_125 : decode cX7_signal 125 = .ok (.iconst 3, 1) := by decide +kernel
theorem dX7_signal_126 : decode cX7_signal 126 = .ok (.iadd, 1) := by decide +kernel
theorem dX7_signal_127 : decode cX7_signal 127 = .ok (.dup2, 1) := by decide +kernel
theorem dX7_signal_128 : decode cX7_signal 128 = .ok (.iaload, 1) := by decide +kernel
theorem dX7_signal_129 : decode cX7_signal 129 = .ok (.iconst 1, 1) := by decide +kernel
theorem dX7_signal_130 : decode cX7_signal 130 = .ok (.iadd, 1) := by decide +kernel
theorem dX7_signal_131 : decode cX7_signal 131 = .ok (.iastore, 1) := by decide +kernel
theorem dX7_signal_132 : decode cX7_signal 132 = .ok (.iinc 2 1, 3) := by decide +kernel
theorem dX7_signal_135 : decode cX7_signal 135 = .ok (.goto (-104), 3) := by decide +kernel
theorem dX7_signal_138 : decode cX7_signal 138 = .ok (.return_, 1) := by decide +kernel
set_option maxRecDepth 20000 in
theorem ggX7_step_X7_flames : GoodIn wsX7_step wsX7_flames := goodIn_r _ [6, 1, 7, 8, 9, 5, 10, 11, 12, 13, 14, 54, 55, 56, 57, 58, 59, 60, 61, 62, 63, 64, 65, 66, 67, 68, 69, 70, 71, 72, 73, 74, 75] (by decide +kernel) (by decide +kernel)
set_option maxRecDepth 20000 in
theorem gX7_step_X7_flames : GoodIn wsX7_step (wsV RX7 107 RX7 yX7_flames wsX7_flames) := goodIn_app (goodIn_of _ (by decide +kernel)) ggX7_step_X7_flames
set_option maxRecDepth 20000 in
theorem ggX7_step_X7_burns : GoodIn wsX7_step wsX7_burns := goodIn_r _ [18, 11, 12, 13, 5, 14, 1, 19, 20, 21, 22, 23, 24, 25, 26, 27, 28, 29, 30, 31, 32, 33, 34, 54, 55, 56, 57, 58, 59, 60, 61, 62, 63, 64, 65, 66, 67, 68, 69, 70, 71, 72, 73, 74, 75] (by decide +kernel) (by decide +kernel)
set_option maxRecDepth 20000 in
theorem gX7_step_X7_burns : GoodIn wsX7_step (wsV RX7 111 RX7 yX7_burns wsX7_burns) := goodIn_app (goodIn_of _ (by decide +kernel)) ggX7_step_X7_burns
set_option maxRecDepth 20000 in
theorem ggX7_step_X7_put : GoodIn wsX7_step wsX7_put := goodIn_r _ [22, 1, 54, 55, 56, 57, 58, 59, 60, 61, 62, 63, 64, 65, 66, 67, 68, 69, 70, 71, 72, 73, 74, 75] (by decide +kernel) (by decide +kernel)
set_option maxRecDepth 20000 in
theorem gX7_step_X7_put : GoodIn wsX7_step (wsV RX7 91 RX7 yX7_put wsX7_put) := goodIn_app (goodIn_of _ (by decide +kernel)) ggX7_step_X7_put
set_option maxRecDepth 20000 in
theorem ggX7_step_X7_signal : GoodIn wsX7_step wsX7_signal := goodIn_r _ [38, 1, 19, 20, 21, 5, 22, 39, 40, 41, 42, 43, 44, 45, 46, 23, 24, 25, 26, 27, 28, 29, 30, 11, 12, 13, 14, 31, 32, 33, 34, 47, 48, 49, 50, 51, 52, 53, 54, 55, 56, 57, 58, 59, 60, 61, 62, 63, 64, 65, 66, 67, 68, 69, 70, 71, 72, 73, 74, 75] (by decide +kernel) (by decide +kernel)
set_option maxRecDepth 20000 in
theorem gX7_step_X7_signal : GoodIn wsX7_step (wsV RX7 115 RX7 yX7_signal wsX7_signal) := goodIn_app (goodIn_of _ (by decide +kernel)) ggX7_step_X7_signal
theorem dX7_step_0 : decode cX7_step 0 = .ok (.aload_n 0, 1) := by decide +kernel
theorem dX7_step_1 : decode cX7_step 1 = .ok (.invokevirtual 107, 3) := by decide +kernel
theorem dX7_step_4 : decode cX7_step 4 = .ok (.ifCond .le 7, 3) := by decide +kernel
theorem dX7_step_7 : decode cX7_step 7 = .ok (.iconst 1, 1) := by decide +kernel
theorem dX7_step_8 : decode cX7_step 8 = .ok (.goto 4, 3) := by decide +kernel
theorem dX7_step_11 : decode cX7_step 11 = .ok (.iconst 0, 1) := by decide +kernel
theorem dX7_step_12 : decode cX7_step 12 = .ok (.istore_n 1, 1) := by decide +kernel
theorem dX7_step_13 : decode cX7_step 13 = .ok (.aload_n 0, 1) := by decide +kernel
theorem dX7_step_14 : decode cX7_step 14 = .ok (.getfield 7, 3) := by decide +kernel
theorem dX7_step_17 : decode cX7_step 17 = .ok (.iconst 3, 1) := by decide +kernel
theorem dX7_step_18 : decode cX7_step 18 = .ok (.dup2, 1) := by decide +kernel
theorem dX7_step_19 : decode cX7_step 19 = .ok (.iaload, 1) := by decide +kernel
theorem dX7_step_20 : decode cX7_step 20 = .ok (.iload_n 1, 1) := by decide +kernel
theorem dX7_step_21 : decode cX7_step 21 = .ok (.ifCond .eq 7, 3) := by decide +kernel
theorem dX7_step_24 : decode cX7_step 24 = .ok (.iconst 1, 1) := by decide +kernel
theorem dX7_step_25 : decode cX7_step 25 = .ok (.goto 4, 3) := by decide +kernel
theorem dX7_step_28 : decode cX7_step 28 = .ok (.iconst 0, 1) := by decide +kernel
theorem dX7_step_29 : decode cX7_step 29 = .ok (.iadd, 1) := by decide +kernel
theorem dX7_step_30 : decode cX7_step 30 = .ok (.iastore, 1) := by decide +kernel
theorem dX7_step_31 : decode cX7_step 31 = .ok (.aload_n 0, 1) := by decide +kernel
theorem dX7_step_32 : decode cX7_step 32 = .ok (.getfield 7, 3) := by decide +kernel
theorem dX7_step_35 : decode cX7_step 35 = .ok (.iconst 4, 1) := by decide +kernel
theorem dX7_step_36 : decode cX7_step 36 = .ok (.iload_n 1, 1) := by decide +kernel
theorem dX7_step_37 : decode cX7_step 37 = .ok (.ifCond .eq 7, 3) := by decide +kernel
theorem dX7_step_40 : decode cX7_step 40 = .ok (.iconst 0, 1) := by decide +kernel
theorem dX7_step_41 : decode cX7_step 41 = .ok (.goto 11, 3) := by decide +kernel
theorem dX7_step_44 : decode cX7_step 44 = .ok (.aload_n 0, 1) := by decide +kernel
theorem dX7_step_45 : decode cX7_step 45 = .ok (.getfield 7, 3) := by decide +kernel
theorem dX7_step_48 : decode cX7_step 48 = .ok (.iconst 4, 1) := by decide +kernel
theorem dX7_step_49 : decode cX7_step 49 = .ok (.iaload, 1) := by decide +kernel
theorem dX7_step_50 : decode cX7_step 50 = .ok (.iconst 1, 1) := by decide +kernel
theorem dX7_step_51 : decode cX7_step 51 = .ok (.iadd, 1) := by decide +kernel
theorem dX7_step_52 : decode cX7_step 52 = .ok (.iastore, 1) := by decide +kernel
theorem dX7_step_53 : decode cX7_step 53 = .ok (.aload_n 0, 1) := by decide +kernel
theorem dX7_step_54 : decode cX7_step 54 = .ok (.getfield 7, 3) := by decide +kernel
theorem dX7_step_57 : decode cX7_step 57 = .ok (.iconst 5, 1) := by decide +kernel
theorem dX7_step_58 : decode cX7_step 58 = .ok (.aload_n 0, 1) := by decide +kernel
theorem dX7_step_59 : decode cX7_step 59 = .ok (.getfield 7, 3) := by decide +kernel
theorem dX7_step_62 : decode cX7_step 62 = .ok (.iconst 4, 1) := by decide +kernel
theorem dX7_step_63 : decode cX7_step 63 = .ok (.iaload, 1) := by decide +kernel
theorem dX7_step_64 : decode cX7_step 64 = .ok (.aload_n 0, 1) := by decide +kernel
theorem dX7_step_65 : decode cX7_step 65 = .ok (.getfield 7, 3) := by decide +kernel
theorem dX7_step_68 : decode cX7_step 68 = .ok (.iconst 5, 1) := by decide +kernel
theorem dX7_step_69 : decode cX7_step 69 = .ok (.iaload, 1) := by decide +kernel
theorem dX7_step_70 : decode cX7_step 70 = .ok (.if_icmp .le 12, 3) := by decide +kernel
theorem dX7_step_73 : decode cX7_step 73 = .ok (.aload_n 0, 1) := by decide +kernel
theorem dX7_step_74 : decode cX7_step 74 = .ok (.getfield 7, 3) := by decide +kernel
theorem dX7_step_77 : decode cX7_step 77 = .ok (.iconst 4, 1) := by decide +kernel
theorem dX7_step_78 : decode cX7_step 78 = .ok (.iaload, 1) := by decide +kernel
theorem dX7_step_79 : decode cX7_step 79 = .ok (.goto 9, 3) := by decide +kernel
theorem dX7_step_82 : decode cX7_step 82 = .ok (.aload_n 0, 1) := by decide +kernel
theorem dX7_step_83 : decode cX7_step 83 = .ok (.getfield 7, 3) := by decide +kernel
theorem dX7_step_86 : decode cX7_step 86 = .ok (.iconst 5, 1) := by decide +kernel
theorem dX7_step_87 : decode cX7_step 87 = .ok (.iaload, 1) := by decide +kernel
theorem dX7_step_88 : decode cX7_step 88 = .ok (.iastore, 1) := by decide +kernel
theorem dX7_step_89 : decode cX7_step 89 = .ok (.aload_n 0, 1) := by decide +kernel
theorem dX7_step_90 : decode cX7_step 90 = .ok (.getfield 7, 3) := by decide +kernel
theorem dX7_step_93 : decode cX7_step 93 = .ok (.iconst 0, 1) := by decide +kernel
theorem dX7_step_94 : decode cX7_step 94 = .ok (.dup2, 1) := by decide +kernel
theorem dX7_step_95 : decode cX7_step 95 = .ok (.iaload, 1) := by decide +kernel
theorem dX7_step_96 : decode cX7_step 96 = .ok (.iconst 1, 1) := by decide +kernel
theorem dX7_step_97 : decode cX7_step 97 = .ok (.iadd, 1) := by decide +kernel
theorem dX7_step_98 : decode cX7_step 98 = .ok (.iastore, 1) := by decide +kernel
theorem dX7_step_99 : decode cX7_step 99 = .ok (.iconst 0, 1) := by decide +kernel
theorem dX7_step_100 : decode cX7_step 100 = .ok (.istore_n 2, 1) := by decide +kernel
theorem dX7_step_101 : decode cX7_step 101 = .ok (.iconst 0, 1) := by decide +kernel
theorem dX7_step_102 : decode cX7_step 102 = .ok (.istore_n 3, 1) := by decide +kernel
theorem dX7_step_103 : decode cX7_step 103 = .ok (.iload_n 3, 1) := by decide +kernel
theorem dX7_step_104 : decode cX7_step 104 = .ok (.aload_n 0, 1) := by decide +kernel
theorem dX7_step_105 : decode cX7_step 105 = .ok (.getfield 7, 3) := by decide +kernel
theorem dX7_step_108 : decode cX7_step 108 = .ok (.bipush 6, 2) := by decide +kernel
theorem dX7_step_110 : decode cX7_step 110 = .ok (.iaload, 1) := by decide +kernel
theorem dX7_step_111 : decode cX7_step 111 = .ok (.if_icmp .ge 31, 3) := by decide +kernel
theorem dX7_step_114 : decode cX7_step 114 = .ok (.aload_n 0, 1) := by decide +kernel
theorem dX7_step_115 : decode cX7_step 115 = .ok (.iload_n 3, 1) := by decide +kernel
theorem dX7_step_116 : decode cX7_step 116 = .ok (.invokevirtual 111, 3) := by decide +kernel
theorem dX7_step_119 : decode cX7_step 119 = .ok (.ifCond .eq 17, 3) := by decide +kernel
theorem dX7_step_122 : decode cX7_step 122 = .ok (.aload_n 0, 1) := by decide +kernel
theorem dX7_step_123 : decode cX7_step 123 = .ok (.iload_n 3, 1) := by decide +kernel
theorem dX7_step_124 : decode cX7_step 124 = .ok (.bipush 9, 2) := by decide +kernel
theorem dX7_step_126 : decode cX7_step 126 = .ok (.iconst 0, 1) := by decide +kernel
theorem dX7_step_127 : decode cX7_step 127 = .ok (.invokevirtual 91, 3) := by decide +kernel
theorem dX7_step_130 : decode cX7_step 130 = .ok (.iload_n 2, 1) := by decide +kernel
theorem dX7_step_131 : decode cX7_step 131 = .ok (.iconst 1, 1) := by decide +kernel
theorem dX7_step_132 : decode cX7_step 132 = .ok (.iload_n 3, 1) := by decide +kernel
theorem dX7_step_133 : decode cX7_step 133 = .ok (.ishl, 1) := by decide +kernel
theorem dX7_step_134 : decode cX7_step 134 = .ok (.ior, 1) := by decide +kernel
theorem dX7_step_135 : decode cX7_step 135 = .ok (.istore_n 2, 1) := by decide +kernel
theorem dX7_step_136 : decode cX7_step 136 = .ok (.iinc 3 1, 3) := by decide +kernel
theorem dX7_step_139 : decode cX7_step 139 = .ok (.goto (-36), 3) := by decide +kernel
theorem dX7_step_142 : decode cX7_step 142 = .ok (.aload_n 0, 1) := by decide +kernel
theorem dX7_step_143 : decode cX7_step 143 = .ok (.getfield 7, 3) := by decide +kernel
theorem dX7_step_146 : decode cX7_step 146 = .ok (.iconst 1, 1) := by decide +kernel
theorem dX7_step_147 : decode cX7_step 147 = .ok (.iaload, 1) := by decide +kernel
theorem dX7_step_148 : decode cX7_step 148 = .ok (.istore_n 3, 1) := by decide +kernel
theorem dX7_step_149 : decode cX7_step 149 = .ok (.iconst 0, 1) := by decide +kernel
theorem dX7_step_150 : decode cX7_step 150 = .ok (.istore 4, 2) := by decide +kernel
theorem dX7_step_152 : decode cX7_step 152 = .ok (.iload 4, 2) := by decide +kernel
theorem dX7_step_154 : decode cX7_step 154 = .ok (.aload_n 0, 1) := by decide +kernel
theorem dX7_step_155 : decode cX7_step 155 = .ok (.getfield 7, 3) := by decide +kernel
theorem dX7_step_158 : decode cX7_step 158 = .ok (.bipush 6, 2) := by decide +kernel
theorem dX7_step_160 : decode cX7_step 160 = .ok (.iaload, 1) := by decide +kernel
theorem dX7_step_161 : decode cX7_step 161 = .ok (.if_icmp .ge 25, 3) := by decide +kernel
theorem dX7_step_164 : decode cX7_step 164 = .ok (.iload_n 2, 1) := by decide +kernel
theorem dX7_step_165 : decode cX7_step 165 = .ok (.iload 4, 2) := by decide +kernel
theorem dX7_step_167 : decode cX7_step 167 = .ok (.ishr, 1) := by decide +kernel
theorem dX7_step_168 : decode cX7_step 168 = .ok (.iconst 1, 1) := by decide +kernel
theorem dX7_step_169 : decode cX7_step 169 = .ok (.iand, 1) := by decide +kernel
theorem dX7_step_170 : decode cX7_step 170 = .ok (.iconst 1, 1) := by decide +kernel
theorem dX7_step_171 : decode cX7_step 171 = .ok (.if_icmp .ne 9, 3) := by decide +kernel
theorem dX7_step_174 : decode cX7_step 174 = .ok (.aload_n 0, 1) := by decide +kernel
theorem dX7_step_175 : decode cX7_step 175 = .ok (.iload 4, 2) := by decide +kernel
theorem dX7_step_177 : decode cX7_step 177 = .ok (.invokevirtual 115, 3) := by decide +kernel
theorem dX7_step_180 : decode cX7_step 180 = .ok (.iinc 4 1, 3) := by decide +kernel
theorem dX7_step_183 : decode cX7_step 183 = .ok (.goto (-31), 3) := by decide +kernel
theorem dX7_step_186 : decode cX7_step 186 = .ok (.aload_n 0, 1) := by decide +kernel
theorem dX7_step_187 : decode cX7_step 187 = .ok (.getfield 7, 3) := by decide +kernel
theorem dX7_step_190 : decode cX7_step 190 = .ok (.iconst 1, 1) := by decide +kernel
theorem dX7_step_191 : decode cX7_step 191 = .ok (.iaload, 1) := by decide +kernel
theorem dX7_step_192 : decode cX7_step 192 = .ok (.iload_n 3, 1) := by decide +kernel
theorem dX7_step_193 : decode cX7_step 193 = .ok (.isub, 1) := by decide +kernel
theorem dX7_step_194 : decode cX7_step 194 = .ok (.ireturn, 1) := by decide +kernel
set_option maxRecDepth 20000 in
theorem ggX7_runNow_X7_step : GoodIn wsX7_runNow wsX7_step := goodIn_r _ [5, 6, 7, 8, 9, 4, 10, 11, 12, 13, 14, 15, 16, 17, 18, 19, 20, 21, 22, 23, 24, 25, 26, 27, 28, 29, 30, 31, 32, 33, 34, 35, 36, 37, 38, 39, 40, 41, 42, 43, 44, 45, 46, 47, 48, 49, 50, 51, 52, 53, 54, 55, 56, 57, 58, 59, 60, 61, 62, 63, 64, 65, 66, 67, 68, 69, 70, 71, 72, 73, 74, 75, 76, 77, 78, 79] (by decide +kernel) (by decide +kernel)
set_option maxRecDepth 20000 in
theorem gX7_runNow_X7_step : GoodIn wsX7_runNow (wsV RX7 119 RX7 yX7_step wsX7_step) := goodIn_app (goodIn_of _ (by decide +kernel)) ggX7_runNow_X7_step
theorem dX7_runNow_0 : decode cX7_runNow 0 = .ok (.iconst 0, 1) := by decide +kernel
theorem dX7_runNow_1 : decode cX7_runNow 1 = .ok (.istore_n 2, 1) := by decide +kernel
theorem dX7_runNow_2 : decode cX7_runNow 2 = .ok (.iconst 0, 1) := by decide +kernel
theorem dX7_runNow_3 : decode cX7_runNow 3 = .ok (.istore_n 3, 1) := by decide +kernel
theorem dX7_runNow_4 : decode cX7_runNow 4 = .ok (.iload_n 3, 1) := by decide +kernel
theorem dX7_runNow_5 : decode cX7_runNow 5 = .ok (.iload_n 1, 1) := by decide +kernel
theorem dX7_runNow_6 : decode cX7_runNow 6 = .ok (.if_icmp .ge 16, 3) := by decide +kernel
theorem dX7_runNow_9 : decode cX7_runNow 9 = .ok (.iload_n 2, 1) := by decide +kernel
theorem dX7_runNow_10 : decode cX7_runNow 10 = .ok (.aload_n 0, 1) := by decide +kernel
theorem dX7_runNow_11 : decode cX7_runNow 11 = .ok (.invokevirtual 119, 3) := by decide +kernel
theorem dX7_runNow_14 : decode cX7_runNow 14 = .ok (.iadd, 1) := by decide +kernel
theorem dX7_runNow_15 : decode cX7_runNow 15 = .ok (.istore_n 2, 1) := by decide +kernel
theorem dX7_runNow_16 : decode cX7_runNow 16 = .ok (.iinc 3 1, 3) := by decide +kernel
theorem dX7_runNow_19 : decode cX7_runNow 19 = .ok (.goto (-15), 3) := by decide +kernel
theorem dX7_runNow_22 : decode cX7_runNow 22 = .ok (.iload_n 2, 1) := by decide +kernel
theorem dX7_runNow_23 : decode cX7_runNow 23 = .ok (.ireturn, 1) := by decide +kernel
set_option maxRecDepth 20000 in
theorem ggX7_addCord_X7_put : GoodIn wsX7_addCord wsX7_put := goodIn_r _ [6, 1, 7, 8, 9, 10, 11, 12, 13, 14, 15, 16, 17, 18, 19, 20, 21, 22, 23, 24, 25, 26, 27, 28] (by decide +kernel) (by decide +kernel)
set_option maxRecDepth 20000 in
theorem gX7_addCord_X7_put : GoodIn wsX7_addCord (wsV RX7 91 RX7 yX7_put wsX7_put) := goodIn_app (goodIn_of _ (by decide +kernel)) ggX7_addCord_X7_put
theorem dX7_addCord_0 : decode cX7_addCord 0 = .ok (.aload_n 0, 1) := by decide +kernel
theorem dX7_addCord_1 : decode cX7_addCord 1 = .ok (.getfield 7, 3) := by decide +kernel
theorem dX7_addCord_4 : decode cX7_addCord 4 = .ok (.bipush 6, 2) := by decide +kernel
theorem dX7_addCord_6 : decode cX7_addCord 6 = .ok (.iaload, 1) := by decide +kernel
theorem dX7_addCord_7 : decode cX7_addCord 7 = .ok (.istore_n 2, 1) := by decide +kernel
theorem dX7_addCord_8 : decode cX7_addCord 8 = .ok (.iconst 0, 1) := by decide +kernel
theorem dX7_addCord_9 : decode cX7_addCord 9 = .ok (.istore_n 3, 1) := by decide +kernel
theorem dX7_addCord_10 : decode cX7_addCord 10 = .ok (.iload_n 3, 1) := by decide +kernel
theorem dX7_addCord_11 : decode cX7_addCord 11 = .ok (.bipush 11, 2) := by decide +kernel
theorem dX7_addCord_13 : decode cX7_addCord 13 = .ok (.if_icmp .ge 16, 3) := by decide +kernel
theorem dX7_addCord_16 : decode cX7_addCord 16 = .ok (.aload_n 0, 1) := by decide +kernel
theorem dX7_addCord_17 : decode cX7_addCord 17 = .ok (.iload_n 2, 1) := by decide +kernel
theorem dX7_addCord_18 : decode cX7_addCord 18 = .ok (.iload_n 3, 1) := by decide +kernel
theorem dX7_addCord_19 : decode cX7_addCord 19 = .ok (.iconst 0, 1) := by decide +kernel
theorem dX7_addCord_20 : decode cX7_addCord 20 = .ok (.invokevirtual 91, 3) := by decide +kernel
theorem dX7_addCord_23 : decode cX7_addCord 23 = .ok (.iinc 3 1, 3) := by decide +kernel
theorem dX7_addCord_26 : decode cX7_addCord 26 = .ok (.goto (-16), 3) := by decide +kernel
theorem dX7_addCord_29 : decode cX7_addCord 29 = .ok (.aload_n 0, 1) := by decide +kernel
theorem dX7_addCord_30 : decode cX7_addCord 30 = .ok (.iload_n 2, 1) := by decide +kernel
theorem dX7_addCord_31 : decode cX7_addCord 31 = .ok (.iconst 0, 1) := by decide +kernel
theorem dX7_addCord_32 : decode cX7_addCord 32 = .ok (.iload_n 1, 1) := by decide +kernel
theorem dX7_addCord_33 : decode cX7_addCord 33 = .ok (.invokevirtual 91, 3) := by decide +kernel
theorem dX7_addCord_36 : decode cX7_addCord 36 = .ok (.aload_n 0, 1) := by decide +kernel
theorem dX7_addCord_37 : decode cX7_addCord 37 = .ok (.iload_n 2, 1) := by decide +kernel
theorem dX7_addCord_38 : decode cX7_addCord 38 = .ok (.bipush 10, 2) := by decide +kernel
theorem dX7_addCord_40 : decode cX7_addCord 40 = .ok (.iconst (-1), 1) := by decide +kernel
theorem dX7_addCord_41 : decode cX7_addCord 41 = .ok (.invokevirtual 91, 3) := by decide +kernel
theorem dX7_addCord_44 : decode cX7_addCord 44 = .ok (.aload_n 0, 1) := by decide +kernel
theorem dX7_addCord_45 : decode cX7_addCord 45 = .ok (.getfield 7, 3) := by decide +kernel
theorem dX7_addCord_48 : decode cX7_addCord 48 = .ok (.bipush 6, 2) := by decide +kernel
theorem dX7_addCord_50 : decode cX7_addCord 50 = .ok (.dup2, 1) := by decide +kernel
theorem dX7_addCord_51 : decode cX7_addCord 51 = .ok (.iaload, 1) := by decide +kernel
theorem dX7_addCord_52 : decode cX7_addCord 52 = .ok (.iconst 1, 1) := by decide +kernel
theorem dX7_addCord_53 : decode cX7_addCord 53 = .ok (.iadd, 1) := by decide +kernel
theorem dX7_addCord_54 : decode cX7_addCord 54 = .ok (.iastore, 1) := by decide +kernel
theorem dX7_addCord_55 : decode cX7_addCord 55 = .ok (.iload_n 2, 1) := by decide +kernel
theorem dX7_addCord_56 : decode cX7_addCord 56 = .ok (.ireturn, 1) := by decide +kernel
set_option maxRecDepth 20000 in
theorem ggX7_cord_X7_in : GoodIn wsX7_cord wsX7_in := goodIn_r _ [6] (by decide +kernel) (by decide +kernel)
set_option maxRecDepth 20000 in
theorem gX7_cord_X7_in : GoodIn wsX7_cord (va_wsS RX7 57 yX7_in wsX7_in) := goodIn_app (goodIn_of _ (by decide +kernel)) ggX7_cord_X7_in
set_option maxRecDepth 20000 in
theorem ggX7_cord_X7_fails : GoodIn wsX7_cord wsX7_fails := goodIn_r _ [10, 1, 25, 26, 27, 28, 29, 30, 31, 32, 33, 34, 35, 36, 37, 38, 39, 40, 41, 42, 43, 44, 45, 46] (by decide +kernel) (by decide +kernel)
set_option maxRecDepth 20000 in
theorem gX7_cord_X7_fails : GoodIn wsX7_cord (wsV RX7 64 RX7 yX7_fails wsX7_fails) := goodIn_app (goodIn_of _ (by decide +kernel)) ggX7_cord_X7_fails
set_option maxRecDepth 20000 in
theorem ggX7_cord_X7_save : GoodIn wsX7_cord wsX7_save := goodIn_r _ [14, 15, 16, 2, 25, 26, 27, 28, 29, 30, 31, 32, 33, 34, 35, 36, 37, 38, 39, 40, 41, 42, 43, 44, 45, 46] (by decide +kernel) (by decide +kernel)
set_option maxRecDepth 20000 in
theorem gX7_cord_X7_save : GoodIn wsX7_cord (wsV RX7 68 RX7 yX7_save wsX7_save) := goodIn_app (goodIn_of _ (by decide +kernel)) ggX7_cord_X7_save
set_option maxRecDepth 20000 in
theorem ggX7_cord_X7_addCord : GoodIn wsX7_cord wsX7_addCord := goodIn_r _ [20, 2, 21, 22, 23, 5, 24, 25, 26, 27, 28, 29, 30, 31, 32, 33, 34, 35, 36, 37, 38, 39, 40, 41, 42, 43, 44, 45, 46] (by decide +kernel) (by decide +kernel)
set_option maxRecDepth 20000 in
theorem gX7_cord_X7_addCord : GoodIn wsX7_cord (wsV RX7 122 RX7 yX7_addCord wsX7_addCord) := goodIn_app (goodIn_of _ (by decide +kernel)) ggX7_cord_X7_addCord
set_option maxRecDepth 20000 in
theorem ggX7_cord_X7_put : GoodIn wsX7_cord wsX7_put := goodIn_r _ [24, 2, 25, 26, 27, 28, 29, 30, 31, 32, 33, 34, 35, 36, 37, 38, 39, 40, 41, 42, 43, 44, 45, 46] (by decide +kernel) (by decide +kernel)
set_option maxRecDepth 20000 in
theorem gX7_cord_X7_put : GoodIn wsX7_cord (wsV RX7 91 RX7 yX7_put wsX7_put) := goodIn_app (goodIn_of _ (by decide +kernel)) ggX7_cord_X7_put
theorem dX7_cord_0 : decode cX7_cord 0 = .ok (.aload_n 0, 1) := by decide +kernel
theorem dX7_cord_1 : decode cX7_cord 1 = .ok (.iconst 0, 1) := by decide +kernel
theorem dX7_cord_2 : decode cX7_cord 2 = .ok (.putfield 53, 3) := by decide +kernel
theorem dX7_cord_5 : decode cX7_cord 5 = .ok (.iload_n 1, 1) := by decide +kernel
theorem dX7_cord_6 : decode cX7_cord 6 = .ok (.iconst 1, 1) := by decide +kernel
theorem dX7_cord_7 : decode cX7_cord 7 = .ok (.bipush 6, 2) := by decide +kernel
theorem dX7_cord_9 : decode cX7_cord 9 = .ok (.invokestatic 57, 3) := by decide +kernel
theorem dX7_cord_12 : decode cX7_cord 12 = .ok (.ifCond .eq 13, 3) := by decide +kernel
theorem dX7_cord_15 : decode cX7_cord 15 = .ok (.iload_n 2, 1) := by decide +kernel
theorem dX7_cord_16 : decode cX7_cord 16 = .ok (.iconst 1, 1) := by decide +kernel
theorem dX7_cord_17 : decode cX7_cord 17 = .ok (.bipush 60, 2) := by decide +kernel
theorem dX7_cord_19 : decode cX7_cord 19 = .ok (.invokestatic 57, 3) := by decide +kernel
theorem dX7_cord_22 : decode cX7_cord 22 = .ok (.ifCond .ne 9, 3) := by decide +kernel
theorem dX7_cord_25 : decode cX7_cord 25 = .ok (.aload_n 0, 1) := by decide +kernel
theorem dX7_cord_26 : decode cX7_cord 26 = .ok (.iconst 1, 1) := by decide +kernel
theorem dX7_cord_27 : decode cX7_cord 27 = .ok (.invokevirtual 64, 3) := by decide +kernel
theorem dX7_cord_30 : decode cX7_cord 30 = .ok (.ireturn, 1) := by decide +kernel
theorem dX7_cord_31 : decode cX7_cord 31 = .ok (.aload_n 0, 1) := by decide +kernel
theorem dX7_cord_32 : decode cX7_cord 32 = .ok (.getfield 7, 3) := by decide +kernel
theorem dX7_cord_35 : decode cX7_cord 35 = .ok (.bipush 6, 2) := by decide +kernel
theorem dX7_cord_37 : decode cX7_cord 37 = .ok (.iaload, 1) := by decide +kernel
theorem dX7_cord_38 : decode cX7_cord 38 = .ok (.iconst 4, 1) := by decide +kernel
theorem dX7_cord_39 : decode cX7_cord 39 = .ok (.if_icmp .ne 9, 3) := by decide +kernel
theorem dX7_cord_42 : decode cX7_cord 42 = .ok (.aload_n 0, 1) := by decide +kernel
theorem dX7_cord_43 : decode cX7_cord 43 = .ok (.iconst 2, 1) := by decide +kernel
theorem dX7_cord_44 : decode cX7_cord 44 = .ok (.invokevirtual 64, 3) := by decide +kernel
theorem dX7_cord_47 : decode cX7_cord 47 = .ok (.ireturn, 1) := by decide +kernel
theorem dX7_cord_48 : decode cX7_cord 48 = .ok (.aload_n 0, 1) := by decide +kernel
theorem dX7_cord_49 : decode cX7_cord 49 = .ok (.invokevirtual 68, 3) := by decide +kernel
theorem dX7_cord_52 : decode cX7_cord 52 = .ok (.aload_n 0, 1) := by decide +kernel
theorem dX7_cord_53 : decode cX7_cord 53 = .ok (.iload_n 1, 1) := by decide +kernel
theorem dX7_cord_54 : decode cX7_cord 54 = .ok (.invokevirtual 122, 3) := by decide +kernel
theorem dX7_cord_57 : decode cX7_cord 57 = .ok (.istore_n 3, 1) := by decide +kernel
theorem dX7_cord_58 : decode cX7_cord 58 = .ok (.iconst 0, 1) := by decide +kernel
theorem dX7_cord_59 : decode cX7_cord 59 = .ok (.istore 4, 2) := by decide +kernel
theorem dX7_cord_61 : decode cX7_cord 61 = .ok (.iload 4, 2) := by decide +kernel
theorem dX7_cord_63 : decode cX7_cord 63 = .ok (.iload_n 1, 1) := by decide +kernel
theorem dX7_cord_64 : decode cX7_cord 64 = .ok (.if_icmp .ge 19, 3) := by decide +kernel
theorem dX7_cord_67 : decode cX7_cord 67 = .ok (.aload_n 0, 1) := by decide +kernel
theorem dX7_cord_68 : decode cX7_cord 68 = .ok (.iload_n 3, 1) := by decide +kernel
theorem dX7_cord_69 : decode cX7_cord 69 = .ok (.iconst 1, 1) := by decide +kernel
theorem dX7_cord_70 : decode cX7_cord 70 = .ok (.iload 4, 2) := by decide +kernel
theorem dX7_cord_72 : decode cX7_cord 72 = .ok (.iadd, 1) := by decide +kernel
theorem dX7_cord_73 : decode cX7_cord 73 = .ok (.iload_n 2, 1) := by decide +kernel
theorem dX7_cord_74 : decode cX7_cord 74 = .ok (.invokevirtual 91, 3) := by decide +kernel
theorem dX7_cord_77 : decode cX7_cord 77 = .ok (.iinc 4 1, 3) := by decide +kernel
theorem dX7_cord_80 : decode cX7_cord 80 = .ok (.goto (-19), 3) := by decide +kernel
theorem dX7_cord_83 : decode cX7_cord 83 = .ok (.iload_n 3, 1) := by decide +kernel
theorem dX7_cord_84 : decode cX7_cord 84 = .ok (.ireturn, 1) := by decide +kernel
set_option maxRecDepth 20000 in
theorem ggX7_isSegment_X7_isCord : GoodIn wsX7_isSegment wsX7_isCord := goodIn_r _ [5, 6, 7, 8, 4, 9, 14, 15, 16, 17, 18, 19, 20, 21, 22, 23, 24, 25, 26, 27, 28, 29, 30, 31, 32, 33, 34, 35] (by decide +kernel) (by decide +kernel)
set_option maxRecDepth 20000 in
theorem gX7_isSegment_X7_isCord : GoodIn wsX7_isSegment (wsV RX7 125 RX7 yX7_isCord wsX7_isCord) := goodIn_app (goodIn_of _ (by decide +kernel)) ggX7_isSegment_X7_isCord
set_option maxRecDepth 20000 in
theorem ggX7_isSegment_X7_of : GoodIn wsX7_isSegment wsX7_of := goodIn_r _ [13, 6, 14, 15, 16, 17, 18, 19, 20, 21, 22, 23, 24, 25, 26, 27, 28, 29, 30, 31, 32, 33, 34, 35] (by decide +kernel) (by decide +kernel)
set_option maxRecDepth 20000 in
theorem gX7_isSegment_X7_of : GoodIn wsX7_isSegment (wsV RX7 71 RX7 yX7_of wsX7_of) := goodIn_app (goodIn_of _ (by decide +kernel)) ggX7_isSegment_X7_of
set_option maxRecDepth 20000 in
theorem ggX7_isSegment_X7_in : GoodIn wsX7_isSegment wsX7_in := goodIn_r _ [9] (by decide +kernel) (by decide +kernel)
set_option maxRecDepth 20000 in
theorem gX7_isSegment_X7_in : GoodIn wsX7_isSegment (va_wsS RX7 57 yX7_in wsX7_in) := goodIn_app (goodIn_of _ (by decide +kernel)) ggX7_isSegment_X7_in
theorem dX7_isSegment_0 : decode cX7_isSegment 0 = .ok (.aload_n 0, 1) := by decide +kernel
theorem dX7_isSegment_1 : decode cX7_isSegment 1 = .ok (.iload_n 1, 1) := by decide +kernel
theorem dX7_isSegment_2 : decode cX7_isSegment 2 = .ok (.invokevirtual 125, 3) := by decide +kernel
theorem dX7_isSegment_5 : decode cX7_isSegment 5 = .ok (.ifCond .eq 23, 3) := by decide +kernel
theorem dX7_isSegment_8 : decode cX7_isSegment 8 = .ok (.iload_n 2, 1) := by decide +kernel
theorem dX7_isSegment_9 : decode cX7_isSegment 9 = .ok (.iconst 0, 1) := by decide +kernel
theorem dX7_isSegment_10 : decode cX7_isSegment 10 = .ok (.aload_n 0, 1) := by decide +kernel
theorem dX7_isSegment_11 : decode cX7_isSegment 11 = .ok (.iload_n 1, 1) := by decide +kernel
theorem dX7_isSegment_12 : decode cX7_isSegment 12 = .ok (.iconst 0, 1) := by decide +kernel
theorem dX7_isSegment_13 : decode cX7_isSegment 13 = .ok (.invokevirtual 71, 3) := by decide +kernel
theorem dX7_isSegment_16 : decode cX7_isSegment 16 = .ok (.iconst 1, 1) := by decide +kernel
theorem dX7_isSegment_17 : decode cX7_isSegment 17 = .ok (.isub, 1) := by decide +kernel
theorem dX7_isSegment_18 : decode cX7_isSegment 18 = .ok (.invokestatic 57, 3) := by decide +kernel
theorem dX7_isSegment_21 : decode cX7_isSegment 21 = .ok (.ifCond .eq 7, 3) := by decide +kernel
theorem dX7_isSegment_24 : decode cX7_isSegment 24 = .ok (.iconst 1, 1) := by decide +kernel
theorem dX7_isSegment_25 : decode cX7_isSegment 25 = .ok (.goto 4, 3) := by decide +kernel
theorem dX7_isSegment_28 : decode cX7_isSegment 28 = .ok (.iconst 0, 1) := by decide +kernel
theorem dX7_isSegment_29 : decode cX7_isSegment 29 = .ok (.ireturn, 1) := by decide +kernel
set_option maxRecDepth 20000 in
theorem ggX7_uneven_X7_isSegment : GoodIn wsX7_uneven wsX7_isSegment := goodIn_r _ [6, 7, 8, 9, 5, 10, 11, 12, 13, 14, 15, 16, 17, 18, 37, 38, 39, 40, 41, 42, 43, 44, 45, 46, 47, 48, 49, 50, 51, 52, 53, 54, 55, 56, 57, 58] (by decide +kernel) (by decide +kernel)
set_option maxRecDepth 20000 in
theorem gX7_uneven_X7_isSegment : GoodIn wsX7_uneven (wsV RX7 128 RX7 yX7_isSegment wsX7_isSegment) := goodIn_app (goodIn_of _ (by decide +kernel)) ggX7_uneven_X7_isSegment
set_option maxRecDepth 20000 in
theorem ggX7_uneven_X7_fails : GoodIn wsX7_uneven wsX7_fails := goodIn_r _ [22, 1, 37, 38, 39, 40, 41, 42, 43, 44, 45, 46, 47, 48, 49, 50, 51, 52, 53, 54, 55, 56, 57, 58] (by decide +kernel) (by decide +kernel)
set_option maxRecDepth 20000 in
theorem gX7_uneven_X7_fails : GoodIn wsX7_uneven (wsV RX7 64 RX7 yX7_fails wsX7_fails) := goodIn_app (goodIn_of _ (by decide +kernel)) ggX7_uneven_X7_fails
set_option maxRecDepth 20000 in
theorem ggX7_uneven_X7_in : GoodIn wsX7_uneven wsX7_in := goodIn_r _ [14] (by decide +kernel) (by decide +kernel)
set_option maxRecDepth 20000 in
theorem gX7_uneven_X7_in : GoodIn wsX7_uneven (va_wsS RX7 57 yX7_in wsX7_in) := goodIn_app (goodIn_of _ (by decide +kernel)) ggX7_uneven_X7_in
set_option maxRecDepth 20000 in
theorem ggX7_uneven_X7_burnedOf : GoodIn wsX7_uneven wsX7_burnedOf := goodIn_r _ [26, 15, 16, 17, 5, 18, 11, 37, 38, 39, 40, 41, 42, 43, 44, 45, 46, 47, 48, 49, 50, 51, 52, 53, 54, 55, 56, 57, 58] (by decide +kernel) (by decide +kernel)
set_option maxRecDepth 20000 in
theorem gX7_uneven_X7_burnedOf : GoodIn wsX7_uneven (wsV RX7 78 RX7 yX7_burnedOf wsX7_burnedOf) := goodIn_app (goodIn_of _ (by decide +kernel)) ggX7_uneven_X7_burnedOf
set_option maxRecDepth 20000 in
theorem ggX7_uneven_X7_of : GoodIn wsX7_uneven wsX7_of := goodIn_r _ [18, 11, 37, 38, 39, 40, 41, 42, 43, 44, 45, 46, 47, 48, 49, 50, 51, 52, 53, 54, 55, 56, 57, 58] (by decide +kernel) (by decide +kernel)
set_option maxRecDepth 20000 in
theorem gX7_uneven_X7_of : GoodIn wsX7_uneven (wsV RX7 71 RX7 yX7_of wsX7_of) := goodIn_app (goodIn_of _ (by decide +kernel)) ggX7_uneven_X7_of
set_option maxRecDepth 20000 in
theorem ggX7_uneven_X7_save : GoodIn wsX7_uneven wsX7_save := goodIn_r _ [30, 31, 32, 11, 37, 38, 39, 40, 41, 42, 43, 44, 45, 46, 47, 48, 49, 50, 51, 52, 53, 54, 55, 56, 57, 58] (by decide +kernel) (by decide +kernel)
set_option maxRecDepth 20000 in
theorem gX7_uneven_X7_save : GoodIn wsX7_uneven (wsV RX7 68 RX7 yX7_save wsX7_save) := goodIn_app (goodIn_of _ (by decide +kernel)) ggX7_uneven_X7_save
set_option maxRecDepth 20000 in
theorem ggX7_uneven_X7_put : GoodIn wsX7_uneven wsX7_put := goodIn_r _ [36, 11, 37, 38, 39, 40, 41, 42, 43, 44, 45, 46, 47, 48, 49, 50, 51, 52, 53, 54, 55, 56, 57, 58] (by decide +kernel) (by decide +kernel)
set_option maxRecDepth 20000 in
theorem gX7_uneven_X7_put : GoodIn wsX7_uneven (wsV RX7 91 RX7 yX7_put wsX7_put) := goodIn_app (goodIn_of _ (by decide +kernel)) ggX7_uneven_X7_put
theorem dX7_uneven_0 : decode cX7_uneven 0 = .ok (.aload_n 0, 1) := by decide +kernel
theorem dX7_uneven_1 : decode cX7_uneven 1 = .ok (.iconst 0, 1) := by decide +kernel
theorem dX7_uneven_2 : decode cX7_uneven 2 = .ok (.putfield 53, 3) := by decide +kernel
theorem dX7_uneven_5 : decode cX7_uneven 5 = .ok (.aload_n 0, 1) := by decide +kernel
theorem dX7_uneven_6 : decode cX7_uneven 6 = .ok (.iload_n 1, 1) := by decide +kernel
theorem dX7_uneven_7 : decode cX7_uneven 7 = .ok (.iload_n 2, 1) := by decide +kernel
theorem dX7_uneven_8 : decode cX7_uneven 8 = .ok (.invokevirtual 128, 3) := by decide +kernel
theorem dX7_uneven_11 : decode cX7_uneven 11 = .ok (.ifCond .ne 9, 3) := by decide +kernel
theorem dX7_uneven_14 : decode cX7_uneven 14 = .ok (.aload_n 0, 1) := by decide +kernel
theorem dX7_uneven_15 : decode cX7_uneven 15 = .ok (.iconst 1, 1) := by decide +kernel
theorem dX7_uneven_16 : decode cX7_uneven 16 = .ok (.invokevirtual 64, 3) := by decide +kernel
theorem dX7_uneven_19 : decode cX7_uneven 19 = .ok (.ireturn, 1) := by decide +kernel
theorem dX7_uneven_20 : decode cX7_uneven 20 = .ok (.iload_n 3, 1) := by decide +kernel
theorem dX7_uneven_21 : decode cX7_uneven 21 = .ok (.iconst 1, 1) := by decide +kernel
theorem dX7_uneven_22 : decode cX7_uneven 22 = .ok (.bipush 60, 2) := by decide +kernel
theorem dX7_uneven_24 : decode cX7_uneven 24 = .ok (.invokestatic 57, 3) := by decide +kernel
theorem dX7_uneven_27 : decode cX7_uneven 27 = .ok (.ifCond .ne 9, 3) := by decide +kernel
theorem dX7_uneven_30 : decode cX7_uneven 30 = .ok (.aload_n 0, 1) := by decide +kernel
theorem dX7_uneven_31 : decode cX7_uneven 31 = .ok (.iconst 2, 1) := by decide +kernel
theorem dX7_uneven_32 : decode cX7_uneven 32 = .ok (.invokevirtual 64, 3) := by decide +kernel
theorem dX7_uneven_35 : decode cX7_uneven 35 = .ok (.ireturn, 1) := by decide +kernel
theorem dX7_uneven_36 : decode cX7_uneven 36 = .ok (.aload_n 0, 1) := by decide +kernel
theorem dX7_uneven_37 : decode cX7_uneven 37 = .ok (.iload_n 1, 1) := by decide +kernel
theorem dX7_uneven_38 : decode cX7_uneven 38 = .ok (.invokevirtual 78, 3) := by decide +kernel
theorem dX7_uneven_41 : decode cX7_uneven 41 = .ok (.ifCond .gt 13, 3) := by decide +kernel
theorem dX7_uneven_44 : decode cX7_uneven 44 = .ok (.aload_n 0, 1) := by decide +kernel
theorem dX7_uneven_45 : decode cX7_uneven 45 = .ok (.iload_n 1, 1) := by decide +kernel
theorem dX7_uneven_46 : decode cX7_uneven 46 = .ok (.bipush 9, 2) := by decide +kernel
theorem dX7_uneven_48 : decode cX7_uneven 48 = .ok (.invokevirtual 71, 3) := by decide +kernel
theorem dX7_uneven_51 : decode cX7_uneven 51 = .ok (.ifCond .eq 9, 3) := by decide +kernel
theorem dX7_uneven_54 : decode cX7_uneven 54 = .ok (.aload_n 0, 1) := by decide +kernel
theorem dX7_uneven_55 : decode cX7_uneven 55 = .ok (.iconst 3, 1) := by decide +kernel
theorem dX7_uneven_56 : decode cX7_uneven 56 = .ok (.invokevirtual 64, 3) := by decide +kernel
theorem dX7_uneven_59 : decode cX7_uneven 59 = .ok (.ireturn, 1) := by decide +kernel
theorem dX7_uneven_60 : decode cX7_uneven 60 = .ok (.aload_n 0, 1) := by decide +kernel
theorem dX7_uneven_61 : decode cX7_uneven 61 = .ok (.invokevirtual 68, 3) := by decide +kernel
theorem dX7_uneven_64 : decode cX7_uneven 64 = .ok (.aload_n 0, 1) := by decide +kernel
theorem dX7_uneven_65 : decode cX7_uneven 65 = .ok (.iload_n 1, 1) := by decide +kernel
theorem dX7_uneven_66 : decode cX7_uneven 66 = .ok (.iconst 1, 1) := by decide +kernel
theorem dX7_uneven_67 : decode cX7_uneven 67 = .ok (.iload_n 2, 1) := by decide +kernel
theorem dX7_uneven_68 : decode cX7_uneven 68 = .ok (.iadd, 1) := by decide +kernel
theorem dX7_uneven_69 : decode cX7_uneven 69 = .ok (.invokevirtual 71, 3) := by decide +kernel
theorem dX7_uneven_72 : decode cX7_uneven 72 = .ok (.istore 4, 2) := by decide +kernel
theorem dX7_uneven_74 : decode cX7_uneven 74 = .ok (.aload_n 0, 1) := by decide +kernel
theorem dX7_uneven_75 : decode cX7_uneven 75 = .ok (.iload_n 1, 1) := by decide +kernel
theorem dX7_uneven_76 : decode cX7_uneven 76 = .ok (.iconst 1, 1) := by decide +kernel
theorem dX7_uneven_77 : decode cX7_uneven 77 = .ok (.iload_n 2, 1) := by decide +kernel
theorem dX7_uneven_78 : decode cX7_uneven 78 = .ok (.iadd, 1) := by decide +kernel
theorem dX7_uneven_79 : decode cX7_uneven 79 = .ok (.iload_n 3, 1) := by decide +kernel
theorem dX7_uneven_80 : decode cX7_uneven 80 = .ok (.invokevirtual 91, 3) := by decide +kernel
theorem dX7_uneven_83 : decode cX7_uneven 83 = .ok (.iload 4, 2) := by decide +kernel
theorem dX7_uneven_85 : decode cX7_uneven 85 = .ok (.ireturn, 1) := by decide +kernel
set_option maxRecDepth 20000 in
theorem ggX7_renew_X7_isCord : GoodIn wsX7_renew wsX7_isCord := goodIn_r _ [6, 7, 8, 9, 5, 10, 33, 34, 35, 36, 37, 38, 39, 40, 41, 42, 43, 44, 45, 46, 47, 48, 49, 50, 51, 52, 53, 54] (by decide +kernel) (by decide +kernel)
set_option maxRecDepth 20000 in
theorem gX7_renew_X7_isCord : GoodIn wsX7_renew (wsV RX7 125 RX7 yX7_isCord wsX7_isCord) := goodIn_app (goodIn_of _ (by decide +kernel)) ggX7_renew_X7_isCord
set_option maxRecDepth 20000 in
theorem ggX7_renew_X7_fails : GoodIn wsX7_renew wsX7_fails := goodIn_r _ [14, 1, 33, 34, 35, 36, 37, 38, 39, 40, 41, 42, 43, 44, 45, 46, 47, 48, 49, 50, 51, 52, 53, 54] (by decide +kernel) (by decide +kernel)
set_option maxRecDepth 20000 in
theorem gX7_renew_X7_fails : GoodIn wsX7_renew (wsV RX7 64 RX7 yX7_fails wsX7_fails) := goodIn_app (goodIn_of _ (by decide +kernel)) ggX7_renew_X7_fails
set_option maxRecDepth 20000 in
theorem ggX7_renew_X7_save : GoodIn wsX7_renew wsX7_save := goodIn_r _ [18, 19, 20, 7, 33, 34, 35, 36, 37, 38, 39, 40, 41, 42, 43, 44, 45, 46, 47, 48, 49, 50, 51, 52, 53, 54] (by decide +kernel) (by decide +kernel)
set_option maxRecDepth 20000 in
theorem gX7_renew_X7_save : GoodIn wsX7_renew (wsV RX7 68 RX7 yX7_save wsX7_save) := goodIn_app (goodIn_of _ (by decide +kernel)) ggX7_renew_X7_save
set_option maxRecDepth 20000 in
theorem ggX7_renew_X7_burnedOf : GoodIn wsX7_renew wsX7_burnedOf := goodIn_r _ [24, 25, 26, 27, 5, 28, 7, 33, 34, 35, 36, 37, 38, 39, 40, 41, 42, 43, 44, 45, 46, 47, 48, 49, 50, 51, 52, 53, 54] (by decide +kernel) (by decide +kernel)
set_option maxRecDepth 20000 in
theorem gX7_renew_X7_burnedOf : GoodIn wsX7_renew (wsV RX7 78 RX7 yX7_burnedOf wsX7_burnedOf) := goodIn_app (goodIn_of _ (by decide +kernel)) ggX7_renew_X7_burnedOf
set_option maxRecDepth 20000 in
theorem ggX7_renew_X7_put : GoodIn wsX7_renew wsX7_put := goodIn_r _ [32, 7, 33, 34, 35, 36, 37, 38, 39, 40, 41, 42, 43, 44, 45, 46, 47, 48, 49, 50, 51, 52, 53, 54] (by decide +kernel) (by decide +kernel)
set_option maxRecDepth 20000 in
theorem gX7_renew_X7_put : GoodIn wsX7_renew (wsV RX7 91 RX7 yX7_put wsX7_put) := goodIn_app (goodIn_of _ (by decide +kernel)) ggX7_renew_X7_put
theorem dX7_renew_0 : decode cX7_renew 0 = .ok (.aload_n 0, 1) := by decide +kernel
theorem dX7_renew_1 : decode cX7_renew 1 = .ok (.iconst 0, 1) := by decide +kernel
theorem dX7_renew_2 : decode cX7_renew 2 = .ok (.putfield 53, 3) := by decide +kernel
theorem dX7_renew_5 : decode cX7_renew 5 = .ok (.aload_n 0, 1) := by decide +kernel
theorem dX7_renew_6 : decode cX7_renew 6 = .ok (.iload_n 1, 1) := by decide +kernel
theorem dX7_renew_7 : decode cX7_renew 7 = .ok (.invokevirtual 125, 3) := by decide +kernel
theorem dX7_renew_10 : decode cX7_renew 10 = .ok (.ifCond .ne 9, 3) := by decide +kernel
theorem dX7_renew_13 : decode cX7_renew 13 = .ok (.aload_n 0, 1) := by decide +kernel
theorem dX7_renew_14 : decode cX7_renew 14 = .ok (.iconst 1, 1) := by decide +kernel
theorem dX7_renew_15 : decode cX7_renew 15 = .ok (.invokevirtual 64, 3) := by decide +kernel
theorem dX7_renew_18 : decode cX7_renew 18 = .ok (.ireturn, 1) := by decide +kernel
theorem dX7_renew_19 : decode cX7_renew 19 = .ok (.aload_n 0, 1) := by decide +kernel
theorem dX7_renew_20 : decode cX7_renew 20 = .ok (.invokevirtual 68, 3) := by decide +kernel
theorem dX7_renew_23 : decode cX7_renew 23 = .ok (.aload_n 0, 1) := by decide +kernel
theorem dX7_renew_24 : decode cX7_renew 24 = .ok (.iload_n 1, 1) := by decide +kernel
theorem dX7_renew_25 : decode cX7_renew 25 = .ok (.invokevirtual 78, 3) := by decide +kernel
theorem dX7_renew_28 : decode cX7_renew 28 = .ok (.istore_n 2, 1) := by decide +kernel
theorem dX7_renew_29 : decode cX7_renew 29 = .ok (.aload_n 0, 1) := by decide +kernel
theorem dX7_renew_30 : decode cX7_renew 30 = .ok (.iload_n 1, 1) := by decide +kernel
theorem dX7_renew_31 : decode cX7_renew 31 = .ok (.bipush 7, 2) := by decide +kernel
theorem dX7_renew_33 : decode cX7_renew 33 = .ok (.iconst 0, 1) := by decide +kernel
theorem dX7_renew_34 : decode cX7_renew 34 = .ok (.invokevirtual 91, 3) := by decide +kernel
theorem dX7_renew_37 : decode cX7_renew 37 = .ok (.aload_n 0, 1) := by decide +kernel
theorem dX7_renew_38 : decode cX7_renew 38 = .ok (.iload_n 1, 1) := by decide +kernel
theorem dX7_renew_39 : decode cX7_renew 39 = .ok (.bipush 8, 2) := by decide +kernel
theorem dX7_renew_41 : decode cX7_renew 41 = .ok (.iconst 0, 1) := by decide +kernel
theorem dX7_renew_42 : decode cX7_renew 42 = .ok (.invokevirtual 91, 3) := by decide +kernel
theorem dX7_renew_45 : decode cX7_renew 45 = .ok (.aload_n 0, 1) := by decide +kernel
theorem dX7_renew_46 : decode cX7_renew 46 = .ok (.iload_n 1, 1) := by decide +kernel
theorem dX7_renew_47 : decode cX7_renew 47 = .ok (.bipush 9, 2) := by decide +kernel
theorem dX7_renew_49 : decode cX7_renew 49 = .ok (.iconst 0, 1) := by decide +kernel
theorem dX7_renew_50 : decode cX7_renew 50 = .ok (.invokevirtual 91, 3) := by decide +kernel
theorem dX7_renew_53 : decode cX7_renew 53 = .ok (.iload_n 2, 1) := by decide +kernel
theorem dX7_renew_54 : decode cX7_renew 54 = .ok (.ireturn, 1) := by decide +kernel
set_option maxRecDepth 20000 in
theorem ggX7_light_X7_isCord : GoodIn wsX7_light wsX7_isCord := goodIn_r _ [6, 7, 8, 9, 5, 10, 64, 65, 66, 67, 68, 69, 70, 71, 72, 73, 74, 75, 76, 77, 78, 79, 80, 81, 82, 83, 84, 85] (by decide +kernel) (by decide +kernel)
set_option maxRecDepth 20000 in
theorem gX7_light_X7_isCord : GoodIn wsX7_light (wsV RX7 125 RX7 yX7_isCord wsX7_isCord) := goodIn_app (goodIn_of _ (by decide +kernel)) ggX7_light_X7_isCord
set_option maxRecDepth 20000 in
theorem ggX7_light_X7_fails : GoodIn wsX7_light wsX7_fails := goodIn_r _ [14, 1, 64, 65, 66, 67, 68, 69, 70, 71, 72, 73, 74, 75, 76, 77, 78, 79, 80, 81, 82, 83, 84, 85] (by decide +kernel) (by decide +kernel)
set_option maxRecDepth 20000 in
theorem gX7_light_X7_fails : GoodIn wsX7_light (wsV RX7 64 RX7 yX7_fails wsX7_fails) := goodIn_app (goodIn_of _ (by decide +kernel)) ggX7_light_X7_fails
set_option maxRecDepth 20000 in
theorem ggX7_light_X7_canLight : GoodIn wsX7_light wsX7_canLight := goodIn_r _ [18, 19, 20, 21, 5, 22, 23, 24, 25, 26, 27, 28, 29, 30, 7, 31, 32, 33, 34, 35, 36, 37, 64, 65, 66, 67, 68, 69, 70, 71, 72, 73, 74, 75, 76, 77, 78, 79, 80, 81, 82, 83, 84, 85] (by decide +kernel) (by decide +kernel)
set_option maxRecDepth 20000 in
theorem gX7_light_X7_canLight : GoodIn wsX7_light (wsV RX7 99 RX7 yX7_canLight wsX7_canLight) := goodIn_app (goodIn_of _ (by decide +kernel)) ggX7_light_X7_canLight
set_option maxRecDepth 20000 in
theorem ggX7_light_X7_save : GoodIn wsX7_light wsX7_save := goodIn_r _ [41, 42, 43, 7, 64, 65, 66, 67, 68, 69, 70, 71, 72, 73, 74, 75, 76, 77, 78, 79, 80, 81, 82, 83, 84, 85] (by decide +kernel) (by decide +kernel)
set_option maxRecDepth 20000 in
theorem gX7_light_X7_save : GoodIn wsX7_light (wsV RX7 68 RX7 yX7_save wsX7_save) := goodIn_app (goodIn_of _ (by decide +kernel)) ggX7_light_X7_save
set_option maxRecDepth 20000 in
theorem ggX7_light_X7_lightNow : GoodIn wsX7_light wsX7_lightNow := goodIn_r _ [47, 7, 27, 28, 29, 5, 30, 35, 36, 37, 48, 49, 50, 51, 52, 53, 54, 55, 64, 65, 66, 67, 68, 69, 70, 71, 72, 73, 74, 75, 76, 77, 78, 79, 80, 81, 82, 83, 84, 85] (by decide +kernel) (by decide +kernel)
set_option maxRecDepth 20000 in
theorem gX7_light_X7_lightNow : GoodIn wsX7_light (wsV RX7 103 RX7 yX7_lightNow wsX7_lightNow) := goodIn_app (goodIn_of _ (by decide +kernel)) ggX7_light_X7_lightNow
set_option maxRecDepth 20000 in
theorem ggX7_light_X7_flames : GoodIn wsX7_light wsX7_flames := goodIn_r _ [59, 7, 60, 61, 62, 5, 63, 27, 28, 29, 30, 64, 65, 66, 67, 68, 69, 70, 71, 72, 73, 74, 75, 76, 77, 78, 79, 80, 81, 82, 83, 84, 85] (by decide +kernel) (by decide +kernel)
set_option maxRecDepth 20000 in
theorem gX7_light_X7_flames : GoodIn wsX7_light (wsV RX7 107 RX7 yX7_flames wsX7_flames) := goodIn_app (goodIn_of _ (by decide +kernel)) ggX7_light_X7_flames
theorem dX7_light_0 : decode cX7_light 0 = .ok (.aload_n 0, 1) := by decide +kernel
theorem dX7_light_1 : decode cX7_light 1 = .ok (.iconst 0, 1) := by decide +kernel
theorem dX7_light_2 : decode cX7_light 2 = .ok (.putfield 53, 3) := by decide +kernel
theorem dX7_light_5 : decode cX7_light 5 = .ok (.aload_n 0, 1) := by decide +kernel
theorem dX7_light_6 : decode cX7_light 6 = .ok (.iload_n 1, 1) := by decide +kernel
theorem dX7_light_7 : decode cX7_light 7 = .ok (.invokevirtual 125, 3) := by decide +kernel
theorem dX7_light_10 : decode cX7_light 10 = .ok (.ifCond .ne 9, 3) := by decide +kernel
theorem dX7_light_13 : decode cX7_light 13 = .ok (.aload_n 0, 1) := by decide +kernel
theorem dX7_light_14 : decode cX7_light 14 = .ok (.iconst 1, 1) := by decide +kernel
theorem dX7_light_15 : decode cX7_light 15 = .ok (.invokevirtual 64, 3) := by decide +kernel
theorem dX7_light_18 : decode cX7_light 18 = .ok (.ireturn, 1) := by decide +kernel
theorem dX7_light_19 : decode cX7_light 19 = .ok (.aload_n 0, 1) := by decide +kernel
theorem dX7_light_20 : decode cX7_light 20 = .ok (.iload_n 1, 1) := by decide +kernel
theorem dX7_light_21 : decode cX7_light 21 = .ok (.iload_n 2, 1) := by decide +kernel
theorem dX7_light_22 : decode cX7_light 22 = .ok (.invokevirtual 99, 3) := by decide +kernel
theorem dX7_light_25 : decode cX7_light 25 = .ok (.ifCond .ne 9, 3) := by decide +kernel
theorem dX7_light_28 : decode cX7_light 28 = .ok (.aload_n 0, 1) := by decide +kernel
theorem dX7_light_29 : decode cX7_light 29 = .ok (.iconst 2, 1) := by decide +kernel
theorem dX7_light_30 : decode cX7_light 30 = .ok (.invokevirtual 64, 3) := by decide +kernel
theorem dX7_light_33 : decode cX7_light 33 = .ok (.ireturn, 1) := by decide +kernel
theorem dX7_light_34 : decode cX7_light 34 = .ok (.aload_n 0, 1) := by decide +kernel
theorem dX7_light_35 : decode cX7_light 35 = .ok (.invokevirtual 68, 3) := by decide +kernel
theorem dX7_light_38 : decode cX7_light 38 = .ok (.aload_n 0, 1) := by decide +kernel
theorem dX7_light_39 : decode cX7_light 39 = .ok (.iload_n 1, 1) := by decide +kernel
theorem dX7_light_40 : decode cX7_light 40 = .ok (.iload_n 2, 1) := by decide +kernel
theorem dX7_light_41 : decode cX7_light 41 = .ok (.invokevirtual 103, 3) := by decide +kernel
theorem dX7_light_44 : decode cX7_light 44 = .ok (.aload_n 0, 1) := by decide +kernel
theorem dX7_light_45 : decode cX7_light 45 = .ok (.invokevirtual 107, 3) := by decide +kernel
theorem dX7_light_48 : decode cX7_light 48 = .ok (.ireturn, 1) := by decide +kernel
set_option maxRecDepth 20000 in
theorem ggX7_putOut_X7_isCord : GoodIn wsX7_putOut wsX7_isCord := goodIn_r _ [6, 7, 8, 9, 5, 10, 40, 41, 42, 43, 44, 45, 46, 47, 48, 49, 50, 51, 52, 53, 54, 55, 56, 57, 58, 59, 60, 61] (by decide +kernel) (by decide +kernel)
set_option maxRecDepth 20000 in
theorem gX7_putOut_X7_isCord : GoodIn wsX7_putOut (wsV RX7 125 RX7 yX7_isCord wsX7_isCord) := goodIn_app (goodIn_of _ (by decide +kernel)) ggX7_putOut_X7_isCord
set_option maxRecDepth 20000 in
theorem ggX7_putOut_X7_fails : GoodIn wsX7_putOut wsX7_fails := goodIn_r _ [14, 1, 40, 41, 42, 43, 44, 45, 46, 47, 48, 49, 50, 51, 52, 53, 54, 55, 56, 57, 58, 59, 60, 61] (by decide +kernel) (by decide +kernel)
set_option maxRecDepth 20000 in
theorem gX7_putOut_X7_fails : GoodIn wsX7_putOut (wsV RX7 64 RX7 yX7_fails wsX7_fails) := goodIn_app (goodIn_of _ (by decide +kernel)) ggX7_putOut_X7_fails
set_option maxRecDepth 20000 in
theorem ggX7_putOut_X7_of : GoodIn wsX7_putOut wsX7_of := goodIn_r _ [18, 7, 40, 41, 42, 43, 44, 45, 46, 47, 48, 49, 50, 51, 52, 53, 54, 55, 56, 57, 58, 59, 60, 61] (by decide +kernel) (by decide +kernel)
set_option maxRecDepth 20000 in
theorem gX7_putOut_X7_of : GoodIn wsX7_putOut (wsV RX7 71 RX7 yX7_of wsX7_of) := goodIn_app (goodIn_of _ (by decide +kernel)) ggX7_putOut_X7_of
set_option maxRecDepth 20000 in
theorem ggX7_putOut_X7_side : GoodIn wsX7_putOut wsX7_side := goodIn_r _ [21] (by decide +kernel) (by decide +kernel)
set_option maxRecDepth 20000 in
theorem gX7_putOut_X7_side : GoodIn wsX7_putOut (va_wsS RX7 87 yX7_side wsX7_side) := goodIn_app (goodIn_of _ (by decide +kernel)) ggX7_putOut_X7_side
set_option maxRecDepth 20000 in
theorem ggX7_putOut_X7_save : GoodIn wsX7_putOut wsX7_save := goodIn_r _ [25, 26, 27, 7, 40, 41, 42, 43, 44, 45, 46, 47, 48, 49, 50, 51, 52, 53, 54, 55, 56, 57, 58, 59, 60, 61] (by decide +kernel) (by decide +kernel)
set_option maxRecDepth 20000 in
theorem gX7_putOut_X7_save : GoodIn wsX7_putOut (wsV RX7 68 RX7 yX7_save wsX7_save) := goodIn_app (goodIn_of _ (by decide +kernel)) ggX7_putOut_X7_save
set_option maxRecDepth 20000 in
theorem ggX7_putOut_X7_put : GoodIn wsX7_putOut wsX7_put := goodIn_r _ [31, 7, 40, 41, 42, 43, 44, 45, 46, 47, 48, 49, 50, 51, 52, 53, 54, 55, 56, 57, 58, 59, 60, 61] (by decide +kernel) (by decide +kernel)
set_option maxRecDepth 20000 in
theorem gX7_putOut_X7_put : GoodIn wsX7_putOut (wsV RX7 91 RX7 yX7_put wsX7_put) := goodIn_app (goodIn_of _ (by decide +kernel)) ggX7_putOut_X7_put
set_option maxRecDepth 20000 in
theorem ggX7_putOut_X7_flames : GoodIn wsX7_putOut wsX7_flames := goodIn_r _ [35, 7, 36, 37, 38, 5, 39, 15, 16, 17, 18, 40, 41, 42, 43, 44, 45, 46, 47, 48, 49, 50, 51, 52, 53, 54, 55, 56, 57, 58, 59, 60, 61] (by decide +kernel) (by decide +kernel)
set_option maxRecDepth 20000 in
theorem gX7_putOut_X7_flames : GoodIn wsX7_putOut (wsV RX7 107 RX7 yX7_flames wsX7_flames) := goodIn_app (goodIn_of _ (by decide +kernel)) ggX7_putOut_X7_flames
theorem dX7_putOut_0 : decode cX7_putOut 0 = .ok (.aload_n 0, 1) := by decide +kernel
theorem dX7_putOut_1 : decode cX7_putOut 1 = .ok (.iconst 0, 1) := by decide +kernel
theorem dX7_putOut_2 : decode cX7_putOut 2 = .ok (.putfield 53, 3) := by decide +kernel
theorem dX7_putOut_5 : decode cX7_putOut 5 = .ok (.aload_n 0, 1) := by decide +kernel
theorem dX7_putOut_6 : decode cX7_putOut 6 = .ok (.iload_n 1, 1) := by decide +kernel
theorem dX7_putOut_7 : decode cX7_putOut 7 = .ok (.invokevirtual 125, 3) := by decide +kernel
theorem dX7_putOut_10 : decode cX7_putOut 10 = .ok (.ifCond .ne 9, 3) := by decide +kernel
theorem dX7_putOut_13 : decode cX7_putOut 13 = .ok (.aload_n 0, 1) := by decide +kernel
theorem dX7_putOut_14 : decode cX7_putOut 14 = .ok (.iconst 1, 1) := by decide +kernel
theorem dX7_putOut_15 : decode cX7_putOut 15 = .ok (.invokevirtual 64, 3) := by decide +kernel
theorem dX7_putOut_18 : decode cX7_putOut 18 = .ok (.ireturn, 1) := by decide +kernel
theorem dX7_putOut_19 : decode cX7_putOut 19 = .ok (.aload_n 0, 1) := by decide +kernel
theorem dX7_putOut_20 : decode cX7_putOut 20 = .ok (.iload_n 1, 1) := by decide +kernel
theorem dX7_putOut_21 : decode cX7_putOut 21 = .ok (.bipush 9, 2) := by decide +kernel
theorem dX7_putOut_23 : decode cX7_putOut 23 = .ok (.invokevirtual 71, 3) := by decide +kernel
theorem dX7_putOut_26 : decode cX7_putOut 26 = .ok (.iload_n 2, 1) := by decide +kernel
theorem dX7_putOut_27 : decode cX7_putOut 27 = .ok (.invokestatic 87, 3) := by decide +kernel
theorem dX7_putOut_30 : decode cX7_putOut 30 = .ok (.iand, 1) := by decide +kernel
theorem dX7_putOut_31 : decode cX7_putOut 31 = .ok (.ifCond .ne 9, 3) := by decide +kernel
theorem dX7_putOut_34 : decode cX7_putOut 34 = .ok (.aload_n 0, 1) := by decide +kernel
theorem dX7_putOut_35 : decode cX7_putOut 35 = .ok (.iconst 2, 1) := by decide +kernel
theorem dX7_putOut_36 : decode cX7_putOut 36 = .ok (.invokevirtual 64, 3) := by decide +kernel
theorem dX7_putOut_39 : decode cX7_putOut 39 = .ok (.ireturn, 1) := by decide +kernel
theorem dX7_putOut_40 : decode cX7_putOut 40 = .ok (.aload_n 0, 1) := by decide +kernel
theorem dX7_putOut_41 : decode cX7_putOut 41 = .ok (.invokevirtual 68, 3) := by decide +kernel
theorem dX7_putOut_44 : decode cX7_putOut 44 = .ok (.aload_n 0, 1) := by decide +kernel
theorem dX7_putOut_45 : decode cX7_putOut 45 = .ok (.iload_n 1, 1) := by decide +kernel
theorem dX7_putOut_46 : decode cX7_putOut 46 = .ok (.bipush 9, 2) := by decide +kernel
theorem dX7_putOut_48 : decode cX7_putOut 48 = .ok (.aload_n 0, 1) := by decide +kernel
theorem dX7_putOut_49 : decode cX7_putOut 49 = .ok (.iload_n 1, 1) := by decide +kernel
theorem dX7_putOut_50 : decode cX7_putOut 50 = .ok (.bipush 9, 2) := by decide +kernel
theorem dX7_putOut_52 : decode cX7_putOut 52 = .ok (.invokevirtual 71, 3) := by decide +kernel
theorem dX7_putOut_55 : decode cX7_putOut 55 = .ok (.iload_n 2, 1) := by decide +kernel
theorem dX7_putOut_56 : decode cX7_putOut 56 = .ok (.invokestatic 87, 3) := by decide +kernel
theorem dX7_putOut_59 : decode cX7_putOut 59 = .ok (.isub, 1) := by decide +kernel
theorem dX7_putOut_60 : decode cX7_putOut 60 = .ok (.invokevirtual 91, 3) := by decide +kernel
theorem dX7_putOut_63 : decode cX7_putOut 63 = .ok (.aload_n 0, 1) := by decide +kernel
theorem dX7_putOut_64 : decode cX7_putOut 64 = .ok (.invokevirtual 107, 3) := by decide +kernel
theorem dX7_putOut_67 : decode cX7_putOut 67 = .ok (.ireturn, 1) := by decide +kernel
theorem dX7_addRule_0 : decode cX7_addRule 0 = .ok (.bipush 52, 2) := by decide +kernel
theorem dX7_addRule_2 : decode cX7_addRule 2 = .ok (.iconst 4, 1) := by decide +kernel
theorem dX7_addRule_3 : decode cX7_addRule 3 = .ok (.aload_n 0, 1) := by decide +kernel
theorem dX7_addRule_4 : decode cX7_addRule 4 = .ok (.getfield 7, 3) := by decide +kernel
theorem dX7_addRule_7 : decode cX7_addRule 7 = .ok (.bipush 51, 2) := by decide +kernel
theorem dX7_addRule_9 : decode cX7_addRule 9 = .ok (.iaload, 1) := by decide +kernel
theorem dX7_addRule_10 : decode cX7_addRule 10 = .ok (.imul, 1) := by decide +kernel
theorem dX7_addRule_11 : decode cX7_addRule 11 = .ok (.iadd, 1) := by decide +kernel
theorem dX7_addRule_12 : decode cX7_addRule 12 = .ok (.istore 4, 2) := by decide +kernel
theorem dX7_addRule_14 : decode cX7_addRule 14 = .ok (.aload_n 0, 1) := by decide +kernel
theorem dX7_addRule_15 : decode cX7_addRule 15 = .ok (.getfield 7, 3) := by decide +kernel
theorem dX7_addRule_18 : decode cX7_addRule 18 = .ok (.iload 4, 2) := by decide +kernel
theorem dX7_addRule_20 : decode cX7_addRule 20 = .ok (.iload_n 1, 1) := by decide +kernel
theorem dX7_addRule_21 : decode cX7_addRule 21 = .ok (.iastore, 1) := by decide +kernel
theorem dX7_addRule_22 : decode cX7_addRule 22 = .ok (.aload_n 0, 1) := by decide +kernel
theorem dX7_addRule_23 : decode cX7_addRule 23 = .ok (.getfield 7, 3) := by decide +kernel
theorem dX7_addRule_26 : decode cX7_addRule 26 = .ok (.iload 4, 2) := by decide +kernel
theorem dX7_addRule_28 : decode cX7_addRule 28 = .ok (.iconst 1, 1) := by decide +kernel
theorem dX7_addRule_29 : decode cX7_addRule 29 = .ok (.iadd, 1) := by decide +kernel
theorem dX7_addRule_30 : decode cX7_addRule 30 = .ok (.iload_n 2, 1) := by decide +kernel
theorem dX7_addRule_31 : decode cX7_addRule 31 = .ok (.iastore, 1) := by decide +kernel
theorem dX7_addRule_32 : decode cX7_addRule 32 = .ok (.aload_n 0, 1) := by decide +kernel
theorem dX7_addRule_33 : decode cX7_addRule 33 = .ok (.getfield 7, 3) := by decide +kernel
theorem dX7_addRule_36 : decode cX7_addRule 36 = .ok (.iload 4, 2) := by decide +kernel
theorem dX7_addRule_38 : decode cX7_addRule 38 = .ok (.iconst 2, 1) := by decide +kernel
theorem dX7_addRule_39 : decode cX7_addRule 39 = .ok (.iadd, 1) := by decide +kernel
theorem dX7_addRule_40 : decode cX7_addRule 40 = .ok (.iload_n 3, 1) := by decide +kernel
theorem dX7_addRule_41 : decode cX7_addRule 41 = .ok (.iastore, 1) := by decide +kernel
theorem dX7_addRule_42 : decode cX7_addRule 42 = .ok (.aload_n 0, 1) := by decide +kernel
theorem dX7_addRule_43 : decode cX7_addRule 43 = .ok (.getfield 7, 3) := by decide +kernel
theorem dX7_addRule_46 : decode cX7_addRule 46 = .ok (.iload 4, 2) := by decide +kernel
theorem dX7_addRule_48 : decode cX7_addRule 48 = .ok (.iconst 3, 1) := by decide +kernel
theorem dX7_addRule_49 : decode cX7_addRule 49 = .ok (.iadd, 1) := by decide +kernel
theorem dX7_addRule_50 : decode cX7_addRule 50 = .ok (.iconst 0, 1) := by decide +kernel
theorem dX7_addRule_51 : decode cX7_addRule 51 = .ok (.iastore, 1) := by decide +kernel
theorem dX7_addRule_52 : decode cX7_addRule 52 = .ok (.aload_n 0, 1) := by decide +kernel
theorem dX7_addRule_53 : decode cX7_addRule 53 = .ok (.getfield 7, 3) := by decide +kernel
theorem dX7_addRule_56 : decode cX7_addRule 56 = .ok (.bipush 51, 2) := by decide +kernel
theorem dX7_addRule_58 : decode cX7_addRule 58 = .ok (.dup2, 1) := by decide +kernel
theorem dX7_addRule_59 : decode cX7_addRule 59 = .ok (.iaload, 1) := by decide +kernel
theorem dX7_addRule_60 : decode cX7_addRule 60 = .ok (.iconst 1, 1) := by decide +kernel
theorem dX7_addRule_61 : decode cX7_addRule 61 = .ok (.iadd, 1) := by decide +kernel
theorem dX7_addRule_62 : decode cX7_addRule 62 = .ok (.iastore, 1) := by decide +kernel
theorem dX7_addRule_63 : decode cX7_addRule 63 = .ok (.aload_n 0, 1) := by decide +kernel
theorem dX7_addRule_64 : decode cX7_addRule 64 = .ok (.getfield 7, 3) := by decide +kernel
theorem dX7_addRule_67 : decode cX7_addRule 67 = .ok (.bipush 51, 2) := by decide +kernel
theorem dX7_addRule_69 : decode cX7_addRule 69 = .ok (.iaload, 1) := by decide +kernel
theorem dX7_addRule_70 : decode cX7_addRule 70 = .ok (.iconst 1, 1) := by decide +kernel
theorem dX7_addRule_71 : decode cX7_addRule 71 = .ok (.isub, 1) := by decide +kernel
theorem dX7_addRule_72 : decode cX7_addRule 72 = .ok (.ireturn, 1) := by decide +kernel
set_option maxRecDepth 20000 in
theorem ggX7_rule_X7_isCord : GoodIn wsX7_rule wsX7_isCord := goodIn_r _ [7, 2, 8, 9, 6, 10, 25, 26, 27, 28, 29, 30, 31, 32, 33, 34, 35, 36, 37, 38, 39, 40, 41, 42, 43, 44, 45, 46] (by decide +kernel) (by decide +kernel)
set_option maxRecDepth 20000 in
theorem gX7_rule_X7_isCord : GoodIn wsX7_rule (wsV RX7 125 RX7 yX7_isCord wsX7_isCord) := goodIn_app (goodIn_of _ (by decide +kernel)) ggX7_rule_X7_isCord
set_option maxRecDepth 20000 in
theorem ggX7_rule_X7_fails : GoodIn wsX7_rule wsX7_fails := goodIn_r _ [14, 1, 25, 26, 27, 28, 29, 30, 31, 32, 33, 34, 35, 36, 37, 38, 39, 40, 41, 42, 43, 44, 45, 46] (by decide +kernel) (by decide +kernel)
set_option maxRecDepth 20000 in
theorem gX7_rule_X7_fails : GoodIn wsX7_rule (wsV RX7 64 RX7 yX7_fails wsX7_fails) := goodIn_app (goodIn_of _ (by decide +kernel)) ggX7_rule_X7_fails
set_option maxRecDepth 20000 in
theorem ggX7_rule_X7_save : GoodIn wsX7_rule wsX7_save := goodIn_r _ [18, 19, 20, 2, 25, 26, 27, 28, 29, 30, 31, 32, 33, 34, 35, 36, 37, 38, 39, 40, 41, 42, 43, 44, 45, 46] (by decide +kernel) (by decide +kernel)
set_option maxRecDepth 20000 in
theorem gX7_rule_X7_save : GoodIn wsX7_rule (wsV RX7 68 RX7 yX7_save wsX7_save) := goodIn_app (goodIn_of _ (by decide +kernel)) ggX7_rule_X7_save
set_option maxRecDepth 20000 in
theorem ggX7_rule_X7_addRule : GoodIn wsX7_rule wsX7_addRule := goodIn_r _ [24, 2, 25, 26, 27, 28, 29, 30, 31, 32, 33, 34, 35, 36, 37, 38, 39, 40, 41, 42, 43, 44, 45, 46] (by decide +kernel) (by decide +kernel)
set_option maxRecDepth 20000 in
theorem gX7_rule_X7_addRule : GoodIn wsX7_rule (wsV RX7 132 RX7 yX7_addRule wsX7_addRule) := goodIn_app (goodIn_of _ (by decide +kernel)) ggX7_rule_X7_addRule
theorem dX7_rule_0 : decode cX7_rule 0 = .ok (.aload_n 0, 1) := by decide +kernel
theorem dX7_rule_1 : decode cX7_rule 1 = .ok (.iconst 0, 1) := by decide +kernel
theorem dX7_rule_2 : decode cX7_rule 2 = .ok (.putfield 53, 3) := by decide +kernel
theorem dX7_rule_5 : decode cX7_rule 5 = .ok (.aload_n 0, 1) := by decide +kernel
theorem dX7_rule_6 : decode cX7_rule 6 = .ok (.iload_n 1, 1) := by decide +kernel
theorem dX7_rule_7 : decode cX7_rule 7 = .ok (.invokevirtual 125, 3) := by decide +kernel
theorem dX7_rule_10 : decode cX7_rule 10 = .ok (.ifCond .eq 11, 3) := by decide +kernel
theorem dX7_rule_13 : decode cX7_rule 13 = .ok (.aload_n 0, 1) := by decide +kernel
theorem dX7_rule_14 : decode cX7_rule 14 = .ok (.iload_n 2, 1) := by decide +kernel
theorem dX7_rule_15 : decode cX7_rule 15 = .ok (.invokevirtual 125, 3) := by decide +kernel
theorem dX7_rule_18 : decode cX7_rule 18 = .ok (.ifCond .ne 9, 3) := by decide +kernel
theorem dX7_rule_21 : decode cX7_rule 21 = .ok (.aload_n 0, 1) := by decide +kernel
theorem dX7_rule_22 : decode cX7_rule 22 = .ok (.iconst 1, 1) := by decide +kernel
theorem dX7_rule_23 : decode cX7_rule 23 = .ok (.invokevirtual 64, 3) := by decide +kernel
theorem dX7_rule_26 : decode cX7_rule 26 = .ok (.ireturn, 1) := by decide +kernel
theorem dX7_rule_27 : decode cX7_rule 27 = .ok (.iload_n 1, 1) := by decide +kernel
theorem dX7_rule_28 : decode cX7_rule 28 = .ok (.iload_n 2, 1) := by decide +kernel
theorem dX7_rule_29 : decode cX7_rule 29 = .ok (.if_icmp .ne 9, 3) := by decide +kernel
theorem dX7_rule_32 : decode cX7_rule 32 = .ok (.aload_n 0, 1) := by decide +kernel
theorem dX7_rule_33 : decode cX7_rule 33 = .ok (.iconst 2, 1) := by decide +kernel
theorem dX7_rule_34 : decode cX7_rule 34 = .ok (.invokevirtual 64, 3) := by decide +kernel
theorem dX7_rule_37 : decode cX7_rule 37 = .ok (.ireturn, 1) := by decide +kernel
theorem dX7_rule_38 : decode cX7_rule 38 = .ok (.aload_n 0, 1) := by decide +kernel
theorem dX7_rule_39 : decode cX7_rule 39 = .ok (.getfield 7, 3) := by decide +kernel
theorem dX7_rule_42 : decode cX7_rule 42 = .ok (.bipush 51, 2) := by decide +kernel
theorem dX7_rule_44 : decode cX7_rule 44 = .ok (.iaload, 1) := by decide +kernel
theorem dX7_rule_45 : decode cX7_rule 45 = .ok (.bipush 8, 2) := by decide +kernel
theorem dX7_rule_47 : decode cX7_rule 47 = .ok (.if_icmp .ne 9, 3) := by decide +kernel
theorem dX7_rule_50 : decode cX7_rule 50 = .ok (.aload_n 0, 1) := by decide +kernel
theorem dX7_rule_51 : decode cX7_rule 51 = .ok (.iconst 3, 1) := by decide +kernel
theorem dX7_rule_52 : decode cX7_rule 52 = .ok (.invokevirtual 64, 3) := by decide +kernel
theorem dX7_rule_55 : decode cX7_rule 55 = .ok (.ireturn, 1) := by decide +kernel
theorem dX7_rule_56 : decode cX7_rule 56 = .ok (.aload_n 0, 1) := by decide +kernel
theorem dX7_rule_57 : decode cX7_rule 57 = .ok (.invokevirtual 68, 3) := by decide +kernel
theorem dX7_rule_60 : decode cX7_rule 60 = .ok (.aload_n 0, 1) := by decide +kernel
theorem dX7_rule_61 : decode cX7_rule 61 = .ok (.iload_n 1, 1) := by decide +kernel
theorem dX7_rule_62 : decode cX7_rule 62 = .ok (.iload_n 2, 1) := by decide +kernel
theorem dX7_rule_63 : decode cX7_rule 63 = .ok (.iload_n 3, 1) := by decide +kernel
theorem dX7_rule_64 : decode cX7_rule 64 = .ok (.ifCond .eq 7, 3) := by decide +kernel
theorem dX7_rule_67 : decode cX7_rule 67 = .ok (.iconst 1, 1) := by decide +kernel
theorem dX7_rule_68 : decode cX7_rule 68 = .ok (.goto 4, 3) := by decide +kernel
theorem dX7_rule_71 : decode cX7_rule 71 = .ok (.iconst 0, 1) := by decide +kernel
theorem dX7_rule_72 : decode cX7_rule 72 = .ok (.invokevirtual 132, 3) := by decide +kernel
theorem dX7_rule_75 : decode cX7_rule 75 = .ok (.ireturn, 1) := by decide +kernel
set_option maxRecDepth 20000 in
theorem ggX7_dropRules_X7_save : GoodIn wsX7_dropRules wsX7_save := goodIn_r _ [7, 8, 9, 2, 10, 11, 12, 13, 14, 15, 16, 17, 18, 19, 20, 21, 22, 23, 24, 25, 26, 27, 28, 29, 30, 31] (by decide +kernel) (by decide +kernel)
set_option maxRecDepth 20000 in
theorem gX7_dropRules_X7_save : GoodIn wsX7_dropRules (wsV RX7 68 RX7 yX7_save wsX7_save) := goodIn_app (goodIn_of _ (by decide +kernel)) ggX7_dropRules_X7_save
theorem dX7_dropRules_0 : decode cX7_dropRules 0 = .ok (.aload_n 0, 1) := by decide +kernel
theorem dX7_dropRules_1 : decode cX7_dropRules 1 = .ok (.iconst 0, 1) := by decide +kernel
theorem dX7_dropRules_2 : decode cX7_dropRules 2 = .ok (.putfield 53, 3) := by decide +kernel
theorem dX7_dropRules_5 : decode cX7_dropRules 5 = .ok (.aload_n 0, 1) := by decide +kernel
theorem dX7_dropRules_6 : decode cX7_dropRules 6 = .ok (.invokevirtual 68, 3) := by decide +kernel
theorem dX7_dropRules_9 : decode cX7_dropRules 9 = .ok (.aload_n 0, 1) := by decide +kernel
theorem dX7_dropRules_10 : decode cX7_dropRules 10 = .ok (.getfield 7, 3) := by decide +kernel
theorem dX7_dropRules_13 : decode cX7_dropRules 13 = .ok (.bipush 51, 2) := by decide +kernel
theorem dX7_dropRules_15 : decode cX7_dropRules 15 = .ok (.iaload, 1) := by decide +kernel
theorem dX7_dropRules_16 : decode cX7_dropRules 16 = .ok (.istore_n 1, 1) := by decide +kernel
theorem dX7_dropRules_17 : decode cX7_dropRules 17 = .ok (.aload_n 0, 1) := by decide +kernel
theorem dX7_dropRules_18 : decode cX7_dropRules 18 = .ok (.getfield 7, 3) := by decide +kernel
theorem dX7_dropRules_21 : decode cX7_dropRules 21 = .ok (.bipush 51, 2) := by decide +kernel
theorem dX7_dropRules_23 : decode cX7_dropRules 23 = .ok (.iconst 0, 1) := by decide +kernel
theorem dX7_dropRules_24 : decode cX7_dropRules 24 = .ok (.iastore, 1) := by decide +kernel
theorem dX7_dropRules_25 : decode cX7_dropRules 25 = .ok (.iconst 0, 1) := by decide +kernel
theorem dX7_dropRules_26 : decode cX7_dropRules 26 = .ok (.istore_n 2, 1) := by decide +kernel
theorem dX7_dropRules_27 : decode cX7_dropRules 27 = .ok (.iload_n 2, 1) := by decide +kernel
theorem dX7_dropRules_28 : decode cX7_dropRules 28 = .ok (.bipush 32, 2) := by decide +kernel
theorem dX7_dropRules_30 : decode cX7_dropRules 30 = .ok (.if_icmp .ge 19, 3) := by decide +kernel
theorem dX7_dropRules_33 : decode cX7_dropRules 33 = .ok (.aload_n 0, 1) := by decide +kernel
theorem dX7_dropRules_34 : decode cX7_dropRules 34 = .ok (.getfield 7, 3) := by decide +kernel
theorem dX7_dropRules_37 : decode cX7_dropRules 37 = .ok (.bipush 52, 2) := by decide +kernel
theorem dX7_dropRules_39 : decode cX7_dropRules 39 = .ok (.iload_n 2, 1) := by decide +kernel
theorem dX7_dropRules_40 : decode cX7_dropRules 40 = .ok (.iadd, 1) := by decide +kernel
theorem dX7_dropRules_41 : decode cX7_dropRules 41 = .ok (.iconst 0, 1) := by decide +kernel
theorem dX7_dropRules_42 : decode cX7_dropRules 42 = .ok (.iastore, 1) := by decide +kernel
theorem dX7_dropRules_43 : decode cX7_dropRules 43 = .ok (.iinc 2 1, 3) := by decide +kernel
theorem dX7_dropRules_46 : decode cX7_dropRules 46 = .ok (.goto (-19), 3) := by decide +kernel
theorem dX7_dropRules_49 : decode cX7_dropRules 49 = .ok (.iload_n 1, 1) := by decide +kernel
theorem dX7_dropRules_50 : decode cX7_dropRules 50 = .ok (.ireturn, 1) := by decide +kernel
set_option maxRecDepth 20000 in
theorem ggX7_run_X7_in : GoodIn wsX7_run wsX7_in := goodIn_r _ [5] (by decide +kernel) (by decide +kernel)
set_option maxRecDepth 20000 in
theorem gX7_run_X7_in : GoodIn wsX7_run (va_wsS RX7 57 yX7_in wsX7_in) := goodIn_app (goodIn_of _ (by decide +kernel)) ggX7_run_X7_in
set_option maxRecDepth 20000 in
theorem ggX7_run_X7_fails : GoodIn wsX7_run wsX7_fails := goodIn_r _ [9, 1, 76, 77, 78, 79, 80, 81, 82, 83, 84, 85, 86, 87, 88, 89, 90, 91, 92, 93, 94, 95, 96, 97] (by decide +kernel) (by decide +kernel)
set_option maxRecDepth 20000 in
theorem gX7_run_X7_fails : GoodIn wsX7_run (wsV RX7 64 RX7 yX7_fails wsX7_fails) := goodIn_app (goodIn_of _ (by decide +kernel)) ggX7_run_X7_fails
set_option maxRecDepth 20000 in
theorem ggX7_run_X7_save : GoodIn wsX7_run wsX7_save := goodIn_r _ [13, 14, 15, 16, 76, 77, 78, 79, 80, 81, 82, 83, 84, 85, 86, 87, 88, 89, 90, 91, 92, 93, 94, 95, 96, 97] (by decide +kernel) (by decide +kernel)
set_option maxRecDepth 20000 in
theorem gX7_run_X7_save : GoodIn wsX7_run (wsV RX7 68 RX7 yX7_save wsX7_save) := goodIn_app (goodIn_of _ (by decide +kernel)) ggX7_run_X7_save
set_option maxRecDepth 20000 in
theorem ggX7_run_X7_runNow : GoodIn wsX7_run wsX7_runNow := goodIn_r _ [20, 21, 22, 23, 4, 24, 16, 25, 26, 27, 28, 29, 30, 31, 32, 33, 34, 35, 36, 37, 38, 39, 40, 41, 42, 43, 44, 45, 46, 47, 48, 49, 50, 51, 52, 53, 54, 55, 56, 57, 58, 59, 60, 61, 62, 63, 64, 65, 66, 67, 68, 69, 70, 71, 72, 73, 74, 75, 76, 77, 78, 79, 80, 81, 82, 83, 84, 85, 86, 87, 88, 89, 90, 91, 92, 93, 94, 95, 96, 97] (by decide +kernel) (by decide +kernel)
set_option maxRecDepth 20000 in
theorem gX7_run_X7_runNow : GoodIn wsX7_run (wsV RX7 136 RX7 yX7_runNow wsX7_runNow) := goodIn_app (goodIn_of _ (by decide +kernel)) ggX7_run_X7_runNow
theorem dX7_run_0 : decode cX7_run 0 = .ok (.aload_n 0, 1) := by decide +kernel
theorem dX7_run_1 : decode cX7_run 1 = .ok (.iconst 0, 1) := by decide +kernel
theorem dX7_run_2 : decode cX7_run 2 = .ok (.putfield 53, 3) := by decide +kernel
theorem dX7_run_5 : decode cX7_run 5 = .ok (.iload_n 1, 1) := by decide +kernel
theorem dX7_run_6 : decode cX7_run 6 = .ok (.iconst 1, 1) := by decide +kernel
theorem dX7_run_7 : decode cX7_run 7 = .ok (.sipush 200, 3) := by decide +kernel
theorem dX7_run_10 : decode cX7_run 10 = .ok (.invokestatic 57, 3) := by decide +kernel
theorem dX7_run_13 : decode cX7_run 13 = .ok (.ifCond .ne 9, 3) := by decide +kernel
theorem dX7_run_16 : decode cX7_run 16 = .ok (.aload_n 0, 1) := by decide +kernel
theorem dX7_run_17 : decode cX7_run 17 = .ok (.iconst 1, 1) := by decide +kernel
theorem dX7_run_18 : decode cX7_run 18 = .ok (.invokevirtual 64, 3) := by decide +kernel
theorem dX7_run_21 : decode cX7_run 21 = .ok (.ireturn, 1) := by decide +kernel
theorem dX7_run_22 : decode cX7_run 22 = .ok (.aload_n 0, 1) := by decide +kernel
theorem dX7_run_23 : decode cX7_run 23 = .ok (.invokevirtual 68, 3) := by decide +kernel
theorem dX7_run_26 : decode cX7_run 26 = .ok (.aload_n 0, 1) := by decide +kernel
theorem dX7_run_27 : decode cX7_run 27 = .ok (.iload_n 1, 1) := by decide +kernel
theorem dX7_run_28 : decode cX7_run 28 = .ok (.invokevirtual 136, 3) := by decide +kernel
theorem dX7_run_31 : decode cX7_run 31 = .ok (.ireturn, 1) := by decide +kernel
set_option maxRecDepth 20000 in
theorem ggX7_append_X7_in : GoodIn wsX7_append wsX7_in := goodIn_r _ [7] (by decide +kernel) (by decide +kernel)
set_option maxRecDepth 20000 in
theorem gX7_append_X7_in : GoodIn wsX7_append (va_wsS RX7 57 yX7_in wsX7_in) := goodIn_app (goodIn_of _ (by decide +kernel)) ggX7_append_X7_in
set_option maxRecDepth 20000 in
theorem ggX7_append_X7_fails : GoodIn wsX7_append wsX7_fails := goodIn_r _ [11, 1, 12, 13, 14, 15, 16, 17, 18, 19, 20, 21, 22, 23, 24, 25, 26, 27, 28, 29, 30, 31, 32, 33] (by decide +kernel) (by decide +kernel)
set_option maxRecDepth 20000 in
theorem gX7_append_X7_fails : GoodIn wsX7_append (wsV RX7 64 RX7 yX7_fails wsX7_fails) := goodIn_app (goodIn_of _ (by decide +kernel)) ggX7_append_X7_fails
theorem dX7_append_0 : decode cX7_append 0 = .ok (.aload_n 0, 1) := by decide +kernel
theorem dX7_append_1 : decode cX7_append 1 = .ok (.iconst 0, 1) := by decide +kernel
theorem dX7_append_2 : decode cX7_append 2 = .ok (.putfield 53, 3) := by decide +kernel
theorem dX7_append_5 : decode cX7_append 5 = .ok (.iload_n 1, 1) := by decide +kernel
theorem dX7_append_6 : decode cX7_append 6 = .ok (.bipush 33, 2) := by decide +kernel
theorem dX7_append_8 : decode cX7_append 8 = .ok (.bipush 126, 2) := by decide +kernel
theorem dX7_append_10 : decode cX7_append 10 = .ok (.invokestatic 57, 3) := by decide +kernel
theorem dX7_append_13 : decode cX7_append 13 = .ok (.ifCond .ne 9, 3) := by decide +kernel
theorem dX7_append_16 : decode cX7_append 16 = .ok (.aload_n 0, 1) := by decide +kernel
theorem dX7_append_17 : decode cX7_append 17 = .ok (.iconst 1, 1) := by decide +kernel
theorem dX7_append_18 : decode cX7_append 18 = .ok (.invokevirtual 64, 3) := by decide +kernel
theorem dX7_append_21 : decode cX7_append 21 = .ok (.ireturn, 1) := by decide +kernel
theorem dX7_append_22 : decode cX7_append 22 = .ok (.aload_n 0, 1) := by decide +kernel
theorem dX7_append_23 : decode cX7_append 23 = .ok (.getfield 139, 3) := by decide +kernel
theorem dX7_append_26 : decode cX7_append 26 = .ok (.bipush 60, 2) := by decide +kernel
theorem dX7_append_28 : decode cX7_append 28 = .ok (.if_icmp .ne 9, 3) := by decide +kernel
theorem dX7_append_31 : decode cX7_append 31 = .ok (.aload_n 0, 1) := by decide +kernel
theorem dX7_append_32 : decode cX7_append 32 = .ok (.iconst 2, 1) := by decide +kernel
theorem dX7_append_33 : decode cX7_append 33 = .ok (.invokevirtual 64, 3) := by decide +kernel
theorem dX7_append_36 : decode cX7_append 36 = .ok (.ireturn, 1) := by decide +kernel
theorem dX7_append_37 : decode cX7_append 37 = .ok (.aload_n 0, 1) := by decide +kernel
theorem dX7_append_38 : decode cX7_append 38 = .ok (.getfield 26, 3) := by decide +kernel
theorem dX7_append_41 : decode cX7_append 41 = .ok (.aload_n 0, 1) := by decide +kernel
theorem dX7_append_42 : decode cX7_append 42 = .ok (.getfield 139, 3) := by decide +kernel
theorem dX7_append_45 : decode cX7_append 45 = .ok (.iload_n 1, 1) := by decide +kernel
theorem dX7_append_46 : decode cX7_append 46 = .ok (.iastore, 1) := by decide +kernel
theorem dX7_append_47 : decode cX7_append 47 = .ok (.aload_n 0, 1) := by decide +kernel
theorem dX7_append_48 : decode cX7_append 48 = .ok (.dup, 1) := by decide +kernel
theorem dX7_append_49 : decode cX7_append 49 = .ok (.getfield 139, 3) := by decide +kernel
theorem dX7_append_52 : decode cX7_append 52 = .ok (.iconst 1, 1) := by decide +kernel
theorem dX7_append_53 : decode cX7_append 53 = .ok (.iadd, 1) := by decide +kernel
theorem dX7_append_54 : decode cX7_append 54 = .ok (.putfield 139, 3) := by decide +kernel
theorem dX7_append_57 : decode cX7_append 57 = .ok (.aload_n 0, 1) := by decide +kernel
theorem dX7_append_58 : decode cX7_append 58 = .ok (.getfield 139, 3) := by decide +kernel
theorem dX7_append_61 : decode cX7_append 61 = .ok (.ireturn, 1) := by decide +kernel
theorem dX7_clearBuffer_0 : decode cX7_clearBuffer 0 = .ok (.aload_n 0, 1) := by decide +kernel
theorem dX7_clearBuffer_1 : decode cX7_clearBuffer 1 = .ok (.iconst 0, 1) := by decide +kernel
theorem dX7_clearBuffer_2 : decode cX7_clearBuffer 2 = .ok (.putfield 53, 3) := by decide +kernel
theorem dX7_clearBuffer_5 : decode cX7_clearBuffer 5 = .ok (.aload_n 0, 1) := by decide +kernel
theorem dX7_clearBuffer_6 : decode cX7_clearBuffer 6 = .ok (.getfield 139, 3) := by decide +kernel
theorem dX7_clearBuffer_9 : decode cX7_clearBuffer 9 = .ok (.istore_n 1, 1) := by decide +kernel
theorem dX7_clearBuffer_10 : decode cX7_clearBuffer 10 = .ok (.aload_n 0, 1) := by decide +kernel
theorem dX7_clearBuffer_11 : decode cX7_clearBuffer 11 = .ok (.iconst 0, 1) := by decide +kernel
theorem dX7_clearBuffer_12 : decode cX7_clearBuffer 12 = .ok (.putfield 139, 3) := by decide +kernel
theorem dX7_clearBuffer_15 : decode cX7_clearBuffer 15 = .ok (.iload_n 1, 1) := by decide +kernel
theorem dX7_clearBuffer_16 : decode cX7_clearBuffer 16 = .ok (.ireturn, 1) := by decide +kernel
theorem dX7_sign_0 : decode cX7_sign 0 = .ok (.aload_n 0, 1) := by decide +kernel
theorem dX7_sign_1 : decode cX7_sign 1 = .ok (.getfield 142, 3) := by decide +kernel
theorem dX7_sign_4 : decode cX7_sign 4 = .ok (.aload_n 0, 1) := by decide +kernel
theorem dX7_sign_5 : decode cX7_sign 5 = .ok (.getfield 139, 3) := by decide +kernel
theorem dX7_sign_8 : decode cX7_sign 8 = .ok (.if_icmp .ge 15, 3) := by decide +kernel
theorem dX7_sign_11 : decode cX7_sign 11 = .ok (.aload_n 0, 1) := by decide +kernel
theorem dX7_sign_12 : decode cX7_sign 12 = .ok (.getfield 26, 3) := by decide +kernel
theorem dX7_sign_15 : decode cX7_sign 15 = .ok (.aload_n 0, 1) := by decide +kernel
theorem dX7_sign_16 : decode cX7_sign 16 = .ok (.getfield 142, 3) := by decide +kernel
theorem dX7_sign_19 : decode cX7_sign 19 = .ok (.iaload, 1) := by decide +kernel
theorem dX7_sign_20 : decode cX7_sign 20 = .ok (.goto 4, 3) := by decide +kernel
theorem dX7_sign_23 : decode cX7_sign 23 = .ok (.iconst 0, 1) := by decide +kernel
theorem dX7_sign_24 : decode cX7_sign 24 = .ok (.ireturn, 1) := by decide +kernel
set_option maxRecDepth 20000 in
theorem ggX7_takes_X7_sign : GoodIn wsX7_takes wsX7_sign := goodIn_r _ [6, 1, 7, 8, 9, 10, 11, 12, 13, 14, 15, 16, 17, 18, 19, 20, 21, 22, 23, 24, 25, 26, 27, 28, 29, 30] (by decide +kernel) (by decide +kernel)
set_option maxRecDepth 20000 in
theorem gX7_takes_X7_sign : GoodIn wsX7_takes (wsV RX7 145 RX7 yX7_sign wsX7_sign) := goodIn_app (goodIn_of _ (by decide +kernel)) ggX7_takes_X7_sign
theorem dX7_takes_0 : decode cX7_takes 0 = .ok (.aload_n 0, 1) := by decide +kernel
theorem dX7_takes_1 : decode cX7_takes 1 = .ok (.invokevirtual 145, 3) := by decide +kernel
theorem dX7_takes_4 : decode cX7_takes 4 = .ok (.iload_n 1, 1) := by decide +kernel
theorem dX7_takes_5 : decode cX7_takes 5 = .ok (.if_icmp .ne 7, 3) := by decide +kernel
theorem dX7_takes_8 : decode cX7_takes 8 = .ok (.iconst 1, 1) := by decide +kernel
theorem dX7_takes_9 : decode cX7_takes 9 = .ok (.goto 4, 3) := by decide +kernel
theorem dX7_takes_12 : decode cX7_takes 12 = .ok (.iconst 0, 1) := by decide +kernel
theorem dX7_takes_13 : decode cX7_takes 13 = .ok (.istore_n 2, 1) := by decide +kernel
theorem dX7_takes_14 : decode cX7_takes 14 = .ok (.aload_n 0, 1) := by decide +kernel
theorem dX7_takes_15 : decode cX7_takes 15 = .ok (.dup, 1) := by decide +kernel
theorem dX7_takes_16 : decode cX7_takes 16 = .ok (.getfield 142, 3) := by decide +kernel
theorem dX7_takes_19 : decode cX7_takes 19 = .ok (.iload_n 2, 1) := by decide +kernel
theorem dX7_takes_20 : decode cX7_takes 20 = .ok (.ifCond .eq 7, 3) := by decide +kernel
theorem dX7_takes_23 : decode cX7_takes 23 = .ok (.iconst 1, 1) := by decide +kernel
theorem dX7_takes_24 : decode cX7_takes 24 = .ok (.goto 4, 3) := by decide +kernel
theorem dX7_takes_27 : decode cX7_takes 27 = .ok (.iconst 0, 1) := by decide +kernel
theorem dX7_takes_28 : decode cX7_takes 28 = .ok (.iadd, 1) := by decide +kernel
theorem dX7_takes_29 : decode cX7_takes 29 = .ok (.putfield 142, 3) := by decide +kernel
theorem dX7_takes_32 : decode cX7_takes 32 = .ok (.iload_n 2, 1) := by decide +kernel
theorem dX7_takes_33 : decode cX7_takes 33 = .ok (.ireturn, 1) := by decide +kernel
set_option maxRecDepth 20000 in
theorem ggX7_readsNumber_X7_sign : GoodIn wsX7_readsNumber wsX7_sign := goodIn_r _ [7, 2, 8, 9, 13, 14, 15, 16, 17, 18, 19, 20, 21, 22, 23, 24, 25, 26, 27, 28, 29, 30, 31, 32, 33, 34] (by decide +kernel) (by decide +kernel)
set_option maxRecDepth 20000 in
theorem gX7_readsNumber_X7_sign : GoodIn wsX7_readsNumber (wsV RX7 145 RX7 yX7_sign wsX7_sign) := goodIn_app (goodIn_of _ (by decide +kernel)) ggX7_readsNumber_X7_sign
set_option maxRecDepth 20000 in
theorem ggX7_readsNumber_X7_in : GoodIn wsX7_readsNumber wsX7_in := goodIn_r _ [12] (by decide +kernel) (by decide +kernel)
set_option maxRecDepth 20000 in
theorem gX7_readsNumber_X7_in : GoodIn wsX7_readsNumber (va_wsS RX7 57 yX7_in wsX7_in) := goodIn_app (goodIn_of _ (by decide +kernel)) ggX7_readsNumber_X7_in
theorem dX7_readsNumber_0 : decode cX7_readsNumber 0 = .ok (.aload_n 0, 1) := by decide +kernel
theorem dX7_readsNumber_1 : decode cX7_readsNumber 1 = .ok (.iconst 0, 1) := by decide +kernel
theorem dX7_readsNumber_2 : decode cX7_readsNumber 2 = .ok (.putfield 148, 3) := by decide +kernel
theorem dX7_readsNumber_5 : decode cX7_readsNumber 5 = .ok (.aload_n 0, 1) := by decide +kernel
theorem dX7_readsNumber_6 : decode cX7_readsNumber 6 = .ok (.invokevirtual 145, 3) := by decide +kernel
theorem dX7_readsNumber_9 : decode cX7_readsNumber 9 = .ok (.aload_n 0, 1) := by decide +kernel
theorem dX7_readsNumber_10 : decode cX7_readsNumber 10 = .ok (.getfield 148, 3) := by decide +kernel
theorem dX7_readsNumber_13 : decode cX7_readsNumber 13 = .ok (.ifCond .ne 8, 3) := by decide +kernel
theorem dX7_readsNumber_16 : decode cX7_readsNumber 16 = .ok (.bipush 49, 2) := by decide +kernel
theorem dX7_readsNumber_18 : decode cX7_readsNumber 18 = .ok (.goto 5, 3) := by decide +kernel
theorem dX7_readsNumber_21 : decode cX7_readsNumber 21 = .ok (.bipush 48, 2) := by decide +kernel
theorem dX7_readsNumber_23 : decode cX7_readsNumber 23 = .ok (.bipush 57, 2) := by decide +kernel
theorem dX7_readsNumber_25 : decode cX7_readsNumber 25 = .ok (.invokestatic 57, 3) := by decide +kernel
theorem dX7_readsNumber_28 : decode cX7_readsNumber 28 = .ok (.ifCond .eq 54, 3) := by decide +kernel
theorem dX7_readsNumber_31 : decode cX7_readsNumber 31 = .ok (.bipush 10, 2) := by decide +kernel
theorem dX7_readsNumber_33 : decode cX7_readsNumber 33 = .ok (.aload_n 0, 1) := by decide +kernel
theorem dX7_readsNumber_34 : decode cX7_readsNumber 34 = .ok (.getfield 148, 3) := by decide +kernel
theorem dX7_readsNumber_37 : decode cX7_readsNumber 37 = .ok (.imul, 1) := by decide +kernel
theorem dX7_readsNumber_38 : decode cX7_readsNumber 38 = .ok (.aload_n 0, 1) := by decide +kernel
theorem dX7_readsNumber_39 : decode cX7_readsNumber 39 = .ok (.invokevirtual 145, 3) := by decide +kernel
theorem dX7_readsNumber_42 : decode cX7_readsNumber 42 = .ok (.iadd, 1) := by decide +kernel
theorem dX7_readsNumber_43 : decode cX7_readsNumber 43 = .ok (.bipush 48, 2) := by decide +kernel
theorem dX7_readsNumber_45 : decode cX7_readsNumber 45 = .ok (.isub, 1) := by decide +kernel
theorem dX7_readsNumber_46 : decode cX7_readsNumber 46 = .ok (.iload_n 1, 1) := by decide +kernel
theorem dX7_readsNumber_47 : decode cX7_readsNumber 47 = .ok (.if_icmp .gt 35, 3) := by decide +kernel
theorem dX7_readsNumber_50 : decode cX7_readsNumber 50 = .ok (.aload_n 0, 1) := by decide +kernel
theorem dX7_readsNumber_51 : decode cX7_readsNumber 51 = .ok (.bipush 10, 2) := by decide +kernel
theorem dX7_readsNumber_53 : decode cX7_readsNumber 53 = .ok (.aload_n 0, 1) := by decide +kernel
theorem dX7_readsNumber_54 : decode cX7_readsNumber 54 = .ok (.getfield 148, 3) := by decide +kernel
theorem dX7_readsNumber_57 : decode cX7_readsNumber 57 = .ok (.imul, 1) := by decide +kernel
theorem dX7_readsNumber_58 : decode cX7_readsNumber 58 = .ok (.aload_n 0, 1) := by decide +kernel
theorem dX7_readsNumber_59 : decode cX7_readsNumber 59 = .ok (.invokevirtual 145, 3) := by decide +kernel
theorem dX7_readsNumber_62 : decode cX7_readsNumber 62 = .ok (.iadd, 1) := by decide +kernel
theorem dX7_readsNumber_63 : decode cX7_readsNumber 63 = .ok (.bipush 48, 2) := by decide +kernel
theorem dX7_readsNumber_65 : decode cX7_readsNumber 65 = .ok (.isub, 1) := by decide +kernel
theorem dX7_readsNumber_66 : decode cX7_readsNumber 66 = .ok (.putfield 148, 3) := by decide +kernel
theorem dX7_readsNumber_69 : decode cX7_readsNumber 69 = .ok (.aload_n 0, 1) := by decide +kernel
theorem dX7_readsNumber_70 : decode cX7_readsNumber 70 = .ok (.dup, 1) := by decide +kernel
theorem dX7_readsNumber_71 : decode cX7_readsNumber 71 = .ok (.getfield 142, 3) := by decide +kernel
theorem dX7_readsNumber_74 : decode cX7_readsNumber 74 = .ok (.iconst 1, 1) := by decide +kernel
theorem dX7_readsNumber_75 : decode cX7_readsNumber 75 = .ok (.iadd, 1) := by decide +kernel
theorem dX7_readsNumber_76 : decode cX7_readsNumber 76 = .ok (.putfield 142, 3) := by decide +kernel
theorem dX7_readsNumber_79 : decode cX7_readsNumber 79 = .ok (.goto (-74), 3) := by decide +kernel
theorem dX7_readsNumber_82 : decode cX7_readsNumber 82 = .ok (.aload_n 0, 1) := by decide +kernel
theorem dX7_readsNumber_83 : decode cX7_readsNumber 83 = .ok (.getfield 148, 3) := by decide +kernel
theorem dX7_readsNumber_86 : decode cX7_readsNumber 86 = .ok (.ifCond .le 7, 3) := by decide +kernel
theorem dX7_readsNumber_89 : decode cX7_readsNumber 89 = .ok (.iconst 1, 1) := by decide +kernel
theorem dX7_readsNumber_90 : decode cX7_readsNumber 90 = .ok (.goto 4, 3) := by decide +kernel
theorem dX7_readsNumber_93 : decode cX7_readsNumber 93 = .ok (.iconst 0, 1) := by decide +kernel
theorem dX7_readsNumber_94 : decode cX7_readsNumber 94 = .ok (.ireturn, 1) := by decide +kernel
set_option maxRecDepth 20000 in
theorem ggX7_readsCord_X7_sign : GoodIn wsX7_readsCord wsX7_sign := goodIn_r _ [7, 2, 8, 9, 13, 14, 15, 16, 17, 18, 19, 20, 21, 22, 23, 24, 25, 26, 27, 28, 29, 30, 31, 32, 33, 34] (by decide +kernel) (by decide +kernel)
set_option maxRecDepth 20000 in
theorem gX7_readsCord_X7_sign : GoodIn wsX7_readsCord (wsV RX7 145 RX7 yX7_sign wsX7_sign) := goodIn_app (goodIn_of _ (by decide +kernel)) ggX7_readsCord_X7_sign
set_option maxRecDepth 20000 in
theorem ggX7_readsCord_X7_in : GoodIn wsX7_readsCord wsX7_in := goodIn_r _ [12] (by decide +kernel) (by decide +kernel)
set_option maxRecDepth 20000 in
theorem gX7_readsCord_X7_in : GoodIn wsX7_readsCord (va_wsS RX7 57 yX7_in wsX7_in) := goodIn_app (goodIn_of _ (by decide +kernel)) ggX7_readsCord_X7_in
theorem dX7_readsCord_0 : decode cX7_readsCord 0 = .ok (.aload_n 0, 1) := by decide +kernel
theorem dX7_readsCord_1 : decode cX7_readsCord 1 = .ok (.invokevirtual 145, 3) := by decide +kernel
theorem dX7_readsCord_4 : decode cX7_readsCord 4 = .ok (.bipush 48, 2) := by decide +kernel
theorem dX7_readsCord_6 : decode cX7_readsCord 6 = .ok (.bipush 51, 2) := by decide +kernel
theorem dX7_readsCord_8 : decode cX7_readsCord 8 = .ok (.invokestatic 57, 3) := by decide +kernel
theorem dX7_readsCord_11 : decode cX7_readsCord 11 = .ok (.ifCond .ne 5, 3) := by decide +kernel
theorem dX7_readsCord_14 : decode cX7_readsCord 14 = .ok (.iconst 0, 1) := by decide +kernel
theorem dX7_readsCord_15 : decode cX7_readsCord 15 = .ok (.ireturn, 1) := by decide +kernel
theorem dX7_readsCord_16 : decode cX7_readsCord 16 = .ok (.aload_n 0, 1) := by decide +kernel
theorem dX7_readsCord_17 : decode cX7_readsCord 17 = .ok (.aload_n 0, 1) := by decide +kernel
theorem dX7_readsCord_18 : decode cX7_readsCord 18 = .ok (.invokevirtual 145, 3) := by decide +kernel
theorem dX7_readsCord_21 : decode cX7_readsCord 21 = .ok (.bipush 48, 2) := by decide +kernel
theorem dX7_readsCord_23 : decode cX7_readsCord 23 = .ok (.isub, 1) := by decide +kernel
theorem dX7_readsCord_24 : decode cX7_readsCord 24 = .ok (.putfield 148, 3) := by decide +kernel
theorem dX7_readsCord_27 : decode cX7_readsCord 27 = .ok (.aload_n 0, 1) := by decide +kernel
theorem dX7_readsCord_28 : decode cX7_readsCord 28 = .ok (.dup, 1) := by decide +kernel
theorem dX7_readsCord_29 : decode cX7_readsCord 29 = .ok (.getfield 142, 3) := by decide +kernel
theorem dX7_readsCord_32 : decode cX7_readsCord 32 = .ok (.iconst 1, 1) := by decide +kernel
theorem dX7_readsCord_33 : decode cX7_readsCord 33 = .ok (.iadd, 1) := by decide +kernel
