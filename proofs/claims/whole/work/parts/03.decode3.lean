theorem dX7_readsCord_34 : decode cX7_readsCord 34 = .ok (.putfield 142, 3) := by decide +kernel
theorem dX7_readsCord_37 : decode cX7_readsCord 37 = .ok (.iconst 1, 1) := by decide +kernel
theorem dX7_readsCord_38 : decode cX7_readsCord 38 = .ok (.ireturn, 1) := by decide +kernel
set_option maxRecDepth 20000 in
theorem ggX7_readsSide_X7_sign : GoodIn wsX7_readsSide wsX7_sign := goodIn_r _ [7, 8, 9, 10, 15, 16, 17, 18, 19, 20, 21, 22, 23, 24, 25, 26, 27, 28, 29, 30, 31, 32, 33, 34, 35, 36] (by decide +kernel) (by decide +kernel)
set_option maxRecDepth 20000 in
theorem gX7_readsSide_X7_sign : GoodIn wsX7_readsSide (wsV RX7 145 RX7 yX7_sign wsX7_sign) := goodIn_app (goodIn_of _ (by decide +kernel)) ggX7_readsSide_X7_sign
set_option maxRecDepth 20000 in
theorem ggX7_readsSide_X7_takes : GoodIn wsX7_readsSide wsX7_takes := goodIn_r _ [14, 8, 3, 4, 5, 6, 7, 9, 10, 15, 16, 17, 18, 19, 20, 21, 22, 23, 24, 25, 26, 27, 28, 29, 30, 31, 32, 33, 34, 35, 36] (by decide +kernel) (by decide +kernel)
set_option maxRecDepth 20000 in
theorem gX7_readsSide_X7_takes : GoodIn wsX7_readsSide (wsV RX7 154 RX7 yX7_takes wsX7_takes) := goodIn_app (goodIn_of _ (by decide +kernel)) ggX7_readsSide_X7_takes
theorem dX7_readsSide_0 : decode cX7_readsSide 0 = .ok (.aload_n 0, 1) := by decide +kernel
theorem dX7_readsSide_1 : decode cX7_readsSide 1 = .ok (.getfield 38, 3) := by decide +kernel
theorem dX7_readsSide_4 : decode cX7_readsSide 4 = .ok (.aload_n 0, 1) := by decide +kernel
theorem dX7_readsSide_5 : decode cX7_readsSide 5 = .ok (.getfield 151, 3) := by decide +kernel
theorem dX7_readsSide_8 : decode cX7_readsSide 8 = .ok (.aload_n 0, 1) := by decide +kernel
theorem dX7_readsSide_9 : decode cX7_readsSide 9 = .ok (.invokevirtual 145, 3) := by decide +kernel
theorem dX7_readsSide_12 : decode cX7_readsSide 12 = .ok (.bipush 76, 2) := by decide +kernel
theorem dX7_readsSide_14 : decode cX7_readsSide 14 = .ok (.if_icmp .ne 7, 3) := by decide +kernel
theorem dX7_readsSide_17 : decode cX7_readsSide 17 = .ok (.iconst 1, 1) := by decide +kernel
theorem dX7_readsSide_18 : decode cX7_readsSide 18 = .ok (.goto 4, 3) := by decide +kernel
theorem dX7_readsSide_21 : decode cX7_readsSide 21 = .ok (.iconst 0, 1) := by decide +kernel
theorem dX7_readsSide_22 : decode cX7_readsSide 22 = .ok (.iastore, 1) := by decide +kernel
theorem dX7_readsSide_23 : decode cX7_readsSide 23 = .ok (.aload_n 0, 1) := by decide +kernel
theorem dX7_readsSide_24 : decode cX7_readsSide 24 = .ok (.bipush 76, 2) := by decide +kernel
theorem dX7_readsSide_26 : decode cX7_readsSide 26 = .ok (.invokevirtual 154, 3) := by decide +kernel
theorem dX7_readsSide_29 : decode cX7_readsSide 29 = .ok (.ifCond .ne 12, 3) := by decide +kernel
theorem dX7_readsSide_32 : decode cX7_readsSide 32 = .ok (.aload_n 0, 1) := by decide +kernel
theorem dX7_readsSide_33 : decode cX7_readsSide 33 = .ok (.bipush 82, 2) := by decide +kernel
theorem dX7_readsSide_35 : decode cX7_readsSide 35 = .ok (.invokevirtual 154, 3) := by decide +kernel
theorem dX7_readsSide_38 : decode cX7_readsSide 38 = .ok (.ifCond .eq 7, 3) := by decide +kernel
theorem dX7_readsSide_41 : decode cX7_readsSide 41 = .ok (.iconst 1, 1) := by decide +kernel
theorem dX7_readsSide_42 : decode cX7_readsSide 42 = .ok (.goto 4, 3) := by decide +kernel
theorem dX7_readsSide_45 : decode cX7_readsSide 45 = .ok (.iconst 0, 1) := by decide +kernel
theorem dX7_readsSide_46 : decode cX7_readsSide 46 = .ok (.ireturn, 1) := by decide +kernel
set_option maxRecDepth 20000 in
theorem ggX7_readsTimes_X7_readsNumber : GoodIn wsX7_readsTimes wsX7_readsNumber := goodIn_r _ [9, 4, 10, 11, 12, 13, 8, 14, 15, 16, 17, 18, 19, 24, 25, 26, 27, 28, 29, 30, 31, 32, 33, 34, 35, 36, 37, 38, 39, 40, 41, 42, 43, 44, 45] (by decide +kernel) (by decide +kernel)
set_option maxRecDepth 20000 in
theorem gX7_readsTimes_X7_readsNumber : GoodIn wsX7_readsTimes (wsV RX7 157 RX7 yX7_readsNumber wsX7_readsNumber) := goodIn_app (goodIn_of _ (by decide +kernel)) ggX7_readsTimes_X7_readsNumber
set_option maxRecDepth 20000 in
theorem ggX7_readsTimes_X7_takes : GoodIn wsX7_readsTimes wsX7_takes := goodIn_r _ [23, 10, 11, 12, 13, 8, 14, 15, 16, 24, 25, 26, 27, 28, 29, 30, 31, 32, 33, 34, 35, 36, 37, 38, 39, 40, 41, 42, 43, 44, 45] (by decide +kernel) (by decide +kernel)
set_option maxRecDepth 20000 in
theorem gX7_readsTimes_X7_takes : GoodIn wsX7_readsTimes (wsV RX7 154 RX7 yX7_takes wsX7_takes) := goodIn_app (goodIn_of _ (by decide +kernel)) ggX7_readsTimes_X7_takes
theorem dX7_readsTimes_0 : decode cX7_readsTimes 0 = .ok (.aload_n 0, 1) := by decide +kernel
theorem dX7_readsTimes_1 : decode cX7_readsTimes 1 = .ok (.getfield 32, 3) := by decide +kernel
theorem dX7_readsTimes_4 : decode cX7_readsTimes 4 = .ok (.aload_n 0, 1) := by decide +kernel
theorem dX7_readsTimes_5 : decode cX7_readsTimes 5 = .ok (.getfield 151, 3) := by decide +kernel
theorem dX7_readsTimes_8 : decode cX7_readsTimes 8 = .ok (.iconst 0, 1) := by decide +kernel
theorem dX7_readsTimes_9 : decode cX7_readsTimes 9 = .ok (.iastore, 1) := by decide +kernel
theorem dX7_readsTimes_10 : decode cX7_readsTimes 10 = .ok (.iconst 1, 1) := by decide +kernel
theorem dX7_readsTimes_11 : decode cX7_readsTimes 11 = .ok (.istore_n 1, 1) := by decide +kernel
theorem dX7_readsTimes_12 : decode cX7_readsTimes 12 = .ok (.iconst 1, 1) := by decide +kernel
theorem dX7_readsTimes_13 : decode cX7_readsTimes 13 = .ok (.istore_n 2, 1) := by decide +kernel
theorem dX7_readsTimes_14 : decode cX7_readsTimes 14 = .ok (.iload_n 1, 1) := by decide +kernel
theorem dX7_readsTimes_15 : decode cX7_readsTimes 15 = .ok (.ifCond .eq 89, 3) := by decide +kernel
theorem dX7_readsTimes_18 : decode cX7_readsTimes 18 = .ok (.iload_n 2, 1) := by decide +kernel
theorem dX7_readsTimes_19 : decode cX7_readsTimes 19 = .ok (.ifCond .eq 85, 3) := by decide +kernel
theorem dX7_readsTimes_22 : decode cX7_readsTimes 22 = .ok (.aload_n 0, 1) := by decide +kernel
theorem dX7_readsTimes_23 : decode cX7_readsTimes 23 = .ok (.bipush 60, 2) := by decide +kernel
theorem dX7_readsTimes_25 : decode cX7_readsTimes 25 = .ok (.invokevirtual 157, 3) := by decide +kernel
theorem dX7_readsTimes_28 : decode cX7_readsTimes 28 = .ok (.istore_n 1, 1) := by decide +kernel
theorem dX7_readsTimes_29 : decode cX7_readsTimes 29 = .ok (.aload_n 0, 1) := by decide +kernel
theorem dX7_readsTimes_30 : decode cX7_readsTimes 30 = .ok (.getfield 41, 3) := by decide +kernel
theorem dX7_readsTimes_33 : decode cX7_readsTimes 33 = .ok (.bipush 6, 2) := by decide +kernel
theorem dX7_readsTimes_35 : decode cX7_readsTimes 35 = .ok (.aload_n 0, 1) := by decide +kernel
theorem dX7_readsTimes_36 : decode cX7_readsTimes 36 = .ok (.getfield 151, 3) := by decide +kernel
theorem dX7_readsTimes_39 : decode cX7_readsTimes 39 = .ok (.imul, 1) := by decide +kernel
theorem dX7_readsTimes_40 : decode cX7_readsTimes 40 = .ok (.aload_n 0, 1) := by decide +kernel
theorem dX7_readsTimes_41 : decode cX7_readsTimes 41 = .ok (.getfield 32, 3) := by decide +kernel
theorem dX7_readsTimes_44 : decode cX7_readsTimes 44 = .ok (.aload_n 0, 1) := by decide +kernel
theorem dX7_readsTimes_45 : decode cX7_readsTimes 45 = .ok (.getfield 151, 3) := by decide +kernel
theorem dX7_readsTimes_48 : decode cX7_readsTimes 48 = .ok (.iaload, 1) := by decide +kernel
theorem dX7_readsTimes_49 : decode cX7_readsTimes 49 = .ok (.iadd, 1) := by decide +kernel
theorem dX7_readsTimes_50 : decode cX7_readsTimes 50 = .ok (.aload_n 0, 1) := by decide +kernel
theorem dX7_readsTimes_51 : decode cX7_readsTimes 51 = .ok (.getfield 148, 3) := by decide +kernel
theorem dX7_readsTimes_54 : decode cX7_readsTimes 54 = .ok (.iastore, 1) := by decide +kernel
theorem dX7_readsTimes_55 : decode cX7_readsTimes 55 = .ok (.aload_n 0, 1) := by decide +kernel
theorem dX7_readsTimes_56 : decode cX7_readsTimes 56 = .ok (.getfield 32, 3) := by decide +kernel
theorem dX7_readsTimes_59 : decode cX7_readsTimes 59 = .ok (.aload_n 0, 1) := by decide +kernel
theorem dX7_readsTimes_60 : decode cX7_readsTimes 60 = .ok (.getfield 151, 3) := by decide +kernel
theorem dX7_readsTimes_63 : decode cX7_readsTimes 63 = .ok (.dup2, 1) := by decide +kernel
theorem dX7_readsTimes_64 : decode cX7_readsTimes 64 = .ok (.iaload, 1) := by decide +kernel
theorem dX7_readsTimes_65 : decode cX7_readsTimes 65 = .ok (.iconst 1, 1) := by decide +kernel
theorem dX7_readsTimes_66 : decode cX7_readsTimes 66 = .ok (.iadd, 1) := by decide +kernel
theorem dX7_readsTimes_67 : decode cX7_readsTimes 67 = .ok (.iastore, 1) := by decide +kernel
theorem dX7_readsTimes_68 : decode cX7_readsTimes 68 = .ok (.iload_n 1, 1) := by decide +kernel
theorem dX7_readsTimes_69 : decode cX7_readsTimes 69 = .ok (.ifCond .eq 30, 3) := by decide +kernel
theorem dX7_readsTimes_72 : decode cX7_readsTimes 72 = .ok (.aload_n 0, 1) := by decide +kernel
theorem dX7_readsTimes_73 : decode cX7_readsTimes 73 = .ok (.getfield 32, 3) := by decide +kernel
theorem dX7_readsTimes_76 : decode cX7_readsTimes 76 = .ok (.aload_n 0, 1) := by decide +kernel
theorem dX7_readsTimes_77 : decode cX7_readsTimes 77 = .ok (.getfield 151, 3) := by decide +kernel
theorem dX7_readsTimes_80 : decode cX7_readsTimes 80 = .ok (.iaload, 1) := by decide +kernel
theorem dX7_readsTimes_81 : decode cX7_readsTimes 81 = .ok (.bipush 6, 2) := by decide +kernel
theorem dX7_readsTimes_83 : decode cX7_readsTimes 83 = .ok (.if_icmp .ge 16, 3) := by decide +kernel
theorem dX7_readsTimes_86 : decode cX7_readsTimes 86 = .ok (.aload_n 0, 1) := by decide +kernel
theorem dX7_readsTimes_87 : decode cX7_readsTimes 87 = .ok (.bipush 46, 2) := by decide +kernel
theorem dX7_readsTimes_89 : decode cX7_readsTimes 89 = .ok (.invokevirtual 154, 3) := by decide +kernel
theorem dX7_readsTimes_92 : decode cX7_readsTimes 92 = .ok (.ifCond .eq 7, 3) := by decide +kernel
theorem dX7_readsTimes_95 : decode cX7_readsTimes 95 = .ok (.iconst 1, 1) := by decide +kernel
theorem dX7_readsTimes_96 : decode cX7_readsTimes 96 = .ok (.goto 4, 3) := by decide +kernel
theorem dX7_readsTimes_99 : decode cX7_readsTimes 99 = .ok (.iconst 0, 1) := by decide +kernel
theorem dX7_readsTimes_100 : decode cX7_readsTimes 100 = .ok (.istore_n 2, 1) := by decide +kernel
theorem dX7_readsTimes_101 : decode cX7_readsTimes 101 = .ok (.goto (-87), 3) := by decide +kernel
theorem dX7_readsTimes_104 : decode cX7_readsTimes 104 = .ok (.iload_n 1, 1) := by decide +kernel
theorem dX7_readsTimes_105 : decode cX7_readsTimes 105 = .ok (.ireturn, 1) := by decide +kernel
set_option maxRecDepth 20000 in
theorem ggX7_readsNew_X7_takes : GoodIn wsX7_readsNew wsX7_takes := goodIn_r _ [5, 6, 7, 8, 9, 4, 10, 11, 12, 28, 29, 30, 31, 32, 33, 34, 35, 36, 37, 38, 39, 40, 41, 42, 43, 44, 45, 46, 47, 48, 49] (by decide +kernel) (by decide +kernel)
set_option maxRecDepth 20000 in
theorem gX7_readsNew_X7_takes : GoodIn wsX7_readsNew (wsV RX7 154 RX7 yX7_takes wsX7_takes) := goodIn_app (goodIn_of _ (by decide +kernel)) ggX7_readsNew_X7_takes
set_option maxRecDepth 20000 in
theorem ggX7_readsNew_X7_readsTimes : GoodIn wsX7_readsNew wsX7_readsTimes := goodIn_r _ [16, 17, 18, 19, 20, 21, 22, 23, 4, 24, 6, 7, 8, 9, 10, 11, 12, 25, 26, 27, 1, 2, 3, 5, 28, 29, 30, 31, 32, 33, 34, 35, 36, 37, 38, 39, 40, 41, 42, 43, 44, 45, 46, 47, 48, 49] (by decide +kernel) (by decide +kernel)
set_option maxRecDepth 20000 in
theorem gX7_readsNew_X7_readsTimes : GoodIn wsX7_readsNew (wsV RX7 160 RX7 yX7_readsTimes wsX7_readsTimes) := goodIn_app (goodIn_of _ (by decide +kernel)) ggX7_readsNew_X7_readsTimes
theorem dX7_readsNew_0 : decode cX7_readsNew 0 = .ok (.aload_n 0, 1) := by decide +kernel
theorem dX7_readsNew_1 : decode cX7_readsNew 1 = .ok (.bipush 110, 2) := by decide +kernel
theorem dX7_readsNew_3 : decode cX7_readsNew 3 = .ok (.invokevirtual 154, 3) := by decide +kernel
theorem dX7_readsNew_6 : decode cX7_readsNew 6 = .ok (.ifCond .eq 41, 3) := by decide +kernel
theorem dX7_readsNew_9 : decode cX7_readsNew 9 = .ok (.aload_n 0, 1) := by decide +kernel
theorem dX7_readsNew_10 : decode cX7_readsNew 10 = .ok (.bipush 101, 2) := by decide +kernel
theorem dX7_readsNew_12 : decode cX7_readsNew 12 = .ok (.invokevirtual 154, 3) := by decide +kernel
theorem dX7_readsNew_15 : decode cX7_readsNew 15 = .ok (.ifCond .eq 32, 3) := by decide +kernel
theorem dX7_readsNew_18 : decode cX7_readsNew 18 = .ok (.aload_n 0, 1) := by decide +kernel
theorem dX7_readsNew_19 : decode cX7_readsNew 19 = .ok (.bipush 119, 2) := by decide +kernel
theorem dX7_readsNew_21 : decode cX7_readsNew 21 = .ok (.invokevirtual 154, 3) := by decide +kernel
theorem dX7_readsNew_24 : decode cX7_readsNew 24 = .ok (.ifCond .eq 23, 3) := by decide +kernel
theorem dX7_readsNew_27 : decode cX7_readsNew 27 = .ok (.aload_n 0, 1) := by decide +kernel
theorem dX7_readsNew_28 : decode cX7_readsNew 28 = .ok (.bipush 58, 2) := by decide +kernel
theorem dX7_readsNew_30 : decode cX7_readsNew 30 = .ok (.invokevirtual 154, 3) := by decide +kernel
theorem dX7_readsNew_33 : decode cX7_readsNew 33 = .ok (.ifCond .eq 14, 3) := by decide +kernel
theorem dX7_readsNew_36 : decode cX7_readsNew 36 = .ok (.aload_n 0, 1) := by decide +kernel
theorem dX7_readsNew_37 : decode cX7_readsNew 37 = .ok (.invokevirtual 160, 3) := by decide +kernel
theorem dX7_readsNew_40 : decode cX7_readsNew 40 = .ok (.ifCond .eq 7, 3) := by decide +kernel
theorem dX7_readsNew_43 : decode cX7_readsNew 43 = .ok (.iconst 1, 1) := by decide +kernel
theorem dX7_readsNew_44 : decode cX7_readsNew 44 = .ok (.goto 4, 3) := by decide +kernel
theorem dX7_readsNew_47 : decode cX7_readsNew 47 = .ok (.iconst 0, 1) := by decide +kernel
theorem dX7_readsNew_48 : decode cX7_readsNew 48 = .ok (.ireturn, 1) := by decide +kernel
set_option maxRecDepth 20000 in
theorem ggX7_readsLit_X7_takes : GoodIn wsX7_readsLit wsX7_takes := goodIn_r _ [8, 9, 10, 11, 12, 7, 13, 14, 15, 28, 29, 30, 31, 32, 33, 34, 35, 36, 37, 38, 39, 40, 41, 42, 43, 44, 45, 46, 47, 48, 49] (by decide +kernel) (by decide +kernel)
set_option maxRecDepth 20000 in
theorem gX7_readsLit_X7_takes : GoodIn wsX7_readsLit (wsV RX7 154 RX7 yX7_takes wsX7_takes) := goodIn_app (goodIn_of _ (by decide +kernel)) ggX7_readsLit_X7_takes
set_option maxRecDepth 20000 in
theorem ggX7_readsLit_X7_readsCord : GoodIn wsX7_readsLit wsX7_readsCord := goodIn_r _ [19, 3, 9, 10, 11, 12, 7, 13, 14, 15, 20, 21, 22, 28, 29, 30, 31, 32, 33, 34, 35, 36, 37, 38, 39, 40, 41, 42, 43, 44, 45, 46, 47, 48, 49] (by decide +kernel) (by decide +kernel)
set_option maxRecDepth 20000 in
theorem gX7_readsLit_X7_readsCord : GoodIn wsX7_readsLit (wsV RX7 164 RX7 yX7_readsCord wsX7_readsCord) := goodIn_app (goodIn_of _ (by decide +kernel)) ggX7_readsLit_X7_readsCord
set_option maxRecDepth 20000 in
theorem ggX7_readsLit_X7_readsSide : GoodIn wsX7_readsLit wsX7_readsSide := goodIn_r _ [26, 27, 2, 10, 11, 12, 7, 13, 9, 14, 15, 4, 5, 6, 8, 28, 29, 30, 31, 32, 33, 34, 35, 36, 37, 38, 39, 40, 41, 42, 43, 44, 45, 46, 47, 48, 49] (by decide +kernel) (by decide +kernel)
set_option maxRecDepth 20000 in
theorem gX7_readsLit_X7_readsSide : GoodIn wsX7_readsLit (wsV RX7 167 RX7 yX7_readsSide wsX7_readsSide) := goodIn_app (goodIn_of _ (by decide +kernel)) ggX7_readsLit_X7_readsSide
theorem dX7_readsLit_0 : decode cX7_readsLit 0 = .ok (.aload_n 0, 1) := by decide +kernel
theorem dX7_readsLit_1 : decode cX7_readsLit 1 = .ok (.bipush 108, 2) := by decide +kernel
theorem dX7_readsLit_3 : decode cX7_readsLit 3 = .ok (.invokevirtual 154, 3) := by decide +kernel
theorem dX7_readsLit_6 : decode cX7_readsLit 6 = .ok (.ifCond .eq 37, 3) := by decide +kernel
theorem dX7_readsLit_9 : decode cX7_readsLit 9 = .ok (.aload_n 0, 1) := by decide +kernel
theorem dX7_readsLit_10 : decode cX7_readsLit 10 = .ok (.bipush 105, 2) := by decide +kernel
theorem dX7_readsLit_12 : decode cX7_readsLit 12 = .ok (.invokevirtual 154, 3) := by decide +kernel
theorem dX7_readsLit_15 : decode cX7_readsLit 15 = .ok (.ifCond .eq 28, 3) := by decide +kernel
theorem dX7_readsLit_18 : decode cX7_readsLit 18 = .ok (.aload_n 0, 1) := by decide +kernel
theorem dX7_readsLit_19 : decode cX7_readsLit 19 = .ok (.bipush 116, 2) := by decide +kernel
theorem dX7_readsLit_21 : decode cX7_readsLit 21 = .ok (.invokevirtual 154, 3) := by decide +kernel
theorem dX7_readsLit_24 : decode cX7_readsLit 24 = .ok (.ifCond .eq 19, 3) := by decide +kernel
theorem dX7_readsLit_27 : decode cX7_readsLit 27 = .ok (.aload_n 0, 1) := by decide +kernel
theorem dX7_readsLit_28 : decode cX7_readsLit 28 = .ok (.bipush 58, 2) := by decide +kernel
theorem dX7_readsLit_30 : decode cX7_readsLit 30 = .ok (.invokevirtual 154, 3) := by decide +kernel
theorem dX7_readsLit_33 : decode cX7_readsLit 33 = .ok (.ifCond .eq 10, 3) := by decide +kernel
theorem dX7_readsLit_36 : decode cX7_readsLit 36 = .ok (.aload_n 0, 1) := by decide +kernel
theorem dX7_readsLit_37 : decode cX7_readsLit 37 = .ok (.invokevirtual 164, 3) := by decide +kernel
theorem dX7_readsLit_40 : decode cX7_readsLit 40 = .ok (.ifCond .ne 5, 3) := by decide +kernel
theorem dX7_readsLit_43 : decode cX7_readsLit 43 = .ok (.iconst 0, 1) := by decide +kernel
theorem dX7_readsLit_44 : decode cX7_readsLit 44 = .ok (.ireturn, 1) := by decide +kernel
theorem dX7_readsLit_45 : decode cX7_readsLit 45 = .ok (.aload_n 0, 1) := by decide +kernel
theorem dX7_readsLit_46 : decode cX7_readsLit 46 = .ok (.getfield 32, 3) := by decide +kernel
theorem dX7_readsLit_49 : decode cX7_readsLit 49 = .ok (.aload_n 0, 1) := by decide +kernel
theorem dX7_readsLit_50 : decode cX7_readsLit 50 = .ok (.getfield 151, 3) := by decide +kernel
theorem dX7_readsLit_53 : decode cX7_readsLit 53 = .ok (.aload_n 0, 1) := by decide +kernel
theorem dX7_readsLit_54 : decode cX7_readsLit 54 = .ok (.getfield 148, 3) := by decide +kernel
theorem dX7_readsLit_57 : decode cX7_readsLit 57 = .ok (.iastore, 1) := by decide +kernel
theorem dX7_readsLit_58 : decode cX7_readsLit 58 = .ok (.aload_n 0, 1) := by decide +kernel
theorem dX7_readsLit_59 : decode cX7_readsLit 59 = .ok (.invokevirtual 167, 3) := by decide +kernel
theorem dX7_readsLit_62 : decode cX7_readsLit 62 = .ok (.ireturn, 1) := by decide +kernel
set_option maxRecDepth 20000 in
theorem ggX7_readsWhen_X7_takes : GoodIn wsX7_readsWhen wsX7_takes := goodIn_r _ [9, 10, 11, 12, 13, 8, 14, 15, 16, 29, 30, 31, 32, 33, 34, 35, 36, 37, 38, 39, 40, 41, 42, 43, 44, 45, 46, 47, 48, 49, 50] (by decide +kernel) (by decide +kernel)
set_option maxRecDepth 20000 in
theorem gX7_readsWhen_X7_takes : GoodIn wsX7_readsWhen (wsV RX7 154 RX7 yX7_takes wsX7_takes) := goodIn_app (goodIn_of _ (by decide +kernel)) ggX7_readsWhen_X7_takes
set_option maxRecDepth 20000 in
theorem ggX7_readsWhen_X7_readsCord : GoodIn wsX7_readsWhen wsX7_readsCord := goodIn_r _ [20, 3, 10, 11, 12, 13, 8, 14, 15, 16, 21, 22, 23, 29, 30, 31, 32, 33, 34, 35, 36, 37, 38, 39, 40, 41, 42, 43, 44, 45, 46, 47, 48, 49, 50] (by decide +kernel) (by decide +kernel)
set_option maxRecDepth 20000 in
theorem gX7_readsWhen_X7_readsCord : GoodIn wsX7_readsWhen (wsV RX7 164 RX7 yX7_readsCord wsX7_readsCord) := goodIn_app (goodIn_of _ (by decide +kernel)) ggX7_readsWhen_X7_readsCord
set_option maxRecDepth 20000 in
theorem ggX7_readsWhen_X7_readsSide : GoodIn wsX7_readsWhen wsX7_readsSide := goodIn_r _ [27, 28, 2, 11, 12, 13, 8, 14, 10, 15, 16, 5, 6, 7, 9, 29, 30, 31, 32, 33, 34, 35, 36, 37, 38, 39, 40, 41, 42, 43, 44, 45, 46, 47, 48, 49, 50] (by decide +kernel) (by decide +kernel)
set_option maxRecDepth 20000 in
theorem gX7_readsWhen_X7_readsSide : GoodIn wsX7_readsWhen (wsV RX7 167 RX7 yX7_readsSide wsX7_readsSide) := goodIn_app (goodIn_of _ (by decide +kernel)) ggX7_readsWhen_X7_readsSide
theorem dX7_readsWhen_0 : decode cX7_readsWhen 0 = .ok (.aload_n 0, 1) := by decide +kernel
theorem dX7_readsWhen_1 : decode cX7_readsWhen 1 = .ok (.bipush 119, 2) := by decide +kernel
theorem dX7_readsWhen_3 : decode cX7_readsWhen 3 = .ok (.invokevirtual 154, 3) := by decide +kernel
theorem dX7_readsWhen_6 : decode cX7_readsWhen 6 = .ok (.ifCond .eq 46, 3) := by decide +kernel
theorem dX7_readsWhen_9 : decode cX7_readsWhen 9 = .ok (.aload_n 0, 1) := by decide +kernel
theorem dX7_readsWhen_10 : decode cX7_readsWhen 10 = .ok (.bipush 104, 2) := by decide +kernel
theorem dX7_readsWhen_12 : decode cX7_readsWhen 12 = .ok (.invokevirtual 154, 3) := by decide +kernel
theorem dX7_readsWhen_15 : decode cX7_readsWhen 15 = .ok (.ifCond .eq 37, 3) := by decide +kernel
theorem dX7_readsWhen_18 : decode cX7_readsWhen 18 = .ok (.aload_n 0, 1) := by decide +kernel
theorem dX7_readsWhen_19 : decode cX7_readsWhen 19 = .ok (.bipush 101, 2) := by decide +kernel
theorem dX7_readsWhen_21 : decode cX7_readsWhen 21 = .ok (.invokevirtual 154, 3) := by decide +kernel
theorem dX7_readsWhen_24 : decode cX7_readsWhen 24 = .ok (.ifCond .eq 28, 3) := by decide +kernel
theorem dX7_readsWhen_27 : decode cX7_readsWhen 27 = .ok (.aload_n 0, 1) := by decide +kernel
theorem dX7_readsWhen_28 : decode cX7_readsWhen 28 = .ok (.bipush 110, 2) := by decide +kernel
theorem dX7_readsWhen_30 : decode cX7_readsWhen 30 = .ok (.invokevirtual 154, 3) := by decide +kernel
theorem dX7_readsWhen_33 : decode cX7_readsWhen 33 = .ok (.ifCond .eq 19, 3) := by decide +kernel
theorem dX7_readsWhen_36 : decode cX7_readsWhen 36 = .ok (.aload_n 0, 1) := by decide +kernel
theorem dX7_readsWhen_37 : decode cX7_readsWhen 37 = .ok (.bipush 58, 2) := by decide +kernel
theorem dX7_readsWhen_39 : decode cX7_readsWhen 39 = .ok (.invokevirtual 154, 3) := by decide +kernel
theorem dX7_readsWhen_42 : decode cX7_readsWhen 42 = .ok (.ifCond .eq 10, 3) := by decide +kernel
theorem dX7_readsWhen_45 : decode cX7_readsWhen 45 = .ok (.aload_n 0, 1) := by decide +kernel
theorem dX7_readsWhen_46 : decode cX7_readsWhen 46 = .ok (.invokevirtual 164, 3) := by decide +kernel
theorem dX7_readsWhen_49 : decode cX7_readsWhen 49 = .ok (.ifCond .ne 5, 3) := by decide +kernel
theorem dX7_readsWhen_52 : decode cX7_readsWhen 52 = .ok (.iconst 0, 1) := by decide +kernel
theorem dX7_readsWhen_53 : decode cX7_readsWhen 53 = .ok (.ireturn, 1) := by decide +kernel
theorem dX7_readsWhen_54 : decode cX7_readsWhen 54 = .ok (.aload_n 0, 1) := by decide +kernel
theorem dX7_readsWhen_55 : decode cX7_readsWhen 55 = .ok (.getfield 32, 3) := by decide +kernel
theorem dX7_readsWhen_58 : decode cX7_readsWhen 58 = .ok (.aload_n 0, 1) := by decide +kernel
theorem dX7_readsWhen_59 : decode cX7_readsWhen 59 = .ok (.getfield 151, 3) := by decide +kernel
theorem dX7_readsWhen_62 : decode cX7_readsWhen 62 = .ok (.aload_n 0, 1) := by decide +kernel
theorem dX7_readsWhen_63 : decode cX7_readsWhen 63 = .ok (.getfield 148, 3) := by decide +kernel
theorem dX7_readsWhen_66 : decode cX7_readsWhen 66 = .ok (.iastore, 1) := by decide +kernel
theorem dX7_readsWhen_67 : decode cX7_readsWhen 67 = .ok (.aload_n 0, 1) := by decide +kernel
theorem dX7_readsWhen_68 : decode cX7_readsWhen 68 = .ok (.bipush 44, 2) := by decide +kernel
theorem dX7_readsWhen_70 : decode cX7_readsWhen 70 = .ok (.invokevirtual 154, 3) := by decide +kernel
theorem dX7_readsWhen_73 : decode cX7_readsWhen 73 = .ok (.ifCond .eq 10, 3) := by decide +kernel
theorem dX7_readsWhen_76 : decode cX7_readsWhen 76 = .ok (.aload_n 0, 1) := by decide +kernel
theorem dX7_readsWhen_77 : decode cX7_readsWhen 77 = .ok (.invokevirtual 164, 3) := by decide +kernel
theorem dX7_readsWhen_80 : decode cX7_readsWhen 80 = .ok (.ifCond .ne 5, 3) := by decide +kernel
theorem dX7_readsWhen_83 : decode cX7_readsWhen 83 = .ok (.iconst 0, 1) := by decide +kernel
theorem dX7_readsWhen_84 : decode cX7_readsWhen 84 = .ok (.ireturn, 1) := by decide +kernel
theorem dX7_readsWhen_85 : decode cX7_readsWhen 85 = .ok (.aload_n 0, 1) := by decide +kernel
theorem dX7_readsWhen_86 : decode cX7_readsWhen 86 = .ok (.getfield 35, 3) := by decide +kernel
theorem dX7_readsWhen_89 : decode cX7_readsWhen 89 = .ok (.aload_n 0, 1) := by decide +kernel
theorem dX7_readsWhen_90 : decode cX7_readsWhen 90 = .ok (.getfield 151, 3) := by decide +kernel
theorem dX7_readsWhen_93 : decode cX7_readsWhen 93 = .ok (.aload_n 0, 1) := by decide +kernel
theorem dX7_readsWhen_94 : decode cX7_readsWhen 94 = .ok (.getfield 148, 3) := by decide +kernel
theorem dX7_readsWhen_97 : decode cX7_readsWhen 97 = .ok (.iastore, 1) := by decide +kernel
theorem dX7_readsWhen_98 : decode cX7_readsWhen 98 = .ok (.aload_n 0, 1) := by decide +kernel
theorem dX7_readsWhen_99 : decode cX7_readsWhen 99 = .ok (.invokevirtual 167, 3) := by decide +kernel
theorem dX7_readsWhen_102 : decode cX7_readsWhen 102 = .ok (.ireturn, 1) := by decide +kernel
set_option maxRecDepth 20000 in
theorem ggX7_readsRun_X7_takes : GoodIn wsX7_readsRun wsX7_takes := goodIn_r _ [8, 9, 10, 11, 12, 7, 13, 14, 15, 23, 24, 25, 26, 27, 28, 29, 30, 31, 32, 33, 34, 35, 36, 37, 38, 39, 40, 41, 42, 43, 44] (by decide +kernel) (by decide +kernel)
set_option maxRecDepth 20000 in
theorem gX7_readsRun_X7_takes : GoodIn wsX7_readsRun (wsV RX7 154 RX7 yX7_takes wsX7_takes) := goodIn_app (goodIn_of _ (by decide +kernel)) ggX7_readsRun_X7_takes
set_option maxRecDepth 20000 in
theorem ggX7_readsRun_X7_readsNumber : GoodIn wsX7_readsRun wsX7_readsNumber := goodIn_r _ [19, 3, 9, 10, 11, 12, 7, 13, 14, 15, 20, 21, 22, 23, 24, 25, 26, 27, 28, 29, 30, 31, 32, 33, 34, 35, 36, 37, 38, 39, 40, 41, 42, 43, 44] (by decide +kernel) (by decide +kernel)
set_option maxRecDepth 20000 in
theorem gX7_readsRun_X7_readsNumber : GoodIn wsX7_readsRun (wsV RX7 157 RX7 yX7_readsNumber wsX7_readsNumber) := goodIn_app (goodIn_of _ (by decide +kernel)) ggX7_readsRun_X7_readsNumber
theorem dX7_readsRun_0 : decode cX7_readsRun 0 = .ok (.aload_n 0, 1) := by decide +kernel
theorem dX7_readsRun_1 : decode cX7_readsRun 1 = .ok (.bipush 114, 2) := by decide +kernel
theorem dX7_readsRun_3 : decode cX7_readsRun 3 = .ok (.invokevirtual 154, 3) := by decide +kernel
theorem dX7_readsRun_6 : decode cX7_readsRun 6 = .ok (.ifCond .eq 44, 3) := by decide +kernel
theorem dX7_readsRun_9 : decode cX7_readsRun 9 = .ok (.aload_n 0, 1) := by decide +kernel
theorem dX7_readsRun_10 : decode cX7_readsRun 10 = .ok (.bipush 117, 2) := by decide +kernel
theorem dX7_readsRun_12 : decode cX7_readsRun 12 = .ok (.invokevirtual 154, 3) := by decide +kernel
theorem dX7_readsRun_15 : decode cX7_readsRun 15 = .ok (.ifCond .eq 35, 3) := by decide +kernel
theorem dX7_readsRun_18 : decode cX7_readsRun 18 = .ok (.aload_n 0, 1) := by decide +kernel
theorem dX7_readsRun_19 : decode cX7_readsRun 19 = .ok (.bipush 110, 2) := by decide +kernel
theorem dX7_readsRun_21 : decode cX7_readsRun 21 = .ok (.invokevirtual 154, 3) := by decide +kernel
theorem dX7_readsRun_24 : decode cX7_readsRun 24 = .ok (.ifCond .eq 26, 3) := by decide +kernel
theorem dX7_readsRun_27 : decode cX7_readsRun 27 = .ok (.aload_n 0, 1) := by decide +kernel
theorem dX7_readsRun_28 : decode cX7_readsRun 28 = .ok (.bipush 58, 2) := by decide +kernel
theorem dX7_readsRun_30 : decode cX7_readsRun 30 = .ok (.invokevirtual 154, 3) := by decide +kernel
theorem dX7_readsRun_33 : decode cX7_readsRun 33 = .ok (.ifCond .eq 17, 3) := by decide +kernel
theorem dX7_readsRun_36 : decode cX7_readsRun 36 = .ok (.aload_n 0, 1) := by decide +kernel
theorem dX7_readsRun_37 : decode cX7_readsRun 37 = .ok (.sipush 200, 3) := by decide +kernel
theorem dX7_readsRun_40 : decode cX7_readsRun 40 = .ok (.invokevirtual 157, 3) := by decide +kernel
theorem dX7_readsRun_43 : decode cX7_readsRun 43 = .ok (.ifCond .eq 7, 3) := by decide +kernel
theorem dX7_readsRun_46 : decode cX7_readsRun 46 = .ok (.iconst 1, 1) := by decide +kernel
theorem dX7_readsRun_47 : decode cX7_readsRun 47 = .ok (.goto 4, 3) := by decide +kernel
theorem dX7_readsRun_50 : decode cX7_readsRun 50 = .ok (.iconst 0, 1) := by decide +kernel
theorem dX7_readsRun_51 : decode cX7_readsRun 51 = .ok (.istore_n 1, 1) := by decide +kernel
theorem dX7_readsRun_52 : decode cX7_readsRun 52 = .ok (.aload_n 0, 1) := by decide +kernel
theorem dX7_readsRun_53 : decode cX7_readsRun 53 = .ok (.getfield 32, 3) := by decide +kernel
theorem dX7_readsRun_56 : decode cX7_readsRun 56 = .ok (.aload_n 0, 1) := by decide +kernel
theorem dX7_readsRun_57 : decode cX7_readsRun 57 = .ok (.getfield 151, 3) := by decide +kernel
theorem dX7_readsRun_60 : decode cX7_readsRun 60 = .ok (.aload_n 0, 1) := by decide +kernel
theorem dX7_readsRun_61 : decode cX7_readsRun 61 = .ok (.getfield 148, 3) := by decide +kernel
theorem dX7_readsRun_64 : decode cX7_readsRun 64 = .ok (.iastore, 1) := by decide +kernel
theorem dX7_readsRun_65 : decode cX7_readsRun 65 = .ok (.iload_n 1, 1) := by decide +kernel
theorem dX7_readsRun_66 : decode cX7_readsRun 66 = .ok (.ireturn, 1) := by decide +kernel
set_option maxRecDepth 20000 in
theorem ggX7_readsOrder_X7_sign : GoodIn wsX7_readsOrder wsX7_sign := goodIn_r _ [7, 8, 9, 10, 55, 56, 57, 58, 59, 60, 61, 62, 63, 64, 65, 66, 67, 68, 69, 70, 71, 72, 73, 74, 75, 76] (by decide +kernel) (by decide +kernel)
set_option maxRecDepth 20000 in
theorem gX7_readsOrder_X7_sign : GoodIn wsX7_readsOrder (wsV RX7 145 RX7 yX7_sign wsX7_sign) := goodIn_app (goodIn_of _ (by decide +kernel)) ggX7_readsOrder_X7_sign
set_option maxRecDepth 20000 in
theorem ggX7_readsOrder_X7_readsNew : GoodIn wsX7_readsOrder wsX7_readsNew := goodIn_r _ [14, 15, 16, 17, 6, 18, 8, 3, 4, 5, 7, 9, 10, 19, 20, 21, 22, 23, 2, 24, 25, 26, 27, 28, 29, 30, 31, 32, 55, 56, 57, 58, 59, 60, 61, 62, 63, 64, 65, 66, 67, 68, 69, 70, 71, 72, 73, 74, 75, 76] (by decide +kernel) (by decide +kernel)
set_option maxRecDepth 20000 in
theorem gX7_readsOrder_X7_readsNew : GoodIn wsX7_readsOrder (wsV RX7 170 RX7 yX7_readsNew wsX7_readsNew) := goodIn_app (goodIn_of _ (by decide +kernel)) ggX7_readsOrder_X7_readsNew
set_option maxRecDepth 20000 in
theorem ggX7_readsOrder_X7_readsLit : GoodIn wsX7_readsOrder wsX7_readsLit := goodIn_r _ [36, 23, 2, 25, 15, 16, 17, 6, 18, 8, 3, 4, 5, 7, 9, 10, 37, 38, 39, 40, 30, 31, 32, 41, 42, 43, 44, 45, 55, 56, 57, 58, 59, 60, 61, 62, 63, 64, 65, 66, 67, 68, 69, 70, 71, 72, 73, 74, 75, 76] (by decide +kernel) (by decide +kernel)
set_option maxRecDepth 20000 in
theorem gX7_readsOrder_X7_readsLit : GoodIn wsX7_readsOrder (wsV RX7 173 RX7 yX7_readsLit wsX7_readsLit) := goodIn_app (goodIn_of _ (by decide +kernel)) ggX7_readsOrder_X7_readsLit
set_option maxRecDepth 20000 in
theorem ggX7_readsOrder_X7_readsWhen : GoodIn wsX7_readsOrder wsX7_readsWhen := goodIn_r _ [49, 23, 2, 25, 50, 15, 16, 17, 6, 18, 8, 3, 4, 5, 7, 9, 10, 37, 38, 39, 40, 30, 31, 32, 41, 42, 43, 44, 45, 55, 56, 57, 58, 59, 60, 61, 62, 63, 64, 65, 66, 67, 68, 69, 70, 71, 72, 73, 74, 75, 76] (by decide +kernel) (by decide +kernel)
set_option maxRecDepth 20000 in
theorem gX7_readsOrder_X7_readsWhen : GoodIn wsX7_readsOrder (wsV RX7 176 RX7 yX7_readsWhen wsX7_readsWhen) := goodIn_app (goodIn_of _ (by decide +kernel)) ggX7_readsOrder_X7_readsWhen
set_option maxRecDepth 20000 in
theorem ggX7_readsOrder_X7_readsRun : GoodIn wsX7_readsOrder wsX7_readsRun := goodIn_r _ [54, 23, 2, 25, 15, 16, 17, 6, 18, 8, 3, 4, 5, 7, 9, 10, 26, 27, 28, 29, 30, 31, 32, 55, 56, 57, 58, 59, 60, 61, 62, 63, 64, 65, 66, 67, 68, 69, 70, 71, 72, 73, 74, 75, 76] (by decide +kernel) (by decide +kernel)
set_option maxRecDepth 20000 in
theorem gX7_readsOrder_X7_readsRun : GoodIn wsX7_readsOrder (wsV RX7 179 RX7 yX7_readsRun wsX7_readsRun) := goodIn_app (goodIn_of _ (by decide +kernel)) ggX7_readsOrder_X7_readsRun
theorem dX7_readsOrder_0 : decode cX7_readsOrder 0 = .ok (.aload_n 0, 1) := by decide +kernel
theorem dX7_readsOrder_1 : decode cX7_readsOrder 1 = .ok (.invokevirtual 145, 3) := by decide +kernel
theorem dX7_readsOrder_4 : decode cX7_readsOrder 4 = .ok (.istore_n 1, 1) := by decide +kernel
theorem dX7_readsOrder_5 : decode cX7_readsOrder 5 = .ok (.iload_n 1, 1) := by decide +kernel
theorem dX7_readsOrder_6 : decode cX7_readsOrder 6 = .ok (.bipush 110, 2) := by decide +kernel
theorem dX7_readsOrder_8 : decode cX7_readsOrder 8 = .ok (.if_icmp .ne 10, 3) := by decide +kernel
theorem dX7_readsOrder_11 : decode cX7_readsOrder 11 = .ok (.aload_n 0, 1) := by decide +kernel
theorem dX7_readsOrder_12 : decode cX7_readsOrder 12 = .ok (.invokevirtual 170, 3) := by decide +kernel
theorem dX7_readsOrder_15 : decode cX7_readsOrder 15 = .ok (.goto 47, 3) := by decide +kernel
theorem dX7_readsOrder_18 : decode cX7_readsOrder 18 = .ok (.iload_n 1, 1) := by decide +kernel
theorem dX7_readsOrder_19 : decode cX7_readsOrder 19 = .ok (.bipush 108, 2) := by decide +kernel
theorem dX7_readsOrder_21 : decode cX7_readsOrder 21 = .ok (.if_icmp .ne 10, 3) := by decide +kernel
theorem dX7_readsOrder_24 : decode cX7_readsOrder 24 = .ok (.aload_n 0, 1) := by decide +kernel
theorem dX7_readsOrder_25 : decode cX7_readsOrder 25 = .ok (.invokevirtual 173, 3) := by decide +kernel
theorem dX7_readsOrder_28 : decode cX7_readsOrder 28 = .ok (.goto 34, 3) := by decide +kernel
theorem dX7_readsOrder_31 : decode cX7_readsOrder 31 = .ok (.iload_n 1, 1) := by decide +kernel
theorem dX7_readsOrder_32 : decode cX7_readsOrder 32 = .ok (.bipush 119, 2) := by decide +kernel
theorem dX7_readsOrder_34 : decode cX7_readsOrder 34 = .ok (.if_icmp .ne 10, 3) := by decide +kernel
theorem dX7_readsOrder_37 : decode cX7_readsOrder 37 = .ok (.aload_n 0, 1) := by decide +kernel
theorem dX7_readsOrder_38 : decode cX7_readsOrder 38 = .ok (.invokevirtual 176, 3) := by decide +kernel
theorem dX7_readsOrder_41 : decode cX7_readsOrder 41 = .ok (.goto 21, 3) := by decide +kernel
theorem dX7_readsOrder_44 : decode cX7_readsOrder 44 = .ok (.iload_n 1, 1) := by decide +kernel
theorem dX7_readsOrder_45 : decode cX7_readsOrder 45 = .ok (.bipush 114, 2) := by decide +kernel
theorem dX7_readsOrder_47 : decode cX7_readsOrder 47 = .ok (.if_icmp .ne 14, 3) := by decide +kernel
theorem dX7_readsOrder_50 : decode cX7_readsOrder 50 = .ok (.aload_n 0, 1) := by decide +kernel
theorem dX7_readsOrder_51 : decode cX7_readsOrder 51 = .ok (.invokevirtual 179, 3) := by decide +kernel
theorem dX7_readsOrder_54 : decode cX7_readsOrder 54 = .ok (.ifCond .eq 7, 3) := by decide +kernel
theorem dX7_readsOrder_57 : decode cX7_readsOrder 57 = .ok (.iconst 1, 1) := by decide +kernel
theorem dX7_readsOrder_58 : decode cX7_readsOrder 58 = .ok (.goto 4, 3) := by decide +kernel
theorem dX7_readsOrder_61 : decode cX7_readsOrder 61 = .ok (.iconst 0, 1) := by decide +kernel
theorem dX7_readsOrder_62 : decode cX7_readsOrder 62 = .ok (.istore_n 2, 1) := by decide +kernel
theorem dX7_readsOrder_63 : decode cX7_readsOrder 63 = .ok (.iload_n 2, 1) := by decide +kernel
theorem dX7_readsOrder_64 : decode cX7_readsOrder 64 = .ok (.ifCond .eq 23, 3) := by decide +kernel
theorem dX7_readsOrder_67 : decode cX7_readsOrder 67 = .ok (.aload_n 0, 1) := by decide +kernel
theorem dX7_readsOrder_68 : decode cX7_readsOrder 68 = .ok (.getfield 29, 3) := by decide +kernel
theorem dX7_readsOrder_71 : decode cX7_readsOrder 71 = .ok (.aload_n 0, 1) := by decide +kernel
theorem dX7_readsOrder_72 : decode cX7_readsOrder 72 = .ok (.getfield 151, 3) := by decide +kernel
theorem dX7_readsOrder_75 : decode cX7_readsOrder 75 = .ok (.iload_n 1, 1) := by decide +kernel
theorem dX7_readsOrder_76 : decode cX7_readsOrder 76 = .ok (.iastore, 1) := by decide +kernel
theorem dX7_readsOrder_77 : decode cX7_readsOrder 77 = .ok (.aload_n 0, 1) := by decide +kernel
theorem dX7_readsOrder_78 : decode cX7_readsOrder 78 = .ok (.dup, 1) := by decide +kernel
theorem dX7_readsOrder_79 : decode cX7_readsOrder 79 = .ok (.getfield 151, 3) := by decide +kernel
theorem dX7_readsOrder_82 : decode cX7_readsOrder 82 = .ok (.iconst 1, 1) := by decide +kernel
theorem dX7_readsOrder_83 : decode cX7_readsOrder 83 = .ok (.iadd, 1) := by decide +kernel
theorem dX7_readsOrder_84 : decode cX7_readsOrder 84 = .ok (.putfield 151, 3) := by decide +kernel
theorem dX7_readsOrder_87 : decode cX7_readsOrder 87 = .ok (.iload_n 2, 1) := by decide +kernel
theorem dX7_readsOrder_88 : decode cX7_readsOrder 88 = .ok (.ireturn, 1) := by decide +kernel
set_option maxRecDepth 20000 in
theorem ggX7_isComplete_X7_readsOrder : GoodIn wsX7_isComplete wsX7_readsOrder := goodIn_r _ [8, 9, 2, 10, 11, 12, 7, 13, 1, 3, 14, 15, 16, 17, 18, 19, 20, 21, 22, 23, 24, 25, 26, 27, 28, 29, 30, 31, 32, 33, 34, 35, 36, 37, 38, 39, 40, 41, 42, 43, 44, 45, 46, 47, 48, 49, 50, 51, 52, 53, 54, 55, 56, 57, 58, 59, 60, 61, 62, 63, 64, 65, 66, 67, 68, 69, 70, 71, 72, 73, 74, 75, 76, 77, 78, 79, 80] (by decide +kernel) (by decide +kernel)
set_option maxRecDepth 20000 in
theorem gX7_isComplete_X7_readsOrder : GoodIn wsX7_isComplete (wsV RX7 182 RX7 yX7_readsOrder wsX7_readsOrder) := goodIn_app (goodIn_of _ (by decide +kernel)) ggX7_isComplete_X7_readsOrder
set_option maxRecDepth 20000 in
theorem ggX7_isComplete_X7_takes : GoodIn wsX7_isComplete wsX7_takes := goodIn_r _ [22, 1, 10, 11, 12, 7, 13, 3, 14, 59, 60, 61, 62, 63, 64, 65, 66, 67, 68, 69, 70, 71, 72, 73, 74, 75, 76, 77, 78, 79, 80] (by decide +kernel) (by decide +kernel)
set_option maxRecDepth 20000 in
theorem gX7_isComplete_X7_takes : GoodIn wsX7_isComplete (wsV RX7 154 RX7 yX7_takes wsX7_takes) := goodIn_app (goodIn_of _ (by decide +kernel)) ggX7_isComplete_X7_takes
theorem dX7_isComplete_0 : decode cX7_isComplete 0 = .ok (.aload_n 0, 1) := by decide +kernel
theorem dX7_isComplete_1 : decode cX7_isComplete 1 = .ok (.iconst 0, 1) := by decide +kernel
theorem dX7_isComplete_2 : decode cX7_isComplete 2 = .ok (.putfield 142, 3) := by decide +kernel
theorem dX7_isComplete_5 : decode cX7_isComplete 5 = .ok (.aload_n 0, 1) := by decide +kernel
theorem dX7_isComplete_6 : decode cX7_isComplete 6 = .ok (.iconst 0, 1) := by decide +kernel
theorem dX7_isComplete_7 : decode cX7_isComplete 7 = .ok (.putfield 151, 3) := by decide +kernel
theorem dX7_isComplete_10 : decode cX7_isComplete 10 = .ok (.aload_n 0, 1) := by decide +kernel
theorem dX7_isComplete_11 : decode cX7_isComplete 11 = .ok (.invokevirtual 182, 3) := by decide +kernel
theorem dX7_isComplete_14 : decode cX7_isComplete 14 = .ok (.istore_n 1, 1) := by decide +kernel
theorem dX7_isComplete_15 : decode cX7_isComplete 15 = .ok (.iload_n 1, 1) := by decide +kernel
theorem dX7_isComplete_16 : decode cX7_isComplete 16 = .ok (.ifCond .eq 20, 3) := by decide +kernel
theorem dX7_isComplete_19 : decode cX7_isComplete 19 = .ok (.aload_n 0, 1) := by decide +kernel
theorem dX7_isComplete_20 : decode cX7_isComplete 20 = .ok (.bipush 59, 2) := by decide +kernel
theorem dX7_isComplete_22 : decode cX7_isComplete 22 = .ok (.invokevirtual 154, 3) := by decide +kernel
theorem dX7_isComplete_25 : decode cX7_isComplete 25 = .ok (.ifCond .eq 11, 3) := by decide +kernel
theorem dX7_isComplete_28 : decode cX7_isComplete 28 = .ok (.aload_n 0, 1) := by decide +kernel
theorem dX7_isComplete_29 : decode cX7_isComplete 29 = .ok (.invokevirtual 182, 3) := by decide +kernel
theorem dX7_isComplete_32 : decode cX7_isComplete 32 = .ok (.istore_n 1, 1) := by decide +kernel
theorem dX7_isComplete_33 : decode cX7_isComplete 33 = .ok (.goto (-18), 3) := by decide +kernel
theorem dX7_isComplete_36 : decode cX7_isComplete 36 = .ok (.iload_n 1, 1) := by decide +kernel
theorem dX7_isComplete_37 : decode cX7_isComplete 37 = .ok (.ifCond .eq 18, 3) := by decide +kernel
theorem dX7_isComplete_40 : decode cX7_isComplete 40 = .ok (.aload_n 0, 1) := by decide +kernel
theorem dX7_isComplete_41 : decode cX7_isComplete 41 = .ok (.getfield 142, 3) := by decide +kernel
theorem dX7_isComplete_44 : decode cX7_isComplete 44 = .ok (.aload_n 0, 1) := by decide +kernel
theorem dX7_isComplete_45 : decode cX7_isComplete 45 = .ok (.getfield 139, 3) := by decide +kernel
theorem dX7_isComplete_48 : decode cX7_isComplete 48 = .ok (.if_icmp .ne 7, 3) := by decide +kernel
theorem dX7_isComplete_51 : decode cX7_isComplete 51 = .ok (.iconst 1, 1) := by decide +kernel
theorem dX7_isComplete_52 : decode cX7_isComplete 52 = .ok (.goto 4, 3) := by decide +kernel
theorem dX7_isComplete_55 : decode cX7_isComplete 55 = .ok (.iconst 0, 1) := by decide +kernel
theorem dX7_isComplete_56 : decode cX7_isComplete 56 = .ok (.ireturn, 1) := by decide +kernel
set_option maxRecDepth 20000 in
theorem ggX7_firstError_X7_isComplete : GoodIn wsX7_firstError wsX7_isComplete := goodIn_r _ [8, 3, 9, 2, 10, 11, 12, 7, 13, 14, 15, 16, 17, 18, 19, 20, 21, 22, 23, 24, 25, 26, 27, 28, 29, 30, 31, 32, 33, 34, 35, 36, 37, 38, 39, 40, 41, 42, 43, 44, 45, 46, 47, 48, 49, 50, 51, 52, 53, 54, 55, 56, 57, 58, 59, 60, 61, 62, 63, 64, 65, 66, 67, 68, 69, 70, 71, 72, 73, 74, 75, 76, 77, 78, 79, 80, 81, 82, 83, 84, 85] (by decide +kernel) (by decide +kernel)
set_option maxRecDepth 20000 in
theorem gX7_firstError_X7_isComplete : GoodIn wsX7_firstError (wsV RX7 185 RX7 yX7_isComplete wsX7_isComplete) := goodIn_app (goodIn_of _ (by decide +kernel)) ggX7_firstError_X7_isComplete
theorem dX7_firstError_0 : decode cX7_firstError 0 = .ok (.aload_n 0, 1) := by decide +kernel
theorem dX7_firstError_1 : decode cX7_firstError 1 = .ok (.iconst 0, 1) := by decide +kernel
theorem dX7_firstError_2 : decode cX7_firstError 2 = .ok (.putfield 53, 3) := by decide +kernel
theorem dX7_firstError_5 : decode cX7_firstError 5 = .ok (.aload_n 0, 1) := by decide +kernel
theorem dX7_firstError_6 : decode cX7_firstError 6 = .ok (.invokevirtual 185, 3) := by decide +kernel
theorem dX7_firstError_9 : decode cX7_firstError 9 = .ok (.ifCond .eq 10, 3) := by decide +kernel
theorem dX7_firstError_12 : decode cX7_firstError 12 = .ok (.aload_n 0, 1) := by decide +kernel
theorem dX7_firstError_13 : decode cX7_firstError 13 = .ok (.getfield 139, 3) := by decide +kernel
theorem dX7_firstError_16 : decode cX7_firstError 16 = .ok (.goto 7, 3) := by decide +kernel
theorem dX7_firstError_19 : decode cX7_firstError 19 = .ok (.aload_n 0, 1) := by decide +kernel
theorem dX7_firstError_20 : decode cX7_firstError 20 = .ok (.getfield 142, 3) := by decide +kernel
theorem dX7_firstError_23 : decode cX7_firstError 23 = .ok (.ireturn, 1) := by decide +kernel
set_option maxRecDepth 20000 in
theorem ggX7_canDo_X7_isCord : GoodIn wsX7_canDo wsX7_isCord := goodIn_r _ [10, 2, 11, 12, 9, 13, 37, 38, 39, 40, 41, 42, 43, 44, 45, 46, 47, 48, 49, 50, 51, 52, 53, 54, 55, 56, 57, 58] (by decide +kernel) (by decide +kernel)
set_option maxRecDepth 20000 in
theorem gX7_canDo_X7_isCord : GoodIn wsX7_canDo (wsV RX7 125 RX7 yX7_isCord wsX7_isCord) := goodIn_app (goodIn_of _ (by decide +kernel)) ggX7_canDo_X7_isCord
set_option maxRecDepth 20000 in
theorem ggX7_canDo_X7_canLight : GoodIn wsX7_canDo wsX7_canLight := goodIn_r _ [17, 18, 19, 20, 9, 21, 22, 23, 24, 25, 26, 27, 28, 29, 2, 30, 31, 32, 33, 34, 35, 36, 37, 38, 39, 40, 41, 42, 43, 44, 45, 46, 47, 48, 49, 50, 51, 52, 53, 54, 55, 56, 57, 58] (by decide +kernel) (by decide +kernel)
set_option maxRecDepth 20000 in
theorem gX7_canDo_X7_canLight : GoodIn wsX7_canDo (wsV RX7 99 RX7 yX7_canLight wsX7_canLight) := goodIn_app (goodIn_of _ (by decide +kernel)) ggX7_canDo_X7_canLight
theorem dX7_canDo_0 : decode cX7_canDo 0 = .ok (.aload_n 0, 1) := by decide +kernel
theorem dX7_canDo_1 : decode cX7_canDo 1 = .ok (.getfield 29, 3) := by decide +kernel
theorem dX7_canDo_4 : decode cX7_canDo 4 = .ok (.iload_n 1, 1) := by decide +kernel
theorem dX7_canDo_5 : decode cX7_canDo 5 = .ok (.iaload, 1) := by decide +kernel
theorem dX7_canDo_6 : decode cX7_canDo 6 = .ok (.lookupswitch 157 #[(108, 51), (110, 34), (119, 98)], 34) := by decide +kernel
theorem dX7_canDo_40 : decode cX7_canDo 40 = .ok (.aload_n 0, 1) := by decide +kernel
theorem dX7_canDo_41 : decode cX7_canDo 41 = .ok (.getfield 7, 3) := by decide +kernel
theorem dX7_canDo_44 : decode cX7_canDo 44 = .ok (.bipush 6, 2) := by decide +kernel
theorem dX7_canDo_46 : decode cX7_canDo 46 = .ok (.iaload, 1) := by decide +kernel
theorem dX7_canDo_47 : decode cX7_canDo 47 = .ok (.iconst 4, 1) := by decide +kernel
theorem dX7_canDo_48 : decode cX7_canDo 48 = .ok (.if_icmp .ge 7, 3) := by decide +kernel
theorem dX7_canDo_51 : decode cX7_canDo 51 = .ok (.iconst 1, 1) := by decide +kernel
theorem dX7_canDo_52 : decode cX7_canDo 52 = .ok (.goto 4, 3) := by decide +kernel
theorem dX7_canDo_55 : decode cX7_canDo 55 = .ok (.iconst 0, 1) := by decide +kernel
theorem dX7_canDo_56 : decode cX7_canDo 56 = .ok (.ireturn, 1) := by decide +kernel
theorem dX7_canDo_57 : decode cX7_canDo 57 = .ok (.aload_n 0, 1) := by decide +kernel
theorem dX7_canDo_58 : decode cX7_canDo 58 = .ok (.aload_n 0, 1) := by decide +kernel
theorem dX7_canDo_59 : decode cX7_canDo 59 = .ok (.getfield 32, 3) := by decide +kernel
theorem dX7_canDo_62 : decode cX7_canDo 62 = .ok (.iload_n 1, 1) := by decide +kernel
theorem dX7_canDo_63 : decode cX7_canDo 63 = .ok (.iaload, 1) := by decide +kernel
theorem dX7_canDo_64 : decode cX7_canDo 64 = .ok (.invokevirtual 125, 3) := by decide +kernel
theorem dX7_canDo_67 : decode cX7_canDo 67 = .ok (.ifCond .eq 35, 3) := by decide +kernel
theorem dX7_canDo_70 : decode cX7_canDo 70 = .ok (.aload_n 0, 1) := by decide +kernel
theorem dX7_canDo_71 : decode cX7_canDo 71 = .ok (.aload_n 0, 1) := by decide +kernel
theorem dX7_canDo_72 : decode cX7_canDo 72 = .ok (.getfield 32, 3) := by decide +kernel
theorem dX7_canDo_75 : decode cX7_canDo 75 = .ok (.iload_n 1, 1) := by decide +kernel
theorem dX7_canDo_76 : decode cX7_canDo 76 = .ok (.iaload, 1) := by decide +kernel
theorem dX7_canDo_77 : decode cX7_canDo 77 = .ok (.aload_n 0, 1) := by decide +kernel
theorem dX7_canDo_78 : decode cX7_canDo 78 = .ok (.getfield 38, 3) := by decide +kernel
theorem dX7_canDo_81 : decode cX7_canDo 81 = .ok (.iload_n 1, 1) := by decide +kernel
theorem dX7_canDo_82 : decode cX7_canDo 82 = .ok (.iaload, 1) := by decide +kernel
theorem dX7_canDo_83 : decode cX7_canDo 83 = .ok (.iconst 1, 1) := by decide +kernel
theorem dX7_canDo_84 : decode cX7_canDo 84 = .ok (.if_icmp .ne 7, 3) := by decide +kernel
theorem dX7_canDo_87 : decode cX7_canDo 87 = .ok (.iconst 1, 1) := by decide +kernel
theorem dX7_canDo_88 : decode cX7_canDo 88 = .ok (.goto 4, 3) := by decide +kernel
theorem dX7_canDo_91 : decode cX7_canDo 91 = .ok (.iconst 0, 1) := by decide +kernel
theorem dX7_canDo_92 : decode cX7_canDo 92 = .ok (.invokevirtual 99, 3) := by decide +kernel
theorem dX7_canDo_95 : decode cX7_canDo 95 = .ok (.ifCond .eq 7, 3) := by decide +kernel
theorem dX7_canDo_98 : decode cX7_canDo 98 = .ok (.iconst 1, 1) := by decide +kernel
theorem dX7_canDo_99 : decode cX7_canDo 99 = .ok (.goto 4, 3) := by decide +kernel
theorem dX7_canDo_102 : decode cX7_canDo 102 = .ok (.iconst 0, 1) := by decide +kernel
theorem dX7_canDo_103 : decode cX7_canDo 103 = .ok (.ireturn, 1) := by decide +kernel
theorem dX7_canDo_104 : decode cX7_canDo 104 = .ok (.aload_n 0, 1) := by decide +kernel
theorem dX7_canDo_105 : decode cX7_canDo 105 = .ok (.aload_n 0, 1) := by decide +kernel
theorem dX7_canDo_106 : decode cX7_canDo 106 = .ok (.getfield 32, 3) := by decide +kernel
theorem dX7_canDo_109 : decode cX7_canDo 109 = .ok (.iload_n 1, 1) := by decide +kernel
theorem dX7_canDo_110 : decode cX7_canDo 110 = .ok (.iaload, 1) := by decide +kernel
theorem dX7_canDo_111 : decode cX7_canDo 111 = .ok (.invokevirtual 125, 3) := by decide +kernel
theorem dX7_canDo_114 : decode cX7_canDo 114 = .ok (.ifCond .eq 47, 3) := by decide +kernel
theorem dX7_canDo_117 : decode cX7_canDo 117 = .ok (.aload_n 0, 1) := by decide +kernel
theorem dX7_canDo_118 : decode cX7_canDo 118 = .ok (.aload_n 0, 1) := by decide +kernel
theorem dX7_canDo_119 : decode cX7_canDo 119 = .ok (.getfield 35, 3) := by decide +kernel
theorem dX7_canDo_122 : decode cX7_canDo 122 = .ok (.iload_n 1, 1) := by decide +kernel
theorem dX7_canDo_123 : decode cX7_canDo 123 = .ok (.iaload, 1) := by decide +kernel
theorem dX7_canDo_124 : decode cX7_canDo 124 = .ok (.invokevirtual 125, 3) := by decide +kernel
theorem dX7_canDo_127 : decode cX7_canDo 127 = .ok (.ifCond .eq 34, 3) := by decide +kernel
theorem dX7_canDo_130 : decode cX7_canDo 130 = .ok (.aload_n 0, 1) := by decide +kernel
theorem dX7_canDo_131 : decode cX7_canDo 131 = .ok (.getfield 32, 3) := by decide +kernel
theorem dX7_canDo_134 : decode cX7_canDo 134 = .ok (.iload_n 1, 1) := by decide +kernel
theorem dX7_canDo_135 : decode cX7_canDo 135 = .ok (.iaload, 1) := by decide +kernel
theorem dX7_canDo_136 : decode cX7_canDo 136 = .ok (.aload_n 0, 1) := by decide +kernel
theorem dX7_canDo_137 : decode cX7_canDo 137 = .ok (.getfield 35, 3) := by decide +kernel
theorem dX7_canDo_140 : decode cX7_canDo 140 = .ok (.iload_n 1, 1) := by decide +kernel
theorem dX7_canDo_141 : decode cX7_canDo 141 = .ok (.iaload, 1) := by decide +kernel
theorem dX7_canDo_142 : decode cX7_canDo 142 = .ok (.if_icmp .eq 19, 3) := by decide +kernel
theorem dX7_canDo_145 : decode cX7_canDo 145 = .ok (.aload_n 0, 1) := by decide +kernel
theorem dX7_canDo_146 : decode cX7_canDo 146 = .ok (.getfield 7, 3) := by decide +kernel
theorem dX7_canDo_149 : decode cX7_canDo 149 = .ok (.bipush 51, 2) := by decide +kernel
theorem dX7_canDo_151 : decode cX7_canDo 151 = .ok (.iaload, 1) := by decide +kernel
theorem dX7_canDo_152 : decode cX7_canDo 152 = .ok (.bipush 8, 2) := by decide +kernel
theorem dX7_canDo_154 : decode cX7_canDo 154 = .ok (.if_icmp .ge 7, 3) := by decide +kernel
theorem dX7_canDo_157 : decode cX7_canDo 157 = .ok (.iconst 1, 1) := by decide +kernel
theorem dX7_canDo_158 : decode cX7_canDo 158 = .ok (.goto 4, 3) := by decide +kernel
theorem dX7_canDo_161 : decode cX7_canDo 161 = .ok (.iconst 0, 1) := by decide +kernel
theorem dX7_canDo_162 : decode cX7_canDo 162 = .ok (.ireturn, 1) := by decide +kernel
theorem dX7_canDo_163 : decode cX7_canDo 163 = .ok (.iconst 1, 1) := by decide +kernel
theorem dX7_canDo_164 : decode cX7_canDo 164 = .ok (.ireturn, 1) := by decide +kernel
set_option maxRecDepth 20000 in
theorem ggX7_doOrder_X7_addCord : GoodIn wsX7_doOrder wsX7_addCord := goodIn_r _ [10, 11, 12, 13, 14, 9, 15, 75, 76, 77, 78, 79, 80, 81, 82, 83, 84, 85, 86, 87, 88, 89, 90, 91, 92, 93, 94, 95, 96] (by decide +kernel) (by decide +kernel)
set_option maxRecDepth 20000 in
theorem gX7_doOrder_X7_addCord : GoodIn wsX7_doOrder (wsV RX7 122 RX7 yX7_addCord wsX7_addCord) := goodIn_app (goodIn_of _ (by decide +kernel)) ggX7_doOrder_X7_addCord
set_option maxRecDepth 20000 in
theorem ggX7_doOrder_X7_put : GoodIn wsX7_doOrder wsX7_put := goodIn_r _ [15, 11, 75, 76, 77, 78, 79, 80, 81, 82, 83, 84, 85, 86, 87, 88, 89, 90, 91, 92, 93, 94, 95, 96] (by decide +kernel) (by decide +kernel)
set_option maxRecDepth 20000 in
theorem gX7_doOrder_X7_put : GoodIn wsX7_doOrder (wsV RX7 91 RX7 yX7_put wsX7_put) := goodIn_app (goodIn_of _ (by decide +kernel)) ggX7_doOrder_X7_put
set_option maxRecDepth 20000 in
theorem ggX7_doOrder_X7_lightNow : GoodIn wsX7_doOrder wsX7_lightNow := goodIn_r _ [19, 11, 20, 21, 22, 9, 23, 24, 25, 26, 12, 13, 14, 15, 27, 28, 29, 30, 75, 76, 77, 78, 79, 80, 81, 82, 83, 84, 85, 86, 87, 88, 89, 90, 91, 92, 93, 94, 95, 96] (by decide +kernel) (by decide +kernel)
set_option maxRecDepth 20000 in
theorem gX7_doOrder_X7_lightNow : GoodIn wsX7_doOrder (wsV RX7 103 RX7 yX7_lightNow wsX7_lightNow) := goodIn_app (goodIn_of _ (by decide +kernel)) ggX7_doOrder_X7_lightNow
set_option maxRecDepth 20000 in
theorem ggX7_doOrder_X7_addRule : GoodIn wsX7_doOrder wsX7_addRule := goodIn_r _ [34, 11, 75, 76, 77, 78, 79, 80, 81, 82, 83, 84, 85, 86, 87, 88, 89, 90, 91, 92, 93, 94, 95, 96] (by decide +kernel) (by decide +kernel)
set_option maxRecDepth 20000 in
theorem gX7_doOrder_X7_addRule : GoodIn wsX7_doOrder (wsV RX7 132 RX7 yX7_addRule wsX7_addRule) := goodIn_app (goodIn_of _ (by decide +kernel)) ggX7_doOrder_X7_addRule
set_option maxRecDepth 20000 in
theorem ggX7_doOrder_X7_runNow : GoodIn wsX7_doOrder wsX7_runNow := goodIn_r _ [38, 39, 40, 41, 9, 42, 11, 43, 44, 45, 46, 47, 48, 49, 50, 20, 21, 22, 23, 51, 52, 53, 54, 12, 13, 14, 15, 55, 56, 57, 58, 59, 60, 61, 62, 63, 64, 65, 66, 67, 68, 69, 70, 27, 28, 29, 30, 71, 72, 73, 74, 24, 25, 26, 16, 17, 18, 19, 75, 76, 77, 78, 79, 80, 81, 82, 83, 84, 85, 86, 87, 88, 89, 90, 91, 92, 93, 94, 95, 96] (by decide +kernel) (by decide +kernel)
set_option maxRecDepth 20000 in
theorem gX7_doOrder_X7_runNow : GoodIn wsX7_doOrder (wsV RX7 136 RX7 yX7_runNow wsX7_runNow) := goodIn_app (goodIn_of _ (by decide +kernel)) ggX7_doOrder_X7_runNow
theorem dX7_doOrder_0 : decode cX7_doOrder 0 = .ok (.aload_n 0, 1) := by decide +kernel
theorem dX7_doOrder_1 : decode cX7_doOrder 1 = .ok (.getfield 29, 3) := by decide +kernel
theorem dX7_doOrder_4 : decode cX7_doOrder 4 = .ok (.iload_n 1, 1) := by decide +kernel
theorem dX7_doOrder_5 : decode cX7_doOrder 5 = .ok (.iaload, 1) := by decide +kernel
theorem dX7_doOrder_6 : decode cX7_doOrder 6 = .ok (.lookupswitch 139 #[(108, 85), (110, 34), (119, 113)], 34) := by decide +kernel
theorem dX7_doOrder_40 : decode cX7_doOrder 40 = .ok (.aload_n 0, 1) := by decide +kernel
theorem dX7_doOrder_41 : decode cX7_doOrder 41 = .ok (.aload_n 0, 1) := by decide +kernel
theorem dX7_doOrder_42 : decode cX7_doOrder 42 = .ok (.getfield 32, 3) := by decide +kernel
theorem dX7_doOrder_45 : decode cX7_doOrder 45 = .ok (.iload_n 1, 1) := by decide +kernel
theorem dX7_doOrder_46 : decode cX7_doOrder 46 = .ok (.iaload, 1) := by decide +kernel
theorem dX7_doOrder_47 : decode cX7_doOrder 47 = .ok (.invokevirtual 122, 3) := by decide +kernel
theorem dX7_doOrder_50 : decode cX7_doOrder 50 = .ok (.istore_n 2, 1) := by decide +kernel
theorem dX7_doOrder_51 : decode cX7_doOrder 51 = .ok (.iconst 0, 1) := by decide +kernel
theorem dX7_doOrder_52 : decode cX7_doOrder 52 = .ok (.istore_n 3, 1) := by decide +kernel
theorem dX7_doOrder_53 : decode cX7_doOrder 53 = .ok (.iload_n 3, 1) := by decide +kernel
theorem dX7_doOrder_54 : decode cX7_doOrder 54 = .ok (.aload_n 0, 1) := by decide +kernel
theorem dX7_doOrder_55 : decode cX7_doOrder 55 = .ok (.getfield 32, 3) := by decide +kernel
theorem dX7_doOrder_58 : decode cX7_doOrder 58 = .ok (.iload_n 1, 1) := by decide +kernel
theorem dX7_doOrder_59 : decode cX7_doOrder 59 = .ok (.iaload, 1) := by decide +kernel
theorem dX7_doOrder_60 : decode cX7_doOrder 60 = .ok (.if_icmp .ge 28, 3) := by decide +kernel
theorem dX7_doOrder_63 : decode cX7_doOrder 63 = .ok (.aload_n 0, 1) := by decide +kernel
theorem dX7_doOrder_64 : decode cX7_doOrder 64 = .ok (.iload_n 2, 1) := by decide +kernel
theorem dX7_doOrder_65 : decode cX7_doOrder 65 = .ok (.iconst 1, 1) := by decide +kernel
theorem dX7_doOrder_66 : decode cX7_doOrder 66 = .ok (.iload_n 3, 1) := by decide +kernel
theorem dX7_doOrder_67 : decode cX7_doOrder 67 = .ok (.iadd, 1) := by decide +kernel
theorem dX7_doOrder_68 : decode cX7_doOrder 68 = .ok (.aload_n 0, 1) := by decide +kernel
theorem dX7_doOrder_69 : decode cX7_doOrder 69 = .ok (.getfield 41, 3) := by decide +kernel
theorem dX7_doOrder_72 : decode cX7_doOrder 72 = .ok (.bipush 6, 2) := by decide +kernel
theorem dX7_doOrder_74 : decode cX7_doOrder 74 = .ok (.iload_n 1, 1) := by decide +kernel
theorem dX7_doOrder_75 : decode cX7_doOrder 75 = .ok (.imul, 1) := by decide +kernel
theorem dX7_doOrder_76 : decode cX7_doOrder 76 = .ok (.iload_n 3, 1) := by decide +kernel
theorem dX7_doOrder_77 : decode cX7_doOrder 77 = .ok (.iadd, 1) := by decide +kernel
theorem dX7_doOrder_78 : decode cX7_doOrder 78 = .ok (.iaload, 1) := by decide +kernel
theorem dX7_doOrder_79 : decode cX7_doOrder 79 = .ok (.invokevirtual 91, 3) := by decide +kernel
theorem dX7_doOrder_82 : decode cX7_doOrder 82 = .ok (.iinc 3 1, 3) := by decide +kernel
theorem dX7_doOrder_85 : decode cX7_doOrder 85 = .ok (.goto (-32), 3) := by decide +kernel
theorem dX7_doOrder_88 : decode cX7_doOrder 88 = .ok (.goto 69, 3) := by decide +kernel
theorem dX7_doOrder_91 : decode cX7_doOrder 91 = .ok (.aload_n 0, 1) := by decide +kernel
theorem dX7_doOrder_92 : decode cX7_doOrder 92 = .ok (.aload_n 0, 1) := by decide +kernel
theorem dX7_doOrder_93 : decode cX7_doOrder 93 = .ok (.getfield 32, 3) := by decide +kernel
theorem dX7_doOrder_96 : decode cX7_doOrder 96 = .ok (.iload_n 1, 1) := by decide +kernel
theorem dX7_doOrder_97 : decode cX7_doOrder 97 = .ok (.iaload, 1) := by decide +kernel
theorem dX7_doOrder_98 : decode cX7_doOrder 98 = .ok (.aload_n 0, 1) := by decide +kernel
theorem dX7_doOrder_99 : decode cX7_doOrder 99 = .ok (.getfield 38, 3) := by decide +kernel
theorem dX7_doOrder_102 : decode cX7_doOrder 102 = .ok (.iload_n 1, 1) := by decide +kernel
theorem dX7_doOrder_103 : decode cX7_doOrder 103 = .ok (.iaload, 1) := by decide +kernel
theorem dX7_doOrder_104 : decode cX7_doOrder 104 = .ok (.iconst 1, 1) := by decide +kernel
theorem dX7_doOrder_105 : decode cX7_doOrder 105 = .ok (.if_icmp .ne 7, 3) := by decide +kernel
theorem dX7_doOrder_108 : decode cX7_doOrder 108 = .ok (.iconst 1, 1) := by decide +kernel
theorem dX7_doOrder_109 : decode cX7_doOrder 109 = .ok (.goto 4, 3) := by decide +kernel
theorem dX7_doOrder_112 : decode cX7_doOrder 112 = .ok (.iconst 0, 1) := by decide +kernel
theorem dX7_doOrder_113 : decode cX7_doOrder 113 = .ok (.invokevirtual 103, 3) := by decide +kernel
theorem dX7_doOrder_116 : decode cX7_doOrder 116 = .ok (.goto 41, 3) := by decide +kernel
theorem dX7_doOrder_119 : decode cX7_doOrder 119 = .ok (.aload_n 0, 1) := by decide +kernel
theorem dX7_doOrder_120 : decode cX7_doOrder 120 = .ok (.aload_n 0, 1) := by decide +kernel
theorem dX7_doOrder_121 : decode cX7_doOrder 121 = .ok (.getfield 32, 3) := by decide +kernel
theorem dX7_doOrder_124 : decode cX7_doOrder 124 = .ok (.iload_n 1, 1) := by decide +kernel
theorem dX7_doOrder_125 : decode cX7_doOrder 125 = .ok (.iaload, 1) := by decide +kernel
theorem dX7_doOrder_126 : decode cX7_doOrder 126 = .ok (.aload_n 0, 1) := by decide +kernel
theorem dX7_doOrder_127 : decode cX7_doOrder 127 = .ok (.getfield 35, 3) := by decide +kernel
theorem dX7_doOrder_130 : decode cX7_doOrder 130 = .ok (.iload_n 1, 1) := by decide +kernel
theorem dX7_doOrder_131 : decode cX7_doOrder 131 = .ok (.iaload, 1) := by decide +kernel
theorem dX7_doOrder_132 : decode cX7_doOrder 132 = .ok (.aload_n 0, 1) := by decide +kernel
theorem dX7_doOrder_133 : decode cX7_doOrder 133 = .ok (.getfield 38, 3) := by decide +kernel
theorem dX7_doOrder_136 : decode cX7_doOrder 136 = .ok (.iload_n 1, 1) := by decide +kernel
theorem dX7_doOrder_137 : decode cX7_doOrder 137 = .ok (.iaload, 1) := by decide +kernel
theorem dX7_doOrder_138 : decode cX7_doOrder 138 = .ok (.invokevirtual 132, 3) := by decide +kernel
theorem dX7_doOrder_141 : decode cX7_doOrder 141 = .ok (.istore_n 3, 1) := by decide +kernel
theorem dX7_doOrder_142 : decode cX7_doOrder 142 = .ok (.goto 15, 3) := by decide +kernel
theorem dX7_doOrder_145 : decode cX7_doOrder 145 = .ok (.aload_n 0, 1) := by decide +kernel
theorem dX7_doOrder_146 : decode cX7_doOrder 146 = .ok (.aload_n 0, 1) := by decide +kernel
theorem dX7_doOrder_147 : decode cX7_doOrder 147 = .ok (.getfield 32, 3) := by decide +kernel
theorem dX7_doOrder_150 : decode cX7_doOrder 150 = .ok (.iload_n 1, 1) := by decide +kernel
theorem dX7_doOrder_151 : decode cX7_doOrder 151 = .ok (.iaload, 1) := by decide +kernel
theorem dX7_doOrder_152 : decode cX7_doOrder 152 = .ok (.invokevirtual 136, 3) := by decide +kernel
theorem dX7_doOrder_155 : decode cX7_doOrder 155 = .ok (.istore 4, 2) := by decide +kernel
theorem dX7_doOrder_157 : decode cX7_doOrder 157 = .ok (.return_, 1) := by decide +kernel
set_option maxRecDepth 20000 in
theorem ggX7_execute_X7_isComplete : GoodIn wsX7_execute wsX7_isComplete := goodIn_r _ [8, 9, 2, 3, 10, 11, 12, 7, 13, 14, 15, 16, 17, 18, 19, 20, 21, 22, 23, 24, 25, 26, 27, 28, 29, 30, 31, 32, 33, 34, 35, 36, 37, 38, 39, 40, 41, 42, 43, 44, 45, 46, 47, 48, 49, 50, 51, 52, 53, 54, 55, 56, 57, 58, 59, 60, 61, 62, 63, 154, 155, 156, 157, 158, 159, 160, 161, 162, 163, 164, 165, 166, 167, 168, 169, 170, 171, 172, 173, 174, 175] (by decide +kernel) (by decide +kernel)
set_option maxRecDepth 20000 in
theorem gX7_execute_X7_isComplete : GoodIn wsX7_execute (wsV RX7 185 RX7 yX7_isComplete wsX7_isComplete) := goodIn_app (goodIn_of _ (by decide +kernel)) ggX7_execute_X7_isComplete
set_option maxRecDepth 20000 in
theorem ggX7_execute_X7_fails : GoodIn wsX7_execute wsX7_fails := goodIn_r _ [67, 1, 154, 155, 156, 157, 158, 159, 160, 161, 162, 163, 164, 165, 166, 167, 168, 169, 170, 171, 172, 173, 174, 175] (by decide +kernel) (by decide +kernel)
set_option maxRecDepth 20000 in
theorem gX7_execute_X7_fails : GoodIn wsX7_execute (wsV RX7 64 RX7 yX7_fails wsX7_fails) := goodIn_app (goodIn_of _ (by decide +kernel)) ggX7_execute_X7_fails
set_option maxRecDepth 20000 in
theorem ggX7_execute_X7_save : GoodIn wsX7_execute wsX7_save := goodIn_r _ [71, 72, 73, 74, 154, 155, 156, 157, 158, 159, 160, 161, 162, 163, 164, 165, 166, 167, 168, 169, 170, 171, 172, 173, 174, 175] (by decide +kernel) (by decide +kernel)
set_option maxRecDepth 20000 in
theorem gX7_execute_X7_save : GoodIn wsX7_execute (wsV RX7 68 RX7 yX7_save wsX7_save) := goodIn_app (goodIn_of _ (by decide +kernel)) ggX7_execute_X7_save
set_option maxRecDepth 20000 in
theorem ggX7_execute_X7_canDo : GoodIn wsX7_execute wsX7_canDo := goodIn_r _ [78, 14, 74, 32, 54, 59, 79, 80, 81, 7, 82, 39, 40, 41, 83, 84, 85, 86, 87, 88, 89, 90, 91, 92, 93, 94, 95, 96, 97, 98, 99, 100, 101, 102, 103, 104, 105, 154, 155, 156, 157, 158, 159, 160, 161, 162, 163, 164, 165, 166, 167, 168, 169, 170, 171, 172, 173, 174, 175] (by decide +kernel) (by decide +kernel)
set_option maxRecDepth 20000 in
theorem gX7_execute_X7_canDo : GoodIn wsX7_execute (wsV RX7 188 RX7 yX7_canDo wsX7_canDo) := goodIn_app (goodIn_of _ (by decide +kernel)) ggX7_execute_X7_canDo
set_option maxRecDepth 20000 in
theorem ggX7_execute_X7_doOrder : GoodIn wsX7_execute wsX7_doOrder := goodIn_r _ [109, 14, 32, 33, 54, 59, 110, 111, 112, 7, 113, 74, 114, 115, 116, 117, 118, 119, 120, 121, 95, 96, 97, 98, 103, 104, 105, 122, 123, 124, 125, 126, 127, 128, 129, 130, 131, 132, 133, 134, 135, 136, 137, 138, 139, 140, 141, 142, 143, 144, 145, 146, 147, 148, 149, 87, 88, 89, 90, 91, 92, 93, 94, 99, 100, 101, 102, 150, 151, 152, 153, 83, 84, 85, 86, 154, 155, 156, 157, 158, 159, 160, 161, 162, 163, 164, 165, 166, 167, 168, 169, 170, 171, 172, 173, 174, 175] (by decide +kernel) (by decide +kernel)
set_option maxRecDepth 20000 in
theorem gX7_execute_X7_doOrder : GoodIn wsX7_execute (wsV RX7 191 RX7 yX7_doOrder wsX7_doOrder) := goodIn_app (goodIn_of _ (by decide +kernel)) ggX7_execute_X7_doOrder
theorem dX7_execute_0 : decode cX7_execute 0 = .ok (.aload_n 0, 1) := by decide +kernel
theorem dX7_execute_1 : decode cX7_execute 1 = .ok (.iconst 0, 1) := by decide +kernel
theorem dX7_execute_2 : decode cX7_execute 2 = .ok (.putfield 53, 3) := by decide +kernel
theorem dX7_execute_5 : decode cX7_execute 5 = .ok (.aload_n 0, 1) := by decide +kernel
theorem dX7_execute_6 : decode cX7_execute 6 = .ok (.invokevirtual 185, 3) := by decide +kernel
theorem dX7_execute_9 : decode cX7_execute 9 = .ok (.ifCond .ne 9, 3) := by decide +kernel
theorem dX7_execute_12 : decode cX7_execute 12 = .ok (.aload_n 0, 1) := by decide +kernel
theorem dX7_execute_13 : decode cX7_execute 13 = .ok (.iconst 1, 1) := by decide +kernel
theorem dX7_execute_14 : decode cX7_execute 14 = .ok (.invokevirtual 64, 3) := by decide +kernel
theorem dX7_execute_17 : decode cX7_execute 17 = .ok (.ireturn, 1) := by decide +kernel
theorem dX7_execute_18 : decode cX7_execute 18 = .ok (.aload_n 0, 1) := by decide +kernel
theorem dX7_execute_19 : decode cX7_execute 19 = .ok (.invokevirtual 68, 3) := by decide +kernel
theorem dX7_execute_22 : decode cX7_execute 22 = .ok (.iconst 0, 1) := by decide +kernel
theorem dX7_execute_23 : decode cX7_execute 23 = .ok (.istore_n 1, 1) := by decide +kernel
theorem dX7_execute_24 : decode cX7_execute 24 = .ok (.iload_n 1, 1) := by decide +kernel
theorem dX7_execute_25 : decode cX7_execute 25 = .ok (.aload_n 0, 1) := by decide +kernel
theorem dX7_execute_26 : decode cX7_execute 26 = .ok (.getfield 151, 3) := by decide +kernel
theorem dX7_execute_29 : decode cX7_execute 29 = .ok (.if_icmp .ge 22, 3) := by decide +kernel
theorem dX7_execute_32 : decode cX7_execute 32 = .ok (.aload_n 0, 1) := by decide +kernel
theorem dX7_execute_33 : decode cX7_execute 33 = .ok (.iload_n 1, 1) := by decide +kernel
theorem dX7_execute_34 : decode cX7_execute 34 = .ok (.invokevirtual 188, 3) := by decide +kernel
theorem dX7_execute_37 : decode cX7_execute 37 = .ok (.ifCond .eq 14, 3) := by decide +kernel
theorem dX7_execute_40 : decode cX7_execute 40 = .ok (.aload_n 0, 1) := by decide +kernel
theorem dX7_execute_41 : decode cX7_execute 41 = .ok (.iload_n 1, 1) := by decide +kernel
theorem dX7_execute_42 : decode cX7_execute 42 = .ok (.invokevirtual 191, 3) := by decide +kernel
theorem dX7_execute_45 : decode cX7_execute 45 = .ok (.iinc 1 1, 3) := by decide +kernel
theorem dX7_execute_48 : decode cX7_execute 48 = .ok (.goto (-24), 3) := by decide +kernel
theorem dX7_execute_51 : decode cX7_execute 51 = .ok (.aload_n 0, 1) := by decide +kernel
theorem dX7_execute_52 : decode cX7_execute 52 = .ok (.iconst 0, 1) := by decide +kernel
theorem dX7_execute_53 : decode cX7_execute 53 = .ok (.putfield 139, 3) := by decide +kernel
theorem dX7_execute_56 : decode cX7_execute 56 = .ok (.iload_n 1, 1) := by decide +kernel
theorem dX7_execute_57 : decode cX7_execute 57 = .ok (.ireturn, 1) := by decide +kernel
set_option maxRecDepth 20000 in
theorem ggX7_ofCord_X7_timeOf : GoodIn wsX7_ofCord wsX7_timeOf := goodIn_r _ [5, 6, 7, 8, 4, 9, 10, 19, 20, 21, 22, 23, 24, 25, 26, 27, 28, 29, 30, 31, 32, 33, 34, 35, 36, 37, 38, 39, 40] (by decide +kernel) (by decide +kernel)
set_option maxRecDepth 20000 in
theorem gX7_ofCord_X7_timeOf : GoodIn wsX7_ofCord (wsV RX7 75 RX7 yX7_timeOf wsX7_timeOf) := goodIn_app (goodIn_of _ (by decide +kernel)) ggX7_ofCord_X7_timeOf
set_option maxRecDepth 20000 in
theorem ggX7_ofCord_X7_of : GoodIn wsX7_ofCord wsX7_of := goodIn_r _ [9, 10, 19, 20, 21, 22, 23, 24, 25, 26, 27, 28, 29, 30, 31, 32, 33, 34, 35, 36, 37, 38, 39, 40] (by decide +kernel) (by decide +kernel)
set_option maxRecDepth 20000 in
theorem gX7_ofCord_X7_of : GoodIn wsX7_ofCord (wsV RX7 71 RX7 yX7_of wsX7_of) := goodIn_app (goodIn_of _ (by decide +kernel)) ggX7_ofCord_X7_of
set_option maxRecDepth 20000 in
theorem ggX7_ofCord_X7_leftOf : GoodIn wsX7_ofCord wsX7_leftOf := goodIn_r _ [14, 1, 2, 3, 4, 5, 6, 7, 8, 9, 10, 15, 16, 17, 18, 19, 20, 21, 22, 23, 24, 25, 26, 27, 28, 29, 30, 31, 32, 33, 34, 35, 36, 37, 38, 39, 40] (by decide +kernel) (by decide +kernel)
set_option maxRecDepth 20000 in
theorem gX7_ofCord_X7_leftOf : GoodIn wsX7_ofCord (wsV RX7 84 RX7 yX7_leftOf wsX7_leftOf) := goodIn_app (goodIn_of _ (by decide +kernel)) ggX7_ofCord_X7_leftOf
theorem dX7_ofCord_0 : decode cX7_ofCord 0 = .ok (.iload_n 2, 1) := by decide +kernel
theorem dX7_ofCord_1 : decode cX7_ofCord 1 = .ok (.tableswitch 100 0 6 #[43, 49, 56, 64, 72, 78, 86], 43) := by decide +kernel
theorem dX7_ofCord_44 : decode cX7_ofCord 44 = .ok (.aload_n 0, 1) := by decide +kernel
theorem dX7_ofCord_45 : decode cX7_ofCord 45 = .ok (.iload_n 1, 1) := by decide +kernel
theorem dX7_ofCord_46 : decode cX7_ofCord 46 = .ok (.invokevirtual 75, 3) := by decide +kernel
theorem dX7_ofCord_49 : decode cX7_ofCord 49 = .ok (.ireturn, 1) := by decide +kernel
theorem dX7_ofCord_50 : decode cX7_ofCord 50 = .ok (.aload_n 0, 1) := by decide +kernel
theorem dX7_ofCord_51 : decode cX7_ofCord 51 = .ok (.iload_n 1, 1) := by decide +kernel
theorem dX7_ofCord_52 : decode cX7_ofCord 52 = .ok (.iconst 0, 1) := by decide +kernel
theorem dX7_ofCord_53 : decode cX7_ofCord 53 = .ok (.invokevirtual 71, 3) := by decide +kernel
theorem dX7_ofCord_56 : decode cX7_ofCord 56 = .ok (.ireturn, 1) := by decide +kernel
theorem dX7_ofCord_57 : decode cX7_ofCord 57 = .ok (.aload_n 0, 1) := by decide +kernel
theorem dX7_ofCord_58 : decode cX7_ofCord 58 = .ok (.iload_n 1, 1) := by decide +kernel
theorem dX7_ofCord_59 : decode cX7_ofCord 59 = .ok (.bipush 7, 2) := by decide +kernel
theorem dX7_ofCord_61 : decode cX7_ofCord 61 = .ok (.invokevirtual 71, 3) := by decide +kernel
theorem dX7_ofCord_64 : decode cX7_ofCord 64 = .ok (.ireturn, 1) := by decide +kernel
theorem dX7_ofCord_65 : decode cX7_ofCord 65 = .ok (.aload_n 0, 1) := by decide +kernel
theorem dX7_ofCord_66 : decode cX7_ofCord 66 = .ok (.iload_n 1, 1) := by decide +kernel
theorem dX7_ofCord_67 : decode cX7_ofCord 67 = .ok (.bipush 8, 2) := by decide +kernel
theorem dX7_ofCord_69 : decode cX7_ofCord 69 = .ok (.invokevirtual 71, 3) := by decide +kernel
theorem dX7_ofCord_72 : decode cX7_ofCord 72 = .ok (.ireturn, 1) := by decide +kernel
theorem dX7_ofCord_73 : decode cX7_ofCord 73 = .ok (.aload_n 0, 1) := by decide +kernel
theorem dX7_ofCord_74 : decode cX7_ofCord 74 = .ok (.iload_n 1, 1) := by decide +kernel
theorem dX7_ofCord_75 : decode cX7_ofCord 75 = .ok (.invokevirtual 84, 3) := by decide +kernel
theorem dX7_ofCord_78 : decode cX7_ofCord 78 = .ok (.ireturn, 1) := by decide +kernel
theorem dX7_ofCord_79 : decode cX7_ofCord 79 = .ok (.aload_n 0, 1) := by decide +kernel
theorem dX7_ofCord_80 : decode cX7_ofCord 80 = .ok (.iload_n 1, 1) := by decide +kernel
theorem dX7_ofCord_81 : decode cX7_ofCord 81 = .ok (.bipush 9, 2) := by decide +kernel
theorem dX7_ofCord_83 : decode cX7_ofCord 83 = .ok (.invokevirtual 71, 3) := by decide +kernel
theorem dX7_ofCord_86 : decode cX7_ofCord 86 = .ok (.ireturn, 1) := by decide +kernel
theorem dX7_ofCord_87 : decode cX7_ofCord 87 = .ok (.aload_n 0, 1) := by decide +kernel
theorem dX7_ofCord_88 : decode cX7_ofCord 88 = .ok (.iload_n 1, 1) := by decide +kernel
theorem dX7_ofCord_89 : decode cX7_ofCord 89 = .ok (.invokevirtual 84, 3) := by decide +kernel
theorem dX7_ofCord_92 : decode cX7_ofCord 92 = .ok (.ifCond .ne 7, 3) := by decide +kernel
theorem dX7_ofCord_95 : decode cX7_ofCord 95 = .ok (.iconst 1, 1) := by decide +kernel
theorem dX7_ofCord_96 : decode cX7_ofCord 96 = .ok (.goto 4, 3) := by decide +kernel
theorem dX7_ofCord_99 : decode cX7_ofCord 99 = .ok (.iconst 0, 1) := by decide +kernel
theorem dX7_ofCord_100 : decode cX7_ofCord 100 = .ok (.ireturn, 1) := by decide +kernel
theorem dX7_ofCord_101 : decode cX7_ofCord 101 = .ok (.aload_n 0, 1) := by decide +kernel
theorem dX7_ofCord_102 : decode cX7_ofCord 102 = .ok (.iload_n 1, 1) := by decide +kernel
theorem dX7_ofCord_103 : decode cX7_ofCord 103 = .ok (.bipush 10, 2) := by decide +kernel
theorem dX7_ofCord_105 : decode cX7_ofCord 105 = .ok (.invokevirtual 71, 3) := by decide +kernel
theorem dX7_ofCord_108 : decode cX7_ofCord 108 = .ok (.ireturn, 1) := by decide +kernel
set_option maxRecDepth 20000 in
theorem ggX7_cordOf_X7_isCord : GoodIn wsX7_cordOf wsX7_isCord := goodIn_r _ [6, 7, 8, 9, 5, 10, 35, 36, 37, 38, 39, 40, 41, 42, 43, 44, 45, 46, 47, 48, 49, 50, 51, 52, 53, 54, 55, 56] (by decide +kernel) (by decide +kernel)
set_option maxRecDepth 20000 in
theorem gX7_cordOf_X7_isCord : GoodIn wsX7_cordOf (wsV RX7 125 RX7 yX7_isCord wsX7_isCord) := goodIn_app (goodIn_of _ (by decide +kernel)) ggX7_cordOf_X7_isCord
set_option maxRecDepth 20000 in
theorem ggX7_cordOf_X7_fails : GoodIn wsX7_cordOf wsX7_fails := goodIn_r _ [14, 1, 35, 36, 37, 38, 39, 40, 41, 42, 43, 44, 45, 46, 47, 48, 49, 50, 51, 52, 53, 54, 55, 56] (by decide +kernel) (by decide +kernel)
set_option maxRecDepth 20000 in
theorem gX7_cordOf_X7_fails : GoodIn wsX7_cordOf (wsV RX7 64 RX7 yX7_fails wsX7_fails) := goodIn_app (goodIn_of _ (by decide +kernel)) ggX7_cordOf_X7_fails
set_option maxRecDepth 20000 in
theorem ggX7_cordOf_X7_in : GoodIn wsX7_cordOf wsX7_in := goodIn_r _ [10] (by decide +kernel) (by decide +kernel)
set_option maxRecDepth 20000 in
theorem gX7_cordOf_X7_in : GoodIn wsX7_cordOf (va_wsS RX7 57 yX7_in wsX7_in) := goodIn_app (goodIn_of _ (by decide +kernel)) ggX7_cordOf_X7_in
set_option maxRecDepth 20000 in
theorem ggX7_cordOf_X7_ofCord : GoodIn wsX7_cordOf wsX7_ofCord := goodIn_r _ [18, 19, 20, 21, 5, 22, 23, 24, 25, 26, 7, 27, 28, 29, 30, 31, 32, 33, 34, 35, 36, 37, 38, 39, 40, 41, 42, 43, 44, 45, 46, 47, 48, 49, 50, 51, 52, 53, 54, 55, 56] (by decide +kernel) (by decide +kernel)
set_option maxRecDepth 20000 in
theorem gX7_cordOf_X7_ofCord : GoodIn wsX7_cordOf (wsV RX7 194 RX7 yX7_ofCord wsX7_ofCord) := goodIn_app (goodIn_of _ (by decide +kernel)) ggX7_cordOf_X7_ofCord
theorem dX7_cordOf_0 : decode cX7_cordOf 0 = .ok (.aload_n 0, 1) := by decide +kernel
theorem dX7_cordOf_1 : decode cX7_cordOf 1 = .ok (.iconst 0, 1) := by decide +kernel
theorem dX7_cordOf_2 : decode cX7_cordOf 2 = .ok (.putfield 53, 3) := by decide +kernel
theorem dX7_cordOf_5 : decode cX7_cordOf 5 = .ok (.aload_n 0, 1) := by decide +kernel
theorem dX7_cordOf_6 : decode cX7_cordOf 6 = .ok (.iload_n 1, 1) := by decide +kernel
theorem dX7_cordOf_7 : decode cX7_cordOf 7 = .ok (.invokevirtual 125, 3) := by decide +kernel
theorem dX7_cordOf_10 : decode cX7_cordOf 10 = .ok (.ifCond .ne 9, 3) := by decide +kernel
theorem dX7_cordOf_13 : decode cX7_cordOf 13 = .ok (.aload_n 0, 1) := by decide +kernel
theorem dX7_cordOf_14 : decode cX7_cordOf 14 = .ok (.iconst 1, 1) := by decide +kernel
theorem dX7_cordOf_15 : decode cX7_cordOf 15 = .ok (.invokevirtual 64, 3) := by decide +kernel
theorem dX7_cordOf_18 : decode cX7_cordOf 18 = .ok (.ireturn, 1) := by decide +kernel
theorem dX7_cordOf_19 : decode cX7_cordOf 19 = .ok (.iload_n 2, 1) := by decide +kernel
theorem dX7_cordOf_20 : decode cX7_cordOf 20 = .ok (.iconst 0, 1) := by decide +kernel
theorem dX7_cordOf_21 : decode cX7_cordOf 21 = .ok (.bipush 7, 2) := by decide +kernel
theorem dX7_cordOf_23 : decode cX7_cordOf 23 = .ok (.invokestatic 57, 3) := by decide +kernel
theorem dX7_cordOf_26 : decode cX7_cordOf 26 = .ok (.ifCond .eq 12, 3) := by decide +kernel
theorem dX7_cordOf_29 : decode cX7_cordOf 29 = .ok (.aload_n 0, 1) := by decide +kernel
theorem dX7_cordOf_30 : decode cX7_cordOf 30 = .ok (.iload_n 1, 1) := by decide +kernel
theorem dX7_cordOf_31 : decode cX7_cordOf 31 = .ok (.iload_n 2, 1) := by decide +kernel
theorem dX7_cordOf_32 : decode cX7_cordOf 32 = .ok (.invokevirtual 194, 3) := by decide +kernel
theorem dX7_cordOf_35 : decode cX7_cordOf 35 = .ok (.goto 8, 3) := by decide +kernel
theorem dX7_cordOf_38 : decode cX7_cordOf 38 = .ok (.aload_n 0, 1) := by decide +kernel
theorem dX7_cordOf_39 : decode cX7_cordOf 39 = .ok (.iconst 2, 1) := by decide +kernel
theorem dX7_cordOf_40 : decode cX7_cordOf 40 = .ok (.invokevirtual 64, 3) := by decide +kernel
theorem dX7_cordOf_43 : decode cX7_cordOf 43 = .ok (.ireturn, 1) := by decide +kernel
set_option maxRecDepth 20000 in
theorem ggX7_segment_X7_isSegment : GoodIn wsX7_segment wsX7_isSegment := goodIn_r _ [6, 7, 8, 9, 5, 10, 11, 12, 13, 14, 15, 16, 17, 18, 23, 24, 25, 26, 27, 28, 29, 30, 31, 32, 33, 34, 35, 36, 37, 38, 39, 40, 41, 42, 43, 44] (by decide +kernel) (by decide +kernel)
set_option maxRecDepth 20000 in
theorem gX7_segment_X7_isSegment : GoodIn wsX7_segment (wsV RX7 128 RX7 yX7_isSegment wsX7_isSegment) := goodIn_app (goodIn_of _ (by decide +kernel)) ggX7_segment_X7_isSegment
set_option maxRecDepth 20000 in
theorem ggX7_segment_X7_of : GoodIn wsX7_segment wsX7_of := goodIn_r _ [18, 11, 23, 24, 25, 26, 27, 28, 29, 30, 31, 32, 33, 34, 35, 36, 37, 38, 39, 40, 41, 42, 43, 44] (by decide +kernel) (by decide +kernel)
set_option maxRecDepth 20000 in
theorem gX7_segment_X7_of : GoodIn wsX7_segment (wsV RX7 71 RX7 yX7_of wsX7_of) := goodIn_app (goodIn_of _ (by decide +kernel)) ggX7_segment_X7_of
set_option maxRecDepth 20000 in
theorem ggX7_segment_X7_fails : GoodIn wsX7_segment wsX7_fails := goodIn_r _ [22, 1, 23, 24, 25, 26, 27, 28, 29, 30, 31, 32, 33, 34, 35, 36, 37, 38, 39, 40, 41, 42, 43, 44] (by decide +kernel) (by decide +kernel)
set_option maxRecDepth 20000 in
theorem gX7_segment_X7_fails : GoodIn wsX7_segment (wsV RX7 64 RX7 yX7_fails wsX7_fails) := goodIn_app (goodIn_of _ (by decide +kernel)) ggX7_segment_X7_fails
theorem dX7_segment_0 : decode cX7_segment 0 = .ok (.aload_n 0, 1) := by decide +kernel
theorem dX7_segment_1 : decode cX7_segment 1 = .ok (.iconst 0, 1) := by decide +kernel
theorem dX7_segment_2 : decode cX7_segment 2 = .ok (.putfield 53, 3) := by decide +kernel
theorem dX7_segment_5 : decode cX7_segment 5 = .ok (.aload_n 0, 1) := by decide +kernel
theorem dX7_segment_6 : decode cX7_segment 6 = .ok (.iload_n 1, 1) := by decide +kernel
theorem dX7_segment_7 : decode cX7_segment 7 = .ok (.iload_n 2, 1) := by decide +kernel
theorem dX7_segment_8 : decode cX7_segment 8 = .ok (.invokevirtual 128, 3) := by decide +kernel
theorem dX7_segment_11 : decode cX7_segment 11 = .ok (.ifCond .eq 14, 3) := by decide +kernel
theorem dX7_segment_14 : decode cX7_segment 14 = .ok (.aload_n 0, 1) := by decide +kernel
theorem dX7_segment_15 : decode cX7_segment 15 = .ok (.iload_n 1, 1) := by decide +kernel
theorem dX7_segment_16 : decode cX7_segment 16 = .ok (.iconst 1, 1) := by decide +kernel
theorem dX7_segment_17 : decode cX7_segment 17 = .ok (.iload_n 2, 1) := by decide +kernel
theorem dX7_segment_18 : decode cX7_segment 18 = .ok (.iadd, 1) := by decide +kernel
theorem dX7_segment_19 : decode cX7_segment 19 = .ok (.invokevirtual 71, 3) := by decide +kernel
theorem dX7_segment_22 : decode cX7_segment 22 = .ok (.goto 8, 3) := by decide +kernel
theorem dX7_segment_25 : decode cX7_segment 25 = .ok (.aload_n 0, 1) := by decide +kernel
theorem dX7_segment_26 : decode cX7_segment 26 = .ok (.iconst 1, 1) := by decide +kernel
theorem dX7_segment_27 : decode cX7_segment 27 = .ok (.invokevirtual 64, 3) := by decide +kernel
theorem dX7_segment_30 : decode cX7_segment 30 = .ok (.ireturn, 1) := by decide +kernel
set_option maxRecDepth 20000 in
theorem ggX7_segmentAt_X7_of : GoodIn wsX7_segmentAt wsX7_of := goodIn_r _ [5, 6, 7, 8, 9, 10, 11, 12, 13, 14, 15, 16, 17, 18, 19, 20, 21, 22, 23, 24, 25, 26, 27, 28] (by decide +kernel) (by decide +kernel)
set_option maxRecDepth 20000 in
theorem gX7_segmentAt_X7_of : GoodIn wsX7_segmentAt (wsV RX7 71 RX7 yX7_of wsX7_of) := goodIn_app (goodIn_of _ (by decide +kernel)) ggX7_segmentAt_X7_of
theorem dX7_segmentAt_0 : decode cX7_segmentAt 0 = .ok (.iconst 0, 1) := by decide +kernel
theorem dX7_segmentAt_1 : decode cX7_segmentAt 1 = .ok (.istore_n 3, 1) := by decide +kernel
theorem dX7_segmentAt_2 : decode cX7_segmentAt 2 = .ok (.aload_n 0, 1) := by decide +kernel
theorem dX7_segmentAt_3 : decode cX7_segmentAt 3 = .ok (.iload_n 1, 1) := by decide +kernel
theorem dX7_segmentAt_4 : decode cX7_segmentAt 4 = .ok (.iconst 1, 1) := by decide +kernel
theorem dX7_segmentAt_5 : decode cX7_segmentAt 5 = .ok (.invokevirtual 71, 3) := by decide +kernel
theorem dX7_segmentAt_8 : decode cX7_segmentAt 8 = .ok (.istore 4, 2) := by decide +kernel
theorem dX7_segmentAt_10 : decode cX7_segmentAt 10 = .ok (.iload_n 2, 1) := by decide +kernel
theorem dX7_segmentAt_11 : decode cX7_segmentAt 11 = .ok (.iload 4, 2) := by decide +kernel
theorem dX7_segmentAt_13 : decode cX7_segmentAt 13 = .ok (.if_icmp .lt 22, 3) := by decide +kernel
theorem dX7_segmentAt_16 : decode cX7_segmentAt 16 = .ok (.iinc 3 1, 3) := by decide +kernel
theorem dX7_segmentAt_19 : decode cX7_segmentAt 19 = .ok (.iload 4, 2) := by decide +kernel
theorem dX7_segmentAt_21 : decode cX7_segmentAt 21 = .ok (.aload_n 0, 1) := by decide +kernel
theorem dX7_segmentAt_22 : decode cX7_segmentAt 22 = .ok (.iload_n 1, 1) := by decide +kernel
theorem dX7_segmentAt_23 : decode cX7_segmentAt 23 = .ok (.iconst 1, 1) := by decide +kernel
theorem dX7_segmentAt_24 : decode cX7_segmentAt 24 = .ok (.iload_n 3, 1) := by decide +kernel
theorem dX7_segmentAt_25 : decode cX7_segmentAt 25 = .ok (.iadd, 1) := by decide +kernel
theorem dX7_segmentAt_26 : decode cX7_segmentAt 26 = .ok (.invokevirtual 71, 3) := by decide +kernel
theorem dX7_segmentAt_29 : decode cX7_segmentAt 29 = .ok (.iadd, 1) := by decide +kernel
theorem dX7_segmentAt_30 : decode cX7_segmentAt 30 = .ok (.istore 4, 2) := by decide +kernel
theorem dX7_segmentAt_32 : decode cX7_segmentAt 32 = .ok (.goto (-22), 3) := by decide +kernel
theorem dX7_segmentAt_35 : decode cX7_segmentAt 35 = .ok (.iload_n 3, 1) := by decide +kernel
theorem dX7_segmentAt_36 : decode cX7_segmentAt 36 = .ok (.ireturn, 1) := by decide +kernel
set_option maxRecDepth 20000 in
theorem ggX7_front_X7_isCord : GoodIn wsX7_front wsX7_isCord := goodIn_r _ [6, 7, 8, 9, 5, 10, 35, 36, 37, 38, 39, 40, 41, 42, 43, 44, 45, 46, 47, 48, 49, 50, 51, 52, 53, 54, 55, 56] (by decide +kernel) (by decide +kernel)
set_option maxRecDepth 20000 in
theorem gX7_front_X7_isCord : GoodIn wsX7_front (wsV RX7 125 RX7 yX7_isCord wsX7_isCord) := goodIn_app (goodIn_of _ (by decide +kernel)) ggX7_front_X7_isCord
set_option maxRecDepth 20000 in
theorem ggX7_front_X7_fails : GoodIn wsX7_front wsX7_fails := goodIn_r _ [14, 1, 35, 36, 37, 38, 39, 40, 41, 42, 43, 44, 45, 46, 47, 48, 49, 50, 51, 52, 53, 54, 55, 56] (by decide +kernel) (by decide +kernel)
set_option maxRecDepth 20000 in
theorem gX7_front_X7_fails : GoodIn wsX7_front (wsV RX7 64 RX7 yX7_fails wsX7_fails) := goodIn_app (goodIn_of _ (by decide +kernel)) ggX7_front_X7_fails
set_option maxRecDepth 20000 in
theorem ggX7_front_X7_leftOf : GoodIn wsX7_front wsX7_leftOf := goodIn_r _ [18, 19, 20, 21, 5, 22, 23, 24, 25, 26, 7, 27, 28, 29, 30, 35, 36, 37, 38, 39, 40, 41, 42, 43, 44, 45, 46, 47, 48, 49, 50, 51, 52, 53, 54, 55, 56] (by decide +kernel) (by decide +kernel)
set_option maxRecDepth 20000 in
theorem gX7_front_X7_leftOf : GoodIn wsX7_front (wsV RX7 84 RX7 yX7_leftOf wsX7_leftOf) := goodIn_app (goodIn_of _ (by decide +kernel)) ggX7_front_X7_leftOf
set_option maxRecDepth 20000 in
theorem ggX7_front_X7_of : GoodIn wsX7_front wsX7_of := goodIn_r _ [26, 7, 35, 36, 37, 38, 39, 40, 41, 42, 43, 44, 45, 46, 47, 48, 49, 50, 51, 52, 53, 54, 55, 56] (by decide +kernel) (by decide +kernel)
set_option maxRecDepth 20000 in
theorem gX7_front_X7_of : GoodIn wsX7_front (wsV RX7 71 RX7 yX7_of wsX7_of) := goodIn_app (goodIn_of _ (by decide +kernel)) ggX7_front_X7_of
set_option maxRecDepth 20000 in
theorem ggX7_front_X7_timeOf : GoodIn wsX7_front wsX7_timeOf := goodIn_r _ [22, 23, 24, 25, 5, 26, 7, 35, 36, 37, 38, 39, 40, 41, 42, 43, 44, 45, 46, 47, 48, 49, 50, 51, 52, 53, 54, 55, 56] (by decide +kernel) (by decide +kernel)
set_option maxRecDepth 20000 in
theorem gX7_front_X7_timeOf : GoodIn wsX7_front (wsV RX7 75 RX7 yX7_timeOf wsX7_timeOf) := goodIn_app (goodIn_of _ (by decide +kernel)) ggX7_front_X7_timeOf
set_option maxRecDepth 20000 in
theorem ggX7_front_X7_segmentAt : GoodIn wsX7_front wsX7_segmentAt := goodIn_r _ [34, 23, 24, 25, 5, 26, 7, 35, 36, 37, 38, 39, 40, 41, 42, 43, 44, 45, 46, 47, 48, 49, 50, 51, 52, 53, 54, 55, 56] (by decide +kernel) (by decide +kernel)
set_option maxRecDepth 20000 in
theorem gX7_front_X7_segmentAt : GoodIn wsX7_front (wsV RX7 197 RX7 yX7_segmentAt wsX7_segmentAt) := goodIn_app (goodIn_of _ (by decide +kernel)) ggX7_front_X7_segmentAt
theorem dX7_front_0 : decode cX7_front 0 = .ok (.aload_n 0, 1) := by decide +kernel
theorem dX7_front_1 : decode cX7_front 1 = .ok (.iconst 0, 1) := by decide +kernel
theorem dX7_front_2 : decode cX7_front 2 = .ok (.putfield 53, 3) := by decide +kernel
theorem dX7_front_5 : decode cX7_front 5 = .ok (.aload_n 0, 1) := by decide +kernel
theorem dX7_front_6 : decode cX7_front 6 = .ok (.iload_n 1, 1) := by decide +kernel
theorem dX7_front_7 : decode cX7_front 7 = .ok (.invokevirtual 125, 3) := by decide +kernel
theorem dX7_front_10 : decode cX7_front 10 = .ok (.ifCond .ne 9, 3) := by decide +kernel
theorem dX7_front_13 : decode cX7_front 13 = .ok (.aload_n 0, 1) := by decide +kernel
theorem dX7_front_14 : decode cX7_front 14 = .ok (.iconst 1, 1) := by decide +kernel
theorem dX7_front_15 : decode cX7_front 15 = .ok (.invokevirtual 64, 3) := by decide +kernel
theorem dX7_front_18 : decode cX7_front 18 = .ok (.ireturn, 1) := by decide +kernel
theorem dX7_front_19 : decode cX7_front 19 = .ok (.aload_n 0, 1) := by decide +kernel
theorem dX7_front_20 : decode cX7_front 20 = .ok (.iload_n 1, 1) := by decide +kernel
theorem dX7_front_21 : decode cX7_front 21 = .ok (.invokevirtual 84, 3) := by decide +kernel
theorem dX7_front_24 : decode cX7_front 24 = .ok (.ifCond .ne 7, 3) := by decide +kernel
theorem dX7_front_27 : decode cX7_front 27 = .ok (.iconst (-1), 1) := by decide +kernel
theorem dX7_front_28 : decode cX7_front 28 = .ok (.goto 37, 3) := by decide +kernel
theorem dX7_front_31 : decode cX7_front 31 = .ok (.aload_n 0, 1) := by decide +kernel
theorem dX7_front_32 : decode cX7_front 32 = .ok (.iload_n 1, 1) := by decide +kernel
theorem dX7_front_33 : decode cX7_front 33 = .ok (.iload_n 2, 1) := by decide +kernel
theorem dX7_front_34 : decode cX7_front 34 = .ok (.ifCond .eq 13, 3) := by decide +kernel
theorem dX7_front_37 : decode cX7_front 37 = .ok (.aload_n 0, 1) := by decide +kernel
theorem dX7_front_38 : decode cX7_front 38 = .ok (.iload_n 1, 1) := by decide +kernel
theorem dX7_front_39 : decode cX7_front 39 = .ok (.bipush 7, 2) := by decide +kernel
theorem dX7_front_41 : decode cX7_front 41 = .ok (.invokevirtual 71, 3) := by decide +kernel
theorem dX7_front_44 : decode cX7_front 44 = .ok (.goto 18, 3) := by decide +kernel
theorem dX7_front_47 : decode cX7_front 47 = .ok (.aload_n 0, 1) := by decide +kernel
theorem dX7_front_48 : decode cX7_front 48 = .ok (.iload_n 1, 1) := by decide +kernel
theorem dX7_front_49 : decode cX7_front 49 = .ok (.invokevirtual 75, 3) := by decide +kernel
theorem dX7_front_52 : decode cX7_front 52 = .ok (.iconst 1, 1) := by decide +kernel
theorem dX7_front_53 : decode cX7_front 53 = .ok (.isub, 1) := by decide +kernel
theorem dX7_front_54 : decode cX7_front 54 = .ok (.aload_n 0, 1) := by decide +kernel
theorem dX7_front_55 : decode cX7_front 55 = .ok (.iload_n 1, 1) := by decide +kernel
theorem dX7_front_56 : decode cX7_front 56 = .ok (.bipush 8, 2) := by decide +kernel
theorem dX7_front_58 : decode cX7_front 58 = .ok (.invokevirtual 71, 3) := by decide +kernel
theorem dX7_front_61 : decode cX7_front 61 = .ok (.isub, 1) := by decide +kernel
theorem dX7_front_62 : decode cX7_front 62 = .ok (.invokevirtual 197, 3) := by decide +kernel
theorem dX7_front_65 : decode cX7_front 65 = .ok (.ireturn, 1) := by decide +kernel
set_option maxRecDepth 20000 in
theorem ggX7_ruleOf_X7_in : GoodIn wsX7_ruleOf wsX7_in := goodIn_r _ [6] (by decide +kernel) (by decide +kernel)
set_option maxRecDepth 20000 in
theorem gX7_ruleOf_X7_in : GoodIn wsX7_ruleOf (va_wsS RX7 57 yX7_in wsX7_in) := goodIn_app (goodIn_of _ (by decide +kernel)) ggX7_ruleOf_X7_in
set_option maxRecDepth 20000 in
theorem ggX7_ruleOf_X7_fails : GoodIn wsX7_ruleOf wsX7_fails := goodIn_r _ [10, 1, 11, 12, 13, 14, 15, 16, 17, 18, 19, 20, 21, 22, 23, 24, 25, 26, 27, 28, 29, 30, 31, 32] (by decide +kernel) (by decide +kernel)
set_option maxRecDepth 20000 in
theorem gX7_ruleOf_X7_fails : GoodIn wsX7_ruleOf (wsV RX7 64 RX7 yX7_fails wsX7_fails) := goodIn_app (goodIn_of _ (by decide +kernel)) ggX7_ruleOf_X7_fails
theorem dX7_ruleOf_0 : decode cX7_ruleOf 0 = .ok (.aload_n 0, 1) := by decide +kernel
theorem dX7_ruleOf_1 : decode cX7_ruleOf 1 = .ok (.iconst 0, 1) := by decide +kernel
theorem dX7_ruleOf_2 : decode cX7_ruleOf 2 = .ok (.putfield 53, 3) := by decide +kernel
theorem dX7_ruleOf_5 : decode cX7_ruleOf 5 = .ok (.iload_n 1, 1) := by decide +kernel
theorem dX7_ruleOf_6 : decode cX7_ruleOf 6 = .ok (.iconst 0, 1) := by decide +kernel
theorem dX7_ruleOf_7 : decode cX7_ruleOf 7 = .ok (.aload_n 0, 1) := by decide +kernel
theorem dX7_ruleOf_8 : decode cX7_ruleOf 8 = .ok (.getfield 7, 3) := by decide +kernel
theorem dX7_ruleOf_11 : decode cX7_ruleOf 11 = .ok (.bipush 51, 2) := by decide +kernel
theorem dX7_ruleOf_13 : decode cX7_ruleOf 13 = .ok (.iaload, 1) := by decide +kernel
theorem dX7_ruleOf_14 : decode cX7_ruleOf 14 = .ok (.iconst 1, 1) := by decide +kernel
theorem dX7_ruleOf_15 : decode cX7_ruleOf 15 = .ok (.isub, 1) := by decide +kernel
theorem dX7_ruleOf_16 : decode cX7_ruleOf 16 = .ok (.invokestatic 57, 3) := by decide +kernel
theorem dX7_ruleOf_19 : decode cX7_ruleOf 19 = .ok (.ifCond .ne 9, 3) := by decide +kernel
theorem dX7_ruleOf_22 : decode cX7_ruleOf 22 = .ok (.aload_n 0, 1) := by decide +kernel
theorem dX7_ruleOf_23 : decode cX7_ruleOf 23 = .ok (.iconst 1, 1) := by decide +kernel
theorem dX7_ruleOf_24 : decode cX7_ruleOf 24 = .ok (.invokevirtual 64, 3) := by decide +kernel
theorem dX7_ruleOf_27 : decode cX7_ruleOf 27 = .ok (.ireturn, 1) := by decide +kernel
theorem dX7_ruleOf_28 : decode cX7_ruleOf 28 = .ok (.iload_n 2, 1) := by decide +kernel
theorem dX7_ruleOf_29 : decode cX7_ruleOf 29 = .ok (.iconst 0, 1) := by decide +kernel
theorem dX7_ruleOf_30 : decode cX7_ruleOf 30 = .ok (.iconst 3, 1) := by decide +kernel
theorem dX7_ruleOf_31 : decode cX7_ruleOf 31 = .ok (.invokestatic 57, 3) := by decide +kernel
theorem dX7_ruleOf_34 : decode cX7_ruleOf 34 = .ok (.ifCond .eq 19, 3) := by decide +kernel
theorem dX7_ruleOf_37 : decode cX7_ruleOf 37 = .ok (.aload_n 0, 1) := by decide +kernel
theorem dX7_ruleOf_38 : decode cX7_ruleOf 38 = .ok (.getfield 7, 3) := by decide +kernel
theorem dX7_ruleOf_41 : decode cX7_ruleOf 41 = .ok (.bipush 52, 2) := by decide +kernel
theorem dX7_ruleOf_43 : decode cX7_ruleOf 43 = .ok (.iconst 4, 1) := by decide +kernel
theorem dX7_ruleOf_44 : decode cX7_ruleOf 44 = .ok (.iload_n 1, 1) := by decide +kernel
theorem dX7_ruleOf_45 : decode cX7_ruleOf 45 = .ok (.imul, 1) := by decide +kernel
theorem dX7_ruleOf_46 : decode cX7_ruleOf 46 = .ok (.iadd, 1) := by decide +kernel
theorem dX7_ruleOf_47 : decode cX7_ruleOf 47 = .ok (.iload_n 2, 1) := by decide +kernel
theorem dX7_ruleOf_48 : decode cX7_ruleOf 48 = .ok (.iadd, 1) := by decide +kernel
theorem dX7_ruleOf_49 : decode cX7_ruleOf 49 = .ok (.iaload, 1) := by decide +kernel
theorem dX7_ruleOf_50 : decode cX7_ruleOf 50 = .ok (.goto 8, 3) := by decide +kernel
theorem dX7_ruleOf_53 : decode cX7_ruleOf 53 = .ok (.aload_n 0, 1) := by decide +kernel
theorem dX7_ruleOf_54 : decode cX7_ruleOf 54 = .ok (.iconst 2, 1) := by decide +kernel
theorem dX7_ruleOf_55 : decode cX7_ruleOf 55 = .ok (.invokevirtual 64, 3) := by decide +kernel
theorem dX7_ruleOf_58 : decode cX7_ruleOf 58 = .ok (.ireturn, 1) := by decide +kernel
set_option maxRecDepth 20000 in
theorem ggX7_outSet_X7_leftOf : GoodIn wsX7_outSet wsX7_leftOf := goodIn_r _ [6, 7, 8, 9, 5, 10, 11, 12, 13, 14, 1, 15, 16, 17, 18, 19, 20, 21, 22, 23, 24, 25, 26, 27, 28, 29, 30, 31, 32, 33, 34, 35, 36, 37, 38, 39, 40] (by decide +kernel) (by decide +kernel)
set_option maxRecDepth 20000 in
theorem gX7_outSet_X7_leftOf : GoodIn wsX7_outSet (wsV RX7 84 RX7 yX7_leftOf wsX7_leftOf) := goodIn_app (goodIn_of _ (by decide +kernel)) ggX7_outSet_X7_leftOf
theorem dX7_outSet_0 : decode cX7_outSet 0 = .ok (.iconst 0, 1) := by decide +kernel
theorem dX7_outSet_1 : decode cX7_outSet 1 = .ok (.istore_n 1, 1) := by decide +kernel
theorem dX7_outSet_2 : decode cX7_outSet 2 = .ok (.iconst 0, 1) := by decide +kernel
theorem dX7_outSet_3 : decode cX7_outSet 3 = .ok (.istore_n 2, 1) := by decide +kernel
theorem dX7_outSet_4 : decode cX7_outSet 4 = .ok (.iload_n 2, 1) := by decide +kernel
theorem dX7_outSet_5 : decode cX7_outSet 5 = .ok (.aload_n 0, 1) := by decide +kernel
theorem dX7_outSet_6 : decode cX7_outSet 6 = .ok (.getfield 7, 3) := by decide +kernel
theorem dX7_outSet_9 : decode cX7_outSet 9 = .ok (.bipush 6, 2) := by decide +kernel
theorem dX7_outSet_11 : decode cX7_outSet 11 = .ok (.iaload, 1) := by decide +kernel
theorem dX7_outSet_12 : decode cX7_outSet 12 = .ok (.if_icmp .ge 27, 3) := by decide +kernel
theorem dX7_outSet_15 : decode cX7_outSet 15 = .ok (.iload_n 1, 1) := by decide +kernel
theorem dX7_outSet_16 : decode cX7_outSet 16 = .ok (.aload_n 0, 1) := by decide +kernel
theorem dX7_outSet_17 : decode cX7_outSet 17 = .ok (.iload_n 2, 1) := by decide +kernel
theorem dX7_outSet_18 : decode cX7_outSet 18 = .ok (.invokevirtual 84, 3) := by decide +kernel
theorem dX7_outSet_21 : decode cX7_outSet 21 = .ok (.ifCond .ne 9, 3) := by decide +kernel
theorem dX7_outSet_24 : decode cX7_outSet 24 = .ok (.iconst 1, 1) := by decide +kernel
theorem dX7_outSet_25 : decode cX7_outSet 25 = .ok (.iload_n 2, 1) := by decide +kernel
theorem dX7_outSet_26 : decode cX7_outSet 26 = .ok (.ishl, 1) := by decide +kernel
theorem dX7_outSet_27 : decode cX7_outSet 27 = .ok (.goto 4, 3) := by decide +kernel
theorem dX7_outSet_30 : decode cX7_outSet 30 = .ok (.iconst 0, 1) := by decide +kernel
theorem dX7_outSet_31 : decode cX7_outSet 31 = .ok (.ior, 1) := by decide +kernel
theorem dX7_outSet_32 : decode cX7_outSet 32 = .ok (.istore_n 1, 1) := by decide +kernel
theorem dX7_outSet_33 : decode cX7_outSet 33 = .ok (.iinc 2 1, 3) := by decide +kernel
theorem dX7_outSet_36 : decode cX7_outSet 36 = .ok (.goto (-32), 3) := by decide +kernel
theorem dX7_outSet_39 : decode cX7_outSet 39 = .ok (.iload_n 1, 1) := by decide +kernel
theorem dX7_outSet_40 : decode cX7_outSet 40 = .ok (.ireturn, 1) := by decide +kernel
set_option maxRecDepth 20000 in
theorem ggX7_count_X7_flames : GoodIn wsX7_count wsX7_flames := goodIn_r _ [9, 2, 10, 11, 12, 8, 13, 14, 15, 16, 17, 38, 39, 40, 41, 42, 43, 44, 45, 46, 47, 48, 49, 50, 51, 52, 53, 54, 55, 56, 57, 58, 59] (by decide +kernel) (by decide +kernel)
set_option maxRecDepth 20000 in
theorem gX7_count_X7_flames : GoodIn wsX7_count (wsV RX7 107 RX7 yX7_flames wsX7_flames) := goodIn_app (goodIn_of _ (by decide +kernel)) ggX7_count_X7_flames
set_option maxRecDepth 20000 in
theorem ggX7_count_X7_outSet : GoodIn wsX7_count wsX7_outSet := goodIn_r _ [21, 2, 22, 23, 24, 8, 25, 26, 27, 28, 29, 14, 15, 16, 17, 30, 31, 32, 33, 38, 39, 40, 41, 42, 43, 44, 45, 46, 47, 48, 49, 50, 51, 52, 53, 54, 55, 56, 57, 58, 59] (by decide +kernel) (by decide +kernel)
set_option maxRecDepth 20000 in
theorem gX7_count_X7_outSet : GoodIn wsX7_count (wsV RX7 200 RX7 yX7_outSet wsX7_outSet) := goodIn_app (goodIn_of _ (by decide +kernel)) ggX7_count_X7_outSet
set_option maxRecDepth 20000 in
theorem ggX7_count_X7_fails : GoodIn wsX7_count wsX7_fails := goodIn_r _ [37, 1, 38, 39, 40, 41, 42, 43, 44, 45, 46, 47, 48, 49, 50, 51, 52, 53, 54, 55, 56, 57, 58, 59] (by decide +kernel) (by decide +kernel)
set_option maxRecDepth 20000 in
theorem gX7_count_X7_fails : GoodIn wsX7_count (wsV RX7 64 RX7 yX7_fails wsX7_fails) := goodIn_app (goodIn_of _ (by decide +kernel)) ggX7_count_X7_fails
theorem dX7_count_0 : decode cX7_count 0 = .ok (.aload_n 0, 1) := by decide +kernel
theorem dX7_count_1 : decode cX7_count 1 = .ok (.iconst 0, 1) := by decide +kernel
theorem dX7_count_2 : decode cX7_count 2 = .ok (.putfield 53, 3) := by decide +kernel
theorem dX7_count_5 : decode cX7_count 5 = .ok (.iload_n 1, 1) := by decide +kernel
theorem dX7_count_6 : decode cX7_count 6 = .ok (.tableswitch 141 0 11 #[62, 69, 77, 85, 90, 95, 102, 109, 116, 123, 131, 136], 62) := by decide +kernel
theorem dX7_count_68 : decode cX7_count 68 = .ok (.aload_n 0, 1) := by decide +kernel
theorem dX7_count_69 : decode cX7_count 69 = .ok (.getfield 7, 3) := by decide +kernel
theorem dX7_count_72 : decode cX7_count 72 = .ok (.iconst 0, 1) := by decide +kernel
theorem dX7_count_73 : decode cX7_count 73 = .ok (.iaload, 1) := by decide +kernel
theorem dX7_count_74 : decode cX7_count 74 = .ok (.ireturn, 1) := by decide +kernel
theorem dX7_count_75 : decode cX7_count 75 = .ok (.aload_n 0, 1) := by decide +kernel
theorem dX7_count_76 : decode cX7_count 76 = .ok (.getfield 7, 3) := by decide +kernel
theorem dX7_count_79 : decode cX7_count 79 = .ok (.bipush 6, 2) := by decide +kernel
theorem dX7_count_81 : decode cX7_count 81 = .ok (.iaload, 1) := by decide +kernel
theorem dX7_count_82 : decode cX7_count 82 = .ok (.ireturn, 1) := by decide +kernel
theorem dX7_count_83 : decode cX7_count 83 = .ok (.aload_n 0, 1) := by decide +kernel
theorem dX7_count_84 : decode cX7_count 84 = .ok (.getfield 7, 3) := by decide +kernel
theorem dX7_count_87 : decode cX7_count 87 = .ok (.bipush 51, 2) := by decide +kernel
theorem dX7_count_89 : decode cX7_count 89 = .ok (.iaload, 1) := by decide +kernel
theorem dX7_count_90 : decode cX7_count 90 = .ok (.ireturn, 1) := by decide +kernel
theorem dX7_count_91 : decode cX7_count 91 = .ok (.aload_n 0, 1) := by decide +kernel
theorem dX7_count_92 : decode cX7_count 92 = .ok (.invokevirtual 107, 3) := by decide +kernel
theorem dX7_count_95 : decode cX7_count 95 = .ok (.ireturn, 1) := by decide +kernel
theorem dX7_count_96 : decode cX7_count 96 = .ok (.aload_n 0, 1) := by decide +kernel
theorem dX7_count_97 : decode cX7_count 97 = .ok (.invokevirtual 200, 3) := by decide +kernel
theorem dX7_count_100 : decode cX7_count 100 = .ok (.ireturn, 1) := by decide +kernel
theorem dX7_count_101 : decode cX7_count 101 = .ok (.aload_n 0, 1) := by decide +kernel
theorem dX7_count_102 : decode cX7_count 102 = .ok (.getfield 7, 3) := by decide +kernel
theorem dX7_count_105 : decode cX7_count 105 = .ok (.iconst 1, 1) := by decide +kernel
theorem dX7_count_106 : decode cX7_count 106 = .ok (.iaload, 1) := by decide +kernel
theorem dX7_count_107 : decode cX7_count 107 = .ok (.ireturn, 1) := by decide +kernel
theorem dX7_count_108 : decode cX7_count 108 = .ok (.aload_n 0, 1) := by decide +kernel
theorem dX7_count_109 : decode cX7_count 109 = .ok (.getfield 7, 3) := by decide +kernel
theorem dX7_count_112 : decode cX7_count 112 = .ok (.iconst 2, 1) := by decide +kernel
theorem dX7_count_113 : decode cX7_count 113 = .ok (.iaload, 1) := by decide +kernel
theorem dX7_count_114 : decode cX7_count 114 = .ok (.ireturn, 1) := by decide +kernel
theorem dX7_count_115 : decode cX7_count 115 = .ok (.aload_n 0, 1) := by decide +kernel
theorem dX7_count_116 : decode cX7_count 116 = .ok (.getfield 7, 3) := by decide +kernel
theorem dX7_count_119 : decode cX7_count 119 = .ok (.iconst 3, 1) := by decide +kernel
theorem dX7_count_120 : decode cX7_count 120 = .ok (.iaload, 1) := by decide +kernel
theorem dX7_count_121 : decode cX7_count 121 = .ok (.ireturn, 1) := by decide +kernel
theorem dX7_count_122 : decode cX7_count 122 = .ok (.aload_n 0, 1) := by decide +kernel
theorem dX7_count_123 : decode cX7_count 123 = .ok (.getfield 7, 3) := by decide +kernel
theorem dX7_count_126 : decode cX7_count 126 = .ok (.iconst 5, 1) := by decide +kernel
theorem dX7_count_127 : decode cX7_count 127 = .ok (.iaload, 1) := by decide +kernel
theorem dX7_count_128 : decode cX7_count 128 = .ok (.ireturn, 1) := by decide +kernel
theorem dX7_count_129 : decode cX7_count 129 = .ok (.aload_n 0, 1) := by decide +kernel
theorem dX7_count_130 : decode cX7_count 130 = .ok (.getfield 7, 3) := by decide +kernel
theorem dX7_count_133 : decode cX7_count 133 = .ok (.bipush 84, 2) := by decide +kernel
theorem dX7_count_135 : decode cX7_count 135 = .ok (.iaload, 1) := by decide +kernel
theorem dX7_count_136 : decode cX7_count 136 = .ok (.ireturn, 1) := by decide +kernel
theorem dX7_count_137 : decode cX7_count 137 = .ok (.aload_n 0, 1) := by decide +kernel
theorem dX7_count_138 : decode cX7_count 138 = .ok (.getfield 61, 3) := by decide +kernel
theorem dX7_count_141 : decode cX7_count 141 = .ok (.ireturn, 1) := by decide +kernel
theorem dX7_count_142 : decode cX7_count 142 = .ok (.aload_n 0, 1) := by decide +kernel
theorem dX7_count_143 : decode cX7_count 143 = .ok (.getfield 139, 3) := by decide +kernel
theorem dX7_count_146 : decode cX7_count 146 = .ok (.ireturn, 1) := by decide +kernel
theorem dX7_count_147 : decode cX7_count 147 = .ok (.aload_n 0, 1) := by decide +kernel
theorem dX7_count_148 : decode cX7_count 148 = .ok (.iconst 1, 1) := by decide +kernel
theorem dX7_count_149 : decode cX7_count 149 = .ok (.invokevirtual 64, 3) := by decide +kernel
theorem dX7_count_152 : decode cX7_count 152 = .ok (.ireturn, 1) := by decide +kernel
theorem dX7_digitsOf_0 : decode cX7_digitsOf 0 = .ok (.iconst 1, 1) := by decide +kernel
theorem dX7_digitsOf_1 : decode cX7_digitsOf 1 = .ok (.istore_n 1, 1) := by decide +kernel
theorem dX7_digitsOf_2 : decode cX7_digitsOf 2 = .ok (.iload_n 0, 1) := by decide +kernel
theorem dX7_digitsOf_3 : decode cX7_digitsOf 3 = .ok (.bipush 10, 2) := by decide +kernel
theorem dX7_digitsOf_5 : decode cX7_digitsOf 5 = .ok (.idiv, 1) := by decide +kernel
theorem dX7_digitsOf_6 : decode cX7_digitsOf 6 = .ok (.istore_n 2, 1) := by decide +kernel
theorem dX7_digitsOf_7 : decode cX7_digitsOf 7 = .ok (.iload_n 2, 1) := by decide +kernel
theorem dX7_digitsOf_8 : decode cX7_digitsOf 8 = .ok (.ifCond .le 14, 3) := by decide +kernel
theorem dX7_digitsOf_11 : decode cX7_digitsOf 11 = .ok (.iinc 1 1, 3) := by decide +kernel
theorem dX7_digitsOf_14 : decode cX7_digitsOf 14 = .ok (.iload_n 2, 1) := by decide +kernel
theorem dX7_digitsOf_15 : decode cX7_digitsOf 15 = .ok (.bipush 10, 2) := by decide +kernel
theorem dX7_digitsOf_17 : decode cX7_digitsOf 17 = .ok (.idiv, 1) := by decide +kernel
theorem dX7_digitsOf_18 : decode cX7_digitsOf 18 = .ok (.istore_n 2, 1) := by decide +kernel
theorem dX7_digitsOf_19 : decode cX7_digitsOf 19 = .ok (.goto (-12), 3) := by decide +kernel
theorem dX7_digitsOf_22 : decode cX7_digitsOf 22 = .ok (.iload_n 1, 1) := by decide +kernel
theorem dX7_digitsOf_23 : decode cX7_digitsOf 23 = .ok (.ireturn, 1) := by decide +kernel
set_option maxRecDepth 20000 in
theorem ggX7_tail_X7_digitsOf : GoodIn wsX7_tail wsX7_digitsOf := goodIn_r _ [5] (by decide +kernel) (by decide +kernel)
set_option maxRecDepth 20000 in
theorem gX7_tail_X7_digitsOf : GoodIn wsX7_tail (va_wsS RX7 203 yX7_digitsOf wsX7_digitsOf) := goodIn_app (goodIn_of _ (by decide +kernel)) ggX7_tail_X7_digitsOf
theorem dX7_tail_0 : decode cX7_tail 0 = .ok (.aload_n 0, 1) := by decide +kernel
theorem dX7_tail_1 : decode cX7_tail 1 = .ok (.getfield 7, 3) := by decide +kernel
theorem dX7_tail_4 : decode cX7_tail 4 = .ok (.iload_n 1, 1) := by decide +kernel
theorem dX7_tail_5 : decode cX7_tail 5 = .ok (.iconst 1, 1) := by decide +kernel
theorem dX7_tail_6 : decode cX7_tail 6 = .ok (.iadd, 1) := by decide +kernel
theorem dX7_tail_7 : decode cX7_tail 7 = .ok (.iaload, 1) := by decide +kernel
theorem dX7_tail_8 : decode cX7_tail 8 = .ok (.istore_n 3, 1) := by decide +kernel
theorem dX7_tail_9 : decode cX7_tail 9 = .ok (.iload_n 3, 1) := by decide +kernel
theorem dX7_tail_10 : decode cX7_tail 10 = .ok (.invokestatic 203, 3) := by decide +kernel
theorem dX7_tail_13 : decode cX7_tail 13 = .ok (.istore 4, 2) := by decide +kernel
theorem dX7_tail_15 : decode cX7_tail 15 = .ok (.iload_n 2, 1) := by decide +kernel
theorem dX7_tail_16 : decode cX7_tail 16 = .ok (.iconst 3, 1) := by decide +kernel
theorem dX7_tail_17 : decode cX7_tail 17 = .ok (.if_icmp .ge 34, 3) := by decide +kernel
theorem dX7_tail_20 : decode cX7_tail 20 = .ok (.iload_n 2, 1) := by decide +kernel
theorem dX7_tail_21 : decode cX7_tail 21 = .ok (.ifCond .ne 8, 3) := by decide +kernel
theorem dX7_tail_24 : decode cX7_tail 24 = .ok (.bipush 32, 2) := by decide +kernel
theorem dX7_tail_26 : decode cX7_tail 26 = .ok (.goto 24, 3) := by decide +kernel
theorem dX7_tail_29 : decode cX7_tail 29 = .ok (.iload_n 2, 1) := by decide +kernel
theorem dX7_tail_30 : decode cX7_tail 30 = .ok (.iconst 1, 1) := by decide +kernel
theorem dX7_tail_31 : decode cX7_tail 31 = .ok (.if_icmp .ne 17, 3) := by decide +kernel
theorem dX7_tail_34 : decode cX7_tail 34 = .ok (.bipush 48, 2) := by decide +kernel
theorem dX7_tail_36 : decode cX7_tail 36 = .ok (.aload_n 0, 1) := by decide +kernel
theorem dX7_tail_37 : decode cX7_tail 37 = .ok (.getfield 7, 3) := by decide +kernel
theorem dX7_tail_40 : decode cX7_tail 40 = .ok (.iload_n 1, 1) := by decide +kernel
theorem dX7_tail_41 : decode cX7_tail 41 = .ok (.iconst 2, 1) := by decide +kernel
theorem dX7_tail_42 : decode cX7_tail 42 = .ok (.iadd, 1) := by decide +kernel
theorem dX7_tail_43 : decode cX7_tail 43 = .ok (.iaload, 1) := by decide +kernel
theorem dX7_tail_44 : decode cX7_tail 44 = .ok (.iadd, 1) := by decide +kernel
theorem dX7_tail_45 : decode cX7_tail 45 = .ok (.goto 5, 3) := by decide +kernel
theorem dX7_tail_48 : decode cX7_tail 48 = .ok (.bipush 64, 2) := by decide +kernel
theorem dX7_tail_50 : decode cX7_tail 50 = .ok (.ireturn, 1) := by decide +kernel
theorem dX7_tail_51 : decode cX7_tail 51 = .ok (.iload_n 2, 1) := by decide +kernel
theorem dX7_tail_52 : decode cX7_tail 52 = .ok (.iconst 3, 1) := by decide +kernel
theorem dX7_tail_53 : decode cX7_tail 53 = .ok (.isub, 1) := by decide +kernel
theorem dX7_tail_54 : decode cX7_tail 54 = .ok (.iload 4, 2) := by decide +kernel
theorem dX7_tail_56 : decode cX7_tail 56 = .ok (.if_icmp .lt 5, 3) := by decide +kernel
theorem dX7_tail_59 : decode cX7_tail 59 = .ok (.iconst (-1), 1) := by decide +kernel
theorem dX7_tail_60 : decode cX7_tail 60 = .ok (.ireturn, 1) := by decide +kernel
theorem dX7_tail_61 : decode cX7_tail 61 = .ok (.iload_n 2, 1) := by decide +kernel
theorem dX7_tail_62 : decode cX7_tail 62 = .ok (.iconst 3, 1) := by decide +kernel
theorem dX7_tail_63 : decode cX7_tail 63 = .ok (.isub, 1) := by decide +kernel
theorem dX7_tail_64 : decode cX7_tail 64 = .ok (.istore 5, 2) := by decide +kernel
theorem dX7_tail_66 : decode cX7_tail 66 = .ok (.iload 5, 2) := by decide +kernel
theorem dX7_tail_68 : decode cX7_tail 68 = .ok (.iload 4, 2) := by decide +kernel
theorem dX7_tail_70 : decode cX7_tail 70 = .ok (.iconst 1, 1) := by decide +kernel
theorem dX7_tail_71 : decode cX7_tail 71 = .ok (.isub, 1) := by decide +kernel
theorem dX7_tail_72 : decode cX7_tail 72 = .ok (.if_icmp .ge 14, 3) := by decide +kernel
theorem dX7_tail_75 : decode cX7_tail 75 = .ok (.iload_n 3, 1) := by decide +kernel
theorem dX7_tail_76 : decode cX7_tail 76 = .ok (.bipush 10, 2) := by decide +kernel
theorem dX7_tail_78 : decode cX7_tail 78 = .ok (.idiv, 1) := by decide +kernel
theorem dX7_tail_79 : decode cX7_tail 79 = .ok (.istore_n 3, 1) := by decide +kernel
theorem dX7_tail_80 : decode cX7_tail 80 = .ok (.iinc 5 1, 3) := by decide +kernel
theorem dX7_tail_83 : decode cX7_tail 83 = .ok (.goto (-17), 3) := by decide +kernel
theorem dX7_tail_86 : decode cX7_tail 86 = .ok (.bipush 48, 2) := by decide +kernel
theorem dX7_tail_88 : decode cX7_tail 88 = .ok (.iload_n 3, 1) := by decide +kernel
theorem dX7_tail_89 : decode cX7_tail 89 = .ok (.bipush 10, 2) := by decide +kernel
theorem dX7_tail_91 : decode cX7_tail 91 = .ok (.irem, 1) := by decide +kernel
theorem dX7_tail_92 : decode cX7_tail 92 = .ok (.iadd, 1) := by decide +kernel
theorem dX7_tail_93 : decode cX7_tail 93 = .ok (.ireturn, 1) := by decide +kernel
set_option maxRecDepth 20000 in
theorem ggX7_entryAt_X7_tail : GoodIn wsX7_entryAt wsX7_tail := goodIn_r _ [6, 1, 7, 8, 5, 9, 10, 11, 12, 13, 14, 15, 16, 17, 18, 19, 20, 21, 22, 23, 24, 25, 26, 27, 28, 29, 30, 31] (by decide +kernel) (by decide +kernel)
set_option maxRecDepth 20000 in
theorem gX7_entryAt_X7_tail : GoodIn wsX7_entryAt (wsV RX7 206 RX7 yX7_tail wsX7_tail) := goodIn_app (goodIn_of _ (by decide +kernel)) ggX7_entryAt_X7_tail
theorem dX7_entryAt_0 : decode cX7_entryAt 0 = .ok (.aload_n 0, 1) := by decide +kernel
theorem dX7_entryAt_1 : decode cX7_entryAt 1 = .ok (.getfield 7, 3) := by decide +kernel
theorem dX7_entryAt_4 : decode cX7_entryAt 4 = .ok (.iload_n 1, 1) := by decide +kernel
theorem dX7_entryAt_5 : decode cX7_entryAt 5 = .ok (.iaload, 1) := by decide +kernel
theorem dX7_entryAt_6 : decode cX7_entryAt 6 = .ok (.iconst 2, 1) := by decide +kernel
theorem dX7_entryAt_7 : decode cX7_entryAt 7 = .ok (.if_icmp .ne 41, 3) := by decide +kernel
theorem dX7_entryAt_10 : decode cX7_entryAt 10 = .ok (.iload_n 2, 1) := by decide +kernel
theorem dX7_entryAt_11 : decode cX7_entryAt 11 = .ok (.iconst 2, 1) := by decide +kernel
theorem dX7_entryAt_12 : decode cX7_entryAt 12 = .ok (.if_icmp .le 14, 3) := by decide +kernel
theorem dX7_entryAt_15 : decode cX7_entryAt 15 = .ok (.aload_n 0, 1) := by decide +kernel
theorem dX7_entryAt_16 : decode cX7_entryAt 16 = .ok (.iload_n 1, 1) := by decide +kernel
theorem dX7_entryAt_17 : decode cX7_entryAt 17 = .ok (.iload_n 2, 1) := by decide +kernel
theorem dX7_entryAt_18 : decode cX7_entryAt 18 = .ok (.iconst 3, 1) := by decide +kernel
theorem dX7_entryAt_19 : decode cX7_entryAt 19 = .ok (.isub, 1) := by decide +kernel
theorem dX7_entryAt_20 : decode cX7_entryAt 20 = .ok (.invokevirtual 206, 3) := by decide +kernel
theorem dX7_entryAt_23 : decode cX7_entryAt 23 = .ok (.goto 24, 3) := by decide +kernel
theorem dX7_entryAt_26 : decode cX7_entryAt 26 = .ok (.iload_n 2, 1) := by decide +kernel
theorem dX7_entryAt_27 : decode cX7_entryAt 27 = .ok (.ifCond .ne 8, 3) := by decide +kernel
theorem dX7_entryAt_30 : decode cX7_entryAt 30 = .ok (.bipush 111, 2) := by decide +kernel
theorem dX7_entryAt_32 : decode cX7_entryAt 32 = .ok (.goto 15, 3) := by decide +kernel
theorem dX7_entryAt_35 : decode cX7_entryAt 35 = .ok (.iload_n 2, 1) := by decide +kernel
theorem dX7_entryAt_36 : decode cX7_entryAt 36 = .ok (.iconst 1, 1) := by decide +kernel
theorem dX7_entryAt_37 : decode cX7_entryAt 37 = .ok (.if_icmp .ne 8, 3) := by decide +kernel
theorem dX7_entryAt_40 : decode cX7_entryAt 40 = .ok (.bipush 117, 2) := by decide +kernel
theorem dX7_entryAt_42 : decode cX7_entryAt 42 = .ok (.goto 5, 3) := by decide +kernel
theorem dX7_entryAt_45 : decode cX7_entryAt 45 = .ok (.bipush 116, 2) := by decide +kernel
theorem dX7_entryAt_47 : decode cX7_entryAt 47 = .ok (.ireturn, 1) := by decide +kernel
theorem dX7_entryAt_48 : decode cX7_entryAt 48 = .ok (.iload_n 2, 1) := by decide +kernel
theorem dX7_entryAt_49 : decode cX7_entryAt 49 = .ok (.iconst 4, 1) := by decide +kernel
theorem dX7_entryAt_50 : decode cX7_entryAt 50 = .ok (.if_icmp .le 12, 3) := by decide +kernel
theorem dX7_entryAt_53 : decode cX7_entryAt 53 = .ok (.aload_n 0, 1) := by decide +kernel
theorem dX7_entryAt_54 : decode cX7_entryAt 54 = .ok (.iload_n 1, 1) := by decide +kernel
theorem dX7_entryAt_55 : decode cX7_entryAt 55 = .ok (.iload_n 2, 1) := by decide +kernel
theorem dX7_entryAt_56 : decode cX7_entryAt 56 = .ok (.iconst 5, 1) := by decide +kernel
theorem dX7_entryAt_57 : decode cX7_entryAt 57 = .ok (.isub, 1) := by decide +kernel
theorem dX7_entryAt_58 : decode cX7_entryAt 58 = .ok (.invokevirtual 206, 3) := by decide +kernel
theorem dX7_entryAt_61 : decode cX7_entryAt 61 = .ok (.ireturn, 1) := by decide +kernel
theorem dX7_entryAt_62 : decode cX7_entryAt 62 = .ok (.iload_n 2, 1) := by decide +kernel
theorem dX7_entryAt_63 : decode cX7_entryAt 63 = .ok (.ifCond .ne 8, 3) := by decide +kernel
theorem dX7_entryAt_66 : decode cX7_entryAt 66 = .ok (.bipush 108, 2) := by decide +kernel
theorem dX7_entryAt_68 : decode cX7_entryAt 68 = .ok (.goto 49, 3) := by decide +kernel
theorem dX7_entryAt_71 : decode cX7_entryAt 71 = .ok (.iload_n 2, 1) := by decide +kernel
theorem dX7_entryAt_72 : decode cX7_entryAt 72 = .ok (.iconst 1, 1) := by decide +kernel
theorem dX7_entryAt_73 : decode cX7_entryAt 73 = .ok (.if_icmp .ne 8, 3) := by decide +kernel
theorem dX7_entryAt_76 : decode cX7_entryAt 76 = .ok (.bipush 105, 2) := by decide +kernel
theorem dX7_entryAt_78 : decode cX7_entryAt 78 = .ok (.goto 39, 3) := by decide +kernel
theorem dX7_entryAt_81 : decode cX7_entryAt 81 = .ok (.iload_n 2, 1) := by decide +kernel
theorem dX7_entryAt_82 : decode cX7_entryAt 82 = .ok (.iconst 2, 1) := by decide +kernel
theorem dX7_entryAt_83 : decode cX7_entryAt 83 = .ok (.if_icmp .ne 8, 3) := by decide +kernel
theorem dX7_entryAt_86 : decode cX7_entryAt 86 = .ok (.bipush 116, 2) := by decide +kernel
theorem dX7_entryAt_88 : decode cX7_entryAt 88 = .ok (.goto 29, 3) := by decide +kernel
theorem dX7_entryAt_91 : decode cX7_entryAt 91 = .ok (.iload_n 2, 1) := by decide +kernel
theorem dX7_entryAt_92 : decode cX7_entryAt 92 = .ok (.iconst 3, 1) := by decide +kernel
theorem dX7_entryAt_93 : decode cX7_entryAt 93 = .ok (.if_icmp .ne 8, 3) := by decide +kernel
theorem dX7_entryAt_96 : decode cX7_entryAt 96 = .ok (.bipush 32, 2) := by decide +kernel
theorem dX7_entryAt_98 : decode cX7_entryAt 98 = .ok (.goto 19, 3) := by decide +kernel
theorem dX7_entryAt_101 : decode cX7_entryAt 101 = .ok (.aload_n 0, 1) := by decide +kernel
theorem dX7_entryAt_102 : decode cX7_entryAt 102 = .ok (.getfield 7, 3) := by decide +kernel
theorem dX7_entryAt_105 : decode cX7_entryAt 105 = .ok (.iload_n 1, 1) := by decide +kernel
theorem dX7_entryAt_106 : decode cX7_entryAt 106 = .ok (.iaload, 1) := by decide +kernel
theorem dX7_entryAt_107 : decode cX7_entryAt 107 = .ok (.ifCond .ne 8, 3) := by decide +kernel
theorem dX7_entryAt_110 : decode cX7_entryAt 110 = .ok (.bipush 76, 2) := by decide +kernel
theorem dX7_entryAt_112 : decode cX7_entryAt 112 = .ok (.goto 5, 3) := by decide +kernel
theorem dX7_entryAt_115 : decode cX7_entryAt 115 = .ok (.bipush 82, 2) := by decide +kernel
theorem dX7_entryAt_117 : decode cX7_entryAt 117 = .ok (.ireturn, 1) := by decide +kernel
set_option maxRecDepth 20000 in
theorem ggX7_entry_X7_fails : GoodIn wsX7_entry wsX7_fails := goodIn_r _ [7, 1, 19, 20, 21, 22, 23, 24, 25, 26, 27, 28, 29, 30, 31, 32, 33, 34, 35, 36, 37, 38, 39, 40] (by decide +kernel) (by decide +kernel)
set_option maxRecDepth 20000 in
theorem gX7_entry_X7_fails : GoodIn wsX7_entry (wsV RX7 64 RX7 yX7_fails wsX7_fails) := goodIn_app (goodIn_of _ (by decide +kernel)) ggX7_entry_X7_fails
set_option maxRecDepth 20000 in
theorem ggX7_entry_X7_entryAt : GoodIn wsX7_entry wsX7_entryAt := goodIn_r _ [11, 2, 12, 13, 14, 6, 15, 16, 17, 18, 19, 20, 21, 22, 23, 24, 25, 26, 27, 28, 29, 30, 31, 32, 33, 34, 35, 36, 37, 38, 39, 40] (by decide +kernel) (by decide +kernel)
set_option maxRecDepth 20000 in
theorem gX7_entry_X7_entryAt : GoodIn wsX7_entry (wsV RX7 209 RX7 yX7_entryAt wsX7_entryAt) := goodIn_app (goodIn_of _ (by decide +kernel)) ggX7_entry_X7_entryAt
theorem dX7_entry_0 : decode cX7_entry 0 = .ok (.aload_n 0, 1) := by decide +kernel
theorem dX7_entry_1 : decode cX7_entry 1 = .ok (.iconst 0, 1) := by decide +kernel
theorem dX7_entry_2 : decode cX7_entry 2 = .ok (.putfield 53, 3) := by decide +kernel
theorem dX7_entry_5 : decode cX7_entry 5 = .ok (.iload_n 1, 1) := by decide +kernel
theorem dX7_entry_6 : decode cX7_entry 6 = .ok (.ifCond .lt 7, 3) := by decide +kernel
theorem dX7_entry_9 : decode cX7_entry 9 = .ok (.iload_n 2, 1) := by decide +kernel
theorem dX7_entry_10 : decode cX7_entry 10 = .ok (.ifCond .ge 9, 3) := by decide +kernel
theorem dX7_entry_13 : decode cX7_entry 13 = .ok (.aload_n 0, 1) := by decide +kernel
theorem dX7_entry_14 : decode cX7_entry 14 = .ok (.iconst 1, 1) := by decide +kernel
theorem dX7_entry_15 : decode cX7_entry 15 = .ok (.invokevirtual 64, 3) := by decide +kernel
theorem dX7_entry_18 : decode cX7_entry 18 = .ok (.ireturn, 1) := by decide +kernel
theorem dX7_entry_19 : decode cX7_entry 19 = .ok (.iload_n 1, 1) := by decide +kernel
theorem dX7_entry_20 : decode cX7_entry 20 = .ok (.aload_n 0, 1) := by decide +kernel
theorem dX7_entry_21 : decode cX7_entry 21 = .ok (.getfield 7, 3) := by decide +kernel
theorem dX7_entry_24 : decode cX7_entry 24 = .ok (.bipush 84, 2) := by decide +kernel
theorem dX7_entry_26 : decode cX7_entry 26 = .ok (.iaload, 1) := by decide +kernel
theorem dX7_entry_27 : decode cX7_entry 27 = .ok (.if_icmp .ge 17, 3) := by decide +kernel
theorem dX7_entry_30 : decode cX7_entry 30 = .ok (.aload_n 0, 1) := by decide +kernel
theorem dX7_entry_31 : decode cX7_entry 31 = .ok (.bipush 85, 2) := by decide +kernel
theorem dX7_entry_33 : decode cX7_entry 33 = .ok (.iconst 3, 1) := by decide +kernel
theorem dX7_entry_34 : decode cX7_entry 34 = .ok (.iload_n 1, 1) := by decide +kernel
theorem dX7_entry_35 : decode cX7_entry 35 = .ok (.imul, 1) := by decide +kernel
theorem dX7_entry_36 : decode cX7_entry 36 = .ok (.iadd, 1) := by decide +kernel
theorem dX7_entry_37 : decode cX7_entry 37 = .ok (.iload_n 2, 1) := by decide +kernel
theorem dX7_entry_38 : decode cX7_entry 38 = .ok (.invokevirtual 209, 3) := by decide +kernel
theorem dX7_entry_41 : decode cX7_entry 41 = .ok (.goto 4, 3) := by decide +kernel
theorem dX7_entry_44 : decode cX7_entry 44 = .ok (.iconst (-1), 1) := by decide +kernel
theorem dX7_entry_45 : decode cX7_entry 45 = .ok (.ireturn, 1) := by decide +kernel
set_option maxRecDepth 20000 in
theorem ggX7_outIn_X7_isCord : GoodIn wsX7_outIn wsX7_isCord := goodIn_r _ [8, 3, 9, 10, 7, 11, 71, 72, 73, 74, 75, 76, 77, 78, 79, 80, 81, 82, 83, 84, 85, 86, 87, 88, 89, 90, 91, 92] (by decide +kernel) (by decide +kernel)
set_option maxRecDepth 20000 in
theorem gX7_outIn_X7_isCord : GoodIn wsX7_outIn (wsV RX7 125 RX7 yX7_isCord wsX7_isCord) := goodIn_app (goodIn_of _ (by decide +kernel)) ggX7_outIn_X7_isCord
set_option maxRecDepth 20000 in
theorem ggX7_outIn_X7_fails : GoodIn wsX7_outIn wsX7_fails := goodIn_r _ [15, 1, 71, 72, 73, 74, 75, 76, 77, 78, 79, 80, 81, 82, 83, 84, 85, 86, 87, 88, 89, 90, 91, 92] (by decide +kernel) (by decide +kernel)
set_option maxRecDepth 20000 in
theorem gX7_outIn_X7_fails : GoodIn wsX7_outIn (wsV RX7 64 RX7 yX7_fails wsX7_fails) := goodIn_app (goodIn_of _ (by decide +kernel)) ggX7_outIn_X7_fails
set_option maxRecDepth 20000 in
theorem ggX7_outIn_X7_leftOf : GoodIn wsX7_outIn wsX7_leftOf := goodIn_r _ [19, 20, 21, 22, 7, 23, 24, 25, 26, 27, 3, 28, 29, 30, 31, 71, 72, 73, 74, 75, 76, 77, 78, 79, 80, 81, 82, 83, 84, 85, 86, 87, 88, 89, 90, 91, 92] (by decide +kernel) (by decide +kernel)
set_option maxRecDepth 20000 in
theorem gX7_outIn_X7_leftOf : GoodIn wsX7_outIn (wsV RX7 84 RX7 yX7_leftOf wsX7_leftOf) := goodIn_app (goodIn_of _ (by decide +kernel)) ggX7_outIn_X7_leftOf
set_option maxRecDepth 20000 in
theorem ggX7_outIn_X7_flames : GoodIn wsX7_outIn wsX7_flames := goodIn_r _ [35, 3, 36, 37, 38, 7, 39, 24, 25, 26, 27, 71, 72, 73, 74, 75, 76, 77, 78, 79, 80, 81, 82, 83, 84, 85, 86, 87, 88, 89, 90, 91, 92] (by decide +kernel) (by decide +kernel)
set_option maxRecDepth 20000 in
theorem gX7_outIn_X7_flames : GoodIn wsX7_outIn (wsV RX7 107 RX7 yX7_flames wsX7_flames) := goodIn_app (goodIn_of _ (by decide +kernel)) ggX7_outIn_X7_flames
set_option maxRecDepth 20000 in
theorem ggX7_outIn_X7_step : GoodIn wsX7_outIn wsX7_step := goodIn_r _ [43, 3, 32, 33, 34, 7, 35, 36, 37, 38, 39, 24, 25, 26, 27, 44, 45, 46, 47, 48, 49, 50, 51, 16, 17, 18, 19, 20, 21, 22, 23, 28, 29, 30, 31, 52, 53, 54, 55, 56, 57, 58, 59, 60, 61, 62, 63, 64, 65, 66, 67, 68, 69, 70, 71, 72, 73, 74, 75, 76, 77, 78, 79, 80, 81, 82, 83, 84, 85, 86, 87, 88, 89, 90, 91, 92] (by decide +kernel) (by decide +kernel)
set_option maxRecDepth 20000 in
theorem gX7_outIn_X7_step : GoodIn wsX7_outIn (wsV RX7 119 RX7 yX7_step wsX7_step) := goodIn_app (goodIn_of _ (by decide +kernel)) ggX7_outIn_X7_step
theorem dX7_outIn_0 : decode cX7_outIn 0 = .ok (.aload_n 0, 1) := by decide +kernel
theorem dX7_outIn_1 : decode cX7_outIn 1 = .ok (.iconst 0, 1) := by decide +kernel
theorem dX7_outIn_2 : decode cX7_outIn 2 = .ok (.putfield 53, 3) := by decide +kernel
theorem dX7_outIn_5 : decode cX7_outIn 5 = .ok (.aload_n 0, 1) := by decide +kernel
theorem dX7_outIn_6 : decode cX7_outIn 6 = .ok (.iload_n 1, 1) := by decide +kernel
theorem dX7_outIn_7 : decode cX7_outIn 7 = .ok (.invokevirtual 125, 3) := by decide +kernel
theorem dX7_outIn_10 : decode cX7_outIn 10 = .ok (.ifCond .ne 9, 3) := by decide +kernel
theorem dX7_outIn_13 : decode cX7_outIn 13 = .ok (.aload_n 0, 1) := by decide +kernel
theorem dX7_outIn_14 : decode cX7_outIn 14 = .ok (.iconst 1, 1) := by decide +kernel
theorem dX7_outIn_15 : decode cX7_outIn 15 = .ok (.invokevirtual 64, 3) := by decide +kernel
theorem dX7_outIn_18 : decode cX7_outIn 18 = .ok (.ireturn, 1) := by decide +kernel
theorem dX7_outIn_19 : decode cX7_outIn 19 = .ok (.iconst 0, 1) := by decide +kernel
theorem dX7_outIn_20 : decode cX7_outIn 20 = .ok (.istore_n 2, 1) := by decide +kernel
theorem dX7_outIn_21 : decode cX7_outIn 21 = .ok (.iload_n 2, 1) := by decide +kernel
theorem dX7_outIn_22 : decode cX7_outIn 22 = .ok (.bipush 109, 2) := by decide +kernel
theorem dX7_outIn_24 : decode cX7_outIn 24 = .ok (.if_icmp .ge 21, 3) := by decide +kernel
theorem dX7_outIn_27 : decode cX7_outIn 27 = .ok (.aload_n 0, 1) := by decide +kernel
theorem dX7_outIn_28 : decode cX7_outIn 28 = .ok (.getfield 23, 3) := by decide +kernel
theorem dX7_outIn_31 : decode cX7_outIn 31 = .ok (.iload_n 2, 1) := by decide +kernel
theorem dX7_outIn_32 : decode cX7_outIn 32 = .ok (.aload_n 0, 1) := by decide +kernel
theorem dX7_outIn_33 : decode cX7_outIn 33 = .ok (.getfield 7, 3) := by decide +kernel
theorem dX7_outIn_36 : decode cX7_outIn 36 = .ok (.iload_n 2, 1) := by decide +kernel
theorem dX7_outIn_37 : decode cX7_outIn 37 = .ok (.iaload, 1) := by decide +kernel
theorem dX7_outIn_38 : decode cX7_outIn 38 = .ok (.iastore, 1) := by decide +kernel
theorem dX7_outIn_39 : decode cX7_outIn 39 = .ok (.iinc 2 1, 3) := by decide +kernel
theorem dX7_outIn_42 : decode cX7_outIn 42 = .ok (.goto (-21), 3) := by decide +kernel
theorem dX7_outIn_45 : decode cX7_outIn 45 = .ok (.iconst 0, 1) := by decide +kernel
theorem dX7_outIn_46 : decode cX7_outIn 46 = .ok (.istore_n 2, 1) := by decide +kernel
theorem dX7_outIn_47 : decode cX7_outIn 47 = .ok (.iload_n 2, 1) := by decide +kernel
theorem dX7_outIn_48 : decode cX7_outIn 48 = .ok (.sipush 2000, 3) := by decide +kernel
theorem dX7_outIn_51 : decode cX7_outIn 51 = .ok (.if_icmp .ge 29, 3) := by decide +kernel
theorem dX7_outIn_54 : decode cX7_outIn 54 = .ok (.aload_n 0, 1) := by decide +kernel
theorem dX7_outIn_55 : decode cX7_outIn 55 = .ok (.iload_n 1, 1) := by decide +kernel
theorem dX7_outIn_56 : decode cX7_outIn 56 = .ok (.invokevirtual 84, 3) := by decide +kernel
theorem dX7_outIn_59 : decode cX7_outIn 59 = .ok (.ifCond .le 21, 3) := by decide +kernel
theorem dX7_outIn_62 : decode cX7_outIn 62 = .ok (.aload_n 0, 1) := by decide +kernel
theorem dX7_outIn_63 : decode cX7_outIn 63 = .ok (.invokevirtual 107, 3) := by decide +kernel
theorem dX7_outIn_66 : decode cX7_outIn 66 = .ok (.ifCond .le 14, 3) := by decide +kernel
theorem dX7_outIn_69 : decode cX7_outIn 69 = .ok (.aload_n 0, 1) := by decide +kernel
theorem dX7_outIn_70 : decode cX7_outIn 70 = .ok (.invokevirtual 119, 3) := by decide +kernel
theorem dX7_outIn_73 : decode cX7_outIn 73 = .ok (.istore_n 3, 1) := by decide +kernel
theorem dX7_outIn_74 : decode cX7_outIn 74 = .ok (.iinc 2 1, 3) := by decide +kernel
theorem dX7_outIn_77 : decode cX7_outIn 77 = .ok (.goto (-30), 3) := by decide +kernel
theorem dX7_outIn_80 : decode cX7_outIn 80 = .ok (.aload_n 0, 1) := by decide +kernel
theorem dX7_outIn_81 : decode cX7_outIn 81 = .ok (.iload_n 1, 1) := by decide +kernel
theorem dX7_outIn_82 : decode cX7_outIn 82 = .ok (.invokevirtual 84, 3) := by decide +kernel
theorem dX7_outIn_85 : decode cX7_outIn 85 = .ok (.ifCond .ne 7, 3) := by decide +kernel
theorem dX7_outIn_88 : decode cX7_outIn 88 = .ok (.iload_n 2, 1) := by decide +kernel
theorem dX7_outIn_89 : decode cX7_outIn 89 = .ok (.goto 4, 3) := by decide +kernel
theorem dX7_outIn_92 : decode cX7_outIn 92 = .ok (.iconst (-1), 1) := by decide +kernel
theorem dX7_outIn_93 : decode cX7_outIn 93 = .ok (.istore_n 3, 1) := by decide +kernel
theorem dX7_outIn_94 : decode cX7_outIn 94 = .ok (.iconst 0, 1) := by decide +kernel
theorem dX7_outIn_95 : decode cX7_outIn 95 = .ok (.istore 4, 2) := by decide +kernel
theorem dX7_outIn_97 : decode cX7_outIn 97 = .ok (.iload 4, 2) := by decide +kernel
theorem dX7_outIn_99 : decode cX7_outIn 99 = .ok (.bipush 109, 2) := by decide +kernel
theorem dX7_outIn_101 : decode cX7_outIn 101 = .ok (.if_icmp .ge 23, 3) := by decide +kernel
theorem dX7_outIn_104 : decode cX7_outIn 104 = .ok (.aload_n 0, 1) := by decide +kernel
theorem dX7_outIn_105 : decode cX7_outIn 105 = .ok (.getfield 7, 3) := by decide +kernel
theorem dX7_outIn_108 : decode cX7_outIn 108 = .ok (.iload 4, 2) := by decide +kernel
theorem dX7_outIn_110 : decode cX7_outIn 110 = .ok (.aload_n 0, 1) := by decide +kernel
theorem dX7_outIn_111 : decode cX7_outIn 111 = .ok (.getfield 23, 3) := by decide +kernel
theorem dX7_outIn_114 : decode cX7_outIn 114 = .ok (.iload 4, 2) := by decide +kernel
theorem dX7_outIn_116 : decode cX7_outIn 116 = .ok (.iaload, 1) := by decide +kernel
theorem dX7_outIn_117 : decode cX7_outIn 117 = .ok (.iastore, 1) := by decide +kernel
theorem dX7_outIn_118 : decode cX7_outIn 118 = .ok (.iinc 4 1, 3) := by decide +kernel
theorem dX7_outIn_121 : decode cX7_outIn 121 = .ok (.goto (-24), 3) := by decide +kernel
theorem dX7_outIn_124 : decode cX7_outIn 124 = .ok (.iload_n 3, 1) := by decide +kernel
theorem dX7_outIn_125 : decode cX7_outIn 125 = .ok (.ireturn, 1) := by decide +kernel
set_option maxRecDepth 20000 in
theorem ggX7_stepByStep_X7_leftOf : GoodIn wsX7_stepByStep wsX7_leftOf := goodIn_r _ [5, 6, 7, 8, 4, 9, 10, 11, 12, 13, 14, 15, 16, 17, 18, 19, 20, 21, 22, 23, 24, 25, 26, 27, 28, 29, 30, 31, 32, 33, 34, 35, 36, 37, 38, 39, 40] (by decide +kernel) (by decide +kernel)
set_option maxRecDepth 20000 in
theorem gX7_stepByStep_X7_leftOf : GoodIn wsX7_stepByStep (wsV RX7 84 RX7 yX7_leftOf wsX7_leftOf) := goodIn_app (goodIn_of _ (by decide +kernel)) ggX7_stepByStep_X7_leftOf
theorem dX7_stepByStep_0 : decode cX7_stepByStep 0 = .ok (.iconst 0, 1) := by decide +kernel
theorem dX7_stepByStep_1 : decode cX7_stepByStep 1 = .ok (.istore_n 3, 1) := by decide +kernel
theorem dX7_stepByStep_2 : decode cX7_stepByStep 2 = .ok (.aload_n 0, 1) := by decide +kernel
theorem dX7_stepByStep_3 : decode cX7_stepByStep 3 = .ok (.iload_n 1, 1) := by decide +kernel
theorem dX7_stepByStep_4 : decode cX7_stepByStep 4 = .ok (.invokevirtual 84, 3) := by decide +kernel
theorem dX7_stepByStep_7 : decode cX7_stepByStep 7 = .ok (.istore 4, 2) := by decide +kernel
theorem dX7_stepByStep_9 : decode cX7_stepByStep 9 = .ok (.iload 4, 2) := by decide +kernel
theorem dX7_stepByStep_11 : decode cX7_stepByStep 11 = .ok (.ifCond .le 15, 3) := by decide +kernel
theorem dX7_stepByStep_14 : decode cX7_stepByStep 14 = .ok (.iinc 3 1, 3) := by decide +kernel
theorem dX7_stepByStep_17 : decode cX7_stepByStep 17 = .ok (.iload 4, 2) := by decide +kernel
theorem dX7_stepByStep_19 : decode cX7_stepByStep 19 = .ok (.iload_n 2, 1) := by decide +kernel
theorem dX7_stepByStep_20 : decode cX7_stepByStep 20 = .ok (.isub, 1) := by decide +kernel
theorem dX7_stepByStep_21 : decode cX7_stepByStep 21 = .ok (.istore 4, 2) := by decide +kernel
theorem dX7_stepByStep_23 : decode cX7_stepByStep 23 = .ok (.goto (-14), 3) := by decide +kernel
theorem dX7_stepByStep_26 : decode cX7_stepByStep 26 = .ok (.iload_n 3, 1) := by decide +kernel
theorem dX7_stepByStep_27 : decode cX7_stepByStep 27 = .ok (.ireturn, 1) := by decide +kernel
set_option maxRecDepth 20000 in
theorem ggX7_lasts_X7_isCord : GoodIn wsX7_lasts wsX7_isCord := goodIn_r _ [6, 7, 8, 9, 5, 10, 35, 36, 37, 38, 39, 40, 41, 42, 43, 44, 45, 46, 47, 48, 49, 50, 51, 52, 53, 54, 55, 56] (by decide +kernel) (by decide +kernel)
set_option maxRecDepth 20000 in
theorem gX7_lasts_X7_isCord : GoodIn wsX7_lasts (wsV RX7 125 RX7 yX7_isCord wsX7_isCord) := goodIn_app (goodIn_of _ (by decide +kernel)) ggX7_lasts_X7_isCord
set_option maxRecDepth 20000 in
theorem ggX7_lasts_X7_fails : GoodIn wsX7_lasts wsX7_fails := goodIn_r _ [14, 1, 35, 36, 37, 38, 39, 40, 41, 42, 43, 44, 45, 46, 47, 48, 49, 50, 51, 52, 53, 54, 55, 56] (by decide +kernel) (by decide +kernel)
set_option maxRecDepth 20000 in
theorem gX7_lasts_X7_fails : GoodIn wsX7_lasts (wsV RX7 64 RX7 yX7_fails wsX7_fails) := goodIn_app (goodIn_of _ (by decide +kernel)) ggX7_lasts_X7_fails
set_option maxRecDepth 20000 in
theorem ggX7_lasts_X7_in : GoodIn wsX7_lasts wsX7_in := goodIn_r _ [10] (by decide +kernel) (by decide +kernel)
set_option maxRecDepth 20000 in
theorem gX7_lasts_X7_in : GoodIn wsX7_lasts (va_wsS RX7 57 yX7_in wsX7_in) := goodIn_app (goodIn_of _ (by decide +kernel)) ggX7_lasts_X7_in
set_option maxRecDepth 20000 in
theorem ggX7_lasts_X7_stepByStep : GoodIn wsX7_lasts wsX7_stepByStep := goodIn_r _ [18, 19, 20, 21, 5, 22, 23, 24, 25, 26, 27, 28, 29, 30, 7, 31, 32, 33, 34, 35, 36, 37, 38, 39, 40, 41, 42, 43, 44, 45, 46, 47, 48, 49, 50, 51, 52, 53, 54, 55, 56] (by decide +kernel) (by decide +kernel)
set_option maxRecDepth 20000 in
theorem gX7_lasts_X7_stepByStep : GoodIn wsX7_lasts (wsV RX7 212 RX7 yX7_stepByStep wsX7_stepByStep) := goodIn_app (goodIn_of _ (by decide +kernel)) ggX7_lasts_X7_stepByStep
set_option maxRecDepth 20000 in
theorem ggX7_lasts_X7_leftOf : GoodIn wsX7_lasts wsX7_leftOf := goodIn_r _ [22, 23, 24, 25, 5, 26, 27, 28, 29, 30, 7, 31, 32, 33, 34, 35, 36, 37, 38, 39, 40, 41, 42, 43, 44, 45, 46, 47, 48, 49, 50, 51, 52, 53, 54, 55, 56] (by decide +kernel) (by decide +kernel)
set_option maxRecDepth 20000 in
theorem gX7_lasts_X7_leftOf : GoodIn wsX7_lasts (wsV RX7 84 RX7 yX7_leftOf wsX7_leftOf) := goodIn_app (goodIn_of _ (by decide +kernel)) ggX7_lasts_X7_leftOf
theorem dX7_lasts_0 : decode cX7_lasts 0 = .ok (.aload_n 0, 1) := by decide +kernel
theorem dX7_lasts_1 : decode cX7_lasts 1 = .ok (.iconst 0, 1) := by decide +kernel
theorem dX7_lasts_2 : decode cX7_lasts 2 = .ok (.putfield 53, 3) := by decide +kernel
theorem dX7_lasts_5 : decode cX7_lasts 5 = .ok (.aload_n 0, 1) := by decide +kernel
theorem dX7_lasts_6 : decode cX7_lasts 6 = .ok (.iload_n 1, 1) := by decide +kernel
theorem dX7_lasts_7 : decode cX7_lasts 7 = .ok (.invokevirtual 125, 3) := by decide +kernel
theorem dX7_lasts_10 : decode cX7_lasts 10 = .ok (.ifCond .ne 9, 3) := by decide +kernel
theorem dX7_lasts_13 : decode cX7_lasts 13 = .ok (.aload_n 0, 1) := by decide +kernel
theorem dX7_lasts_14 : decode cX7_lasts 14 = .ok (.iconst 1, 1) := by decide +kernel
theorem dX7_lasts_15 : decode cX7_lasts 15 = .ok (.invokevirtual 64, 3) := by decide +kernel
theorem dX7_lasts_18 : decode cX7_lasts 18 = .ok (.ireturn, 1) := by decide +kernel
theorem dX7_lasts_19 : decode cX7_lasts 19 = .ok (.iload_n 2, 1) := by decide +kernel
theorem dX7_lasts_20 : decode cX7_lasts 20 = .ok (.iconst 1, 1) := by decide +kernel
theorem dX7_lasts_21 : decode cX7_lasts 21 = .ok (.iconst 2, 1) := by decide +kernel
theorem dX7_lasts_22 : decode cX7_lasts 22 = .ok (.invokestatic 57, 3) := by decide +kernel
theorem dX7_lasts_25 : decode cX7_lasts 25 = .ok (.ifCond .eq 12, 3) := by decide +kernel
theorem dX7_lasts_28 : decode cX7_lasts 28 = .ok (.iload_n 3, 1) := by decide +kernel
theorem dX7_lasts_29 : decode cX7_lasts 29 = .ok (.iconst 0, 1) := by decide +kernel
theorem dX7_lasts_30 : decode cX7_lasts 30 = .ok (.iconst 1, 1) := by decide +kernel
theorem dX7_lasts_31 : decode cX7_lasts 31 = .ok (.invokestatic 57, 3) := by decide +kernel
theorem dX7_lasts_34 : decode cX7_lasts 34 = .ok (.ifCond .ne 9, 3) := by decide +kernel
theorem dX7_lasts_37 : decode cX7_lasts 37 = .ok (.aload_n 0, 1) := by decide +kernel
theorem dX7_lasts_38 : decode cX7_lasts 38 = .ok (.iconst 2, 1) := by decide +kernel
theorem dX7_lasts_39 : decode cX7_lasts 39 = .ok (.invokevirtual 64, 3) := by decide +kernel
theorem dX7_lasts_42 : decode cX7_lasts 42 = .ok (.ireturn, 1) := by decide +kernel
theorem dX7_lasts_43 : decode cX7_lasts 43 = .ok (.iload_n 3, 1) := by decide +kernel
theorem dX7_lasts_44 : decode cX7_lasts 44 = .ok (.ifCond .ne 12, 3) := by decide +kernel
theorem dX7_lasts_47 : decode cX7_lasts 47 = .ok (.aload_n 0, 1) := by decide +kernel
theorem dX7_lasts_48 : decode cX7_lasts 48 = .ok (.iload_n 1, 1) := by decide +kernel
theorem dX7_lasts_49 : decode cX7_lasts 49 = .ok (.iload_n 2, 1) := by decide +kernel
theorem dX7_lasts_50 : decode cX7_lasts 50 = .ok (.invokevirtual 212, 3) := by decide +kernel
theorem dX7_lasts_53 : decode cX7_lasts 53 = .ok (.goto 14, 3) := by decide +kernel
theorem dX7_lasts_56 : decode cX7_lasts 56 = .ok (.aload_n 0, 1) := by decide +kernel
theorem dX7_lasts_57 : decode cX7_lasts 57 = .ok (.iload_n 1, 1) := by decide +kernel
theorem dX7_lasts_58 : decode cX7_lasts 58 = .ok (.invokevirtual 84, 3) := by decide +kernel
theorem dX7_lasts_61 : decode cX7_lasts 61 = .ok (.iload_n 2, 1) := by decide +kernel
theorem dX7_lasts_62 : decode cX7_lasts 62 = .ok (.iadd, 1) := by decide +kernel
theorem dX7_lasts_63 : decode cX7_lasts 63 = .ok (.iconst 1, 1) := by decide +kernel
theorem dX7_lasts_64 : decode cX7_lasts 64 = .ok (.isub, 1) := by decide +kernel
theorem dX7_lasts_65 : decode cX7_lasts 65 = .ok (.iload_n 2, 1) := by decide +kernel
theorem dX7_lasts_66 : decode cX7_lasts 66 = .ok (.idiv, 1) := by decide +kernel
theorem dX7_lasts_67 : decode cX7_lasts 67 = .ok (.ireturn, 1) := by decide +kernel
theorem dX7_isSet_0 : decode cX7_isSet 0 = .ok (.iload_n 1, 1) := by decide +kernel
theorem dX7_isSet_1 : decode cX7_isSet 1 = .ok (.ifCond .lt 45, 3) := by decide +kernel
theorem dX7_isSet_4 : decode cX7_isSet 4 = .ok (.iload_n 1, 1) := by decide +kernel
theorem dX7_isSet_5 : decode cX7_isSet 5 = .ok (.iconst 1, 1) := by decide +kernel
theorem dX7_isSet_6 : decode cX7_isSet 6 = .ok (.aload_n 0, 1) := by decide +kernel
theorem dX7_isSet_7 : decode cX7_isSet 7 = .ok (.getfield 7, 3) := by decide +kernel
theorem dX7_isSet_10 : decode cX7_isSet 10 = .ok (.bipush 6, 2) := by decide +kernel
theorem dX7_isSet_12 : decode cX7_isSet 12 = .ok (.iaload, 1) := by decide +kernel
theorem dX7_isSet_13 : decode cX7_isSet 13 = .ok (.ishl, 1) := by decide +kernel
theorem dX7_isSet_14 : decode cX7_isSet 14 = .ok (.if_icmp .ge 32, 3) := by decide +kernel
theorem dX7_isSet_17 : decode cX7_isSet 17 = .ok (.iload_n 1, 1) := by decide +kernel
theorem dX7_isSet_18 : decode cX7_isSet 18 = .ok (.iconst 1, 1) := by decide +kernel
theorem dX7_isSet_19 : decode cX7_isSet 19 = .ok (.iand, 1) := by decide +kernel
theorem dX7_isSet_20 : decode cX7_isSet 20 = .ok (.iload_n 1, 1) := by decide +kernel
theorem dX7_isSet_21 : decode cX7_isSet 21 = .ok (.iconst 1, 1) := by decide +kernel
theorem dX7_isSet_22 : decode cX7_isSet 22 = .ok (.ishr, 1) := by decide +kernel
theorem dX7_isSet_23 : decode cX7_isSet 23 = .ok (.iconst 1, 1) := by decide +kernel
theorem dX7_isSet_24 : decode cX7_isSet 24 = .ok (.iand, 1) := by decide +kernel
theorem dX7_isSet_25 : decode cX7_isSet 25 = .ok (.iadd, 1) := by decide +kernel
theorem dX7_isSet_26 : decode cX7_isSet 26 = .ok (.iload_n 1, 1) := by decide +kernel
theorem dX7_isSet_27 : decode cX7_isSet 27 = .ok (.iconst 2, 1) := by decide +kernel
theorem dX7_isSet_28 : decode cX7_isSet 28 = .ok (.ishr, 1) := by decide +kernel
theorem dX7_isSet_29 : decode cX7_isSet 29 = .ok (.iconst 1, 1) := by decide +kernel
theorem dX7_isSet_30 : decode cX7_isSet 30 = .ok (.iand, 1) := by decide +kernel
theorem dX7_isSet_31 : decode cX7_isSet 31 = .ok (.iadd, 1) := by decide +kernel
theorem dX7_isSet_32 : decode cX7_isSet 32 = .ok (.iload_n 1, 1) := by decide +kernel
theorem dX7_isSet_33 : decode cX7_isSet 33 = .ok (.iconst 3, 1) := by decide +kernel
theorem dX7_isSet_34 : decode cX7_isSet 34 = .ok (.ishr, 1) := by decide +kernel
theorem dX7_isSet_35 : decode cX7_isSet 35 = .ok (.iconst 1, 1) := by decide +kernel
theorem dX7_isSet_36 : decode cX7_isSet 36 = .ok (.iand, 1) := by decide +kernel
theorem dX7_isSet_37 : decode cX7_isSet 37 = .ok (.iadd, 1) := by decide +kernel
theorem dX7_isSet_38 : decode cX7_isSet 38 = .ok (.iconst 3, 1) := by decide +kernel
theorem dX7_isSet_39 : decode cX7_isSet 39 = .ok (.if_icmp .gt 7, 3) := by decide +kernel
theorem dX7_isSet_42 : decode cX7_isSet 42 = .ok (.iconst 1, 1) := by decide +kernel
theorem dX7_isSet_43 : decode cX7_isSet 43 = .ok (.goto 4, 3) := by decide +kernel
theorem dX7_isSet_46 : decode cX7_isSet 46 = .ok (.iconst 0, 1) := by decide +kernel
theorem dX7_isSet_47 : decode cX7_isSet 47 = .ok (.ireturn, 1) := by decide +kernel
theorem dX7_goOn_0 : decode cX7_goOn 0 = .ok (.iconst 0, 1) := by decide +kernel
theorem dX7_goOn_1 : decode cX7_goOn 1 = .ok (.istore 5, 2) := by decide +kernel
theorem dX7_goOn_3 : decode cX7_goOn 3 = .ok (.iconst 0, 1) := by decide +kernel
theorem dX7_goOn_4 : decode cX7_goOn 4 = .ok (.istore 6, 2) := by decide +kernel
theorem dX7_goOn_6 : decode cX7_goOn 6 = .ok (.iconst 0, 1) := by decide +kernel
theorem dX7_goOn_7 : decode cX7_goOn 7 = .ok (.istore 7, 2) := by decide +kernel
theorem dX7_goOn_9 : decode cX7_goOn 9 = .ok (.iload 7, 2) := by decide +kernel
theorem dX7_goOn_11 : decode cX7_goOn 11 = .ok (.iconst 3, 1) := by decide +kernel
theorem dX7_goOn_12 : decode cX7_goOn 12 = .ok (.if_icmp .ge 111, 3) := by decide +kernel
theorem dX7_goOn_15 : decode cX7_goOn 15 = .ok (.iload 7, 2) := by decide +kernel
theorem dX7_goOn_17 : decode cX7_goOn 17 = .ok (.ifCond .ne 7, 3) := by decide +kernel
theorem dX7_goOn_20 : decode cX7_goOn 20 = .ok (.iload_n 2, 1) := by decide +kernel
theorem dX7_goOn_21 : decode cX7_goOn 21 = .ok (.goto 15, 3) := by decide +kernel
theorem dX7_goOn_24 : decode cX7_goOn 24 = .ok (.iload 7, 2) := by decide +kernel
theorem dX7_goOn_26 : decode cX7_goOn 26 = .ok (.iconst 1, 1) := by decide +kernel
theorem dX7_goOn_27 : decode cX7_goOn 27 = .ok (.if_icmp .ne 7, 3) := by decide +kernel
theorem dX7_goOn_30 : decode cX7_goOn 30 = .ok (.iload_n 3, 1) := by decide +kernel
theorem dX7_goOn_31 : decode cX7_goOn 31 = .ok (.goto 5, 3) := by decide +kernel
theorem dX7_goOn_34 : decode cX7_goOn 34 = .ok (.iload 4, 2) := by decide +kernel
theorem dX7_goOn_36 : decode cX7_goOn 36 = .ok (.istore 8, 2) := by decide +kernel
theorem dX7_goOn_38 : decode cX7_goOn 38 = .ok (.aload_n 0, 1) := by decide +kernel
theorem dX7_goOn_39 : decode cX7_goOn 39 = .ok (.getfield 47, 3) := by decide +kernel
theorem dX7_goOn_42 : decode cX7_goOn 42 = .ok (.iload_n 1, 1) := by decide +kernel
theorem dX7_goOn_43 : decode cX7_goOn 43 = .ok (.iconst 1, 1) := by decide +kernel
theorem dX7_goOn_44 : decode cX7_goOn 44 = .ok (.iadd, 1) := by decide +kernel
theorem dX7_goOn_45 : decode cX7_goOn 45 = .ok (.iload 7, 2) := by decide +kernel
theorem dX7_goOn_47 : decode cX7_goOn 47 = .ok (.iadd, 1) := by decide +kernel
theorem dX7_goOn_48 : decode cX7_goOn 48 = .ok (.iaload, 1) := by decide +kernel
theorem dX7_goOn_49 : decode cX7_goOn 49 = .ok (.istore 9, 2) := by decide +kernel
theorem dX7_goOn_51 : decode cX7_goOn 51 = .ok (.iload 6, 2) := by decide +kernel
theorem dX7_goOn_53 : decode cX7_goOn 53 = .ok (.iload 8, 2) := by decide +kernel
theorem dX7_goOn_55 : decode cX7_goOn 55 = .ok (.aload_n 0, 1) := by decide +kernel
theorem dX7_goOn_56 : decode cX7_goOn 56 = .ok (.getfield 47, 3) := by decide +kernel
theorem dX7_goOn_59 : decode cX7_goOn 59 = .ok (.iload_n 1, 1) := by decide +kernel
theorem dX7_goOn_60 : decode cX7_goOn 60 = .ok (.iconst 4, 1) := by decide +kernel
theorem dX7_goOn_61 : decode cX7_goOn 61 = .ok (.iadd, 1) := by decide +kernel
theorem dX7_goOn_62 : decode cX7_goOn 62 = .ok (.iload 7, 2) := by decide +kernel
theorem dX7_goOn_64 : decode cX7_goOn 64 = .ok (.iadd, 1) := by decide +kernel
theorem dX7_goOn_65 : decode cX7_goOn 65 = .ok (.iaload, 1) := by decide +kernel
theorem dX7_goOn_66 : decode cX7_goOn 66 = .ok (.isub, 1) := by decide +kernel
theorem dX7_goOn_67 : decode cX7_goOn 67 = .ok (.iadd, 1) := by decide +kernel
theorem dX7_goOn_68 : decode cX7_goOn 68 = .ok (.istore 6, 2) := by decide +kernel
theorem dX7_goOn_70 : decode cX7_goOn 70 = .ok (.iload 8, 2) := by decide +kernel
theorem dX7_goOn_72 : decode cX7_goOn 72 = .ok (.ifCond .ne 7, 3) := by decide +kernel
theorem dX7_goOn_75 : decode cX7_goOn 75 = .ok (.iconst 0, 1) := by decide +kernel
theorem dX7_goOn_76 : decode cX7_goOn 76 = .ok (.goto 13, 3) := by decide +kernel
theorem dX7_goOn_79 : decode cX7_goOn 79 = .ok (.iload 9, 2) := by decide +kernel
theorem dX7_goOn_81 : decode cX7_goOn 81 = .ok (.iload 8, 2) := by decide +kernel
theorem dX7_goOn_83 : decode cX7_goOn 83 = .ok (.iadd, 1) := by decide +kernel
theorem dX7_goOn_84 : decode cX7_goOn 84 = .ok (.iconst 1, 1) := by decide +kernel
theorem dX7_goOn_85 : decode cX7_goOn 85 = .ok (.isub, 1) := by decide +kernel
theorem dX7_goOn_86 : decode cX7_goOn 86 = .ok (.iload 8, 2) := by decide +kernel
theorem dX7_goOn_88 : decode cX7_goOn 88 = .ok (.idiv, 1) := by decide +kernel
theorem dX7_goOn_89 : decode cX7_goOn 89 = .ok (.istore 10, 2) := by decide +kernel
theorem dX7_goOn_91 : decode cX7_goOn 91 = .ok (.iload 10, 2) := by decide +kernel
theorem dX7_goOn_93 : decode cX7_goOn 93 = .ok (.ifCond .le 20, 3) := by decide +kernel
theorem dX7_goOn_96 : decode cX7_goOn 96 = .ok (.iload 5, 2) := by decide +kernel
theorem dX7_goOn_98 : decode cX7_goOn 98 = .ok (.ifCond .eq 10, 3) := by decide +kernel
theorem dX7_goOn_101 : decode cX7_goOn 101 = .ok (.iload 10, 2) := by decide +kernel
theorem dX7_goOn_103 : decode cX7_goOn 103 = .ok (.iload 5, 2) := by decide +kernel
theorem dX7_goOn_105 : decode cX7_goOn 105 = .ok (.if_icmp .ge 8, 3) := by decide +kernel
theorem dX7_goOn_108 : decode cX7_goOn 108 = .ok (.iload 10, 2) := by decide +kernel
theorem dX7_goOn_110 : decode cX7_goOn 110 = .ok (.goto 5, 3) := by decide +kernel
theorem dX7_goOn_113 : decode cX7_goOn 113 = .ok (.iload 5, 2) := by decide +kernel
theorem dX7_goOn_115 : decode cX7_goOn 115 = .ok (.istore 5, 2) := by decide +kernel
theorem dX7_goOn_117 : decode cX7_goOn 117 = .ok (.iinc 7 1, 3) := by decide +kernel
theorem dX7_goOn_120 : decode cX7_goOn 120 = .ok (.goto (-111), 3) := by decide +kernel
theorem dX7_goOn_123 : decode cX7_goOn 123 = .ok (.iload 5, 2) := by decide +kernel
theorem dX7_goOn_125 : decode cX7_goOn 125 = .ok (.ifCond .ne 4, 3) := by decide +kernel
theorem dX7_goOn_128 : decode cX7_goOn 128 = .ok (.return_, 1) := by decide +kernel
theorem dX7_goOn_129 : decode cX7_goOn 129 = .ok (.bipush 8, 2) := by decide +kernel
theorem dX7_goOn_131 : decode cX7_goOn 131 = .ok (.aload_n 0, 1) := by decide +kernel
theorem dX7_goOn_132 : decode cX7_goOn 132 = .ok (.getfield 215, 3) := by decide +kernel
theorem dX7_goOn_135 : decode cX7_goOn 135 = .ok (.imul, 1) := by decide +kernel
theorem dX7_goOn_136 : decode cX7_goOn 136 = .ok (.istore 7, 2) := by decide +kernel
theorem dX7_goOn_138 : decode cX7_goOn 138 = .ok (.aload_n 0, 1) := by decide +kernel
theorem dX7_goOn_139 : decode cX7_goOn 139 = .ok (.getfield 50, 3) := by decide +kernel
theorem dX7_goOn_142 : decode cX7_goOn 142 = .ok (.iload 7, 2) := by decide +kernel
theorem dX7_goOn_144 : decode cX7_goOn 144 = .ok (.aload_n 0, 1) := by decide +kernel
theorem dX7_goOn_145 : decode cX7_goOn 145 = .ok (.getfield 47, 3) := by decide +kernel
theorem dX7_goOn_148 : decode cX7_goOn 148 = .ok (.iload_n 1, 1) := by decide +kernel
theorem dX7_goOn_149 : decode cX7_goOn 149 = .ok (.iaload, 1) := by decide +kernel
theorem dX7_goOn_150 : decode cX7_goOn 150 = .ok (.iload 5, 2) := by decide +kernel
theorem dX7_goOn_152 : decode cX7_goOn 152 = .ok (.iadd, 1) := by decide +kernel
theorem dX7_goOn_153 : decode cX7_goOn 153 = .ok (.iastore, 1) := by decide +kernel
theorem dX7_goOn_154 : decode cX7_goOn 154 = .ok (.aload_n 0, 1) := by decide +kernel
theorem dX7_goOn_155 : decode cX7_goOn 155 = .ok (.getfield 50, 3) := by decide +kernel
theorem dX7_goOn_158 : decode cX7_goOn 158 = .ok (.iload 7, 2) := by decide +kernel
theorem dX7_goOn_160 : decode cX7_goOn 160 = .ok (.bipush 7, 2) := by decide +kernel
theorem dX7_goOn_162 : decode cX7_goOn 162 = .ok (.iadd, 1) := by decide +kernel
theorem dX7_goOn_163 : decode cX7_goOn 163 = .ok (.aload_n 0, 1) := by decide +kernel
theorem dX7_goOn_164 : decode cX7_goOn 164 = .ok (.getfield 47, 3) := by decide +kernel
theorem dX7_goOn_167 : decode cX7_goOn 167 = .ok (.iload_n 1, 1) := by decide +kernel
theorem dX7_goOn_168 : decode cX7_goOn 168 = .ok (.bipush 7, 2) := by decide +kernel
theorem dX7_goOn_170 : decode cX7_goOn 170 = .ok (.iadd, 1) := by decide +kernel
theorem dX7_goOn_171 : decode cX7_goOn 171 = .ok (.iaload, 1) := by decide +kernel
theorem dX7_goOn_172 : decode cX7_goOn 172 = .ok (.iload 6, 2) := by decide +kernel
theorem dX7_goOn_174 : decode cX7_goOn 174 = .ok (.iadd, 1) := by decide +kernel
theorem dX7_goOn_175 : decode cX7_goOn 175 = .ok (.iastore, 1) := by decide +kernel
theorem dX7_goOn_176 : decode cX7_goOn 176 = .ok (.iconst 0, 1) := by decide +kernel
theorem dX7_goOn_177 : decode cX7_goOn 177 = .ok (.istore 8, 2) := by decide +kernel
theorem dX7_goOn_179 : decode cX7_goOn 179 = .ok (.iload 8, 2) := by decide +kernel
theorem dX7_goOn_181 : decode cX7_goOn 181 = .ok (.iconst 3, 1) := by decide +kernel
theorem dX7_goOn_182 : decode cX7_goOn 182 = .ok (.if_icmp .ge 97, 3) := by decide +kernel
theorem dX7_goOn_185 : decode cX7_goOn 185 = .ok (.iload 8, 2) := by decide +kernel
theorem dX7_goOn_187 : decode cX7_goOn 187 = .ok (.ifCond .ne 7, 3) := by decide +kernel
theorem dX7_goOn_190 : decode cX7_goOn 190 = .ok (.iload_n 2, 1) := by decide +kernel
theorem dX7_goOn_191 : decode cX7_goOn 191 = .ok (.goto 15, 3) := by decide +kernel
theorem dX7_goOn_194 : decode cX7_goOn 194 = .ok (.iload 8, 2) := by decide +kernel
theorem dX7_goOn_196 : decode cX7_goOn 196 = .ok (.iconst 1, 1) := by decide +kernel
theorem dX7_goOn_197 : decode cX7_goOn 197 = .ok (.if_icmp .ne 7, 3) := by decide +kernel
theorem dX7_goOn_200 : decode cX7_goOn 200 = .ok (.iload_n 3, 1) := by decide +kernel
theorem dX7_goOn_201 : decode cX7_goOn 201 = .ok (.goto 5, 3) := by decide +kernel
theorem dX7_goOn_204 : decode cX7_goOn 204 = .ok (.iload 4, 2) := by decide +kernel
theorem dX7_goOn_206 : decode cX7_goOn 206 = .ok (.istore 9, 2) := by decide +kernel
theorem dX7_goOn_208 : decode cX7_goOn 208 = .ok (.aload_n 0, 1) := by decide +kernel
theorem dX7_goOn_209 : decode cX7_goOn 209 = .ok (.getfield 47, 3) := by decide +kernel
theorem dX7_goOn_212 : decode cX7_goOn 212 = .ok (.iload_n 1, 1) := by decide +kernel
theorem dX7_goOn_213 : decode cX7_goOn 213 = .ok (.iconst 1, 1) := by decide +kernel
theorem dX7_goOn_214 : decode cX7_goOn 214 = .ok (.iadd, 1) := by decide +kernel
theorem dX7_goOn_215 : decode cX7_goOn 215 = .ok (.iload 8, 2) := by decide +kernel
theorem dX7_goOn_217 : decode cX7_goOn 217 = .ok (.iadd, 1) := by decide +kernel
theorem dX7_goOn_218 : decode cX7_goOn 218 = .ok (.iaload, 1) := by decide +kernel
theorem dX7_goOn_219 : decode cX7_goOn 219 = .ok (.iload 5, 2) := by decide +kernel
theorem dX7_goOn_221 : decode cX7_goOn 221 = .ok (.iload 9, 2) := by decide +kernel
theorem dX7_goOn_223 : decode cX7_goOn 223 = .ok (.imul, 1) := by decide +kernel
theorem dX7_goOn_224 : decode cX7_goOn 224 = .ok (.isub, 1) := by decide +kernel
theorem dX7_goOn_225 : decode cX7_goOn 225 = .ok (.istore 10, 2) := by decide +kernel
theorem dX7_goOn_227 : decode cX7_goOn 227 = .ok (.aload_n 0, 1) := by decide +kernel
theorem dX7_goOn_228 : decode cX7_goOn 228 = .ok (.getfield 50, 3) := by decide +kernel
theorem dX7_goOn_231 : decode cX7_goOn 231 = .ok (.iload 7, 2) := by decide +kernel
theorem dX7_goOn_233 : decode cX7_goOn 233 = .ok (.iconst 1, 1) := by decide +kernel
theorem dX7_goOn_234 : decode cX7_goOn 234 = .ok (.iadd, 1) := by decide +kernel
theorem dX7_goOn_235 : decode cX7_goOn 235 = .ok (.iload 8, 2) := by decide +kernel
theorem dX7_goOn_237 : decode cX7_goOn 237 = .ok (.iadd, 1) := by decide +kernel
theorem dX7_goOn_238 : decode cX7_goOn 238 = .ok (.iload 10, 2) := by decide +kernel
theorem dX7_goOn_240 : decode cX7_goOn 240 = .ok (.ifCond .le 8, 3) := by decide +kernel
theorem dX7_goOn_243 : decode cX7_goOn 243 = .ok (.iload 10, 2) := by decide +kernel
theorem dX7_goOn_245 : decode cX7_goOn 245 = .ok (.goto 4, 3) := by decide +kernel
theorem dX7_goOn_248 : decode cX7_goOn 248 = .ok (.iconst 0, 1) := by decide +kernel
theorem dX7_goOn_249 : decode cX7_goOn 249 = .ok (.iastore, 1) := by decide +kernel
theorem dX7_goOn_250 : decode cX7_goOn 250 = .ok (.aload_n 0, 1) := by decide +kernel
theorem dX7_goOn_251 : decode cX7_goOn 251 = .ok (.getfield 50, 3) := by decide +kernel
theorem dX7_goOn_254 : decode cX7_goOn 254 = .ok (.iload 7, 2) := by decide +kernel
theorem dX7_goOn_256 : decode cX7_goOn 256 = .ok (.iconst 4, 1) := by decide +kernel
theorem dX7_goOn_257 : decode cX7_goOn 257 = .ok (.iadd, 1) := by decide +kernel
theorem dX7_goOn_258 : decode cX7_goOn 258 = .ok (.iload 8, 2) := by decide +kernel
theorem dX7_goOn_260 : decode cX7_goOn 260 = .ok (.iadd, 1) := by decide +kernel
theorem dX7_goOn_261 : decode cX7_goOn 261 = .ok (.iload 10, 2) := by decide +kernel
theorem dX7_goOn_263 : decode cX7_goOn 263 = .ok (.ifCond .le 8, 3) := by decide +kernel
theorem dX7_goOn_266 : decode cX7_goOn 266 = .ok (.iload 9, 2) := by decide +kernel
theorem dX7_goOn_268 : decode cX7_goOn 268 = .ok (.goto 4, 3) := by decide +kernel
theorem dX7_goOn_271 : decode cX7_goOn 271 = .ok (.iconst 0, 1) := by decide +kernel
theorem dX7_goOn_272 : decode cX7_goOn 272 = .ok (.iastore, 1) := by decide +kernel
theorem dX7_goOn_273 : decode cX7_goOn 273 = .ok (.iinc 8 1, 3) := by decide +kernel
theorem dX7_goOn_276 : decode cX7_goOn 276 = .ok (.goto (-97), 3) := by decide +kernel
theorem dX7_goOn_279 : decode cX7_goOn 279 = .ok (.aload_n 0, 1) := by decide +kernel
theorem dX7_goOn_280 : decode cX7_goOn 280 = .ok (.dup, 1) := by decide +kernel
theorem dX7_goOn_281 : decode cX7_goOn 281 = .ok (.getfield 215, 3) := by decide +kernel
theorem dX7_goOn_284 : decode cX7_goOn 284 = .ok (.iconst 1, 1) := by decide +kernel
theorem dX7_goOn_285 : decode cX7_goOn 285 = .ok (.iadd, 1) := by decide +kernel
theorem dX7_goOn_286 : decode cX7_goOn 286 = .ok (.putfield 215, 3) := by decide +kernel
theorem dX7_goOn_289 : decode cX7_goOn 289 = .ok (.aload_n 0, 1) := by decide +kernel
theorem dX7_goOn_290 : decode cX7_goOn 290 = .ok (.getfield 50, 3) := by decide +kernel
theorem dX7_goOn_293 : decode cX7_goOn 293 = .ok (.iload 7, 2) := by decide +kernel
theorem dX7_goOn_295 : decode cX7_goOn 295 = .ok (.iaload, 1) := by decide +kernel
theorem dX7_goOn_296 : decode cX7_goOn 296 = .ok (.istore 8, 2) := by decide +kernel
theorem dX7_goOn_298 : decode cX7_goOn 298 = .ok (.aload_n 0, 1) := by decide +kernel
theorem dX7_goOn_299 : decode cX7_goOn 299 = .ok (.getfield 44, 3) := by decide +kernel
theorem dX7_goOn_302 : decode cX7_goOn 302 = .ok (.iload 8, 2) := by decide +kernel
theorem dX7_goOn_304 : decode cX7_goOn 304 = .ok (.aload_n 0, 1) := by decide +kernel
theorem dX7_goOn_305 : decode cX7_goOn 305 = .ok (.getfield 44, 3) := by decide +kernel
theorem dX7_goOn_308 : decode cX7_goOn 308 = .ok (.iload 8, 2) := by decide +kernel
theorem dX7_goOn_310 : decode cX7_goOn 310 = .ok (.iaload, 1) := by decide +kernel
theorem dX7_goOn_311 : decode cX7_goOn 311 = .ok (.ifCond .eq 23, 3) := by decide +kernel
theorem dX7_goOn_314 : decode cX7_goOn 314 = .ok (.aload_n 0, 1) := by decide +kernel
theorem dX7_goOn_315 : decode cX7_goOn 315 = .ok (.getfield 50, 3) := by decide +kernel
theorem dX7_goOn_318 : decode cX7_goOn 318 = .ok (.iload 7, 2) := by decide +kernel
theorem dX7_goOn_320 : decode cX7_goOn 320 = .ok (.bipush 7, 2) := by decide +kernel
theorem dX7_goOn_322 : decode cX7_goOn 322 = .ok (.iadd, 1) := by decide +kernel
theorem dX7_goOn_323 : decode cX7_goOn 323 = .ok (.iaload, 1) := by decide +kernel
theorem dX7_goOn_324 : decode cX7_goOn 324 = .ok (.aload_n 0, 1) := by decide +kernel
theorem dX7_goOn_325 : decode cX7_goOn 325 = .ok (.getfield 44, 3) := by decide +kernel
theorem dX7_goOn_328 : decode cX7_goOn 328 = .ok (.iload 8, 2) := by decide +kernel
theorem dX7_goOn_330 : decode cX7_goOn 330 = .ok (.iaload, 1) := by decide +kernel
theorem dX7_goOn_331 : decode cX7_goOn 331 = .ok (.if_icmp .ge 16, 3) := by decide +kernel
theorem dX7_goOn_334 : decode cX7_goOn 334 = .ok (.aload_n 0, 1) := by decide +kernel
theorem dX7_goOn_335 : decode cX7_goOn 335 = .ok (.getfield 50, 3) := by decide +kernel
theorem dX7_goOn_338 : decode cX7_goOn 338 = .ok (.iload 7, 2) := by decide +kernel
theorem dX7_goOn_340 : decode cX7_goOn 340 = .ok (.bipush 7, 2) := by decide +kernel
theorem dX7_goOn_342 : decode cX7_goOn 342 = .ok (.iadd, 1) := by decide +kernel
theorem dX7_goOn_343 : decode cX7_goOn 343 = .ok (.iaload, 1) := by decide +kernel
theorem dX7_goOn_344 : decode cX7_goOn 344 = .ok (.goto 10, 3) := by decide +kernel
theorem dX7_goOn_347 : decode cX7_goOn 347 = .ok (.aload_n 0, 1) := by decide +kernel
theorem dX7_goOn_348 : decode cX7_goOn 348 = .ok (.getfield 44, 3) := by decide +kernel
theorem dX7_goOn_351 : decode cX7_goOn 351 = .ok (.iload 8, 2) := by decide +kernel
theorem dX7_goOn_353 : decode cX7_goOn 353 = .ok (.iaload, 1) := by decide +kernel
theorem dX7_goOn_354 : decode cX7_goOn 354 = .ok (.iastore, 1) := by decide +kernel
theorem dX7_goOn_355 : decode cX7_goOn 355 = .ok (.return_, 1) := by decide +kernel
set_option maxRecDepth 20000 in
theorem ggX7_choose_X7_goOn : GoodIn wsX7_choose wsX7_goOn := goodIn_r _ [6, 1, 7, 8, 9, 10, 11, 12, 13, 14, 15, 16, 17, 18, 19, 20, 21, 22, 23, 24, 25, 26, 27, 28, 29, 30, 31] (by decide +kernel) (by decide +kernel)
set_option maxRecDepth 20000 in
theorem gX7_choose_X7_goOn : GoodIn wsX7_choose (wsV RX7 218 RX7 yX7_goOn wsX7_goOn) := goodIn_app (goodIn_of _ (by decide +kernel)) ggX7_choose_X7_goOn
theorem dX7_choose_0 : decode cX7_choose 0 = .ok (.aload_n 0, 1) := by decide +kernel
theorem dX7_choose_1 : decode cX7_choose 1 = .ok (.getfield 47, 3) := by decide +kernel
theorem dX7_choose_4 : decode cX7_choose 4 = .ok (.iload_n 1, 1) := by decide +kernel
theorem dX7_choose_5 : decode cX7_choose 5 = .ok (.iconst 4, 1) := by decide +kernel
theorem dX7_choose_6 : decode cX7_choose 6 = .ok (.iadd, 1) := by decide +kernel
theorem dX7_choose_7 : decode cX7_choose 7 = .ok (.iaload, 1) := by decide +kernel
theorem dX7_choose_8 : decode cX7_choose 8 = .ok (.istore_n 2, 1) := by decide +kernel
theorem dX7_choose_9 : decode cX7_choose 9 = .ok (.iload_n 2, 1) := by decide +kernel
theorem dX7_choose_10 : decode cX7_choose 10 = .ok (.aload_n 0, 1) := by decide +kernel
theorem dX7_choose_11 : decode cX7_choose 11 = .ok (.getfield 47, 3) := by decide +kernel
theorem dX7_choose_14 : decode cX7_choose 14 = .ok (.iload_n 1, 1) := by decide +kernel
theorem dX7_choose_15 : decode cX7_choose 15 = .ok (.iconst 1, 1) := by decide +kernel
theorem dX7_choose_16 : decode cX7_choose 16 = .ok (.iadd, 1) := by decide +kernel
theorem dX7_choose_17 : decode cX7_choose 17 = .ok (.iaload, 1) := by decide +kernel
theorem dX7_choose_18 : decode cX7_choose 18 = .ok (.ifCond .le 7, 3) := by decide +kernel
theorem dX7_choose_21 : decode cX7_choose 21 = .ok (.iconst 2, 1) := by decide +kernel
theorem dX7_choose_22 : decode cX7_choose 22 = .ok (.goto 4, 3) := by decide +kernel
theorem dX7_choose_25 : decode cX7_choose 25 = .ok (.iconst 0, 1) := by decide +kernel
theorem dX7_choose_26 : decode cX7_choose 26 = .ok (.if_icmp .gt 91, 3) := by decide +kernel
theorem dX7_choose_29 : decode cX7_choose 29 = .ok (.aload_n 0, 1) := by decide +kernel
theorem dX7_choose_30 : decode cX7_choose 30 = .ok (.getfield 47, 3) := by decide +kernel
theorem dX7_choose_33 : decode cX7_choose 33 = .ok (.iload_n 1, 1) := by decide +kernel
theorem dX7_choose_34 : decode cX7_choose 34 = .ok (.iconst 5, 1) := by decide +kernel
theorem dX7_choose_35 : decode cX7_choose 35 = .ok (.iadd, 1) := by decide +kernel
theorem dX7_choose_36 : decode cX7_choose 36 = .ok (.iaload, 1) := by decide +kernel
theorem dX7_choose_37 : decode cX7_choose 37 = .ok (.istore_n 3, 1) := by decide +kernel
theorem dX7_choose_38 : decode cX7_choose 38 = .ok (.iload_n 3, 1) := by decide +kernel
theorem dX7_choose_39 : decode cX7_choose 39 = .ok (.aload_n 0, 1) := by decide +kernel
theorem dX7_choose_40 : decode cX7_choose 40 = .ok (.getfield 47, 3) := by decide +kernel
theorem dX7_choose_43 : decode cX7_choose 43 = .ok (.iload_n 1, 1) := by decide +kernel
theorem dX7_choose_44 : decode cX7_choose 44 = .ok (.iconst 2, 1) := by decide +kernel
theorem dX7_choose_45 : decode cX7_choose 45 = .ok (.iadd, 1) := by decide +kernel
theorem dX7_choose_46 : decode cX7_choose 46 = .ok (.iaload, 1) := by decide +kernel
theorem dX7_choose_47 : decode cX7_choose 47 = .ok (.ifCond .le 7, 3) := by decide +kernel
theorem dX7_choose_50 : decode cX7_choose 50 = .ok (.iconst 2, 1) := by decide +kernel
theorem dX7_choose_51 : decode cX7_choose 51 = .ok (.goto 4, 3) := by decide +kernel
theorem dX7_choose_54 : decode cX7_choose 54 = .ok (.iconst 0, 1) := by decide +kernel
theorem dX7_choose_55 : decode cX7_choose 55 = .ok (.if_icmp .gt 56, 3) := by decide +kernel
theorem dX7_choose_58 : decode cX7_choose 58 = .ok (.aload_n 0, 1) := by decide +kernel
theorem dX7_choose_59 : decode cX7_choose 59 = .ok (.getfield 47, 3) := by decide +kernel
theorem dX7_choose_62 : decode cX7_choose 62 = .ok (.iload_n 1, 1) := by decide +kernel
theorem dX7_choose_63 : decode cX7_choose 63 = .ok (.bipush 6, 2) := by decide +kernel
theorem dX7_choose_65 : decode cX7_choose 65 = .ok (.iadd, 1) := by decide +kernel
theorem dX7_choose_66 : decode cX7_choose 66 = .ok (.iaload, 1) := by decide +kernel
theorem dX7_choose_67 : decode cX7_choose 67 = .ok (.istore 4, 2) := by decide +kernel
theorem dX7_choose_69 : decode cX7_choose 69 = .ok (.iload 4, 2) := by decide +kernel
theorem dX7_choose_71 : decode cX7_choose 71 = .ok (.aload_n 0, 1) := by decide +kernel
theorem dX7_choose_72 : decode cX7_choose 72 = .ok (.getfield 47, 3) := by decide +kernel
theorem dX7_choose_75 : decode cX7_choose 75 = .ok (.iload_n 1, 1) := by decide +kernel
theorem dX7_choose_76 : decode cX7_choose 76 = .ok (.iconst 3, 1) := by decide +kernel
