theorem dX0_init_0 : decode cX0_init 0 = .ok (.aload_n 0, 1) := by decide +kernel
theorem dX0_init_1 : decode cX0_init 1 = .ok (.invokespecial 3, 3) := by decide +kernel
theorem dX0_init_4 : decode cX0_init 4 = .ok (.aload_n 0, 1) := by decide +kernel
theorem dX0_init_5 : decode cX0_init 5 = .ok (.bipush 8, 2) := by decide +kernel
theorem dX0_init_7 : decode cX0_init 7 = .ok (.newarray .int, 2) := by decide +kernel
theorem dX0_init_9 : decode cX0_init 9 = .ok (.putfield 9, 3) := by decide +kernel
theorem dX0_init_12 : decode cX0_init 12 = .ok (.aload_n 0, 1) := by decide +kernel
theorem dX0_init_13 : decode cX0_init 13 = .ok (.bipush 8, 2) := by decide +kernel
theorem dX0_init_15 : decode cX0_init 15 = .ok (.newarray .int, 2) := by decide +kernel
theorem dX0_init_17 : decode cX0_init 17 = .ok (.putfield 15, 3) := by decide +kernel
theorem dX0_init_20 : decode cX0_init 20 = .ok (.aload_n 0, 1) := by decide +kernel
theorem dX0_init_21 : decode cX0_init 21 = .ok (.bipush 8, 2) := by decide +kernel
theorem dX0_init_23 : decode cX0_init 23 = .ok (.newarray .int, 2) := by decide +kernel
theorem dX0_init_25 : decode cX0_init 25 = .ok (.putfield 18, 3) := by decide +kernel
theorem dX0_init_28 : decode cX0_init 28 = .ok (.return_, 1) := by decide +kernel
theorem dX0_copyFrom_0 : decode cX0_copyFrom 0 = .ok (.iconst 0, 1) := by decide +kernel
theorem dX0_copyFrom_1 : decode cX0_copyFrom 1 = .ok (.istore_n 2, 1) := by decide +kernel
theorem dX0_copyFrom_2 : decode cX0_copyFrom 2 = .ok (.iload_n 2, 1) := by decide +kernel
theorem dX0_copyFrom_3 : decode cX0_copyFrom 3 = .ok (.bipush 8, 2) := by decide +kernel
theorem dX0_copyFrom_5 : decode cX0_copyFrom 5 = .ok (.if_icmp .ge 45, 3) := by decide +kernel
theorem dX0_copyFrom_8 : decode cX0_copyFrom 8 = .ok (.aload_n 0, 1) := by decide +kernel
theorem dX0_copyFrom_9 : decode cX0_copyFrom 9 = .ok (.getfield 9, 3) := by decide +kernel
theorem dX0_copyFrom_12 : decode cX0_copyFrom 12 = .ok (.iload_n 2, 1) := by decide +kernel
theorem dX0_copyFrom_13 : decode cX0_copyFrom 13 = .ok (.aload_n 1, 1) := by decide +kernel
theorem dX0_copyFrom_14 : decode cX0_copyFrom 14 = .ok (.getfield 9, 3) := by decide +kernel
theorem dX0_copyFrom_17 : decode cX0_copyFrom 17 = .ok (.iload_n 2, 1) := by decide +kernel
theorem dX0_copyFrom_18 : decode cX0_copyFrom 18 = .ok (.iaload, 1) := by decide +kernel
theorem dX0_copyFrom_19 : decode cX0_copyFrom 19 = .ok (.iastore, 1) := by decide +kernel
theorem dX0_copyFrom_20 : decode cX0_copyFrom 20 = .ok (.aload_n 0, 1) := by decide +kernel
theorem dX0_copyFrom_21 : decode cX0_copyFrom 21 = .ok (.getfield 15, 3) := by decide +kernel
theorem dX0_copyFrom_24 : decode cX0_copyFrom 24 = .ok (.iload_n 2, 1) := by decide +kernel
theorem dX0_copyFrom_25 : decode cX0_copyFrom 25 = .ok (.aload_n 1, 1) := by decide +kernel
theorem dX0_copyFrom_26 : decode cX0_copyFrom 26 = .ok (.getfield 15, 3) := by decide +kernel
theorem dX0_copyFrom_29 : decode cX0_copyFrom 29 = .ok (.iload_n 2, 1) := by decide +kernel
theorem dX0_copyFrom_30 : decode cX0_copyFrom 30 = .ok (.iaload, 1) := by decide +kernel
theorem dX0_copyFrom_31 : decode cX0_copyFrom 31 = .ok (.iastore, 1) := by decide +kernel
theorem dX0_copyFrom_32 : decode cX0_copyFrom 32 = .ok (.aload_n 0, 1) := by decide +kernel
theorem dX0_copyFrom_33 : decode cX0_copyFrom 33 = .ok (.getfield 18, 3) := by decide +kernel
theorem dX0_copyFrom_36 : decode cX0_copyFrom 36 = .ok (.iload_n 2, 1) := by decide +kernel
theorem dX0_copyFrom_37 : decode cX0_copyFrom 37 = .ok (.aload_n 1, 1) := by decide +kernel
theorem dX0_copyFrom_38 : decode cX0_copyFrom 38 = .ok (.getfield 18, 3) := by decide +kernel
theorem dX0_copyFrom_41 : decode cX0_copyFrom 41 = .ok (.iload_n 2, 1) := by decide +kernel
theorem dX0_copyFrom_42 : decode cX0_copyFrom 42 = .ok (.iaload, 1) := by decide +kernel
theorem dX0_copyFrom_43 : decode cX0_copyFrom 43 = .ok (.iastore, 1) := by decide +kernel
theorem dX0_copyFrom_44 : decode cX0_copyFrom 44 = .ok (.iinc 2 1, 3) := by decide +kernel
theorem dX0_copyFrom_47 : decode cX0_copyFrom 47 = .ok (.goto (-45), 3) := by decide +kernel
theorem dX0_copyFrom_50 : decode cX0_copyFrom 50 = .ok (.aload_n 0, 1) := by decide +kernel
theorem dX0_copyFrom_51 : decode cX0_copyFrom 51 = .ok (.aload_n 1, 1) := by decide +kernel
theorem dX0_copyFrom_52 : decode cX0_copyFrom 52 = .ok (.getfield 21, 3) := by decide +kernel
theorem dX0_copyFrom_55 : decode cX0_copyFrom 55 = .ok (.putfield 21, 3) := by decide +kernel
theorem dX0_copyFrom_58 : decode cX0_copyFrom 58 = .ok (.aload_n 0, 1) := by decide +kernel
theorem dX0_copyFrom_59 : decode cX0_copyFrom 59 = .ok (.aload_n 1, 1) := by decide +kernel
theorem dX0_copyFrom_60 : decode cX0_copyFrom 60 = .ok (.getfield 25, 3) := by decide +kernel
theorem dX0_copyFrom_63 : decode cX0_copyFrom 63 = .ok (.putfield 25, 3) := by decide +kernel
theorem dX0_copyFrom_66 : decode cX0_copyFrom 66 = .ok (.return_, 1) := by decide +kernel
theorem dX0_write_0 : decode cX0_write 0 = .ok (.aload_n 0, 1) := by decide +kernel
theorem dX0_write_1 : decode cX0_write 1 = .ok (.getfield 9, 3) := by decide +kernel
theorem dX0_write_4 : decode cX0_write 4 = .ok (.aload_n 0, 1) := by decide +kernel
theorem dX0_write_5 : decode cX0_write 5 = .ok (.getfield 21, 3) := by decide +kernel
theorem dX0_write_8 : decode cX0_write 8 = .ok (.iload_n 1, 1) := by decide +kernel
theorem dX0_write_9 : decode cX0_write 9 = .ok (.iastore, 1) := by decide +kernel
theorem dX0_write_10 : decode cX0_write 10 = .ok (.aload_n 0, 1) := by decide +kernel
theorem dX0_write_11 : decode cX0_write 11 = .ok (.getfield 15, 3) := by decide +kernel
theorem dX0_write_14 : decode cX0_write 14 = .ok (.aload_n 0, 1) := by decide +kernel
theorem dX0_write_15 : decode cX0_write 15 = .ok (.getfield 21, 3) := by decide +kernel
theorem dX0_write_18 : decode cX0_write 18 = .ok (.iload_n 2, 1) := by decide +kernel
theorem dX0_write_19 : decode cX0_write 19 = .ok (.iastore, 1) := by decide +kernel
theorem dX0_write_20 : decode cX0_write 20 = .ok (.aload_n 0, 1) := by decide +kernel
theorem dX0_write_21 : decode cX0_write 21 = .ok (.getfield 18, 3) := by decide +kernel
theorem dX0_write_24 : decode cX0_write 24 = .ok (.aload_n 0, 1) := by decide +kernel
theorem dX0_write_25 : decode cX0_write 25 = .ok (.getfield 21, 3) := by decide +kernel
theorem dX0_write_28 : decode cX0_write 28 = .ok (.iload_n 3, 1) := by decide +kernel
theorem dX0_write_29 : decode cX0_write 29 = .ok (.iastore, 1) := by decide +kernel
theorem dX0_write_30 : decode cX0_write 30 = .ok (.aload_n 0, 1) := by decide +kernel
theorem dX0_write_31 : decode cX0_write 31 = .ok (.aload_n 0, 1) := by decide +kernel
theorem dX0_write_32 : decode cX0_write 32 = .ok (.getfield 21, 3) := by decide +kernel
theorem dX0_write_35 : decode cX0_write 35 = .ok (.iconst 1, 1) := by decide +kernel
theorem dX0_write_36 : decode cX0_write 36 = .ok (.iadd, 1) := by decide +kernel
theorem dX0_write_37 : decode cX0_write 37 = .ok (.bipush 8, 2) := by decide +kernel
theorem dX0_write_39 : decode cX0_write 39 = .ok (.irem, 1) := by decide +kernel
theorem dX0_write_40 : decode cX0_write 40 = .ok (.putfield 21, 3) := by decide +kernel
theorem dX0_write_43 : decode cX0_write 43 = .ok (.aload_n 0, 1) := by decide +kernel
theorem dX0_write_44 : decode cX0_write 44 = .ok (.getfield 25, 3) := by decide +kernel
theorem dX0_write_47 : decode cX0_write 47 = .ok (.bipush 8, 2) := by decide +kernel
theorem dX0_write_49 : decode cX0_write 49 = .ok (.if_icmp .ge 13, 3) := by decide +kernel
theorem dX0_write_52 : decode cX0_write 52 = .ok (.aload_n 0, 1) := by decide +kernel
theorem dX0_write_53 : decode cX0_write 53 = .ok (.dup, 1) := by decide +kernel
theorem dX0_write_54 : decode cX0_write 54 = .ok (.getfield 25, 3) := by decide +kernel
theorem dX0_write_57 : decode cX0_write 57 = .ok (.iconst 1, 1) := by decide +kernel
theorem dX0_write_58 : decode cX0_write 58 = .ok (.iadd, 1) := by decide +kernel
theorem dX0_write_59 : decode cX0_write 59 = .ok (.putfield 25, 3) := by decide +kernel
theorem dX0_write_62 : decode cX0_write 62 = .ok (.return_, 1) := by decide +kernel
set_option maxRecDepth 20000 in
theorem ggX0_tell_J9_floorMod_7cf53 : GoodIn wsX0_tell wsJ9_floorMod_7cf53 := goodIn_r _ [8] (by decide +kernel) (by decide +kernel)
set_option maxRecDepth 20000 in
theorem gX0_tell_J9_floorMod_7cf53 : GoodIn wsX0_tell (va_wsS RX0 28 yJ9_floorMod_7cf53 wsJ9_floorMod_7cf53) := goodIn_app (goodIn_of _ (by decide +kernel)) ggX0_tell_J9_floorMod_7cf53
set_option maxRecDepth 20000 in
theorem ggX0_tell_X0_kindText : GoodIn wsX0_tell wsX0_kindText := goodIn_r _ [12] (by decide +kernel) (by decide +kernel)
set_option maxRecDepth 20000 in
theorem gX0_tell_X0_kindText : GoodIn wsX0_tell (va_wsS RX0 34 yX0_kindText wsX0_kindText) := goodIn_app (goodIn_of _ (by decide +kernel)) ggX0_tell_X0_kindText
set_option maxRecDepth 20000 in
theorem ggX0_tell_J4_append_15ec4 : GoodIn wsX0_tell wsJ4_append_15ec4 := goodIn_r _ [17, 18, 19, 20, 21, 22, 23, 24, 25, 26, 27, 28, 29, 30, 31, 32, 33, 34, 35, 36, 37, 38, 39, 40, 41, 42, 43, 44, 45, 46, 47, 48, 49, 50, 51, 52, 53, 54, 55, 56, 57, 58, 59, 60, 61, 62, 63, 64, 65, 66, 67, 68, 69, 70, 71, 72, 73, 74, 75, 76, 77, 78, 79, 80, 81, 82, 83, 84, 85, 86, 87, 88, 89, 90, 91, 92, 93, 94, 95, 96, 97, 98, 99, 100, 101, 102, 103, 104, 105, 106, 107, 108, 109, 110, 111, 112, 113, 114, 115, 116, 117, 118, 119, 120, 121, 122, 123, 124, 125, 126, 127, 128, 129, 130, 131, 132, 133, 134, 135, 136, 137, 138, 139, 140, 141, 142, 143, 144, 145, 146, 147, 148, 149, 150, 151, 152, 153, 154, 155, 156, 157, 158, 159, 213, 214, 215, 216] (by decide +kernel) (by decide +kernel)
set_option maxRecDepth 20000 in
theorem gX0_tell_J4_append_15ec4 : GoodIn wsX0_tell (wsV RX0 38 RJ4 yJ4_append_15ec4 wsJ4_append_15ec4) := goodIn_app (goodIn_of _ (by decide +kernel)) ggX0_tell_J4_append_15ec4
set_option maxRecDepth 20000 in
theorem ggX0_tell_J4_append_cf468 : GoodIn wsX0_tell wsJ4_append_cf468 := goodIn_r _ [163, 164, 165, 20, 166, 22, 167, 24, 30, 31, 32, 33, 34, 35, 36, 37, 38, 39, 40, 41, 42, 43, 44, 45, 46, 47, 48, 49, 50, 51, 52, 53, 54, 55, 56, 57, 58, 59, 60, 61, 62, 63, 64, 65, 66, 67, 68, 69, 70, 71, 72, 73, 74, 75, 76, 77, 78, 168, 169, 140, 170, 126, 127, 128, 129, 130, 131, 132, 81, 133, 134, 135, 136, 137, 138, 139, 141, 142, 143, 144, 145, 146, 147, 87, 88, 89, 148, 149, 92, 150, 94, 151, 152, 97, 153, 99, 100, 101, 83, 102, 103, 171, 172, 173, 174, 175, 176, 177, 178, 179, 180, 181, 182, 213, 214, 215, 216] (by decide +kernel) (by decide +kernel)
set_option maxRecDepth 20000 in
theorem gX0_tell_J4_append_cf468 : GoodIn wsX0_tell (wsV RX0 44 RJ4 yJ4_append_cf468 wsJ4_append_cf468) := goodIn_app (goodIn_of _ (by decide +kernel)) ggX0_tell_J4_append_cf468
set_option maxRecDepth 20000 in
theorem ggX0_tell_J4_append_bf812 : GoodIn wsX0_tell wsJ4_append_bf812 := goodIn_r _ [186, 187, 188, 20, 189, 22, 190, 24, 30, 191, 192, 193, 194, 31, 32, 33, 34, 35, 36, 37, 38, 39, 40, 41, 42, 43, 44, 45, 46, 47, 48, 49, 50, 51, 52, 53, 54, 55, 56, 57, 58, 59, 60, 61, 62, 63, 64, 65, 66, 67, 68, 69, 70, 71, 72, 73, 74, 75, 76, 77, 78, 195, 196, 197, 198, 199, 200, 201, 81, 202, 83, 84, 85, 86, 87, 88, 89, 90, 91, 92, 93, 94, 95, 96, 97, 98, 203, 204, 205, 206, 207, 99, 100, 101, 102, 103, 213, 214, 215, 216] (by decide +kernel) (by decide +kernel)
set_option maxRecDepth 20000 in
theorem gX0_tell_J4_append_bf812 : GoodIn wsX0_tell (wsV RX0 47 RJ4 yJ4_append_bf812 wsJ4_append_bf812) := goodIn_app (goodIn_of _ (by decide +kernel)) ggX0_tell_J4_append_bf812
theorem dX0_tell_0 : decode cX0_tell 0 = .ok (.aload_n 0, 1) := by decide +kernel
theorem dX0_tell_1 : decode cX0_tell 1 = .ok (.getfield 21, 3) := by decide +kernel
theorem dX0_tell_4 : decode cX0_tell 4 = .ok (.iconst 1, 1) := by decide +kernel
theorem dX0_tell_5 : decode cX0_tell 5 = .ok (.isub, 1) := by decide +kernel
theorem dX0_tell_6 : decode cX0_tell 6 = .ok (.iload_n 1, 1) := by decide +kernel
theorem dX0_tell_7 : decode cX0_tell 7 = .ok (.isub, 1) := by decide +kernel
theorem dX0_tell_8 : decode cX0_tell 8 = .ok (.bipush 8, 2) := by decide +kernel
theorem dX0_tell_10 : decode cX0_tell 10 = .ok (.invokestatic 28, 3) := by decide +kernel
theorem dX0_tell_13 : decode cX0_tell 13 = .ok (.istore_n 3, 1) := by decide +kernel
theorem dX0_tell_14 : decode cX0_tell 14 = .ok (.aload_n 2, 1) := by decide +kernel
theorem dX0_tell_15 : decode cX0_tell 15 = .ok (.aload_n 0, 1) := by decide +kernel
theorem dX0_tell_16 : decode cX0_tell 16 = .ok (.getfield 9, 3) := by decide +kernel
theorem dX0_tell_19 : decode cX0_tell 19 = .ok (.iload_n 3, 1) := by decide +kernel
theorem dX0_tell_20 : decode cX0_tell 20 = .ok (.iaload, 1) := by decide +kernel
theorem dX0_tell_21 : decode cX0_tell 21 = .ok (.invokestatic 34, 3) := by decide +kernel
theorem dX0_tell_24 : decode cX0_tell 24 = .ok (.invokevirtual 38, 3) := by decide +kernel
theorem dX0_tell_27 : decode cX0_tell 27 = .ok (.bipush 32, 2) := by decide +kernel
theorem dX0_tell_29 : decode cX0_tell 29 = .ok (.invokevirtual 44, 3) := by decide +kernel
theorem dX0_tell_32 : decode cX0_tell 32 = .ok (.aload_n 0, 1) := by decide +kernel
theorem dX0_tell_33 : decode cX0_tell 33 = .ok (.getfield 18, 3) := by decide +kernel
theorem dX0_tell_36 : decode cX0_tell 36 = .ok (.iload_n 3, 1) := by decide +kernel
theorem dX0_tell_37 : decode cX0_tell 37 = .ok (.iaload, 1) := by decide +kernel
theorem dX0_tell_38 : decode cX0_tell 38 = .ok (.invokevirtual 47, 3) := by decide +kernel
theorem dX0_tell_41 : decode cX0_tell 41 = .ok (.pop, 1) := by decide +kernel
theorem dX0_tell_42 : decode cX0_tell 42 = .ok (.aload_n 2, 1) := by decide +kernel
theorem dX0_tell_43 : decode cX0_tell 43 = .ok (.bipush 64, 2) := by decide +kernel
theorem dX0_tell_45 : decode cX0_tell 45 = .ok (.invokevirtual 44, 3) := by decide +kernel
theorem dX0_tell_48 : decode cX0_tell 48 = .ok (.aload_n 0, 1) := by decide +kernel
theorem dX0_tell_49 : decode cX0_tell 49 = .ok (.getfield 15, 3) := by decide +kernel
theorem dX0_tell_52 : decode cX0_tell 52 = .ok (.iload_n 3, 1) := by decide +kernel
theorem dX0_tell_53 : decode cX0_tell 53 = .ok (.iaload, 1) := by decide +kernel
theorem dX0_tell_54 : decode cX0_tell 54 = .ok (.invokevirtual 47, 3) := by decide +kernel
theorem dX0_tell_57 : decode cX0_tell 57 = .ok (.pop, 1) := by decide +kernel
theorem dX0_tell_58 : decode cX0_tell 58 = .ok (.return_, 1) := by decide +kernel
theorem dX0_kindText_0 : decode cX0_kindText 0 = .ok (.iload_n 0, 1) := by decide +kernel
theorem dX0_kindText_1 : decode cX0_kindText 1 = .ok (.lookupswitch 33 #[(0, 27), (1, 30)], 27) := by decide +kernel
theorem dX0_kindText_28 : decode cX0_kindText 28 = .ok (.ldc 50, 2) := by decide +kernel
theorem dX0_kindText_30 : decode cX0_kindText 30 = .ok (.areturn, 1) := by decide +kernel
theorem dX0_kindText_31 : decode cX0_kindText 31 = .ok (.ldc 52, 2) := by decide +kernel
theorem dX0_kindText_33 : decode cX0_kindText 33 = .ok (.areturn, 1) := by decide +kernel
theorem dX0_kindText_34 : decode cX0_kindText 34 = .ok (.ldc 54, 2) := by decide +kernel
theorem dX0_kindText_36 : decode cX0_kindText 36 = .ok (.areturn, 1) := by decide +kernel
theorem dX1_init_0 : decode cX1_init 0 = .ok (.aload_n 0, 1) := by decide +kernel
theorem dX1_init_1 : decode cX1_init 1 = .ok (.invokespecial 3, 3) := by decide +kernel
theorem dX1_init_4 : decode cX1_init 4 = .ok (.aload_n 0, 1) := by decide +kernel
theorem dX1_init_5 : decode cX1_init 5 = .ok (.bipush 6, 2) := by decide +kernel
theorem dX1_init_7 : decode cX1_init 7 = .ok (.newarray .int, 2) := by decide +kernel
theorem dX1_init_9 : decode cX1_init 9 = .ok (.putfield 9, 3) := by decide +kernel
theorem dX1_init_12 : decode cX1_init 12 = .ok (.aload_n 0, 1) := by decide +kernel
theorem dX1_init_13 : decode cX1_init 13 = .ok (.iconst (-1), 1) := by decide +kernel
theorem dX1_init_14 : decode cX1_init 14 = .ok (.putfield 15, 3) := by decide +kernel
theorem dX1_init_17 : decode cX1_init 17 = .ok (.return_, 1) := by decide +kernel
theorem dX1_copyFrom_0 : decode cX1_copyFrom 0 = .ok (.iconst 0, 1) := by decide +kernel
theorem dX1_copyFrom_1 : decode cX1_copyFrom 1 = .ok (.istore_n 2, 1) := by decide +kernel
theorem dX1_copyFrom_2 : decode cX1_copyFrom 2 = .ok (.iload_n 2, 1) := by decide +kernel
theorem dX1_copyFrom_3 : decode cX1_copyFrom 3 = .ok (.bipush 6, 2) := by decide +kernel
theorem dX1_copyFrom_5 : decode cX1_copyFrom 5 = .ok (.if_icmp .ge 21, 3) := by decide +kernel
theorem dX1_copyFrom_8 : decode cX1_copyFrom 8 = .ok (.aload_n 0, 1) := by decide +kernel
theorem dX1_copyFrom_9 : decode cX1_copyFrom 9 = .ok (.getfield 9, 3) := by decide +kernel
theorem dX1_copyFrom_12 : decode cX1_copyFrom 12 = .ok (.iload_n 2, 1) := by decide +kernel
theorem dX1_copyFrom_13 : decode cX1_copyFrom 13 = .ok (.aload_n 1, 1) := by decide +kernel
theorem dX1_copyFrom_14 : decode cX1_copyFrom 14 = .ok (.getfield 9, 3) := by decide +kernel
theorem dX1_copyFrom_17 : decode cX1_copyFrom 17 = .ok (.iload_n 2, 1) := by decide +kernel
theorem dX1_copyFrom_18 : decode cX1_copyFrom 18 = .ok (.iaload, 1) := by decide +kernel
theorem dX1_copyFrom_19 : decode cX1_copyFrom 19 = .ok (.iastore, 1) := by decide +kernel
theorem dX1_copyFrom_20 : decode cX1_copyFrom 20 = .ok (.iinc 2 1, 3) := by decide +kernel
theorem dX1_copyFrom_23 : decode cX1_copyFrom 23 = .ok (.goto (-21), 3) := by decide +kernel
theorem dX1_copyFrom_26 : decode cX1_copyFrom 26 = .ok (.aload_n 0, 1) := by decide +kernel
theorem dX1_copyFrom_27 : decode cX1_copyFrom 27 = .ok (.aload_n 1, 1) := by decide +kernel
theorem dX1_copyFrom_28 : decode cX1_copyFrom 28 = .ok (.getfield 19, 3) := by decide +kernel
theorem dX1_copyFrom_31 : decode cX1_copyFrom 31 = .ok (.putfield 19, 3) := by decide +kernel
theorem dX1_copyFrom_34 : decode cX1_copyFrom 34 = .ok (.aload_n 0, 1) := by decide +kernel
theorem dX1_copyFrom_35 : decode cX1_copyFrom 35 = .ok (.aload_n 1, 1) := by decide +kernel
theorem dX1_copyFrom_36 : decode cX1_copyFrom 36 = .ok (.getfield 22, 3) := by decide +kernel
theorem dX1_copyFrom_39 : decode cX1_copyFrom 39 = .ok (.putfield 22, 3) := by decide +kernel
theorem dX1_copyFrom_42 : decode cX1_copyFrom 42 = .ok (.aload_n 0, 1) := by decide +kernel
theorem dX1_copyFrom_43 : decode cX1_copyFrom 43 = .ok (.aload_n 1, 1) := by decide +kernel
theorem dX1_copyFrom_44 : decode cX1_copyFrom 44 = .ok (.getfield 25, 3) := by decide +kernel
theorem dX1_copyFrom_47 : decode cX1_copyFrom 47 = .ok (.putfield 25, 3) := by decide +kernel
theorem dX1_copyFrom_50 : decode cX1_copyFrom 50 = .ok (.aload_n 0, 1) := by decide +kernel
theorem dX1_copyFrom_51 : decode cX1_copyFrom 51 = .ok (.aload_n 1, 1) := by decide +kernel
theorem dX1_copyFrom_52 : decode cX1_copyFrom 52 = .ok (.getfield 28, 3) := by decide +kernel
theorem dX1_copyFrom_55 : decode cX1_copyFrom 55 = .ok (.putfield 28, 3) := by decide +kernel
theorem dX1_copyFrom_58 : decode cX1_copyFrom 58 = .ok (.aload_n 0, 1) := by decide +kernel
theorem dX1_copyFrom_59 : decode cX1_copyFrom 59 = .ok (.aload_n 1, 1) := by decide +kernel
theorem dX1_copyFrom_60 : decode cX1_copyFrom 60 = .ok (.getfield 31, 3) := by decide +kernel
theorem dX1_copyFrom_63 : decode cX1_copyFrom 63 = .ok (.putfield 31, 3) := by decide +kernel
theorem dX1_copyFrom_66 : decode cX1_copyFrom 66 = .ok (.aload_n 0, 1) := by decide +kernel
theorem dX1_copyFrom_67 : decode cX1_copyFrom 67 = .ok (.aload_n 1, 1) := by decide +kernel
theorem dX1_copyFrom_68 : decode cX1_copyFrom 68 = .ok (.getfield 35, 3) := by decide +kernel
theorem dX1_copyFrom_71 : decode cX1_copyFrom 71 = .ok (.putfield 35, 3) := by decide +kernel
theorem dX1_copyFrom_74 : decode cX1_copyFrom 74 = .ok (.aload_n 0, 1) := by decide +kernel
theorem dX1_copyFrom_75 : decode cX1_copyFrom 75 = .ok (.aload_n 1, 1) := by decide +kernel
theorem dX1_copyFrom_76 : decode cX1_copyFrom 76 = .ok (.getfield 15, 3) := by decide +kernel
theorem dX1_copyFrom_79 : decode cX1_copyFrom 79 = .ok (.putfield 15, 3) := by decide +kernel
theorem dX1_copyFrom_82 : decode cX1_copyFrom 82 = .ok (.return_, 1) := by decide +kernel
set_option maxRecDepth 20000 in
theorem ggX1_clear_X1_makeNew : GoodIn wsX1_clear wsX1_makeNew := goodIn_r _ [8, 9, 10, 11, 12, 13, 14, 15, 16, 17, 18, 19, 20] (by decide +kernel) (by decide +kernel)
set_option maxRecDepth 20000 in
theorem gX1_clear_X1_makeNew : GoodIn wsX1_clear (wsV RX1 38 RX1 yX1_makeNew wsX1_makeNew) := goodIn_app (goodIn_of _ (by decide +kernel)) ggX1_clear_X1_makeNew
theorem dX1_clear_0 : decode cX1_clear 0 = .ok (.aload_n 0, 1) := by decide +kernel
theorem dX1_clear_1 : decode cX1_clear 1 = .ok (.iconst 0, 1) := by decide +kernel
theorem dX1_clear_2 : decode cX1_clear 2 = .ok (.putfield 19, 3) := by decide +kernel
theorem dX1_clear_5 : decode cX1_clear 5 = .ok (.aload_n 0, 1) := by decide +kernel
theorem dX1_clear_6 : decode cX1_clear 6 = .ok (.iconst 0, 1) := by decide +kernel
theorem dX1_clear_7 : decode cX1_clear 7 = .ok (.putfield 22, 3) := by decide +kernel
theorem dX1_clear_10 : decode cX1_clear 10 = .ok (.aload_n 0, 1) := by decide +kernel
theorem dX1_clear_11 : decode cX1_clear 11 = .ok (.iconst (-1), 1) := by decide +kernel
theorem dX1_clear_12 : decode cX1_clear 12 = .ok (.putfield 15, 3) := by decide +kernel
theorem dX1_clear_15 : decode cX1_clear 15 = .ok (.aload_n 0, 1) := by decide +kernel
theorem dX1_clear_16 : decode cX1_clear 16 = .ok (.invokevirtual 38, 3) := by decide +kernel
theorem dX1_clear_19 : decode cX1_clear 19 = .ok (.return_, 1) := by decide +kernel
theorem dX1_makeNew_0 : decode cX1_makeNew 0 = .ok (.aload_n 0, 1) := by decide +kernel
theorem dX1_makeNew_1 : decode cX1_makeNew 1 = .ok (.iconst 0, 1) := by decide +kernel
theorem dX1_makeNew_2 : decode cX1_makeNew 2 = .ok (.putfield 25, 3) := by decide +kernel
theorem dX1_makeNew_5 : decode cX1_makeNew 5 = .ok (.aload_n 0, 1) := by decide +kernel
theorem dX1_makeNew_6 : decode cX1_makeNew 6 = .ok (.iconst 0, 1) := by decide +kernel
theorem dX1_makeNew_7 : decode cX1_makeNew 7 = .ok (.putfield 28, 3) := by decide +kernel
theorem dX1_makeNew_10 : decode cX1_makeNew 10 = .ok (.aload_n 0, 1) := by decide +kernel
theorem dX1_makeNew_11 : decode cX1_makeNew 11 = .ok (.iconst 0, 1) := by decide +kernel
theorem dX1_makeNew_12 : decode cX1_makeNew 12 = .ok (.putfield 31, 3) := by decide +kernel
theorem dX1_makeNew_15 : decode cX1_makeNew 15 = .ok (.aload_n 0, 1) := by decide +kernel
theorem dX1_makeNew_16 : decode cX1_makeNew 16 = .ok (.iconst 0, 1) := by decide +kernel
theorem dX1_makeNew_17 : decode cX1_makeNew 17 = .ok (.putfield 35, 3) := by decide +kernel
theorem dX1_makeNew_20 : decode cX1_makeNew 20 = .ok (.return_, 1) := by decide +kernel
theorem dX1_addSegment_0 : decode cX1_addSegment 0 = .ok (.aload_n 0, 1) := by decide +kernel
theorem dX1_addSegment_1 : decode cX1_addSegment 1 = .ok (.getfield 19, 3) := by decide +kernel
theorem dX1_addSegment_4 : decode cX1_addSegment 4 = .ok (.bipush 6, 2) := by decide +kernel
theorem dX1_addSegment_6 : decode cX1_addSegment 6 = .ok (.if_icmp .ge 33, 3) := by decide +kernel
theorem dX1_addSegment_9 : decode cX1_addSegment 9 = .ok (.aload_n 0, 1) := by decide +kernel
theorem dX1_addSegment_10 : decode cX1_addSegment 10 = .ok (.getfield 9, 3) := by decide +kernel
theorem dX1_addSegment_13 : decode cX1_addSegment 13 = .ok (.aload_n 0, 1) := by decide +kernel
theorem dX1_addSegment_14 : decode cX1_addSegment 14 = .ok (.getfield 19, 3) := by decide +kernel
theorem dX1_addSegment_17 : decode cX1_addSegment 17 = .ok (.iload_n 1, 1) := by decide +kernel
theorem dX1_addSegment_18 : decode cX1_addSegment 18 = .ok (.iastore, 1) := by decide +kernel
theorem dX1_addSegment_19 : decode cX1_addSegment 19 = .ok (.aload_n 0, 1) := by decide +kernel
theorem dX1_addSegment_20 : decode cX1_addSegment 20 = .ok (.dup, 1) := by decide +kernel
theorem dX1_addSegment_21 : decode cX1_addSegment 21 = .ok (.getfield 19, 3) := by decide +kernel
theorem dX1_addSegment_24 : decode cX1_addSegment 24 = .ok (.iconst 1, 1) := by decide +kernel
theorem dX1_addSegment_25 : decode cX1_addSegment 25 = .ok (.iadd, 1) := by decide +kernel
theorem dX1_addSegment_26 : decode cX1_addSegment 26 = .ok (.putfield 19, 3) := by decide +kernel
theorem dX1_addSegment_29 : decode cX1_addSegment 29 = .ok (.aload_n 0, 1) := by decide +kernel
theorem dX1_addSegment_30 : decode cX1_addSegment 30 = .ok (.dup, 1) := by decide +kernel
theorem dX1_addSegment_31 : decode cX1_addSegment 31 = .ok (.getfield 22, 3) := by decide +kernel
theorem dX1_addSegment_34 : decode cX1_addSegment 34 = .ok (.iload_n 1, 1) := by decide +kernel
theorem dX1_addSegment_35 : decode cX1_addSegment 35 = .ok (.iadd, 1) := by decide +kernel
theorem dX1_addSegment_36 : decode cX1_addSegment 36 = .ok (.putfield 22, 3) := by decide +kernel
theorem dX1_addSegment_39 : decode cX1_addSegment 39 = .ok (.return_, 1) := by decide +kernel
theorem dX1_changeTime_0 : decode cX1_changeTime 0 = .ok (.aload_n 0, 1) := by decide +kernel
theorem dX1_changeTime_1 : decode cX1_changeTime 1 = .ok (.dup, 1) := by decide +kernel
theorem dX1_changeTime_2 : decode cX1_changeTime 2 = .ok (.getfield 22, 3) := by decide +kernel
theorem dX1_changeTime_5 : decode cX1_changeTime 5 = .ok (.iload_n 2, 1) := by decide +kernel
theorem dX1_changeTime_6 : decode cX1_changeTime 6 = .ok (.aload_n 0, 1) := by decide +kernel
theorem dX1_changeTime_7 : decode cX1_changeTime 7 = .ok (.getfield 9, 3) := by decide +kernel
theorem dX1_changeTime_10 : decode cX1_changeTime 10 = .ok (.iload_n 1, 1) := by decide +kernel
theorem dX1_changeTime_11 : decode cX1_changeTime 11 = .ok (.iaload, 1) := by decide +kernel
theorem dX1_changeTime_12 : decode cX1_changeTime 12 = .ok (.isub, 1) := by decide +kernel
theorem dX1_changeTime_13 : decode cX1_changeTime 13 = .ok (.iadd, 1) := by decide +kernel
theorem dX1_changeTime_14 : decode cX1_changeTime 14 = .ok (.putfield 22, 3) := by decide +kernel
theorem dX1_changeTime_17 : decode cX1_changeTime 17 = .ok (.aload_n 0, 1) := by decide +kernel
theorem dX1_changeTime_18 : decode cX1_changeTime 18 = .ok (.getfield 9, 3) := by decide +kernel
theorem dX1_changeTime_21 : decode cX1_changeTime 21 = .ok (.iload_n 1, 1) := by decide +kernel
theorem dX1_changeTime_22 : decode cX1_changeTime 22 = .ok (.iload_n 2, 1) := by decide +kernel
theorem dX1_changeTime_23 : decode cX1_changeTime 23 = .ok (.iastore, 1) := by decide +kernel
theorem dX1_changeTime_24 : decode cX1_changeTime 24 = .ok (.return_, 1) := by decide +kernel
theorem dX1_burnedTime_0 : decode cX1_burnedTime 0 = .ok (.aload_n 0, 1) := by decide +kernel
theorem dX1_burnedTime_1 : decode cX1_burnedTime 1 = .ok (.getfield 25, 3) := by decide +kernel
theorem dX1_burnedTime_4 : decode cX1_burnedTime 4 = .ok (.aload_n 0, 1) := by decide +kernel
theorem dX1_burnedTime_5 : decode cX1_burnedTime 5 = .ok (.getfield 28, 3) := by decide +kernel
theorem dX1_burnedTime_8 : decode cX1_burnedTime 8 = .ok (.iadd, 1) := by decide +kernel
theorem dX1_burnedTime_9 : decode cX1_burnedTime 9 = .ok (.ireturn, 1) := by decide +kernel
theorem dX1_timeLeft_0 : decode cX1_timeLeft 0 = .ok (.aload_n 0, 1) := by decide +kernel
theorem dX1_timeLeft_1 : decode cX1_timeLeft 1 = .ok (.getfield 22, 3) := by decide +kernel
theorem dX1_timeLeft_4 : decode cX1_timeLeft 4 = .ok (.aload_n 0, 1) := by decide +kernel
theorem dX1_timeLeft_5 : decode cX1_timeLeft 5 = .ok (.getfield 25, 3) := by decide +kernel
theorem dX1_timeLeft_8 : decode cX1_timeLeft 8 = .ok (.isub, 1) := by decide +kernel
theorem dX1_timeLeft_9 : decode cX1_timeLeft 9 = .ok (.aload_n 0, 1) := by decide +kernel
theorem dX1_timeLeft_10 : decode cX1_timeLeft 10 = .ok (.getfield 28, 3) := by decide +kernel
theorem dX1_timeLeft_13 : decode cX1_timeLeft 13 = .ok (.isub, 1) := by decide +kernel
theorem dX1_timeLeft_14 : decode cX1_timeLeft 14 = .ok (.ireturn, 1) := by decide +kernel
theorem dX1_isOut_0 : decode cX1_isOut 0 = .ok (.aload_n 0, 1) := by decide +kernel
theorem dX1_isOut_1 : decode cX1_isOut 1 = .ok (.getfield 25, 3) := by decide +kernel
theorem dX1_isOut_4 : decode cX1_isOut 4 = .ok (.aload_n 0, 1) := by decide +kernel
theorem dX1_isOut_5 : decode cX1_isOut 5 = .ok (.getfield 28, 3) := by decide +kernel
theorem dX1_isOut_8 : decode cX1_isOut 8 = .ok (.iadd, 1) := by decide +kernel
theorem dX1_isOut_9 : decode cX1_isOut 9 = .ok (.aload_n 0, 1) := by decide +kernel
theorem dX1_isOut_10 : decode cX1_isOut 10 = .ok (.getfield 22, 3) := by decide +kernel
theorem dX1_isOut_13 : decode cX1_isOut 13 = .ok (.if_icmp .ne 7, 3) := by decide +kernel
theorem dX1_isOut_16 : decode cX1_isOut 16 = .ok (.iconst 1, 1) := by decide +kernel
theorem dX1_isOut_17 : decode cX1_isOut 17 = .ok (.goto 4, 3) := by decide +kernel
theorem dX1_isOut_20 : decode cX1_isOut 20 = .ok (.iconst 0, 1) := by decide +kernel
theorem dX1_isOut_21 : decode cX1_isOut 21 = .ok (.ireturn, 1) := by decide +kernel
theorem dX1_flameCount_0 : decode cX1_flameCount 0 = .ok (.aload_n 0, 1) := by decide +kernel
theorem dX1_flameCount_1 : decode cX1_flameCount 1 = .ok (.getfield 31, 3) := by decide +kernel
theorem dX1_flameCount_4 : decode cX1_flameCount 4 = .ok (.ifCond .eq 7, 3) := by decide +kernel
theorem dX1_flameCount_7 : decode cX1_flameCount 7 = .ok (.iconst 1, 1) := by decide +kernel
theorem dX1_flameCount_8 : decode cX1_flameCount 8 = .ok (.goto 4, 3) := by decide +kernel
theorem dX1_flameCount_11 : decode cX1_flameCount 11 = .ok (.iconst 0, 1) := by decide +kernel
theorem dX1_flameCount_12 : decode cX1_flameCount 12 = .ok (.aload_n 0, 1) := by decide +kernel
theorem dX1_flameCount_13 : decode cX1_flameCount 13 = .ok (.getfield 35, 3) := by decide +kernel
theorem dX1_flameCount_16 : decode cX1_flameCount 16 = .ok (.ifCond .eq 7, 3) := by decide +kernel
theorem dX1_flameCount_19 : decode cX1_flameCount 19 = .ok (.iconst 1, 1) := by decide +kernel
theorem dX1_flameCount_20 : decode cX1_flameCount 20 = .ok (.goto 4, 3) := by decide +kernel
theorem dX1_flameCount_23 : decode cX1_flameCount 23 = .ok (.iconst 0, 1) := by decide +kernel
theorem dX1_flameCount_24 : decode cX1_flameCount 24 = .ok (.iadd, 1) := by decide +kernel
theorem dX1_flameCount_25 : decode cX1_flameCount 25 = .ok (.ireturn, 1) := by decide +kernel
theorem dX1_hasFlame_0 : decode cX1_hasFlame 0 = .ok (.iload_n 1, 1) := by decide +kernel
theorem dX1_hasFlame_1 : decode cX1_hasFlame 1 = .ok (.ifCond .eq 10, 3) := by decide +kernel
theorem dX1_hasFlame_4 : decode cX1_hasFlame 4 = .ok (.aload_n 0, 1) := by decide +kernel
theorem dX1_hasFlame_5 : decode cX1_hasFlame 5 = .ok (.getfield 31, 3) := by decide +kernel
theorem dX1_hasFlame_8 : decode cX1_hasFlame 8 = .ok (.goto 7, 3) := by decide +kernel
theorem dX1_hasFlame_11 : decode cX1_hasFlame 11 = .ok (.aload_n 0, 1) := by decide +kernel
theorem dX1_hasFlame_12 : decode cX1_hasFlame 12 = .ok (.getfield 35, 3) := by decide +kernel
theorem dX1_hasFlame_15 : decode cX1_hasFlame 15 = .ok (.ireturn, 1) := by decide +kernel
theorem dX1_setFlame_0 : decode cX1_setFlame 0 = .ok (.iload_n 1, 1) := by decide +kernel
theorem dX1_setFlame_1 : decode cX1_setFlame 1 = .ok (.ifCond .eq 11, 3) := by decide +kernel
theorem dX1_setFlame_4 : decode cX1_setFlame 4 = .ok (.aload_n 0, 1) := by decide +kernel
theorem dX1_setFlame_5 : decode cX1_setFlame 5 = .ok (.iload_n 2, 1) := by decide +kernel
theorem dX1_setFlame_6 : decode cX1_setFlame 6 = .ok (.putfield 31, 3) := by decide +kernel
theorem dX1_setFlame_9 : decode cX1_setFlame 9 = .ok (.goto 8, 3) := by decide +kernel
theorem dX1_setFlame_12 : decode cX1_setFlame 12 = .ok (.aload_n 0, 1) := by decide +kernel
theorem dX1_setFlame_13 : decode cX1_setFlame 13 = .ok (.iload_n 2, 1) := by decide +kernel
theorem dX1_setFlame_14 : decode cX1_setFlame 14 = .ok (.putfield 35, 3) := by decide +kernel
theorem dX1_setFlame_17 : decode cX1_setFlame 17 = .ok (.return_, 1) := by decide +kernel
set_option maxRecDepth 20000 in
theorem ggX1_canBeLit_X1_isOut : GoodIn wsX1_canBeLit wsX1_isOut := goodIn_r _ [5, 6, 7, 8, 15, 16, 17, 18, 19, 20, 21, 22] (by decide +kernel) (by decide +kernel)
set_option maxRecDepth 20000 in
theorem gX1_canBeLit_X1_isOut : GoodIn wsX1_canBeLit (wsV RX1 41 RX1 yX1_isOut wsX1_isOut) := goodIn_app (goodIn_of _ (by decide +kernel)) ggX1_canBeLit_X1_isOut
set_option maxRecDepth 20000 in
theorem ggX1_canBeLit_X1_hasFlame : GoodIn wsX1_canBeLit wsX1_hasFlame := goodIn_r _ [12, 13, 14, 15, 16, 17, 18, 19, 20, 21, 22] (by decide +kernel) (by decide +kernel)
set_option maxRecDepth 20000 in
theorem gX1_canBeLit_X1_hasFlame : GoodIn wsX1_canBeLit (wsV RX1 45 RX1 yX1_hasFlame wsX1_hasFlame) := goodIn_app (goodIn_of _ (by decide +kernel)) ggX1_canBeLit_X1_hasFlame
theorem dX1_canBeLit_0 : decode cX1_canBeLit 0 = .ok (.aload_n 0, 1) := by decide +kernel
theorem dX1_canBeLit_1 : decode cX1_canBeLit 1 = .ok (.invokevirtual 41, 3) := by decide +kernel
theorem dX1_canBeLit_4 : decode cX1_canBeLit 4 = .ok (.ifCond .ne 15, 3) := by decide +kernel
theorem dX1_canBeLit_7 : decode cX1_canBeLit 7 = .ok (.aload_n 0, 1) := by decide +kernel
theorem dX1_canBeLit_8 : decode cX1_canBeLit 8 = .ok (.iload_n 1, 1) := by decide +kernel
theorem dX1_canBeLit_9 : decode cX1_canBeLit 9 = .ok (.invokevirtual 45, 3) := by decide +kernel
theorem dX1_canBeLit_12 : decode cX1_canBeLit 12 = .ok (.ifCond .ne 7, 3) := by decide +kernel
theorem dX1_canBeLit_15 : decode cX1_canBeLit 15 = .ok (.iconst 1, 1) := by decide +kernel
theorem dX1_canBeLit_16 : decode cX1_canBeLit 16 = .ok (.goto 4, 3) := by decide +kernel
theorem dX1_canBeLit_19 : decode cX1_canBeLit 19 = .ok (.iconst 0, 1) := by decide +kernel
theorem dX1_canBeLit_20 : decode cX1_canBeLit 20 = .ok (.ireturn, 1) := by decide +kernel
set_option maxRecDepth 20000 in
theorem ggX1_burnsOut_X1_flameCount : GoodIn wsX1_burnsOut wsX1_flameCount := goodIn_r _ [9, 1, 3, 15, 16, 17, 18, 19, 20, 21, 22] (by decide +kernel) (by decide +kernel)
set_option maxRecDepth 20000 in
theorem gX1_burnsOut_X1_flameCount : GoodIn wsX1_burnsOut (wsV RX1 49 RX1 yX1_flameCount wsX1_flameCount) := goodIn_app (goodIn_of _ (by decide +kernel)) ggX1_burnsOut_X1_flameCount
set_option maxRecDepth 20000 in
theorem ggX1_burnsOut_X1_isOut : GoodIn wsX1_burnsOut wsX1_isOut := goodIn_r _ [13, 2, 4, 14, 15, 16, 17, 18, 19, 20, 21, 22] (by decide +kernel) (by decide +kernel)
set_option maxRecDepth 20000 in
theorem gX1_burnsOut_X1_isOut : GoodIn wsX1_burnsOut (wsV RX1 41 RX1 yX1_isOut wsX1_isOut) := goodIn_app (goodIn_of _ (by decide +kernel)) ggX1_burnsOut_X1_isOut
theorem dX1_burnsOut_0 : decode cX1_burnsOut 0 = .ok (.aload_n 0, 1) := by decide +kernel
theorem dX1_burnsOut_1 : decode cX1_burnsOut 1 = .ok (.invokevirtual 49, 3) := by decide +kernel
theorem dX1_burnsOut_4 : decode cX1_burnsOut 4 = .ok (.ifCond .ne 5, 3) := by decide +kernel
theorem dX1_burnsOut_7 : decode cX1_burnsOut 7 = .ok (.iconst 0, 1) := by decide +kernel
theorem dX1_burnsOut_8 : decode cX1_burnsOut 8 = .ok (.ireturn, 1) := by decide +kernel
theorem dX1_burnsOut_9 : decode cX1_burnsOut 9 = .ok (.aload_n 0, 1) := by decide +kernel
theorem dX1_burnsOut_10 : decode cX1_burnsOut 10 = .ok (.getfield 31, 3) := by decide +kernel
theorem dX1_burnsOut_13 : decode cX1_burnsOut 13 = .ok (.ifCond .eq 13, 3) := by decide +kernel
theorem dX1_burnsOut_16 : decode cX1_burnsOut 16 = .ok (.aload_n 0, 1) := by decide +kernel
theorem dX1_burnsOut_17 : decode cX1_burnsOut 17 = .ok (.dup, 1) := by decide +kernel
theorem dX1_burnsOut_18 : decode cX1_burnsOut 18 = .ok (.getfield 25, 3) := by decide +kernel
theorem dX1_burnsOut_21 : decode cX1_burnsOut 21 = .ok (.iconst 1, 1) := by decide +kernel
theorem dX1_burnsOut_22 : decode cX1_burnsOut 22 = .ok (.iadd, 1) := by decide +kernel
theorem dX1_burnsOut_23 : decode cX1_burnsOut 23 = .ok (.putfield 25, 3) := by decide +kernel
theorem dX1_burnsOut_26 : decode cX1_burnsOut 26 = .ok (.aload_n 0, 1) := by decide +kernel
theorem dX1_burnsOut_27 : decode cX1_burnsOut 27 = .ok (.getfield 35, 3) := by decide +kernel
theorem dX1_burnsOut_30 : decode cX1_burnsOut 30 = .ok (.ifCond .eq 20, 3) := by decide +kernel
theorem dX1_burnsOut_33 : decode cX1_burnsOut 33 = .ok (.aload_n 0, 1) := by decide +kernel
theorem dX1_burnsOut_34 : decode cX1_burnsOut 34 = .ok (.invokevirtual 41, 3) := by decide +kernel
theorem dX1_burnsOut_37 : decode cX1_burnsOut 37 = .ok (.ifCond .ne 13, 3) := by decide +kernel
theorem dX1_burnsOut_40 : decode cX1_burnsOut 40 = .ok (.aload_n 0, 1) := by decide +kernel
theorem dX1_burnsOut_41 : decode cX1_burnsOut 41 = .ok (.dup, 1) := by decide +kernel
theorem dX1_burnsOut_42 : decode cX1_burnsOut 42 = .ok (.getfield 28, 3) := by decide +kernel
theorem dX1_burnsOut_45 : decode cX1_burnsOut 45 = .ok (.iconst 1, 1) := by decide +kernel
theorem dX1_burnsOut_46 : decode cX1_burnsOut 46 = .ok (.iadd, 1) := by decide +kernel
theorem dX1_burnsOut_47 : decode cX1_burnsOut 47 = .ok (.putfield 28, 3) := by decide +kernel
theorem dX1_burnsOut_50 : decode cX1_burnsOut 50 = .ok (.aload_n 0, 1) := by decide +kernel
theorem dX1_burnsOut_51 : decode cX1_burnsOut 51 = .ok (.invokevirtual 41, 3) := by decide +kernel
theorem dX1_burnsOut_54 : decode cX1_burnsOut 54 = .ok (.ifCond .ne 5, 3) := by decide +kernel
theorem dX1_burnsOut_57 : decode cX1_burnsOut 57 = .ok (.iconst 0, 1) := by decide +kernel
theorem dX1_burnsOut_58 : decode cX1_burnsOut 58 = .ok (.ireturn, 1) := by decide +kernel
theorem dX1_burnsOut_59 : decode cX1_burnsOut 59 = .ok (.aload_n 0, 1) := by decide +kernel
theorem dX1_burnsOut_60 : decode cX1_burnsOut 60 = .ok (.iconst 0, 1) := by decide +kernel
theorem dX1_burnsOut_61 : decode cX1_burnsOut 61 = .ok (.putfield 31, 3) := by decide +kernel
theorem dX1_burnsOut_64 : decode cX1_burnsOut 64 = .ok (.aload_n 0, 1) := by decide +kernel
theorem dX1_burnsOut_65 : decode cX1_burnsOut 65 = .ok (.iconst 0, 1) := by decide +kernel
theorem dX1_burnsOut_66 : decode cX1_burnsOut 66 = .ok (.putfield 35, 3) := by decide +kernel
theorem dX1_burnsOut_69 : decode cX1_burnsOut 69 = .ok (.iconst 1, 1) := by decide +kernel
theorem dX1_burnsOut_70 : decode cX1_burnsOut 70 = .ok (.ireturn, 1) := by decide +kernel
set_option maxRecDepth 20000 in
theorem ggX1_frontSegment_X1_isOut : GoodIn wsX1_frontSegment wsX1_isOut := goodIn_r _ [9, 1, 2, 10, 11, 12, 13, 14, 15, 16, 17, 18] (by decide +kernel) (by decide +kernel)
set_option maxRecDepth 20000 in
theorem gX1_frontSegment_X1_isOut : GoodIn wsX1_frontSegment (wsV RX1 41 RX1 yX1_isOut wsX1_isOut) := goodIn_app (goodIn_of _ (by decide +kernel)) ggX1_frontSegment_X1_isOut
theorem dX1_frontSegment_0 : decode cX1_frontSegment 0 = .ok (.aload_n 0, 1) := by decide +kernel
theorem dX1_frontSegment_1 : decode cX1_frontSegment 1 = .ok (.invokevirtual 41, 3) := by decide +kernel
theorem dX1_frontSegment_4 : decode cX1_frontSegment 4 = .ok (.ifCond .eq 5, 3) := by decide +kernel
theorem dX1_frontSegment_7 : decode cX1_frontSegment 7 = .ok (.iconst (-1), 1) := by decide +kernel
theorem dX1_frontSegment_8 : decode cX1_frontSegment 8 = .ok (.ireturn, 1) := by decide +kernel
theorem dX1_frontSegment_9 : decode cX1_frontSegment 9 = .ok (.iload_n 1, 1) := by decide +kernel
theorem dX1_frontSegment_10 : decode cX1_frontSegment 10 = .ok (.ifCond .eq 10, 3) := by decide +kernel
theorem dX1_frontSegment_13 : decode cX1_frontSegment 13 = .ok (.aload_n 0, 1) := by decide +kernel
theorem dX1_frontSegment_14 : decode cX1_frontSegment 14 = .ok (.getfield 25, 3) := by decide +kernel
theorem dX1_frontSegment_17 : decode cX1_frontSegment 17 = .ok (.goto 7, 3) := by decide +kernel
theorem dX1_frontSegment_20 : decode cX1_frontSegment 20 = .ok (.aload_n 0, 1) := by decide +kernel
theorem dX1_frontSegment_21 : decode cX1_frontSegment 21 = .ok (.getfield 28, 3) := by decide +kernel
theorem dX1_frontSegment_24 : decode cX1_frontSegment 24 = .ok (.istore_n 2, 1) := by decide +kernel
theorem dX1_frontSegment_25 : decode cX1_frontSegment 25 = .ok (.iconst 0, 1) := by decide +kernel
theorem dX1_frontSegment_26 : decode cX1_frontSegment 26 = .ok (.istore_n 3, 1) := by decide +kernel
theorem dX1_frontSegment_27 : decode cX1_frontSegment 27 = .ok (.iload_n 3, 1) := by decide +kernel
theorem dX1_frontSegment_28 : decode cX1_frontSegment 28 = .ok (.aload_n 0, 1) := by decide +kernel
theorem dX1_frontSegment_29 : decode cX1_frontSegment 29 = .ok (.getfield 19, 3) := by decide +kernel
theorem dX1_frontSegment_32 : decode cX1_frontSegment 32 = .ok (.if_icmp .ge 51, 3) := by decide +kernel
theorem dX1_frontSegment_35 : decode cX1_frontSegment 35 = .ok (.iload_n 1, 1) := by decide +kernel
theorem dX1_frontSegment_36 : decode cX1_frontSegment 36 = .ok (.ifCond .eq 7, 3) := by decide +kernel
theorem dX1_frontSegment_39 : decode cX1_frontSegment 39 = .ok (.iload_n 3, 1) := by decide +kernel
theorem dX1_frontSegment_40 : decode cX1_frontSegment 40 = .ok (.goto 11, 3) := by decide +kernel
theorem dX1_frontSegment_43 : decode cX1_frontSegment 43 = .ok (.aload_n 0, 1) := by decide +kernel
theorem dX1_frontSegment_44 : decode cX1_frontSegment 44 = .ok (.getfield 19, 3) := by decide +kernel
theorem dX1_frontSegment_47 : decode cX1_frontSegment 47 = .ok (.iconst 1, 1) := by decide +kernel
theorem dX1_frontSegment_48 : decode cX1_frontSegment 48 = .ok (.isub, 1) := by decide +kernel
theorem dX1_frontSegment_49 : decode cX1_frontSegment 49 = .ok (.iload_n 3, 1) := by decide +kernel
theorem dX1_frontSegment_50 : decode cX1_frontSegment 50 = .ok (.isub, 1) := by decide +kernel
theorem dX1_frontSegment_51 : decode cX1_frontSegment 51 = .ok (.istore 4, 2) := by decide +kernel
theorem dX1_frontSegment_53 : decode cX1_frontSegment 53 = .ok (.iload_n 2, 1) := by decide +kernel
theorem dX1_frontSegment_54 : decode cX1_frontSegment 54 = .ok (.aload_n 0, 1) := by decide +kernel
theorem dX1_frontSegment_55 : decode cX1_frontSegment 55 = .ok (.getfield 9, 3) := by decide +kernel
theorem dX1_frontSegment_58 : decode cX1_frontSegment 58 = .ok (.iload 4, 2) := by decide +kernel
theorem dX1_frontSegment_60 : decode cX1_frontSegment 60 = .ok (.iaload, 1) := by decide +kernel
theorem dX1_frontSegment_61 : decode cX1_frontSegment 61 = .ok (.if_icmp .ge 6, 3) := by decide +kernel
theorem dX1_frontSegment_64 : decode cX1_frontSegment 64 = .ok (.iload 4, 2) := by decide +kernel
theorem dX1_frontSegment_66 : decode cX1_frontSegment 66 = .ok (.ireturn, 1) := by decide +kernel
theorem dX1_frontSegment_67 : decode cX1_frontSegment 67 = .ok (.iload_n 2, 1) := by decide +kernel
theorem dX1_frontSegment_68 : decode cX1_frontSegment 68 = .ok (.aload_n 0, 1) := by decide +kernel
theorem dX1_frontSegment_69 : decode cX1_frontSegment 69 = .ok (.getfield 9, 3) := by decide +kernel
theorem dX1_frontSegment_72 : decode cX1_frontSegment 72 = .ok (.iload 4, 2) := by decide +kernel
theorem dX1_frontSegment_74 : decode cX1_frontSegment 74 = .ok (.iaload, 1) := by decide +kernel
theorem dX1_frontSegment_75 : decode cX1_frontSegment 75 = .ok (.isub, 1) := by decide +kernel
theorem dX1_frontSegment_76 : decode cX1_frontSegment 76 = .ok (.istore_n 2, 1) := by decide +kernel
theorem dX1_frontSegment_77 : decode cX1_frontSegment 77 = .ok (.iinc 3 1, 3) := by decide +kernel
theorem dX1_frontSegment_80 : decode cX1_frontSegment 80 = .ok (.goto (-53), 3) := by decide +kernel
theorem dX1_frontSegment_83 : decode cX1_frontSegment 83 = .ok (.iconst (-1), 1) := by decide +kernel
theorem dX1_frontSegment_84 : decode cX1_frontSegment 84 = .ok (.ireturn, 1) := by decide +kernel
theorem dX2_init_0 : decode cX2_init 0 = .ok (.aload_n 0, 1) := by decide +kernel
theorem dX2_init_1 : decode cX2_init 1 = .ok (.invokespecial 3, 3) := by decide +kernel
theorem dX2_init_4 : decode cX2_init 4 = .ok (.aload_n 0, 1) := by decide +kernel
theorem dX2_init_5 : decode cX2_init 5 = .ok (.bipush 60, 2) := by decide +kernel
theorem dX2_init_7 : decode cX2_init 7 = .ok (.newarray .char, 2) := by decide +kernel
theorem dX2_init_9 : decode cX2_init 9 = .ok (.putfield 9, 3) := by decide +kernel
theorem dX2_init_12 : decode cX2_init 12 = .ok (.aload_n 0, 1) := by decide +kernel
theorem dX2_init_13 : decode cX2_init 13 = .ok (.bipush 6, 2) := by decide +kernel
theorem dX2_init_15 : decode cX2_init 15 = .ok (.newarray .int, 2) := by decide +kernel
theorem dX2_init_17 : decode cX2_init 17 = .ok (.putfield 15, 3) := by decide +kernel
theorem dX2_init_20 : decode cX2_init 20 = .ok (.return_, 1) := by decide +kernel
theorem dX3_init_0 : decode cX3_init 0 = .ok (.aload_n 0, 1) := by decide +kernel
theorem dX3_init_1 : decode cX3_init 1 = .ok (.invokespecial 3, 3) := by decide +kernel
theorem dX3_init_4 : decode cX3_init 4 = .ok (.aload_n 0, 1) := by decide +kernel
theorem dX3_init_5 : decode cX3_init 5 = .ok (.sipush 1081, 3) := by decide +kernel
theorem dX3_init_8 : decode cX3_init 8 = .ok (.newarray .int, 2) := by decide +kernel
theorem dX3_init_10 : decode cX3_init 10 = .ok (.putfield 9, 3) := by decide +kernel
theorem dX3_init_13 : decode cX3_init 13 = .ok (.aload_n 0, 1) := by decide +kernel
theorem dX3_init_14 : decode cX3_init 14 = .ok (.iconst 4, 1) := by decide +kernel
theorem dX3_init_15 : decode cX3_init 15 = .ok (.iconst 3, 1) := by decide +kernel
theorem dX3_init_16 : decode cX3_init 16 = .ok (.multianewarray 15 2, 4) := by decide +kernel
theorem dX3_init_20 : decode cX3_init 20 = .ok (.putfield 17, 3) := by decide +kernel
theorem dX3_init_23 : decode cX3_init 23 = .ok (.aload_n 0, 1) := by decide +kernel
theorem dX3_init_24 : decode cX3_init 24 = .ok (.iconst 4, 1) := by decide +kernel
theorem dX3_init_25 : decode cX3_init 25 = .ok (.iconst 3, 1) := by decide +kernel
theorem dX3_init_26 : decode cX3_init 26 = .ok (.multianewarray 15 2, 4) := by decide +kernel
theorem dX3_init_30 : decode cX3_init 30 = .ok (.putfield 20, 3) := by decide +kernel
theorem dX3_init_33 : decode cX3_init 33 = .ok (.return_, 1) := by decide +kernel
theorem dX3_clear_0 : decode cX3_clear 0 = .ok (.iconst 0, 1) := by decide +kernel
theorem dX3_clear_1 : decode cX3_clear 1 = .ok (.istore_n 1, 1) := by decide +kernel
theorem dX3_clear_2 : decode cX3_clear 2 = .ok (.iload_n 1, 1) := by decide +kernel
theorem dX3_clear_3 : decode cX3_clear 3 = .ok (.sipush 1080, 3) := by decide +kernel
theorem dX3_clear_6 : decode cX3_clear 6 = .ok (.if_icmp .gt 16, 3) := by decide +kernel
theorem dX3_clear_9 : decode cX3_clear 9 = .ok (.aload_n 0, 1) := by decide +kernel
theorem dX3_clear_10 : decode cX3_clear 10 = .ok (.getfield 9, 3) := by decide +kernel
theorem dX3_clear_13 : decode cX3_clear 13 = .ok (.iload_n 1, 1) := by decide +kernel
theorem dX3_clear_14 : decode cX3_clear 14 = .ok (.iconst (-1), 1) := by decide +kernel
theorem dX3_clear_15 : decode cX3_clear 15 = .ok (.iastore, 1) := by decide +kernel
theorem dX3_clear_16 : decode cX3_clear 16 = .ok (.iinc 1 1, 3) := by decide +kernel
theorem dX3_clear_19 : decode cX3_clear 19 = .ok (.goto (-17), 3) := by decide +kernel
theorem dX3_clear_22 : decode cX3_clear 22 = .ok (.iconst 0, 1) := by decide +kernel
theorem dX3_clear_23 : decode cX3_clear 23 = .ok (.istore_n 1, 1) := by decide +kernel
theorem dX3_clear_24 : decode cX3_clear 24 = .ok (.iload_n 1, 1) := by decide +kernel
theorem dX3_clear_25 : decode cX3_clear 25 = .ok (.iconst 3, 1) := by decide +kernel
theorem dX3_clear_26 : decode cX3_clear 26 = .ok (.if_icmp .ge 27, 3) := by decide +kernel
theorem dX3_clear_29 : decode cX3_clear 29 = .ok (.aload_n 0, 1) := by decide +kernel
theorem dX3_clear_30 : decode cX3_clear 30 = .ok (.getfield 17, 3) := by decide +kernel
theorem dX3_clear_33 : decode cX3_clear 33 = .ok (.iconst 0, 1) := by decide +kernel
theorem dX3_clear_34 : decode cX3_clear 34 = .ok (.aaload, 1) := by decide +kernel
theorem dX3_clear_35 : decode cX3_clear 35 = .ok (.iload_n 1, 1) := by decide +kernel
theorem dX3_clear_36 : decode cX3_clear 36 = .ok (.iconst 0, 1) := by decide +kernel
theorem dX3_clear_37 : decode cX3_clear 37 = .ok (.iastore, 1) := by decide +kernel
theorem dX3_clear_38 : decode cX3_clear 38 = .ok (.aload_n 0, 1) := by decide +kernel
theorem dX3_clear_39 : decode cX3_clear 39 = .ok (.getfield 20, 3) := by decide +kernel
theorem dX3_clear_42 : decode cX3_clear 42 = .ok (.iconst 0, 1) := by decide +kernel
theorem dX3_clear_43 : decode cX3_clear 43 = .ok (.aaload, 1) := by decide +kernel
theorem dX3_clear_44 : decode cX3_clear 44 = .ok (.iload_n 1, 1) := by decide +kernel
theorem dX3_clear_45 : decode cX3_clear 45 = .ok (.iconst 0, 1) := by decide +kernel
theorem dX3_clear_46 : decode cX3_clear 46 = .ok (.iastore, 1) := by decide +kernel
theorem dX3_clear_47 : decode cX3_clear 47 = .ok (.iinc 1 1, 3) := by decide +kernel
theorem dX3_clear_50 : decode cX3_clear 50 = .ok (.goto (-26), 3) := by decide +kernel
theorem dX3_clear_53 : decode cX3_clear 53 = .ok (.aload_n 0, 1) := by decide +kernel
theorem dX3_clear_54 : decode cX3_clear 54 = .ok (.iconst 0, 1) := by decide +kernel
theorem dX3_clear_55 : decode cX3_clear 55 = .ok (.putfield 23, 3) := by decide +kernel
theorem dX3_clear_58 : decode cX3_clear 58 = .ok (.return_, 1) := by decide +kernel
theorem dX3_addCord_0 : decode cX3_addCord 0 = .ok (.aload_n 0, 1) := by decide +kernel
theorem dX3_addCord_1 : decode cX3_addCord 1 = .ok (.getfield 23, 3) := by decide +kernel
theorem dX3_addCord_4 : decode cX3_addCord 4 = .ok (.iconst 3, 1) := by decide +kernel
theorem dX3_addCord_5 : decode cX3_addCord 5 = .ok (.if_icmp .ge 25, 3) := by decide +kernel
theorem dX3_addCord_8 : decode cX3_addCord 8 = .ok (.aload_n 0, 1) := by decide +kernel
theorem dX3_addCord_9 : decode cX3_addCord 9 = .ok (.getfield 17, 3) := by decide +kernel
theorem dX3_addCord_12 : decode cX3_addCord 12 = .ok (.iconst 0, 1) := by decide +kernel
theorem dX3_addCord_13 : decode cX3_addCord 13 = .ok (.aaload, 1) := by decide +kernel
theorem dX3_addCord_14 : decode cX3_addCord 14 = .ok (.aload_n 0, 1) := by decide +kernel
theorem dX3_addCord_15 : decode cX3_addCord 15 = .ok (.getfield 23, 3) := by decide +kernel
theorem dX3_addCord_18 : decode cX3_addCord 18 = .ok (.iload_n 1, 1) := by decide +kernel
theorem dX3_addCord_19 : decode cX3_addCord 19 = .ok (.iastore, 1) := by decide +kernel
theorem dX3_addCord_20 : decode cX3_addCord 20 = .ok (.aload_n 0, 1) := by decide +kernel
theorem dX3_addCord_21 : decode cX3_addCord 21 = .ok (.dup, 1) := by decide +kernel
theorem dX3_addCord_22 : decode cX3_addCord 22 = .ok (.getfield 23, 3) := by decide +kernel
theorem dX3_addCord_25 : decode cX3_addCord 25 = .ok (.iconst 1, 1) := by decide +kernel
theorem dX3_addCord_26 : decode cX3_addCord 26 = .ok (.iadd, 1) := by decide +kernel
theorem dX3_addCord_27 : decode cX3_addCord 27 = .ok (.putfield 23, 3) := by decide +kernel
theorem dX3_addCord_30 : decode cX3_addCord 30 = .ok (.return_, 1) := by decide +kernel
set_option maxRecDepth 20000 in
theorem ggX3_tryFromBeginning_X3_tryAll : GoodIn wsX3_tryFromBeginning wsX3_tryAll := goodIn_r _ [5, 6, 7, 8, 9, 4, 10, 11, 12, 13, 14, 15, 16, 17, 18, 19, 20, 21, 22, 23, 24, 25, 26, 27, 28, 29, 30, 31, 32, 33, 34, 35, 36, 37, 38, 1, 2, 3, 39, 40, 41, 42] (by decide +kernel) (by decide +kernel)
set_option maxRecDepth 20000 in
theorem gX3_tryFromBeginning_X3_tryAll : GoodIn wsX3_tryFromBeginning (wsV RX3 27 RX3 yX3_tryAll wsX3_tryAll) := goodIn_app (goodIn_of _ (by decide +kernel)) ggX3_tryFromBeginning_X3_tryAll
theorem dX3_tryFromBeginning_0 : decode cX3_tryFromBeginning 0 = .ok (.aload_n 0, 1) := by decide +kernel
theorem dX3_tryFromBeginning_1 : decode cX3_tryFromBeginning 1 = .ok (.iconst 0, 1) := by decide +kernel
theorem dX3_tryFromBeginning_2 : decode cX3_tryFromBeginning 2 = .ok (.iconst 0, 1) := by decide +kernel
theorem dX3_tryFromBeginning_3 : decode cX3_tryFromBeginning 3 = .ok (.iconst 0, 1) := by decide +kernel
theorem dX3_tryFromBeginning_4 : decode cX3_tryFromBeginning 4 = .ok (.invokevirtual 27, 3) := by decide +kernel
theorem dX3_tryFromBeginning_7 : decode cX3_tryFromBeginning 7 = .ok (.return_, 1) := by decide +kernel
set_option maxRecDepth 20000 in
theorem ggX3_tryAll_X3_mostFlames : GoodIn wsX3_tryAll wsX3_mostFlames := goodIn_r _ [6, 7, 38, 39, 40, 41] (by decide +kernel) (by decide +kernel)
set_option maxRecDepth 20000 in
theorem gX3_tryAll_X3_mostFlames : GoodIn wsX3_tryAll (wsV RX3 31 RX3 yX3_mostFlames wsX3_mostFlames) := goodIn_app (goodIn_of _ (by decide +kernel)) ggX3_tryAll_X3_mostFlames
set_option maxRecDepth 20000 in
theorem ggX3_tryAll_X3_newFlames : GoodIn wsX3_tryAll wsX3_newFlames := goodIn_r _ [11, 1, 38, 39, 40, 41] (by decide +kernel) (by decide +kernel)
set_option maxRecDepth 20000 in
theorem gX3_tryAll_X3_newFlames : GoodIn wsX3_tryAll (wsV RX3 35 RX3 yX3_newFlames wsX3_newFlames) := goodIn_app (goodIn_of _ (by decide +kernel)) ggX3_tryAll_X3_newFlames
set_option maxRecDepth 20000 in
theorem ggX3_tryAll_X3_burnToSignal : GoodIn wsX3_tryAll wsX3_burnToSignal := goodIn_r _ [15, 7, 1, 16, 17, 18, 19, 20, 21, 22, 5, 23, 24, 25, 26, 27, 28, 29, 30, 31, 32, 33, 34, 35, 36, 37, 0, 2, 3, 4, 6, 8, 9, 10, 11, 12, 13, 14, 38, 39, 40, 41] (by decide +kernel) (by decide +kernel)
set_option maxRecDepth 20000 in
theorem gX3_tryAll_X3_burnToSignal : GoodIn wsX3_tryAll (wsV RX3 39 RX3 yX3_burnToSignal wsX3_burnToSignal) := goodIn_app (goodIn_of _ (by decide +kernel)) ggX3_tryAll_X3_burnToSignal
theorem dX3_tryAll_0 : decode cX3_tryAll 0 = .ok (.iload_n 1, 1) := by decide +kernel
theorem dX3_tryAll_1 : decode cX3_tryAll 1 = .ok (.ifCond .lt 8, 3) := by decide +kernel
theorem dX3_tryAll_4 : decode cX3_tryAll 4 = .ok (.iload_n 1, 1) := by decide +kernel
theorem dX3_tryAll_5 : decode cX3_tryAll 5 = .ok (.iconst 3, 1) := by decide +kernel
theorem dX3_tryAll_6 : decode cX3_tryAll 6 = .ok (.if_icmp .lt 4, 3) := by decide +kernel
theorem dX3_tryAll_9 : decode cX3_tryAll 9 = .ok (.return_, 1) := by decide +kernel
theorem dX3_tryAll_10 : decode cX3_tryAll 10 = .ok (.aload_n 0, 1) := by decide +kernel
theorem dX3_tryAll_11 : decode cX3_tryAll 11 = .ok (.getfield 20, 3) := by decide +kernel
theorem dX3_tryAll_14 : decode cX3_tryAll 14 = .ok (.iload_n 1, 1) := by decide +kernel
theorem dX3_tryAll_15 : decode cX3_tryAll 15 = .ok (.aaload, 1) := by decide +kernel
theorem dX3_tryAll_16 : decode cX3_tryAll 16 = .ok (.iconst 0, 1) := by decide +kernel
theorem dX3_tryAll_17 : decode cX3_tryAll 17 = .ok (.iaload, 1) := by decide +kernel
theorem dX3_tryAll_18 : decode cX3_tryAll 18 = .ok (.istore 4, 2) := by decide +kernel
theorem dX3_tryAll_20 : decode cX3_tryAll 20 = .ok (.iload 4, 2) := by decide +kernel
theorem dX3_tryAll_22 : decode cX3_tryAll 22 = .ok (.aload_n 0, 1) := by decide +kernel
theorem dX3_tryAll_23 : decode cX3_tryAll 23 = .ok (.iload_n 1, 1) := by decide +kernel
theorem dX3_tryAll_24 : decode cX3_tryAll 24 = .ok (.iconst 0, 1) := by decide +kernel
theorem dX3_tryAll_25 : decode cX3_tryAll 25 = .ok (.invokevirtual 31, 3) := by decide +kernel
theorem dX3_tryAll_28 : decode cX3_tryAll 28 = .ok (.if_icmp .gt 112, 3) := by decide +kernel
theorem dX3_tryAll_31 : decode cX3_tryAll 31 = .ok (.aload_n 0, 1) := by decide +kernel
theorem dX3_tryAll_32 : decode cX3_tryAll 32 = .ok (.getfield 20, 3) := by decide +kernel
theorem dX3_tryAll_35 : decode cX3_tryAll 35 = .ok (.iload_n 1, 1) := by decide +kernel
theorem dX3_tryAll_36 : decode cX3_tryAll 36 = .ok (.aaload, 1) := by decide +kernel
theorem dX3_tryAll_37 : decode cX3_tryAll 37 = .ok (.iconst 1, 1) := by decide +kernel
theorem dX3_tryAll_38 : decode cX3_tryAll 38 = .ok (.iaload, 1) := by decide +kernel
theorem dX3_tryAll_39 : decode cX3_tryAll 39 = .ok (.istore 5, 2) := by decide +kernel
theorem dX3_tryAll_41 : decode cX3_tryAll 41 = .ok (.iload 5, 2) := by decide +kernel
theorem dX3_tryAll_43 : decode cX3_tryAll 43 = .ok (.aload_n 0, 1) := by decide +kernel
theorem dX3_tryAll_44 : decode cX3_tryAll 44 = .ok (.iload_n 1, 1) := by decide +kernel
theorem dX3_tryAll_45 : decode cX3_tryAll 45 = .ok (.iconst 1, 1) := by decide +kernel
theorem dX3_tryAll_46 : decode cX3_tryAll 46 = .ok (.invokevirtual 31, 3) := by decide +kernel
theorem dX3_tryAll_49 : decode cX3_tryAll 49 = .ok (.if_icmp .gt 85, 3) := by decide +kernel
theorem dX3_tryAll_52 : decode cX3_tryAll 52 = .ok (.aload_n 0, 1) := by decide +kernel
theorem dX3_tryAll_53 : decode cX3_tryAll 53 = .ok (.getfield 20, 3) := by decide +kernel
theorem dX3_tryAll_56 : decode cX3_tryAll 56 = .ok (.iload_n 1, 1) := by decide +kernel
theorem dX3_tryAll_57 : decode cX3_tryAll 57 = .ok (.aaload, 1) := by decide +kernel
theorem dX3_tryAll_58 : decode cX3_tryAll 58 = .ok (.iconst 2, 1) := by decide +kernel
theorem dX3_tryAll_59 : decode cX3_tryAll 59 = .ok (.iaload, 1) := by decide +kernel
theorem dX3_tryAll_60 : decode cX3_tryAll 60 = .ok (.istore 6, 2) := by decide +kernel
theorem dX3_tryAll_62 : decode cX3_tryAll 62 = .ok (.iload 6, 2) := by decide +kernel
theorem dX3_tryAll_64 : decode cX3_tryAll 64 = .ok (.aload_n 0, 1) := by decide +kernel
theorem dX3_tryAll_65 : decode cX3_tryAll 65 = .ok (.iload_n 1, 1) := by decide +kernel
theorem dX3_tryAll_66 : decode cX3_tryAll 66 = .ok (.iconst 2, 1) := by decide +kernel
theorem dX3_tryAll_67 : decode cX3_tryAll 67 = .ok (.invokevirtual 31, 3) := by decide +kernel
theorem dX3_tryAll_70 : decode cX3_tryAll 70 = .ok (.if_icmp .gt 58, 3) := by decide +kernel
theorem dX3_tryAll_73 : decode cX3_tryAll 73 = .ok (.aload_n 0, 1) := by decide +kernel
theorem dX3_tryAll_74 : decode cX3_tryAll 74 = .ok (.getfield 20, 3) := by decide +kernel
theorem dX3_tryAll_77 : decode cX3_tryAll 77 = .ok (.iload_n 1, 1) := by decide +kernel
theorem dX3_tryAll_78 : decode cX3_tryAll 78 = .ok (.iconst 1, 1) := by decide +kernel
theorem dX3_tryAll_79 : decode cX3_tryAll 79 = .ok (.iadd, 1) := by decide +kernel
theorem dX3_tryAll_80 : decode cX3_tryAll 80 = .ok (.aaload, 1) := by decide +kernel
theorem dX3_tryAll_81 : decode cX3_tryAll 81 = .ok (.iconst 0, 1) := by decide +kernel
theorem dX3_tryAll_82 : decode cX3_tryAll 82 = .ok (.iload 4, 2) := by decide +kernel
theorem dX3_tryAll_84 : decode cX3_tryAll 84 = .ok (.iastore, 1) := by decide +kernel
theorem dX3_tryAll_85 : decode cX3_tryAll 85 = .ok (.aload_n 0, 1) := by decide +kernel
theorem dX3_tryAll_86 : decode cX3_tryAll 86 = .ok (.getfield 20, 3) := by decide +kernel
theorem dX3_tryAll_89 : decode cX3_tryAll 89 = .ok (.iload_n 1, 1) := by decide +kernel
theorem dX3_tryAll_90 : decode cX3_tryAll 90 = .ok (.iconst 1, 1) := by decide +kernel
theorem dX3_tryAll_91 : decode cX3_tryAll 91 = .ok (.iadd, 1) := by decide +kernel
theorem dX3_tryAll_92 : decode cX3_tryAll 92 = .ok (.aaload, 1) := by decide +kernel
theorem dX3_tryAll_93 : decode cX3_tryAll 93 = .ok (.iconst 1, 1) := by decide +kernel
theorem dX3_tryAll_94 : decode cX3_tryAll 94 = .ok (.iload 5, 2) := by decide +kernel
theorem dX3_tryAll_96 : decode cX3_tryAll 96 = .ok (.iastore, 1) := by decide +kernel
theorem dX3_tryAll_97 : decode cX3_tryAll 97 = .ok (.aload_n 0, 1) := by decide +kernel
theorem dX3_tryAll_98 : decode cX3_tryAll 98 = .ok (.getfield 20, 3) := by decide +kernel
theorem dX3_tryAll_101 : decode cX3_tryAll 101 = .ok (.iload_n 1, 1) := by decide +kernel
theorem dX3_tryAll_102 : decode cX3_tryAll 102 = .ok (.iconst 1, 1) := by decide +kernel
theorem dX3_tryAll_103 : decode cX3_tryAll 103 = .ok (.iadd, 1) := by decide +kernel
theorem dX3_tryAll_104 : decode cX3_tryAll 104 = .ok (.aaload, 1) := by decide +kernel
theorem dX3_tryAll_105 : decode cX3_tryAll 105 = .ok (.iconst 2, 1) := by decide +kernel
theorem dX3_tryAll_106 : decode cX3_tryAll 106 = .ok (.iload 6, 2) := by decide +kernel
theorem dX3_tryAll_108 : decode cX3_tryAll 108 = .ok (.iastore, 1) := by decide +kernel
theorem dX3_tryAll_109 : decode cX3_tryAll 109 = .ok (.aload_n 0, 1) := by decide +kernel
theorem dX3_tryAll_110 : decode cX3_tryAll 110 = .ok (.iload_n 1, 1) := by decide +kernel
theorem dX3_tryAll_111 : decode cX3_tryAll 111 = .ok (.iload_n 2, 1) := by decide +kernel
theorem dX3_tryAll_112 : decode cX3_tryAll 112 = .ok (.iload_n 3, 1) := by decide +kernel
theorem dX3_tryAll_113 : decode cX3_tryAll 113 = .ok (.aload_n 0, 1) := by decide +kernel
theorem dX3_tryAll_114 : decode cX3_tryAll 114 = .ok (.iload_n 1, 1) := by decide +kernel
theorem dX3_tryAll_115 : decode cX3_tryAll 115 = .ok (.invokevirtual 35, 3) := by decide +kernel
theorem dX3_tryAll_118 : decode cX3_tryAll 118 = .ok (.iadd, 1) := by decide +kernel
theorem dX3_tryAll_119 : decode cX3_tryAll 119 = .ok (.invokevirtual 39, 3) := by decide +kernel
theorem dX3_tryAll_122 : decode cX3_tryAll 122 = .ok (.iinc 6 1, 3) := by decide +kernel
theorem dX3_tryAll_125 : decode cX3_tryAll 125 = .ok (.goto (-63), 3) := by decide +kernel
theorem dX3_tryAll_128 : decode cX3_tryAll 128 = .ok (.iinc 5 1, 3) := by decide +kernel
theorem dX3_tryAll_131 : decode cX3_tryAll 131 = .ok (.goto (-90), 3) := by decide +kernel
theorem dX3_tryAll_134 : decode cX3_tryAll 134 = .ok (.iinc 4 1, 3) := by decide +kernel
theorem dX3_tryAll_137 : decode cX3_tryAll 137 = .ok (.goto (-117), 3) := by decide +kernel
theorem dX3_tryAll_140 : decode cX3_tryAll 140 = .ok (.return_, 1) := by decide +kernel
theorem dX3_mostFlames_0 : decode cX3_mostFlames 0 = .ok (.aload_n 0, 1) := by decide +kernel
theorem dX3_mostFlames_1 : decode cX3_mostFlames 1 = .ok (.getfield 17, 3) := by decide +kernel
theorem dX3_mostFlames_4 : decode cX3_mostFlames 4 = .ok (.iload_n 1, 1) := by decide +kernel
theorem dX3_mostFlames_5 : decode cX3_mostFlames 5 = .ok (.aaload, 1) := by decide +kernel
theorem dX3_mostFlames_6 : decode cX3_mostFlames 6 = .ok (.iload_n 2, 1) := by decide +kernel
theorem dX3_mostFlames_7 : decode cX3_mostFlames 7 = .ok (.iaload, 1) := by decide +kernel
theorem dX3_mostFlames_8 : decode cX3_mostFlames 8 = .ok (.ifCond .le 7, 3) := by decide +kernel
theorem dX3_mostFlames_11 : decode cX3_mostFlames 11 = .ok (.iconst 2, 1) := by decide +kernel
theorem dX3_mostFlames_12 : decode cX3_mostFlames 12 = .ok (.goto 4, 3) := by decide +kernel
theorem dX3_mostFlames_15 : decode cX3_mostFlames 15 = .ok (.iconst 0, 1) := by decide +kernel
theorem dX3_mostFlames_16 : decode cX3_mostFlames 16 = .ok (.ireturn, 1) := by decide +kernel
theorem dX3_newFlames_0 : decode cX3_newFlames 0 = .ok (.iconst 0, 1) := by decide +kernel
theorem dX3_newFlames_1 : decode cX3_newFlames 1 = .ok (.istore_n 2, 1) := by decide +kernel
theorem dX3_newFlames_2 : decode cX3_newFlames 2 = .ok (.iconst 0, 1) := by decide +kernel
theorem dX3_newFlames_3 : decode cX3_newFlames 3 = .ok (.istore_n 3, 1) := by decide +kernel
theorem dX3_newFlames_4 : decode cX3_newFlames 4 = .ok (.iload_n 3, 1) := by decide +kernel
theorem dX3_newFlames_5 : decode cX3_newFlames 5 = .ok (.iconst 3, 1) := by decide +kernel
theorem dX3_newFlames_6 : decode cX3_newFlames 6 = .ok (.if_icmp .ge 31, 3) := by decide +kernel
theorem dX3_newFlames_9 : decode cX3_newFlames 9 = .ok (.iload_n 2, 1) := by decide +kernel
theorem dX3_newFlames_10 : decode cX3_newFlames 10 = .ok (.aload_n 0, 1) := by decide +kernel
theorem dX3_newFlames_11 : decode cX3_newFlames 11 = .ok (.getfield 20, 3) := by decide +kernel
theorem dX3_newFlames_14 : decode cX3_newFlames 14 = .ok (.iload_n 1, 1) := by decide +kernel
theorem dX3_newFlames_15 : decode cX3_newFlames 15 = .ok (.iconst 1, 1) := by decide +kernel
theorem dX3_newFlames_16 : decode cX3_newFlames 16 = .ok (.iadd, 1) := by decide +kernel
theorem dX3_newFlames_17 : decode cX3_newFlames 17 = .ok (.aaload, 1) := by decide +kernel
theorem dX3_newFlames_18 : decode cX3_newFlames 18 = .ok (.iload_n 3, 1) := by decide +kernel
theorem dX3_newFlames_19 : decode cX3_newFlames 19 = .ok (.iaload, 1) := by decide +kernel
theorem dX3_newFlames_20 : decode cX3_newFlames 20 = .ok (.aload_n 0, 1) := by decide +kernel
theorem dX3_newFlames_21 : decode cX3_newFlames 21 = .ok (.getfield 20, 3) := by decide +kernel
theorem dX3_newFlames_24 : decode cX3_newFlames 24 = .ok (.iload_n 1, 1) := by decide +kernel
theorem dX3_newFlames_25 : decode cX3_newFlames 25 = .ok (.aaload, 1) := by decide +kernel
theorem dX3_newFlames_26 : decode cX3_newFlames 26 = .ok (.iload_n 3, 1) := by decide +kernel
theorem dX3_newFlames_27 : decode cX3_newFlames 27 = .ok (.iaload, 1) := by decide +kernel
theorem dX3_newFlames_28 : decode cX3_newFlames 28 = .ok (.isub, 1) := by decide +kernel
theorem dX3_newFlames_29 : decode cX3_newFlames 29 = .ok (.iadd, 1) := by decide +kernel
theorem dX3_newFlames_30 : decode cX3_newFlames 30 = .ok (.istore_n 2, 1) := by decide +kernel
theorem dX3_newFlames_31 : decode cX3_newFlames 31 = .ok (.iinc 3 1, 3) := by decide +kernel
theorem dX3_newFlames_34 : decode cX3_newFlames 34 = .ok (.goto (-30), 3) := by decide +kernel
theorem dX3_newFlames_37 : decode cX3_newFlames 37 = .ok (.iload_n 2, 1) := by decide +kernel
theorem dX3_newFlames_38 : decode cX3_newFlames 38 = .ok (.ireturn, 1) := by decide +kernel
set_option maxRecDepth 20000 in
theorem ggX3_burnToSignal_X3_stepsToSignal : GoodIn wsX3_burnToSignal wsX3_stepsToSignal := goodIn_r _ [11, 2, 1, 12, 13, 5, 14, 15, 16, 17, 38, 39, 40, 41] (by decide +kernel) (by decide +kernel)
set_option maxRecDepth 20000 in
theorem gX3_burnToSignal_X3_stepsToSignal : GoodIn wsX3_burnToSignal (wsV RX3 42 RX3 yX3_stepsToSignal wsX3_stepsToSignal) := goodIn_app (goodIn_of _ (by decide +kernel)) ggX3_burnToSignal_X3_stepsToSignal
set_option maxRecDepth 20000 in
theorem ggX3_burnToSignal_X3_noteTold : GoodIn wsX3_burnToSignal wsX3_noteTold := goodIn_r _ [21, 22, 38, 39, 40, 41] (by decide +kernel) (by decide +kernel)
set_option maxRecDepth 20000 in
theorem gX3_burnToSignal_X3_noteTold : GoodIn wsX3_burnToSignal (wsV RX3 50 RX3 yX3_noteTold wsX3_noteTold) := goodIn_app (goodIn_of _ (by decide +kernel)) ggX3_burnToSignal_X3_noteTold
set_option maxRecDepth 20000 in
theorem ggX3_burnToSignal_X3_tryAll : GoodIn wsX3_burnToSignal wsX3_tryAll := goodIn_r _ [26, 2, 27, 28, 29, 10, 30, 1, 31, 32, 33, 34, 35, 36, 37, 0, 3, 4, 5, 6, 7, 8, 9, 11, 12, 13, 14, 15, 16, 17, 18, 19, 20, 21, 22, 23, 24, 25, 38, 39, 40, 41] (by decide +kernel) (by decide +kernel)
set_option maxRecDepth 20000 in
theorem gX3_burnToSignal_X3_tryAll : GoodIn wsX3_burnToSignal (wsV RX3 27 RX3 yX3_tryAll wsX3_tryAll) := goodIn_app (goodIn_of _ (by decide +kernel)) ggX3_burnToSignal_X3_tryAll
theorem dX3_burnToSignal_0 : decode cX3_burnToSignal 0 = .ok (.aload_n 0, 1) := by decide +kernel
theorem dX3_burnToSignal_1 : decode cX3_burnToSignal 1 = .ok (.iload_n 1, 1) := by decide +kernel
theorem dX3_burnToSignal_2 : decode cX3_burnToSignal 2 = .ok (.invokevirtual 42, 3) := by decide +kernel
theorem dX3_burnToSignal_5 : decode cX3_burnToSignal 5 = .ok (.istore 4, 2) := by decide +kernel
theorem dX3_burnToSignal_7 : decode cX3_burnToSignal 7 = .ok (.iload 4, 2) := by decide +kernel
theorem dX3_burnToSignal_9 : decode cX3_burnToSignal 9 = .ok (.iconst (-1), 1) := by decide +kernel
theorem dX3_burnToSignal_10 : decode cX3_burnToSignal 10 = .ok (.if_icmp .ne 4, 3) := by decide +kernel
theorem dX3_burnToSignal_13 : decode cX3_burnToSignal 13 = .ok (.return_, 1) := by decide +kernel
theorem dX3_burnToSignal_14 : decode cX3_burnToSignal 14 = .ok (.iconst 0, 1) := by decide +kernel
theorem dX3_burnToSignal_15 : decode cX3_burnToSignal 15 = .ok (.istore 5, 2) := by decide +kernel
theorem dX3_burnToSignal_17 : decode cX3_burnToSignal 17 = .ok (.iload 5, 2) := by decide +kernel
theorem dX3_burnToSignal_19 : decode cX3_burnToSignal 19 = .ok (.iconst 3, 1) := by decide +kernel
theorem dX3_burnToSignal_20 : decode cX3_burnToSignal 20 = .ok (.if_icmp .ge 69, 3) := by decide +kernel
theorem dX3_burnToSignal_23 : decode cX3_burnToSignal 23 = .ok (.iconst 0, 1) := by decide +kernel
theorem dX3_burnToSignal_24 : decode cX3_burnToSignal 24 = .ok (.aload_n 0, 1) := by decide +kernel
theorem dX3_burnToSignal_25 : decode cX3_burnToSignal 25 = .ok (.getfield 17, 3) := by decide +kernel
theorem dX3_burnToSignal_28 : decode cX3_burnToSignal 28 = .ok (.iload_n 1, 1) := by decide +kernel
theorem dX3_burnToSignal_29 : decode cX3_burnToSignal 29 = .ok (.aaload, 1) := by decide +kernel
theorem dX3_burnToSignal_30 : decode cX3_burnToSignal 30 = .ok (.iload 5, 2) := by decide +kernel
theorem dX3_burnToSignal_32 : decode cX3_burnToSignal 32 = .ok (.iaload, 1) := by decide +kernel
theorem dX3_burnToSignal_33 : decode cX3_burnToSignal 33 = .ok (.aload_n 0, 1) := by decide +kernel
theorem dX3_burnToSignal_34 : decode cX3_burnToSignal 34 = .ok (.getfield 20, 3) := by decide +kernel
theorem dX3_burnToSignal_37 : decode cX3_burnToSignal 37 = .ok (.iload_n 1, 1) := by decide +kernel
theorem dX3_burnToSignal_38 : decode cX3_burnToSignal 38 = .ok (.iconst 1, 1) := by decide +kernel
theorem dX3_burnToSignal_39 : decode cX3_burnToSignal 39 = .ok (.iadd, 1) := by decide +kernel
theorem dX3_burnToSignal_40 : decode cX3_burnToSignal 40 = .ok (.aaload, 1) := by decide +kernel
theorem dX3_burnToSignal_41 : decode cX3_burnToSignal 41 = .ok (.iload 5, 2) := by decide +kernel
theorem dX3_burnToSignal_43 : decode cX3_burnToSignal 43 = .ok (.iaload, 1) := by decide +kernel
theorem dX3_burnToSignal_44 : decode cX3_burnToSignal 44 = .ok (.iload 4, 2) := by decide +kernel
theorem dX3_burnToSignal_46 : decode cX3_burnToSignal 46 = .ok (.imul, 1) := by decide +kernel
theorem dX3_burnToSignal_47 : decode cX3_burnToSignal 47 = .ok (.isub, 1) := by decide +kernel
theorem dX3_burnToSignal_48 : decode cX3_burnToSignal 48 = .ok (.invokestatic 45, 3) := by decide +kernel
theorem dX3_burnToSignal_51 : decode cX3_burnToSignal 51 = .ok (.istore 6, 2) := by decide +kernel
theorem dX3_burnToSignal_53 : decode cX3_burnToSignal 53 = .ok (.aload_n 0, 1) := by decide +kernel
theorem dX3_burnToSignal_54 : decode cX3_burnToSignal 54 = .ok (.getfield 17, 3) := by decide +kernel
theorem dX3_burnToSignal_57 : decode cX3_burnToSignal 57 = .ok (.iload_n 1, 1) := by decide +kernel
theorem dX3_burnToSignal_58 : decode cX3_burnToSignal 58 = .ok (.iconst 1, 1) := by decide +kernel
theorem dX3_burnToSignal_59 : decode cX3_burnToSignal 59 = .ok (.iadd, 1) := by decide +kernel
theorem dX3_burnToSignal_60 : decode cX3_burnToSignal 60 = .ok (.aaload, 1) := by decide +kernel
theorem dX3_burnToSignal_61 : decode cX3_burnToSignal 61 = .ok (.iload 5, 2) := by decide +kernel
theorem dX3_burnToSignal_63 : decode cX3_burnToSignal 63 = .ok (.iload 6, 2) := by decide +kernel
theorem dX3_burnToSignal_65 : decode cX3_burnToSignal 65 = .ok (.iastore, 1) := by decide +kernel
theorem dX3_burnToSignal_66 : decode cX3_burnToSignal 66 = .ok (.iload 6, 2) := by decide +kernel
theorem dX3_burnToSignal_68 : decode cX3_burnToSignal 68 = .ok (.ifCond .ne 15, 3) := by decide +kernel
theorem dX3_burnToSignal_71 : decode cX3_burnToSignal 71 = .ok (.aload_n 0, 1) := by decide +kernel
theorem dX3_burnToSignal_72 : decode cX3_burnToSignal 72 = .ok (.getfield 20, 3) := by decide +kernel
theorem dX3_burnToSignal_75 : decode cX3_burnToSignal 75 = .ok (.iload_n 1, 1) := by decide +kernel
theorem dX3_burnToSignal_76 : decode cX3_burnToSignal 76 = .ok (.iconst 1, 1) := by decide +kernel
theorem dX3_burnToSignal_77 : decode cX3_burnToSignal 77 = .ok (.iadd, 1) := by decide +kernel
theorem dX3_burnToSignal_78 : decode cX3_burnToSignal 78 = .ok (.aaload, 1) := by decide +kernel
theorem dX3_burnToSignal_79 : decode cX3_burnToSignal 79 = .ok (.iload 5, 2) := by decide +kernel
theorem dX3_burnToSignal_81 : decode cX3_burnToSignal 81 = .ok (.iconst 0, 1) := by decide +kernel
theorem dX3_burnToSignal_82 : decode cX3_burnToSignal 82 = .ok (.iastore, 1) := by decide +kernel
theorem dX3_burnToSignal_83 : decode cX3_burnToSignal 83 = .ok (.iinc 5 1, 3) := by decide +kernel
theorem dX3_burnToSignal_86 : decode cX3_burnToSignal 86 = .ok (.goto (-69), 3) := by decide +kernel
theorem dX3_burnToSignal_89 : decode cX3_burnToSignal 89 = .ok (.aload_n 0, 1) := by decide +kernel
theorem dX3_burnToSignal_90 : decode cX3_burnToSignal 90 = .ok (.iload_n 2, 1) := by decide +kernel
theorem dX3_burnToSignal_91 : decode cX3_burnToSignal 91 = .ok (.iload 4, 2) := by decide +kernel
theorem dX3_burnToSignal_93 : decode cX3_burnToSignal 93 = .ok (.iadd, 1) := by decide +kernel
theorem dX3_burnToSignal_94 : decode cX3_burnToSignal 94 = .ok (.iload_n 3, 1) := by decide +kernel
theorem dX3_burnToSignal_95 : decode cX3_burnToSignal 95 = .ok (.invokevirtual 50, 3) := by decide +kernel
theorem dX3_burnToSignal_98 : decode cX3_burnToSignal 98 = .ok (.aload_n 0, 1) := by decide +kernel
theorem dX3_burnToSignal_99 : decode cX3_burnToSignal 99 = .ok (.iload_n 1, 1) := by decide +kernel
theorem dX3_burnToSignal_100 : decode cX3_burnToSignal 100 = .ok (.iconst 1, 1) := by decide +kernel
theorem dX3_burnToSignal_101 : decode cX3_burnToSignal 101 = .ok (.iadd, 1) := by decide +kernel
theorem dX3_burnToSignal_102 : decode cX3_burnToSignal 102 = .ok (.iload_n 2, 1) := by decide +kernel
theorem dX3_burnToSignal_103 : decode cX3_burnToSignal 103 = .ok (.iload 4, 2) := by decide +kernel
theorem dX3_burnToSignal_105 : decode cX3_burnToSignal 105 = .ok (.iadd, 1) := by decide +kernel
theorem dX3_burnToSignal_106 : decode cX3_burnToSignal 106 = .ok (.iload_n 3, 1) := by decide +kernel
theorem dX3_burnToSignal_107 : decode cX3_burnToSignal 107 = .ok (.invokevirtual 27, 3) := by decide +kernel
theorem dX3_burnToSignal_110 : decode cX3_burnToSignal 110 = .ok (.return_, 1) := by decide +kernel
set_option maxRecDepth 20000 in
theorem ggX3_stepsToSignal_X6_stepsByDividing : GoodIn wsX3_stepsToSignal wsX6_stepsByDividing := goodIn_r _ [9] (by decide +kernel) (by decide +kernel)
set_option maxRecDepth 20000 in
theorem gX3_stepsToSignal_X6_stepsByDividing_n54 : GoodIn wsX3_stepsToSignal (wsX6_stepsByDividing) := ggX3_stepsToSignal_X6_stepsByDividing
theorem dX3_stepsToSignal_0 : decode cX3_stepsToSignal 0 = .ok (.iconst (-1), 1) := by decide +kernel
theorem dX3_stepsToSignal_1 : decode cX3_stepsToSignal 1 = .ok (.istore_n 2, 1) := by decide +kernel
theorem dX3_stepsToSignal_2 : decode cX3_stepsToSignal 2 = .ok (.iconst 0, 1) := by decide +kernel
theorem dX3_stepsToSignal_3 : decode cX3_stepsToSignal 3 = .ok (.istore_n 3, 1) := by decide +kernel
theorem dX3_stepsToSignal_4 : decode cX3_stepsToSignal 4 = .ok (.iload_n 3, 1) := by decide +kernel
theorem dX3_stepsToSignal_5 : decode cX3_stepsToSignal 5 = .ok (.iconst 3, 1) := by decide +kernel
theorem dX3_stepsToSignal_6 : decode cX3_stepsToSignal 6 = .ok (.if_icmp .ge 58, 3) := by decide +kernel
theorem dX3_stepsToSignal_9 : decode cX3_stepsToSignal 9 = .ok (.aload_n 0, 1) := by decide +kernel
theorem dX3_stepsToSignal_10 : decode cX3_stepsToSignal 10 = .ok (.getfield 20, 3) := by decide +kernel
theorem dX3_stepsToSignal_13 : decode cX3_stepsToSignal 13 = .ok (.iload_n 1, 1) := by decide +kernel
theorem dX3_stepsToSignal_14 : decode cX3_stepsToSignal 14 = .ok (.iconst 1, 1) := by decide +kernel
theorem dX3_stepsToSignal_15 : decode cX3_stepsToSignal 15 = .ok (.iadd, 1) := by decide +kernel
theorem dX3_stepsToSignal_16 : decode cX3_stepsToSignal 16 = .ok (.aaload, 1) := by decide +kernel
theorem dX3_stepsToSignal_17 : decode cX3_stepsToSignal 17 = .ok (.iload_n 3, 1) := by decide +kernel
theorem dX3_stepsToSignal_18 : decode cX3_stepsToSignal 18 = .ok (.iaload, 1) := by decide +kernel
theorem dX3_stepsToSignal_19 : decode cX3_stepsToSignal 19 = .ok (.istore 4, 2) := by decide +kernel
theorem dX3_stepsToSignal_21 : decode cX3_stepsToSignal 21 = .ok (.iload 4, 2) := by decide +kernel
theorem dX3_stepsToSignal_23 : decode cX3_stepsToSignal 23 = .ok (.ifCond .le 35, 3) := by decide +kernel
theorem dX3_stepsToSignal_26 : decode cX3_stepsToSignal 26 = .ok (.aload_n 0, 1) := by decide +kernel
theorem dX3_stepsToSignal_27 : decode cX3_stepsToSignal 27 = .ok (.getfield 17, 3) := by decide +kernel
theorem dX3_stepsToSignal_30 : decode cX3_stepsToSignal 30 = .ok (.iload_n 1, 1) := by decide +kernel
theorem dX3_stepsToSignal_31 : decode cX3_stepsToSignal 31 = .ok (.aaload, 1) := by decide +kernel
theorem dX3_stepsToSignal_32 : decode cX3_stepsToSignal 32 = .ok (.iload_n 3, 1) := by decide +kernel
theorem dX3_stepsToSignal_33 : decode cX3_stepsToSignal 33 = .ok (.iaload, 1) := by decide +kernel
theorem dX3_stepsToSignal_34 : decode cX3_stepsToSignal 34 = .ok (.iload 4, 2) := by decide +kernel
theorem dX3_stepsToSignal_36 : decode cX3_stepsToSignal 36 = .ok (.invokestatic 54, 3) := by decide +kernel
theorem dX3_stepsToSignal_39 : decode cX3_stepsToSignal 39 = .ok (.istore 5, 2) := by decide +kernel
theorem dX3_stepsToSignal_41 : decode cX3_stepsToSignal 41 = .ok (.iload_n 2, 1) := by decide +kernel
theorem dX3_stepsToSignal_42 : decode cX3_stepsToSignal 42 = .ok (.iconst (-1), 1) := by decide +kernel
theorem dX3_stepsToSignal_43 : decode cX3_stepsToSignal 43 = .ok (.if_icmp .ne 8, 3) := by decide +kernel
theorem dX3_stepsToSignal_46 : decode cX3_stepsToSignal 46 = .ok (.iload 5, 2) := by decide +kernel
theorem dX3_stepsToSignal_48 : decode cX3_stepsToSignal 48 = .ok (.goto 9, 3) := by decide +kernel
theorem dX3_stepsToSignal_51 : decode cX3_stepsToSignal 51 = .ok (.iload_n 2, 1) := by decide +kernel
theorem dX3_stepsToSignal_52 : decode cX3_stepsToSignal 52 = .ok (.iload 5, 2) := by decide +kernel
theorem dX3_stepsToSignal_54 : decode cX3_stepsToSignal 54 = .ok (.invokestatic 57, 3) := by decide +kernel
theorem dX3_stepsToSignal_57 : decode cX3_stepsToSignal 57 = .ok (.istore_n 2, 1) := by decide +kernel
theorem dX3_stepsToSignal_58 : decode cX3_stepsToSignal 58 = .ok (.iinc 3 1, 3) := by decide +kernel
theorem dX3_stepsToSignal_61 : decode cX3_stepsToSignal 61 = .ok (.goto (-57), 3) := by decide +kernel
theorem dX3_stepsToSignal_64 : decode cX3_stepsToSignal 64 = .ok (.iload_n 2, 1) := by decide +kernel
theorem dX3_stepsToSignal_65 : decode cX3_stepsToSignal 65 = .ok (.ireturn, 1) := by decide +kernel
theorem dX3_noteTold_0 : decode cX3_noteTold 0 = .ok (.iload_n 1, 1) := by decide +kernel
theorem dX3_noteTold_1 : decode cX3_noteTold 1 = .ok (.ifCond .lt 10, 3) := by decide +kernel
theorem dX3_noteTold_4 : decode cX3_noteTold 4 = .ok (.iload_n 1, 1) := by decide +kernel
theorem dX3_noteTold_5 : decode cX3_noteTold 5 = .ok (.sipush 1080, 3) := by decide +kernel
theorem dX3_noteTold_8 : decode cX3_noteTold 8 = .ok (.if_icmp .le 4, 3) := by decide +kernel
theorem dX3_noteTold_11 : decode cX3_noteTold 11 = .ok (.return_, 1) := by decide +kernel
theorem dX3_noteTold_12 : decode cX3_noteTold 12 = .ok (.aload_n 0, 1) := by decide +kernel
theorem dX3_noteTold_13 : decode cX3_noteTold 13 = .ok (.getfield 9, 3) := by decide +kernel
theorem dX3_noteTold_16 : decode cX3_noteTold 16 = .ok (.iload_n 1, 1) := by decide +kernel
theorem dX3_noteTold_17 : decode cX3_noteTold 17 = .ok (.iaload, 1) := by decide +kernel
theorem dX3_noteTold_18 : decode cX3_noteTold 18 = .ok (.iconst (-1), 1) := by decide +kernel
theorem dX3_noteTold_19 : decode cX3_noteTold 19 = .ok (.if_icmp .eq 13, 3) := by decide +kernel
theorem dX3_noteTold_22 : decode cX3_noteTold 22 = .ok (.iload_n 2, 1) := by decide +kernel
theorem dX3_noteTold_23 : decode cX3_noteTold 23 = .ok (.aload_n 0, 1) := by decide +kernel
theorem dX3_noteTold_24 : decode cX3_noteTold 24 = .ok (.getfield 9, 3) := by decide +kernel
theorem dX3_noteTold_27 : decode cX3_noteTold 27 = .ok (.iload_n 1, 1) := by decide +kernel
theorem dX3_noteTold_28 : decode cX3_noteTold 28 = .ok (.iaload, 1) := by decide +kernel
theorem dX3_noteTold_29 : decode cX3_noteTold 29 = .ok (.if_icmp .ge 10, 3) := by decide +kernel
theorem dX3_noteTold_32 : decode cX3_noteTold 32 = .ok (.aload_n 0, 1) := by decide +kernel
theorem dX3_noteTold_33 : decode cX3_noteTold 33 = .ok (.getfield 9, 3) := by decide +kernel
theorem dX3_noteTold_36 : decode cX3_noteTold 36 = .ok (.iload_n 1, 1) := by decide +kernel
theorem dX3_noteTold_37 : decode cX3_noteTold 37 = .ok (.iload_n 2, 1) := by decide +kernel
theorem dX3_noteTold_38 : decode cX3_noteTold 38 = .ok (.iastore, 1) := by decide +kernel
theorem dX3_noteTold_39 : decode cX3_noteTold 39 = .ok (.return_, 1) := by decide +kernel
theorem dX3_toldTimes_0 : decode cX3_toldTimes 0 = .ok (.iconst 0, 1) := by decide +kernel
theorem dX3_toldTimes_1 : decode cX3_toldTimes 1 = .ok (.istore_n 1, 1) := by decide +kernel
theorem dX3_toldTimes_2 : decode cX3_toldTimes 2 = .ok (.iconst 1, 1) := by decide +kernel
theorem dX3_toldTimes_3 : decode cX3_toldTimes 3 = .ok (.istore_n 2, 1) := by decide +kernel
theorem dX3_toldTimes_4 : decode cX3_toldTimes 4 = .ok (.iload_n 2, 1) := by decide +kernel
theorem dX3_toldTimes_5 : decode cX3_toldTimes 5 = .ok (.sipush 1080, 3) := by decide +kernel
theorem dX3_toldTimes_8 : decode cX3_toldTimes 8 = .ok (.if_icmp .gt 22, 3) := by decide +kernel
theorem dX3_toldTimes_11 : decode cX3_toldTimes 11 = .ok (.aload_n 0, 1) := by decide +kernel
theorem dX3_toldTimes_12 : decode cX3_toldTimes 12 = .ok (.getfield 9, 3) := by decide +kernel
theorem dX3_toldTimes_15 : decode cX3_toldTimes 15 = .ok (.iload_n 2, 1) := by decide +kernel
theorem dX3_toldTimes_16 : decode cX3_toldTimes 16 = .ok (.iaload, 1) := by decide +kernel
theorem dX3_toldTimes_17 : decode cX3_toldTimes 17 = .ok (.iconst (-1), 1) := by decide +kernel
theorem dX3_toldTimes_18 : decode cX3_toldTimes 18 = .ok (.if_icmp .eq 6, 3) := by decide +kernel
theorem dX3_toldTimes_21 : decode cX3_toldTimes 21 = .ok (.iinc 1 1, 3) := by decide +kernel
theorem dX3_toldTimes_24 : decode cX3_toldTimes 24 = .ok (.iinc 2 1, 3) := by decide +kernel
theorem dX3_toldTimes_27 : decode cX3_toldTimes 27 = .ok (.goto (-23), 3) := by decide +kernel
theorem dX3_toldTimes_30 : decode cX3_toldTimes 30 = .ok (.iload_n 1, 1) := by decide +kernel
theorem dX3_toldTimes_31 : decode cX3_toldTimes 31 = .ok (.ireturn, 1) := by decide +kernel
theorem dX3_toldTime_0 : decode cX3_toldTime 0 = .ok (.iconst 0, 1) := by decide +kernel
theorem dX3_toldTime_1 : decode cX3_toldTime 1 = .ok (.istore_n 2, 1) := by decide +kernel
theorem dX3_toldTime_2 : decode cX3_toldTime 2 = .ok (.iconst 1, 1) := by decide +kernel
theorem dX3_toldTime_3 : decode cX3_toldTime 3 = .ok (.istore_n 3, 1) := by decide +kernel
theorem dX3_toldTime_4 : decode cX3_toldTime 4 = .ok (.iload_n 3, 1) := by decide +kernel
theorem dX3_toldTime_5 : decode cX3_toldTime 5 = .ok (.sipush 1080, 3) := by decide +kernel
theorem dX3_toldTime_8 : decode cX3_toldTime 8 = .ok (.if_icmp .gt 29, 3) := by decide +kernel
theorem dX3_toldTime_11 : decode cX3_toldTime 11 = .ok (.aload_n 0, 1) := by decide +kernel
theorem dX3_toldTime_12 : decode cX3_toldTime 12 = .ok (.getfield 9, 3) := by decide +kernel
theorem dX3_toldTime_15 : decode cX3_toldTime 15 = .ok (.iload_n 3, 1) := by decide +kernel
theorem dX3_toldTime_16 : decode cX3_toldTime 16 = .ok (.iaload, 1) := by decide +kernel
theorem dX3_toldTime_17 : decode cX3_toldTime 17 = .ok (.iconst (-1), 1) := by decide +kernel
theorem dX3_toldTime_18 : decode cX3_toldTime 18 = .ok (.if_icmp .eq 13, 3) := by decide +kernel
theorem dX3_toldTime_21 : decode cX3_toldTime 21 = .ok (.iload_n 2, 1) := by decide +kernel
theorem dX3_toldTime_22 : decode cX3_toldTime 22 = .ok (.iload_n 1, 1) := by decide +kernel
theorem dX3_toldTime_23 : decode cX3_toldTime 23 = .ok (.if_icmp .ne 5, 3) := by decide +kernel
theorem dX3_toldTime_26 : decode cX3_toldTime 26 = .ok (.iload_n 3, 1) := by decide +kernel
theorem dX3_toldTime_27 : decode cX3_toldTime 27 = .ok (.ireturn, 1) := by decide +kernel
theorem dX3_toldTime_28 : decode cX3_toldTime 28 = .ok (.iinc 2 1, 3) := by decide +kernel
theorem dX3_toldTime_31 : decode cX3_toldTime 31 = .ok (.iinc 3 1, 3) := by decide +kernel
theorem dX3_toldTime_34 : decode cX3_toldTime 34 = .ok (.goto (-30), 3) := by decide +kernel
theorem dX3_toldTime_37 : decode cX3_toldTime 37 = .ok (.iconst (-1), 1) := by decide +kernel
theorem dX3_toldTime_38 : decode cX3_toldTime 38 = .ok (.ireturn, 1) := by decide +kernel
theorem dX4_init_0 : decode cX4_init 0 = .ok (.aload_n 0, 1) := by decide +kernel
theorem dX4_init_1 : decode cX4_init 1 = .ok (.invokespecial 1, 3) := by decide +kernel
theorem dX4_init_4 : decode cX4_init 4 = .ok (.return_, 1) := by decide +kernel
theorem dX4_copyFrom_0 : decode cX4_copyFrom 0 = .ok (.aload_n 0, 1) := by decide +kernel
theorem dX4_copyFrom_1 : decode cX4_copyFrom 1 = .ok (.aload_n 1, 1) := by decide +kernel
theorem dX4_copyFrom_2 : decode cX4_copyFrom 2 = .ok (.getfield 7, 3) := by decide +kernel
theorem dX4_copyFrom_5 : decode cX4_copyFrom 5 = .ok (.putfield 7, 3) := by decide +kernel
theorem dX4_copyFrom_8 : decode cX4_copyFrom 8 = .ok (.aload_n 0, 1) := by decide +kernel
theorem dX4_copyFrom_9 : decode cX4_copyFrom 9 = .ok (.aload_n 1, 1) := by decide +kernel
theorem dX4_copyFrom_10 : decode cX4_copyFrom 10 = .ok (.getfield 13, 3) := by decide +kernel
theorem dX4_copyFrom_13 : decode cX4_copyFrom 13 = .ok (.putfield 13, 3) := by decide +kernel
theorem dX4_copyFrom_16 : decode cX4_copyFrom 16 = .ok (.aload_n 0, 1) := by decide +kernel
theorem dX4_copyFrom_17 : decode cX4_copyFrom 17 = .ok (.aload_n 1, 1) := by decide +kernel
theorem dX4_copyFrom_18 : decode cX4_copyFrom 18 = .ok (.getfield 16, 3) := by decide +kernel
theorem dX4_copyFrom_21 : decode cX4_copyFrom 21 = .ok (.putfield 16, 3) := by decide +kernel
theorem dX4_copyFrom_24 : decode cX4_copyFrom 24 = .ok (.aload_n 0, 1) := by decide +kernel
theorem dX4_copyFrom_25 : decode cX4_copyFrom 25 = .ok (.aload_n 1, 1) := by decide +kernel
theorem dX4_copyFrom_26 : decode cX4_copyFrom 26 = .ok (.getfield 20, 3) := by decide +kernel
theorem dX4_copyFrom_29 : decode cX4_copyFrom 29 = .ok (.putfield 20, 3) := by decide +kernel
theorem dX4_copyFrom_32 : decode cX4_copyFrom 32 = .ok (.return_, 1) := by decide +kernel
set_option maxRecDepth 20000 in
theorem ggX5_init_X0_init : GoodIn wsX5_init wsX0_init := goodIn_r _ [17, 18, 2, 3, 19, 20, 21, 22, 42, 43, 44, 45, 46] (by decide +kernel) (by decide +kernel)
set_option maxRecDepth 20000 in
theorem gX5_init_X0_init_n25 : GoodIn wsX5_init (wsX0_init) := ggX5_init_X0_init
set_option maxRecDepth 20000 in
theorem ggX5_init_X1_init : GoodIn wsX5_init wsX1_init := goodIn_r _ [24, 25, 2, 3, 19, 26, 27, 47, 48, 49, 50, 51, 52, 53, 54] (by decide +kernel) (by decide +kernel)
set_option maxRecDepth 20000 in
theorem gX5_init_X1_init_n30 : GoodIn wsX5_init (wsX1_init) := ggX5_init_X1_init
set_option maxRecDepth 20000 in
theorem ggX5_init_X4_init : GoodIn wsX5_init wsX4_init := goodIn_r _ [29, 30, 2, 3] (by decide +kernel) (by decide +kernel)
set_option maxRecDepth 20000 in
theorem gX5_init_X4_init_n31 : GoodIn wsX5_init (wsX4_init) := ggX5_init_X4_init
theorem dX5_init_0 : decode cX5_init 0 = .ok (.aload_n 0, 1) := by decide +kernel
theorem dX5_init_1 : decode cX5_init 1 = .ok (.invokespecial 3, 3) := by decide +kernel
theorem dX5_init_4 : decode cX5_init 4 = .ok (.aload_n 0, 1) := by decide +kernel
theorem dX5_init_5 : decode cX5_init 5 = .ok (.iconst 4, 1) := by decide +kernel
theorem dX5_init_6 : decode cX5_init 6 = .ok (.anewarray 9, 3) := by decide +kernel
theorem dX5_init_9 : decode cX5_init 9 = .ok (.putfield 11, 3) := by decide +kernel
theorem dX5_init_12 : decode cX5_init 12 = .ok (.aload_n 0, 1) := by decide +kernel
theorem dX5_init_13 : decode cX5_init 13 = .ok (.bipush 8, 2) := by decide +kernel
theorem dX5_init_15 : decode cX5_init 15 = .ok (.anewarray 17, 3) := by decide +kernel
theorem dX5_init_18 : decode cX5_init 18 = .ok (.putfield 19, 3) := by decide +kernel
theorem dX5_init_21 : decode cX5_init 21 = .ok (.aload_n 0, 1) := by decide +kernel
theorem dX5_init_22 : decode cX5_init 22 = .ok (.new 23, 3) := by decide +kernel
theorem dX5_init_25 : decode cX5_init 25 = .ok (.dup, 1) := by decide +kernel
theorem dX5_init_26 : decode cX5_init 26 = .ok (.invokespecial 25, 3) := by decide +kernel
theorem dX5_init_29 : decode cX5_init 29 = .ok (.putfield 26, 3) := by decide +kernel
theorem dX5_init_32 : decode cX5_init 32 = .ok (.iconst 0, 1) := by decide +kernel
theorem dX5_init_33 : decode cX5_init 33 = .ok (.istore_n 1, 1) := by decide +kernel
theorem dX5_init_34 : decode cX5_init 34 = .ok (.iload_n 1, 1) := by decide +kernel
theorem dX5_init_35 : decode cX5_init 35 = .ok (.iconst 4, 1) := by decide +kernel
theorem dX5_init_36 : decode cX5_init 36 = .ok (.if_icmp .ge 22, 3) := by decide +kernel
theorem dX5_init_39 : decode cX5_init 39 = .ok (.aload_n 0, 1) := by decide +kernel
theorem dX5_init_40 : decode cX5_init 40 = .ok (.getfield 11, 3) := by decide +kernel
theorem dX5_init_43 : decode cX5_init 43 = .ok (.iload_n 1, 1) := by decide +kernel
theorem dX5_init_44 : decode cX5_init 44 = .ok (.new 9, 3) := by decide +kernel
theorem dX5_init_47 : decode cX5_init 47 = .ok (.dup, 1) := by decide +kernel
theorem dX5_init_48 : decode cX5_init 48 = .ok (.invokespecial 30, 3) := by decide +kernel
theorem dX5_init_51 : decode cX5_init 51 = .ok (.aastore, 1) := by decide +kernel
theorem dX5_init_52 : decode cX5_init 52 = .ok (.iinc 1 1, 3) := by decide +kernel
theorem dX5_init_55 : decode cX5_init 55 = .ok (.goto (-21), 3) := by decide +kernel
theorem dX5_init_58 : decode cX5_init 58 = .ok (.iconst 0, 1) := by decide +kernel
theorem dX5_init_59 : decode cX5_init 59 = .ok (.istore_n 1, 1) := by decide +kernel
theorem dX5_init_60 : decode cX5_init 60 = .ok (.iload_n 1, 1) := by decide +kernel
theorem dX5_init_61 : decode cX5_init 61 = .ok (.bipush 8, 2) := by decide +kernel
theorem dX5_init_63 : decode cX5_init 63 = .ok (.if_icmp .ge 22, 3) := by decide +kernel
theorem dX5_init_66 : decode cX5_init 66 = .ok (.aload_n 0, 1) := by decide +kernel
theorem dX5_init_67 : decode cX5_init 67 = .ok (.getfield 19, 3) := by decide +kernel
theorem dX5_init_70 : decode cX5_init 70 = .ok (.iload_n 1, 1) := by decide +kernel
theorem dX5_init_71 : decode cX5_init 71 = .ok (.new 17, 3) := by decide +kernel
theorem dX5_init_74 : decode cX5_init 74 = .ok (.dup, 1) := by decide +kernel
theorem dX5_init_75 : decode cX5_init 75 = .ok (.invokespecial 31, 3) := by decide +kernel
theorem dX5_init_78 : decode cX5_init 78 = .ok (.aastore, 1) := by decide +kernel
theorem dX5_init_79 : decode cX5_init 79 = .ok (.iinc 1 1, 3) := by decide +kernel
theorem dX5_init_82 : decode cX5_init 82 = .ok (.goto (-22), 3) := by decide +kernel
theorem dX5_init_85 : decode cX5_init 85 = .ok (.return_, 1) := by decide +kernel
set_option maxRecDepth 20000 in
theorem ggX5_copyFrom_X1_copyFrom : GoodIn wsX5_copyFrom wsX1_copyFrom := goodIn_r _ [16, 17, 18, 19, 20, 21, 22, 23, 24, 55, 56, 57, 58, 59, 60, 61, 62] (by decide +kernel) (by decide +kernel)
set_option maxRecDepth 20000 in
theorem gX5_copyFrom_X1_copyFrom : GoodIn wsX5_copyFrom (wsV RX5 32 RX1 yX1_copyFrom wsX1_copyFrom) := goodIn_app (goodIn_of _ (by decide +kernel)) ggX5_copyFrom_X1_copyFrom
set_option maxRecDepth 20000 in
theorem ggX5_copyFrom_X4_copyFrom : GoodIn wsX5_copyFrom wsX4_copyFrom := goodIn_r _ [29, 30, 31, 32, 33, 63, 64, 65, 66] (by decide +kernel) (by decide +kernel)
set_option maxRecDepth 20000 in
theorem gX5_copyFrom_X4_copyFrom : GoodIn wsX5_copyFrom (wsV RX5 40 RX4 yX4_copyFrom wsX4_copyFrom) := goodIn_app (goodIn_of _ (by decide +kernel)) ggX5_copyFrom_X4_copyFrom
set_option maxRecDepth 20000 in
theorem ggX5_copyFrom_X0_copyFrom : GoodIn wsX5_copyFrom wsX0_copyFrom := goodIn_r _ [38, 39, 40, 41, 42, 43, 67, 68, 69, 70, 71] (by decide +kernel) (by decide +kernel)
set_option maxRecDepth 20000 in
theorem gX5_copyFrom_X0_copyFrom : GoodIn wsX5_copyFrom (wsV RX5 46 RX0 yX0_copyFrom wsX0_copyFrom) := goodIn_app (goodIn_of _ (by decide +kernel)) ggX5_copyFrom_X0_copyFrom
theorem dX5_copyFrom_0 : decode cX5_copyFrom 0 = .ok (.iconst 0, 1) := by decide +kernel
theorem dX5_copyFrom_1 : decode cX5_copyFrom 1 = .ok (.istore_n 2, 1) := by decide +kernel
theorem dX5_copyFrom_2 : decode cX5_copyFrom 2 = .ok (.iload_n 2, 1) := by decide +kernel
theorem dX5_copyFrom_3 : decode cX5_copyFrom 3 = .ok (.iconst 4, 1) := by decide +kernel
theorem dX5_copyFrom_4 : decode cX5_copyFrom 4 = .ok (.if_icmp .ge 24, 3) := by decide +kernel
theorem dX5_copyFrom_7 : decode cX5_copyFrom 7 = .ok (.aload_n 0, 1) := by decide +kernel
theorem dX5_copyFrom_8 : decode cX5_copyFrom 8 = .ok (.getfield 11, 3) := by decide +kernel
theorem dX5_copyFrom_11 : decode cX5_copyFrom 11 = .ok (.iload_n 2, 1) := by decide +kernel
theorem dX5_copyFrom_12 : decode cX5_copyFrom 12 = .ok (.aaload, 1) := by decide +kernel
theorem dX5_copyFrom_13 : decode cX5_copyFrom 13 = .ok (.aload_n 1, 1) := by decide +kernel
theorem dX5_copyFrom_14 : decode cX5_copyFrom 14 = .ok (.getfield 11, 3) := by decide +kernel
theorem dX5_copyFrom_17 : decode cX5_copyFrom 17 = .ok (.iload_n 2, 1) := by decide +kernel
theorem dX5_copyFrom_18 : decode cX5_copyFrom 18 = .ok (.aaload, 1) := by decide +kernel
theorem dX5_copyFrom_19 : decode cX5_copyFrom 19 = .ok (.invokevirtual 32, 3) := by decide +kernel
theorem dX5_copyFrom_22 : decode cX5_copyFrom 22 = .ok (.iinc 2 1, 3) := by decide +kernel
theorem dX5_copyFrom_25 : decode cX5_copyFrom 25 = .ok (.goto (-23), 3) := by decide +kernel
theorem dX5_copyFrom_28 : decode cX5_copyFrom 28 = .ok (.aload_n 0, 1) := by decide +kernel
theorem dX5_copyFrom_29 : decode cX5_copyFrom 29 = .ok (.aload_n 1, 1) := by decide +kernel
theorem dX5_copyFrom_30 : decode cX5_copyFrom 30 = .ok (.getfield 36, 3) := by decide +kernel
theorem dX5_copyFrom_33 : decode cX5_copyFrom 33 = .ok (.putfield 36, 3) := by decide +kernel
theorem dX5_copyFrom_36 : decode cX5_copyFrom 36 = .ok (.iconst 0, 1) := by decide +kernel
theorem dX5_copyFrom_37 : decode cX5_copyFrom 37 = .ok (.istore_n 2, 1) := by decide +kernel
theorem dX5_copyFrom_38 : decode cX5_copyFrom 38 = .ok (.iload_n 2, 1) := by decide +kernel
theorem dX5_copyFrom_39 : decode cX5_copyFrom 39 = .ok (.bipush 8, 2) := by decide +kernel
theorem dX5_copyFrom_41 : decode cX5_copyFrom 41 = .ok (.if_icmp .ge 24, 3) := by decide +kernel
theorem dX5_copyFrom_44 : decode cX5_copyFrom 44 = .ok (.aload_n 0, 1) := by decide +kernel
theorem dX5_copyFrom_45 : decode cX5_copyFrom 45 = .ok (.getfield 19, 3) := by decide +kernel
theorem dX5_copyFrom_48 : decode cX5_copyFrom 48 = .ok (.iload_n 2, 1) := by decide +kernel
theorem dX5_copyFrom_49 : decode cX5_copyFrom 49 = .ok (.aaload, 1) := by decide +kernel
theorem dX5_copyFrom_50 : decode cX5_copyFrom 50 = .ok (.aload_n 1, 1) := by decide +kernel
theorem dX5_copyFrom_51 : decode cX5_copyFrom 51 = .ok (.getfield 19, 3) := by decide +kernel
theorem dX5_copyFrom_54 : decode cX5_copyFrom 54 = .ok (.iload_n 2, 1) := by decide +kernel
theorem dX5_copyFrom_55 : decode cX5_copyFrom 55 = .ok (.aaload, 1) := by decide +kernel
theorem dX5_copyFrom_56 : decode cX5_copyFrom 56 = .ok (.invokevirtual 40, 3) := by decide +kernel
theorem dX5_copyFrom_59 : decode cX5_copyFrom 59 = .ok (.iinc 2 1, 3) := by decide +kernel
theorem dX5_copyFrom_62 : decode cX5_copyFrom 62 = .ok (.goto (-24), 3) := by decide +kernel
theorem dX5_copyFrom_65 : decode cX5_copyFrom 65 = .ok (.aload_n 0, 1) := by decide +kernel
theorem dX5_copyFrom_66 : decode cX5_copyFrom 66 = .ok (.aload_n 1, 1) := by decide +kernel
theorem dX5_copyFrom_67 : decode cX5_copyFrom 67 = .ok (.getfield 43, 3) := by decide +kernel
theorem dX5_copyFrom_70 : decode cX5_copyFrom 70 = .ok (.putfield 43, 3) := by decide +kernel
theorem dX5_copyFrom_73 : decode cX5_copyFrom 73 = .ok (.aload_n 0, 1) := by decide +kernel
theorem dX5_copyFrom_74 : decode cX5_copyFrom 74 = .ok (.getfield 26, 3) := by decide +kernel
theorem dX5_copyFrom_77 : decode cX5_copyFrom 77 = .ok (.aload_n 1, 1) := by decide +kernel
theorem dX5_copyFrom_78 : decode cX5_copyFrom 78 = .ok (.getfield 26, 3) := by decide +kernel
theorem dX5_copyFrom_81 : decode cX5_copyFrom 81 = .ok (.invokevirtual 46, 3) := by decide +kernel
theorem dX5_copyFrom_84 : decode cX5_copyFrom 84 = .ok (.aload_n 0, 1) := by decide +kernel
theorem dX5_copyFrom_85 : decode cX5_copyFrom 85 = .ok (.aload_n 1, 1) := by decide +kernel
theorem dX5_copyFrom_86 : decode cX5_copyFrom 86 = .ok (.getfield 49, 3) := by decide +kernel
theorem dX5_copyFrom_89 : decode cX5_copyFrom 89 = .ok (.putfield 49, 3) := by decide +kernel
theorem dX5_copyFrom_92 : decode cX5_copyFrom 92 = .ok (.aload_n 0, 1) := by decide +kernel
theorem dX5_copyFrom_93 : decode cX5_copyFrom 93 = .ok (.aload_n 1, 1) := by decide +kernel
theorem dX5_copyFrom_94 : decode cX5_copyFrom 94 = .ok (.getfield 52, 3) := by decide +kernel
theorem dX5_copyFrom_97 : decode cX5_copyFrom 97 = .ok (.putfield 52, 3) := by decide +kernel
theorem dX5_copyFrom_100 : decode cX5_copyFrom 100 = .ok (.aload_n 0, 1) := by decide +kernel
theorem dX5_copyFrom_101 : decode cX5_copyFrom 101 = .ok (.aload_n 1, 1) := by decide +kernel
theorem dX5_copyFrom_102 : decode cX5_copyFrom 102 = .ok (.getfield 55, 3) := by decide +kernel
theorem dX5_copyFrom_105 : decode cX5_copyFrom 105 = .ok (.putfield 55, 3) := by decide +kernel
theorem dX5_copyFrom_108 : decode cX5_copyFrom 108 = .ok (.aload_n 0, 1) := by decide +kernel
theorem dX5_copyFrom_109 : decode cX5_copyFrom 109 = .ok (.aload_n 1, 1) := by decide +kernel
theorem dX5_copyFrom_110 : decode cX5_copyFrom 110 = .ok (.getfield 58, 3) := by decide +kernel
theorem dX5_copyFrom_113 : decode cX5_copyFrom 113 = .ok (.putfield 58, 3) := by decide +kernel
theorem dX5_copyFrom_116 : decode cX5_copyFrom 116 = .ok (.aload_n 0, 1) := by decide +kernel
theorem dX5_copyFrom_117 : decode cX5_copyFrom 117 = .ok (.aload_n 1, 1) := by decide +kernel
theorem dX5_copyFrom_118 : decode cX5_copyFrom 118 = .ok (.getfield 61, 3) := by decide +kernel
theorem dX5_copyFrom_121 : decode cX5_copyFrom 121 = .ok (.putfield 61, 3) := by decide +kernel
theorem dX5_copyFrom_124 : decode cX5_copyFrom 124 = .ok (.aload_n 0, 1) := by decide +kernel
theorem dX5_copyFrom_125 : decode cX5_copyFrom 125 = .ok (.aload_n 1, 1) := by decide +kernel
theorem dX5_copyFrom_126 : decode cX5_copyFrom 126 = .ok (.getfield 64, 3) := by decide +kernel
theorem dX5_copyFrom_129 : decode cX5_copyFrom 129 = .ok (.putfield 64, 3) := by decide +kernel
theorem dX5_copyFrom_132 : decode cX5_copyFrom 132 = .ok (.return_, 1) := by decide +kernel
theorem dX5_hasCord_0 : decode cX5_hasCord 0 = .ok (.iload_n 1, 1) := by decide +kernel
theorem dX5_hasCord_1 : decode cX5_hasCord 1 = .ok (.ifCond .lt 15, 3) := by decide +kernel
theorem dX5_hasCord_4 : decode cX5_hasCord 4 = .ok (.iload_n 1, 1) := by decide +kernel
theorem dX5_hasCord_5 : decode cX5_hasCord 5 = .ok (.aload_n 0, 1) := by decide +kernel
theorem dX5_hasCord_6 : decode cX5_hasCord 6 = .ok (.getfield 36, 3) := by decide +kernel
theorem dX5_hasCord_9 : decode cX5_hasCord 9 = .ok (.if_icmp .ge 7, 3) := by decide +kernel
theorem dX5_hasCord_12 : decode cX5_hasCord 12 = .ok (.iconst 1, 1) := by decide +kernel
theorem dX5_hasCord_13 : decode cX5_hasCord 13 = .ok (.goto 4, 3) := by decide +kernel
theorem dX5_hasCord_16 : decode cX5_hasCord 16 = .ok (.iconst 0, 1) := by decide +kernel
theorem dX5_hasCord_17 : decode cX5_hasCord 17 = .ok (.ireturn, 1) := by decide +kernel
theorem dX5_hasRoomForCord_0 : decode cX5_hasRoomForCord 0 = .ok (.aload_n 0, 1) := by decide +kernel
theorem dX5_hasRoomForCord_1 : decode cX5_hasRoomForCord 1 = .ok (.getfield 36, 3) := by decide +kernel
theorem dX5_hasRoomForCord_4 : decode cX5_hasRoomForCord 4 = .ok (.iconst 4, 1) := by decide +kernel
theorem dX5_hasRoomForCord_5 : decode cX5_hasRoomForCord 5 = .ok (.if_icmp .ge 7, 3) := by decide +kernel
theorem dX5_hasRoomForCord_8 : decode cX5_hasRoomForCord 8 = .ok (.iconst 1, 1) := by decide +kernel
theorem dX5_hasRoomForCord_9 : decode cX5_hasRoomForCord 9 = .ok (.goto 4, 3) := by decide +kernel
theorem dX5_hasRoomForCord_12 : decode cX5_hasRoomForCord 12 = .ok (.iconst 0, 1) := by decide +kernel
theorem dX5_hasRoomForCord_13 : decode cX5_hasRoomForCord 13 = .ok (.ireturn, 1) := by decide +kernel
set_option maxRecDepth 20000 in
theorem ggX5_addCord_X1_clear : GoodIn wsX5_addCord wsX1_clear := goodIn_r _ [7, 8, 9, 10, 11, 12, 13, 6, 14, 15, 16, 17, 18, 30, 31, 32, 33, 34, 35, 36, 37] (by decide +kernel) (by decide +kernel)
set_option maxRecDepth 20000 in
theorem gX5_addCord_X1_clear : GoodIn wsX5_addCord (wsV RX5 67 RX1 yX1_clear wsX1_clear) := goodIn_app (goodIn_of _ (by decide +kernel)) ggX5_addCord_X1_clear
theorem dX5_addCord_0 : decode cX5_addCord 0 = .ok (.aload_n 0, 1) := by decide +kernel
theorem dX5_addCord_1 : decode cX5_addCord 1 = .ok (.getfield 11, 3) := by decide +kernel
theorem dX5_addCord_4 : decode cX5_addCord 4 = .ok (.aload_n 0, 1) := by decide +kernel
theorem dX5_addCord_5 : decode cX5_addCord 5 = .ok (.getfield 36, 3) := by decide +kernel
theorem dX5_addCord_8 : decode cX5_addCord 8 = .ok (.aaload, 1) := by decide +kernel
theorem dX5_addCord_9 : decode cX5_addCord 9 = .ok (.astore_n 1, 1) := by decide +kernel
theorem dX5_addCord_10 : decode cX5_addCord 10 = .ok (.aload_n 1, 1) := by decide +kernel
theorem dX5_addCord_11 : decode cX5_addCord 11 = .ok (.invokevirtual 67, 3) := by decide +kernel
theorem dX5_addCord_14 : decode cX5_addCord 14 = .ok (.aload_n 0, 1) := by decide +kernel
theorem dX5_addCord_15 : decode cX5_addCord 15 = .ok (.dup, 1) := by decide +kernel
theorem dX5_addCord_16 : decode cX5_addCord 16 = .ok (.getfield 36, 3) := by decide +kernel
theorem dX5_addCord_19 : decode cX5_addCord 19 = .ok (.iconst 1, 1) := by decide +kernel
theorem dX5_addCord_20 : decode cX5_addCord 20 = .ok (.iadd, 1) := by decide +kernel
theorem dX5_addCord_21 : decode cX5_addCord 21 = .ok (.putfield 36, 3) := by decide +kernel
theorem dX5_addCord_24 : decode cX5_addCord 24 = .ok (.aload_n 1, 1) := by decide +kernel
theorem dX5_addCord_25 : decode cX5_addCord 25 = .ok (.areturn, 1) := by decide +kernel
theorem dX5_hasRoomForRule_0 : decode cX5_hasRoomForRule 0 = .ok (.aload_n 0, 1) := by decide +kernel
theorem dX5_hasRoomForRule_1 : decode cX5_hasRoomForRule 1 = .ok (.getfield 43, 3) := by decide +kernel
theorem dX5_hasRoomForRule_4 : decode cX5_hasRoomForRule 4 = .ok (.bipush 8, 2) := by decide +kernel
theorem dX5_hasRoomForRule_6 : decode cX5_hasRoomForRule 6 = .ok (.if_icmp .ge 7, 3) := by decide +kernel
theorem dX5_hasRoomForRule_9 : decode cX5_hasRoomForRule 9 = .ok (.iconst 1, 1) := by decide +kernel
theorem dX5_hasRoomForRule_10 : decode cX5_hasRoomForRule 10 = .ok (.goto 4, 3) := by decide +kernel
theorem dX5_hasRoomForRule_13 : decode cX5_hasRoomForRule 13 = .ok (.iconst 0, 1) := by decide +kernel
theorem dX5_hasRoomForRule_14 : decode cX5_hasRoomForRule 14 = .ok (.ireturn, 1) := by decide +kernel
theorem dX5_addRule_0 : decode cX5_addRule 0 = .ok (.aload_n 0, 1) := by decide +kernel
theorem dX5_addRule_1 : decode cX5_addRule 1 = .ok (.getfield 19, 3) := by decide +kernel
theorem dX5_addRule_4 : decode cX5_addRule 4 = .ok (.aload_n 0, 1) := by decide +kernel
theorem dX5_addRule_5 : decode cX5_addRule 5 = .ok (.getfield 43, 3) := by decide +kernel
theorem dX5_addRule_8 : decode cX5_addRule 8 = .ok (.aaload, 1) := by decide +kernel
theorem dX5_addRule_9 : decode cX5_addRule 9 = .ok (.astore 4, 2) := by decide +kernel
theorem dX5_addRule_11 : decode cX5_addRule 11 = .ok (.aload 4, 2) := by decide +kernel
theorem dX5_addRule_13 : decode cX5_addRule 13 = .ok (.iload_n 1, 1) := by decide +kernel
theorem dX5_addRule_14 : decode cX5_addRule 14 = .ok (.putfield 70, 3) := by decide +kernel
theorem dX5_addRule_17 : decode cX5_addRule 17 = .ok (.aload 4, 2) := by decide +kernel
theorem dX5_addRule_19 : decode cX5_addRule 19 = .ok (.iload_n 2, 1) := by decide +kernel
theorem dX5_addRule_20 : decode cX5_addRule 20 = .ok (.putfield 73, 3) := by decide +kernel
theorem dX5_addRule_23 : decode cX5_addRule 23 = .ok (.aload 4, 2) := by decide +kernel
theorem dX5_addRule_25 : decode cX5_addRule 25 = .ok (.iload_n 3, 1) := by decide +kernel
theorem dX5_addRule_26 : decode cX5_addRule 26 = .ok (.putfield 76, 3) := by decide +kernel
theorem dX5_addRule_29 : decode cX5_addRule 29 = .ok (.aload 4, 2) := by decide +kernel
theorem dX5_addRule_31 : decode cX5_addRule 31 = .ok (.iconst 0, 1) := by decide +kernel
theorem dX5_addRule_32 : decode cX5_addRule 32 = .ok (.putfield 80, 3) := by decide +kernel
theorem dX5_addRule_35 : decode cX5_addRule 35 = .ok (.aload_n 0, 1) := by decide +kernel
theorem dX5_addRule_36 : decode cX5_addRule 36 = .ok (.dup, 1) := by decide +kernel
theorem dX5_addRule_37 : decode cX5_addRule 37 = .ok (.getfield 43, 3) := by decide +kernel
theorem dX5_addRule_40 : decode cX5_addRule 40 = .ok (.iconst 1, 1) := by decide +kernel
theorem dX5_addRule_41 : decode cX5_addRule 41 = .ok (.iadd, 1) := by decide +kernel
theorem dX5_addRule_42 : decode cX5_addRule 42 = .ok (.putfield 43, 3) := by decide +kernel
theorem dX5_addRule_45 : decode cX5_addRule 45 = .ok (.return_, 1) := by decide +kernel
set_option maxRecDepth 20000 in
theorem ggX5_flameCount_X1_flameCount : GoodIn wsX5_flameCount wsX1_flameCount := goodIn_r _ [7, 8, 9, 21, 22, 23, 24, 25, 26, 27, 28] (by decide +kernel) (by decide +kernel)
set_option maxRecDepth 20000 in
theorem gX5_flameCount_X1_flameCount : GoodIn wsX5_flameCount (wsV RX5 83 RX1 yX1_flameCount wsX1_flameCount) := goodIn_app (goodIn_of _ (by decide +kernel)) ggX5_flameCount_X1_flameCount
theorem dX5_flameCount_0 : decode cX5_flameCount 0 = .ok (.iconst 0, 1) := by decide +kernel
theorem dX5_flameCount_1 : decode cX5_flameCount 1 = .ok (.istore_n 1, 1) := by decide +kernel
theorem dX5_flameCount_2 : decode cX5_flameCount 2 = .ok (.iconst 0, 1) := by decide +kernel
theorem dX5_flameCount_3 : decode cX5_flameCount 3 = .ok (.istore_n 2, 1) := by decide +kernel
theorem dX5_flameCount_4 : decode cX5_flameCount 4 = .ok (.iload_n 2, 1) := by decide +kernel
theorem dX5_flameCount_5 : decode cX5_flameCount 5 = .ok (.aload_n 0, 1) := by decide +kernel
theorem dX5_flameCount_6 : decode cX5_flameCount 6 = .ok (.getfield 36, 3) := by decide +kernel
theorem dX5_flameCount_9 : decode cX5_flameCount 9 = .ok (.if_icmp .ge 21, 3) := by decide +kernel
theorem dX5_flameCount_12 : decode cX5_flameCount 12 = .ok (.iload_n 1, 1) := by decide +kernel
theorem dX5_flameCount_13 : decode cX5_flameCount 13 = .ok (.aload_n 0, 1) := by decide +kernel
theorem dX5_flameCount_14 : decode cX5_flameCount 14 = .ok (.getfield 11, 3) := by decide +kernel
theorem dX5_flameCount_17 : decode cX5_flameCount 17 = .ok (.iload_n 2, 1) := by decide +kernel
theorem dX5_flameCount_18 : decode cX5_flameCount 18 = .ok (.aaload, 1) := by decide +kernel
theorem dX5_flameCount_19 : decode cX5_flameCount 19 = .ok (.invokevirtual 83, 3) := by decide +kernel
theorem dX5_flameCount_22 : decode cX5_flameCount 22 = .ok (.iadd, 1) := by decide +kernel
theorem dX5_flameCount_23 : decode cX5_flameCount 23 = .ok (.istore_n 1, 1) := by decide +kernel
theorem dX5_flameCount_24 : decode cX5_flameCount 24 = .ok (.iinc 2 1, 3) := by decide +kernel
theorem dX5_flameCount_27 : decode cX5_flameCount 27 = .ok (.goto (-23), 3) := by decide +kernel
theorem dX5_flameCount_30 : decode cX5_flameCount 30 = .ok (.iload_n 1, 1) := by decide +kernel
theorem dX5_flameCount_31 : decode cX5_flameCount 31 = .ok (.ireturn, 1) := by decide +kernel
set_option maxRecDepth 20000 in
theorem ggX5_cordsOut_X1_isOut : GoodIn wsX5_cordsOut wsX1_isOut := goodIn_r _ [7, 8, 9, 10, 22, 23, 24, 25, 26, 27, 28, 29] (by decide +kernel) (by decide +kernel)
set_option maxRecDepth 20000 in
theorem gX5_cordsOut_X1_isOut : GoodIn wsX5_cordsOut (wsV RX5 87 RX1 yX1_isOut wsX1_isOut) := goodIn_app (goodIn_of _ (by decide +kernel)) ggX5_cordsOut_X1_isOut
theorem dX5_cordsOut_0 : decode cX5_cordsOut 0 = .ok (.iconst 0, 1) := by decide +kernel
theorem dX5_cordsOut_1 : decode cX5_cordsOut 1 = .ok (.istore_n 1, 1) := by decide +kernel
theorem dX5_cordsOut_2 : decode cX5_cordsOut 2 = .ok (.iconst 0, 1) := by decide +kernel
theorem dX5_cordsOut_3 : decode cX5_cordsOut 3 = .ok (.istore_n 2, 1) := by decide +kernel
theorem dX5_cordsOut_4 : decode cX5_cordsOut 4 = .ok (.iload_n 2, 1) := by decide +kernel
theorem dX5_cordsOut_5 : decode cX5_cordsOut 5 = .ok (.aload_n 0, 1) := by decide +kernel
theorem dX5_cordsOut_6 : decode cX5_cordsOut 6 = .ok (.getfield 36, 3) := by decide +kernel
theorem dX5_cordsOut_9 : decode cX5_cordsOut 9 = .ok (.if_icmp .ge 27, 3) := by decide +kernel
theorem dX5_cordsOut_12 : decode cX5_cordsOut 12 = .ok (.aload_n 0, 1) := by decide +kernel
theorem dX5_cordsOut_13 : decode cX5_cordsOut 13 = .ok (.getfield 11, 3) := by decide +kernel
theorem dX5_cordsOut_16 : decode cX5_cordsOut 16 = .ok (.iload_n 2, 1) := by decide +kernel
theorem dX5_cordsOut_17 : decode cX5_cordsOut 17 = .ok (.aaload, 1) := by decide +kernel
theorem dX5_cordsOut_18 : decode cX5_cordsOut 18 = .ok (.invokevirtual 87, 3) := by decide +kernel
theorem dX5_cordsOut_21 : decode cX5_cordsOut 21 = .ok (.ifCond .eq 9, 3) := by decide +kernel
theorem dX5_cordsOut_24 : decode cX5_cordsOut 24 = .ok (.iload_n 1, 1) := by decide +kernel
theorem dX5_cordsOut_25 : decode cX5_cordsOut 25 = .ok (.iconst 1, 1) := by decide +kernel
theorem dX5_cordsOut_26 : decode cX5_cordsOut 26 = .ok (.iload_n 2, 1) := by decide +kernel
theorem dX5_cordsOut_27 : decode cX5_cordsOut 27 = .ok (.ishl, 1) := by decide +kernel
theorem dX5_cordsOut_28 : decode cX5_cordsOut 28 = .ok (.ior, 1) := by decide +kernel
theorem dX5_cordsOut_29 : decode cX5_cordsOut 29 = .ok (.istore_n 1, 1) := by decide +kernel
theorem dX5_cordsOut_30 : decode cX5_cordsOut 30 = .ok (.iinc 2 1, 3) := by decide +kernel
theorem dX5_cordsOut_33 : decode cX5_cordsOut 33 = .ok (.goto (-29), 3) := by decide +kernel
theorem dX5_cordsOut_36 : decode cX5_cordsOut 36 = .ok (.iload_n 1, 1) := by decide +kernel
theorem dX5_cordsOut_37 : decode cX5_cordsOut 37 = .ok (.ireturn, 1) := by decide +kernel
set_option maxRecDepth 20000 in
theorem ggX5_lightEnd_X1_setFlame : GoodIn wsX5_lightEnd wsX1_setFlame := goodIn_r _ [9, 10, 11, 33, 34, 35, 36, 37, 38, 39, 40] (by decide +kernel) (by decide +kernel)
set_option maxRecDepth 20000 in
theorem gX5_lightEnd_X1_setFlame : GoodIn wsX5_lightEnd (wsV RX5 91 RX1 yX1_setFlame wsX1_setFlame) := goodIn_app (goodIn_of _ (by decide +kernel)) ggX5_lightEnd_X1_setFlame
set_option maxRecDepth 20000 in
theorem ggX5_lightEnd_X0_write : GoodIn wsX5_lightEnd wsX0_write := goodIn_r _ [16, 17, 18, 19, 20, 21, 41, 42, 43, 44, 45] (by decide +kernel) (by decide +kernel)
set_option maxRecDepth 20000 in
theorem gX5_lightEnd_X0_write : GoodIn wsX5_lightEnd (wsV RX5 95 RX0 yX0_write wsX0_write) := goodIn_app (goodIn_of _ (by decide +kernel)) ggX5_lightEnd_X0_write
theorem dX5_lightEnd_0 : decode cX5_lightEnd 0 = .ok (.aload_n 0, 1) := by decide +kernel
theorem dX5_lightEnd_1 : decode cX5_lightEnd 1 = .ok (.getfield 11, 3) := by decide +kernel
theorem dX5_lightEnd_4 : decode cX5_lightEnd 4 = .ok (.iload_n 1, 1) := by decide +kernel
theorem dX5_lightEnd_5 : decode cX5_lightEnd 5 = .ok (.aaload, 1) := by decide +kernel
theorem dX5_lightEnd_6 : decode cX5_lightEnd 6 = .ok (.iload_n 2, 1) := by decide +kernel
theorem dX5_lightEnd_7 : decode cX5_lightEnd 7 = .ok (.iconst 1, 1) := by decide +kernel
theorem dX5_lightEnd_8 : decode cX5_lightEnd 8 = .ok (.invokevirtual 91, 3) := by decide +kernel
theorem dX5_lightEnd_11 : decode cX5_lightEnd 11 = .ok (.aload_n 0, 1) := by decide +kernel
theorem dX5_lightEnd_12 : decode cX5_lightEnd 12 = .ok (.dup, 1) := by decide +kernel
theorem dX5_lightEnd_13 : decode cX5_lightEnd 13 = .ok (.getfield 55, 3) := by decide +kernel
theorem dX5_lightEnd_16 : decode cX5_lightEnd 16 = .ok (.iconst 1, 1) := by decide +kernel
theorem dX5_lightEnd_17 : decode cX5_lightEnd 17 = .ok (.iadd, 1) := by decide +kernel
theorem dX5_lightEnd_18 : decode cX5_lightEnd 18 = .ok (.putfield 55, 3) := by decide +kernel
theorem dX5_lightEnd_21 : decode cX5_lightEnd 21 = .ok (.aload_n 0, 1) := by decide +kernel
theorem dX5_lightEnd_22 : decode cX5_lightEnd 22 = .ok (.getfield 26, 3) := by decide +kernel
theorem dX5_lightEnd_25 : decode cX5_lightEnd 25 = .ok (.iload_n 2, 1) := by decide +kernel
theorem dX5_lightEnd_26 : decode cX5_lightEnd 26 = .ok (.ifCond .eq 7, 3) := by decide +kernel
theorem dX5_lightEnd_29 : decode cX5_lightEnd 29 = .ok (.iconst 0, 1) := by decide +kernel
theorem dX5_lightEnd_30 : decode cX5_lightEnd 30 = .ok (.goto 4, 3) := by decide +kernel
theorem dX5_lightEnd_33 : decode cX5_lightEnd 33 = .ok (.iconst 1, 1) := by decide +kernel
theorem dX5_lightEnd_34 : decode cX5_lightEnd 34 = .ok (.aload_n 0, 1) := by decide +kernel
theorem dX5_lightEnd_35 : decode cX5_lightEnd 35 = .ok (.getfield 49, 3) := by decide +kernel
theorem dX5_lightEnd_38 : decode cX5_lightEnd 38 = .ok (.iload_n 1, 1) := by decide +kernel
theorem dX5_lightEnd_39 : decode cX5_lightEnd 39 = .ok (.invokevirtual 95, 3) := by decide +kernel
theorem dX5_lightEnd_42 : decode cX5_lightEnd 42 = .ok (.return_, 1) := by decide +kernel
set_option maxRecDepth 20000 in
theorem ggX5_passSteps_X5_passStep : GoodIn wsX5_passSteps wsX5_passStep := goodIn_r _ [5, 6, 7, 8, 9, 10, 4, 11, 12, 13, 14, 15, 16, 17, 18, 19, 20, 21, 22, 23, 24, 25, 26, 27, 28, 29, 30, 31, 32, 33, 34, 35, 36, 37, 38, 39, 40, 41, 42, 43, 44, 45, 46, 47, 48, 49, 50, 51, 52, 53, 54, 55, 56, 57, 58, 59, 60, 61, 62, 63, 64, 65, 66, 67, 68, 69, 70, 71, 72, 73, 74, 75, 76, 77, 78, 79, 80, 81, 82, 83, 84, 85, 86, 87, 88, 89, 90, 91, 92, 93, 94, 95, 96, 97, 98, 99, 100, 101, 102, 103, 104, 105, 106, 107, 108, 109, 110, 111, 112, 113, 114, 115, 116, 117, 118, 119, 120] (by decide +kernel) (by decide +kernel)
set_option maxRecDepth 20000 in
theorem gX5_passSteps_X5_passStep : GoodIn wsX5_passSteps (wsV RX5 99 RX5 yX5_passStep wsX5_passStep) := goodIn_app (goodIn_of _ (by decide +kernel)) ggX5_passSteps_X5_passStep
theorem dX5_passSteps_0 : decode cX5_passSteps 0 = .ok (.iconst 0, 1) := by decide +kernel
theorem dX5_passSteps_1 : decode cX5_passSteps 1 = .ok (.istore_n 2, 1) := by decide +kernel
theorem dX5_passSteps_2 : decode cX5_passSteps 2 = .ok (.iconst 0, 1) := by decide +kernel
theorem dX5_passSteps_3 : decode cX5_passSteps 3 = .ok (.istore_n 3, 1) := by decide +kernel
theorem dX5_passSteps_4 : decode cX5_passSteps 4 = .ok (.iload_n 3, 1) := by decide +kernel
theorem dX5_passSteps_5 : decode cX5_passSteps 5 = .ok (.iload_n 1, 1) := by decide +kernel
theorem dX5_passSteps_6 : decode cX5_passSteps 6 = .ok (.if_icmp .ge 16, 3) := by decide +kernel
theorem dX5_passSteps_9 : decode cX5_passSteps 9 = .ok (.iload_n 2, 1) := by decide +kernel
theorem dX5_passSteps_10 : decode cX5_passSteps 10 = .ok (.aload_n 0, 1) := by decide +kernel
theorem dX5_passSteps_11 : decode cX5_passSteps 11 = .ok (.invokevirtual 99, 3) := by decide +kernel
theorem dX5_passSteps_14 : decode cX5_passSteps 14 = .ok (.iadd, 1) := by decide +kernel
theorem dX5_passSteps_15 : decode cX5_passSteps 15 = .ok (.istore_n 2, 1) := by decide +kernel
theorem dX5_passSteps_16 : decode cX5_passSteps 16 = .ok (.iinc 3 1, 3) := by decide +kernel
theorem dX5_passSteps_19 : decode cX5_passSteps 19 = .ok (.goto (-15), 3) := by decide +kernel
theorem dX5_passSteps_22 : decode cX5_passSteps 22 = .ok (.iload_n 2, 1) := by decide +kernel
theorem dX5_passSteps_23 : decode cX5_passSteps 23 = .ok (.ireturn, 1) := by decide +kernel
set_option maxRecDepth 20000 in
theorem ggX5_passStep_X5_noteSmoke : GoodIn wsX5_passStep wsX5_noteSmoke := goodIn_r _ [7, 8, 9, 10, 11, 12, 13, 14, 15, 16, 17, 6, 18, 2, 19, 20, 21, 22, 23, 24, 25, 26, 89, 90, 91, 92, 93, 94, 95, 96, 97, 98, 99, 100, 101, 102, 103, 104, 105, 106, 107] (by decide +kernel) (by decide +kernel)
set_option maxRecDepth 20000 in
theorem gX5_passStep_X5_noteSmoke : GoodIn wsX5_passStep (wsV RX5 102 RX5 yX5_noteSmoke wsX5_noteSmoke) := goodIn_app (goodIn_of _ (by decide +kernel)) ggX5_passStep_X5_noteSmoke
set_option maxRecDepth 20000 in
theorem ggX5_passStep_X5_burnCords : GoodIn wsX5_passStep wsX5_burnCords := goodIn_r _ [30, 2, 19, 31, 32, 33, 23, 34, 25, 35, 26, 36, 37, 21, 22, 24, 38, 39, 40, 41, 42, 89, 90, 91, 92, 93, 94, 95, 96, 97, 98, 99, 100, 101, 102, 103, 104, 105, 106, 107] (by decide +kernel) (by decide +kernel)
set_option maxRecDepth 20000 in
theorem gX5_passStep_X5_burnCords : GoodIn wsX5_passStep (wsV RX5 105 RX5 yX5_burnCords wsX5_burnCords) := goodIn_app (goodIn_of _ (by decide +kernel)) ggX5_passStep_X5_burnCords
set_option maxRecDepth 20000 in
theorem ggX5_passStep_X5_giveSignal : GoodIn wsX5_passStep wsX5_giveSignal := goodIn_r _ [46, 47, 19, 1, 48, 49, 50, 51, 52, 53, 54, 55, 56, 57, 58, 59, 60, 61, 62, 63, 6, 64, 2, 65, 66, 67, 23, 68, 38, 39, 40, 41, 35, 36, 42, 69, 70, 71, 72, 25, 26, 73, 74, 75, 76, 77, 78, 79, 80, 81, 89, 90, 91, 92, 93, 94, 95, 96, 97, 98, 99, 100, 101, 102, 103, 104, 105, 106, 107, 108, 109, 110, 111, 112, 113, 114, 115, 116] (by decide +kernel) (by decide +kernel)
set_option maxRecDepth 20000 in
theorem gX5_passStep_X5_giveSignal : GoodIn wsX5_passStep (wsV RX5 108 RX5 yX5_giveSignal wsX5_giveSignal) := goodIn_app (goodIn_of _ (by decide +kernel)) ggX5_passStep_X5_giveSignal
set_option maxRecDepth 20000 in
theorem ggX5_passStep_J6_bitCount_0f7a4 : GoodIn wsX5_passStep wsJ6_bitCount_0f7a4 := goodIn_r _ [85, 86, 87, 88] (by decide +kernel) (by decide +kernel)
set_option maxRecDepth 20000 in
theorem gX5_passStep_J6_bitCount_0f7a4 : GoodIn wsX5_passStep (va_wsS RX5 112 yJ6_bitCount_0f7a4 wsJ6_bitCount_0f7a4) := goodIn_app (goodIn_of _ (by decide +kernel)) ggX5_passStep_J6_bitCount_0f7a4
theorem dX5_passStep_0 : decode cX5_passStep 0 = .ok (.aload_n 0, 1) := by decide +kernel
theorem dX5_passStep_1 : decode cX5_passStep 1 = .ok (.invokevirtual 102, 3) := by decide +kernel
theorem dX5_passStep_4 : decode cX5_passStep 4 = .ok (.aload_n 0, 1) := by decide +kernel
theorem dX5_passStep_5 : decode cX5_passStep 5 = .ok (.invokevirtual 105, 3) := by decide +kernel
theorem dX5_passStep_8 : decode cX5_passStep 8 = .ok (.istore_n 1, 1) := by decide +kernel
theorem dX5_passStep_9 : decode cX5_passStep 9 = .ok (.aload_n 0, 1) := by decide +kernel
theorem dX5_passStep_10 : decode cX5_passStep 10 = .ok (.dup, 1) := by decide +kernel
theorem dX5_passStep_11 : decode cX5_passStep 11 = .ok (.getfield 49, 3) := by decide +kernel
theorem dX5_passStep_14 : decode cX5_passStep 14 = .ok (.iconst 1, 1) := by decide +kernel
theorem dX5_passStep_15 : decode cX5_passStep 15 = .ok (.iadd, 1) := by decide +kernel
theorem dX5_passStep_16 : decode cX5_passStep 16 = .ok (.putfield 49, 3) := by decide +kernel
theorem dX5_passStep_19 : decode cX5_passStep 19 = .ok (.iconst 0, 1) := by decide +kernel
theorem dX5_passStep_20 : decode cX5_passStep 20 = .ok (.istore_n 2, 1) := by decide +kernel
theorem dX5_passStep_21 : decode cX5_passStep 21 = .ok (.iload_n 2, 1) := by decide +kernel
theorem dX5_passStep_22 : decode cX5_passStep 22 = .ok (.aload_n 0, 1) := by decide +kernel
theorem dX5_passStep_23 : decode cX5_passStep 23 = .ok (.getfield 36, 3) := by decide +kernel
theorem dX5_passStep_26 : decode cX5_passStep 26 = .ok (.if_icmp .ge 22, 3) := by decide +kernel
theorem dX5_passStep_29 : decode cX5_passStep 29 = .ok (.iload_n 1, 1) := by decide +kernel
theorem dX5_passStep_30 : decode cX5_passStep 30 = .ok (.iload_n 2, 1) := by decide +kernel
theorem dX5_passStep_31 : decode cX5_passStep 31 = .ok (.ishr, 1) := by decide +kernel
theorem dX5_passStep_32 : decode cX5_passStep 32 = .ok (.iconst 1, 1) := by decide +kernel
theorem dX5_passStep_33 : decode cX5_passStep 33 = .ok (.iand, 1) := by decide +kernel
theorem dX5_passStep_34 : decode cX5_passStep 34 = .ok (.ifCond .eq 8, 3) := by decide +kernel
theorem dX5_passStep_37 : decode cX5_passStep 37 = .ok (.aload_n 0, 1) := by decide +kernel
theorem dX5_passStep_38 : decode cX5_passStep 38 = .ok (.iload_n 2, 1) := by decide +kernel
theorem dX5_passStep_39 : decode cX5_passStep 39 = .ok (.invokevirtual 108, 3) := by decide +kernel
theorem dX5_passStep_42 : decode cX5_passStep 42 = .ok (.iinc 2 1, 3) := by decide +kernel
theorem dX5_passStep_45 : decode cX5_passStep 45 = .ok (.goto (-24), 3) := by decide +kernel
theorem dX5_passStep_48 : decode cX5_passStep 48 = .ok (.iload_n 1, 1) := by decide +kernel
theorem dX5_passStep_49 : decode cX5_passStep 49 = .ok (.invokestatic 112, 3) := by decide +kernel
theorem dX5_passStep_52 : decode cX5_passStep 52 = .ok (.ireturn, 1) := by decide +kernel
set_option maxRecDepth 20000 in
theorem ggX5_noteSmoke_X5_flameCount : GoodIn wsX5_noteSmoke wsX5_flameCount := goodIn_r _ [12, 13, 14, 15, 16, 17, 18, 19, 20, 21, 22, 23, 24, 25, 26, 27, 28, 29, 30, 31, 32, 33, 34, 35, 36, 37, 38, 39, 40] (by decide +kernel) (by decide +kernel)
set_option maxRecDepth 20000 in
theorem gX5_noteSmoke_X5_flameCount : GoodIn wsX5_noteSmoke (wsV RX5 118 RX5 yX5_flameCount wsX5_flameCount) := goodIn_app (goodIn_of _ (by decide +kernel)) ggX5_noteSmoke_X5_flameCount
theorem dX5_noteSmoke_0 : decode cX5_noteSmoke 0 = .ok (.aload_n 0, 1) := by decide +kernel
theorem dX5_noteSmoke_1 : decode cX5_noteSmoke 1 = .ok (.invokevirtual 118, 3) := by decide +kernel
theorem dX5_noteSmoke_4 : decode cX5_noteSmoke 4 = .ok (.ifCond .le 21, 3) := by decide +kernel
theorem dX5_noteSmoke_7 : decode cX5_noteSmoke 7 = .ok (.aload_n 0, 1) := by decide +kernel
theorem dX5_noteSmoke_8 : decode cX5_noteSmoke 8 = .ok (.dup, 1) := by decide +kernel
theorem dX5_noteSmoke_9 : decode cX5_noteSmoke 9 = .ok (.getfield 58, 3) := by decide +kernel
theorem dX5_noteSmoke_12 : decode cX5_noteSmoke 12 = .ok (.iconst 1, 1) := by decide +kernel
theorem dX5_noteSmoke_13 : decode cX5_noteSmoke 13 = .ok (.iadd, 1) := by decide +kernel
theorem dX5_noteSmoke_14 : decode cX5_noteSmoke 14 = .ok (.putfield 58, 3) := by decide +kernel
theorem dX5_noteSmoke_17 : decode cX5_noteSmoke 17 = .ok (.aload_n 0, 1) := by decide +kernel
theorem dX5_noteSmoke_18 : decode cX5_noteSmoke 18 = .ok (.iconst 0, 1) := by decide +kernel
theorem dX5_noteSmoke_19 : decode cX5_noteSmoke 19 = .ok (.putfield 61, 3) := by decide +kernel
theorem dX5_noteSmoke_22 : decode cX5_noteSmoke 22 = .ok (.goto 28, 3) := by decide +kernel
theorem dX5_noteSmoke_25 : decode cX5_noteSmoke 25 = .ok (.aload_n 0, 1) := by decide +kernel
theorem dX5_noteSmoke_26 : decode cX5_noteSmoke 26 = .ok (.dup, 1) := by decide +kernel
theorem dX5_noteSmoke_27 : decode cX5_noteSmoke 27 = .ok (.getfield 61, 3) := by decide +kernel
theorem dX5_noteSmoke_30 : decode cX5_noteSmoke 30 = .ok (.iconst 1, 1) := by decide +kernel
theorem dX5_noteSmoke_31 : decode cX5_noteSmoke 31 = .ok (.iadd, 1) := by decide +kernel
theorem dX5_noteSmoke_32 : decode cX5_noteSmoke 32 = .ok (.putfield 61, 3) := by decide +kernel
theorem dX5_noteSmoke_35 : decode cX5_noteSmoke 35 = .ok (.aload_n 0, 1) := by decide +kernel
theorem dX5_noteSmoke_36 : decode cX5_noteSmoke 36 = .ok (.aload_n 0, 1) := by decide +kernel
theorem dX5_noteSmoke_37 : decode cX5_noteSmoke 37 = .ok (.getfield 64, 3) := by decide +kernel
theorem dX5_noteSmoke_40 : decode cX5_noteSmoke 40 = .ok (.aload_n 0, 1) := by decide +kernel
theorem dX5_noteSmoke_41 : decode cX5_noteSmoke 41 = .ok (.getfield 61, 3) := by decide +kernel
theorem dX5_noteSmoke_44 : decode cX5_noteSmoke 44 = .ok (.invokestatic 119, 3) := by decide +kernel
theorem dX5_noteSmoke_47 : decode cX5_noteSmoke 47 = .ok (.putfield 64, 3) := by decide +kernel
theorem dX5_noteSmoke_50 : decode cX5_noteSmoke 50 = .ok (.return_, 1) := by decide +kernel
set_option maxRecDepth 20000 in
theorem ggX5_burnCords_X1_burnsOut : GoodIn wsX5_burnCords wsX1_burnsOut := goodIn_r _ [7, 8, 9, 10, 11, 12, 13, 14, 6, 15, 16, 17, 18, 19, 20, 32, 33, 34, 35, 36, 37, 38, 39] (by decide +kernel) (by decide +kernel)
set_option maxRecDepth 20000 in
theorem gX5_burnCords_X1_burnsOut : GoodIn wsX5_burnCords (wsV RX5 125 RX1 yX1_burnsOut wsX1_burnsOut) := goodIn_app (goodIn_of _ (by decide +kernel)) ggX5_burnCords_X1_burnsOut
theorem dX5_burnCords_0 : decode cX5_burnCords 0 = .ok (.iconst 0, 1) := by decide +kernel
theorem dX5_burnCords_1 : decode cX5_burnCords 1 = .ok (.istore_n 1, 1) := by decide +kernel
theorem dX5_burnCords_2 : decode cX5_burnCords 2 = .ok (.iconst 0, 1) := by decide +kernel
theorem dX5_burnCords_3 : decode cX5_burnCords 3 = .ok (.istore_n 2, 1) := by decide +kernel
theorem dX5_burnCords_4 : decode cX5_burnCords 4 = .ok (.iload_n 2, 1) := by decide +kernel
theorem dX5_burnCords_5 : decode cX5_burnCords 5 = .ok (.aload_n 0, 1) := by decide +kernel
theorem dX5_burnCords_6 : decode cX5_burnCords 6 = .ok (.getfield 36, 3) := by decide +kernel
theorem dX5_burnCords_9 : decode cX5_burnCords 9 = .ok (.if_icmp .ge 27, 3) := by decide +kernel
theorem dX5_burnCords_12 : decode cX5_burnCords 12 = .ok (.aload_n 0, 1) := by decide +kernel
theorem dX5_burnCords_13 : decode cX5_burnCords 13 = .ok (.getfield 11, 3) := by decide +kernel
theorem dX5_burnCords_16 : decode cX5_burnCords 16 = .ok (.iload_n 2, 1) := by decide +kernel
theorem dX5_burnCords_17 : decode cX5_burnCords 17 = .ok (.aaload, 1) := by decide +kernel
theorem dX5_burnCords_18 : decode cX5_burnCords 18 = .ok (.invokevirtual 125, 3) := by decide +kernel
theorem dX5_burnCords_21 : decode cX5_burnCords 21 = .ok (.ifCond .eq 9, 3) := by decide +kernel
theorem dX5_burnCords_24 : decode cX5_burnCords 24 = .ok (.iload_n 1, 1) := by decide +kernel
theorem dX5_burnCords_25 : decode cX5_burnCords 25 = .ok (.iconst 1, 1) := by decide +kernel
theorem dX5_burnCords_26 : decode cX5_burnCords 26 = .ok (.iload_n 2, 1) := by decide +kernel
theorem dX5_burnCords_27 : decode cX5_burnCords 27 = .ok (.ishl, 1) := by decide +kernel
theorem dX5_burnCords_28 : decode cX5_burnCords 28 = .ok (.ior, 1) := by decide +kernel
theorem dX5_burnCords_29 : decode cX5_burnCords 29 = .ok (.istore_n 1, 1) := by decide +kernel
theorem dX5_burnCords_30 : decode cX5_burnCords 30 = .ok (.iinc 2 1, 3) := by decide +kernel
theorem dX5_burnCords_33 : decode cX5_burnCords 33 = .ok (.goto (-29), 3) := by decide +kernel
theorem dX5_burnCords_36 : decode cX5_burnCords 36 = .ok (.iload_n 1, 1) := by decide +kernel
theorem dX5_burnCords_37 : decode cX5_burnCords 37 = .ok (.ireturn, 1) := by decide +kernel
set_option maxRecDepth 20000 in
theorem ggX5_giveSignal_X0_write : GoodIn wsX5_giveSignal wsX0_write := goodIn_r _ [11, 12, 13, 14, 15, 16, 73, 74, 75, 76, 77] (by decide +kernel) (by decide +kernel)
set_option maxRecDepth 20000 in
theorem gX5_giveSignal_X0_write : GoodIn wsX5_giveSignal (wsV RX5 95 RX0 yX0_write wsX0_write) := goodIn_app (goodIn_of _ (by decide +kernel)) ggX5_giveSignal_X0_write
set_option maxRecDepth 20000 in
theorem ggX5_giveSignal_X5_hasCord : GoodIn wsX5_giveSignal wsX5_hasCord := goodIn_r _ [21, 22, 50, 51, 52, 53, 54, 55, 56, 57, 58, 59, 60] (by decide +kernel) (by decide +kernel)
set_option maxRecDepth 20000 in
theorem gX5_giveSignal_X5_hasCord : GoodIn wsX5_giveSignal (wsV RX5 131 RX5 yX5_hasCord wsX5_hasCord) := goodIn_app (goodIn_of _ (by decide +kernel)) ggX5_giveSignal_X5_hasCord
set_option maxRecDepth 20000 in
theorem ggX5_giveSignal_X1_canBeLit : GoodIn wsX5_giveSignal wsX1_canBeLit := goodIn_r _ [27, 28, 29, 30, 26, 31, 32, 33, 34, 35, 36, 37, 38, 39, 40, 61, 62, 63, 64, 65, 66, 67, 68] (by decide +kernel) (by decide +kernel)
set_option maxRecDepth 20000 in
theorem gX5_giveSignal_X1_canBeLit : GoodIn wsX5_giveSignal (wsV RX5 135 RX1 yX1_canBeLit wsX1_canBeLit) := goodIn_app (goodIn_of _ (by decide +kernel)) ggX5_giveSignal_X1_canBeLit
set_option maxRecDepth 20000 in
theorem ggX5_giveSignal_X5_lightEnd : GoodIn wsX5_giveSignal wsX5_lightEnd := goodIn_r _ [44, 2, 45, 4, 3, 46, 47, 48, 26, 49, 39, 40, 7, 8, 9, 10, 11, 12, 13, 14, 15, 16, 50, 51, 52, 53, 54, 55, 56, 57, 58, 59, 60, 61, 62, 63, 64, 65, 66, 67, 68, 73, 74, 75, 76, 77] (by decide +kernel) (by decide +kernel)
set_option maxRecDepth 20000 in
theorem gX5_giveSignal_X5_lightEnd : GoodIn wsX5_giveSignal (wsV RX5 139 RX5 yX5_lightEnd wsX5_lightEnd) := goodIn_app (goodIn_of _ (by decide +kernel)) ggX5_giveSignal_X5_lightEnd
theorem dX5_giveSignal_0 : decode cX5_giveSignal 0 = .ok (.aload_n 0, 1) := by decide +kernel
theorem dX5_giveSignal_1 : decode cX5_giveSignal 1 = .ok (.dup, 1) := by decide +kernel
theorem dX5_giveSignal_2 : decode cX5_giveSignal 2 = .ok (.getfield 52, 3) := by decide +kernel
theorem dX5_giveSignal_5 : decode cX5_giveSignal 5 = .ok (.iconst 1, 1) := by decide +kernel
theorem dX5_giveSignal_6 : decode cX5_giveSignal 6 = .ok (.iadd, 1) := by decide +kernel
theorem dX5_giveSignal_7 : decode cX5_giveSignal 7 = .ok (.putfield 52, 3) := by decide +kernel
theorem dX5_giveSignal_10 : decode cX5_giveSignal 10 = .ok (.aload_n 0, 1) := by decide +kernel
theorem dX5_giveSignal_11 : decode cX5_giveSignal 11 = .ok (.getfield 11, 3) := by decide +kernel
theorem dX5_giveSignal_14 : decode cX5_giveSignal 14 = .ok (.iload_n 1, 1) := by decide +kernel
theorem dX5_giveSignal_15 : decode cX5_giveSignal 15 = .ok (.aaload, 1) := by decide +kernel
theorem dX5_giveSignal_16 : decode cX5_giveSignal 16 = .ok (.aload_n 0, 1) := by decide +kernel
theorem dX5_giveSignal_17 : decode cX5_giveSignal 17 = .ok (.getfield 49, 3) := by decide +kernel
theorem dX5_giveSignal_20 : decode cX5_giveSignal 20 = .ok (.putfield 128, 3) := by decide +kernel
theorem dX5_giveSignal_23 : decode cX5_giveSignal 23 = .ok (.aload_n 0, 1) := by decide +kernel
theorem dX5_giveSignal_24 : decode cX5_giveSignal 24 = .ok (.getfield 26, 3) := by decide +kernel
theorem dX5_giveSignal_27 : decode cX5_giveSignal 27 = .ok (.iconst 2, 1) := by decide +kernel
theorem dX5_giveSignal_28 : decode cX5_giveSignal 28 = .ok (.aload_n 0, 1) := by decide +kernel
theorem dX5_giveSignal_29 : decode cX5_giveSignal 29 = .ok (.getfield 49, 3) := by decide +kernel
theorem dX5_giveSignal_32 : decode cX5_giveSignal 32 = .ok (.iload_n 1, 1) := by decide +kernel
theorem dX5_giveSignal_33 : decode cX5_giveSignal 33 = .ok (.invokevirtual 95, 3) := by decide +kernel
theorem dX5_giveSignal_36 : decode cX5_giveSignal 36 = .ok (.iconst 0, 1) := by decide +kernel
theorem dX5_giveSignal_37 : decode cX5_giveSignal 37 = .ok (.istore_n 2, 1) := by decide +kernel
theorem dX5_giveSignal_38 : decode cX5_giveSignal 38 = .ok (.iload_n 2, 1) := by decide +kernel
theorem dX5_giveSignal_39 : decode cX5_giveSignal 39 = .ok (.aload_n 0, 1) := by decide +kernel
theorem dX5_giveSignal_40 : decode cX5_giveSignal 40 = .ok (.getfield 43, 3) := by decide +kernel
theorem dX5_giveSignal_43 : decode cX5_giveSignal 43 = .ok (.if_icmp .ge 76, 3) := by decide +kernel
theorem dX5_giveSignal_46 : decode cX5_giveSignal 46 = .ok (.aload_n 0, 1) := by decide +kernel
theorem dX5_giveSignal_47 : decode cX5_giveSignal 47 = .ok (.getfield 19, 3) := by decide +kernel
theorem dX5_giveSignal_50 : decode cX5_giveSignal 50 = .ok (.iload_n 2, 1) := by decide +kernel
theorem dX5_giveSignal_51 : decode cX5_giveSignal 51 = .ok (.aaload, 1) := by decide +kernel
theorem dX5_giveSignal_52 : decode cX5_giveSignal 52 = .ok (.astore_n 3, 1) := by decide +kernel
theorem dX5_giveSignal_53 : decode cX5_giveSignal 53 = .ok (.aload_n 3, 1) := by decide +kernel
theorem dX5_giveSignal_54 : decode cX5_giveSignal 54 = .ok (.getfield 70, 3) := by decide +kernel
theorem dX5_giveSignal_57 : decode cX5_giveSignal 57 = .ok (.iload_n 1, 1) := by decide +kernel
theorem dX5_giveSignal_58 : decode cX5_giveSignal 58 = .ok (.if_icmp .ne 55, 3) := by decide +kernel
theorem dX5_giveSignal_61 : decode cX5_giveSignal 61 = .ok (.aload_n 0, 1) := by decide +kernel
theorem dX5_giveSignal_62 : decode cX5_giveSignal 62 = .ok (.aload_n 3, 1) := by decide +kernel
theorem dX5_giveSignal_63 : decode cX5_giveSignal 63 = .ok (.getfield 73, 3) := by decide +kernel
theorem dX5_giveSignal_66 : decode cX5_giveSignal 66 = .ok (.invokevirtual 131, 3) := by decide +kernel
theorem dX5_giveSignal_69 : decode cX5_giveSignal 69 = .ok (.ifCond .eq 44, 3) := by decide +kernel
theorem dX5_giveSignal_72 : decode cX5_giveSignal 72 = .ok (.aload_n 0, 1) := by decide +kernel
theorem dX5_giveSignal_73 : decode cX5_giveSignal 73 = .ok (.getfield 11, 3) := by decide +kernel
theorem dX5_giveSignal_76 : decode cX5_giveSignal 76 = .ok (.aload_n 3, 1) := by decide +kernel
theorem dX5_giveSignal_77 : decode cX5_giveSignal 77 = .ok (.getfield 73, 3) := by decide +kernel
theorem dX5_giveSignal_80 : decode cX5_giveSignal 80 = .ok (.aaload, 1) := by decide +kernel
theorem dX5_giveSignal_81 : decode cX5_giveSignal 81 = .ok (.aload_n 3, 1) := by decide +kernel
theorem dX5_giveSignal_82 : decode cX5_giveSignal 82 = .ok (.getfield 76, 3) := by decide +kernel
theorem dX5_giveSignal_85 : decode cX5_giveSignal 85 = .ok (.invokevirtual 135, 3) := by decide +kernel
theorem dX5_giveSignal_88 : decode cX5_giveSignal 88 = .ok (.ifCond .eq 25, 3) := by decide +kernel
theorem dX5_giveSignal_91 : decode cX5_giveSignal 91 = .ok (.aload_n 0, 1) := by decide +kernel
theorem dX5_giveSignal_92 : decode cX5_giveSignal 92 = .ok (.aload_n 3, 1) := by decide +kernel
theorem dX5_giveSignal_93 : decode cX5_giveSignal 93 = .ok (.getfield 73, 3) := by decide +kernel
theorem dX5_giveSignal_96 : decode cX5_giveSignal 96 = .ok (.aload_n 3, 1) := by decide +kernel
theorem dX5_giveSignal_97 : decode cX5_giveSignal 97 = .ok (.getfield 76, 3) := by decide +kernel
theorem dX5_giveSignal_100 : decode cX5_giveSignal 100 = .ok (.invokevirtual 139, 3) := by decide +kernel
theorem dX5_giveSignal_103 : decode cX5_giveSignal 103 = .ok (.aload_n 3, 1) := by decide +kernel
theorem dX5_giveSignal_104 : decode cX5_giveSignal 104 = .ok (.dup, 1) := by decide +kernel
theorem dX5_giveSignal_105 : decode cX5_giveSignal 105 = .ok (.getfield 80, 3) := by decide +kernel
theorem dX5_giveSignal_108 : decode cX5_giveSignal 108 = .ok (.iconst 1, 1) := by decide +kernel
theorem dX5_giveSignal_109 : decode cX5_giveSignal 109 = .ok (.iadd, 1) := by decide +kernel
theorem dX5_giveSignal_110 : decode cX5_giveSignal 110 = .ok (.putfield 80, 3) := by decide +kernel
theorem dX5_giveSignal_113 : decode cX5_giveSignal 113 = .ok (.iinc 2 1, 3) := by decide +kernel
theorem dX5_giveSignal_116 : decode cX5_giveSignal 116 = .ok (.goto (-78), 3) := by decide +kernel
theorem dX5_giveSignal_119 : decode cX5_giveSignal 119 = .ok (.return_, 1) := by decide +kernel
set_option maxRecDepth 20000 in
theorem ggX6_init_X5_init : GoodIn wsX6_init wsX5_init := goodIn_r _ [23, 24, 2, 3, 25, 26, 27, 28, 29, 30, 31, 32, 33, 34, 35, 36, 37, 38, 39, 40, 41, 42, 43, 44, 45, 46, 47, 48, 49, 50, 51, 65, 66, 67, 68, 69, 70, 71, 72, 73, 74, 75, 99, 100, 101, 102, 103, 104, 105, 106, 107, 108, 109, 110, 111, 112, 113, 114, 115] (by decide +kernel) (by decide +kernel)
set_option maxRecDepth 20000 in
theorem gX6_init_X5_init : GoodIn wsX6_init (wsX5_init) := ggX6_init_X5_init
set_option maxRecDepth 20000 in
theorem ggX6_init_X2_init : GoodIn wsX6_init wsX2_init := goodIn_r _ [53, 54, 2, 3, 55, 56, 40, 57, 85, 86, 87, 88, 89, 90, 91, 92, 93, 94] (by decide +kernel) (by decide +kernel)
set_option maxRecDepth 20000 in
theorem gX6_init_X2_init_n32 : GoodIn wsX6_init (wsX2_init) := ggX6_init_X2_init
set_option maxRecDepth 20000 in
theorem ggX6_init_X3_init : GoodIn wsX6_init wsX3_init := goodIn_r _ [59, 60, 2, 3, 40, 61, 62, 63, 64, 95, 96, 97, 98] (by decide +kernel) (by decide +kernel)
set_option maxRecDepth 20000 in
theorem gX6_init_X3_init_n39 : GoodIn wsX6_init (wsX3_init) := ggX6_init_X3_init
theorem dX6_init_0 : decode cX6_init 0 = .ok (.aload_n 0, 1) := by decide +kernel
theorem dX6_init_1 : decode cX6_init 1 = .ok (.invokespecial 1, 3) := by decide +kernel
theorem dX6_init_4 : decode cX6_init 4 = .ok (.aload_n 0, 1) := by decide +kernel
theorem dX6_init_5 : decode cX6_init 5 = .ok (.new 7, 3) := by decide +kernel
theorem dX6_init_8 : decode cX6_init 8 = .ok (.dup, 1) := by decide +kernel
theorem dX6_init_9 : decode cX6_init 9 = .ok (.invokespecial 9, 3) := by decide +kernel
theorem dX6_init_12 : decode cX6_init 12 = .ok (.putfield 10, 3) := by decide +kernel
theorem dX6_init_15 : decode cX6_init 15 = .ok (.aload_n 0, 1) := by decide +kernel
theorem dX6_init_16 : decode cX6_init 16 = .ok (.new 7, 3) := by decide +kernel
theorem dX6_init_19 : decode cX6_init 19 = .ok (.dup, 1) := by decide +kernel
theorem dX6_init_20 : decode cX6_init 20 = .ok (.invokespecial 9, 3) := by decide +kernel
theorem dX6_init_23 : decode cX6_init 23 = .ok (.putfield 16, 3) := by decide +kernel
theorem dX6_init_26 : decode cX6_init 26 = .ok (.aload_n 0, 1) := by decide +kernel
theorem dX6_init_27 : decode cX6_init 27 = .ok (.bipush 6, 2) := by decide +kernel
theorem dX6_init_29 : decode cX6_init 29 = .ok (.anewarray 7, 3) := by decide +kernel
theorem dX6_init_32 : decode cX6_init 32 = .ok (.putfield 19, 3) := by decide +kernel
theorem dX6_init_35 : decode cX6_init 35 = .ok (.aload_n 0, 1) := by decide +kernel
theorem dX6_init_36 : decode cX6_init 36 = .ok (.iconst 2, 1) := by decide +kernel
theorem dX6_init_37 : decode cX6_init 37 = .ok (.anewarray 7, 3) := by decide +kernel
theorem dX6_init_40 : decode cX6_init 40 = .ok (.putfield 23, 3) := by decide +kernel
theorem dX6_init_43 : decode cX6_init 43 = .ok (.aload_n 0, 1) := by decide +kernel
theorem dX6_init_44 : decode cX6_init 44 = .ok (.iconst 2, 1) := by decide +kernel
theorem dX6_init_45 : decode cX6_init 45 = .ok (.newarray .boolean, 2) := by decide +kernel
theorem dX6_init_47 : decode cX6_init 47 = .ok (.putfield 26, 3) := by decide +kernel
theorem dX6_init_50 : decode cX6_init 50 = .ok (.aload_n 0, 1) := by decide +kernel
theorem dX6_init_51 : decode cX6_init 51 = .ok (.new 30, 3) := by decide +kernel
theorem dX6_init_54 : decode cX6_init 54 = .ok (.dup, 1) := by decide +kernel
theorem dX6_init_55 : decode cX6_init 55 = .ok (.invokespecial 32, 3) := by decide +kernel
theorem dX6_init_58 : decode cX6_init 58 = .ok (.putfield 33, 3) := by decide +kernel
theorem dX6_init_61 : decode cX6_init 61 = .ok (.aload_n 0, 1) := by decide +kernel
theorem dX6_init_62 : decode cX6_init 62 = .ok (.new 37, 3) := by decide +kernel
theorem dX6_init_65 : decode cX6_init 65 = .ok (.dup, 1) := by decide +kernel
theorem dX6_init_66 : decode cX6_init 66 = .ok (.invokespecial 39, 3) := by decide +kernel
theorem dX6_init_69 : decode cX6_init 69 = .ok (.putfield 40, 3) := by decide +kernel
theorem dX6_init_72 : decode cX6_init 72 = .ok (.iconst 0, 1) := by decide +kernel
theorem dX6_init_73 : decode cX6_init 73 = .ok (.istore_n 1, 1) := by decide +kernel
theorem dX6_init_74 : decode cX6_init 74 = .ok (.iload_n 1, 1) := by decide +kernel
theorem dX6_init_75 : decode cX6_init 75 = .ok (.bipush 6, 2) := by decide +kernel
theorem dX6_init_77 : decode cX6_init 77 = .ok (.if_icmp .ge 22, 3) := by decide +kernel
theorem dX6_init_80 : decode cX6_init 80 = .ok (.aload_n 0, 1) := by decide +kernel
theorem dX6_init_81 : decode cX6_init 81 = .ok (.getfield 19, 3) := by decide +kernel
theorem dX6_init_84 : decode cX6_init 84 = .ok (.iload_n 1, 1) := by decide +kernel
theorem dX6_init_85 : decode cX6_init 85 = .ok (.new 7, 3) := by decide +kernel
theorem dX6_init_88 : decode cX6_init 88 = .ok (.dup, 1) := by decide +kernel
theorem dX6_init_89 : decode cX6_init 89 = .ok (.invokespecial 9, 3) := by decide +kernel
theorem dX6_init_92 : decode cX6_init 92 = .ok (.aastore, 1) := by decide +kernel
theorem dX6_init_93 : decode cX6_init 93 = .ok (.iinc 1 1, 3) := by decide +kernel
theorem dX6_init_96 : decode cX6_init 96 = .ok (.goto (-22), 3) := by decide +kernel
theorem dX6_init_99 : decode cX6_init 99 = .ok (.iconst 0, 1) := by decide +kernel
theorem dX6_init_100 : decode cX6_init 100 = .ok (.istore_n 1, 1) := by decide +kernel
theorem dX6_init_101 : decode cX6_init 101 = .ok (.iload_n 1, 1) := by decide +kernel
theorem dX6_init_102 : decode cX6_init 102 = .ok (.iconst 2, 1) := by decide +kernel
theorem dX6_init_103 : decode cX6_init 103 = .ok (.if_icmp .ge 22, 3) := by decide +kernel
theorem dX6_init_106 : decode cX6_init 106 = .ok (.aload_n 0, 1) := by decide +kernel
theorem dX6_init_107 : decode cX6_init 107 = .ok (.getfield 23, 3) := by decide +kernel
theorem dX6_init_110 : decode cX6_init 110 = .ok (.iload_n 1, 1) := by decide +kernel
theorem dX6_init_111 : decode cX6_init 111 = .ok (.new 7, 3) := by decide +kernel
theorem dX6_init_114 : decode cX6_init 114 = .ok (.dup, 1) := by decide +kernel
theorem dX6_init_115 : decode cX6_init 115 = .ok (.invokespecial 9, 3) := by decide +kernel
theorem dX6_init_118 : decode cX6_init 118 = .ok (.aastore, 1) := by decide +kernel
theorem dX6_init_119 : decode cX6_init 119 = .ok (.iinc 1 1, 3) := by decide +kernel
theorem dX6_init_122 : decode cX6_init 122 = .ok (.goto (-21), 3) := by decide +kernel
theorem dX6_init_125 : decode cX6_init 125 = .ok (.return_, 1) := by decide +kernel
set_option maxRecDepth 20000 in
theorem ggX6_cord_X6_isSegmentTime : GoodIn wsX6_cord wsX6_isSegmentTime := goodIn_r _ [9] (by decide +kernel) (by decide +kernel)
set_option maxRecDepth 20000 in
theorem gX6_cord_X6_isSegmentTime : GoodIn wsX6_cord (va_wsS RX6 44 yX6_isSegmentTime wsX6_isSegmentTime) := goodIn_app (goodIn_of _ (by decide +kernel)) ggX6_cord_X6_isSegmentTime
set_option maxRecDepth 20000 in
theorem ggX6_cord_X5_hasRoomForCord : GoodIn wsX6_cord wsX5_hasRoomForCord := goodIn_r _ [14, 15, 94, 95, 96, 97, 98, 99, 100, 101, 102, 103, 104] (by decide +kernel) (by decide +kernel)
set_option maxRecDepth 20000 in
theorem gX6_cord_X5_hasRoomForCord : GoodIn wsX6_cord (wsV RX6 55 RX5 yX5_hasRoomForCord wsX5_hasRoomForCord) := goodIn_app (goodIn_of _ (by decide +kernel)) ggX6_cord_X5_hasRoomForCord
set_option maxRecDepth 20000 in
theorem ggX6_cord_X6_save : GoodIn wsX6_cord wsX6_save := goodIn_r _ [19, 20, 21, 22, 5, 23, 24, 25, 13, 26, 27, 15, 28, 29, 30, 31, 32, 33, 34, 35, 36, 37, 38, 39, 40, 41, 42, 43, 44, 45, 46, 47, 48, 49, 50, 51, 52, 53, 54, 55, 56, 57, 58, 59, 60, 61, 62, 63, 64, 65, 66, 67, 68, 85, 86, 87, 88, 89, 90, 91, 92, 93, 94, 95, 96, 97, 98, 99, 100, 101, 102, 103, 104, 105, 106, 107, 108, 109, 110, 111, 112, 113, 114, 115, 116, 117, 118, 119, 120, 121] (by decide +kernel) (by decide +kernel)
set_option maxRecDepth 20000 in
theorem gX6_cord_X6_save : GoodIn wsX6_cord (wsV RX6 64 RX6 yX6_save wsX6_save) := goodIn_app (goodIn_of _ (by decide +kernel)) ggX6_cord_X6_save
set_option maxRecDepth 20000 in
theorem ggX6_cord_X5_addCord : GoodIn wsX6_cord wsX5_addCord := goodIn_r _ [72, 27, 15, 73, 74, 75, 40, 76, 43, 44, 49, 77, 78, 79, 80, 45, 46, 47, 48, 94, 95, 96, 97, 98, 99, 100, 101, 102, 103, 104, 105, 106, 107, 108, 109, 110, 111, 112] (by decide +kernel) (by decide +kernel)
set_option maxRecDepth 20000 in
theorem gX6_cord_X5_addCord : GoodIn wsX6_cord (wsV RX6 67 RX5 yX5_addCord wsX5_addCord) := goodIn_app (goodIn_of _ (by decide +kernel)) ggX6_cord_X5_addCord
set_option maxRecDepth 20000 in
theorem ggX6_cord_X1_addSegment : GoodIn wsX6_cord wsX1_addSegment := goodIn_r _ [84, 43, 42, 44, 105, 106, 107, 108, 109, 110, 111, 112] (by decide +kernel) (by decide +kernel)
set_option maxRecDepth 20000 in
theorem gX6_cord_X1_addSegment : GoodIn wsX6_cord (wsV RX6 71 RX1 yX1_addSegment wsX1_addSegment) := goodIn_app (goodIn_of _ (by decide +kernel)) ggX6_cord_X1_addSegment
theorem dX6_cord_0 : decode cX6_cord 0 = .ok (.iload_n 1, 1) := by decide +kernel
theorem dX6_cord_1 : decode cX6_cord 1 = .ok (.iconst 1, 1) := by decide +kernel
theorem dX6_cord_2 : decode cX6_cord 2 = .ok (.if_icmp .lt 16, 3) := by decide +kernel
theorem dX6_cord_5 : decode cX6_cord 5 = .ok (.iload_n 1, 1) := by decide +kernel
theorem dX6_cord_6 : decode cX6_cord 6 = .ok (.bipush 6, 2) := by decide +kernel
theorem dX6_cord_8 : decode cX6_cord 8 = .ok (.if_icmp .gt 10, 3) := by decide +kernel
theorem dX6_cord_11 : decode cX6_cord 11 = .ok (.iload_n 2, 1) := by decide +kernel
theorem dX6_cord_12 : decode cX6_cord 12 = .ok (.invokestatic 44, 3) := by decide +kernel
theorem dX6_cord_15 : decode cX6_cord 15 = .ok (.ifCond .ne 13, 3) := by decide +kernel
theorem dX6_cord_18 : decode cX6_cord 18 = .ok (.new 48, 3) := by decide +kernel
theorem dX6_cord_21 : decode cX6_cord 21 = .ok (.dup, 1) := by decide +kernel
theorem dX6_cord_22 : decode cX6_cord 22 = .ok (.ldc 50, 2) := by decide +kernel
theorem dX6_cord_24 : decode cX6_cord 24 = .ok (.invokespecial 52, 3) := by decide +kernel
theorem dX6_cord_27 : decode cX6_cord 27 = .ok (.athrow, 1) := by decide +kernel
theorem dX6_cord_28 : decode cX6_cord 28 = .ok (.aload_n 0, 1) := by decide +kernel
theorem dX6_cord_29 : decode cX6_cord 29 = .ok (.getfield 10, 3) := by decide +kernel
theorem dX6_cord_32 : decode cX6_cord 32 = .ok (.invokevirtual 55, 3) := by decide +kernel
theorem dX6_cord_35 : decode cX6_cord 35 = .ok (.ifCond .ne 13, 3) := by decide +kernel
theorem dX6_cord_38 : decode cX6_cord 38 = .ok (.new 59, 3) := by decide +kernel
theorem dX6_cord_41 : decode cX6_cord 41 = .ok (.dup, 1) := by decide +kernel
theorem dX6_cord_42 : decode cX6_cord 42 = .ok (.ldc 61, 2) := by decide +kernel
theorem dX6_cord_44 : decode cX6_cord 44 = .ok (.invokespecial 63, 3) := by decide +kernel
theorem dX6_cord_47 : decode cX6_cord 47 = .ok (.athrow, 1) := by decide +kernel
theorem dX6_cord_48 : decode cX6_cord 48 = .ok (.aload_n 0, 1) := by decide +kernel
theorem dX6_cord_49 : decode cX6_cord 49 = .ok (.invokevirtual 64, 3) := by decide +kernel
theorem dX6_cord_52 : decode cX6_cord 52 = .ok (.aload_n 0, 1) := by decide +kernel
theorem dX6_cord_53 : decode cX6_cord 53 = .ok (.getfield 10, 3) := by decide +kernel
theorem dX6_cord_56 : decode cX6_cord 56 = .ok (.invokevirtual 67, 3) := by decide +kernel
theorem dX6_cord_59 : decode cX6_cord 59 = .ok (.astore_n 3, 1) := by decide +kernel
theorem dX6_cord_60 : decode cX6_cord 60 = .ok (.iconst 0, 1) := by decide +kernel
theorem dX6_cord_61 : decode cX6_cord 61 = .ok (.istore 4, 2) := by decide +kernel
theorem dX6_cord_63 : decode cX6_cord 63 = .ok (.iload 4, 2) := by decide +kernel
theorem dX6_cord_65 : decode cX6_cord 65 = .ok (.iload_n 1, 1) := by decide +kernel
theorem dX6_cord_66 : decode cX6_cord 66 = .ok (.if_icmp .ge 14, 3) := by decide +kernel
theorem dX6_cord_69 : decode cX6_cord 69 = .ok (.aload_n 3, 1) := by decide +kernel
theorem dX6_cord_70 : decode cX6_cord 70 = .ok (.iload_n 2, 1) := by decide +kernel
theorem dX6_cord_71 : decode cX6_cord 71 = .ok (.invokevirtual 71, 3) := by decide +kernel
theorem dX6_cord_74 : decode cX6_cord 74 = .ok (.iinc 4 1, 3) := by decide +kernel
theorem dX6_cord_77 : decode cX6_cord 77 = .ok (.goto (-14), 3) := by decide +kernel
theorem dX6_cord_80 : decode cX6_cord 80 = .ok (.aload_n 0, 1) := by decide +kernel
theorem dX6_cord_81 : decode cX6_cord 81 = .ok (.getfield 10, 3) := by decide +kernel
theorem dX6_cord_84 : decode cX6_cord 84 = .ok (.getfield 77, 3) := by decide +kernel
theorem dX6_cord_87 : decode cX6_cord 87 = .ok (.iconst 1, 1) := by decide +kernel
theorem dX6_cord_88 : decode cX6_cord 88 = .ok (.isub, 1) := by decide +kernel
theorem dX6_cord_89 : decode cX6_cord 89 = .ok (.ireturn, 1) := by decide +kernel
set_option maxRecDepth 20000 in
theorem ggX6_uneven_X6_requireSegment : GoodIn wsX6_uneven wsX6_requireSegment := goodIn_ca (goodIn_r _ [10, 11, 12, 5, 13, 14, 15, 9, 16, 17, 18, 19, 20, 21, 22, 91, 92, 93, 94, 95, 96, 97, 98, 99, 100, 101, 102, 103, 104, 105, 106, 107, 108, 109, 110, 111, 112, 113, 114, 115, 116, 117, 118] (by decide +kernel) (by decide +kernel)) (goodIn_sub (fun _ h => List.mem_cons_of_mem _ (List.mem_append_right _ h)) (by decide +kernel))
set_option maxRecDepth 20000 in
theorem gX6_uneven_X6_requireSegment : GoodIn wsX6_uneven (wsV RX6 81 RX6 yX6_requireSegment wsX6_requireSegment) := goodIn_app (goodIn_of _ (by decide +kernel)) ggX6_uneven_X6_requireSegment
set_option maxRecDepth 20000 in
theorem ggX6_uneven_X6_isSegmentTime : GoodIn wsX6_uneven wsX6_isSegmentTime := goodIn_r _ [25] (by decide +kernel) (by decide +kernel)
set_option maxRecDepth 20000 in
theorem gX6_uneven_X6_isSegmentTime : GoodIn wsX6_uneven (va_wsS RX6 44 yX6_isSegmentTime wsX6_isSegmentTime) := goodIn_app (goodIn_of _ (by decide +kernel)) ggX6_uneven_X6_isSegmentTime
set_option maxRecDepth 20000 in
theorem ggX6_uneven_X1_burnedTime : GoodIn wsX6_uneven wsX1_burnedTime := goodIn_r _ [30, 31, 32, 111, 112, 113, 114, 115, 116, 117, 118] (by decide +kernel) (by decide +kernel)
set_option maxRecDepth 20000 in
theorem gX6_uneven_X1_burnedTime : GoodIn wsX6_uneven (wsV RX6 91 RX1 yX1_burnedTime wsX1_burnedTime) := goodIn_app (goodIn_of _ (by decide +kernel)) ggX6_uneven_X1_burnedTime
set_option maxRecDepth 20000 in
theorem ggX6_uneven_X1_flameCount : GoodIn wsX6_uneven wsX1_flameCount := goodIn_r _ [36, 37, 38, 111, 112, 113, 114, 115, 116, 117, 118] (by decide +kernel) (by decide +kernel)
set_option maxRecDepth 20000 in
theorem gX6_uneven_X1_flameCount : GoodIn wsX6_uneven (wsV RX6 95 RX1 yX1_flameCount wsX1_flameCount) := goodIn_app (goodIn_of _ (by decide +kernel)) ggX6_uneven_X1_flameCount
set_option maxRecDepth 20000 in
theorem ggX6_uneven_X6_save : GoodIn wsX6_uneven wsX6_save := goodIn_r _ [42, 43, 44, 45, 5, 46, 47, 48, 20, 49, 50, 22, 51, 52, 53, 54, 55, 56, 57, 58, 59, 60, 61, 62, 29, 63, 64, 65, 66, 31, 32, 37, 38, 67, 68, 69, 70, 71, 72, 73, 74, 75, 76, 77, 78, 79, 80, 81, 82, 83, 84, 85, 86, 91, 92, 93, 94, 95, 96, 97, 98, 99, 100, 101, 102, 103, 104, 105, 106, 107, 108, 109, 110, 111, 112, 113, 114, 115, 116, 117, 118, 119, 120, 121, 122, 123, 124, 125, 126, 127] (by decide +kernel) (by decide +kernel)
set_option maxRecDepth 20000 in
theorem gX6_uneven_X6_save : GoodIn wsX6_uneven (wsV RX6 64 RX6 yX6_save wsX6_save) := goodIn_app (goodIn_of _ (by decide +kernel)) ggX6_uneven_X6_save
set_option maxRecDepth 20000 in
theorem ggX6_uneven_X1_changeTime : GoodIn wsX6_uneven wsX1_changeTime := goodIn_r _ [90, 66, 64, 111, 112, 113, 114, 115, 116, 117, 118] (by decide +kernel) (by decide +kernel)
set_option maxRecDepth 20000 in
theorem gX6_uneven_X1_changeTime : GoodIn wsX6_uneven (wsV RX6 104 RX1 yX1_changeTime wsX1_changeTime) := goodIn_app (goodIn_of _ (by decide +kernel)) ggX6_uneven_X1_changeTime
theorem dX6_uneven_0 : decode cX6_uneven 0 = .ok (.aload_n 0, 1) := by decide +kernel
theorem dX6_uneven_1 : decode cX6_uneven 1 = .ok (.iload_n 1, 1) := by decide +kernel
theorem dX6_uneven_2 : decode cX6_uneven 2 = .ok (.iload_n 2, 1) := by decide +kernel
theorem dX6_uneven_3 : decode cX6_uneven 3 = .ok (.invokevirtual 81, 3) := by decide +kernel
theorem dX6_uneven_6 : decode cX6_uneven 6 = .ok (.iload_n 3, 1) := by decide +kernel
theorem dX6_uneven_7 : decode cX6_uneven 7 = .ok (.invokestatic 44, 3) := by decide +kernel
theorem dX6_uneven_10 : decode cX6_uneven 10 = .ok (.ifCond .ne 13, 3) := by decide +kernel
theorem dX6_uneven_13 : decode cX6_uneven 13 = .ok (.new 48, 3) := by decide +kernel
theorem dX6_uneven_16 : decode cX6_uneven 16 = .ok (.dup, 1) := by decide +kernel
theorem dX6_uneven_17 : decode cX6_uneven 17 = .ok (.ldc 85, 2) := by decide +kernel
theorem dX6_uneven_19 : decode cX6_uneven 19 = .ok (.invokespecial 52, 3) := by decide +kernel
theorem dX6_uneven_22 : decode cX6_uneven 22 = .ok (.athrow, 1) := by decide +kernel
theorem dX6_uneven_23 : decode cX6_uneven 23 = .ok (.aload_n 0, 1) := by decide +kernel
theorem dX6_uneven_24 : decode cX6_uneven 24 = .ok (.getfield 10, 3) := by decide +kernel
theorem dX6_uneven_27 : decode cX6_uneven 27 = .ok (.getfield 87, 3) := by decide +kernel
theorem dX6_uneven_30 : decode cX6_uneven 30 = .ok (.iload_n 1, 1) := by decide +kernel
theorem dX6_uneven_31 : decode cX6_uneven 31 = .ok (.aaload, 1) := by decide +kernel
theorem dX6_uneven_32 : decode cX6_uneven 32 = .ok (.astore 4, 2) := by decide +kernel
theorem dX6_uneven_34 : decode cX6_uneven 34 = .ok (.aload 4, 2) := by decide +kernel
theorem dX6_uneven_36 : decode cX6_uneven 36 = .ok (.invokevirtual 91, 3) := by decide +kernel
theorem dX6_uneven_39 : decode cX6_uneven 39 = .ok (.ifCond .gt 11, 3) := by decide +kernel
theorem dX6_uneven_42 : decode cX6_uneven 42 = .ok (.aload 4, 2) := by decide +kernel
theorem dX6_uneven_44 : decode cX6_uneven 44 = .ok (.invokevirtual 95, 3) := by decide +kernel
theorem dX6_uneven_47 : decode cX6_uneven 47 = .ok (.ifCond .le 13, 3) := by decide +kernel
theorem dX6_uneven_50 : decode cX6_uneven 50 = .ok (.new 59, 3) := by decide +kernel
theorem dX6_uneven_53 : decode cX6_uneven 53 = .ok (.dup, 1) := by decide +kernel
theorem dX6_uneven_54 : decode cX6_uneven 54 = .ok (.ldc 98, 2) := by decide +kernel
theorem dX6_uneven_56 : decode cX6_uneven 56 = .ok (.invokespecial 63, 3) := by decide +kernel
theorem dX6_uneven_59 : decode cX6_uneven 59 = .ok (.athrow, 1) := by decide +kernel
theorem dX6_uneven_60 : decode cX6_uneven 60 = .ok (.aload_n 0, 1) := by decide +kernel
theorem dX6_uneven_61 : decode cX6_uneven 61 = .ok (.invokevirtual 64, 3) := by decide +kernel
theorem dX6_uneven_64 : decode cX6_uneven 64 = .ok (.aload 4, 2) := by decide +kernel
theorem dX6_uneven_66 : decode cX6_uneven 66 = .ok (.getfield 100, 3) := by decide +kernel
theorem dX6_uneven_69 : decode cX6_uneven 69 = .ok (.iload_n 2, 1) := by decide +kernel
theorem dX6_uneven_70 : decode cX6_uneven 70 = .ok (.iaload, 1) := by decide +kernel
theorem dX6_uneven_71 : decode cX6_uneven 71 = .ok (.istore 5, 2) := by decide +kernel
theorem dX6_uneven_73 : decode cX6_uneven 73 = .ok (.aload 4, 2) := by decide +kernel
theorem dX6_uneven_75 : decode cX6_uneven 75 = .ok (.iload_n 2, 1) := by decide +kernel
theorem dX6_uneven_76 : decode cX6_uneven 76 = .ok (.iload_n 3, 1) := by decide +kernel
theorem dX6_uneven_77 : decode cX6_uneven 77 = .ok (.invokevirtual 104, 3) := by decide +kernel
theorem dX6_uneven_80 : decode cX6_uneven 80 = .ok (.iload 5, 2) := by decide +kernel
theorem dX6_uneven_82 : decode cX6_uneven 82 = .ok (.ireturn, 1) := by decide +kernel
set_option maxRecDepth 20000 in
theorem ggX6_renew_X6_requireCord : GoodIn wsX6_renew wsX6_requireCord := goodIn_ca (goodIn_r _ [6, 7, 8, 1, 9, 10, 11, 12, 13, 14, 76, 77, 78, 79, 80, 81, 82, 83, 84, 85, 86, 87, 88, 89, 90, 91, 92, 93, 94, 95] (by decide +kernel) (by decide +kernel)) (goodIn_sub (fun _ h => List.mem_cons_of_mem _ (List.mem_append_right _ h)) (by decide +kernel))
set_option maxRecDepth 20000 in
theorem gX6_renew_X6_requireCord : GoodIn wsX6_renew (wsV RX6 107 RX6 yX6_requireCord wsX6_requireCord) := goodIn_app (goodIn_of _ (by decide +kernel)) ggX6_renew_X6_requireCord
set_option maxRecDepth 20000 in
theorem ggX6_renew_X6_save : GoodIn wsX6_renew wsX6_save := goodIn_r _ [18, 19, 20, 21, 1, 22, 23, 24, 12, 25, 26, 14, 27, 28, 29, 30, 31, 32, 33, 34, 35, 36, 37, 38, 39, 40, 41, 42, 43, 44, 45, 46, 47, 48, 49, 50, 51, 52, 53, 54, 55, 56, 57, 58, 59, 60, 61, 62, 63, 64, 65, 66, 67, 76, 77, 78, 79, 80, 81, 82, 83, 84, 85, 86, 87, 88, 89, 90, 91, 92, 93, 94, 95, 96, 97, 98, 99, 100, 101, 102, 103, 104, 105, 106, 107, 108, 109, 110, 111, 112] (by decide +kernel) (by decide +kernel)
