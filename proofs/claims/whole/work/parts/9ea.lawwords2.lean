set_option maxRecDepth 20000 in
theorem wl_in_25 : ∀ w ∈ wsL_law0_r25, w ∈ w9_tbl := fun w h => (goodIn_p wsL_law0_r25 [490, 494, 498, 1420, 1424] (by decide +kernel) (by decide +kernel) w h).1
set_option maxRecDepth 20000 in
theorem wl_in_26 : ∀ w ∈ wsL_law0_r26, w ∈ w9_tbl := fun w h => (goodIn_p wsL_law0_r26 [1428, 1432, 1436, 1440, 1444] (by decide +kernel) (by decide +kernel) w h).1
set_option maxRecDepth 20000 in
theorem wl_in_27 : ∀ w ∈ wsL_law0_r27, w ∈ w9_tbl := fun w h => (goodIn_p wsL_law0_r27 [1448, 1452, 1456, 1460, 1464, 1468] (by decide +kernel) (by decide +kernel) w h).1
set_option maxRecDepth 20000 in
theorem wl_in_28 : ∀ w ∈ wsL_law0_r28, w ∈ w9_tbl := fun w h => (goodIn_p wsL_law0_r28 [807, 813, 817, 821, 825] (by decide +kernel) (by decide +kernel) w h).1
set_option maxRecDepth 20000 in
theorem wl_in_29 : ∀ w ∈ wsL_law0_r29, w ∈ w9_tbl := fun w h => (goodIn_p wsL_law0_r29 [1472, 1476, 1480, 832, 1282] (by decide +kernel) (by decide +kernel) w h).1
set_option maxRecDepth 20000 in
theorem wl_in_30 : ∀ w ∈ wsL_law0_r30, w ∈ w9_tbl := fun w h => (goodIn_p wsL_law0_r30 [840, 843, 1290, 851, 1297] (by decide +kernel) (by decide +kernel) w h).1
set_option maxRecDepth 20000 in
theorem wl_in_31 : ∀ w ∈ wsL_law0_r31, w ∈ w9_tbl := fun w h => (goodIn_p wsL_law0_r31 [859, 863, 1484, 1488] (by decide +kernel) (by decide +kernel) w h).1
set_option maxRecDepth 20000 in
theorem wl_in_32 : ∀ w ∈ wsL_law0_r32, w ∈ w9_tbl := fun w h => (goodIn_p wsL_law0_r32 [872, 1492, 879, 883, 1496, 1500] (by decide +kernel) (by decide +kernel) w h).1
set_option maxRecDepth 20000 in
theorem wl_in_33 : ∀ w ∈ wsL_law0_r33, w ∈ w9_tbl := fun w h => (goodIn_p wsL_law0_r33 [890, 1504, 899, 903] (by decide +kernel) (by decide +kernel) w h).1
set_option maxRecDepth 20000 in
theorem wl_in_34 : ∀ w ∈ wsL_law0_r34, w ∈ w9_tbl := fun w h => (goodIn_p wsL_law0_r34 [1508, 1512, 912, 918, 921] (by decide +kernel) (by decide +kernel) w h).1
set_option maxRecDepth 20000 in
theorem wl_in_35 : ∀ w ∈ wsL_law0_r35, w ∈ w9_tbl := fun w h => (goodIn_p wsL_law0_r35 [926, 929, 946, 949, 952] (by decide +kernel) (by decide +kernel) w h).1
set_option maxRecDepth 20000 in
theorem wl_in_36 : ∀ w ∈ wsL_law0_r36, w ∈ w9_tbl := fun w h => (goodIn_p wsL_law0_r36 [959, 962, 966, 970, 974] (by decide +kernel) (by decide +kernel) w h).1
set_option maxRecDepth 20000 in
theorem wl_in_37 : ∀ w ∈ wsL_law0_r37, w ∈ w9_tbl := fun w h => (goodIn_p wsL_law0_r37 [977, 982, 986] (by decide +kernel) (by decide +kernel) w h).1
set_option maxRecDepth 20000 in
theorem wl_in_38 : ∀ w ∈ wsL_law0_r38, w ∈ w9_tbl := fun w h => (goodIn_p wsL_law0_r38 [1002, 1005, 1008, 1011, 1014, 1017] (by decide +kernel) (by decide +kernel) w h).1
set_option maxRecDepth 20000 in
theorem wl_in_39 : ∀ w ∈ wsL_law0_r39, w ∈ w9_tbl := fun w h => (goodIn_p wsL_law0_r39 [1022, 1026, 1031, 1034, 1037, 1040] (by decide +kernel) (by decide +kernel) w h).1
set_option maxRecDepth 20000 in
theorem wl_in_40 : ∀ w ∈ wsL_law0_r40, w ∈ w9_tbl := fun w h => (goodIn_p wsL_law0_r40 [1043, 1046, 1050, 1056, 1059, 1062] (by decide +kernel) (by decide +kernel) w h).1
set_option maxRecDepth 20000 in
theorem wl_in_41 : ∀ w ∈ wsL_law0_r41, w ∈ w9_tbl := fun w h => (goodIn_p wsL_law0_r41 [1065, 1069, 1072, 1075, 1078, 1085, 1088] (by decide +kernel) (by decide +kernel) w h).1
set_option maxRecDepth 20000 in
theorem wl_in_42 : ∀ w ∈ wsL_law0_r42, w ∈ w9_tbl := fun w h => (goodIn_p wsL_law0_r42 [1094, 1097, 1101, 1104, 1516] (by decide +kernel) (by decide +kernel) w h).1
set_option maxRecDepth 20000 in
theorem wl_in_43 : ∀ w ∈ wsL_law0_r43, w ∈ w9_tbl := fun w h => (goodIn_p wsL_law0_r43 [1520, 1524, 1527, 1114, 1531] (by decide +kernel) (by decide +kernel) w h).1
set_option maxRecDepth 20000 in
theorem wl_in_44 : ∀ w ∈ wsL_law0_r44, w ∈ w9_tbl := fun w h => (goodIn_p wsL_law0_r44 [1122, 1126, 1129, 1535, 1539] (by decide +kernel) (by decide +kernel) w h).1
set_option maxRecDepth 20000 in
theorem wl_in_45 : ∀ w ∈ wsL_law0_r45, w ∈ w9_tbl := fun w h => (goodIn_p wsL_law0_r45 [1136, 1140, 1146, 1150, 1154] (by decide +kernel) (by decide +kernel) w h).1
set_option maxRecDepth 20000 in
theorem wl_in_46 : ∀ w ∈ wsL_law0_r46, w ∈ w9_tbl := fun w h => (goodIn_p wsL_law0_r46 [1158, 1162, 1166, 1170, 1174, 1178] (by decide +kernel) (by decide +kernel) w h).1
set_option maxRecDepth 20000 in
theorem wl_in_47 : ∀ w ∈ wsL_law0_r47, w ∈ w9_tbl := fun w h => (goodIn_p wsL_law0_r47 [1185, 1189, 1193, 1543, 1547, 1551] (by decide +kernel) (by decide +kernel) w h).1
set_option maxRecDepth 20000 in
theorem wl_in_48 : ∀ w ∈ wsL_law0_r48, w ∈ w9_tbl := fun w h => (goodIn_p wsL_law0_r48 [1555, 1559, 1563, 1200, 1567] (by decide +kernel) (by decide +kernel) w h).1
set_option maxRecDepth 20000 in
theorem wl_in_49 : ∀ w ∈ wsL_law0_r49, w ∈ w9_tbl := fun w h => (goodIn_p wsL_law0_r49 [503, 1571] (by decide +kernel) (by decide +kernel) w h).1
set_option maxRecDepth 20000 in
theorem wl_in_wsX60 : ∀ w ∈ wsX60, w ∈ w9_tbl := fun w h => (goodIn_p wsX60 [] (by decide +kernel) (by decide +kernel) w h).1
set_option maxRecDepth 20000 in
theorem wl_in_wsX70 : ∀ w ∈ wsX70, w ∈ w9_tbl := fun w h => (goodIn_p wsX70 [] (by decide +kernel) (by decide +kernel) w h).1
set_option maxRecDepth 20000 in
theorem wl_in_wsX50 : ∀ w ∈ wsX50, w ∈ w9_tbl := fun w h => (goodIn_p wsX50 [] (by decide +kernel) (by decide +kernel) w h).1
set_option maxRecDepth 20000 in
theorem wl_in_wsX20 : ∀ w ∈ wsX20, w ∈ w9_tbl := fun w h => (goodIn_p wsX20 [] (by decide +kernel) (by decide +kernel) w h).1
set_option maxRecDepth 20000 in
theorem wl_in_wsX30 : ∀ w ∈ wsX30, w ∈ w9_tbl := fun w h => (goodIn_p wsX30 [] (by decide +kernel) (by decide +kernel) w h).1
set_option maxRecDepth 20000 in
theorem wl_in_wsX00 : ∀ w ∈ wsX00, w ∈ w9_tbl := fun w h => (goodIn_p wsX00 [] (by decide +kernel) (by decide +kernel) w h).1
set_option maxRecDepth 20000 in
theorem wl_in_wsX10 : ∀ w ∈ wsX10, w ∈ w9_tbl := fun w h => (goodIn_p wsX10 [] (by decide +kernel) (by decide +kernel) w h).1
set_option maxRecDepth 20000 in
theorem wl_in_wsX40 : ∀ w ∈ wsX40, w ∈ w9_tbl := fun w h => (goodIn_p wsX40 [] (by decide +kernel) (by decide +kernel) w h).1
set_option maxRecDepth 20000 in
theorem wl_in_wsJ40 : ∀ w ∈ wsJ40, w ∈ w9_tbl := fun w h => (goodIn_p wsJ40 [] (by decide +kernel) (by decide +kernel) w h).1
theorem wsL_law_in0 : ∀ w ∈ wsL_law0, w ∈ w9_tbl := (List.forall_mem_append.mpr ⟨(List.forall_mem_append.mpr ⟨(List.forall_mem_append.mpr ⟨(List.forall_mem_append.mpr ⟨(List.forall_mem_append.mpr ⟨(List.forall_mem_append.mpr ⟨(List.forall_mem_append.mpr ⟨(List.forall_mem_append.mpr ⟨(List.forall_mem_append.mpr ⟨(List.forall_mem_append.mpr ⟨(List.forall_mem_append.mpr ⟨wl_in_1, (List.forall_mem_append.mpr ⟨wl_in_2, (List.forall_mem_append.mpr ⟨wl_in_3, (List.forall_mem_append.mpr ⟨wl_in_4, (List.forall_mem_append.mpr ⟨wl_in_5, (List.forall_mem_append.mpr ⟨wl_in_6, (List.forall_mem_append.mpr ⟨wl_in_7, (List.forall_mem_append.mpr ⟨wl_in_8, (List.forall_mem_append.mpr ⟨wl_in_9, (List.forall_mem_append.mpr ⟨wl_in_10, (List.forall_mem_append.mpr ⟨wl_in_11, (List.forall_mem_append.mpr ⟨wl_in_12, (List.forall_mem_append.mpr ⟨wl_in_13, (List.forall_mem_append.mpr ⟨wl_in_14, (List.forall_mem_append.mpr ⟨wl_in_15, (List.forall_mem_append.mpr ⟨wl_in_16, (List.forall_mem_append.mpr ⟨wl_in_17, (List.forall_mem_append.mpr ⟨wl_in_18, (List.forall_mem_append.mpr ⟨wl_in_19, (List.forall_mem_append.mpr ⟨wl_in_20, (List.forall_mem_append.mpr ⟨wl_in_21, (List.forall_mem_append.mpr ⟨wl_in_22, (List.forall_mem_append.mpr ⟨wl_in_23, (List.forall_mem_append.mpr ⟨wl_in_24, (List.forall_mem_append.mpr ⟨wl_in_25, (List.forall_mem_append.mpr ⟨wl_in_26, (List.forall_mem_append.mpr ⟨wl_in_27, (List.forall_mem_append.mpr ⟨wl_in_28, (List.forall_mem_append.mpr ⟨wl_in_29, (List.forall_mem_append.mpr ⟨wl_in_30, (List.forall_mem_append.mpr ⟨wl_in_31, (List.forall_mem_append.mpr ⟨wl_in_32, (List.forall_mem_append.mpr ⟨wl_in_33, (List.forall_mem_append.mpr ⟨wl_in_34, (List.forall_mem_append.mpr ⟨wl_in_35, (List.forall_mem_append.mpr ⟨wl_in_36, (List.forall_mem_append.mpr ⟨wl_in_37, (List.forall_mem_append.mpr ⟨wl_in_38, (List.forall_mem_append.mpr ⟨wl_in_39, (List.forall_mem_append.mpr ⟨wl_in_40, (List.forall_mem_append.mpr ⟨wl_in_41, (List.forall_mem_append.mpr ⟨wl_in_42, (List.forall_mem_append.mpr ⟨wl_in_43, (List.forall_mem_append.mpr ⟨wl_in_44, (List.forall_mem_append.mpr ⟨wl_in_45, (List.forall_mem_append.mpr ⟨wl_in_46, (List.forall_mem_append.mpr ⟨wl_in_47, (List.forall_mem_append.mpr ⟨wl_in_48, wl_in_49⟩)⟩)⟩)⟩)⟩)⟩)⟩)⟩)⟩)⟩)⟩)⟩)⟩)⟩)⟩)⟩)⟩)⟩)⟩)⟩)⟩)⟩)⟩)⟩)⟩)⟩)⟩)⟩)⟩)⟩)⟩)⟩)⟩)⟩)⟩)⟩)⟩)⟩)⟩)⟩)⟩)⟩)⟩)⟩)⟩)⟩)⟩)⟩), wl_in_wsX60⟩), wl_in_wsX70⟩), wl_in_wsX50⟩), wl_in_wsX20⟩), wl_in_wsX30⟩), wl_in_wsX00⟩), wl_in_wsX10⟩), wl_in_wsX40⟩), wl_in_wsJ40⟩), fun w h => absurd h (List.not_mem_nil)⟩)
theorem wsL_law_x0 : ∀ w ∈ (vx_atS RX6 52 "java/lang/IllegalArgumentException" ["java/lang/RuntimeException", "java/lang/Exception"]).filter goodWord, w ∈ w9_tbl := by decide +kernel
theorem wsL_law_x1 : ∀ w ∈ (vx_atS RX6 63 "java/lang/IllegalStateException" ["java/lang/RuntimeException", "java/lang/Exception"]).filter goodWord, w ∈ w9_tbl := by decide +kernel
theorem wsL_law_x2 : ∀ w ∈ (vx_atS RX6 236 "java/lang/IndexOutOfBoundsException" ["java/lang/RuntimeException", "java/lang/Exception"]).filter goodWord, w ∈ w9_tbl := by decide +kernel
theorem wsL_law_in : ∀ w ∈ wsL_law, w ∈ w9_tbl := fun w h => (List.mem_append.mp h).elim (fun h => (List.mem_append.mp h).elim (fun h => (List.mem_append.mp h).elim (fun h => wsL_law_in0 w h) (fun h => wsL_law_x0 w h)) (fun h => wsL_law_x1 w h)) (fun h => wsL_law_x2 w h)
theorem inlX0 : ∀ w ∈ wsX00, w ∈ wsL_law := fun _ h => List.mem_append_left _ (List.mem_append_left _ (List.mem_append_left _ (List.mem_append_left _ (List.mem_append_left _ (List.mem_append_left _ (List.mem_append_left _ (List.mem_append_right _ h)))))))
theorem inX0 : ∀ w ∈ wsX00, w ∈ w9_tbl := fun w h => wsL_law_in w (inlX0 w h)
theorem inlX1 : ∀ w ∈ wsX10, w ∈ wsL_law := fun _ h => List.mem_append_left _ (List.mem_append_left _ (List.mem_append_left _ (List.mem_append_left _ (List.mem_append_left _ (List.mem_append_left _ (List.mem_append_right _ h))))))
theorem inX1 : ∀ w ∈ wsX10, w ∈ w9_tbl := fun w h => wsL_law_in w (inlX1 w h)
theorem inlX2 : ∀ w ∈ wsX20, w ∈ wsL_law := fun _ h => List.mem_append_left _ (List.mem_append_left _ (List.mem_append_left _ (List.mem_append_left _ (List.mem_append_left _ (List.mem_append_left _ (List.mem_append_left _ (List.mem_append_left _ (List.mem_append_left _ (List.mem_append_right _ h)))))))))
theorem inX2 : ∀ w ∈ wsX20, w ∈ w9_tbl := fun w h => wsL_law_in w (inlX2 w h)
theorem inlX3 : ∀ w ∈ wsX30, w ∈ wsL_law := fun _ h => List.mem_append_left _ (List.mem_append_left _ (List.mem_append_left _ (List.mem_append_left _ (List.mem_append_left _ (List.mem_append_left _ (List.mem_append_left _ (List.mem_append_left _ (List.mem_append_right _ h))))))))
theorem inX3 : ∀ w ∈ wsX30, w ∈ w9_tbl := fun w h => wsL_law_in w (inlX3 w h)
theorem inlX4 : ∀ w ∈ wsX40, w ∈ wsL_law := fun _ h => List.mem_append_left _ (List.mem_append_left _ (List.mem_append_left _ (List.mem_append_left _ (List.mem_append_left _ (List.mem_append_right _ h)))))
theorem inX4 : ∀ w ∈ wsX40, w ∈ w9_tbl := fun w h => wsL_law_in w (inlX4 w h)
theorem inlX5 : ∀ w ∈ wsX50, w ∈ wsL_law := fun _ h => List.mem_append_left _ (List.mem_append_left _ (List.mem_append_left _ (List.mem_append_left _ (List.mem_append_left _ (List.mem_append_left _ (List.mem_append_left _ (List.mem_append_left _ (List.mem_append_left _ (List.mem_append_left _ (List.mem_append_right _ h))))))))))
theorem inX5 : ∀ w ∈ wsX50, w ∈ w9_tbl := fun w h => wsL_law_in w (inlX5 w h)
theorem inlX6 : ∀ w ∈ wsX60, w ∈ wsL_law := fun _ h => List.mem_append_left _ (List.mem_append_left _ (List.mem_append_left _ (List.mem_append_left _ (List.mem_append_left _ (List.mem_append_left _ (List.mem_append_left _ (List.mem_append_left _ (List.mem_append_left _ (List.mem_append_left _ (List.mem_append_left _ (List.mem_append_left _ (List.mem_append_right _ h))))))))))))
theorem inX6 : ∀ w ∈ wsX60, w ∈ w9_tbl := fun w h => wsL_law_in w (inlX6 w h)
theorem inlX7 : ∀ w ∈ wsX70, w ∈ wsL_law := fun _ h => List.mem_append_left _ (List.mem_append_left _ (List.mem_append_left _ (List.mem_append_left _ (List.mem_append_left _ (List.mem_append_left _ (List.mem_append_left _ (List.mem_append_left _ (List.mem_append_left _ (List.mem_append_left _ (List.mem_append_left _ (List.mem_append_right _ h)))))))))))
theorem inX7 : ∀ w ∈ wsX70, w ∈ w9_tbl := fun w h => wsL_law_in w (inlX7 w h)
theorem inJ5 : ∀ w ∈ wsJ50, w ∈ w9_tbl := by decide +kernel
theorem inJx8e188 : ∀ w ∈ wsJx8e1880, w ∈ w9_tbl := by decide +kernel
theorem inJ6 : ∀ w ∈ wsJ60, w ∈ w9_tbl := by decide +kernel
theorem inJ9 : ∀ w ∈ wsJ90, w ∈ w9_tbl := by decide +kernel
theorem inJ0 : ∀ w ∈ wsJ00, w ∈ w9_tbl := by decide +kernel
theorem inlJ4 : ∀ w ∈ wsJ40, w ∈ wsL_law := fun _ h => List.mem_append_left _ (List.mem_append_left _ (List.mem_append_left _ (List.mem_append_left _ (List.mem_append_right _ h))))
theorem inJ4 : ∀ w ∈ wsJ40, w ∈ w9_tbl := fun w h => wsL_law_in w (inlJ4 w h)
theorem inJ1 : ∀ w ∈ wsJ10, w ∈ w9_tbl := by decide +kernel
theorem inJ2 : ∀ w ∈ wsJ20, w ∈ w9_tbl := by decide +kernel
theorem inJ10 : ∀ w ∈ wsJ100, w ∈ w9_tbl := by decide +kernel
theorem inJ7 : ∀ w ∈ wsJ70, w ∈ w9_tbl := by decide +kernel
theorem inJ8 : ∀ w ∈ wsJ80, w ∈ w9_tbl := by decide +kernel
theorem inJ3 : ∀ w ∈ wsJ30, w ∈ w9_tbl := by decide +kernel
