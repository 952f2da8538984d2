set_option maxRecDepth 20000 in
theorem wl_in_15 : ∀ w ∈ wsL_law0_r15, w ∈ w9_tbl := fun w h => (goodIn_p wsL_law0_r15 [689, 693, 699, 702, 705, 708, 711] rfl (by decide +kernel) w h).1
set_option maxRecDepth 20000 in
theorem wl_in_16 : ∀ w ∈ wsL_law0_r16, w ∈ w9_tbl := fun w h => (goodIn_p wsL_law0_r16 [714, 717, 721, 724, 727, 730] rfl (by decide +kernel) w h).1
set_option maxRecDepth 20000 in
theorem wl_in_17 : ∀ w ∈ wsL_law0_r17, w ∈ w9_tbl := fun w h => (goodIn_p wsL_law0_r17 [737, 740, 746, 749, 753, 756] rfl (by decide +kernel) w h).1
set_option maxRecDepth 20000 in
theorem wl_in_18 : ∀ w ∈ wsL_law0_r18, w ∈ w9_tbl := fun w h => (goodIn_p wsL_law0_r18 [761, 765, 283, 287, 290] rfl (by decide +kernel) w h).1
set_option maxRecDepth 20000 in
theorem wl_in_19 : ∀ w ∈ wsL_law0_r19, w ∈ w9_tbl := fun w h => (goodIn_p wsL_law0_r19 [365, 369, 373, 377, 381, 385] rfl (by decide +kernel) w h).1
set_option maxRecDepth 20000 in
theorem wl_in_20 : ∀ w ∈ wsL_law0_r20, w ∈ w9_tbl := fun w h => (goodIn_p wsL_law0_r20 [389, 393, 397, 410, 414] rfl (by decide +kernel) w h).1
set_option maxRecDepth 20000 in
theorem wl_in_21 : ∀ w ∈ wsL_law0_r21, w ∈ w9_tbl := fun w h => (goodIn_p wsL_law0_r21 [418, 421, 868, 425, 872, 875] rfl (by decide +kernel) w h).1
set_option maxRecDepth 20000 in
theorem wl_in_22 : ∀ w ∈ wsL_law0_r22, w ∈ w9_tbl := fun w h => (goodIn_p wsL_law0_r22 [880, 900, 791, 795] rfl (by decide +kernel) w h).1
set_option maxRecDepth 20000 in
theorem wl_in_23 : ∀ w ∈ wsL_law0_r23, w ∈ w9_tbl := fun w h => (goodIn_p wsL_law0_r23 [799, 803, 904, 908, 912] rfl (by decide +kernel) w h).1
set_option maxRecDepth 20000 in
theorem wl_in_24 : ∀ w ∈ wsL_law0_r24, w ∈ w9_tbl := fun w h => (goodIn_p wsL_law0_r24 [916, 919, 923, 930, 934, 939] rfl (by decide +kernel) w h).1
set_option maxRecDepth 20000 in
theorem wl_in_25 : ∀ w ∈ wsL_law0_r25, w ∈ w9_tbl := fun w h => (goodIn_p wsL_law0_r25 [839, 847, 946, 951, 956, 960] rfl (by decide +kernel) w h).1
set_option maxRecDepth 20000 in
theorem wl_in_26 : ∀ w ∈ wsL_law0_r26, w ∈ w9_tbl := fun w h => (goodIn_p wsL_law0_r26 [783, 780, 964, 835, 843, 830] rfl (by decide +kernel) w h).1
set_option maxRecDepth 20000 in
theorem wl_in_27 : ∀ w ∈ wsL_law0_r27, w ∈ w9_tbl := fun w h => (goodIn_p wsL_law0_r27 [777, 971, 976, 807, 811, 817] rfl (by decide +kernel) w h).1
set_option maxRecDepth 20000 in
theorem wl_in_28 : ∀ w ∈ wsL_law0_r28, w ∈ w9_tbl := fun w h => (goodIn_p wsL_law0_r28 [821, 826, 771, 774, 787] rfl (by decide +kernel) w h).1
set_option maxRecDepth 20000 in
theorem wl_in_29 : ∀ w ∈ wsL_law0_r29, w ∈ w9_tbl := fun w h => (goodIn_p wsL_law0_r29 [851, 854, 857, 860, 864] rfl (by decide +kernel) w h).1
set_option maxRecDepth 20000 in
theorem wl_in_wsX60 : ∀ w ∈ wsX60, w ∈ w9_tbl := fun w h => (goodIn_p wsX60 [] rfl (by decide +kernel) w h).1
set_option maxRecDepth 20000 in
theorem wl_in_wsX50 : ∀ w ∈ wsX50, w ∈ w9_tbl := fun w h => (goodIn_p wsX50 [] rfl (by decide +kernel) w h).1
set_option maxRecDepth 20000 in
theorem wl_in_wsX20 : ∀ w ∈ wsX20, w ∈ w9_tbl := fun w h => (goodIn_p wsX20 [] rfl (by decide +kernel) w h).1
set_option maxRecDepth 20000 in
theorem wl_in_wsX30 : ∀ w ∈ wsX30, w ∈ w9_tbl := fun w h => (goodIn_p wsX30 [] rfl (by decide +kernel) w h).1
set_option maxRecDepth 20000 in
theorem wl_in_wsX00 : ∀ w ∈ wsX00, w ∈ w9_tbl := fun w h => (goodIn_p wsX00 [] rfl (by decide +kernel) w h).1
set_option maxRecDepth 20000 in
theorem wl_in_wsX10 : ∀ w ∈ wsX10, w ∈ w9_tbl := fun w h => (goodIn_p wsX10 [] rfl (by decide +kernel) w h).1
set_option maxRecDepth 20000 in
theorem wl_in_wsX40 : ∀ w ∈ wsX40, w ∈ w9_tbl := fun w h => (goodIn_p wsX40 [] rfl (by decide +kernel) w h).1
set_option maxRecDepth 20000 in
theorem wl_in_wsJ40 : ∀ w ∈ wsJ40, w ∈ w9_tbl := fun w h => (goodIn_p wsJ40 [] rfl (by decide +kernel) w h).1
theorem wsL_law_in0 : ∀ w ∈ wsL_law0, w ∈ w9_tbl := (List.forall_mem_append.mpr ⟨(List.forall_mem_append.mpr ⟨(List.forall_mem_append.mpr ⟨(List.forall_mem_append.mpr ⟨(List.forall_mem_append.mpr ⟨(List.forall_mem_append.mpr ⟨(List.forall_mem_append.mpr ⟨(List.forall_mem_append.mpr ⟨(List.forall_mem_append.mpr ⟨(List.forall_mem_append.mpr ⟨wl_in_1, (List.forall_mem_append.mpr ⟨wl_in_2, (List.forall_mem_append.mpr ⟨wl_in_3, (List.forall_mem_append.mpr ⟨wl_in_4, (List.forall_mem_append.mpr ⟨wl_in_5, (List.forall_mem_append.mpr ⟨wl_in_6, (List.forall_mem_append.mpr ⟨wl_in_7, (List.forall_mem_append.mpr ⟨wl_in_8, (List.forall_mem_append.mpr ⟨wl_in_9, (List.forall_mem_append.mpr ⟨wl_in_10, (List.forall_mem_append.mpr ⟨wl_in_11, (List.forall_mem_append.mpr ⟨wl_in_12, (List.forall_mem_append.mpr ⟨wl_in_13, (List.forall_mem_append.mpr ⟨wl_in_14, (List.forall_mem_append.mpr ⟨wl_in_15, (List.forall_mem_append.mpr ⟨wl_in_16, (List.forall_mem_append.mpr ⟨wl_in_17, (List.forall_mem_append.mpr ⟨wl_in_18, (List.forall_mem_append.mpr ⟨wl_in_19, (List.forall_mem_append.mpr ⟨wl_in_20, (List.forall_mem_append.mpr ⟨wl_in_21, (List.forall_mem_append.mpr ⟨wl_in_22, (List.forall_mem_append.mpr ⟨wl_in_23, (List.forall_mem_append.mpr ⟨wl_in_24, (List.forall_mem_append.mpr ⟨wl_in_25, (List.forall_mem_append.mpr ⟨wl_in_26, (List.forall_mem_append.mpr ⟨wl_in_27, (List.forall_mem_append.mpr ⟨wl_in_28, wl_in_29⟩)⟩)⟩)⟩)⟩)⟩)⟩)⟩)⟩)⟩)⟩)⟩)⟩)⟩)⟩)⟩)⟩)⟩)⟩)⟩)⟩)⟩)⟩)⟩)⟩)⟩)⟩)⟩), wl_in_wsX60⟩), wl_in_wsX50⟩), wl_in_wsX20⟩), wl_in_wsX30⟩), wl_in_wsX00⟩), wl_in_wsX10⟩), wl_in_wsX40⟩), wl_in_wsJ40⟩), fun w h => absurd h (List.not_mem_nil)⟩)
theorem wsL_law_x0 : ∀ w ∈ (vx_atS RX6 52 "java/lang/IllegalArgumentException" ["java/lang/RuntimeException", "java/lang/Exception"]).filter goodWord, w ∈ w9_tbl := by decide +kernel
theorem wsL_law_x1 : ∀ w ∈ (vx_atS RX6 236 "java/lang/IndexOutOfBoundsException" ["java/lang/RuntimeException", "java/lang/Exception"]).filter goodWord, w ∈ w9_tbl := by decide +kernel
theorem wsL_law_x2 : ∀ w ∈ (vx_atS RX6 63 "java/lang/IllegalStateException" ["java/lang/RuntimeException", "java/lang/Exception"]).filter goodWord, w ∈ w9_tbl := by decide +kernel
theorem wsL_law_in : ∀ w ∈ wsL_law, w ∈ w9_tbl := fun w h => (List.mem_append.mp h).elim (fun h => (List.mem_append.mp h).elim (fun h => (List.mem_append.mp h).elim (fun h => wsL_law_in0 w h) (fun h => wsL_law_x0 w h)) (fun h => wsL_law_x1 w h)) (fun h => wsL_law_x2 w h)
theorem inlX0 : ∀ w ∈ wsX00, w ∈ wsL_law := fun _ h => List.mem_append_left _ (List.mem_append_left _ (List.mem_append_left _ (List.mem_append_left _ (List.mem_append_left _ (List.mem_append_left _ (List.mem_append_left _ (List.mem_append_right _ h)))))))
theorem inlX1 : ∀ w ∈ wsX10, w ∈ wsL_law := fun _ h => List.mem_append_left _ (List.mem_append_left _ (List.mem_append_left _ (List.mem_append_left _ (List.mem_append_left _ (List.mem_append_left _ (List.mem_append_right _ h))))))
theorem inlX2 : ∀ w ∈ wsX20, w ∈ wsL_law := fun _ h => List.mem_append_left _ (List.mem_append_left _ (List.mem_append_left _ (List.mem_append_left _ (List.mem_append_left _ (List.mem_append_left _ (List.mem_append_left _ (List.mem_append_left _ (List.mem_append_left _ (List.mem_append_right _ h)))))))))
theorem inlX3 : ∀ w ∈ wsX30, w ∈ wsL_law := fun _ h => List.mem_append_left _ (List.mem_append_left _ (List.mem_append_left _ (List.mem_append_left _ (List.mem_append_left _ (List.mem_append_left _ (List.mem_append_left _ (List.mem_append_left _ (List.mem_append_right _ h))))))))
theorem inlX4 : ∀ w ∈ wsX40, w ∈ wsL_law := fun _ h => List.mem_append_left _ (List.mem_append_left _ (List.mem_append_left _ (List.mem_append_left _ (List.mem_append_left _ (List.mem_append_right _ h)))))
theorem inlX5 : ∀ w ∈ wsX50, w ∈ wsL_law := fun _ h => List.mem_append_left _ (List.mem_append_left _ (List.mem_append_left _ (List.mem_append_left _ (List.mem_append_left _ (List.mem_append_left _ (List.mem_append_left _ (List.mem_append_left _ (List.mem_append_left _ (List.mem_append_left _ (List.mem_append_right _ h))))))))))
theorem inlX6 : ∀ w ∈ wsX60, w ∈ wsL_law := fun _ h => List.mem_append_left _ (List.mem_append_left _ (List.mem_append_left _ (List.mem_append_left _ (List.mem_append_left _ (List.mem_append_left _ (List.mem_append_left _ (List.mem_append_left _ (List.mem_append_left _ (List.mem_append_left _ (List.mem_append_left _ (List.mem_append_right _ h)))))))))))
theorem inlJ4 : ∀ w ∈ wsJ40, w ∈ wsL_law := fun _ h => List.mem_append_left _ (List.mem_append_left _ (List.mem_append_left _ (List.mem_append_left _ (List.mem_append_right _ h))))
