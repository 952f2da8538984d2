/-! the JDK: a text's length, a character of it -/
abbrev rmJ0_coder_7d493 : Room := ({ frames := 0, cells := 0, slots := 0, locals := 0 })
set_option maxHeartbeats 4000000 in
set_option maxRecDepth 100000 in
theorem kJ0_coder_7d493 (l : Launch) (D : va_G) (cA : Nat → ClassId) (X : cq_X) (Bs : Nat) (i : Nat) (M : cq_M) (hi : i < 3) : cq_C l yJ0_coder_7d493 wsJ0_coder_7d493 rmJ0_coder_7d493 D cA X Bs [.ref (D.2 100 i)] M (cq_PI (fun r M1 => r = 0 ∧ M1 = M)) 0 0 := by
  refine cq_met (cc := cJ0_coder_7d493) (maxL := 1) (ret := (some .byte)) (by decide) rfl (Nat.le_of_ble_eq_true rfl) [(0, .ref (D.2 100 i))] rfl rfl ?_
  intro p9 e9 s9 m9 b9 t9 c9 F hr
  refine cq_getCS F (F.1.2.2.2.2 _ (List.mem_of_getElem? (l := wsJ0_coder_7d493) (i := 1) (a := .fieldLink RJ0 38 "java/lang/String" "COMPACT_STRINGS" "Z") (by decide +kernel))) dJ0_coder_7d493_0 ?_
  refine cq_if_eq F (tgt := 13) dJ0_coder_7d493_3 (by decide) (fun c_3 => ?_) (fun c_3 => ?_)
  · have c_3 : 1 = 0 := (nI_b (a := 1) (b := 0) (by omega) (by omega)).2.2.mp c_3
    omega
  · have c_3 : ¬ 1 = 0 := fun z => c_3 ((nI_b (a := 1) (b := 0) (by omega) (by omega)).2.2.mpr z)
    refine cq_aload_n F (i := 0) dJ0_coder_7d493_6 rfl rfl ?_
    refine cq_getSc F hi (F.1.2.2.2.2 _ (List.mem_of_getElem? (l := wsJ0_coder_7d493) (i := 2) (a := .fieldLink RJ0 15 "java/lang/String" "coder" "B") (by decide +kernel))) dJ0_coder_7d493_7 ?_
    refine cq_goto F (tgt := 14) dJ0_coder_7d493_10 (by decide) ?_
    exact cq_zret F hr (by rfl) (by decide) (by decide) dJ0_coder_7d493_14 ⟨_, rfl, ⟨rfl, rfl⟩⟩
theorem hdVJ0_coder_7d493 : yJ0_coder_7d493.cls = RJ0 ∧ yJ0_coder_7d493.cls ≠ "java/lang/invoke/MethodHandle" ∧ yJ0_coder_7d493.cls ≠ "java/lang/invoke/VarHandle" ∧ (parseMethodDescriptor yJ0_coder_7d493.desc).map (fun d => d.parameters.length) = some 0 := by decide +kernel
abbrev rmJ0_length_8abf5 : Room := ({ frames := 1, cells := 0, slots := 0, locals := 20 })
set_option maxHeartbeats 4000000 in
set_option maxRecDepth 100000 in
theorem kJ0_length_8abf5 (l : Launch) (D : va_G) (cA : Nat → ClassId) (X : cq_X) (Bs : Nat) (i : Nat) (M : cq_M) (hi : i < 3) : cq_C l yJ0_length_8abf5 wsJ0_length_8abf5 rmJ0_length_8abf5 D cA X Bs [.ref (D.2 100 i)] M (cq_PI (fun r M1 => r = nI (cq_tl i) ∧ M1 = M)) 0 0 := by
  refine cq_met (cc := cJ0_length_8abf5) (maxL := 1) (ret := (some .int)) (by decide) rfl (Nat.le_of_ble_eq_true rfl) [(0, .ref (D.2 100 i))] rfl rfl ?_
  intro p9 e9 s9 m9 b9 t9 c9 F hr
  refine cq_aload_n F (i := 0) dJ0_length_8abf5_0 rfl rfl ?_
  refine cq_getSv F hi (F.1.2.2.2.2 _ (List.mem_of_getElem? (l := wsJ0_length_8abf5) (i := 1) (a := .fieldLink RJ0 9 "java/lang/String" "value" "[B") (by decide +kernel))) dJ0_length_8abf5_1 ?_
  refine cq_lenSv F hi dJ0_length_8abf5_4 ?_
  refine cq_aload_n F (i := 0) dJ0_length_8abf5_5 rfl rfl ?_
  refine cq_callVs F hi (kJ0_coder_7d493 l D cA X Bs i M hi) (cwV 0 F.1.2.2.2.2 gJ0_length_8abf5_J0_coder_7d493 rfl rfl rfl hdVJ0_coder_7d493 ⟨Nat.le_of_ble_eq_true rfl, Nat.le_of_ble_eq_true rfl⟩) rfl (Nat.le_of_ble_eq_true rfl) dJ0_length_8abf5_6 ⟨Nat.le_of_ble_eq_true rfl, Nat.le_of_ble_eq_true rfl⟩ (cq_kIe ?_)
  refine cq_ishr F dJ0_length_8abf5_9 ?_
  exact cq_iret F hr (by decide) (by decide) dJ0_length_8abf5_10 ⟨_, rfl, ⟨by rw [show (nI (cq_tl i)) >>> ((0 : Int32) &&& 31) = nI (cq_tl i) by simp], rfl⟩⟩
theorem hdVJ0_length_8abf5 : yJ0_length_8abf5.cls = RJ0 ∧ yJ0_length_8abf5.cls ≠ "java/lang/invoke/MethodHandle" ∧ yJ0_length_8abf5.cls ≠ "java/lang/invoke/VarHandle" ∧ (parseMethodDescriptor yJ0_length_8abf5.desc).map (fun d => d.parameters.length) = some 0 := by decide +kernel
abbrev rmJ3_checkIndex_8e157 : Room := ({ frames := 0, cells := 0, slots := 0, locals := 0 })
set_option maxHeartbeats 4000000 in
set_option maxRecDepth 100000 in
theorem kJ3_checkIndex_8e157 (l : Launch) (D : va_G) (cA : Nat → ClassId) (X : cq_X) (Bs : Nat) (j n w : Nat) (M : cq_M) (hj : j < n) (hn : n < 1000000) : cq_C l yJ3_checkIndex_8e157 wsJ3_checkIndex_8e157 rmJ3_checkIndex_8e157 D cA X Bs [.int (nI j), .int (nI n), .ref w] M (cq_PI (fun r M1 => r = nI j ∧ M1 = M)) 0 0 := by
  refine cq_met (cc := cJ3_checkIndex_8e157) (maxL := 3) (ret := (some .int)) (by decide) rfl (Nat.le_of_ble_eq_true rfl) [(0, .int (nI j)), (1, .int (nI n)), (2, .ref w)] rfl rfl ?_
  intro p9 e9 s9 m9 b9 t9 c9 F hr
  refine cq_iload_n F (i := 0) dJ3_checkIndex_8e157_0 rfl rfl ?_
  refine cq_if_lt F (tgt := 9) dJ3_checkIndex_8e157_1 (by decide) (fun c_1 => ?_) (fun c_1 => ?_)
  · have c_1 : j < 0 := (nI_b (a := j) (b := 0) (by omega) (by omega)).2.1.mp c_1
    omega
  · have c_1 : ¬ j < 0 := fun z => c_1 ((nI_b (a := j) (b := 0) (by omega) (by omega)).2.1.mpr z)
    refine cq_iload_n F (i := 0) dJ3_checkIndex_8e157_4 rfl rfl ?_
    refine cq_iload_n F (i := 1) dJ3_checkIndex_8e157_5 rfl rfl ?_
    refine cq_icmp_lt F (tgt := 16) dJ3_checkIndex_8e157_6 (by decide) (fun c_6 => ?_) (fun c_6 => ?_)
    · have c_6 : j < n := (nI_b (a := j) (b := n) (by omega) (by omega)).2.1.mp c_6
      refine cq_iload_n F (i := 0) dJ3_checkIndex_8e157_16 rfl rfl ?_
      exact cq_iret F hr (by decide) (by decide) dJ3_checkIndex_8e157_17 ⟨_, rfl, ⟨rfl, rfl⟩⟩
    · have c_6 : ¬ j < n := fun z => c_6 ((nI_b (a := j) (b := n) (by omega) (by omega)).2.1.mpr z)
      omega
theorem hdVJ3_checkIndex_8e157 : yJ3_checkIndex_8e157.cls = RJ3 ∧ yJ3_checkIndex_8e157.cls ≠ "java/lang/invoke/MethodHandle" ∧ yJ3_checkIndex_8e157.cls ≠ "java/lang/invoke/VarHandle" ∧ (parseMethodDescriptor yJ3_checkIndex_8e157.desc).map (fun d => d.parameters.length) = some 3 := by decide +kernel
set_option maxHeartbeats 4000000 in
set_option maxRecDepth 100000 in
theorem kJ3_checkIndex_n (l : Launch) (D : va_G) (cA : Nat → ClassId) (X : cq_X) (Bs : Nat) (j n : Nat) (M : cq_M) (hj : j < n) (hn : n < 1000000) : cq_C l yJ3_checkIndex_8e157 wsJ3_checkIndex_8e157 rmJ3_checkIndex_8e157 D cA X Bs [.int (nI j), .int (nI n), .null] M (cq_PI (fun r M1 => r = nI j ∧ M1 = M)) 0 0 := by
  refine cq_met (cc := cJ3_checkIndex_8e157) (maxL := 3) (ret := (some .int)) (by decide) rfl (Nat.le_of_ble_eq_true rfl) [(0, .int (nI j)), (1, .int (nI n)), (2, .null)] rfl rfl ?_
  intro p9 e9 s9 m9 b9 t9 c9 F hr
  refine cq_iload_n F (i := 0) dJ3_checkIndex_8e157_0 rfl rfl ?_
  refine cq_if_lt F (tgt := 9) dJ3_checkIndex_8e157_1 (by decide) (fun c_1 => ?_) (fun c_1 => ?_)
  · have c_1 : j < 0 := (nI_b (a := j) (b := 0) (by omega) (by omega)).2.1.mp c_1
    omega
  · have c_1 : ¬ j < 0 := fun z => c_1 ((nI_b (a := j) (b := 0) (by omega) (by omega)).2.1.mpr z)
    refine cq_iload_n F (i := 0) dJ3_checkIndex_8e157_4 rfl rfl ?_
    refine cq_iload_n F (i := 1) dJ3_checkIndex_8e157_5 rfl rfl ?_
    refine cq_icmp_lt F (tgt := 16) dJ3_checkIndex_8e157_6 (by decide) (fun c_6 => ?_) (fun c_6 => ?_)
    · have c_6 : j < n := (nI_b (a := j) (b := n) (by omega) (by omega)).2.1.mp c_6
      refine cq_iload_n F (i := 0) dJ3_checkIndex_8e157_16 rfl rfl ?_
      exact cq_iret F hr (by decide) (by decide) dJ3_checkIndex_8e157_17 ⟨_, rfl, ⟨rfl, rfl⟩⟩
    · have c_6 : ¬ j < n := fun z => c_6 ((nI_b (a := j) (b := n) (by omega) (by omega)).2.1.mpr z)
      omega
abbrev rmJ0_checkIndex_df160 : Room := ({ frames := 1, cells := 0, slots := 0, locals := 22 })
set_option maxHeartbeats 4000000 in
set_option maxRecDepth 100000 in
theorem kJ0_checkIndex_df160 (l : Launch) (D : va_G) (cA : Nat → ClassId) (X : cq_X) (Bs : Nat) (j n : Nat) (M : cq_M) (hj : j < n) (hn : n < 1000000) : cq_C l yJ0_checkIndex_df160 wsJ0_checkIndex_df160 rmJ0_checkIndex_df160 D cA X Bs [.int (nI j), .int (nI n)] M (cq_PV (fun M1 => M1 = M)) 0 0 := by
  refine cq_met (cc := cJ0_checkIndex_df160) (maxL := 2) (ret := none) (by decide) rfl (Nat.le_of_ble_eq_true rfl) [(0, .int (nI j)), (1, .int (nI n))] rfl rfl ?_
  intro p9 e9 s9 m9 b9 t9 c9 F hr
  refine cq_iload_n F (i := 0) dJ0_checkIndex_df160_0 rfl rfl ?_
  refine cq_iload_n F (i := 1) dJ0_checkIndex_df160_1 rfl rfl ?_
  refine cq_getSI F (F.1.2.2.2.2 _ (List.mem_of_getElem? (l := wsJ0_checkIndex_df160) (i := 1) (a := .fieldLink RJ0 1053 "jdk/internal/util/Preconditions" "SIOOBE_FORMATTER" "Ljava/util/function/BiFunction;") (by decide +kernel))) dJ0_checkIndex_df160_2 (fun t_2 => ?_) ?_
  · refine cq_callS F (kJ3_checkIndex_8e157 l D cA X Bs j n t_2 M hj hn) (va_cwS 3 F.1.2.2.2.2 gJ0_checkIndex_df160_J3_checkIndex_8e157 rfl rfl rfl hdVJ3_checkIndex_8e157.2 ⟨Nat.le_of_ble_eq_true rfl, Nat.le_of_ble_eq_true rfl⟩) rfl (Nat.le_of_ble_eq_true rfl) dJ0_checkIndex_df160_5 ⟨Nat.le_of_ble_eq_true rfl, Nat.le_of_ble_eq_true rfl⟩ (cq_kIe ?_)
    refine cq_pop F dJ0_checkIndex_df160_8 rfl ?_
    exact cq_vret F hr (by decide) (by decide) dJ0_checkIndex_df160_9 ⟨rfl, rfl⟩
  · refine cq_callS F (kJ3_checkIndex_n l D cA X Bs j n M hj hn) (va_cwS 3 F.1.2.2.2.2 gJ0_checkIndex_df160_J3_checkIndex_8e157 rfl rfl rfl hdVJ3_checkIndex_8e157.2 ⟨Nat.le_of_ble_eq_true rfl, Nat.le_of_ble_eq_true rfl⟩) rfl (Nat.le_of_ble_eq_true rfl) dJ0_checkIndex_df160_5 ⟨Nat.le_of_ble_eq_true rfl, Nat.le_of_ble_eq_true rfl⟩ (cq_kIe ?_)
    refine cq_pop F dJ0_checkIndex_df160_8 rfl ?_
    exact cq_vret F hr (by decide) (by decide) dJ0_checkIndex_df160_9 ⟨rfl, rfl⟩
theorem hdVJ0_checkIndex_df160 : yJ0_checkIndex_df160.cls = RJ0 ∧ yJ0_checkIndex_df160.cls ≠ "java/lang/invoke/MethodHandle" ∧ yJ0_checkIndex_df160.cls ≠ "java/lang/invoke/VarHandle" ∧ (parseMethodDescriptor yJ0_checkIndex_df160.desc).map (fun d => d.parameters.length) = some 2 := by decide +kernel
