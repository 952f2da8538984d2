/-! CordClock$Cord: what its methods do to the memory -/
theorem cq_zn {x : Int32} (h : x = 0 ∨ x = 1) : narrow .boolean (.int x) = .int x := by rcases h with rfl | rfl <;> rfl
theorem cq_fz {x : Int32} (h : x = 0 ∨ x = 1) : fits .boolean (.int x) = true := by rcases h with rfl | rfl <;> rfl
/-- the cord at a is burned out -/
abbrev cd_out (M : cq_M) (a : Nat) : Prop := M a 3 + M a 4 = M a 2
def cd_fl (M : cq_M) (a : Nat) : Int32 := (if M a 5 = 0 then 0 else 1) + (if M a 6 = 0 then 0 else 1)
abbrev rmX1_burnedTime : Room := ({ frames := 0, cells := 0, slots := 0, locals := 0 })
set_option maxHeartbeats 4000000 in
set_option maxRecDepth 100000 in
theorem kX1_burnedTime (l : Launch) (D : va_G) (cA : Nat → ClassId) (X : cq_X) (Bs : Nat) (a : Nat) (M : cq_M) (ha : cq_isCord X a) : cq_C l yX1_burnedTime wsX1_burnedTime rmX1_burnedTime D cA X Bs [.ref a] M (cq_PI (fun r M1 => r = M a 3 + M a 4 ∧ M1 = M)) 0 0 := by
  refine cq_met (cc := cX1_burnedTime) (maxL := 1) (ret := (some .int)) (by decide) rfl (Nat.le_of_ble_eq_true rfl) [(0, .ref a)] rfl rfl ?_
  intro p9 e9 s9 m9 b9 t9 c9 F hr
  have inX1 : ∀ w ∈ wsX10, w ∈ wsX1_burnedTime := (fun w h => List.mem_cons_of_mem _ (List.mem_append_right _ h))
  refine cq_aload_n F (i := 0) dX1_burnedTime_0 rfl rfl ?_
  refine cq_getI F (C := RX1) (T := TX1) (N := 8) (ci := 2) ha.kind rfl ⟨⟨by decide, by decide⟩, rfl⟩ inX1 3 (by decide) rfl rfl (F.1.2.2.2.2 _ (List.mem_of_getElem? (l := wsX1_burnedTime) (i := 1) (a := .fieldLink RX1 25 "CordClock$Cord" "leftBurned" "I") (by decide +kernel))) dX1_burnedTime_1 ?_
  refine cq_aload_n F (i := 0) dX1_burnedTime_4 rfl rfl ?_
  refine cq_getI F (C := RX1) (T := TX1) (N := 8) (ci := 2) ha.kind rfl ⟨⟨by decide, by decide⟩, rfl⟩ inX1 4 (by decide) rfl rfl (F.1.2.2.2.2 _ (List.mem_of_getElem? (l := wsX1_burnedTime) (i := 2) (a := .fieldLink RX1 28 "CordClock$Cord" "rightBurned" "I") (by decide +kernel))) dX1_burnedTime_5 ?_
  refine cq_iadd F dX1_burnedTime_8 ?_
  exact cq_iret F hr (by decide) (by decide) dX1_burnedTime_9 ⟨_, rfl, ⟨by clear F hr; simp_all, rfl⟩⟩
theorem hdVX1_burnedTime : yX1_burnedTime.cls = RX1 ∧ yX1_burnedTime.cls ≠ "java/lang/invoke/MethodHandle" ∧ yX1_burnedTime.cls ≠ "java/lang/invoke/VarHandle" ∧ (parseMethodDescriptor yX1_burnedTime.desc).map (fun d => d.parameters.length) = some 0 := by decide +kernel
abbrev rmX1_timeLeft : Room := ({ frames := 0, cells := 0, slots := 0, locals := 0 })
set_option maxHeartbeats 4000000 in
set_option maxRecDepth 100000 in
theorem kX1_timeLeft (l : Launch) (D : va_G) (cA : Nat → ClassId) (X : cq_X) (Bs : Nat) (a : Nat) (M : cq_M) (ha : cq_isCord X a) : cq_C l yX1_timeLeft wsX1_timeLeft rmX1_timeLeft D cA X Bs [.ref a] M (cq_PI (fun r M1 => r = M a 2 - M a 3 - M a 4 ∧ M1 = M)) 0 0 := by
  refine cq_met (cc := cX1_timeLeft) (maxL := 1) (ret := (some .int)) (by decide) rfl (Nat.le_of_ble_eq_true rfl) [(0, .ref a)] rfl rfl ?_
  intro p9 e9 s9 m9 b9 t9 c9 F hr
  have inX1 : ∀ w ∈ wsX10, w ∈ wsX1_timeLeft := (fun w h => List.mem_cons_of_mem _ (List.mem_append_right _ h))
  refine cq_aload_n F (i := 0) dX1_timeLeft_0 rfl rfl ?_
  refine cq_getI F (C := RX1) (T := TX1) (N := 8) (ci := 2) ha.kind rfl ⟨⟨by decide, by decide⟩, rfl⟩ inX1 2 (by decide) rfl rfl (F.1.2.2.2.2 _ (List.mem_of_getElem? (l := wsX1_timeLeft) (i := 1) (a := .fieldLink RX1 22 "CordClock$Cord" "time" "I") (by decide +kernel))) dX1_timeLeft_1 ?_
  refine cq_aload_n F (i := 0) dX1_timeLeft_4 rfl rfl ?_
  refine cq_getI F (C := RX1) (T := TX1) (N := 8) (ci := 2) ha.kind rfl ⟨⟨by decide, by decide⟩, rfl⟩ inX1 3 (by decide) rfl rfl (F.1.2.2.2.2 _ (List.mem_of_getElem? (l := wsX1_timeLeft) (i := 2) (a := .fieldLink RX1 25 "CordClock$Cord" "leftBurned" "I") (by decide +kernel))) dX1_timeLeft_5 ?_
  refine cq_isub F dX1_timeLeft_8 ?_
  refine cq_aload_n F (i := 0) dX1_timeLeft_9 rfl rfl ?_
  refine cq_getI F (C := RX1) (T := TX1) (N := 8) (ci := 2) ha.kind rfl ⟨⟨by decide, by decide⟩, rfl⟩ inX1 4 (by decide) rfl rfl (F.1.2.2.2.2 _ (List.mem_of_getElem? (l := wsX1_timeLeft) (i := 3) (a := .fieldLink RX1 28 "CordClock$Cord" "rightBurned" "I") (by decide +kernel))) dX1_timeLeft_10 ?_
  refine cq_isub F dX1_timeLeft_13 ?_
  exact cq_iret F hr (by decide) (by decide) dX1_timeLeft_14 ⟨_, rfl, ⟨by clear F hr; simp_all, rfl⟩⟩
theorem hdVX1_timeLeft : yX1_timeLeft.cls = RX1 ∧ yX1_timeLeft.cls ≠ "java/lang/invoke/MethodHandle" ∧ yX1_timeLeft.cls ≠ "java/lang/invoke/VarHandle" ∧ (parseMethodDescriptor yX1_timeLeft.desc).map (fun d => d.parameters.length) = some 0 := by decide +kernel
abbrev rmX1_isOut : Room := ({ frames := 0, cells := 0, slots := 0, locals := 0 })
set_option maxHeartbeats 4000000 in
set_option maxRecDepth 100000 in
theorem kX1_isOut (l : Launch) (D : va_G) (cA : Nat → ClassId) (X : cq_X) (Bs : Nat) (a : Nat) (M : cq_M) (ha : cq_isCord X a) : cq_C l yX1_isOut wsX1_isOut rmX1_isOut D cA X Bs [.ref a] M (cq_PI (fun r M1 => r = (if cd_out M a then 1 else 0) ∧ M1 = M)) 0 0 := by
  refine cq_met (cc := cX1_isOut) (maxL := 1) (ret := (some .boolean)) (by decide) rfl (Nat.le_of_ble_eq_true rfl) [(0, .ref a)] rfl rfl ?_
  intro p9 e9 s9 m9 b9 t9 c9 F hr
  have inX1 : ∀ w ∈ wsX10, w ∈ wsX1_isOut := (fun w h => List.mem_cons_of_mem _ (List.mem_append_right _ h))
  refine cq_aload_n F (i := 0) dX1_isOut_0 rfl rfl ?_
  refine cq_getI F (C := RX1) (T := TX1) (N := 8) (ci := 2) ha.kind rfl ⟨⟨by decide, by decide⟩, rfl⟩ inX1 3 (by decide) rfl rfl (F.1.2.2.2.2 _ (List.mem_of_getElem? (l := wsX1_isOut) (i := 1) (a := .fieldLink RX1 25 "CordClock$Cord" "leftBurned" "I") (by decide +kernel))) dX1_isOut_1 ?_
  refine cq_aload_n F (i := 0) dX1_isOut_4 rfl rfl ?_
  refine cq_getI F (C := RX1) (T := TX1) (N := 8) (ci := 2) ha.kind rfl ⟨⟨by decide, by decide⟩, rfl⟩ inX1 4 (by decide) rfl rfl (F.1.2.2.2.2 _ (List.mem_of_getElem? (l := wsX1_isOut) (i := 2) (a := .fieldLink RX1 28 "CordClock$Cord" "rightBurned" "I") (by decide +kernel))) dX1_isOut_5 ?_
  refine cq_iadd F dX1_isOut_8 ?_
  refine cq_aload_n F (i := 0) dX1_isOut_9 rfl rfl ?_
  refine cq_getI F (C := RX1) (T := TX1) (N := 8) (ci := 2) ha.kind rfl ⟨⟨by decide, by decide⟩, rfl⟩ inX1 2 (by decide) rfl rfl (F.1.2.2.2.2 _ (List.mem_of_getElem? (l := wsX1_isOut) (i := 3) (a := .fieldLink RX1 22 "CordClock$Cord" "time" "I") (by decide +kernel))) dX1_isOut_10 ?_
  refine cq_icmp_ne F (tgt := 20) dX1_isOut_13 (by decide) (fun c_13 => ?_) (fun c_13 => ?_)
  · refine cq_iconst F (v := 0) dX1_isOut_20 rfl ?_
    exact cq_zret F hr (by rfl) (by decide) (by decide) dX1_isOut_21 ⟨_, rfl, ⟨by clear F hr; simp_all, rfl⟩⟩
  · refine cq_iconst F (v := 1) dX1_isOut_16 rfl ?_
    refine cq_goto F (tgt := 21) dX1_isOut_17 (by decide) ?_
    exact cq_zret F hr (by rfl) (by decide) (by decide) dX1_isOut_21 ⟨_, rfl, ⟨by clear F hr; simp_all, rfl⟩⟩
theorem hdVX1_isOut : yX1_isOut.cls = RX1 ∧ yX1_isOut.cls ≠ "java/lang/invoke/MethodHandle" ∧ yX1_isOut.cls ≠ "java/lang/invoke/VarHandle" ∧ (parseMethodDescriptor yX1_isOut.desc).map (fun d => d.parameters.length) = some 0 := by decide +kernel
abbrev rmX1_flameCount : Room := ({ frames := 0, cells := 0, slots := 0, locals := 0 })
set_option maxHeartbeats 4000000 in
set_option maxRecDepth 100000 in
theorem kX1_flameCount (l : Launch) (D : va_G) (cA : Nat → ClassId) (X : cq_X) (Bs : Nat) (a : Nat) (M : cq_M) (ha : cq_isCord X a) : cq_C l yX1_flameCount wsX1_flameCount rmX1_flameCount D cA X Bs [.ref a] M (cq_PI (fun r M1 => r = cd_fl M a ∧ M1 = M)) 0 0 := by
  refine cq_met (cc := cX1_flameCount) (maxL := 1) (ret := (some .int)) (by decide) rfl (Nat.le_of_ble_eq_true rfl) [(0, .ref a)] rfl rfl ?_
  intro p9 e9 s9 m9 b9 t9 c9 F hr
  have inX1 : ∀ w ∈ wsX10, w ∈ wsX1_flameCount := (fun w h => List.mem_cons_of_mem _ (List.mem_append_right _ h))
  refine cq_aload_n F (i := 0) dX1_flameCount_0 rfl rfl ?_
  refine cq_getI F (C := RX1) (T := TX1) (N := 8) (ci := 2) ha.kind rfl ⟨⟨by decide, by decide⟩, rfl⟩ inX1 5 (by decide) rfl rfl (F.1.2.2.2.2 _ (List.mem_of_getElem? (l := wsX1_flameCount) (i := 1) (a := .fieldLink RX1 31 "CordClock$Cord" "leftFlame" "Z") (by decide +kernel))) dX1_flameCount_1 ?_
  refine cq_if_eq F (tgt := 11) dX1_flameCount_4 (by decide) (fun c_4 => ?_) (fun c_4 => ?_)
  · refine cq_iconst F (v := 0) dX1_flameCount_11 rfl ?_
    refine cq_aload_n F (i := 0) dX1_flameCount_12 rfl rfl ?_
    refine cq_getI F (C := RX1) (T := TX1) (N := 8) (ci := 2) ha.kind rfl ⟨⟨by decide, by decide⟩, rfl⟩ inX1 6 (by decide) rfl rfl (F.1.2.2.2.2 _ (List.mem_of_getElem? (l := wsX1_flameCount) (i := 2) (a := .fieldLink RX1 35 "CordClock$Cord" "rightFlame" "Z") (by decide +kernel))) dX1_flameCount_13 ?_
    refine cq_if_eq F (tgt := 23) dX1_flameCount_16 (by decide) (fun c_16 => ?_) (fun c_16 => ?_)
    · refine cq_iconst F (v := 0) dX1_flameCount_23 rfl ?_
      refine cq_iadd F dX1_flameCount_24 ?_
      rw [show (0 + 0 : Int32) = 0 from by decide]
      exact cq_iret F hr (by decide) (by decide) dX1_flameCount_25 ⟨_, rfl, ⟨by simp [*, cd_fl], rfl⟩⟩
    · refine cq_iconst F (v := 1) dX1_flameCount_19 rfl ?_
      refine cq_goto F (tgt := 24) dX1_flameCount_20 (by decide) ?_
      refine cq_iadd F dX1_flameCount_24 ?_
      rw [show (0 + 1 : Int32) = 1 from by decide]
      exact cq_iret F hr (by decide) (by decide) dX1_flameCount_25 ⟨_, rfl, ⟨by simp [*, cd_fl], rfl⟩⟩
  · refine cq_iconst F (v := 1) dX1_flameCount_7 rfl ?_
    refine cq_goto F (tgt := 12) dX1_flameCount_8 (by decide) ?_
    refine cq_aload_n F (i := 0) dX1_flameCount_12 rfl rfl ?_
    refine cq_getI F (C := RX1) (T := TX1) (N := 8) (ci := 2) ha.kind rfl ⟨⟨by decide, by decide⟩, rfl⟩ inX1 6 (by decide) rfl rfl (F.1.2.2.2.2 _ (List.mem_of_getElem? (l := wsX1_flameCount) (i := 2) (a := .fieldLink RX1 35 "CordClock$Cord" "rightFlame" "Z") (by decide +kernel))) dX1_flameCount_13 ?_
    refine cq_if_eq F (tgt := 23) dX1_flameCount_16 (by decide) (fun c_16 => ?_) (fun c_16 => ?_)
    · refine cq_iconst F (v := 0) dX1_flameCount_23 rfl ?_
      refine cq_iadd F dX1_flameCount_24 ?_
      rw [show (1 + 0 : Int32) = 1 from by decide]
      exact cq_iret F hr (by decide) (by decide) dX1_flameCount_25 ⟨_, rfl, ⟨by simp [*, cd_fl], rfl⟩⟩
    · refine cq_iconst F (v := 1) dX1_flameCount_19 rfl ?_
      refine cq_goto F (tgt := 24) dX1_flameCount_20 (by decide) ?_
      refine cq_iadd F dX1_flameCount_24 ?_
      rw [show (1 + 1 : Int32) = 2 from by decide]
      exact cq_iret F hr (by decide) (by decide) dX1_flameCount_25 ⟨_, rfl, ⟨by simp [*, cd_fl], rfl⟩⟩
theorem hdVX1_flameCount : yX1_flameCount.cls = RX1 ∧ yX1_flameCount.cls ≠ "java/lang/invoke/MethodHandle" ∧ yX1_flameCount.cls ≠ "java/lang/invoke/VarHandle" ∧ (parseMethodDescriptor yX1_flameCount.desc).map (fun d => d.parameters.length) = some 0 := by decide +kernel
abbrev rmX1_hasFlame : Room := ({ frames := 0, cells := 0, slots := 0, locals := 0 })
set_option maxHeartbeats 4000000 in
set_option maxRecDepth 100000 in
theorem kX1_hasFlame (l : Launch) (D : va_G) (cA : Nat → ClassId) (X : cq_X) (Bs : Nat) (a : Nat) (x : Int32) (M : cq_M) (ha : cq_isCord X a) (h5 : M a 5 = 0 ∨ M a 5 = 1) (h6 : M a 6 = 0 ∨ M a 6 = 1) : cq_C l yX1_hasFlame wsX1_hasFlame rmX1_hasFlame D cA X Bs [.ref a, .int x] M (cq_PI (fun r M1 => r = (if x = 0 then M a 6 else M a 5) ∧ M1 = M)) 0 0 := by
  refine cq_met (cc := cX1_hasFlame) (maxL := 2) (ret := (some .boolean)) (by decide) rfl (Nat.le_of_ble_eq_true rfl) [(0, .ref a), (1, .int x)] rfl rfl ?_
  intro p9 e9 s9 m9 b9 t9 c9 F hr
  have inX1 : ∀ w ∈ wsX10, w ∈ wsX1_hasFlame := (fun w h => List.mem_cons_of_mem _ (List.mem_append_right _ h))
  refine cq_iload_n F (i := 1) dX1_hasFlame_0 rfl rfl ?_
  refine cq_if_eq F (tgt := 11) dX1_hasFlame_1 (by decide) (fun c_1 => ?_) (fun c_1 => ?_)
  · refine cq_aload_n F (i := 0) dX1_hasFlame_11 rfl rfl ?_
    refine cq_getI F (C := RX1) (T := TX1) (N := 8) (ci := 2) ha.kind rfl ⟨⟨by decide, by decide⟩, rfl⟩ inX1 6 (by decide) rfl rfl (F.1.2.2.2.2 _ (List.mem_of_getElem? (l := wsX1_hasFlame) (i := 2) (a := .fieldLink RX1 35 "CordClock$Cord" "rightFlame" "Z") (by decide +kernel))) dX1_hasFlame_12 ?_
    exact cq_zret F hr (by first | exact cq_zn h5 | exact cq_zn h6) (by decide) (by decide) dX1_hasFlame_15 ⟨_, rfl, ⟨by clear F hr; simp_all, rfl⟩⟩
  · refine cq_aload_n F (i := 0) dX1_hasFlame_4 rfl rfl ?_
    refine cq_getI F (C := RX1) (T := TX1) (N := 8) (ci := 2) ha.kind rfl ⟨⟨by decide, by decide⟩, rfl⟩ inX1 5 (by decide) rfl rfl (F.1.2.2.2.2 _ (List.mem_of_getElem? (l := wsX1_hasFlame) (i := 1) (a := .fieldLink RX1 31 "CordClock$Cord" "leftFlame" "Z") (by decide +kernel))) dX1_hasFlame_5 ?_
    refine cq_goto F (tgt := 15) dX1_hasFlame_8 (by decide) ?_
    exact cq_zret F hr (by first | exact cq_zn h5 | exact cq_zn h6) (by decide) (by decide) dX1_hasFlame_15 ⟨_, rfl, ⟨by clear F hr; simp_all, rfl⟩⟩
theorem hdVX1_hasFlame : yX1_hasFlame.cls = RX1 ∧ yX1_hasFlame.cls ≠ "java/lang/invoke/MethodHandle" ∧ yX1_hasFlame.cls ≠ "java/lang/invoke/VarHandle" ∧ (parseMethodDescriptor yX1_hasFlame.desc).map (fun d => d.parameters.length) = some 1 := by decide +kernel
abbrev rmX1_setFlame : Room := ({ frames := 0, cells := 0, slots := 0, locals := 0 })
set_option maxHeartbeats 4000000 in
set_option maxRecDepth 100000 in
theorem kX1_setFlame (l : Launch) (D : va_G) (cA : Nat → ClassId) (X : cq_X) (Bs : Nat) (a : Nat) (x y : Int32) (M : cq_M) (ha : cq_isCord X a) (hy : y = 0 ∨ y = 1) : cq_C l yX1_setFlame wsX1_setFlame rmX1_setFlame D cA X Bs [.ref a, .int x, .int y] M (cq_PV (fun M1 => M1 = (if x = 0 then cq_up M a 6 y else cq_up M a 5 y))) 0 0 := by
  refine cq_met (cc := cX1_setFlame) (maxL := 3) (ret := none) (by decide) rfl (Nat.le_of_ble_eq_true rfl) [(0, .ref a), (1, .int x), (2, .int y)] rfl rfl ?_
  intro p9 e9 s9 m9 b9 t9 c9 F hr
  have inX1 : ∀ w ∈ wsX10, w ∈ wsX1_setFlame := (fun w h => List.mem_cons_of_mem _ (List.mem_append_right _ h))
  refine cq_iload_n F (i := 1) dX1_setFlame_0 rfl rfl ?_
  refine cq_if_eq F (tgt := 12) dX1_setFlame_1 (by decide) (fun c_1 => ?_) (fun c_1 => ?_)
  · refine cq_aload_n F (i := 0) dX1_setFlame_12 rfl rfl ?_
    refine cq_iload_n F (i := 2) dX1_setFlame_13 rfl rfl ?_
    refine cq_put F (C := RX1) (T := TX1) (N := 8) (ci := 2) ha.kind rfl ⟨⟨by decide, by decide⟩, rfl⟩ inX1 tyX1 tyX1_ok nmX1 6 (by decide) rfl rfl (F.1.2.2.2.2 _ (List.mem_of_getElem? (l := wsX1_setFlame) (i := 2) (a := .fieldLink RX1 35 "CordClock$Cord" "rightFlame" "Z") (by decide +kernel))) rfl (cq_zn hy) (cq_fz hy) dX1_setFlame_14 (fun M_14 h_14 => ?_)
    exact cq_vret F hr (by decide) (by decide) dX1_setFlame_17 ⟨rfl, by simp [*]⟩
  · refine cq_aload_n F (i := 0) dX1_setFlame_4 rfl rfl ?_
    refine cq_iload_n F (i := 2) dX1_setFlame_5 rfl rfl ?_
    refine cq_put F (C := RX1) (T := TX1) (N := 8) (ci := 2) ha.kind rfl ⟨⟨by decide, by decide⟩, rfl⟩ inX1 tyX1 tyX1_ok nmX1 5 (by decide) rfl rfl (F.1.2.2.2.2 _ (List.mem_of_getElem? (l := wsX1_setFlame) (i := 1) (a := .fieldLink RX1 31 "CordClock$Cord" "leftFlame" "Z") (by decide +kernel))) rfl (cq_zn hy) (cq_fz hy) dX1_setFlame_6 (fun M_6 h_6 => ?_)
    refine cq_goto F (tgt := 17) dX1_setFlame_9 (by decide) ?_
    exact cq_vret F hr (by decide) (by decide) dX1_setFlame_17 ⟨rfl, by simp [*]⟩
theorem hdVX1_setFlame : yX1_setFlame.cls = RX1 ∧ yX1_setFlame.cls ≠ "java/lang/invoke/MethodHandle" ∧ yX1_setFlame.cls ≠ "java/lang/invoke/VarHandle" ∧ (parseMethodDescriptor yX1_setFlame.desc).map (fun d => d.parameters.length) = some 2 := by decide +kernel
abbrev rmX1_canBeLit : Room := ({ frames := 1, cells := 0, slots := 0, locals := 21 })
set_option maxHeartbeats 4000000 in
set_option maxRecDepth 100000 in
theorem kX1_canBeLit (l : Launch) (D : va_G) (cA : Nat → ClassId) (X : cq_X) (Bs : Nat) (a : Nat) (x : Int32) (M : cq_M) (ha : cq_isCord X a) (h5 : M a 5 = 0 ∨ M a 5 = 1) (h6 : M a 6 = 0 ∨ M a 6 = 1) : cq_C l yX1_canBeLit wsX1_canBeLit rmX1_canBeLit D cA X Bs [.ref a, .int x] M (cq_PI (fun r M1 => r = (if ¬ cd_out M a ∧ (if x = 0 then M a 6 else M a 5) = 0 then 1 else 0) ∧ M1 = M)) 0 0 := by
  refine cq_met (cc := cX1_canBeLit) (maxL := 2) (ret := (some .boolean)) (by decide) rfl (Nat.le_of_ble_eq_true rfl) [(0, .ref a), (1, .int x)] rfl rfl ?_
  intro p9 e9 s9 m9 b9 t9 c9 F hr
  refine cq_aload_n F (i := 0) dX1_canBeLit_0 rfl rfl ?_
  refine cq_callV F (C := RX1) (ci := 2) (kX1_isOut l D cA X Bs a M ha) (cwV 0 F.1.2.2.2.2 gX1_canBeLit_X1_isOut rfl rfl rfl hdVX1_isOut ⟨Nat.le_of_ble_eq_true rfl, Nat.le_of_ble_eq_true rfl⟩) ha.kind ⟨by decide, by decide⟩ rfl rfl rfl (Nat.le_of_ble_eq_true rfl) dX1_canBeLit_1 ⟨Nat.le_of_ble_eq_true rfl, Nat.le_of_ble_eq_true rfl⟩ (cq_kIp fun r_1 h_1 => ?_)
  refine cq_if_ne F (tgt := 19) dX1_canBeLit_4 (by decide) (fun c_4 => ?_) (fun c_4 => ?_)
  · refine cq_iconst F (v := 0) dX1_canBeLit_19 rfl ?_
    exact cq_zret F hr (by rfl) (by decide) (by decide) dX1_canBeLit_20 ⟨_, rfl, ⟨by clear F hr h5 h6; subst_vars; simp_all, rfl⟩⟩
  · refine cq_aload_n F (i := 0) dX1_canBeLit_7 rfl rfl ?_
    refine cq_iload_n F (i := 1) dX1_canBeLit_8 rfl rfl ?_
    refine cq_callV F (C := RX1) (ci := 2) (kX1_hasFlame l D cA X Bs a x M ha h5 h6) (cwV 1 F.1.2.2.2.2 gX1_canBeLit_X1_hasFlame rfl rfl rfl hdVX1_hasFlame ⟨Nat.le_of_ble_eq_true rfl, Nat.le_of_ble_eq_true rfl⟩) ha.kind ⟨by decide, by decide⟩ rfl rfl rfl (Nat.le_of_ble_eq_true rfl) dX1_canBeLit_9 ⟨Nat.le_of_ble_eq_true rfl, Nat.le_of_ble_eq_true rfl⟩ (cq_kIp fun r_9 h_9 => ?_)
    refine cq_if_ne F (tgt := 19) dX1_canBeLit_12 (by decide) (fun c_12 => ?_) (fun c_12 => ?_)
    · refine cq_iconst F (v := 0) dX1_canBeLit_19 rfl ?_
      exact cq_zret F hr (by rfl) (by decide) (by decide) dX1_canBeLit_20 ⟨_, rfl, ⟨by clear F hr h5 h6; subst_vars; simp_all, rfl⟩⟩
    · refine cq_iconst F (v := 1) dX1_canBeLit_15 rfl ?_
      refine cq_goto F (tgt := 20) dX1_canBeLit_16 (by decide) ?_
      exact cq_zret F hr (by rfl) (by decide) (by decide) dX1_canBeLit_20 ⟨_, rfl, ⟨by clear F hr h5 h6; subst_vars; simp_all, rfl⟩⟩
theorem hdVX1_canBeLit : yX1_canBeLit.cls = RX1 ∧ yX1_canBeLit.cls ≠ "java/lang/invoke/MethodHandle" ∧ yX1_canBeLit.cls ≠ "java/lang/invoke/VarHandle" ∧ (parseMethodDescriptor yX1_canBeLit.desc).map (fun d => d.parameters.length) = some 1 := by decide +kernel
abbrev rmX1_makeNew : Room := ({ frames := 0, cells := 0, slots := 0, locals := 0 })
set_option maxHeartbeats 4000000 in
set_option maxRecDepth 100000 in
theorem kX1_makeNew (l : Launch) (D : va_G) (cA : Nat → ClassId) (X : cq_X) (Bs : Nat) (a : Nat) (M : cq_M) (ha : cq_isCord X a) : cq_C l yX1_makeNew wsX1_makeNew rmX1_makeNew D cA X Bs [.ref a] M (cq_PV (fun M1 => M1 = cq_up (cq_up (cq_up (cq_up M a 3 0) a 4 0) a 5 0) a 6 0)) 0 0 := by
  refine cq_met (cc := cX1_makeNew) (maxL := 1) (ret := none) (by decide) rfl (Nat.le_of_ble_eq_true rfl) [(0, .ref a)] rfl rfl ?_
  intro p9 e9 s9 m9 b9 t9 c9 F hr
  have inX1 : ∀ w ∈ wsX10, w ∈ wsX1_makeNew := (fun w h => List.mem_cons_of_mem _ (List.mem_append_right _ h))
  refine cq_aload_n F (i := 0) dX1_makeNew_0 rfl rfl ?_
  refine cq_iconst F (v := 0) dX1_makeNew_1 rfl ?_
  refine cq_put F (C := RX1) (T := TX1) (N := 8) (ci := 2) ha.kind rfl ⟨⟨by decide, by decide⟩, rfl⟩ inX1 tyX1 tyX1_ok nmX1 3 (by decide) rfl rfl (F.1.2.2.2.2 _ (List.mem_of_getElem? (l := wsX1_makeNew) (i := 1) (a := .fieldLink RX1 25 "CordClock$Cord" "leftBurned" "I") (by decide +kernel))) rfl (by rfl) (by rfl) dX1_makeNew_2 (fun M_2 h_2 => ?_)
  refine cq_aload_n F (i := 0) dX1_makeNew_5 rfl rfl ?_
  refine cq_iconst F (v := 0) dX1_makeNew_6 rfl ?_
  refine cq_put F (C := RX1) (T := TX1) (N := 8) (ci := 2) ha.kind rfl ⟨⟨by decide, by decide⟩, rfl⟩ inX1 tyX1 tyX1_ok nmX1 4 (by decide) rfl rfl (F.1.2.2.2.2 _ (List.mem_of_getElem? (l := wsX1_makeNew) (i := 2) (a := .fieldLink RX1 28 "CordClock$Cord" "rightBurned" "I") (by decide +kernel))) rfl (by rfl) (by rfl) dX1_makeNew_7 (fun M_7 h_7 => ?_)
  refine cq_aload_n F (i := 0) dX1_makeNew_10 rfl rfl ?_
  refine cq_iconst F (v := 0) dX1_makeNew_11 rfl ?_
  refine cq_put F (C := RX1) (T := TX1) (N := 8) (ci := 2) ha.kind rfl ⟨⟨by decide, by decide⟩, rfl⟩ inX1 tyX1 tyX1_ok nmX1 5 (by decide) rfl rfl (F.1.2.2.2.2 _ (List.mem_of_getElem? (l := wsX1_makeNew) (i := 3) (a := .fieldLink RX1 31 "CordClock$Cord" "leftFlame" "Z") (by decide +kernel))) rfl (by rfl) (by rfl) dX1_makeNew_12 (fun M_12 h_12 => ?_)
  refine cq_aload_n F (i := 0) dX1_makeNew_15 rfl rfl ?_
  refine cq_iconst F (v := 0) dX1_makeNew_16 rfl ?_
  refine cq_put F (C := RX1) (T := TX1) (N := 8) (ci := 2) ha.kind rfl ⟨⟨by decide, by decide⟩, rfl⟩ inX1 tyX1 tyX1_ok nmX1 6 (by decide) rfl rfl (F.1.2.2.2.2 _ (List.mem_of_getElem? (l := wsX1_makeNew) (i := 4) (a := .fieldLink RX1 35 "CordClock$Cord" "rightFlame" "Z") (by decide +kernel))) rfl (by rfl) (by rfl) dX1_makeNew_17 (fun M_17 h_17 => ?_)
  exact cq_vret F hr (by decide) (by decide) dX1_makeNew_20 ⟨rfl, by simp [*]⟩
theorem hdVX1_makeNew : yX1_makeNew.cls = RX1 ∧ yX1_makeNew.cls ≠ "java/lang/invoke/MethodHandle" ∧ yX1_makeNew.cls ≠ "java/lang/invoke/VarHandle" ∧ (parseMethodDescriptor yX1_makeNew.desc).map (fun d => d.parameters.length) = some 0 := by decide +kernel
abbrev rmX1_clear : Room := ({ frames := 1, cells := 0, slots := 0, locals := 20 })
set_option maxHeartbeats 4000000 in
set_option maxRecDepth 100000 in
theorem kX1_clear (l : Launch) (D : va_G) (cA : Nat → ClassId) (X : cq_X) (Bs : Nat) (a : Nat) (M : cq_M) (ha : cq_isCord X a) : cq_C l yX1_clear wsX1_clear rmX1_clear D cA X Bs [.ref a] M (cq_PV (fun M1 => M1 = cq_up (cq_up (cq_up (cq_up (cq_up (cq_up (cq_up M a 1 0) a 2 0) a 7 (-1)) a 3 0) a 4 0) a 5 0) a 6 0)) 0 0 := by
  refine cq_met (cc := cX1_clear) (maxL := 1) (ret := none) (by decide) rfl (Nat.le_of_ble_eq_true rfl) [(0, .ref a)] rfl rfl ?_
  intro p9 e9 s9 m9 b9 t9 c9 F hr
  have inX1 : ∀ w ∈ wsX10, w ∈ wsX1_clear := (fun w h => List.mem_cons_of_mem _ (List.mem_append_right _ h))
  refine cq_aload_n F (i := 0) dX1_clear_0 rfl rfl ?_
  refine cq_iconst F (v := 0) dX1_clear_1 rfl ?_
  refine cq_put F (C := RX1) (T := TX1) (N := 8) (ci := 2) ha.kind rfl ⟨⟨by decide, by decide⟩, rfl⟩ inX1 tyX1 tyX1_ok nmX1 1 (by decide) rfl rfl (F.1.2.2.2.2 _ (List.mem_of_getElem? (l := wsX1_clear) (i := 1) (a := .fieldLink RX1 19 "CordClock$Cord" "segments" "I") (by decide +kernel))) rfl (by rfl) (by rfl) dX1_clear_2 (fun M_2 h_2 => ?_)
  refine cq_aload_n F (i := 0) dX1_clear_5 rfl rfl ?_
  refine cq_iconst F (v := 0) dX1_clear_6 rfl ?_
  refine cq_put F (C := RX1) (T := TX1) (N := 8) (ci := 2) ha.kind rfl ⟨⟨by decide, by decide⟩, rfl⟩ inX1 tyX1 tyX1_ok nmX1 2 (by decide) rfl rfl (F.1.2.2.2.2 _ (List.mem_of_getElem? (l := wsX1_clear) (i := 2) (a := .fieldLink RX1 22 "CordClock$Cord" "time" "I") (by decide +kernel))) rfl (by rfl) (by rfl) dX1_clear_7 (fun M_7 h_7 => ?_)
  refine cq_aload_n F (i := 0) dX1_clear_10 rfl rfl ?_
  refine cq_iconst F (v := (-1)) dX1_clear_11 rfl ?_
  refine cq_put F (C := RX1) (T := TX1) (N := 8) (ci := 2) ha.kind rfl ⟨⟨by decide, by decide⟩, rfl⟩ inX1 tyX1 tyX1_ok nmX1 7 (by decide) rfl rfl (F.1.2.2.2.2 _ (List.mem_of_getElem? (l := wsX1_clear) (i := 3) (a := .fieldLink RX1 15 "CordClock$Cord" "lastOut" "I") (by decide +kernel))) rfl (by rfl) (by rfl) dX1_clear_12 (fun M_12 h_12 => ?_)
  refine cq_aload_n F (i := 0) dX1_clear_15 rfl rfl ?_
  refine cq_callV F (C := RX1) (ci := 2) (kX1_makeNew l D cA X Bs a M_12 ha) (cwV 0 F.1.2.2.2.2 gX1_clear_X1_makeNew rfl rfl rfl hdVX1_makeNew ⟨Nat.le_of_ble_eq_true rfl, Nat.le_of_ble_eq_true rfl⟩) ha.kind ⟨by decide, by decide⟩ rfl rfl rfl (Nat.le_of_ble_eq_true rfl) dX1_clear_16 ⟨Nat.le_of_ble_eq_true rfl, Nat.le_of_ble_eq_true rfl⟩ (cq_kV fun M_16 h_16 => ?_)
  exact cq_vret F hr (by decide) (by decide) dX1_clear_19 ⟨rfl, by simp [*]⟩
theorem hdVX1_clear : yX1_clear.cls = RX1 ∧ yX1_clear.cls ≠ "java/lang/invoke/MethodHandle" ∧ yX1_clear.cls ≠ "java/lang/invoke/VarHandle" ∧ (parseMethodDescriptor yX1_clear.desc).map (fun d => d.parameters.length) = some 0 := by decide +kernel
abbrev rmX1_addSegment : Room := ({ frames := 0, cells := 0, slots := 0, locals := 0 })
set_option maxHeartbeats 4000000 in
set_option maxRecDepth 100000 in
theorem kX1_addSegment (l : Launch) (D : va_G) (cA : Nat → ClassId) (X : cq_X) (Bs : Nat) (a k : Nat) (t : Int32) (M : cq_M) (ha : cq_isCord X a) (hk : k < 6) (h1 : M a 1 = nI k) : cq_C l yX1_addSegment wsX1_addSegment rmX1_addSegment D cA X Bs [.ref a, .int t] M (cq_PV (fun M1 => M1 = cq_up (cq_up (cq_up M (a + 1) k t) a 1 (nI (k + 1))) a 2 (M a 2 + t))) 0 0 := by
  refine cq_met (cc := cX1_addSegment) (maxL := 2) (ret := none) (by decide) rfl (Nat.le_of_ble_eq_true rfl) [(0, .ref a), (1, .int t)] rfl rfl ?_
  intro p9 e9 s9 m9 b9 t9 c9 F hr
  have inX1 : ∀ w ∈ wsX10, w ∈ wsX1_addSegment := (fun w h => List.mem_cons_of_mem _ (List.mem_append_right _ h))
  refine cq_aload_n F (i := 0) dX1_addSegment_0 rfl rfl ?_
  refine cq_getI F (C := RX1) (T := TX1) (N := 8) (ci := 2) ha.kind rfl ⟨⟨by decide, by decide⟩, rfl⟩ inX1 1 (by decide) rfl rfl (F.1.2.2.2.2 _ (List.mem_of_getElem? (l := wsX1_addSegment) (i := 1) (a := .fieldLink RX1 19 "CordClock$Cord" "segments" "I") (by decide +kernel))) dX1_addSegment_1 ?_
  rw [h1]
  refine cq_bipush F (v := 6) dX1_addSegment_4 (by decide) ?_
  refine cq_icmp_ge F (tgt := 39) dX1_addSegment_6 (by decide) (fun c_6 => ?_) (fun c_6 => ?_)
  · have c_6 : 6 ≤ k := (nI_b (a := 6) (b := k) (by omega) (by omega)).1.mp c_6
    exact absurd c_6 (by omega)
  · have c_6 : ¬ 6 ≤ k := fun z => c_6 ((nI_b (a := 6) (b := k) (by omega) (by omega)).1.mpr z)
    refine cq_aload_n F (i := 0) dX1_addSegment_9 rfl rfl ?_
    refine cq_getT (t := (a + 1)) F (C := RX1) (T := TX1) (N := 8) (ci := 2) ha.kind rfl ⟨⟨by decide, by decide⟩, rfl⟩ inX1 0 (by decide) rfl rfl ha.t0 (F.1.2.2.2.2 _ (List.mem_of_getElem? (l := wsX1_addSegment) (i := 2) (a := .fieldLink RX1 9 "CordClock$Cord" "times" "[I") (by decide +kernel))) dX1_addSegment_10 ?_
    refine cq_aload_n F (i := 0) dX1_addSegment_13 rfl rfl ?_
    refine cq_getI F (C := RX1) (T := TX1) (N := 8) (ci := 2) ha.kind rfl ⟨⟨by decide, by decide⟩, rfl⟩ inX1 1 (by decide) rfl rfl (F.1.2.2.2.2 _ (List.mem_of_getElem? (l := wsX1_addSegment) (i := 1) (a := .fieldLink RX1 19 "CordClock$Cord" "segments" "I") (by decide +kernel))) dX1_addSegment_14 ?_
    rw [h1]
    refine cq_iload_n F (i := 1) dX1_addSegment_17 rfl rfl ?_
    refine cq_iast_j F (j := k) ha.k1 ha.n1 rfl ⟨(by omega), by decide⟩ dX1_addSegment_18 (fun M_18 h_18 => ?_)
    refine cq_aload_n F (i := 0) dX1_addSegment_19 rfl rfl ?_
    refine cq_dup F dX1_addSegment_20 rfl ?_
    refine cq_getI F (C := RX1) (T := TX1) (N := 8) (ci := 2) ha.kind rfl ⟨⟨by decide, by decide⟩, rfl⟩ inX1 1 (by decide) rfl rfl (F.1.2.2.2.2 _ (List.mem_of_getElem? (l := wsX1_addSegment) (i := 1) (a := .fieldLink RX1 19 "CordClock$Cord" "segments" "I") (by decide +kernel))) dX1_addSegment_21 ?_
    refine cq_iconst F (v := 1) dX1_addSegment_24 rfl ?_
    refine cq_iadd F dX1_addSegment_25 ?_
    refine cq_put F (C := RX1) (T := TX1) (N := 8) (ci := 2) ha.kind rfl ⟨⟨by decide, by decide⟩, rfl⟩ inX1 tyX1 tyX1_ok nmX1 1 (by decide) rfl rfl (F.1.2.2.2.2 _ (List.mem_of_getElem? (l := wsX1_addSegment) (i := 1) (a := .fieldLink RX1 19 "CordClock$Cord" "segments" "I") (by decide +kernel))) rfl (by rfl) (by rfl) dX1_addSegment_26 (fun M_26 h_26 => ?_)
    refine cq_aload_n F (i := 0) dX1_addSegment_29 rfl rfl ?_
    refine cq_dup F dX1_addSegment_30 rfl ?_
    refine cq_getI F (C := RX1) (T := TX1) (N := 8) (ci := 2) ha.kind rfl ⟨⟨by decide, by decide⟩, rfl⟩ inX1 2 (by decide) rfl rfl (F.1.2.2.2.2 _ (List.mem_of_getElem? (l := wsX1_addSegment) (i := 3) (a := .fieldLink RX1 22 "CordClock$Cord" "time" "I") (by decide +kernel))) dX1_addSegment_31 ?_
    refine cq_iload_n F (i := 1) dX1_addSegment_34 rfl rfl ?_
    refine cq_iadd F dX1_addSegment_35 ?_
    refine cq_put F (C := RX1) (T := TX1) (N := 8) (ci := 2) ha.kind rfl ⟨⟨by decide, by decide⟩, rfl⟩ inX1 tyX1 tyX1_ok nmX1 2 (by decide) rfl rfl (F.1.2.2.2.2 _ (List.mem_of_getElem? (l := wsX1_addSegment) (i := 3) (a := .fieldLink RX1 22 "CordClock$Cord" "time" "I") (by decide +kernel))) rfl (by rfl) (by rfl) dX1_addSegment_36 (fun M_36 h_36 => ?_)
    exact cq_vret F hr (by decide) (by decide) dX1_addSegment_39 ⟨rfl, by simp [*, cq_up, nI_1]⟩
theorem hdVX1_addSegment : yX1_addSegment.cls = RX1 ∧ yX1_addSegment.cls ≠ "java/lang/invoke/MethodHandle" ∧ yX1_addSegment.cls ≠ "java/lang/invoke/VarHandle" ∧ (parseMethodDescriptor yX1_addSegment.desc).map (fun d => d.parameters.length) = some 1 := by decide +kernel
abbrev rmX1_changeTime : Room := ({ frames := 0, cells := 0, slots := 0, locals := 0 })
set_option maxHeartbeats 4000000 in
set_option maxRecDepth 100000 in
theorem kX1_changeTime (l : Launch) (D : va_G) (cA : Nat → ClassId) (X : cq_X) (Bs : Nat) (a k : Nat) (t : Int32) (M : cq_M) (ha : cq_isCord X a) (hk : k < 6) : cq_C l yX1_changeTime wsX1_changeTime rmX1_changeTime D cA X Bs [.ref a, .int (nI k), .int t] M (cq_PV (fun M1 => M1 = cq_up (cq_up M a 2 (M a 2 + (t - M (a + 1) k))) (a + 1) k t)) 0 0 := by
  refine cq_met (cc := cX1_changeTime) (maxL := 3) (ret := none) (by decide) rfl (Nat.le_of_ble_eq_true rfl) [(0, .ref a), (1, .int (nI k)), (2, .int t)] rfl rfl ?_
  intro p9 e9 s9 m9 b9 t9 c9 F hr
  have inX1 : ∀ w ∈ wsX10, w ∈ wsX1_changeTime := (fun w h => List.mem_cons_of_mem _ (List.mem_append_right _ h))
  refine cq_aload_n F (i := 0) dX1_changeTime_0 rfl rfl ?_
  refine cq_dup F dX1_changeTime_1 rfl ?_
  refine cq_getI F (C := RX1) (T := TX1) (N := 8) (ci := 2) ha.kind rfl ⟨⟨by decide, by decide⟩, rfl⟩ inX1 2 (by decide) rfl rfl (F.1.2.2.2.2 _ (List.mem_of_getElem? (l := wsX1_changeTime) (i := 1) (a := .fieldLink RX1 22 "CordClock$Cord" "time" "I") (by decide +kernel))) dX1_changeTime_2 ?_
  refine cq_iload_n F (i := 2) dX1_changeTime_5 rfl rfl ?_
  refine cq_aload_n F (i := 0) dX1_changeTime_6 rfl rfl ?_
  refine cq_getT (t := (a + 1)) F (C := RX1) (T := TX1) (N := 8) (ci := 2) ha.kind rfl ⟨⟨by decide, by decide⟩, rfl⟩ inX1 0 (by decide) rfl rfl ha.t0 (F.1.2.2.2.2 _ (List.mem_of_getElem? (l := wsX1_changeTime) (i := 2) (a := .fieldLink RX1 9 "CordClock$Cord" "times" "[I") (by decide +kernel))) dX1_changeTime_7 ?_
  refine cq_iload_n F (i := 1) dX1_changeTime_10 rfl rfl ?_
  refine cq_iald_j F (j := k) ha.k1 ha.n1 rfl ⟨(by omega), by decide⟩ dX1_changeTime_11 ?_
  refine cq_isub F dX1_changeTime_12 ?_
  refine cq_iadd F dX1_changeTime_13 ?_
  refine cq_put F (C := RX1) (T := TX1) (N := 8) (ci := 2) ha.kind rfl ⟨⟨by decide, by decide⟩, rfl⟩ inX1 tyX1 tyX1_ok nmX1 2 (by decide) rfl rfl (F.1.2.2.2.2 _ (List.mem_of_getElem? (l := wsX1_changeTime) (i := 1) (a := .fieldLink RX1 22 "CordClock$Cord" "time" "I") (by decide +kernel))) rfl (by rfl) (by rfl) dX1_changeTime_14 (fun M_14 h_14 => ?_)
  refine cq_aload_n F (i := 0) dX1_changeTime_17 rfl rfl ?_
  refine cq_getT (t := (a + 1)) F (C := RX1) (T := TX1) (N := 8) (ci := 2) ha.kind rfl ⟨⟨by decide, by decide⟩, rfl⟩ inX1 0 (by decide) rfl rfl ha.t0 (F.1.2.2.2.2 _ (List.mem_of_getElem? (l := wsX1_changeTime) (i := 2) (a := .fieldLink RX1 9 "CordClock$Cord" "times" "[I") (by decide +kernel))) dX1_changeTime_18 ?_
  refine cq_iload_n F (i := 1) dX1_changeTime_21 rfl rfl ?_
  refine cq_iload_n F (i := 2) dX1_changeTime_22 rfl rfl ?_
  refine cq_iast_j F (j := k) ha.k1 ha.n1 rfl ⟨(by omega), by decide⟩ dX1_changeTime_23 (fun M_23 h_23 => ?_)
  exact cq_vret F hr (by decide) (by decide) dX1_changeTime_24 ⟨rfl, by simp [*]⟩
theorem hdVX1_changeTime : yX1_changeTime.cls = RX1 ∧ yX1_changeTime.cls ≠ "java/lang/invoke/MethodHandle" ∧ yX1_changeTime.cls ≠ "java/lang/invoke/VarHandle" ∧ (parseMethodDescriptor yX1_changeTime.desc).map (fun d => d.parameters.length) = some 2 := by decide +kernel
abbrev rmX1_copyFrom : Room := ({ frames := 0, cells := 0, slots := 0, locals := 0 })
set_option maxHeartbeats 4000000 in
set_option maxRecDepth 100000 in
theorem kX1_copyFrom (l : Launch) (D : va_G) (cA : Nat → ClassId) (X : cq_X) (Bs : Nat) (a o : Nat) (M : cq_M) (ha : cq_isCord X a) (ho : cq_isCord X o) (hd : a + 1 < o ∨ o + 1 < a) (h5 : M o 5 = 0 ∨ M o 5 = 1) (h6 : M o 6 = 0 ∨ M o 6 = 1) : cq_C l yX1_copyFrom wsX1_copyFrom rmX1_copyFrom D cA X Bs [.ref a, .ref o] M (cq_PV (fun M1 => ∀ x j, M1 x j = if x = a + 1 ∧ j < 6 then M (o + 1) j else if x = a ∧ 1 ≤ j ∧ j ≤ 7 then M o j else M x j)) 0 0 := by
  refine cq_met (cc := cX1_copyFrom) (maxL := 3) (ret := none) (by decide) rfl (Nat.le_of_ble_eq_true rfl) [(0, .ref a), (1, .ref o)] rfl rfl ?_
  intro p9 e9 s9 m9 b9 t9 c9 F hr
  have inX1 : ∀ w ∈ wsX10, w ∈ wsX1_copyFrom := (fun w h => List.mem_cons_of_mem _ (List.mem_append_right _ h))
  have loop_2 : ∀ (n_2 : Nat) (k : Nat) (M2 : cq_M), k ≤ 6 → (∀ x j, M2 x j = if x = a + 1 ∧ j < k then M (o + 1) j else M x j) → 6 - k < n_2 → cq_V p9 l e9 rmX1_copyFrom s9 m9 ([.ref a, .ref o] : List Value).toArray b9 t9 c9 D cA X Bs 3 0 0 (MQ b9 (cq_Q D cA X Bs (cq_PV (fun M1 => ∀ x j, M1 x j = if x = a + 1 ∧ j < 6 then M (o + 1) j else if x = a ∧ 1 ≤ j ∧ j ≤ 7 then M o j else M x j))) ([.ref a, .ref o] : List Value).toArray s9 0 0 (cq_A Bs)) 2 [(0, .ref a), (1, .ref o), (2, .int (nI k))] [] M2 := by
    intro n_2
    induction n_2 with
    | zero =>
      intros
      omega
    | succ n_2 ih_2 =>
      intro k M2 hk h2 hn
      refine cq_iload_n F (i := 2) dX1_copyFrom_2 rfl rfl ?_
      refine cq_bipush F (v := 6) dX1_copyFrom_3 (by decide) ?_
      refine cq_icmp_ge F (tgt := 26) dX1_copyFrom_5 (by decide) (fun c_5 => ?_) (fun c_5 => ?_)
      · have c_5 : 6 ≤ k := (nI_b (a := 6) (b := k) (by omega) (by omega)).1.mp c_5
        refine cq_aload_n F (i := 0) dX1_copyFrom_26 rfl rfl ?_
        refine cq_aload_n F (i := 1) dX1_copyFrom_27 rfl rfl ?_
        refine cq_getI F (C := RX1) (T := TX1) (N := 8) (ci := 2) ho.kind rfl ⟨⟨by decide, by decide⟩, rfl⟩ inX1 1 (by decide) rfl rfl (F.1.2.2.2.2 _ (List.mem_of_getElem? (l := wsX1_copyFrom) (i := 2) (a := .fieldLink RX1 19 "CordClock$Cord" "segments" "I") (by decide +kernel))) dX1_copyFrom_28 ?_
        refine cq_put F (C := RX1) (T := TX1) (N := 8) (ci := 2) ha.kind rfl ⟨⟨by decide, by decide⟩, rfl⟩ inX1 tyX1 tyX1_ok nmX1 1 (by decide) rfl rfl (F.1.2.2.2.2 _ (List.mem_of_getElem? (l := wsX1_copyFrom) (i := 2) (a := .fieldLink RX1 19 "CordClock$Cord" "segments" "I") (by decide +kernel))) rfl (by rfl) (by rfl) dX1_copyFrom_31 (fun M_31 h_31 => ?_)
        refine cq_aload_n F (i := 0) dX1_copyFrom_34 rfl rfl ?_
        refine cq_aload_n F (i := 1) dX1_copyFrom_35 rfl rfl ?_
        refine cq_getI F (C := RX1) (T := TX1) (N := 8) (ci := 2) ho.kind rfl ⟨⟨by decide, by decide⟩, rfl⟩ inX1 2 (by decide) rfl rfl (F.1.2.2.2.2 _ (List.mem_of_getElem? (l := wsX1_copyFrom) (i := 3) (a := .fieldLink RX1 22 "CordClock$Cord" "time" "I") (by decide +kernel))) dX1_copyFrom_36 ?_
        refine cq_put F (C := RX1) (T := TX1) (N := 8) (ci := 2) ha.kind rfl ⟨⟨by decide, by decide⟩, rfl⟩ inX1 tyX1 tyX1_ok nmX1 2 (by decide) rfl rfl (F.1.2.2.2.2 _ (List.mem_of_getElem? (l := wsX1_copyFrom) (i := 3) (a := .fieldLink RX1 22 "CordClock$Cord" "time" "I") (by decide +kernel))) rfl (by rfl) (by rfl) dX1_copyFrom_39 (fun M_39 h_39 => ?_)
        refine cq_aload_n F (i := 0) dX1_copyFrom_42 rfl rfl ?_
        refine cq_aload_n F (i := 1) dX1_copyFrom_43 rfl rfl ?_
        refine cq_getI F (C := RX1) (T := TX1) (N := 8) (ci := 2) ho.kind rfl ⟨⟨by decide, by decide⟩, rfl⟩ inX1 3 (by decide) rfl rfl (F.1.2.2.2.2 _ (List.mem_of_getElem? (l := wsX1_copyFrom) (i := 4) (a := .fieldLink RX1 25 "CordClock$Cord" "leftBurned" "I") (by decide +kernel))) dX1_copyFrom_44 ?_
        refine cq_put F (C := RX1) (T := TX1) (N := 8) (ci := 2) ha.kind rfl ⟨⟨by decide, by decide⟩, rfl⟩ inX1 tyX1 tyX1_ok nmX1 3 (by decide) rfl rfl (F.1.2.2.2.2 _ (List.mem_of_getElem? (l := wsX1_copyFrom) (i := 4) (a := .fieldLink RX1 25 "CordClock$Cord" "leftBurned" "I") (by decide +kernel))) rfl (by rfl) (by rfl) dX1_copyFrom_47 (fun M_47 h_47 => ?_)
        refine cq_aload_n F (i := 0) dX1_copyFrom_50 rfl rfl ?_
        refine cq_aload_n F (i := 1) dX1_copyFrom_51 rfl rfl ?_
        refine cq_getI F (C := RX1) (T := TX1) (N := 8) (ci := 2) ho.kind rfl ⟨⟨by decide, by decide⟩, rfl⟩ inX1 4 (by decide) rfl rfl (F.1.2.2.2.2 _ (List.mem_of_getElem? (l := wsX1_copyFrom) (i := 5) (a := .fieldLink RX1 28 "CordClock$Cord" "rightBurned" "I") (by decide +kernel))) dX1_copyFrom_52 ?_
        refine cq_put F (C := RX1) (T := TX1) (N := 8) (ci := 2) ha.kind rfl ⟨⟨by decide, by decide⟩, rfl⟩ inX1 tyX1 tyX1_ok nmX1 4 (by decide) rfl rfl (F.1.2.2.2.2 _ (List.mem_of_getElem? (l := wsX1_copyFrom) (i := 5) (a := .fieldLink RX1 28 "CordClock$Cord" "rightBurned" "I") (by decide +kernel))) rfl (by rfl) (by rfl) dX1_copyFrom_55 (fun M_55 h_55 => ?_)
        refine cq_aload_n F (i := 0) dX1_copyFrom_58 rfl rfl ?_
        refine cq_aload_n F (i := 1) dX1_copyFrom_59 rfl rfl ?_
        refine cq_getI F (C := RX1) (T := TX1) (N := 8) (ci := 2) ho.kind rfl ⟨⟨by decide, by decide⟩, rfl⟩ inX1 5 (by decide) rfl rfl (F.1.2.2.2.2 _ (List.mem_of_getElem? (l := wsX1_copyFrom) (i := 6) (a := .fieldLink RX1 31 "CordClock$Cord" "leftFlame" "Z") (by decide +kernel))) dX1_copyFrom_60 ?_
        refine cq_put F (C := RX1) (T := TX1) (N := 8) (ci := 2) ha.kind rfl ⟨⟨by decide, by decide⟩, rfl⟩ inX1 tyX1 tyX1_ok nmX1 5 (by decide) rfl rfl (F.1.2.2.2.2 _ (List.mem_of_getElem? (l := wsX1_copyFrom) (i := 6) (a := .fieldLink RX1 31 "CordClock$Cord" "leftFlame" "Z") (by decide +kernel))) rfl (cq_zn (by subst_vars; rw [cq_up_a (by omega), cq_up_a (by omega), cq_up_a (by omega), cq_up_a (by omega), h2, if_neg (by omega)]; exact h5)) (cq_fz (by subst_vars; rw [cq_up_a (by omega), cq_up_a (by omega), cq_up_a (by omega), cq_up_a (by omega), h2, if_neg (by omega)]; exact h5)) dX1_copyFrom_63 (fun M_63 h_63 => ?_)
        refine cq_aload_n F (i := 0) dX1_copyFrom_66 rfl rfl ?_
        refine cq_aload_n F (i := 1) dX1_copyFrom_67 rfl rfl ?_
        refine cq_getI F (C := RX1) (T := TX1) (N := 8) (ci := 2) ho.kind rfl ⟨⟨by decide, by decide⟩, rfl⟩ inX1 6 (by decide) rfl rfl (F.1.2.2.2.2 _ (List.mem_of_getElem? (l := wsX1_copyFrom) (i := 7) (a := .fieldLink RX1 35 "CordClock$Cord" "rightFlame" "Z") (by decide +kernel))) dX1_copyFrom_68 ?_
        refine cq_put F (C := RX1) (T := TX1) (N := 8) (ci := 2) ha.kind rfl ⟨⟨by decide, by decide⟩, rfl⟩ inX1 tyX1 tyX1_ok nmX1 6 (by decide) rfl rfl (F.1.2.2.2.2 _ (List.mem_of_getElem? (l := wsX1_copyFrom) (i := 7) (a := .fieldLink RX1 35 "CordClock$Cord" "rightFlame" "Z") (by decide +kernel))) rfl (cq_zn (by subst_vars; rw [cq_up_a (by omega), cq_up_a (by omega), cq_up_a (by omega), cq_up_a (by omega), cq_up_a (by omega), h2, if_neg (by omega)]; exact h6)) (cq_fz (by subst_vars; rw [cq_up_a (by omega), cq_up_a (by omega), cq_up_a (by omega), cq_up_a (by omega), cq_up_a (by omega), h2, if_neg (by omega)]; exact h6)) dX1_copyFrom_71 (fun M_71 h_71 => ?_)
        refine cq_aload_n F (i := 0) dX1_copyFrom_74 rfl rfl ?_
        refine cq_aload_n F (i := 1) dX1_copyFrom_75 rfl rfl ?_
        refine cq_getI F (C := RX1) (T := TX1) (N := 8) (ci := 2) ho.kind rfl ⟨⟨by decide, by decide⟩, rfl⟩ inX1 7 (by decide) rfl rfl (F.1.2.2.2.2 _ (List.mem_of_getElem? (l := wsX1_copyFrom) (i := 8) (a := .fieldLink RX1 15 "CordClock$Cord" "lastOut" "I") (by decide +kernel))) dX1_copyFrom_76 ?_
        refine cq_put F (C := RX1) (T := TX1) (N := 8) (ci := 2) ha.kind rfl ⟨⟨by decide, by decide⟩, rfl⟩ inX1 tyX1 tyX1_ok nmX1 7 (by decide) rfl rfl (F.1.2.2.2.2 _ (List.mem_of_getElem? (l := wsX1_copyFrom) (i := 8) (a := .fieldLink RX1 15 "CordClock$Cord" "lastOut" "I") (by decide +kernel))) rfl (by rfl) (by rfl) dX1_copyFrom_79 (fun M_79 h_79 => ?_)
        refine cq_vret F hr (by decide) (by decide) dX1_copyFrom_82 ⟨rfl, ?_⟩
        obtain rfl : k = 6 := by omega
        have o9 : o ≠ a := by omega
        have o8 : o ≠ a + 1 := by omega
        have e9 : ∀ i, M2 o i = M o i := fun i => by rw [h2, if_neg (by omega)]
        intro x j
        subst_vars
        simp only [cq_up_a o9, e9]
        by_cases hx : x = a
        · subst hx
          have h9 : j = 0 ∨ j = 1 ∨ j = 2 ∨ j = 3 ∨ j = 4 ∨ j = 5 ∨ j = 6 ∨ j = 7 ∨ 8 ≤ j := by omega
          rcases h9 with h | h | h | h | h | h | h | h | h
          · subst h; simp [cq_up, h2]
          · subst h; simp [cq_up, h2]
          · subst h; simp [cq_up, h2]
          · subst h; simp [cq_up, h2]
          · subst h; simp [cq_up, h2]
          · subst h; simp [cq_up, h2]
          · subst h; simp [cq_up, h2]
          · subst h; simp [cq_up, h2]
          · rw [if_neg (by omega), if_neg (by omega)]
            simp only [cq_up, h2]
            repeat rw [if_neg (by omega)]
        · simp only [cq_up_a hx, h2]
          have h8 : ¬ (x = a ∧ 1 ≤ j ∧ j ≤ 7) := fun z => hx z.1
          rw [if_neg h8]
      · have c_5 : ¬ 6 ≤ k := fun z => c_5 ((nI_b (a := 6) (b := k) (by omega) (by omega)).1.mpr z)
        refine cq_aload_n F (i := 0) dX1_copyFrom_8 rfl rfl ?_
        refine cq_getT (t := (a + 1)) F (C := RX1) (T := TX1) (N := 8) (ci := 2) ha.kind rfl ⟨⟨by decide, by decide⟩, rfl⟩ inX1 0 (by decide) rfl rfl ha.t0 (F.1.2.2.2.2 _ (List.mem_of_getElem? (l := wsX1_copyFrom) (i := 1) (a := .fieldLink RX1 9 "CordClock$Cord" "times" "[I") (by decide +kernel))) dX1_copyFrom_9 ?_
        refine cq_iload_n F (i := 2) dX1_copyFrom_12 rfl rfl ?_
        refine cq_aload_n F (i := 1) dX1_copyFrom_13 rfl rfl ?_
        refine cq_getT (t := (o + 1)) F (C := RX1) (T := TX1) (N := 8) (ci := 2) ho.kind rfl ⟨⟨by decide, by decide⟩, rfl⟩ inX1 0 (by decide) rfl rfl ho.t0 (F.1.2.2.2.2 _ (List.mem_of_getElem? (l := wsX1_copyFrom) (i := 1) (a := .fieldLink RX1 9 "CordClock$Cord" "times" "[I") (by decide +kernel))) dX1_copyFrom_14 ?_
        refine cq_iload_n F (i := 2) dX1_copyFrom_17 rfl rfl ?_
        refine cq_iald_j F (j := k) ho.k1 ho.n1 rfl ⟨(by omega), by decide⟩ dX1_copyFrom_18 ?_
        refine cq_iast_j F (j := k) ha.k1 ha.n1 rfl ⟨(by omega), by decide⟩ dX1_copyFrom_19 (fun M_19 h_19 => ?_)
        refine cq_iinc F dX1_copyFrom_20 rfl (by decide) (fun x_20 e_20 => ?_)
        obtain rfl : x_20 = nI (k + 1) := by rw [e_20]; exact nI_1 _
        refine cq_goto F (tgt := 2) dX1_copyFrom_23 (by decide) ?_
        refine cq_loc (L2 := [(0, .ref a), (1, .ref o), (2, .int (nI (k + 1)))]) rfl ?_
        exact ih_2 (k + 1) M_19 (by omega) (fun x j => by rw [h_19]; simp only [cq_up, h2]; (repeat' split) <;> first | rfl | (exfalso; omega) | (congr 1 <;> omega)) (by omega)
  refine cq_iconst F (v := 0) dX1_copyFrom_0 rfl ?_
  refine cq_istore_n F (i := 2) dX1_copyFrom_1 rfl (by decide) ?_
  refine cq_loc (L2 := [(0, .ref a), (1, .ref o), (2, .int (nI 0))]) rfl ?_
  exact loop_2 7 0 M (by omega) (fun x j => by simp) (by omega)
theorem hdVX1_copyFrom : yX1_copyFrom.cls = RX1 ∧ yX1_copyFrom.cls ≠ "java/lang/invoke/MethodHandle" ∧ yX1_copyFrom.cls ≠ "java/lang/invoke/VarHandle" ∧ (parseMethodDescriptor yX1_copyFrom.desc).map (fun d => d.parameters.length) = some 1 := by decide +kernel
