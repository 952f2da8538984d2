/-! the class's State: reads and steps -/
abbrev rmX5_hasCord : Room := ({ frames := 0, cells := 0, slots := 0, locals := 0 })
set_option maxHeartbeats 4000000 in
set_option maxRecDepth 100000 in
theorem kX5_hasCord (l : Launch) (D : va_G) (cA : Nat → ClassId) (X : cq_X) (Bs : Nat) (b B : Nat) (x : Int32) (g : Nat → Nat) (M : cq_M) (hb : cq_isState X b) (hs : cr_st M b g) (hk : ns_ok g B) : cq_C l yX5_hasCord wsX5_hasCord rmX5_hasCord D cA X Bs [.ref b, .int x] M (cq_PI (fun r M1 => r = (if 0 ≤ x ∧ x < nI (g 6) then 1 else 0) ∧ M1 = M)) 0 0 := by
  refine cq_met (cc := cX5_hasCord) (maxL := 2) (ret := (some .boolean)) (by decide) rfl (Nat.le_of_ble_eq_true rfl) [(0, .ref b), (1, .int x)] rfl rfl ?_
  intro p9 e9 s9 m9 b9 t9 c9 F hr
  have inX5 : ∀ w ∈ wsX50, w ∈ wsX5_hasCord := (fun w h => List.mem_cons_of_mem _ (List.mem_append_right _ h))
  refine cq_iload_n F (i := 1) dX5_hasCord_0 rfl rfl ?_
  refine cq_if_lt F (tgt := 16) dX5_hasCord_1 (by decide) (fun c_1 => ?_) (fun c_1 => ?_)
  · refine cq_iconst F (v := 0) dX5_hasCord_16 rfl ?_
    exact cq_zret F hr (by rfl) (by decide) (by decide) dX5_hasCord_17 ⟨_, rfl, ⟨by first | exact (if_pos ⟨Int32.not_lt.mp c_1, Int32.not_le.mp c_9⟩).symm | exact (if_neg (fun z => absurd z.1 (Int32.not_le.mpr c_1))).symm | exact (if_neg (fun z => absurd z.2 (Int32.not_lt.mpr c_9))).symm, rfl⟩⟩
  · refine cq_iload_n F (i := 1) dX5_hasCord_4 rfl rfl ?_
    refine cq_aload_n F (i := 0) dX5_hasCord_5 rfl rfl ?_
    refine cq_getI F (C := RX5) (T := TX5) (N := 11) (ci := 6) hb.kind rfl ⟨⟨by decide, by decide⟩, rfl⟩ inX5 1 (by decide) rfl rfl (F.1.2.2.2.2 _ (List.mem_of_getElem? (l := wsX5_hasCord) (i := 1) (a := .fieldLink RX5 36 "CordClock$State" "cordCount" "I") (by decide +kernel))) dX5_hasCord_6 ?_
    rw [show M b 1 = nI (g 6) from (show M b 1 = nI (g 6) from hs.1.1)]
    refine cq_icmp_ge F (tgt := 16) dX5_hasCord_9 (by decide) (fun c_9 => ?_) (fun c_9 => ?_)
    · refine cq_iconst F (v := 0) dX5_hasCord_16 rfl ?_
      exact cq_zret F hr (by rfl) (by decide) (by decide) dX5_hasCord_17 ⟨_, rfl, ⟨by first | exact (if_pos ⟨Int32.not_lt.mp c_1, Int32.not_le.mp c_9⟩).symm | exact (if_neg (fun z => absurd z.1 (Int32.not_le.mpr c_1))).symm | exact (if_neg (fun z => absurd z.2 (Int32.not_lt.mpr c_9))).symm, rfl⟩⟩
    · refine cq_iconst F (v := 1) dX5_hasCord_12 rfl ?_
      refine cq_goto F (tgt := 17) dX5_hasCord_13 (by decide) ?_
      exact cq_zret F hr (by rfl) (by decide) (by decide) dX5_hasCord_17 ⟨_, rfl, ⟨by first | exact (if_pos ⟨Int32.not_lt.mp c_1, Int32.not_le.mp c_9⟩).symm | exact (if_neg (fun z => absurd z.1 (Int32.not_le.mpr c_1))).symm | exact (if_neg (fun z => absurd z.2 (Int32.not_lt.mpr c_9))).symm, rfl⟩⟩
theorem hdVX5_hasCord : yX5_hasCord.cls = RX5 ∧ yX5_hasCord.cls ≠ "java/lang/invoke/MethodHandle" ∧ yX5_hasCord.cls ≠ "java/lang/invoke/VarHandle" ∧ (parseMethodDescriptor yX5_hasCord.desc).map (fun d => d.parameters.length) = some 1 := by decide +kernel
abbrev rmX5_hasRoomForCord : Room := ({ frames := 0, cells := 0, slots := 0, locals := 0 })
set_option maxHeartbeats 4000000 in
set_option maxRecDepth 100000 in
theorem kX5_hasRoomForCord (l : Launch) (D : va_G) (cA : Nat → ClassId) (X : cq_X) (Bs : Nat) (b B : Nat) (g : Nat → Nat) (M : cq_M) (hb : cq_isState X b) (hs : cr_st M b g) (hk : ns_ok g B) : cq_C l yX5_hasRoomForCord wsX5_hasRoomForCord rmX5_hasRoomForCord D cA X Bs [.ref b] M (cq_PI (fun r M1 => r = (if g 6 < 4 then 1 else 0) ∧ M1 = M)) 0 0 := by
  refine cq_met (cc := cX5_hasRoomForCord) (maxL := 1) (ret := (some .boolean)) (by decide) rfl (Nat.le_of_ble_eq_true rfl) [(0, .ref b)] rfl rfl ?_
  intro p9 e9 s9 m9 b9 t9 c9 F hr
  have inX5 : ∀ w ∈ wsX50, w ∈ wsX5_hasRoomForCord := (fun w h => List.mem_cons_of_mem _ (List.mem_append_right _ h))
  have hk6 := hk.1
  refine cq_aload_n F (i := 0) dX5_hasRoomForCord_0 rfl rfl ?_
  refine cq_getI F (C := RX5) (T := TX5) (N := 11) (ci := 6) hb.kind rfl ⟨⟨by decide, by decide⟩, rfl⟩ inX5 1 (by decide) rfl rfl (F.1.2.2.2.2 _ (List.mem_of_getElem? (l := wsX5_hasRoomForCord) (i := 1) (a := .fieldLink RX5 36 "CordClock$State" "cordCount" "I") (by decide +kernel))) dX5_hasRoomForCord_1 ?_
  rw [show M b 1 = nI (g 6) from (show M b 1 = nI (g 6) from hs.1.1)]
  refine cq_iconst F (v := 4) dX5_hasRoomForCord_4 rfl ?_
  refine cq_icmp_ge F (tgt := 12) dX5_hasRoomForCord_5 (by decide) (fun c_5 => ?_) (fun c_5 => ?_)
  · have c_5 : 4 ≤ (g 6) := (nI_b (a := 4) (b := (g 6)) (by omega) (by omega)).1.mp c_5
    refine cq_iconst F (v := 0) dX5_hasRoomForCord_12 rfl ?_
    exact cq_zret F hr (by rfl) (by decide) (by decide) dX5_hasRoomForCord_13 ⟨_, rfl, ⟨by first | exact (if_pos (by omega)).symm | exact (if_neg (by omega)).symm, rfl⟩⟩
  · have c_5 : ¬ 4 ≤ (g 6) := fun z => c_5 ((nI_b (a := 4) (b := (g 6)) (by omega) (by omega)).1.mpr z)
    refine cq_iconst F (v := 1) dX5_hasRoomForCord_8 rfl ?_
    refine cq_goto F (tgt := 13) dX5_hasRoomForCord_9 (by decide) ?_
    exact cq_zret F hr (by rfl) (by decide) (by decide) dX5_hasRoomForCord_13 ⟨_, rfl, ⟨by first | exact (if_pos (by omega)).symm | exact (if_neg (by omega)).symm, rfl⟩⟩
theorem hdVX5_hasRoomForCord : yX5_hasRoomForCord.cls = RX5 ∧ yX5_hasRoomForCord.cls ≠ "java/lang/invoke/MethodHandle" ∧ yX5_hasRoomForCord.cls ≠ "java/lang/invoke/VarHandle" ∧ (parseMethodDescriptor yX5_hasRoomForCord.desc).map (fun d => d.parameters.length) = some 0 := by decide +kernel
abbrev rmX5_hasRoomForRule : Room := ({ frames := 0, cells := 0, slots := 0, locals := 0 })
set_option maxHeartbeats 4000000 in
set_option maxRecDepth 100000 in
theorem kX5_hasRoomForRule (l : Launch) (D : va_G) (cA : Nat → ClassId) (X : cq_X) (Bs : Nat) (b B : Nat) (g : Nat → Nat) (M : cq_M) (hb : cq_isState X b) (hs : cr_st M b g) (hk : ns_ok g B) : cq_C l yX5_hasRoomForRule wsX5_hasRoomForRule rmX5_hasRoomForRule D cA X Bs [.ref b] M (cq_PI (fun r M1 => r = (if g 51 < 8 then 1 else 0) ∧ M1 = M)) 0 0 := by
  refine cq_met (cc := cX5_hasRoomForRule) (maxL := 1) (ret := (some .boolean)) (by decide) rfl (Nat.le_of_ble_eq_true rfl) [(0, .ref b)] rfl rfl ?_
  intro p9 e9 s9 m9 b9 t9 c9 F hr
  have inX5 : ∀ w ∈ wsX50, w ∈ wsX5_hasRoomForRule := (fun w h => List.mem_cons_of_mem _ (List.mem_append_right _ h))
  have hk51 := hk.2.1
  refine cq_aload_n F (i := 0) dX5_hasRoomForRule_0 rfl rfl ?_
  refine cq_getI F (C := RX5) (T := TX5) (N := 11) (ci := 6) hb.kind rfl ⟨⟨by decide, by decide⟩, rfl⟩ inX5 3 (by decide) rfl rfl (F.1.2.2.2.2 _ (List.mem_of_getElem? (l := wsX5_hasRoomForRule) (i := 1) (a := .fieldLink RX5 43 "CordClock$State" "ruleCount" "I") (by decide +kernel))) dX5_hasRoomForRule_1 ?_
  rw [show M b 3 = nI (g 51) from (show M b 3 = nI (g 51) from hs.1.2.1)]
  refine cq_bipush F (v := 8) dX5_hasRoomForRule_4 (by decide) ?_
  refine cq_icmp_ge F (tgt := 13) dX5_hasRoomForRule_6 (by decide) (fun c_6 => ?_) (fun c_6 => ?_)
  · have c_6 : 8 ≤ (g 51) := (nI_b (a := 8) (b := (g 51)) (by omega) (by omega)).1.mp c_6
    refine cq_iconst F (v := 0) dX5_hasRoomForRule_13 rfl ?_
    exact cq_zret F hr (by rfl) (by decide) (by decide) dX5_hasRoomForRule_14 ⟨_, rfl, ⟨by first | exact (if_pos (by omega)).symm | exact (if_neg (by omega)).symm, rfl⟩⟩
  · have c_6 : ¬ 8 ≤ (g 51) := fun z => c_6 ((nI_b (a := 8) (b := (g 51)) (by omega) (by omega)).1.mpr z)
    refine cq_iconst F (v := 1) dX5_hasRoomForRule_9 rfl ?_
    refine cq_goto F (tgt := 14) dX5_hasRoomForRule_10 (by decide) ?_
    exact cq_zret F hr (by rfl) (by decide) (by decide) dX5_hasRoomForRule_14 ⟨_, rfl, ⟨by first | exact (if_pos (by omega)).symm | exact (if_neg (by omega)).symm, rfl⟩⟩
theorem hdVX5_hasRoomForRule : yX5_hasRoomForRule.cls = RX5 ∧ yX5_hasRoomForRule.cls ≠ "java/lang/invoke/MethodHandle" ∧ yX5_hasRoomForRule.cls ≠ "java/lang/invoke/VarHandle" ∧ (parseMethodDescriptor yX5_hasRoomForRule.desc).map (fun d => d.parameters.length) = some 0 := by decide +kernel
abbrev rmX5_flameCount : Room := ({ frames := 1, cells := 0, slots := 0, locals := 20 })
set_option maxHeartbeats 4000000 in
set_option maxRecDepth 100000 in
theorem kX5_flameCount (l : Launch) (D : va_G) (cA : Nat → ClassId) (X : cq_X) (Bs : Nat) (b B : Nat) (g : Nat → Nat) (M : cq_M) (hb : cq_isState X b) (hs : cr_st M b g) (hk : ns_ok g B) : cq_C l yX5_flameCount wsX5_flameCount rmX5_flameCount D cA X Bs [.ref b] M (cq_PI (fun r M1 => r = nI (ns_flames g (g 6)) ∧ M1 = M)) 0 0 := by
  refine cq_met (cc := cX5_flameCount) (maxL := 3) (ret := (some .int)) (by decide) rfl (Nat.le_of_ble_eq_true rfl) [(0, .ref b)] rfl rfl ?_
  intro p9 e9 s9 m9 b9 t9 c9 F hr
  have inX5 : ∀ w ∈ wsX50, w ∈ wsX5_flameCount := (fun w h => List.mem_cons_of_mem _ (List.mem_append_left _ (List.mem_append_right _ h)))
  have hk6 := hk.1
  have loop_4 : ∀ (n_4 : Nat) (k : Nat), k ≤ g 6 → g 6 - k < n_4 → cq_V p9 l e9 rmX5_flameCount s9 m9 ([.ref b] : List Value).toArray b9 t9 c9 D cA X Bs 3 0 0 (MQ b9 (cq_Q D cA X Bs (cq_PI (fun r M1 => r = nI (ns_flames g (g 6)) ∧ M1 = M))) ([.ref b] : List Value).toArray s9 0 0 (cq_A Bs)) 4 [(0, .ref b), (1, .int (nI (ns_flames g k))), (2, .int (nI k))] [] M := by
    intro n_4
    induction n_4 with
    | zero =>
      intros
      omega
    | succ n_4 ih_4 =>
      intro k hk1 hn
      refine cq_iload_n F (i := 2) dX5_flameCount_4 rfl rfl ?_
      refine cq_aload_n F (i := 0) dX5_flameCount_5 rfl rfl ?_
      refine cq_getI F (C := RX5) (T := TX5) (N := 11) (ci := 6) hb.kind rfl ⟨⟨by decide, by decide⟩, rfl⟩ inX5 1 (by decide) rfl rfl (F.1.2.2.2.2 _ (List.mem_of_getElem? (l := wsX5_flameCount) (i := 1) (a := .fieldLink RX5 36 "CordClock$State" "cordCount" "I") (by decide +kernel))) dX5_flameCount_6 ?_
      rw [show M b 1 = nI (g 6) from (show M b 1 = nI (g 6) from hs.1.1)]
      refine cq_icmp_ge F (tgt := 30) dX5_flameCount_9 (by decide) (fun c_9 => ?_) (fun c_9 => ?_)
      · have c_9 : (g 6) ≤ k := (nI_b (a := (g 6)) (b := k) (by omega) (by omega)).1.mp c_9
        refine cq_iload_n F (i := 1) dX5_flameCount_30 rfl rfl ?_
        exact cq_iret F hr (by decide) (by decide) dX5_flameCount_31 ⟨_, rfl, ⟨(by rw [show k = g 6 by omega]), rfl⟩⟩
      · have c_9 : ¬ (g 6) ≤ k := fun z => c_9 ((nI_b (a := (g 6)) (b := k) (by omega) (by omega)).1.mpr z)
        refine cq_iload_n F (i := 1) dX5_flameCount_12 rfl rfl ?_
        refine cq_aload_n F (i := 0) dX5_flameCount_13 rfl rfl ?_
        refine cq_getT (t := (b + 1)) F (C := RX5) (T := TX5) (N := 11) (ci := 6) hb.kind rfl ⟨⟨by decide, by decide⟩, rfl⟩ inX5 0 (by decide) rfl rfl hb.t0 (F.1.2.2.2.2 _ (List.mem_of_getElem? (l := wsX5_flameCount) (i := 2) (a := .fieldLink RX5 11 "CordClock$State" "cords" "[LCordClock$Cord;") (by decide +kernel))) dX5_flameCount_14 ?_
        refine cq_iload_n F (i := 2) dX5_flameCount_17 rfl rfl ?_
        have hj_18 : k < 4 := (by omega)
        refine cq_aaldC_j F (j := k) (t := (b + 7 + 2 * k)) hb.k1 hb.n1 rfl ⟨hj_18, by decide⟩ (hb.ct _ hj_18) dX5_flameCount_18 ?_
        refine cq_callV F (C := RX1) (ci := 2) (nX1_flameCount (l := l) (D := D) (cA := cA) (Bs := Bs) (hb.cord _ (by omega)) (hs.2.1 k (by omega)) (hk.2.2.2.1 k (by omega)).2.2.2.1) (cwV 0 F.1.2.2.2.2 gX5_flameCount_X1_flameCount rfl rfl rfl hdVX1_flameCount ⟨Nat.le_of_ble_eq_true rfl, Nat.le_of_ble_eq_true rfl⟩) (hb.cord _ hj_18).kind ⟨by decide, by decide⟩ rfl rfl rfl (Nat.le_of_ble_eq_true rfl) dX5_flameCount_19 ⟨Nat.le_of_ble_eq_true rfl, Nat.le_of_ble_eq_true rfl⟩ (cq_kIp fun r_19 h_19 => ?_)
        subst h_19
        refine cq_iadd F dX5_flameCount_22 ?_
        rw [show (nI (ns_flames g k) + nI (ns_fl (g (16 + 11 * k))) : Int32) = nI ((ns_flames g k) + (ns_fl (g (16 + 11 * k)))) from nI_add _ _]
        refine cq_istore_n F (i := 1) dX5_flameCount_23 rfl (by decide) ?_
        refine cq_iinc F dX5_flameCount_24 rfl (by decide) (fun x_24 e_24 => ?_)
        obtain rfl : x_24 = nI (k + 1) := by rw [e_24]; exact nI_1 _
        refine cq_goto F (tgt := 4) dX5_flameCount_27 (by decide) ?_
        refine cq_loc (L2 := [(0, .ref b), (1, .int (nI (ns_flames g (k + 1)))), (2, .int (nI (k + 1)))]) rfl ?_
        exact ih_4 (k + 1) (by omega) (by omega)
  refine cq_iconst F (v := 0) dX5_flameCount_0 rfl ?_
  refine cq_istore_n F (i := 1) dX5_flameCount_1 rfl (by decide) ?_
  refine cq_iconst F (v := 0) dX5_flameCount_2 rfl ?_
  refine cq_istore_n F (i := 2) dX5_flameCount_3 rfl (by decide) ?_
  refine cq_loc (L2 := [(0, .ref b), (1, .int (nI (ns_flames g 0))), (2, .int (nI 0))]) rfl ?_
  exact loop_4 (g 6 + 1) 0 (by omega) (by omega)
theorem hdVX5_flameCount : yX5_flameCount.cls = RX5 ∧ yX5_flameCount.cls ≠ "java/lang/invoke/MethodHandle" ∧ yX5_flameCount.cls ≠ "java/lang/invoke/VarHandle" ∧ (parseMethodDescriptor yX5_flameCount.desc).map (fun d => d.parameters.length) = some 0 := by decide +kernel
abbrev rmX5_lightEnd : Room := ({ frames := 1, cells := 0, slots := 0, locals := 23 })
set_option maxHeartbeats 4000000 in
set_option maxRecDepth 100000 in
theorem kX5_lightEnd (l : Launch) (D : va_G) (cA : Nat → ClassId) (X : cq_X) (Bs : Nat) (b B c : Nat) (x : Int32) (g : Nat → Nat) (M : cq_M) (hb : cq_isState X b) (hs : cr_st M b g) (hk : ns_ok g B) (hc : c < g 6) (hl : ns_canLight g c x) : cq_C l yX5_lightEnd wsX5_lightEnd rmX5_lightEnd D cA X Bs [.ref b, .int (nI c), .int x] M (cq_PV (fun M1 => cr_st M1 b (ns_lightNow g c x) ∧ cr_fr M M1 b 23)) 0 0 := by
  refine cq_met (cc := cX5_lightEnd) (maxL := 3) (ret := none) (by decide) rfl (Nat.le_of_ble_eq_true rfl) [(0, .ref b), (1, .int (nI c)), (2, .int x)] rfl rfl ?_
  intro p9 e9 s9 m9 b9 t9 c9 F hr
  have inX5 : ∀ w ∈ wsX50, w ∈ wsX5_lightEnd := (fun w h => List.mem_cons_of_mem _ (List.mem_append_left _ (List.mem_append_left _ (List.mem_append_right _ h))))
  have hk6 := hk.1
  have hq := hk.2.2.2.1 c hc
  have hk8 : ns_ok (ns_up g (16 + 11 * c) (g (16 + 11 * c) + ns_side x)) B := hk.flame hc (ns_bit_le hq.2.2.2.1 hl.2) (fun _ => by have := hl.1; unfold ns_left at this; omega)
  have hk18 : ns_ok (ns_up (ns_up g (16 + 11 * c) (g (16 + 11 * c) + ns_side x)) 2 ((ns_up g (16 + 11 * c) (g (16 + 11 * c) + ns_side x)) 2 + 1)) B := hk8.free (Or.inr (Or.inl rfl))
  refine cq_aload_n F (i := 0) dX5_lightEnd_0 rfl rfl ?_
  refine cq_getT (t := (b + 1)) F (C := RX5) (T := TX5) (N := 11) (ci := 6) hb.kind rfl ⟨⟨by decide, by decide⟩, rfl⟩ inX5 0 (by decide) rfl rfl hb.t0 (F.1.2.2.2.2 _ (List.mem_of_getElem? (l := wsX5_lightEnd) (i := 1) (a := .fieldLink RX5 11 "CordClock$State" "cords" "[LCordClock$Cord;") (by decide +kernel))) dX5_lightEnd_1 ?_
  refine cq_iload_n F (i := 1) dX5_lightEnd_4 rfl rfl ?_
  have hj_5 : c < 4 := (by omega)
  refine cq_aaldC_j F (j := c) (t := (b + 7 + 2 * c)) hb.k1 hb.n1 rfl ⟨hj_5, by decide⟩ (hb.ct _ hj_5) dX5_lightEnd_5 ?_
  refine cq_iload_n F (i := 2) dX5_lightEnd_6 rfl rfl ?_
  refine cq_iconst F (v := 1) dX5_lightEnd_7 rfl ?_
  refine cq_callV F (C := RX1) (ci := 2) (kX1_setFlame l D cA X Bs (b + 7 + 2 * c) x 1 M (hb.cord _ (by omega)) (Or.inr rfl)) (cwV 2 F.1.2.2.2.2 gX5_lightEnd_X1_setFlame rfl rfl rfl hdVX1_setFlame ⟨Nat.le_of_ble_eq_true rfl, Nat.le_of_ble_eq_true rfl⟩) (hb.cord _ hj_5).kind ⟨by decide, by decide⟩ rfl rfl rfl (Nat.le_of_ble_eq_true rfl) dX5_lightEnd_8 ⟨Nat.le_of_ble_eq_true rfl, Nat.le_of_ble_eq_true rfl⟩ (cq_kV fun M_8 h_8 => ?_)
  have s8 := hs.light hk hc hl h_8
  refine cq_aload_n F (i := 0) dX5_lightEnd_11 rfl rfl ?_
  refine cq_dup F dX5_lightEnd_12 rfl ?_
  refine cq_getI F (C := RX5) (T := TX5) (N := 11) (ci := 6) hb.kind rfl ⟨⟨by decide, by decide⟩, rfl⟩ inX5 7 (by decide) rfl rfl (F.1.2.2.2.2 _ (List.mem_of_getElem? (l := wsX5_lightEnd) (i := 2) (a := .fieldLink RX5 55 "CordClock$State" "lightings" "I") (by decide +kernel))) dX5_lightEnd_13 ?_
  rw [show M_8 b 7 = nI ((ns_up g (16 + 11 * c) (g (16 + 11 * c) + ns_side x)) 2) from (show M_8 b 7 = nI ((ns_up g (16 + 11 * c) (g (16 + 11 * c) + ns_side x)) 2) from s8.1.1.2.2.2.2.1)]
  refine cq_iconst F (v := 1) dX5_lightEnd_16 rfl ?_
  refine cq_iadd F dX5_lightEnd_17 ?_
  rw [show (nI ((ns_up g (16 + 11 * c) (g (16 + 11 * c) + ns_side x)) 2) + 1 : Int32) = nI (((ns_up g (16 + 11 * c) (g (16 + 11 * c) + ns_side x)) 2) + 1) from nI_add _ _]
  refine cq_put F (C := RX5) (T := TX5) (N := 11) (ci := 6) hb.kind rfl ⟨⟨by decide, by decide⟩, rfl⟩ inX5 tyX5 tyX5_ok nmX5 7 (by decide) rfl rfl (F.1.2.2.2.2 _ (List.mem_of_getElem? (l := wsX5_lightEnd) (i := 2) (a := .fieldLink RX5 55 "CordClock$State" "lightings" "I") (by decide +kernel))) rfl (by rfl) (by rfl) dX5_lightEnd_18 (fun M_18 h_18 => ?_)
  have s18 := s8.1.set (gi := 2) hk8 (by decide) h_18
  refine cq_aload_n F (i := 0) dX5_lightEnd_21 rfl rfl ?_
  refine cq_getT (t := (b + 3)) F (C := RX5) (T := TX5) (N := 11) (ci := 6) hb.kind rfl ⟨⟨by decide, by decide⟩, rfl⟩ inX5 4 (by decide) rfl rfl hb.t4 (F.1.2.2.2.2 _ (List.mem_of_getElem? (l := wsX5_lightEnd) (i := 3) (a := .fieldLink RX5 26 "CordClock$State" "book" "LCordClock$Book;") (by decide +kernel))) dX5_lightEnd_22 ?_
  refine cq_iload_n F (i := 2) dX5_lightEnd_25 rfl rfl ?_
  refine cq_if_eq F (tgt := 33) dX5_lightEnd_26 (by decide) (fun c_26 => ?_) (fun c_26 => ?_)
  · refine cq_iconst F (v := 1) dX5_lightEnd_33 rfl ?_
    refine cq_aload_n F (i := 0) dX5_lightEnd_34 rfl rfl ?_
    refine cq_getI F (C := RX5) (T := TX5) (N := 11) (ci := 6) hb.kind rfl ⟨⟨by decide, by decide⟩, rfl⟩ inX5 5 (by decide) rfl rfl (F.1.2.2.2.2 _ (List.mem_of_getElem? (l := wsX5_lightEnd) (i := 4) (a := .fieldLink RX5 49 "CordClock$State" "step" "I") (by decide +kernel))) dX5_lightEnd_35 ?_
    rw [show M_18 b 5 = nI ((ns_up (ns_up g (16 + 11 * c) (g (16 + 11 * c) + ns_side x)) 2 ((ns_up g (16 + 11 * c) (g (16 + 11 * c) + ns_side x)) 2 + 1)) 0) from (show M_18 b 5 = nI ((ns_up (ns_up g (16 + 11 * c) (g (16 + 11 * c) + ns_side x)) 2 ((ns_up g (16 + 11 * c) (g (16 + 11 * c) + ns_side x)) 2 + 1)) 0) from s18.1.1.2.2.1)]
    refine cq_iload_n F (i := 1) dX5_lightEnd_38 rfl rfl ?_
    refine cq_callV F (C := RX0) (ci := 1) (kX0_write l D cA X Bs (b + 3) 1 c (ns_up (ns_up g (16 + 11 * c) (g (16 + 11 * c) + ns_side x)) 2 ((ns_up g (16 + 11 * c) (g (16 + 11 * c) + ns_side x)) 2 + 1)) M_18 hb.book s18.1.2.2.2.1 hk18.2.2.1) (cwV 3 F.1.2.2.2.2 gX5_lightEnd_X0_write rfl rfl rfl hdVX0_write ⟨Nat.le_of_ble_eq_true rfl, Nat.le_of_ble_eq_true rfl⟩) hb.book.kind ⟨by decide, by decide⟩ rfl rfl rfl (Nat.le_of_ble_eq_true rfl) dX5_lightEnd_39 ⟨Nat.le_of_ble_eq_true rfl, Nat.le_of_ble_eq_true rfl⟩ (cq_kV fun M_39 h_39 => ?_)
    refine cq_vret F hr (by decide) (by decide) dX5_lightEnd_42 ⟨rfl, ?_⟩
    have e9 : ns_lightNow g c x = ns_write (ns_up (ns_up g (16 + 11 * c) (g (16 + 11 * c) + ns_side x)) 2 ((ns_up g (16 + 11 * c) (g (16 + 11 * c) + ns_side x)) 2 + 1)) (if x = 0 then 1 else 0) c := by
      unfold ns_lightNow
      rw [ns_up_n (g := g) (k := 16 + 11 * c) (v := g (16 + 11 * c) + ns_side x) (show 2 ≠ 16 + 11 * c by omega)]
    rw [e9]
    first | rw [if_pos c_26] | rw [if_neg c_26]
    exact ⟨s18.1.book hk18 h_39.2 h_39.1 (fun k hk9 => (ns_write_n (Or.inl hk9)).symm), (s8.2.trans s18.2).trans (h_39.2.wide (by omega) (by omega))⟩
  · refine cq_iconst F (v := 0) dX5_lightEnd_29 rfl ?_
    refine cq_goto F (tgt := 34) dX5_lightEnd_30 (by decide) ?_
    refine cq_aload_n F (i := 0) dX5_lightEnd_34 rfl rfl ?_
    refine cq_getI F (C := RX5) (T := TX5) (N := 11) (ci := 6) hb.kind rfl ⟨⟨by decide, by decide⟩, rfl⟩ inX5 5 (by decide) rfl rfl (F.1.2.2.2.2 _ (List.mem_of_getElem? (l := wsX5_lightEnd) (i := 4) (a := .fieldLink RX5 49 "CordClock$State" "step" "I") (by decide +kernel))) dX5_lightEnd_35 ?_
    rw [show M_18 b 5 = nI ((ns_up (ns_up g (16 + 11 * c) (g (16 + 11 * c) + ns_side x)) 2 ((ns_up g (16 + 11 * c) (g (16 + 11 * c) + ns_side x)) 2 + 1)) 0) from (show M_18 b 5 = nI ((ns_up (ns_up g (16 + 11 * c) (g (16 + 11 * c) + ns_side x)) 2 ((ns_up g (16 + 11 * c) (g (16 + 11 * c) + ns_side x)) 2 + 1)) 0) from s18.1.1.2.2.1)]
    refine cq_iload_n F (i := 1) dX5_lightEnd_38 rfl rfl ?_
    refine cq_callV F (C := RX0) (ci := 1) (kX0_write l D cA X Bs (b + 3) 0 c (ns_up (ns_up g (16 + 11 * c) (g (16 + 11 * c) + ns_side x)) 2 ((ns_up g (16 + 11 * c) (g (16 + 11 * c) + ns_side x)) 2 + 1)) M_18 hb.book s18.1.2.2.2.1 hk18.2.2.1) (cwV 3 F.1.2.2.2.2 gX5_lightEnd_X0_write rfl rfl rfl hdVX0_write ⟨Nat.le_of_ble_eq_true rfl, Nat.le_of_ble_eq_true rfl⟩) hb.book.kind ⟨by decide, by decide⟩ rfl rfl rfl (Nat.le_of_ble_eq_true rfl) dX5_lightEnd_39 ⟨Nat.le_of_ble_eq_true rfl, Nat.le_of_ble_eq_true rfl⟩ (cq_kV fun M_39 h_39 => ?_)
    refine cq_vret F hr (by decide) (by decide) dX5_lightEnd_42 ⟨rfl, ?_⟩
    have e9 : ns_lightNow g c x = ns_write (ns_up (ns_up g (16 + 11 * c) (g (16 + 11 * c) + ns_side x)) 2 ((ns_up g (16 + 11 * c) (g (16 + 11 * c) + ns_side x)) 2 + 1)) (if x = 0 then 1 else 0) c := by
      unfold ns_lightNow
      rw [ns_up_n (g := g) (k := 16 + 11 * c) (v := g (16 + 11 * c) + ns_side x) (show 2 ≠ 16 + 11 * c by omega)]
    rw [e9]
    first | rw [if_pos c_26] | rw [if_neg c_26]
    exact ⟨s18.1.book hk18 h_39.2 h_39.1 (fun k hk9 => (ns_write_n (Or.inl hk9)).symm), (s8.2.trans s18.2).trans (h_39.2.wide (by omega) (by omega))⟩
theorem hdVX5_lightEnd : yX5_lightEnd.cls = RX5 ∧ yX5_lightEnd.cls ≠ "java/lang/invoke/MethodHandle" ∧ yX5_lightEnd.cls ≠ "java/lang/invoke/VarHandle" ∧ (parseMethodDescriptor yX5_lightEnd.desc).map (fun d => d.parameters.length) = some 2 := by decide +kernel
def bc_1 (x : Int32) : Int32 := x - ((x.toUInt32 >>> ((1 : Int32).toUInt32 &&& Int32.toUInt32 31)).toInt32 &&& 1431655765)
def bc_2 (x : Int32) : Int32 := (x &&& 858993459) + ((x.toUInt32 >>> ((2 : Int32).toUInt32 &&& Int32.toUInt32 31)).toInt32 &&& 858993459)
def bc_3 (x : Int32) : Int32 := (x + (x.toUInt32 >>> ((4 : Int32).toUInt32 &&& Int32.toUInt32 31)).toInt32) &&& 252645135
def bc_4 (x : Int32) : Int32 := x + (x.toUInt32 >>> ((8 : Int32).toUInt32 &&& Int32.toUInt32 31)).toInt32
def bc_5 (x : Int32) : Int32 := x + (x.toUInt32 >>> ((16 : Int32).toUInt32 &&& Int32.toUInt32 31)).toInt32
theorem bc_all : ∀ n, n < 5 → ∀ S, S < 2 ^ n → bc_5 (bc_4 (bc_3 (bc_2 (bc_1 (nI S))))) &&& 63 = nI (ns_cnt S n) := by decide
abbrev rmJ6_bitCount_0f7a4 : Room := ({ frames := 0, cells := 0, slots := 0, locals := 0 })
set_option maxHeartbeats 4000000 in
set_option maxRecDepth 100000 in
theorem kJ6_bitCount_0f7a4 (l : Launch) (D : va_G) (cA : Nat → ClassId) (X : cq_X) (Bs : Nat) (S n : Nat) (M : cq_M) (hn : n ≤ 4) (hS : S < 2 ^ n) : cq_C l yJ6_bitCount_0f7a4 wsJ6_bitCount_0f7a4 rmJ6_bitCount_0f7a4 D cA X Bs [.int (nI S)] M (cq_PI (fun r M1 => r = nI (ns_cnt S n) ∧ M1 = M)) 0 0 := by
  refine cq_met (cc := cJ6_bitCount_0f7a4) (maxL := 1) (ret := (some .int)) (by decide) rfl (Nat.le_of_ble_eq_true rfl) [(0, .int (nI S))] rfl rfl ?_
  intro p9 e9 s9 m9 b9 t9 c9 F hr
  refine cq_iload_n F (i := 0) dJ6_bitCount_0f7a4_0 rfl rfl ?_
  refine cq_iload_n F (i := 0) dJ6_bitCount_0f7a4_1 rfl rfl ?_
  refine cq_iconst F (v := 1) dJ6_bitCount_0f7a4_2 rfl ?_
  refine cq_iushr F dJ6_bitCount_0f7a4_3 ?_
  refine cq_ldcw F (F.1.2.2.2.2 _ (List.mem_of_getElem? (l := wsJ6_bitCount_0f7a4) (i := 1) (a := .constant RJ6 265 (1431655765)) (by decide +kernel))) dJ6_bitCount_0f7a4_4 ?_
  refine cq_iand F dJ6_bitCount_0f7a4_7 ?_
  refine cq_isub F dJ6_bitCount_0f7a4_8 ?_
  refine cq_nmi (fun x_9 e_9 => ?_)
  refine cq_istore_n F (i := 0) dJ6_bitCount_0f7a4_9 rfl (by decide) ?_
  refine cq_iload_n F (i := 0) dJ6_bitCount_0f7a4_10 rfl rfl ?_
  refine cq_ldcw F (F.1.2.2.2.2 _ (List.mem_of_getElem? (l := wsJ6_bitCount_0f7a4) (i := 2) (a := .constant RJ6 266 (858993459)) (by decide +kernel))) dJ6_bitCount_0f7a4_11 ?_
  refine cq_iand F dJ6_bitCount_0f7a4_14 ?_
  refine cq_iload_n F (i := 0) dJ6_bitCount_0f7a4_15 rfl rfl ?_
  refine cq_iconst F (v := 2) dJ6_bitCount_0f7a4_16 rfl ?_
  refine cq_iushr F dJ6_bitCount_0f7a4_17 ?_
  refine cq_ldcw F (F.1.2.2.2.2 _ (List.mem_of_getElem? (l := wsJ6_bitCount_0f7a4) (i := 2) (a := .constant RJ6 266 (858993459)) (by decide +kernel))) dJ6_bitCount_0f7a4_18 ?_
  refine cq_iand F dJ6_bitCount_0f7a4_21 ?_
  refine cq_iadd F dJ6_bitCount_0f7a4_22 ?_
  refine cq_nmi (fun x_23 e_23 => ?_)
  refine cq_istore_n F (i := 0) dJ6_bitCount_0f7a4_23 rfl (by decide) ?_
  refine cq_iload_n F (i := 0) dJ6_bitCount_0f7a4_24 rfl rfl ?_
  refine cq_iload_n F (i := 0) dJ6_bitCount_0f7a4_25 rfl rfl ?_
  refine cq_iconst F (v := 4) dJ6_bitCount_0f7a4_26 rfl ?_
  refine cq_iushr F dJ6_bitCount_0f7a4_27 ?_
  refine cq_iadd F dJ6_bitCount_0f7a4_28 ?_
  refine cq_ldcw F (F.1.2.2.2.2 _ (List.mem_of_getElem? (l := wsJ6_bitCount_0f7a4) (i := 3) (a := .constant RJ6 267 (252645135)) (by decide +kernel))) dJ6_bitCount_0f7a4_29 ?_
  refine cq_iand F dJ6_bitCount_0f7a4_32 ?_
  refine cq_nmi (fun x_33 e_33 => ?_)
  refine cq_istore_n F (i := 0) dJ6_bitCount_0f7a4_33 rfl (by decide) ?_
  refine cq_iload_n F (i := 0) dJ6_bitCount_0f7a4_34 rfl rfl ?_
  refine cq_iload_n F (i := 0) dJ6_bitCount_0f7a4_35 rfl rfl ?_
  refine cq_bipush F (v := 8) dJ6_bitCount_0f7a4_36 (by decide) ?_
  refine cq_iushr F dJ6_bitCount_0f7a4_38 ?_
  refine cq_iadd F dJ6_bitCount_0f7a4_39 ?_
  refine cq_nmi (fun x_40 e_40 => ?_)
  refine cq_istore_n F (i := 0) dJ6_bitCount_0f7a4_40 rfl (by decide) ?_
  refine cq_iload_n F (i := 0) dJ6_bitCount_0f7a4_41 rfl rfl ?_
  refine cq_iload_n F (i := 0) dJ6_bitCount_0f7a4_42 rfl rfl ?_
  refine cq_bipush F (v := 16) dJ6_bitCount_0f7a4_43 (by decide) ?_
  refine cq_iushr F dJ6_bitCount_0f7a4_45 ?_
  refine cq_iadd F dJ6_bitCount_0f7a4_46 ?_
  refine cq_nmi (fun x_47 e_47 => ?_)
  refine cq_istore_n F (i := 0) dJ6_bitCount_0f7a4_47 rfl (by decide) ?_
  refine cq_iload_n F (i := 0) dJ6_bitCount_0f7a4_48 rfl rfl ?_
  refine cq_bipush F (v := 63) dJ6_bitCount_0f7a4_49 (by decide) ?_
  refine cq_iand F dJ6_bitCount_0f7a4_51 ?_
  refine cq_iret F hr (by decide) (by decide) dJ6_bitCount_0f7a4_52 ⟨_, rfl, ?_⟩
  subst_vars
  refine ⟨?_, rfl⟩
  exact bc_all n (by omega) S hS
theorem hdVJ6_bitCount_0f7a4 : yJ6_bitCount_0f7a4.cls = RJ6 ∧ yJ6_bitCount_0f7a4.cls ≠ "java/lang/invoke/MethodHandle" ∧ yJ6_bitCount_0f7a4.cls ≠ "java/lang/invoke/VarHandle" ∧ (parseMethodDescriptor yJ6_bitCount_0f7a4.desc).map (fun d => d.parameters.length) = some 1 := by decide +kernel
