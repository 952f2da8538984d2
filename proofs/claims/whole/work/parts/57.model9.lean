/-! CordClockModel: queries -/
abbrev rmX7_ofCord : Room := ({ frames := 3, cells := 0, slots := 0, locals := 66 })
set_option maxHeartbeats 4000000 in
set_option maxRecDepth 100000 in
theorem kX7_ofCord (l : Launch) (D : va_G) (cA : Nat → ClassId) (X : cq_X) (Bs : Nat) (o c w : Nat) (g : Nat → Nat) (M : cq_M) (ho : cq_isModel X o) (hg : cq_nv M (o + 1) 109 g) (hc : c < 4) (hq : ns_cord g c) (hw : w ≤ 7) : cq_C l yX7_ofCord wsX7_ofCord rmX7_ofCord D cA X Bs [.ref o, .int (nI c), .int (nI w)] M (cq_PI (fun r M1 => r = ns_ofCord g c w ∧ M1 = M)) 0 0 := by
  refine cq_met (cc := cX7_ofCord) (maxL := 3) (ret := (some .int)) (by decide) rfl (Nat.le_of_ble_eq_true rfl) [(0, .ref o), (1, .int (nI c)), (2, .int (nI w))] rfl rfl ?_
  intro p9 e9 s9 m9 b9 t9 c9 F hr
  have hlt : ns_left g c ≤ 360 := by have := hq.time; unfold ns_left; omega
  refine cq_iload_n F (i := 2) dX7_ofCord_0 rfl rfl ?_
  have sw_1 : w = 0 ∨ w = 1 ∨ w = 2 ∨ w = 3 ∨ w = 4 ∨ w = 5 ∨ w = 6 ∨ w = 7 := by omega
  rcases sw_1 with sw_1 | sw_1 | sw_1 | sw_1 | sw_1 | sw_1 | sw_1 | sw_1
  · subst sw_1
    refine cq_tableIn F (off := 43) (tgt := 44) dX7_ofCord_1 (by decide) (by decide) (by decide) (by decide) ?_
    refine cq_aload_n F (i := 0) dX7_ofCord_44 rfl rfl ?_
    refine cq_iload_n F (i := 1) dX7_ofCord_45 rfl rfl ?_
    refine cq_callV F (C := RX7) (ci := 8) (kX7_timeOf l D cA X Bs o c g M ho hg hc hq.1.2) (cwV 1 F.1.2.2.2.2 gX7_ofCord_X7_timeOf rfl rfl rfl hdVX7_timeOf ⟨Nat.le_of_ble_eq_true rfl, Nat.le_of_ble_eq_true rfl⟩) ho.kind ⟨by decide, by decide⟩ rfl rfl rfl (Nat.le_of_ble_eq_true rfl) dX7_ofCord_46 ⟨Nat.le_of_ble_eq_true rfl, Nat.le_of_ble_eq_true rfl⟩ (cq_kIp fun r_46 h_46 => ?_)
    subst h_46
    exact cq_iret F hr (by decide) (by decide) dX7_ofCord_49 ⟨_, rfl, ⟨by first | rfl | exact (if_pos c_92).symm | exact (if_neg c_92).symm, rfl⟩⟩
  · subst sw_1
    refine cq_tableIn F (off := 49) (tgt := 50) dX7_ofCord_1 (by decide) (by decide) (by decide) (by decide) ?_
    refine cq_aload_n F (i := 0) dX7_ofCord_50 rfl rfl ?_
    refine cq_iload_n F (i := 1) dX7_ofCord_51 rfl rfl ?_
    refine cq_iconst F (v := 0) dX7_ofCord_52 rfl ?_
    refine cq_callV F (C := RX7) (ci := 8) (kX7_of l D cA X Bs o c (0) (7 + 11 * c) g M ho hg (by omega) (by omega)) (cwV 2 F.1.2.2.2.2 gX7_ofCord_X7_of rfl rfl rfl hdVX7_of ⟨Nat.le_of_ble_eq_true rfl, Nat.le_of_ble_eq_true rfl⟩) ho.kind ⟨by decide, by decide⟩ rfl rfl rfl (Nat.le_of_ble_eq_true rfl) dX7_ofCord_53 ⟨Nat.le_of_ble_eq_true rfl, Nat.le_of_ble_eq_true rfl⟩ (cq_kIp fun r_53 h_53 => ?_)
    subst h_53
    exact cq_iret F hr (by decide) (by decide) dX7_ofCord_56 ⟨_, rfl, ⟨by first | rfl | exact (if_pos c_92).symm | exact (if_neg c_92).symm, rfl⟩⟩
  · subst sw_1
    refine cq_tableIn F (off := 56) (tgt := 57) dX7_ofCord_1 (by decide) (by decide) (by decide) (by decide) ?_
    refine cq_aload_n F (i := 0) dX7_ofCord_57 rfl rfl ?_
    refine cq_iload_n F (i := 1) dX7_ofCord_58 rfl rfl ?_
    refine cq_bipush F (v := 7) dX7_ofCord_59 (by decide) ?_
    refine cq_callV F (C := RX7) (ci := 8) (kX7_of l D cA X Bs o c (7) (14 + 11 * c) g M ho hg (by omega) (by omega)) (cwV 2 F.1.2.2.2.2 gX7_ofCord_X7_of rfl rfl rfl hdVX7_of ⟨Nat.le_of_ble_eq_true rfl, Nat.le_of_ble_eq_true rfl⟩) ho.kind ⟨by decide, by decide⟩ rfl rfl rfl (Nat.le_of_ble_eq_true rfl) dX7_ofCord_61 ⟨Nat.le_of_ble_eq_true rfl, Nat.le_of_ble_eq_true rfl⟩ (cq_kIp fun r_61 h_61 => ?_)
    subst h_61
    exact cq_iret F hr (by decide) (by decide) dX7_ofCord_64 ⟨_, rfl, ⟨by first | rfl | exact (if_pos c_92).symm | exact (if_neg c_92).symm, rfl⟩⟩
  · subst sw_1
    refine cq_tableIn F (off := 64) (tgt := 65) dX7_ofCord_1 (by decide) (by decide) (by decide) (by decide) ?_
    refine cq_aload_n F (i := 0) dX7_ofCord_65 rfl rfl ?_
    refine cq_iload_n F (i := 1) dX7_ofCord_66 rfl rfl ?_
    refine cq_bipush F (v := 8) dX7_ofCord_67 (by decide) ?_
    refine cq_callV F (C := RX7) (ci := 8) (kX7_of l D cA X Bs o c (8) (15 + 11 * c) g M ho hg (by omega) (by omega)) (cwV 2 F.1.2.2.2.2 gX7_ofCord_X7_of rfl rfl rfl hdVX7_of ⟨Nat.le_of_ble_eq_true rfl, Nat.le_of_ble_eq_true rfl⟩) ho.kind ⟨by decide, by decide⟩ rfl rfl rfl (Nat.le_of_ble_eq_true rfl) dX7_ofCord_69 ⟨Nat.le_of_ble_eq_true rfl, Nat.le_of_ble_eq_true rfl⟩ (cq_kIp fun r_69 h_69 => ?_)
    subst h_69
    exact cq_iret F hr (by decide) (by decide) dX7_ofCord_72 ⟨_, rfl, ⟨by first | rfl | exact (if_pos c_92).symm | exact (if_neg c_92).symm, rfl⟩⟩
  · subst sw_1
    refine cq_tableIn F (off := 72) (tgt := 73) dX7_ofCord_1 (by decide) (by decide) (by decide) (by decide) ?_
    refine cq_aload_n F (i := 0) dX7_ofCord_73 rfl rfl ?_
    refine cq_iload_n F (i := 1) dX7_ofCord_74 rfl rfl ?_
    refine cq_callV F (C := RX7) (ci := 8) (kX7_leftOf l D cA X Bs o c g M ho hg hc hq.1.2 hq.2.2.1) (cwV 1 F.1.2.2.2.2 gX7_ofCord_X7_leftOf rfl rfl rfl hdVX7_leftOf ⟨Nat.le_of_ble_eq_true rfl, Nat.le_of_ble_eq_true rfl⟩) ho.kind ⟨by decide, by decide⟩ rfl rfl rfl (Nat.le_of_ble_eq_true rfl) dX7_ofCord_75 ⟨Nat.le_of_ble_eq_true rfl, Nat.le_of_ble_eq_true rfl⟩ (cq_kIp fun r_75 h_75 => ?_)
    subst h_75
    exact cq_iret F hr (by decide) (by decide) dX7_ofCord_78 ⟨_, rfl, ⟨by first | rfl | exact (if_pos c_92).symm | exact (if_neg c_92).symm, rfl⟩⟩
  · subst sw_1
    refine cq_tableIn F (off := 78) (tgt := 79) dX7_ofCord_1 (by decide) (by decide) (by decide) (by decide) ?_
    refine cq_aload_n F (i := 0) dX7_ofCord_79 rfl rfl ?_
    refine cq_iload_n F (i := 1) dX7_ofCord_80 rfl rfl ?_
    refine cq_bipush F (v := 9) dX7_ofCord_81 (by decide) ?_
    refine cq_callV F (C := RX7) (ci := 8) (kX7_of l D cA X Bs o c (9) (16 + 11 * c) g M ho hg (by omega) (by omega)) (cwV 2 F.1.2.2.2.2 gX7_ofCord_X7_of rfl rfl rfl hdVX7_of ⟨Nat.le_of_ble_eq_true rfl, Nat.le_of_ble_eq_true rfl⟩) ho.kind ⟨by decide, by decide⟩ rfl rfl rfl (Nat.le_of_ble_eq_true rfl) dX7_ofCord_83 ⟨Nat.le_of_ble_eq_true rfl, Nat.le_of_ble_eq_true rfl⟩ (cq_kIp fun r_83 h_83 => ?_)
    subst h_83
    exact cq_iret F hr (by decide) (by decide) dX7_ofCord_86 ⟨_, rfl, ⟨by first | rfl | exact (if_pos c_92).symm | exact (if_neg c_92).symm, rfl⟩⟩
  · subst sw_1
    refine cq_tableIn F (off := 86) (tgt := 87) dX7_ofCord_1 (by decide) (by decide) (by decide) (by decide) ?_
    refine cq_aload_n F (i := 0) dX7_ofCord_87 rfl rfl ?_
    refine cq_iload_n F (i := 1) dX7_ofCord_88 rfl rfl ?_
    refine cq_callV F (C := RX7) (ci := 8) (kX7_leftOf l D cA X Bs o c g M ho hg hc hq.1.2 hq.2.2.1) (cwV 1 F.1.2.2.2.2 gX7_ofCord_X7_leftOf rfl rfl rfl hdVX7_leftOf ⟨Nat.le_of_ble_eq_true rfl, Nat.le_of_ble_eq_true rfl⟩) ho.kind ⟨by decide, by decide⟩ rfl rfl rfl (Nat.le_of_ble_eq_true rfl) dX7_ofCord_89 ⟨Nat.le_of_ble_eq_true rfl, Nat.le_of_ble_eq_true rfl⟩ (cq_kIp fun r_89 h_89 => ?_)
    subst h_89
    refine cq_if_ne F (tgt := 99) dX7_ofCord_92 (by decide) (fun c_92 => ?_) (fun c_92 => ?_)
    · have c_92 : ¬ (ns_left g c) = 0 := fun z => c_92 ((nI_b (a := (ns_left g c)) (b := 0) (by omega) (by omega)).2.2.mpr z)
      refine cq_iconst F (v := 0) dX7_ofCord_99 rfl ?_
      exact cq_iret F hr (by decide) (by decide) dX7_ofCord_100 ⟨_, rfl, ⟨by first | rfl | exact (if_pos c_92).symm | exact (if_neg c_92).symm, rfl⟩⟩
    · have c_92 : (ns_left g c) = 0 := (nI_b (a := (ns_left g c)) (b := 0) (by omega) (by omega)).2.2.mp c_92
      refine cq_iconst F (v := 1) dX7_ofCord_95 rfl ?_
      refine cq_goto F (tgt := 100) dX7_ofCord_96 (by decide) ?_
      exact cq_iret F hr (by decide) (by decide) dX7_ofCord_100 ⟨_, rfl, ⟨by first | rfl | exact (if_pos c_92).symm | exact (if_neg c_92).symm, rfl⟩⟩
  · subst sw_1
    refine cq_tableOut F (tgt := 101) dX7_ofCord_1 (by decide) (by decide) ?_
    refine cq_aload_n F (i := 0) dX7_ofCord_101 rfl rfl ?_
    refine cq_iload_n F (i := 1) dX7_ofCord_102 rfl rfl ?_
    refine cq_bipush F (v := 10) dX7_ofCord_103 (by decide) ?_
    refine cq_callV F (C := RX7) (ci := 8) (kX7_of l D cA X Bs o c (10) (17 + 11 * c) g M ho hg (by omega) (by omega)) (cwV 2 F.1.2.2.2.2 gX7_ofCord_X7_of rfl rfl rfl hdVX7_of ⟨Nat.le_of_ble_eq_true rfl, Nat.le_of_ble_eq_true rfl⟩) ho.kind ⟨by decide, by decide⟩ rfl rfl rfl (Nat.le_of_ble_eq_true rfl) dX7_ofCord_105 ⟨Nat.le_of_ble_eq_true rfl, Nat.le_of_ble_eq_true rfl⟩ (cq_kIp fun r_105 h_105 => ?_)
    subst h_105
    exact cq_iret F hr (by decide) (by decide) dX7_ofCord_108 ⟨_, rfl, ⟨by first | rfl | exact (if_pos c_92).symm | exact (if_neg c_92).symm, rfl⟩⟩
theorem hdVX7_ofCord : yX7_ofCord.cls = RX7 ∧ yX7_ofCord.cls ≠ "java/lang/invoke/MethodHandle" ∧ yX7_ofCord.cls ≠ "java/lang/invoke/VarHandle" ∧ (parseMethodDescriptor yX7_ofCord.desc).map (fun d => d.parameters.length) = some 2 := by decide +kernel
abbrev rmX7_cordOf : Room := ({ frames := 4, cells := 0, slots := 0, locals := 88 })
set_option maxHeartbeats 4000000 in
set_option maxRecDepth 100000 in
theorem kX7_cordOf (l : Launch) (D : va_G) (cA : Nat → ClassId) (X : cq_X) (Bs : Nat) (o B : Nat) (S : as_T) (u w : Int32) (M : cq_M) (ho : cq_isModel X o) (h : cm M o S) (hk : as_ok S B) : cq_C l yX7_cordOf wsX7_cordOf rmX7_cordOf D cA X Bs [.ref o, .int u, .int w] M (cq_PI (fun r M1 => mq (op_cordOf S u w) r M M1 o)) 0 0 := by
  refine cq_met (cc := cX7_cordOf) (maxL := 3) (ret := (some .int)) (by decide) rfl (Nat.le_of_ble_eq_true rfl) [(0, .ref o), (1, .int u), (2, .int w)] rfl rfl ?_
  intro p9 e9 s9 m9 b9 t9 c9 F hr
  have inX7 : ∀ w ∈ wsX70, w ∈ wsX7_cordOf := (fun w h => List.mem_cons_of_mem _ (List.mem_append_right _ h))
  have hk6 := hk.1.1
  have hk51 := hk.1.2.1
  refine cq_aload_n F (i := 0) dX7_cordOf_0 rfl rfl ?_
  refine cq_iconst F (v := 0) dX7_cordOf_1 rfl ?_
  refine cq_put F (C := RX7) (T := TX7) (N := 22) (ci := 8) ho.kind rfl ⟨⟨by decide, by decide⟩, rfl⟩ inX7 tyX7 tyX7_ok nmX7 6 (by decide) rfl rfl (F.1.2.2.2.2 _ (List.mem_of_getElem? (l := wsX7_cordOf) (i := 1) (a := .fieldLink RX7 53 "CordClockModel" "thrown" "I") (by decide +kernel))) rfl (by rfl) (by rfl) dX7_cordOf_2 (fun M_2 h_2 => ?_)
  have v_2_o1 := h.1.ne h_2 (by omega)
  have q2 := h.o h_2 (by omega) (by omega)
  have f2 : cr_fr M M_2 o 15 := cr_fr.rf.up h_2 (by omega) (by omega)
  refine cq_aload_n F (i := 0) dX7_cordOf_5 rfl rfl ?_
  refine cq_iload_n F (i := 1) dX7_cordOf_6 rfl rfl ?_
  refine cq_callV F (C := RX7) (ci := 8) (kX7_isCord l D cA X Bs o u (S_g S) M_2 ho v_2_o1 hk.1.1) (cwV 1 F.1.2.2.2.2 gX7_cordOf_X7_isCord rfl rfl rfl hdVX7_isCord ⟨Nat.le_of_ble_eq_true rfl, Nat.le_of_ble_eq_true rfl⟩) ho.kind ⟨by decide, by decide⟩ rfl rfl rfl (Nat.le_of_ble_eq_true rfl) dX7_cordOf_7 ⟨Nat.le_of_ble_eq_true rfl, Nat.le_of_ble_eq_true rfl⟩ (cq_kIp fun r_7 h_7 => ?_)
  refine cq_if_ne F (tgt := 19) dX7_cordOf_10 (by decide) (fun c_10 => ?_) (fun c_10 => ?_)
  · have c_10 := cq_b1 h_7 c_10
    have c_10b := c_10
    obtain ⟨c, hc, rfl⟩ := nI_cd (n := S_g S 6) (by have := hk.1.1; omega) c_10
    have ec : (nI c).toNatClampNeg = c := nI_clamp (by have := hk.1.1; omega)
    have hq := hk.1.2.2.2.1 c hc
    refine cq_iload_n F (i := 2) dX7_cordOf_19 rfl rfl ?_
    refine cq_iconst F (v := 0) dX7_cordOf_20 rfl ?_
    refine cq_bipush F (v := 7) dX7_cordOf_21 (by decide) ?_
    refine cq_callS F (kX7_in l D cA X Bs w 0 7 M_2) (va_cwS 3 F.1.2.2.2.2 gX7_cordOf_X7_in rfl rfl rfl hdVX7_in.2 ⟨Nat.le_of_ble_eq_true rfl, Nat.le_of_ble_eq_true rfl⟩) rfl (Nat.le_of_ble_eq_true rfl) dX7_cordOf_23 ⟨Nat.le_of_ble_eq_true rfl, Nat.le_of_ble_eq_true rfl⟩ (cq_kIp fun r_23 h_23 => ?_)
    refine cq_if_eq F (tgt := 38) dX7_cordOf_26 (by decide) (fun c_26 => ?_) (fun c_26 => ?_)
    · have c_26 := cq_b0 h_23 c_26
      refine cq_aload_n F (i := 0) dX7_cordOf_38 rfl rfl ?_
      refine cq_iconst F (v := 2) dX7_cordOf_39 rfl ?_
      refine cq_callV F (C := RX7) (ci := 8) (kX7_fails l D cA X Bs o 2 M_2 ho) (cwV 1 F.1.2.2.2.2 gX7_cordOf_X7_fails rfl rfl rfl hdVX7_fails ⟨Nat.le_of_ble_eq_true rfl, Nat.le_of_ble_eq_true rfl⟩) ho.kind ⟨by decide, by decide⟩ rfl rfl rfl (Nat.le_of_ble_eq_true rfl) dX7_cordOf_40 ⟨Nat.le_of_ble_eq_true rfl, Nat.le_of_ble_eq_true rfl⟩ (cq_kI fun r_40 M_40 h_40 => ?_)
      obtain ⟨hr_40, h_40⟩ := h_40
      subst hr_40
      refine cq_iret F hr (by decide) (by decide) dX7_cordOf_43 ⟨_, rfl, ?_⟩
      have e : op_cordOf S (nI c) w = (2, 0, S) := by unfold op_cordOf; rw [if_pos c_10b, if_neg c_26]
      rw [e]
      exact ⟨by rw [h_40]; exact cq_up_s _ _ _ _, fun z => absurd (show (2 : Nat) = 0 from z) (by decide), q2.o h_40 (by omega) (by omega), f2.up h_40 (by omega) (by omega)⟩
    · have c_26 := cq_b1 h_23 c_26
      have c_26b := c_26
      obtain ⟨d, -, hd, rfl⟩ := nI_ab (a := 0) (b := 7) (by omega) (by omega) c_26
      have ed : (nI d).toNatClampNeg = d := nI_clamp (by omega)
      refine cq_aload_n F (i := 0) dX7_cordOf_29 rfl rfl ?_
      refine cq_iload_n F (i := 1) dX7_cordOf_30 rfl rfl ?_
      refine cq_iload_n F (i := 2) dX7_cordOf_31 rfl rfl ?_
      refine cq_callV F (C := RX7) (ci := 8) (kX7_ofCord l D cA X Bs o c d (S_g S) M_2 ho v_2_o1 (by omega) hq hd) (cwV 2 F.1.2.2.2.2 gX7_cordOf_X7_ofCord rfl rfl rfl hdVX7_ofCord ⟨Nat.le_of_ble_eq_true rfl, Nat.le_of_ble_eq_true rfl⟩) ho.kind ⟨by decide, by decide⟩ rfl rfl rfl (Nat.le_of_ble_eq_true rfl) dX7_cordOf_32 ⟨Nat.le_of_ble_eq_true rfl, Nat.le_of_ble_eq_true rfl⟩ (cq_kIp fun r_32 h_32 => ?_)
      refine cq_goto F (tgt := 43) dX7_cordOf_35 (by decide) ?_
      exact cq_iret F hr (by decide) (by decide) dX7_cordOf_43 ⟨_, rfl, (mq_q (by unfold op_cordOf; rw [if_pos c_10b, if_pos c_26b, ec, ed]) (h_32) (by rw [h_2]; exact cq_up_s _ _ _ _) q2 f2)⟩
  · have c_10 := cq_b0 h_7 c_10
    refine cq_aload_n F (i := 0) dX7_cordOf_13 rfl rfl ?_
    refine cq_iconst F (v := 1) dX7_cordOf_14 rfl ?_
    refine cq_callV F (C := RX7) (ci := 8) (kX7_fails l D cA X Bs o 1 M_2 ho) (cwV 1 F.1.2.2.2.2 gX7_cordOf_X7_fails rfl rfl rfl hdVX7_fails ⟨Nat.le_of_ble_eq_true rfl, Nat.le_of_ble_eq_true rfl⟩) ho.kind ⟨by decide, by decide⟩ rfl rfl rfl (Nat.le_of_ble_eq_true rfl) dX7_cordOf_15 ⟨Nat.le_of_ble_eq_true rfl, Nat.le_of_ble_eq_true rfl⟩ (cq_kI fun r_15 M_15 h_15 => ?_)
    obtain ⟨hr_15, h_15⟩ := h_15
    subst hr_15
    refine cq_iret F hr (by decide) (by decide) dX7_cordOf_18 ⟨_, rfl, ?_⟩
    have e : op_cordOf S u w = (1, 0, S) := if_neg c_10
    rw [e]
    exact ⟨by rw [h_15]; exact cq_up_s _ _ _ _, fun z => absurd (show (1 : Nat) = 0 from z) (by decide), q2.o h_15 (by omega) (by omega), f2.up h_15 (by omega) (by omega)⟩
theorem hdVX7_cordOf : yX7_cordOf.cls = RX7 ∧ yX7_cordOf.cls ≠ "java/lang/invoke/MethodHandle" ∧ yX7_cordOf.cls ≠ "java/lang/invoke/VarHandle" ∧ (parseMethodDescriptor yX7_cordOf.desc).map (fun d => d.parameters.length) = some 2 := by decide +kernel
abbrev rmX7_segment : Room := ({ frames := 3, cells := 0, slots := 0, locals := 65 })
set_option maxHeartbeats 4000000 in
set_option maxRecDepth 100000 in
theorem kX7_segment (l : Launch) (D : va_G) (cA : Nat → ClassId) (X : cq_X) (Bs : Nat) (o B : Nat) (S : as_T) (u w : Int32) (M : cq_M) (ho : cq_isModel X o) (h : cm M o S) (hk : as_ok S B) : cq_C l yX7_segment wsX7_segment rmX7_segment D cA X Bs [.ref o, .int u, .int w] M (cq_PI (fun r M1 => mq (op_segment S u w) r M M1 o)) 0 0 := by
  refine cq_met (cc := cX7_segment) (maxL := 3) (ret := (some .int)) (by decide) rfl (Nat.le_of_ble_eq_true rfl) [(0, .ref o), (1, .int u), (2, .int w)] rfl rfl ?_
  intro p9 e9 s9 m9 b9 t9 c9 F hr
  have inX7 : ∀ w ∈ wsX70, w ∈ wsX7_segment := (fun w h => List.mem_cons_of_mem _ (List.mem_append_right _ h))
  have hk6 := hk.1.1
  have hk51 := hk.1.2.1
  refine cq_aload_n F (i := 0) dX7_segment_0 rfl rfl ?_
  refine cq_iconst F (v := 0) dX7_segment_1 rfl ?_
  refine cq_put F (C := RX7) (T := TX7) (N := 22) (ci := 8) ho.kind rfl ⟨⟨by decide, by decide⟩, rfl⟩ inX7 tyX7 tyX7_ok nmX7 6 (by decide) rfl rfl (F.1.2.2.2.2 _ (List.mem_of_getElem? (l := wsX7_segment) (i := 1) (a := .fieldLink RX7 53 "CordClockModel" "thrown" "I") (by decide +kernel))) rfl (by rfl) (by rfl) dX7_segment_2 (fun M_2 h_2 => ?_)
  have v_2_o1 := h.1.ne h_2 (by omega)
  have q2 := h.o h_2 (by omega) (by omega)
  have f2 : cr_fr M M_2 o 15 := cr_fr.rf.up h_2 (by omega) (by omega)
  refine cq_aload_n F (i := 0) dX7_segment_5 rfl rfl ?_
  refine cq_iload_n F (i := 1) dX7_segment_6 rfl rfl ?_
  refine cq_iload_n F (i := 2) dX7_segment_7 rfl rfl ?_
  refine cq_callV F (C := RX7) (ci := 8) (kX7_isSegment l D cA X Bs o u w (S_g S) M_2 ho v_2_o1 hk6 (fun c hc => (hk.1.2.2.2.1 c hc).1.2)) (cwV 2 F.1.2.2.2.2 gX7_segment_X7_isSegment rfl rfl rfl hdVX7_isSegment ⟨Nat.le_of_ble_eq_true rfl, Nat.le_of_ble_eq_true rfl⟩) ho.kind ⟨by decide, by decide⟩ rfl rfl rfl (Nat.le_of_ble_eq_true rfl) dX7_segment_8 ⟨Nat.le_of_ble_eq_true rfl, Nat.le_of_ble_eq_true rfl⟩ (cq_kIp fun r_8 h_8 => ?_)
  refine cq_if_eq F (tgt := 25) dX7_segment_11 (by decide) (fun c_11 => ?_) (fun c_11 => ?_)
  · have c_11 := cq_b0 h_8 c_11
    refine cq_aload_n F (i := 0) dX7_segment_25 rfl rfl ?_
    refine cq_iconst F (v := 1) dX7_segment_26 rfl ?_
    refine cq_callV F (C := RX7) (ci := 8) (kX7_fails l D cA X Bs o 1 M_2 ho) (cwV 1 F.1.2.2.2.2 gX7_segment_X7_fails rfl rfl rfl hdVX7_fails ⟨Nat.le_of_ble_eq_true rfl, Nat.le_of_ble_eq_true rfl⟩) ho.kind ⟨by decide, by decide⟩ rfl rfl rfl (Nat.le_of_ble_eq_true rfl) dX7_segment_27 ⟨Nat.le_of_ble_eq_true rfl, Nat.le_of_ble_eq_true rfl⟩ (cq_kI fun r_27 M_27 h_27 => ?_)
    obtain ⟨hr_27, h_27⟩ := h_27
    subst hr_27
    refine cq_iret F hr (by decide) (by decide) dX7_segment_30 ⟨_, rfl, ?_⟩
    have e : op_segment S u w = (1, 0, S) := if_neg c_11
    rw [e]
    exact ⟨by rw [h_27]; exact cq_up_s _ _ _ _, fun z => absurd (show (1 : Nat) = 0 from z) (by decide), q2.o h_27 (by omega) (by omega), f2.up h_27 (by omega) (by omega)⟩
  · have c_11 := cq_b1 h_8 c_11
    have c_11b := c_11
    obtain ⟨c, hc, rfl⟩ := nI_cd (n := S_g S 6) (by omega) c_11.1
    have ec : (nI c).toNatClampNeg = c := nI_clamp (by omega)
    have hq := hk.1.2.2.2.1 c hc
    have h7 := hq.1.2
    obtain ⟨s, hs, rfl⟩ := nI_cd (n := S_g S (7 + 11 * c)) (by omega) (by have z := c_11.2; rw [ec] at z; exact z)
    have es : (nI s).toNatClampNeg = s := nI_clamp (by omega)
    refine cq_aload_n F (i := 0) dX7_segment_14 rfl rfl ?_
    refine cq_iload_n F (i := 1) dX7_segment_15 rfl rfl ?_
    refine cq_iconst F (v := 1) dX7_segment_16 rfl ?_
    refine cq_iload_n F (i := 2) dX7_segment_17 rfl rfl ?_
    refine cq_iadd F dX7_segment_18 ?_
    rw [show (1 + nI s : Int32) = nI (1 + s) from nI_add _ _]
    refine cq_callV F (C := RX7) (ci := 8) (kX7_of l D cA X Bs o c (1 + s) (8 + 11 * c + s) (S_g S) M_2 ho v_2_o1 (by omega) (by omega)) (cwV 2 F.1.2.2.2.2 gX7_segment_X7_of rfl rfl rfl hdVX7_of ⟨Nat.le_of_ble_eq_true rfl, Nat.le_of_ble_eq_true rfl⟩) ho.kind ⟨by decide, by decide⟩ rfl rfl rfl (Nat.le_of_ble_eq_true rfl) dX7_segment_19 ⟨Nat.le_of_ble_eq_true rfl, Nat.le_of_ble_eq_true rfl⟩ (cq_kIp fun r_19 h_19 => ?_)
    subst h_19
    refine cq_goto F (tgt := 30) dX7_segment_22 (by decide) ?_
    exact cq_iret F hr (by decide) (by decide) dX7_segment_30 ⟨_, rfl, (mq_q (by unfold op_segment; rw [if_pos c_11b, ec, es]) (rfl) (by rw [h_2]; exact cq_up_s _ _ _ _) q2 f2)⟩
theorem hdVX7_segment : yX7_segment.cls = RX7 ∧ yX7_segment.cls ≠ "java/lang/invoke/MethodHandle" ∧ yX7_segment.cls ≠ "java/lang/invoke/VarHandle" ∧ (parseMethodDescriptor yX7_segment.desc).map (fun d => d.parameters.length) = some 2 := by decide +kernel
abbrev rmX7_segmentAt : Room := ({ frames := 1, cells := 0, slots := 0, locals := 22 })
set_option maxHeartbeats 4000000 in
set_option maxRecDepth 100000 in
theorem kX7_segmentAt (l : Launch) (D : va_G) (cA : Nat → ClassId) (X : cq_X) (Bs : Nat) (o c u : Nat) (g : Nat → Nat) (M : cq_M) (ho : cq_isModel X o) (hg : cq_nv M (o + 1) 109 g) (hc : c < 4) (hq : ns_cord g c) (hu : u < ns_time g c) : cq_C l yX7_segmentAt wsX7_segmentAt rmX7_segmentAt D cA X Bs [.ref o, .int (nI c), .int (nI u)] M (cq_PI (fun r M1 => r = nI (ns_at g (8 + 11 * c) u (g (7 + 11 * c))) ∧ M1 = M)) 0 0 := by
  refine cq_met (cc := cX7_segmentAt) (maxL := 5) (ret := (some .int)) (by decide) rfl (Nat.le_of_ble_eq_true rfl) [(0, .ref o), (1, .int (nI c)), (2, .int (nI u))] rfl rfl ?_
  intro p9 e9 s9 m9 b9 t9 c9 F hr
  have h7 := hq.1
  have ht := hq.time
  have loop_10 : ∀ (n_10 : Nat) (k : Nat), k < g (7 + 11 * c) → ns_sum g (8 + 11 * c) k ≤ u → g (7 + 11 * c) - k < n_10 → cq_V p9 l e9 rmX7_segmentAt s9 m9 ([.ref o, .int (nI c), .int (nI u)] : List Value).toArray b9 t9 c9 D cA X Bs 5 0 0 (MQ b9 (cq_Q D cA X Bs (cq_PI (fun r M1 => r = nI (ns_at g (8 + 11 * c) u (g (7 + 11 * c))) ∧ M1 = M))) ([.ref o, .int (nI c), .int (nI u)] : List Value).toArray s9 0 0 (cq_A Bs)) 10 [(0, .ref o), (1, .int (nI c)), (2, .int (nI u)), (3, .int (nI k)), (4, .int (nI (ns_sum g (8 + 11 * c) (k + 1))))] [] M := by
    intro n_10
    induction n_10 with
    | zero =>
      intros
      omega
    | succ n_10 ih_10 =>
      intro k hk hks hn
      have hsm : ns_sum g (8 + 11 * c) (k + 1) ≤ ns_time g c := ns_sum_mono (by omega)
      refine cq_iload_n F (i := 2) dX7_segmentAt_10 rfl rfl ?_
      refine cq_iload F dX7_segmentAt_11 rfl ?_
      refine cq_icmp_lt F (tgt := 35) dX7_segmentAt_13 (by decide) (fun c_13 => ?_) (fun c_13 => ?_)
      · have c_13 : u < (ns_sum g (8 + 11 * c) (k + 1)) := (nI_b (a := u) (b := (ns_sum g (8 + 11 * c) (k + 1))) (by omega) (by omega)).2.1.mp c_13
        refine cq_iload_n F (i := 3) dX7_segmentAt_35 rfl rfl ?_
        exact cq_iret F hr (by decide) (by decide) dX7_segmentAt_36 ⟨_, rfl, ⟨by rw [ns_at_eq hks (by omega), if_neg (by omega)], rfl⟩⟩
      · have c_13 : ¬ u < (ns_sum g (8 + 11 * c) (k + 1)) := fun z => c_13 ((nI_b (a := u) (b := (ns_sum g (8 + 11 * c) (k + 1))) (by omega) (by omega)).2.1.mpr z)
        refine cq_iinc F dX7_segmentAt_16 rfl (by decide) (fun x_16 e_16 => ?_)
        obtain rfl : x_16 = nI (k + 1) := by rw [e_16]; exact nI_1 _
        refine cq_iload F dX7_segmentAt_19 rfl ?_
        refine cq_aload_n F (i := 0) dX7_segmentAt_21 rfl rfl ?_
        refine cq_iload_n F (i := 1) dX7_segmentAt_22 rfl rfl ?_
        refine cq_iconst F (v := 1) dX7_segmentAt_23 rfl ?_
        refine cq_iload_n F (i := 3) dX7_segmentAt_24 rfl rfl ?_
        refine cq_iadd F dX7_segmentAt_25 ?_
        rw [show (1 + nI (k + 1) : Int32) = nI (1 + k + 1) from nI_add _ _]
        refine cq_callV F (C := RX7) (ci := 8) (kX7_of l D cA X Bs o c (1 + (k + 1)) (8 + 11 * c + (k + 1)) g M ho hg (by omega) (by omega)) (cwV 2 F.1.2.2.2.2 gX7_segmentAt_X7_of rfl rfl rfl hdVX7_of ⟨Nat.le_of_ble_eq_true rfl, Nat.le_of_ble_eq_true rfl⟩) ho.kind ⟨by decide, by decide⟩ rfl rfl rfl (Nat.le_of_ble_eq_true rfl) dX7_segmentAt_26 ⟨Nat.le_of_ble_eq_true rfl, Nat.le_of_ble_eq_true rfl⟩ (cq_kIp fun r_26 h_26 => ?_)
        subst h_26
        have hk1 : k + 1 < g (7 + 11 * c) := by
          refine Nat.lt_of_not_le (fun z => ?_)
          have z2 := ns_sum_mono (g := g) (b := 8 + 11 * c) z
          unfold ns_time at hu
          omega
        refine cq_iadd F dX7_segmentAt_29 ?_
        rw [show (nI (ns_sum g (8 + 11 * c) (k + 1)) + nI (g (8 + 11 * c + (k + 1))) : Int32) = nI ((ns_sum g (8 + 11 * c) (k + 1)) + (g (8 + 11 * c + (k + 1)))) from nI_add _ _]
        refine cq_istore F dX7_segmentAt_30 (by decide) ?_
        refine cq_goto F (tgt := 10) dX7_segmentAt_32 (by decide) ?_
        refine cq_loc (L2 := [(0, .ref o), (1, .int (nI c)), (2, .int (nI u)), (3, .int (nI (k + 1))), (4, .int (nI (ns_sum g (8 + 11 * c) ((k + 1) + 1))))]) rfl ?_
        exact ih_10 (k + 1) hk1 (Nat.not_lt.mp c_13) (by omega)
  refine cq_iconst F (v := 0) dX7_segmentAt_0 rfl ?_
  refine cq_istore_n F (i := 3) dX7_segmentAt_1 rfl (by decide) ?_
  refine cq_aload_n F (i := 0) dX7_segmentAt_2 rfl rfl ?_
  refine cq_iload_n F (i := 1) dX7_segmentAt_3 rfl rfl ?_
  refine cq_iconst F (v := 1) dX7_segmentAt_4 rfl ?_
  refine cq_callV F (C := RX7) (ci := 8) (kX7_of l D cA X Bs o c (1) (8 + 11 * c) g M ho hg (by omega) (by omega)) (cwV 2 F.1.2.2.2.2 gX7_segmentAt_X7_of rfl rfl rfl hdVX7_of ⟨Nat.le_of_ble_eq_true rfl, Nat.le_of_ble_eq_true rfl⟩) ho.kind ⟨by decide, by decide⟩ rfl rfl rfl (Nat.le_of_ble_eq_true rfl) dX7_segmentAt_5 ⟨Nat.le_of_ble_eq_true rfl, Nat.le_of_ble_eq_true rfl⟩ (cq_kIp fun r_5 h_5 => ?_)
  subst h_5
  refine cq_istore F dX7_segmentAt_8 (by decide) ?_
  rw [show g (8 + 11 * c) = ns_sum g (8 + 11 * c) (0 + 1) from (Nat.zero_add _).symm]
  refine cq_loc (L2 := [(0, .ref o), (1, .int (nI c)), (2, .int (nI u)), (3, .int (nI 0)), (4, .int (nI (ns_sum g (8 + 11 * c) (0 + 1))))]) rfl ?_
  exact loop_10 (g (7 + 11 * c) + 1) 0 (by omega) (Nat.zero_le _) (by omega)
theorem hdVX7_segmentAt : yX7_segmentAt.cls = RX7 ∧ yX7_segmentAt.cls ≠ "java/lang/invoke/MethodHandle" ∧ yX7_segmentAt.cls ≠ "java/lang/invoke/VarHandle" ∧ (parseMethodDescriptor yX7_segmentAt.desc).map (fun d => d.parameters.length) = some 2 := by decide +kernel
abbrev rmX7_front : Room := ({ frames := 3, cells := 0, slots := 0, locals := 66 })
set_option maxHeartbeats 4000000 in
set_option maxRecDepth 100000 in
theorem kX7_front (l : Launch) (D : va_G) (cA : Nat → ClassId) (X : cq_X) (Bs : Nat) (o B : Nat) (S : as_T) (u y : Int32) (M : cq_M) (ho : cq_isModel X o) (h : cm M o S) (hk : as_ok S B) : cq_C l yX7_front wsX7_front rmX7_front D cA X Bs [.ref o, .int u, .int y] M (cq_PI (fun r M1 => mq (op_front S u y) r M M1 o)) 0 0 := by
  refine cq_met (cc := cX7_front) (maxL := 3) (ret := (some .int)) (by decide) rfl (Nat.le_of_ble_eq_true rfl) [(0, .ref o), (1, .int u), (2, .int y)] rfl rfl ?_
  intro p9 e9 s9 m9 b9 t9 c9 F hr
  have inX7 : ∀ w ∈ wsX70, w ∈ wsX7_front := (fun w h => List.mem_cons_of_mem _ (List.mem_append_right _ h))
  have hk6 := hk.1.1
  have hk51 := hk.1.2.1
  refine cq_aload_n F (i := 0) dX7_front_0 rfl rfl ?_
  refine cq_iconst F (v := 0) dX7_front_1 rfl ?_
  refine cq_put F (C := RX7) (T := TX7) (N := 22) (ci := 8) ho.kind rfl ⟨⟨by decide, by decide⟩, rfl⟩ inX7 tyX7 tyX7_ok nmX7 6 (by decide) rfl rfl (F.1.2.2.2.2 _ (List.mem_of_getElem? (l := wsX7_front) (i := 1) (a := .fieldLink RX7 53 "CordClockModel" "thrown" "I") (by decide +kernel))) rfl (by rfl) (by rfl) dX7_front_2 (fun M_2 h_2 => ?_)
  have v_2_o1 := h.1.ne h_2 (by omega)
  have q2 := h.o h_2 (by omega) (by omega)
  have f2 : cr_fr M M_2 o 15 := cr_fr.rf.up h_2 (by omega) (by omega)
  refine cq_aload_n F (i := 0) dX7_front_5 rfl rfl ?_
  refine cq_iload_n F (i := 1) dX7_front_6 rfl rfl ?_
  refine cq_callV F (C := RX7) (ci := 8) (kX7_isCord l D cA X Bs o u (S_g S) M_2 ho v_2_o1 hk.1.1) (cwV 1 F.1.2.2.2.2 gX7_front_X7_isCord rfl rfl rfl hdVX7_isCord ⟨Nat.le_of_ble_eq_true rfl, Nat.le_of_ble_eq_true rfl⟩) ho.kind ⟨by decide, by decide⟩ rfl rfl rfl (Nat.le_of_ble_eq_true rfl) dX7_front_7 ⟨Nat.le_of_ble_eq_true rfl, Nat.le_of_ble_eq_true rfl⟩ (cq_kIp fun r_7 h_7 => ?_)
  refine cq_if_ne F (tgt := 19) dX7_front_10 (by decide) (fun c_10 => ?_) (fun c_10 => ?_)
  · have c_10 := cq_b1 h_7 c_10
    have c_10b := c_10
    obtain ⟨c, hc, rfl⟩ := nI_cd (n := S_g S 6) (by have := hk.1.1; omega) c_10
    have ec : (nI c).toNatClampNeg = c := nI_clamp (by have := hk.1.1; omega)
    have hq := hk.1.2.2.2.1 c hc
    have hlt : ns_left (S_g S) c ≤ 360 := by have := hq.time; unfold ns_left; omega
    refine cq_aload_n F (i := 0) dX7_front_19 rfl rfl ?_
    refine cq_iload_n F (i := 1) dX7_front_20 rfl rfl ?_
    refine cq_callV F (C := RX7) (ci := 8) (kX7_leftOf l D cA X Bs o c (S_g S) M_2 ho v_2_o1 (by omega) hq.1.2 hq.2.2.1) (cwV 1 F.1.2.2.2.2 gX7_front_X7_leftOf rfl rfl rfl hdVX7_leftOf ⟨Nat.le_of_ble_eq_true rfl, Nat.le_of_ble_eq_true rfl⟩) ho.kind ⟨by decide, by decide⟩ rfl rfl rfl (Nat.le_of_ble_eq_true rfl) dX7_front_21 ⟨Nat.le_of_ble_eq_true rfl, Nat.le_of_ble_eq_true rfl⟩ (cq_kIp fun r_21 h_21 => ?_)
    subst h_21
    refine cq_if_ne F (tgt := 31) dX7_front_24 (by decide) (fun c_24 => ?_) (fun c_24 => ?_)
    · have c_24 : ¬ (ns_left (S_g S) c) = 0 := fun z => c_24 ((nI_b (a := (ns_left (S_g S) c)) (b := 0) (by omega) (by omega)).2.2.mpr z)
      refine cq_aload_n F (i := 0) dX7_front_31 rfl rfl ?_
      refine cq_iload_n F (i := 1) dX7_front_32 rfl rfl ?_
      refine cq_iload_n F (i := 2) dX7_front_33 rfl rfl ?_
      refine cq_if_eq F (tgt := 47) dX7_front_34 (by decide) (fun c_34 => ?_) (fun c_34 => ?_)
      · refine cq_aload_n F (i := 0) dX7_front_47 rfl rfl ?_
        refine cq_iload_n F (i := 1) dX7_front_48 rfl rfl ?_
        refine cq_callV F (C := RX7) (ci := 8) (kX7_timeOf l D cA X Bs o c (S_g S) M_2 ho v_2_o1 (by omega) hq.1.2) (cwV 1 F.1.2.2.2.2 gX7_front_X7_timeOf rfl rfl rfl hdVX7_timeOf ⟨Nat.le_of_ble_eq_true rfl, Nat.le_of_ble_eq_true rfl⟩) ho.kind ⟨by decide, by decide⟩ rfl rfl rfl (Nat.le_of_ble_eq_true rfl) dX7_front_49 ⟨Nat.le_of_ble_eq_true rfl, Nat.le_of_ble_eq_true rfl⟩ (cq_kIp fun r_49 h_49 => ?_)
        subst h_49
        refine cq_iconst F (v := 1) dX7_front_52 rfl ?_
        refine cq_isub F dX7_front_53 ?_
        rw [show (nI (ns_time (S_g S) c) - 1 : Int32) = nI ((ns_time (S_g S) c) - 1) from pk_sub (a := (ns_time (S_g S) c)) (b := 1) (by unfold ns_left at c_24; omega)]
        refine cq_aload_n F (i := 0) dX7_front_54 rfl rfl ?_
        refine cq_iload_n F (i := 1) dX7_front_55 rfl rfl ?_
        refine cq_bipush F (v := 8) dX7_front_56 (by decide) ?_
        refine cq_callV F (C := RX7) (ci := 8) (kX7_of l D cA X Bs o c (8) (15 + 11 * c) (S_g S) M_2 ho v_2_o1 (by omega) (by omega)) (cwV 2 F.1.2.2.2.2 gX7_front_X7_of rfl rfl rfl hdVX7_of ⟨Nat.le_of_ble_eq_true rfl, Nat.le_of_ble_eq_true rfl⟩) ho.kind ⟨by decide, by decide⟩ rfl rfl rfl (Nat.le_of_ble_eq_true rfl) dX7_front_58 ⟨Nat.le_of_ble_eq_true rfl, Nat.le_of_ble_eq_true rfl⟩ (cq_kIp fun r_58 h_58 => ?_)
        subst h_58
        refine cq_isub F dX7_front_61 ?_
        rw [show (nI ((ns_time (S_g S) c) - 1) - nI ((S_g S) (15 + 11 * c)) : Int32) = nI (((ns_time (S_g S) c) - 1) - ((S_g S) (15 + 11 * c))) from pk_sub (a := ((ns_time (S_g S) c) - 1)) (b := ((S_g S) (15 + 11 * c))) (by unfold ns_left ns_burned at c_24; omega)]
        refine cq_callV F (C := RX7) (ci := 8) (kX7_segmentAt l D cA X Bs o c (ns_time (S_g S) c - 1 - S_g S (15 + 11 * c)) (S_g S) M_2 ho v_2_o1 (by omega) hq (by unfold ns_left ns_burned at c_24; omega)) (cwV 2 F.1.2.2.2.2 gX7_front_X7_segmentAt rfl rfl rfl hdVX7_segmentAt ⟨Nat.le_of_ble_eq_true rfl, Nat.le_of_ble_eq_true rfl⟩) ho.kind ⟨by decide, by decide⟩ rfl rfl rfl (Nat.le_of_ble_eq_true rfl) dX7_front_62 ⟨Nat.le_of_ble_eq_true rfl, Nat.le_of_ble_eq_true rfl⟩ (cq_kIp fun r_62 h_62 => ?_)
        exact cq_iret F hr (by decide) (by decide) dX7_front_65 ⟨_, rfl, (mq_q (by unfold op_front; rw [if_pos c_10b, ec]) (by unfold ns_front; first | exact (if_pos c_24).symm | (rw [if_neg c_24, h_62]; first | rw [if_pos c_34] | rw [if_neg c_34])) (by rw [h_2]; exact cq_up_s _ _ _ _) q2 f2)⟩
      · refine cq_aload_n F (i := 0) dX7_front_37 rfl rfl ?_
        refine cq_iload_n F (i := 1) dX7_front_38 rfl rfl ?_
        refine cq_bipush F (v := 7) dX7_front_39 (by decide) ?_
        refine cq_callV F (C := RX7) (ci := 8) (kX7_of l D cA X Bs o c (7) (14 + 11 * c) (S_g S) M_2 ho v_2_o1 (by omega) (by omega)) (cwV 2 F.1.2.2.2.2 gX7_front_X7_of rfl rfl rfl hdVX7_of ⟨Nat.le_of_ble_eq_true rfl, Nat.le_of_ble_eq_true rfl⟩) ho.kind ⟨by decide, by decide⟩ rfl rfl rfl (Nat.le_of_ble_eq_true rfl) dX7_front_41 ⟨Nat.le_of_ble_eq_true rfl, Nat.le_of_ble_eq_true rfl⟩ (cq_kIp fun r_41 h_41 => ?_)
        subst h_41
        refine cq_goto F (tgt := 62) dX7_front_44 (by decide) ?_
        refine cq_callV F (C := RX7) (ci := 8) (kX7_segmentAt l D cA X Bs o c (S_g S (14 + 11 * c)) (S_g S) M_2 ho v_2_o1 (by omega) hq (by unfold ns_left ns_burned at c_24; omega)) (cwV 2 F.1.2.2.2.2 gX7_front_X7_segmentAt rfl rfl rfl hdVX7_segmentAt ⟨Nat.le_of_ble_eq_true rfl, Nat.le_of_ble_eq_true rfl⟩) ho.kind ⟨by decide, by decide⟩ rfl rfl rfl (Nat.le_of_ble_eq_true rfl) dX7_front_62 ⟨Nat.le_of_ble_eq_true rfl, Nat.le_of_ble_eq_true rfl⟩ (cq_kIp fun r_62 h_62 => ?_)
        exact cq_iret F hr (by decide) (by decide) dX7_front_65 ⟨_, rfl, (mq_q (by unfold op_front; rw [if_pos c_10b, ec]) (by unfold ns_front; first | exact (if_pos c_24).symm | (rw [if_neg c_24, h_62]; first | rw [if_pos c_34] | rw [if_neg c_34])) (by rw [h_2]; exact cq_up_s _ _ _ _) q2 f2)⟩
    · have c_24 : (ns_left (S_g S) c) = 0 := (nI_b (a := (ns_left (S_g S) c)) (b := 0) (by omega) (by omega)).2.2.mp c_24
      refine cq_iconst F (v := (-1)) dX7_front_27 rfl ?_
      refine cq_goto F (tgt := 65) dX7_front_28 (by decide) ?_
      exact cq_iret F hr (by decide) (by decide) dX7_front_65 ⟨_, rfl, (mq_q (by unfold op_front; rw [if_pos c_10b, ec]) (by unfold ns_front; first | exact (if_pos c_24).symm | (rw [if_neg c_24, h_62]; first | rw [if_pos c_34] | rw [if_neg c_34])) (by rw [h_2]; exact cq_up_s _ _ _ _) q2 f2)⟩
  · have c_10 := cq_b0 h_7 c_10
    refine cq_aload_n F (i := 0) dX7_front_13 rfl rfl ?_
    refine cq_iconst F (v := 1) dX7_front_14 rfl ?_
    refine cq_callV F (C := RX7) (ci := 8) (kX7_fails l D cA X Bs o 1 M_2 ho) (cwV 1 F.1.2.2.2.2 gX7_front_X7_fails rfl rfl rfl hdVX7_fails ⟨Nat.le_of_ble_eq_true rfl, Nat.le_of_ble_eq_true rfl⟩) ho.kind ⟨by decide, by decide⟩ rfl rfl rfl (Nat.le_of_ble_eq_true rfl) dX7_front_15 ⟨Nat.le_of_ble_eq_true rfl, Nat.le_of_ble_eq_true rfl⟩ (cq_kI fun r_15 M_15 h_15 => ?_)
    obtain ⟨hr_15, h_15⟩ := h_15
    subst hr_15
    refine cq_iret F hr (by decide) (by decide) dX7_front_18 ⟨_, rfl, ?_⟩
    have e : op_front S u y = (1, 0, S) := if_neg c_10
    rw [e]
    exact ⟨by rw [h_15]; exact cq_up_s _ _ _ _, fun z => absurd (show (1 : Nat) = 0 from z) (by decide), q2.o h_15 (by omega) (by omega), f2.up h_15 (by omega) (by omega)⟩
theorem hdVX7_front : yX7_front.cls = RX7 ∧ yX7_front.cls ≠ "java/lang/invoke/MethodHandle" ∧ yX7_front.cls ≠ "java/lang/invoke/VarHandle" ∧ (parseMethodDescriptor yX7_front.desc).map (fun d => d.parameters.length) = some 2 := by decide +kernel
abbrev rmX7_ruleOf : Room := ({ frames := 1, cells := 0, slots := 0, locals := 22 })
set_option maxHeartbeats 4000000 in
set_option maxRecDepth 100000 in
theorem kX7_ruleOf (l : Launch) (D : va_G) (cA : Nat → ClassId) (X : cq_X) (Bs : Nat) (o B : Nat) (S : as_T) (u w : Int32) (M : cq_M) (ho : cq_isModel X o) (h : cm M o S) (hk : as_ok S B) : cq_C l yX7_ruleOf wsX7_ruleOf rmX7_ruleOf D cA X Bs [.ref o, .int u, .int w] M (cq_PI (fun r M1 => mq (op_ruleOf S u w) r M M1 o)) 0 0 := by
  refine cq_met (cc := cX7_ruleOf) (maxL := 3) (ret := (some .int)) (by decide) rfl (Nat.le_of_ble_eq_true rfl) [(0, .ref o), (1, .int u), (2, .int w)] rfl rfl ?_
  intro p9 e9 s9 m9 b9 t9 c9 F hr
  have inX7 : ∀ w ∈ wsX70, w ∈ wsX7_ruleOf := (fun w h => List.mem_cons_of_mem _ (List.mem_append_right _ h))
  have hk6 := hk.1.1
  have hk51 := hk.1.2.1
  refine cq_aload_n F (i := 0) dX7_ruleOf_0 rfl rfl ?_
  refine cq_iconst F (v := 0) dX7_ruleOf_1 rfl ?_
  refine cq_put F (C := RX7) (T := TX7) (N := 22) (ci := 8) ho.kind rfl ⟨⟨by decide, by decide⟩, rfl⟩ inX7 tyX7 tyX7_ok nmX7 6 (by decide) rfl rfl (F.1.2.2.2.2 _ (List.mem_of_getElem? (l := wsX7_ruleOf) (i := 1) (a := .fieldLink RX7 53 "CordClockModel" "thrown" "I") (by decide +kernel))) rfl (by rfl) (by rfl) dX7_ruleOf_2 (fun M_2 h_2 => ?_)
  have v_2_o1 := h.1.ne h_2 (by omega)
  have q2 := h.o h_2 (by omega) (by omega)
  have f2 : cr_fr M M_2 o 15 := cr_fr.rf.up h_2 (by omega) (by omega)
  refine cq_iload_n F (i := 1) dX7_ruleOf_5 rfl rfl ?_
  refine cq_iconst F (v := 0) dX7_ruleOf_6 rfl ?_
  refine cq_aload_n F (i := 0) dX7_ruleOf_7 rfl rfl ?_
  refine cq_getT (t := (o + 1)) F (C := RX7) (T := TX7) (N := 22) (ci := 8) ho.kind rfl ⟨⟨by decide, by decide⟩, rfl⟩ inX7 0 (by decide) rfl rfl ho.t0 (F.1.2.2.2.2 _ (List.mem_of_getElem? (l := wsX7_ruleOf) (i := 2) (a := .fieldLink RX7 7 "CordClockModel" "row" "[I") (by decide +kernel))) dX7_ruleOf_8 ?_
  refine cq_bipush F (v := 51) dX7_ruleOf_11 (by decide) ?_
  refine cq_iald_j F (j := 51) ho.k1 ho.n1 rfl ⟨(by omega), by decide⟩ dX7_ruleOf_13 ?_
  rw [v_2_o1 _ (by omega)]
  refine cq_iconst F (v := 1) dX7_ruleOf_14 rfl ?_
  refine cq_isub F dX7_ruleOf_15 ?_
  refine cq_callS F (kX7_in l D cA X Bs u 0 (nI (S_g S 51) - 1) M_2) (va_cwS 3 F.1.2.2.2.2 gX7_ruleOf_X7_in rfl rfl rfl hdVX7_in.2 ⟨Nat.le_of_ble_eq_true rfl, Nat.le_of_ble_eq_true rfl⟩) rfl (Nat.le_of_ble_eq_true rfl) dX7_ruleOf_16 ⟨Nat.le_of_ble_eq_true rfl, Nat.le_of_ble_eq_true rfl⟩ (cq_kIp fun r_16 h_16 => ?_)
  refine cq_if_ne F (tgt := 28) dX7_ruleOf_19 (by decide) (fun c_19 => ?_) (fun c_19 => ?_)
  · have c_19 := cq_b1 h_16 c_19
    have c_19b : 0 ≤ u ∧ u < nI (S_g S 51) := ⟨c_19.1, (nI_pm1 (by omega)).mp c_19.2⟩
    obtain ⟨c, hc, rfl⟩ := nI_cd (n := S_g S 51) (by omega) c_19b
    have ec : (nI c).toNatClampNeg = c := nI_clamp (by omega)
    refine cq_iload_n F (i := 2) dX7_ruleOf_28 rfl rfl ?_
    refine cq_iconst F (v := 0) dX7_ruleOf_29 rfl ?_
    refine cq_iconst F (v := 3) dX7_ruleOf_30 rfl ?_
    refine cq_callS F (kX7_in l D cA X Bs w 0 3 M_2) (va_cwS 3 F.1.2.2.2.2 gX7_ruleOf_X7_in rfl rfl rfl hdVX7_in.2 ⟨Nat.le_of_ble_eq_true rfl, Nat.le_of_ble_eq_true rfl⟩) rfl (Nat.le_of_ble_eq_true rfl) dX7_ruleOf_31 ⟨Nat.le_of_ble_eq_true rfl, Nat.le_of_ble_eq_true rfl⟩ (cq_kIp fun r_31 h_31 => ?_)
    refine cq_if_eq F (tgt := 53) dX7_ruleOf_34 (by decide) (fun c_34 => ?_) (fun c_34 => ?_)
    · have c_34 := cq_b0 h_31 c_34
      refine cq_aload_n F (i := 0) dX7_ruleOf_53 rfl rfl ?_
      refine cq_iconst F (v := 2) dX7_ruleOf_54 rfl ?_
      refine cq_callV F (C := RX7) (ci := 8) (kX7_fails l D cA X Bs o 2 M_2 ho) (cwV 1 F.1.2.2.2.2 gX7_ruleOf_X7_fails rfl rfl rfl hdVX7_fails ⟨Nat.le_of_ble_eq_true rfl, Nat.le_of_ble_eq_true rfl⟩) ho.kind ⟨by decide, by decide⟩ rfl rfl rfl (Nat.le_of_ble_eq_true rfl) dX7_ruleOf_55 ⟨Nat.le_of_ble_eq_true rfl, Nat.le_of_ble_eq_true rfl⟩ (cq_kI fun r_55 M_55 h_55 => ?_)
      obtain ⟨hr_55, h_55⟩ := h_55
      subst hr_55
      refine cq_iret F hr (by decide) (by decide) dX7_ruleOf_58 ⟨_, rfl, ?_⟩
      have e : op_ruleOf S (nI c) w = (2, 0, S) := by unfold op_ruleOf; rw [if_pos c_19b, if_neg c_34]
      rw [e]
      exact ⟨by rw [h_55]; exact cq_up_s _ _ _ _, fun z => absurd (show (2 : Nat) = 0 from z) (by decide), q2.o h_55 (by omega) (by omega), f2.up h_55 (by omega) (by omega)⟩
    · have c_34 := cq_b1 h_31 c_34
      have c_34b := c_34
      obtain ⟨d, -, hd, rfl⟩ := nI_ab (a := 0) (b := 3) (by omega) (by omega) c_34
      have ed : (nI d).toNatClampNeg = d := nI_clamp (by omega)
      refine cq_aload_n F (i := 0) dX7_ruleOf_37 rfl rfl ?_
      refine cq_getT (t := (o + 1)) F (C := RX7) (T := TX7) (N := 22) (ci := 8) ho.kind rfl ⟨⟨by decide, by decide⟩, rfl⟩ inX7 0 (by decide) rfl rfl ho.t0 (F.1.2.2.2.2 _ (List.mem_of_getElem? (l := wsX7_ruleOf) (i := 2) (a := .fieldLink RX7 7 "CordClockModel" "row" "[I") (by decide +kernel))) dX7_ruleOf_38 ?_
      refine cq_bipush F (v := 52) dX7_ruleOf_41 (by decide) ?_
      refine cq_iconst F (v := 4) dX7_ruleOf_43 rfl ?_
      refine cq_iload_n F (i := 1) dX7_ruleOf_44 rfl rfl ?_
      refine cq_imul F dX7_ruleOf_45 ?_
      rw [show (4 * nI c : Int32) = nI (4 * c) from pk_mul _ _]
      refine cq_iadd F dX7_ruleOf_46 ?_
      rw [show (52 + nI (4 * c) : Int32) = nI (52 + 4 * c) from nI_add _ _]
      refine cq_iload_n F (i := 2) dX7_ruleOf_47 rfl rfl ?_
      refine cq_iadd F dX7_ruleOf_48 ?_
      rw [show (nI (52 + 4 * c) + nI d : Int32) = nI ((52 + 4 * c) + d) from nI_add _ _]
      refine cq_iald_j F (j := ((52 + 4 * c) + d)) ho.k1 ho.n1 rfl ⟨(by omega), by decide⟩ dX7_ruleOf_49 ?_
      rw [v_2_o1 _ (by omega)]
      refine cq_goto F (tgt := 58) dX7_ruleOf_50 (by decide) ?_
      exact cq_iret F hr (by decide) (by decide) dX7_ruleOf_58 ⟨_, rfl, (mq_q (by unfold op_ruleOf; rw [if_pos c_19b, if_pos c_34b, ec, ed]) (rfl) (by rw [h_2]; exact cq_up_s _ _ _ _) q2 f2)⟩
  · have c_19 := cq_b0 h_16 c_19
    refine cq_aload_n F (i := 0) dX7_ruleOf_22 rfl rfl ?_
    refine cq_iconst F (v := 1) dX7_ruleOf_23 rfl ?_
    refine cq_callV F (C := RX7) (ci := 8) (kX7_fails l D cA X Bs o 1 M_2 ho) (cwV 1 F.1.2.2.2.2 gX7_ruleOf_X7_fails rfl rfl rfl hdVX7_fails ⟨Nat.le_of_ble_eq_true rfl, Nat.le_of_ble_eq_true rfl⟩) ho.kind ⟨by decide, by decide⟩ rfl rfl rfl (Nat.le_of_ble_eq_true rfl) dX7_ruleOf_24 ⟨Nat.le_of_ble_eq_true rfl, Nat.le_of_ble_eq_true rfl⟩ (cq_kI fun r_24 M_24 h_24 => ?_)
    obtain ⟨hr_24, h_24⟩ := h_24
    subst hr_24
    refine cq_iret F hr (by decide) (by decide) dX7_ruleOf_27 ⟨_, rfl, ?_⟩
    have e : op_ruleOf S u w = (1, 0, S) := if_neg (fun z => c_19 ⟨z.1, (nI_pm1 (by omega)).mpr z.2⟩)
    rw [e]
    exact ⟨by rw [h_24]; exact cq_up_s _ _ _ _, fun z => absurd (show (1 : Nat) = 0 from z) (by decide), q2.o h_24 (by omega) (by omega), f2.up h_24 (by omega) (by omega)⟩
theorem hdVX7_ruleOf : yX7_ruleOf.cls = RX7 ∧ yX7_ruleOf.cls ≠ "java/lang/invoke/MethodHandle" ∧ yX7_ruleOf.cls ≠ "java/lang/invoke/VarHandle" ∧ (parseMethodDescriptor yX7_ruleOf.desc).map (fun d => d.parameters.length) = some 2 := by decide +kernel
abbrev rmX7_outSet : Room := ({ frames := 3, cells := 0, slots := 0, locals := 66 })
set_option maxHeartbeats 4000000 in
set_option maxRecDepth 100000 in
theorem kX7_outSet (l : Launch) (D : va_G) (cA : Nat → ClassId) (X : cq_X) (Bs : Nat) (o : Nat) (g : Nat → Nat) (M : cq_M) (ho : cq_isModel X o) (hg : cq_nv M (o + 1) 109 g) (h6 : g 6 ≤ 4) (hq : ∀ c, c < g 6 → ns_cord g c) : cq_C l yX7_outSet wsX7_outSet rmX7_outSet D cA X Bs [.ref o] M (cq_PI (fun r M1 => r = nI (ns_oset g (g 6)) ∧ M1 = M)) 0 0 := by
  refine cq_met (cc := cX7_outSet) (maxL := 3) (ret := (some .int)) (by decide) rfl (Nat.le_of_ble_eq_true rfl) [(0, .ref o)] rfl rfl ?_
  intro p9 e9 s9 m9 b9 t9 c9 F hr
  have inX7 : ∀ w ∈ wsX70, w ∈ wsX7_outSet := (fun w h => List.mem_cons_of_mem _ (List.mem_append_right _ h))
  have loop_4 : ∀ (n_4 : Nat) (k : Nat), k ≤ g 6 → g 6 - k < n_4 → cq_V p9 l e9 rmX7_outSet s9 m9 ([.ref o] : List Value).toArray b9 t9 c9 D cA X Bs 3 0 0 (MQ b9 (cq_Q D cA X Bs (cq_PI (fun r M1 => r = nI (ns_oset g (g 6)) ∧ M1 = M))) ([.ref o] : List Value).toArray s9 0 0 (cq_A Bs)) 4 [(0, .ref o), (1, .int (nI (ns_oset g k))), (2, .int (nI k))] [] M := by
    intro n_4
    induction n_4 with
    | zero =>
      intros
      omega
    | succ n_4 ih_4 =>
      intro k hk1 hn
      have hlt := ns_oset_lt (g := g) k
      have hp9 : (2 : Nat) ^ k ≤ 16 := Nat.le_trans (Nat.pow_le_pow_right (by omega) (show k ≤ 4 by omega)) (by decide)
      have hlf : k < g 6 → ns_left g k ≤ 360 := fun z => by have := (hq k z).time; unfold ns_left; omega
      refine cq_iload_n F (i := 2) dX7_outSet_4 rfl rfl ?_
      refine cq_aload_n F (i := 0) dX7_outSet_5 rfl rfl ?_
      refine cq_getT (t := (o + 1)) F (C := RX7) (T := TX7) (N := 22) (ci := 8) ho.kind rfl ⟨⟨by decide, by decide⟩, rfl⟩ inX7 0 (by decide) rfl rfl ho.t0 (F.1.2.2.2.2 _ (List.mem_of_getElem? (l := wsX7_outSet) (i := 1) (a := .fieldLink RX7 7 "CordClockModel" "row" "[I") (by decide +kernel))) dX7_outSet_6 ?_
      refine cq_bipush F (v := 6) dX7_outSet_9 (by decide) ?_
      refine cq_iald_j F (j := 6) ho.k1 ho.n1 rfl ⟨(by omega), by decide⟩ dX7_outSet_11 ?_
      rw [hg _ (by omega)]
      refine cq_icmp_ge F (tgt := 39) dX7_outSet_12 (by decide) (fun c_12 => ?_) (fun c_12 => ?_)
      · have c_12 : (g (6)) ≤ k := (nI_b (a := (g (6))) (b := k) (by omega) (by omega)).1.mp c_12
        refine cq_iload_n F (i := 1) dX7_outSet_39 rfl rfl ?_
        exact cq_iret F hr (by decide) (by decide) dX7_outSet_40 ⟨_, rfl, ⟨(by rw [show k = g 6 by omega]), rfl⟩⟩
      · have c_12 : ¬ (g (6)) ≤ k := fun z => c_12 ((nI_b (a := (g (6))) (b := k) (by omega) (by omega)).1.mpr z)
        refine cq_iload_n F (i := 1) dX7_outSet_15 rfl rfl ?_
        refine cq_aload_n F (i := 0) dX7_outSet_16 rfl rfl ?_
        refine cq_iload_n F (i := 2) dX7_outSet_17 rfl rfl ?_
        refine cq_callV F (C := RX7) (ci := 8) (kX7_leftOf l D cA X Bs o k g M ho hg (by omega) (hq k (by omega)).1.2 (hq k (by omega)).2.2.1) (cwV 1 F.1.2.2.2.2 gX7_outSet_X7_leftOf rfl rfl rfl hdVX7_leftOf ⟨Nat.le_of_ble_eq_true rfl, Nat.le_of_ble_eq_true rfl⟩) ho.kind ⟨by decide, by decide⟩ rfl rfl rfl (Nat.le_of_ble_eq_true rfl) dX7_outSet_18 ⟨Nat.le_of_ble_eq_true rfl, Nat.le_of_ble_eq_true rfl⟩ (cq_kIp fun r_18 h_18 => ?_)
        subst h_18
        refine cq_if_ne F (tgt := 30) dX7_outSet_21 (by decide) (fun c_21 => ?_) (fun c_21 => ?_)
        · have c_21 : ¬ (ns_left g k) = 0 := fun z => c_21 ((nI_b (a := (ns_left g k)) (b := 0) (by omega) (by omega)).2.2.mpr z)
          refine cq_iconst F (v := 0) dX7_outSet_30 rfl ?_
          refine cq_ior F dX7_outSet_31 ?_
          first | rw [(nI_set k (by omega) (ns_oset g k) (by omega)).1 hlt] | rw [show (nI (ns_oset g k) ||| 0 : Int32) = nI (ns_oset g k) from Int32.or_zero]
          refine cq_istore_n F (i := 1) dX7_outSet_32 rfl (by decide) ?_
          first | rw [show ns_oset g k + 2 ^ k = ns_oset g (k + 1) from by rw [ns_oset, if_pos c_21]] | rw [show ns_oset g k = ns_oset g (k + 1) from by rw [ns_oset, if_neg c_21, Nat.add_zero]]
          refine cq_iinc F dX7_outSet_33 rfl (by decide) (fun x_33 e_33 => ?_)
          obtain rfl : x_33 = nI (k + 1) := by rw [e_33]; exact nI_1 _
          refine cq_goto F (tgt := 4) dX7_outSet_36 (by decide) ?_
          refine cq_loc (L2 := [(0, .ref o), (1, .int (nI (ns_oset g (k + 1)))), (2, .int (nI (k + 1)))]) rfl ?_
          exact ih_4 (k + 1) (by omega) (by omega)
        · have c_21 : (ns_left g k) = 0 := (nI_b (a := (ns_left g k)) (b := 0) (by omega) (by omega)).2.2.mp c_21
          refine cq_iconst F (v := 1) dX7_outSet_24 rfl ?_
          refine cq_iload_n F (i := 2) dX7_outSet_25 rfl rfl ?_
          refine cq_ishl F dX7_outSet_26 ?_
          refine cq_goto F (tgt := 31) dX7_outSet_27 (by decide) ?_
          refine cq_ior F dX7_outSet_31 ?_
          first | rw [(nI_set k (by omega) (ns_oset g k) (by omega)).1 hlt] | rw [show (nI (ns_oset g k) ||| 0 : Int32) = nI (ns_oset g k) from Int32.or_zero]
          refine cq_istore_n F (i := 1) dX7_outSet_32 rfl (by decide) ?_
          first | rw [show ns_oset g k + 2 ^ k = ns_oset g (k + 1) from by rw [ns_oset, if_pos c_21]] | rw [show ns_oset g k = ns_oset g (k + 1) from by rw [ns_oset, if_neg c_21, Nat.add_zero]]
          refine cq_iinc F dX7_outSet_33 rfl (by decide) (fun x_33 e_33 => ?_)
          obtain rfl : x_33 = nI (k + 1) := by rw [e_33]; exact nI_1 _
          refine cq_goto F (tgt := 4) dX7_outSet_36 (by decide) ?_
          refine cq_loc (L2 := [(0, .ref o), (1, .int (nI (ns_oset g (k + 1)))), (2, .int (nI (k + 1)))]) rfl ?_
          exact ih_4 (k + 1) (by omega) (by omega)
  refine cq_iconst F (v := 0) dX7_outSet_0 rfl ?_
  refine cq_istore_n F (i := 1) dX7_outSet_1 rfl (by decide) ?_
  refine cq_iconst F (v := 0) dX7_outSet_2 rfl ?_
  refine cq_istore_n F (i := 2) dX7_outSet_3 rfl (by decide) ?_
  refine cq_loc (L2 := [(0, .ref o), (1, .int (nI (ns_oset g 0))), (2, .int (nI 0))]) rfl ?_
  exact loop_4 (g 6 + 1) 0 (by omega) (by omega)
theorem hdVX7_outSet : yX7_outSet.cls = RX7 ∧ yX7_outSet.cls ≠ "java/lang/invoke/MethodHandle" ∧ yX7_outSet.cls ≠ "java/lang/invoke/VarHandle" ∧ (parseMethodDescriptor yX7_outSet.desc).map (fun d => d.parameters.length) = some 0 := by decide +kernel
abbrev rmX7_count : Room := ({ frames := 4, cells := 0, slots := 0, locals := 88 })
set_option maxHeartbeats 4000000 in
set_option maxRecDepth 100000 in
theorem kX7_count (l : Launch) (D : va_G) (cA : Nat → ClassId) (X : cq_X) (Bs : Nat) (o B : Nat) (S : as_T) (u : Int32) (M : cq_M) (ho : cq_isModel X o) (h : cm M o S) (hk : as_ok S B) : cq_C l yX7_count wsX7_count rmX7_count D cA X Bs [.ref o, .int u] M (cq_PI (fun r M1 => mq (op_count S u) r M M1 o)) 0 0 := by
  refine cq_met (cc := cX7_count) (maxL := 2) (ret := (some .int)) (by decide) rfl (Nat.le_of_ble_eq_true rfl) [(0, .ref o), (1, .int u)] rfl rfl ?_
  intro p9 e9 s9 m9 b9 t9 c9 F hr
  have inX7 : ∀ w ∈ wsX70, w ∈ wsX7_count := (fun w h => List.mem_cons_of_mem _ (List.mem_append_right _ h))
  have hk6 := hk.1.1
  have hk51 := hk.1.2.1
  refine cq_aload_n F (i := 0) dX7_count_0 rfl rfl ?_
  refine cq_iconst F (v := 0) dX7_count_1 rfl ?_
  refine cq_put F (C := RX7) (T := TX7) (N := 22) (ci := 8) ho.kind rfl ⟨⟨by decide, by decide⟩, rfl⟩ inX7 tyX7 tyX7_ok nmX7 6 (by decide) rfl rfl (F.1.2.2.2.2 _ (List.mem_of_getElem? (l := wsX7_count) (i := 1) (a := .fieldLink RX7 53 "CordClockModel" "thrown" "I") (by decide +kernel))) rfl (by rfl) (by rfl) dX7_count_2 (fun M_2 h_2 => ?_)
  have v_2_o1 := h.1.ne h_2 (by omega)
  have q2 := h.o h_2 (by omega) (by omega)
  have f2 : cr_fr M M_2 o 15 := cr_fr.rf.up h_2 (by omega) (by omega)
  refine cq_iload_n F (i := 1) dX7_count_5 rfl rfl ?_
  by_cases sw_6_0 : u = nI 0
  · subst sw_6_0
    refine cq_tableIn F (off := 62) (tgt := 68) dX7_count_6 (by decide) (by decide) (by decide) (by decide) ?_
    refine cq_aload_n F (i := 0) dX7_count_68 rfl rfl ?_
    refine cq_getT (t := (o + 1)) F (C := RX7) (T := TX7) (N := 22) (ci := 8) ho.kind rfl ⟨⟨by decide, by decide⟩, rfl⟩ inX7 0 (by decide) rfl rfl ho.t0 (F.1.2.2.2.2 _ (List.mem_of_getElem? (l := wsX7_count) (i := 2) (a := .fieldLink RX7 7 "CordClockModel" "row" "[I") (by decide +kernel))) dX7_count_69 ?_
    refine cq_iconst F (v := 0) dX7_count_72 rfl ?_
    refine cq_iald_j F (j := 0) ho.k1 ho.n1 rfl ⟨(by omega), by decide⟩ dX7_count_73 ?_
    rw [v_2_o1 _ (by omega)]
    exact cq_iret F hr (by decide) (by decide) dX7_count_74 ⟨_, rfl, (mq_q (by exact if_pos ⟨by decide, by decide⟩) (rfl) (by rw [h_2]; exact cq_up_s _ _ _ _) q2 f2)⟩
  by_cases sw_6_1 : u = nI 1
  · subst sw_6_1
    refine cq_tableIn F (off := 69) (tgt := 75) dX7_count_6 (by decide) (by decide) (by decide) (by decide) ?_
    refine cq_aload_n F (i := 0) dX7_count_75 rfl rfl ?_
    refine cq_getT (t := (o + 1)) F (C := RX7) (T := TX7) (N := 22) (ci := 8) ho.kind rfl ⟨⟨by decide, by decide⟩, rfl⟩ inX7 0 (by decide) rfl rfl ho.t0 (F.1.2.2.2.2 _ (List.mem_of_getElem? (l := wsX7_count) (i := 2) (a := .fieldLink RX7 7 "CordClockModel" "row" "[I") (by decide +kernel))) dX7_count_76 ?_
    refine cq_bipush F (v := 6) dX7_count_79 (by decide) ?_
    refine cq_iald_j F (j := 6) ho.k1 ho.n1 rfl ⟨(by omega), by decide⟩ dX7_count_81 ?_
    rw [v_2_o1 _ (by omega)]
    exact cq_iret F hr (by decide) (by decide) dX7_count_82 ⟨_, rfl, (mq_q (by exact if_pos ⟨by decide, by decide⟩) (rfl) (by rw [h_2]; exact cq_up_s _ _ _ _) q2 f2)⟩
  by_cases sw_6_2 : u = nI 2
  · subst sw_6_2
    refine cq_tableIn F (off := 77) (tgt := 83) dX7_count_6 (by decide) (by decide) (by decide) (by decide) ?_
    refine cq_aload_n F (i := 0) dX7_count_83 rfl rfl ?_
    refine cq_getT (t := (o + 1)) F (C := RX7) (T := TX7) (N := 22) (ci := 8) ho.kind rfl ⟨⟨by decide, by decide⟩, rfl⟩ inX7 0 (by decide) rfl rfl ho.t0 (F.1.2.2.2.2 _ (List.mem_of_getElem? (l := wsX7_count) (i := 2) (a := .fieldLink RX7 7 "CordClockModel" "row" "[I") (by decide +kernel))) dX7_count_84 ?_
    refine cq_bipush F (v := 51) dX7_count_87 (by decide) ?_
    refine cq_iald_j F (j := 51) ho.k1 ho.n1 rfl ⟨(by omega), by decide⟩ dX7_count_89 ?_
    rw [v_2_o1 _ (by omega)]
    exact cq_iret F hr (by decide) (by decide) dX7_count_90 ⟨_, rfl, (mq_q (by exact if_pos ⟨by decide, by decide⟩) (rfl) (by rw [h_2]; exact cq_up_s _ _ _ _) q2 f2)⟩
  by_cases sw_6_3 : u = nI 3
  · subst sw_6_3
    refine cq_tableIn F (off := 85) (tgt := 91) dX7_count_6 (by decide) (by decide) (by decide) (by decide) ?_
    refine cq_aload_n F (i := 0) dX7_count_91 rfl rfl ?_
    refine cq_callV F (C := RX7) (ci := 8) (kX7_flames l D cA X Bs o (S_g S) M_2 ho v_2_o1 hk6 (fun c2 hc2 => (hk.1.2.2.2.1 c2 hc2).2.2.2.1)) (cwV 0 F.1.2.2.2.2 gX7_count_X7_flames rfl rfl rfl hdVX7_flames ⟨Nat.le_of_ble_eq_true rfl, Nat.le_of_ble_eq_true rfl⟩) ho.kind ⟨by decide, by decide⟩ rfl rfl rfl (Nat.le_of_ble_eq_true rfl) dX7_count_92 ⟨Nat.le_of_ble_eq_true rfl, Nat.le_of_ble_eq_true rfl⟩ (cq_kIp fun r_92 h_92 => ?_)
    subst h_92
    exact cq_iret F hr (by decide) (by decide) dX7_count_95 ⟨_, rfl, (mq_q (by exact if_pos ⟨by decide, by decide⟩) (rfl) (by rw [h_2]; exact cq_up_s _ _ _ _) q2 f2)⟩
  by_cases sw_6_4 : u = nI 4
  · subst sw_6_4
    refine cq_tableIn F (off := 90) (tgt := 96) dX7_count_6 (by decide) (by decide) (by decide) (by decide) ?_
    refine cq_aload_n F (i := 0) dX7_count_96 rfl rfl ?_
    refine cq_callV F (C := RX7) (ci := 8) (kX7_outSet l D cA X Bs o (S_g S) M_2 ho v_2_o1 hk6 hk.1.2.2.2.1) (cwV 0 F.1.2.2.2.2 gX7_count_X7_outSet rfl rfl rfl hdVX7_outSet ⟨Nat.le_of_ble_eq_true rfl, Nat.le_of_ble_eq_true rfl⟩) ho.kind ⟨by decide, by decide⟩ rfl rfl rfl (Nat.le_of_ble_eq_true rfl) dX7_count_97 ⟨Nat.le_of_ble_eq_true rfl, Nat.le_of_ble_eq_true rfl⟩ (cq_kIp fun r_97 h_97 => ?_)
    subst h_97
    exact cq_iret F hr (by decide) (by decide) dX7_count_100 ⟨_, rfl, (mq_q (by exact if_pos ⟨by decide, by decide⟩) (rfl) (by rw [h_2]; exact cq_up_s _ _ _ _) q2 f2)⟩
  by_cases sw_6_5 : u = nI 5
  · subst sw_6_5
    refine cq_tableIn F (off := 95) (tgt := 101) dX7_count_6 (by decide) (by decide) (by decide) (by decide) ?_
    refine cq_aload_n F (i := 0) dX7_count_101 rfl rfl ?_
    refine cq_getT (t := (o + 1)) F (C := RX7) (T := TX7) (N := 22) (ci := 8) ho.kind rfl ⟨⟨by decide, by decide⟩, rfl⟩ inX7 0 (by decide) rfl rfl ho.t0 (F.1.2.2.2.2 _ (List.mem_of_getElem? (l := wsX7_count) (i := 2) (a := .fieldLink RX7 7 "CordClockModel" "row" "[I") (by decide +kernel))) dX7_count_102 ?_
    refine cq_iconst F (v := 1) dX7_count_105 rfl ?_
    refine cq_iald_j F (j := 1) ho.k1 ho.n1 rfl ⟨(by omega), by decide⟩ dX7_count_106 ?_
    rw [v_2_o1 _ (by omega)]
    exact cq_iret F hr (by decide) (by decide) dX7_count_107 ⟨_, rfl, (mq_q (by exact if_pos ⟨by decide, by decide⟩) (rfl) (by rw [h_2]; exact cq_up_s _ _ _ _) q2 f2)⟩
  by_cases sw_6_6 : u = nI 6
  · subst sw_6_6
    refine cq_tableIn F (off := 102) (tgt := 108) dX7_count_6 (by decide) (by decide) (by decide) (by decide) ?_
    refine cq_aload_n F (i := 0) dX7_count_108 rfl rfl ?_
    refine cq_getT (t := (o + 1)) F (C := RX7) (T := TX7) (N := 22) (ci := 8) ho.kind rfl ⟨⟨by decide, by decide⟩, rfl⟩ inX7 0 (by decide) rfl rfl ho.t0 (F.1.2.2.2.2 _ (List.mem_of_getElem? (l := wsX7_count) (i := 2) (a := .fieldLink RX7 7 "CordClockModel" "row" "[I") (by decide +kernel))) dX7_count_109 ?_
    refine cq_iconst F (v := 2) dX7_count_112 rfl ?_
    refine cq_iald_j F (j := 2) ho.k1 ho.n1 rfl ⟨(by omega), by decide⟩ dX7_count_113 ?_
    rw [v_2_o1 _ (by omega)]
    exact cq_iret F hr (by decide) (by decide) dX7_count_114 ⟨_, rfl, (mq_q (by exact if_pos ⟨by decide, by decide⟩) (rfl) (by rw [h_2]; exact cq_up_s _ _ _ _) q2 f2)⟩
  by_cases sw_6_7 : u = nI 7
  · subst sw_6_7
    refine cq_tableIn F (off := 109) (tgt := 115) dX7_count_6 (by decide) (by decide) (by decide) (by decide) ?_
    refine cq_aload_n F (i := 0) dX7_count_115 rfl rfl ?_
    refine cq_getT (t := (o + 1)) F (C := RX7) (T := TX7) (N := 22) (ci := 8) ho.kind rfl ⟨⟨by decide, by decide⟩, rfl⟩ inX7 0 (by decide) rfl rfl ho.t0 (F.1.2.2.2.2 _ (List.mem_of_getElem? (l := wsX7_count) (i := 2) (a := .fieldLink RX7 7 "CordClockModel" "row" "[I") (by decide +kernel))) dX7_count_116 ?_
    refine cq_iconst F (v := 3) dX7_count_119 rfl ?_
    refine cq_iald_j F (j := 3) ho.k1 ho.n1 rfl ⟨(by omega), by decide⟩ dX7_count_120 ?_
    rw [v_2_o1 _ (by omega)]
    exact cq_iret F hr (by decide) (by decide) dX7_count_121 ⟨_, rfl, (mq_q (by exact if_pos ⟨by decide, by decide⟩) (rfl) (by rw [h_2]; exact cq_up_s _ _ _ _) q2 f2)⟩
  by_cases sw_6_8 : u = nI 8
  · subst sw_6_8
    refine cq_tableIn F (off := 116) (tgt := 122) dX7_count_6 (by decide) (by decide) (by decide) (by decide) ?_
    refine cq_aload_n F (i := 0) dX7_count_122 rfl rfl ?_
    refine cq_getT (t := (o + 1)) F (C := RX7) (T := TX7) (N := 22) (ci := 8) ho.kind rfl ⟨⟨by decide, by decide⟩, rfl⟩ inX7 0 (by decide) rfl rfl ho.t0 (F.1.2.2.2.2 _ (List.mem_of_getElem? (l := wsX7_count) (i := 2) (a := .fieldLink RX7 7 "CordClockModel" "row" "[I") (by decide +kernel))) dX7_count_123 ?_
    refine cq_iconst F (v := 5) dX7_count_126 rfl ?_
    refine cq_iald_j F (j := 5) ho.k1 ho.n1 rfl ⟨(by omega), by decide⟩ dX7_count_127 ?_
    rw [v_2_o1 _ (by omega)]
    exact cq_iret F hr (by decide) (by decide) dX7_count_128 ⟨_, rfl, (mq_q (by exact if_pos ⟨by decide, by decide⟩) (rfl) (by rw [h_2]; exact cq_up_s _ _ _ _) q2 f2)⟩
  by_cases sw_6_9 : u = nI 9
  · subst sw_6_9
    refine cq_tableIn F (off := 123) (tgt := 129) dX7_count_6 (by decide) (by decide) (by decide) (by decide) ?_
    refine cq_aload_n F (i := 0) dX7_count_129 rfl rfl ?_
    refine cq_getT (t := (o + 1)) F (C := RX7) (T := TX7) (N := 22) (ci := 8) ho.kind rfl ⟨⟨by decide, by decide⟩, rfl⟩ inX7 0 (by decide) rfl rfl ho.t0 (F.1.2.2.2.2 _ (List.mem_of_getElem? (l := wsX7_count) (i := 2) (a := .fieldLink RX7 7 "CordClockModel" "row" "[I") (by decide +kernel))) dX7_count_130 ?_
    refine cq_bipush F (v := 84) dX7_count_133 (by decide) ?_
    refine cq_iald_j F (j := 84) ho.k1 ho.n1 rfl ⟨(by omega), by decide⟩ dX7_count_135 ?_
    rw [v_2_o1 _ (by omega)]
    exact cq_iret F hr (by decide) (by decide) dX7_count_136 ⟨_, rfl, (mq_q (by exact if_pos ⟨by decide, by decide⟩) (rfl) (by rw [h_2]; exact cq_up_s _ _ _ _) q2 f2)⟩
  by_cases sw_6_10 : u = nI 10
  · subst sw_6_10
    refine cq_tableIn F (off := 131) (tgt := 137) dX7_count_6 (by decide) (by decide) (by decide) (by decide) ?_
    refine cq_aload_n F (i := 0) dX7_count_137 rfl rfl ?_
    refine cq_getI F (C := RX7) (T := TX7) (N := 22) (ci := 8) ho.kind rfl ⟨⟨by decide, by decide⟩, rfl⟩ inX7 2 (by decide) rfl rfl (F.1.2.2.2.2 _ (List.mem_of_getElem? (l := wsX7_count) (i := 3) (a := .fieldLink RX7 61 "CordClockModel" "savedMany" "I") (by decide +kernel))) dX7_count_138 ?_
    rw [show M_2 o 2 = nI (S_n S) from (show M_2 o 2 = nI (S_n S) from (by rw [h_2, cq_up_k (by omega)]; exact h.2.1))]
    exact cq_iret F hr (by decide) (by decide) dX7_count_141 ⟨_, rfl, (mq_q (by exact if_pos ⟨by decide, by decide⟩) (rfl) (by rw [h_2]; exact cq_up_s _ _ _ _) q2 f2)⟩
  by_cases sw_6_11 : u = nI 11
  · subst sw_6_11
    refine cq_tableIn F (off := 136) (tgt := 142) dX7_count_6 (by decide) (by decide) (by decide) (by decide) ?_
    refine cq_aload_n F (i := 0) dX7_count_142 rfl rfl ?_
    refine cq_getI F (C := RX7) (T := TX7) (N := 22) (ci := 8) ho.kind rfl ⟨⟨by decide, by decide⟩, rfl⟩ inX7 8 (by decide) rfl rfl (F.1.2.2.2.2 _ (List.mem_of_getElem? (l := wsX7_count) (i := 4) (a := .fieldLink RX7 139 "CordClockModel" "length" "I") (by decide +kernel))) dX7_count_143 ?_
    rw [show M_2 o 8 = nI (S_l S) from (show M_2 o 8 = nI (S_l S) from (by rw [h_2, cq_up_k (by omega)]; exact h.2.2.2.2.1))]
    exact cq_iret F hr (by decide) (by decide) dX7_count_146 ⟨_, rfl, (mq_q (by exact if_pos ⟨by decide, by decide⟩) (rfl) (by rw [h_2]; exact cq_up_s _ _ _ _) q2 f2)⟩
  have sw_6 : u.toInt < 0 ∨ 11 < u.toInt := by
    have z_0 := sw_ne 0 (by decide) sw_6_0
    have z_1 := sw_ne 1 (by decide) sw_6_1
    have z_2 := sw_ne 2 (by decide) sw_6_2
    have z_3 := sw_ne 3 (by decide) sw_6_3
    have z_4 := sw_ne 4 (by decide) sw_6_4
    have z_5 := sw_ne 5 (by decide) sw_6_5
    have z_6 := sw_ne 6 (by decide) sw_6_6
    have z_7 := sw_ne 7 (by decide) sw_6_7
    have z_8 := sw_ne 8 (by decide) sw_6_8
    have z_9 := sw_ne 9 (by decide) sw_6_9
    have z_10 := sw_ne 10 (by decide) sw_6_10
    have z_11 := sw_ne 11 (by decide) sw_6_11
    omega
  refine cq_tableOut F (tgt := 147) dX7_count_6 sw_6 (by decide) ?_
  refine cq_aload_n F (i := 0) dX7_count_147 rfl rfl ?_
  refine cq_iconst F (v := 1) dX7_count_148 rfl ?_
  refine cq_callV F (C := RX7) (ci := 8) (kX7_fails l D cA X Bs o 1 M_2 ho) (cwV 1 F.1.2.2.2.2 gX7_count_X7_fails rfl rfl rfl hdVX7_fails ⟨Nat.le_of_ble_eq_true rfl, Nat.le_of_ble_eq_true rfl⟩) ho.kind ⟨by decide, by decide⟩ rfl rfl rfl (Nat.le_of_ble_eq_true rfl) dX7_count_149 ⟨Nat.le_of_ble_eq_true rfl, Nat.le_of_ble_eq_true rfl⟩ (cq_kI fun r_149 M_149 h_149 => ?_)
  obtain ⟨hr_149, h_149⟩ := h_149
  subst hr_149
  refine cq_iret F hr (by decide) (by decide) dX7_count_152 ⟨_, rfl, ?_⟩
  have e : op_count S u = (1, 0, S) := if_neg (sw_ge (n := 11) (by decide) sw_6)
  rw [e]
  exact ⟨by rw [h_149]; exact cq_up_s _ _ _ _, fun z => absurd (show (1 : Nat) = 0 from z) (by decide), q2.o h_149 (by omega) (by omega), f2.up h_149 (by omega) (by omega)⟩
theorem hdVX7_count : yX7_count.cls = RX7 ∧ yX7_count.cls ≠ "java/lang/invoke/MethodHandle" ∧ yX7_count.cls ≠ "java/lang/invoke/VarHandle" ∧ (parseMethodDescriptor yX7_count.desc).map (fun d => d.parameters.length) = some 1 := by decide +kernel
