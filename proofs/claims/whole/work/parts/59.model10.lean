/-! CordClockModel: what would be -/
abbrev rmX7_stepByStep : Room := ({ frames := 3, cells := 0, slots := 0, locals := 66 })
set_option maxHeartbeats 4000000 in
set_option maxRecDepth 100000 in
theorem kX7_stepByStep (l : Launch) (D : va_G) (cA : Nat → ClassId) (X : cq_X) (Bs : Nat) (o c f : Nat) (g : Nat → Nat) (M : cq_M) (ho : cq_isModel X o) (hg : cq_nv M (o + 1) 109 g) (hc : c < 4) (hq : ns_cord g c) (hf : f = 1 ∨ f = 2) : cq_C l yX7_stepByStep wsX7_stepByStep rmX7_stepByStep D cA X Bs [.ref o, .int (nI c), .int (nI f)] M (cq_PI (fun r M1 => r = nI (ns_last (ns_left g c) f) ∧ M1 = M)) 0 0 := by
  refine cq_met (cc := cX7_stepByStep) (maxL := 5) (ret := (some .int)) (by decide) rfl (Nat.le_of_ble_eq_true rfl) [(0, .ref o), (1, .int (nI c)), (2, .int (nI f))] rfl rfl ?_
  intro p9 e9 s9 m9 b9 t9 c9 F hr
  have hlt : ns_left g c ≤ 360 := by have := hq.time; unfold ns_left; omega
  have loop_9 : ∀ (n_9 : Nat) (k : Nat) (x : Int32), x.toInt = (ns_left g c : Int) - (k * f : Nat) → k * f < ns_left g c + f → (ns_left g c + 3) - k < n_9 → cq_V p9 l e9 rmX7_stepByStep s9 m9 ([.ref o, .int (nI c), .int (nI f)] : List Value).toArray b9 t9 c9 D cA X Bs 5 0 0 (MQ b9 (cq_Q D cA X Bs (cq_PI (fun r M1 => r = nI (ns_last (ns_left g c) f) ∧ M1 = M))) ([.ref o, .int (nI c), .int (nI f)] : List Value).toArray s9 0 0 (cq_A Bs)) 9 [(0, .ref o), (1, .int (nI c)), (2, .int (nI f)), (3, .int (nI k)), (4, .int x)] [] M := by
    intro n_9
    induction n_9 with
    | zero =>
      intros
      omega
    | succ n_9 ih_9 =>
      intro k x hx hkf hn
      refine cq_iload F dX7_stepByStep_9 rfl ?_
      refine cq_if_le F (tgt := 26) dX7_stepByStep_11 (by decide) (fun c_11 => ?_) (fun c_11 => ?_)
      · refine cq_iload_n F (i := 3) dX7_stepByStep_26 rfl rfl ?_
        exact cq_iret F hr (by decide) (by decide) dX7_stepByStep_27 ⟨_, rfl, ⟨by have z1 := i32_npos.mp c_11; rw [ns_last_eq hf (show ns_left g c ≤ k * f by omega) (by omega)], rfl⟩⟩
      · refine cq_iinc F dX7_stepByStep_14 rfl (by decide) (fun x_14 e_14 => ?_)
        obtain rfl : x_14 = nI (k + 1) := by rw [e_14]; exact nI_1 _
        refine cq_iload F dX7_stepByStep_17 rfl ?_
        refine cq_iload_n F (i := 2) dX7_stepByStep_19 rfl rfl ?_
        refine cq_isub F dX7_stepByStep_20 ?_
        refine cq_nmi (fun x_21 e_21 => ?_)
        refine cq_istore F dX7_stepByStep_21 (by decide) ?_
        refine cq_goto F (tgt := 9) dX7_stepByStep_23 (by decide) ?_
        refine cq_loc (L2 := [(0, .ref o), (1, .int (nI c)), (2, .int (nI f)), (3, .int (nI (k + 1))), (4, .int x_21)]) rfl ?_
        exact ih_9 (k + 1) x_21 (by
            have z1 := i32_pos.mp (Int32.not_le.mp c_11)
            have z2 : (nI f).toInt = f := nI_toInt (by omega)
            rw [e_21, i32_sub (by omega) (by omega), z2, hx, Nat.add_mul, Nat.one_mul]
            omega) (by
            have z1 := i32_pos.mp (Int32.not_le.mp c_11)
            rw [Nat.add_mul, Nat.one_mul]
            omega) (by
            have z1 := i32_pos.mp (Int32.not_le.mp c_11)
            have z2 : k ≤ k * f := Nat.le_mul_of_pos_right k (by omega)
            omega)
  refine cq_iconst F (v := 0) dX7_stepByStep_0 rfl ?_
  refine cq_istore_n F (i := 3) dX7_stepByStep_1 rfl (by decide) ?_
  refine cq_aload_n F (i := 0) dX7_stepByStep_2 rfl rfl ?_
  refine cq_iload_n F (i := 1) dX7_stepByStep_3 rfl rfl ?_
  refine cq_callV F (C := RX7) (ci := 8) (kX7_leftOf l D cA X Bs o c g M ho hg hc hq.1.2 hq.2.2.1) (cwV 1 F.1.2.2.2.2 gX7_stepByStep_X7_leftOf rfl rfl rfl hdVX7_leftOf ⟨Nat.le_of_ble_eq_true rfl, Nat.le_of_ble_eq_true rfl⟩) ho.kind ⟨by decide, by decide⟩ rfl rfl rfl (Nat.le_of_ble_eq_true rfl) dX7_stepByStep_4 ⟨Nat.le_of_ble_eq_true rfl, Nat.le_of_ble_eq_true rfl⟩ (cq_kIp fun r_4 h_4 => ?_)
  subst h_4
  refine cq_istore F dX7_stepByStep_7 (by decide) ?_
  refine cq_loc (L2 := [(0, .ref o), (1, .int (nI c)), (2, .int (nI f)), (3, .int (nI 0)), (4, .int (nI (ns_left g c)))]) rfl ?_
  exact loop_9 (ns_left g c + 4) 0 (nI (ns_left g c)) (by rw [nI_toInt (by omega), Nat.zero_mul]; omega) (by omega) (by omega)
theorem hdVX7_stepByStep : yX7_stepByStep.cls = RX7 ∧ yX7_stepByStep.cls ≠ "java/lang/invoke/MethodHandle" ∧ yX7_stepByStep.cls ≠ "java/lang/invoke/VarHandle" ∧ (parseMethodDescriptor yX7_stepByStep.desc).map (fun d => d.parameters.length) = some 2 := by decide +kernel
abbrev rmX7_lasts : Room := ({ frames := 4, cells := 0, slots := 0, locals := 90 })
set_option maxHeartbeats 4000000 in
set_option maxRecDepth 100000 in
theorem kX7_lasts (l : Launch) (D : va_G) (cA : Nat → ClassId) (X : cq_X) (Bs : Nat) (o B : Nat) (S : as_T) (u y w : Int32) (M : cq_M) (ho : cq_isModel X o) (h : cm M o S) (hk : as_ok S B) : cq_C l yX7_lasts wsX7_lasts rmX7_lasts D cA X Bs [.ref o, .int u, .int y, .int w] M (cq_PI (fun r M1 => mq (op_lasts S u y w) r M M1 o)) 0 0 := by
  refine cq_met (cc := cX7_lasts) (maxL := 4) (ret := (some .int)) (by decide) rfl (Nat.le_of_ble_eq_true rfl) [(0, .ref o), (1, .int u), (2, .int y), (3, .int w)] rfl rfl ?_
  intro p9 e9 s9 m9 b9 t9 c9 F hr
  have inX7 : ∀ w ∈ wsX70, w ∈ wsX7_lasts := (fun w h => List.mem_cons_of_mem _ (List.mem_append_right _ h))
  have hk6 := hk.1.1
  have hk51 := hk.1.2.1
  refine cq_aload_n F (i := 0) dX7_lasts_0 rfl rfl ?_
  refine cq_iconst F (v := 0) dX7_lasts_1 rfl ?_
  refine cq_put F (C := RX7) (T := TX7) (N := 22) (ci := 8) ho.kind rfl ⟨⟨by decide, by decide⟩, rfl⟩ inX7 tyX7 tyX7_ok nmX7 6 (by decide) rfl rfl (F.1.2.2.2.2 _ (List.mem_of_getElem? (l := wsX7_lasts) (i := 1) (a := .fieldLink RX7 53 "CordClockModel" "thrown" "I") (by decide +kernel))) rfl (by rfl) (by rfl) dX7_lasts_2 (fun M_2 h_2 => ?_)
  have v_2_o1 := h.1.ne h_2 (by omega)
  have q2 := h.o h_2 (by omega) (by omega)
  have f2 : cr_fr M M_2 o 15 := cr_fr.rf.up h_2 (by omega) (by omega)
  refine cq_aload_n F (i := 0) dX7_lasts_5 rfl rfl ?_
  refine cq_iload_n F (i := 1) dX7_lasts_6 rfl rfl ?_
  refine cq_callV F (C := RX7) (ci := 8) (kX7_isCord l D cA X Bs o u (S_g S) M_2 ho v_2_o1 hk.1.1) (cwV 1 F.1.2.2.2.2 gX7_lasts_X7_isCord rfl rfl rfl hdVX7_isCord ⟨Nat.le_of_ble_eq_true rfl, Nat.le_of_ble_eq_true rfl⟩) ho.kind ⟨by decide, by decide⟩ rfl rfl rfl (Nat.le_of_ble_eq_true rfl) dX7_lasts_7 ⟨Nat.le_of_ble_eq_true rfl, Nat.le_of_ble_eq_true rfl⟩ (cq_kIp fun r_7 h_7 => ?_)
  refine cq_if_ne F (tgt := 19) dX7_lasts_10 (by decide) (fun c_10 => ?_) (fun c_10 => ?_)
  · have c_10 := cq_b1 h_7 c_10
    have c_10b := c_10
    obtain ⟨c, hc, rfl⟩ := nI_cd (n := S_g S 6) (by have := hk.1.1; omega) c_10
    have ec : (nI c).toNatClampNeg = c := nI_clamp (by have := hk.1.1; omega)
    have hq := hk.1.2.2.2.1 c hc
    have hlt : ns_left (S_g S) c ≤ 360 := by have := hq.time; unfold ns_left; omega
    refine cq_iload_n F (i := 2) dX7_lasts_19 rfl rfl ?_
    refine cq_iconst F (v := 1) dX7_lasts_20 rfl ?_
    refine cq_iconst F (v := 2) dX7_lasts_21 rfl ?_
    refine cq_callS F (kX7_in l D cA X Bs y 1 2 M_2) (va_cwS 3 F.1.2.2.2.2 gX7_lasts_X7_in rfl rfl rfl hdVX7_in.2 ⟨Nat.le_of_ble_eq_true rfl, Nat.le_of_ble_eq_true rfl⟩) rfl (Nat.le_of_ble_eq_true rfl) dX7_lasts_22 ⟨Nat.le_of_ble_eq_true rfl, Nat.le_of_ble_eq_true rfl⟩ (cq_kIp fun r_22 h_22 => ?_)
    refine cq_if_eq F (tgt := 37) dX7_lasts_25 (by decide) (fun c_25 => ?_) (fun c_25 => ?_)
    · have c_25 := cq_b0 h_22 c_25
      refine cq_aload_n F (i := 0) dX7_lasts_37 rfl rfl ?_
      refine cq_iconst F (v := 2) dX7_lasts_38 rfl ?_
      refine cq_callV F (C := RX7) (ci := 8) (kX7_fails l D cA X Bs o 2 M_2 ho) (cwV 1 F.1.2.2.2.2 gX7_lasts_X7_fails rfl rfl rfl hdVX7_fails ⟨Nat.le_of_ble_eq_true rfl, Nat.le_of_ble_eq_true rfl⟩) ho.kind ⟨by decide, by decide⟩ rfl rfl rfl (Nat.le_of_ble_eq_true rfl) dX7_lasts_39 ⟨Nat.le_of_ble_eq_true rfl, Nat.le_of_ble_eq_true rfl⟩ (cq_kI fun r_39 M_39 h_39 => ?_)
      obtain ⟨hr_39, h_39⟩ := h_39
      subst hr_39
      refine cq_iret F hr (by decide) (by decide) dX7_lasts_42 ⟨_, rfl, ?_⟩
      first | rw [show op_lasts S (nI c) y w = (2, 0, S) from by unfold op_lasts; rw [if_pos c_10b, if_neg (fun z => c_25 z.1)]] | rw [show op_lasts S (nI c) (nI f) w = (2, 0, S) from by unfold op_lasts; rw [if_pos c_10b, if_neg (fun z => c_34 z.2)]]
      exact ⟨by rw [h_39]; exact cq_up_s _ _ _ _, fun z => absurd (show (2 : Nat) = 0 from z) (by decide), q2.o h_39 (by omega) (by omega), f2.up h_39 (by omega) (by omega)⟩
    · have c_25 := cq_b1 h_22 c_25
      have c_25b := c_25
      obtain ⟨f, hf1, hf2, rfl⟩ := nI_ab (a := 1) (b := 2) (by omega) (by omega) c_25
      have ef : (nI f).toNatClampNeg = f := nI_clamp (by omega)
      refine cq_iload_n F (i := 3) dX7_lasts_28 rfl rfl ?_
      refine cq_iconst F (v := 0) dX7_lasts_29 rfl ?_
      refine cq_iconst F (v := 1) dX7_lasts_30 rfl ?_
      refine cq_callS F (kX7_in l D cA X Bs w 0 1 M_2) (va_cwS 3 F.1.2.2.2.2 gX7_lasts_X7_in rfl rfl rfl hdVX7_in.2 ⟨Nat.le_of_ble_eq_true rfl, Nat.le_of_ble_eq_true rfl⟩) rfl (Nat.le_of_ble_eq_true rfl) dX7_lasts_31 ⟨Nat.le_of_ble_eq_true rfl, Nat.le_of_ble_eq_true rfl⟩ (cq_kIp fun r_31 h_31 => ?_)
      refine cq_if_ne F (tgt := 43) dX7_lasts_34 (by decide) (fun c_34 => ?_) (fun c_34 => ?_)
      · have c_34 := cq_b1 h_31 c_34
        have c_34b := c_34
        obtain ⟨v, -, hv2, rfl⟩ := nI_ab (a := 0) (b := 1) (by omega) (by omega) c_34
        refine cq_iload_n F (i := 3) dX7_lasts_43 rfl rfl ?_
        refine cq_if_ne F (tgt := 56) dX7_lasts_44 (by decide) (fun c_44 => ?_) (fun c_44 => ?_)
        · have c_44 : ¬ v = 0 := fun z => c_44 ((nI_b (a := v) (b := 0) (by omega) (by omega)).2.2.mpr z)
          refine cq_aload_n F (i := 0) dX7_lasts_56 rfl rfl ?_
          refine cq_iload_n F (i := 1) dX7_lasts_57 rfl rfl ?_
          refine cq_callV F (C := RX7) (ci := 8) (kX7_leftOf l D cA X Bs o c (S_g S) M_2 ho v_2_o1 (by omega) hq.1.2 hq.2.2.1) (cwV 1 F.1.2.2.2.2 gX7_lasts_X7_leftOf rfl rfl rfl hdVX7_leftOf ⟨Nat.le_of_ble_eq_true rfl, Nat.le_of_ble_eq_true rfl⟩) ho.kind ⟨by decide, by decide⟩ rfl rfl rfl (Nat.le_of_ble_eq_true rfl) dX7_lasts_58 ⟨Nat.le_of_ble_eq_true rfl, Nat.le_of_ble_eq_true rfl⟩ (cq_kIp fun r_58 h_58 => ?_)
          subst h_58
          refine cq_iload_n F (i := 2) dX7_lasts_61 rfl rfl ?_
          refine cq_iadd F dX7_lasts_62 ?_
          rw [show (nI (ns_left (S_g S) c) + nI f : Int32) = nI ((ns_left (S_g S) c) + f) from nI_add _ _]
          refine cq_iconst F (v := 1) dX7_lasts_63 rfl ?_
          refine cq_isub F dX7_lasts_64 ?_
          rw [show (nI ((ns_left (S_g S) c) + f) - 1 : Int32) = nI (((ns_left (S_g S) c) + f) - 1) from pk_sub (a := ((ns_left (S_g S) c) + f)) (b := 1) (by omega)]
          refine cq_iload_n F (i := 2) dX7_lasts_65 rfl rfl ?_
          refine cq_idiv F dX7_lasts_66 (fun z => absurd ((nI_eq (a := f) (b := 0) (by omega) (by omega)).mp z) (by omega)) ?_
          rw [show (nI (ns_left (S_g S) c + f - 1) / nI f : Int32) = nI ((ns_left (S_g S) c + f - 1) / f) from pk_div (by omega) (by omega) (by omega)]
          exact cq_iret F hr (by decide) (by decide) dX7_lasts_67 ⟨_, rfl, (mq_q (by unfold op_lasts; rw [if_pos c_10b, if_pos ⟨c_25b, c_34b⟩, ec, ef]) (by first | exact h_50 | rfl) (by rw [h_2]; exact cq_up_s _ _ _ _) q2 f2)⟩
        · have c_44 : v = 0 := (nI_b (a := v) (b := 0) (by omega) (by omega)).2.2.mp c_44
          refine cq_aload_n F (i := 0) dX7_lasts_47 rfl rfl ?_
          refine cq_iload_n F (i := 1) dX7_lasts_48 rfl rfl ?_
          refine cq_iload_n F (i := 2) dX7_lasts_49 rfl rfl ?_
          refine cq_callV F (C := RX7) (ci := 8) (kX7_stepByStep l D cA X Bs o c f (S_g S) M_2 ho v_2_o1 (by omega) hq (by omega)) (cwV 2 F.1.2.2.2.2 gX7_lasts_X7_stepByStep rfl rfl rfl hdVX7_stepByStep ⟨Nat.le_of_ble_eq_true rfl, Nat.le_of_ble_eq_true rfl⟩) ho.kind ⟨by decide, by decide⟩ rfl rfl rfl (Nat.le_of_ble_eq_true rfl) dX7_lasts_50 ⟨Nat.le_of_ble_eq_true rfl, Nat.le_of_ble_eq_true rfl⟩ (cq_kIp fun r_50 h_50 => ?_)
          refine cq_goto F (tgt := 67) dX7_lasts_53 (by decide) ?_
          exact cq_iret F hr (by decide) (by decide) dX7_lasts_67 ⟨_, rfl, (mq_q (by unfold op_lasts; rw [if_pos c_10b, if_pos ⟨c_25b, c_34b⟩, ec, ef]) (by first | exact h_50 | rfl) (by rw [h_2]; exact cq_up_s _ _ _ _) q2 f2)⟩
      · have c_34 := cq_b0 h_31 c_34
        refine cq_aload_n F (i := 0) dX7_lasts_37 rfl rfl ?_
        refine cq_iconst F (v := 2) dX7_lasts_38 rfl ?_
        refine cq_callV F (C := RX7) (ci := 8) (kX7_fails l D cA X Bs o 2 M_2 ho) (cwV 1 F.1.2.2.2.2 gX7_lasts_X7_fails rfl rfl rfl hdVX7_fails ⟨Nat.le_of_ble_eq_true rfl, Nat.le_of_ble_eq_true rfl⟩) ho.kind ⟨by decide, by decide⟩ rfl rfl rfl (Nat.le_of_ble_eq_true rfl) dX7_lasts_39 ⟨Nat.le_of_ble_eq_true rfl, Nat.le_of_ble_eq_true rfl⟩ (cq_kI fun r_39 M_39 h_39 => ?_)
        obtain ⟨hr_39, h_39⟩ := h_39
        subst hr_39
        refine cq_iret F hr (by decide) (by decide) dX7_lasts_42 ⟨_, rfl, ?_⟩
        first | rw [show op_lasts S (nI c) y w = (2, 0, S) from by unfold op_lasts; rw [if_pos c_10b, if_neg (fun z => c_25 z.1)]] | rw [show op_lasts S (nI c) (nI f) w = (2, 0, S) from by unfold op_lasts; rw [if_pos c_10b, if_neg (fun z => c_34 z.2)]]
        exact ⟨by rw [h_39]; exact cq_up_s _ _ _ _, fun z => absurd (show (2 : Nat) = 0 from z) (by decide), q2.o h_39 (by omega) (by omega), f2.up h_39 (by omega) (by omega)⟩
  · have c_10 := cq_b0 h_7 c_10
    refine cq_aload_n F (i := 0) dX7_lasts_13 rfl rfl ?_
    refine cq_iconst F (v := 1) dX7_lasts_14 rfl ?_
    refine cq_callV F (C := RX7) (ci := 8) (kX7_fails l D cA X Bs o 1 M_2 ho) (cwV 1 F.1.2.2.2.2 gX7_lasts_X7_fails rfl rfl rfl hdVX7_fails ⟨Nat.le_of_ble_eq_true rfl, Nat.le_of_ble_eq_true rfl⟩) ho.kind ⟨by decide, by decide⟩ rfl rfl rfl (Nat.le_of_ble_eq_true rfl) dX7_lasts_15 ⟨Nat.le_of_ble_eq_true rfl, Nat.le_of_ble_eq_true rfl⟩ (cq_kI fun r_15 M_15 h_15 => ?_)
    obtain ⟨hr_15, h_15⟩ := h_15
    subst hr_15
    refine cq_iret F hr (by decide) (by decide) dX7_lasts_18 ⟨_, rfl, ?_⟩
    have e : op_lasts S u y w = (1, 0, S) := if_neg c_10
    rw [e]
    exact ⟨by rw [h_15]; exact cq_up_s _ _ _ _, fun z => absurd (show (1 : Nat) = 0 from z) (by decide), q2.o h_15 (by omega) (by omega), f2.up h_15 (by omega) (by omega)⟩
theorem hdVX7_lasts : yX7_lasts.cls = RX7 ∧ yX7_lasts.cls ≠ "java/lang/invoke/MethodHandle" ∧ yX7_lasts.cls ≠ "java/lang/invoke/VarHandle" ∧ (parseMethodDescriptor yX7_lasts.desc).map (fun d => d.parameters.length) = some 3 := by decide +kernel
abbrev rmX7_outIn : Room := ({ frames := 6, cells := 0, slots := 0, locals := 135 })
set_option maxHeartbeats 4000000 in
set_option maxRecDepth 100000 in
theorem kX7_outIn (l : Launch) (D : va_G) (cA : Nat → ClassId) (X : cq_X) (Bs : Nat) (o B : Nat) (S : as_T) (u : Int32) (M : cq_M) (ho : cq_isModel X o) (h : cm M o S) (hk : as_ok S B) (hB : B < 1999990000) : cq_C l yX7_outIn wsX7_outIn rmX7_outIn D cA X Bs [.ref o, .int u] M (cq_PI (fun r M1 => mq (op_outIn S u) r M M1 o)) 0 0 := by
  refine cq_met (cc := cX7_outIn) (maxL := 5) (ret := (some .int)) (by decide) rfl (Nat.le_of_ble_eq_true rfl) [(0, .ref o), (1, .int u)] rfl rfl ?_
  intro p9 e9 s9 m9 b9 t9 c9 F hr
  have inX7 : ∀ w ∈ wsX70, w ∈ wsX7_outIn := (fun w h => List.mem_cons_of_mem _ (List.mem_append_right _ h))
  have hk6 := hk.1.1
  have hk51 := hk.1.2.1
  have loop_97 : ∀ (n_97 : Nat) (c k9 : Nat) (r9 : Int32) (Ma : cq_M) (k : Nat) (M3 : cq_M), u = nI c → c < S_g S 6 → Ma o 6 = nI 0 → (∀ x, x ≠ o → x ≠ o + 1 → x ≠ o + 5 → Ma x = M x) → (∀ j, j ≠ 6 → Ma o j = M o j) → (∀ j, j < 109 → Ma (o + 5) j = nI (S_g S j)) → r9 = ns_outIn (S_g S) c → k ≤ 109 → (∀ x j, M3 x j = if x = o + 1 ∧ j < k then Ma (o + 5) j else Ma x j) → 109 - k < n_97 → cq_V p9 l e9 rmX7_outIn s9 m9 ([.ref o, .int u] : List Value).toArray b9 t9 c9 D cA X Bs 5 0 0 (MQ b9 (cq_Q D cA X Bs (cq_PI (fun r M1 => mq (op_outIn S u) r M M1 o))) ([.ref o, .int u] : List Value).toArray s9 0 0 (cq_A Bs)) 97 [(0, .ref o), (1, .int (nI c)), (2, .int (nI k9)), (3, .int r9), (4, .int (nI k))] [] M3 := by
    intro n_97
    induction n_97 with
    | zero =>
      intros
      omega
    | succ n_97 ih_97 =>
      intro c k9 r9 Ma k M3 equ hcc hz6 hf1 hf2 ha hr9 hk9 h3 hn
      refine cq_iload F dX7_outIn_97 rfl ?_
      refine cq_bipush F (v := 109) dX7_outIn_99 (by decide) ?_
      refine cq_icmp_ge F (tgt := 124) dX7_outIn_101 (by decide) (fun c_101 => ?_) (fun c_101 => ?_)
      · have c_101 : 109 ≤ k := (nI_b (a := 109) (b := k) (by omega) (by omega)).1.mp c_101
        refine cq_iload_n F (i := 3) dX7_outIn_124 rfl rfl ?_
        refine cq_iret F hr (by decide) (by decide) dX7_outIn_125 ⟨_, rfl, ?_⟩
        obtain rfl : k = 109 := by omega
        subst equ
        refine mq_q (r' := ns_outIn (S_g S) c) (by unfold op_outIn; rw [if_pos (nI_cd2 (by omega) hcc), nI_clamp (by omega)]) hr9 ?_ ?_ ?_
        · rw [h3, if_neg (by omega)]; exact hz6
        · obtain ⟨a1, a2, a3, a4, a5, a6⟩ := h
          have f : ∀ x, x ≠ o → x ≠ o + 1 → x ≠ o + 5 → M3 x = M x := fun x x1 x2 x3 => by
            funext j
            rw [h3, if_neg (by omega), hf1 x x1 x2 x3]
          have fo : ∀ j, j ≠ 6 → M3 o j = M o j := fun j j1 => by rw [h3, if_neg (by omega), hf2 j j1]
          exact ⟨fun j hj => by rw [h3, if_pos ⟨rfl, hj⟩]; exact ha j hj, by rw [fo 2 (by omega)]; exact a2, fun i hi j hj => by rw [f _ (by omega) (by omega) (by omega)]; exact a3 i hi j hj, fun i hi => ⟨by rw [f _ (by omega) (by omega) (by omega)]; exact (a4 i hi).1, fun z j hj => by rw [f _ (by omega) (by omega) (by omega)]; exact (a4 i hi).2 z j hj⟩, by rw [fo 8 (by omega)]; exact a5, fun j hj => by rw [f _ (by omega) (by omega) (by omega)]; exact a6 j hj⟩
        · intro x hx
          funext j
          rw [h3, if_neg (by omega), hf1 x (by omega) (by omega) (by omega)]
      · have c_101 : ¬ 109 ≤ k := fun z => c_101 ((nI_b (a := 109) (b := k) (by omega) (by omega)).1.mpr z)
        refine cq_aload_n F (i := 0) dX7_outIn_104 rfl rfl ?_
        refine cq_getT (t := (o + 1)) F (C := RX7) (T := TX7) (N := 22) (ci := 8) ho.kind rfl ⟨⟨by decide, by decide⟩, rfl⟩ inX7 0 (by decide) rfl rfl ho.t0 (F.1.2.2.2.2 _ (List.mem_of_getElem? (l := wsX7_outIn) (i := 3) (a := .fieldLink RX7 7 "CordClockModel" "row" "[I") (by decide +kernel))) dX7_outIn_105 ?_
        refine cq_iload F dX7_outIn_108 rfl ?_
        refine cq_aload_n F (i := 0) dX7_outIn_110 rfl rfl ?_
        refine cq_getT (t := (o + 5)) F (C := RX7) (T := TX7) (N := 22) (ci := 8) ho.kind rfl ⟨⟨by decide, by decide⟩, rfl⟩ inX7 5 (by decide) rfl rfl ho.t5 (F.1.2.2.2.2 _ (List.mem_of_getElem? (l := wsX7_outIn) (i := 2) (a := .fieldLink RX7 23 "CordClockModel" "aside" "[I") (by decide +kernel))) dX7_outIn_111 ?_
        refine cq_iload F dX7_outIn_114 rfl ?_
        refine cq_iald_j F (j := k) ho.k5 ho.n5 rfl ⟨(by omega), by decide⟩ dX7_outIn_116 ?_
        refine cq_iast_j F (j := k) ho.k1 ho.n1 rfl ⟨(by omega), by decide⟩ dX7_outIn_117 (fun M_117 h_117 => ?_)
        refine cq_iinc F dX7_outIn_118 rfl (by decide) (fun x_118 e_118 => ?_)
        obtain rfl : x_118 = nI (k + 1) := by rw [e_118]; exact nI_1 _
        refine cq_goto F (tgt := 97) dX7_outIn_121 (by decide) ?_
        refine cq_loc (L2 := [(0, .ref o), (1, .int (nI c)), (2, .int (nI k9)), (3, .int r9), (4, .int (nI (k + 1)))]) rfl ?_
        exact ih_97 c k9 r9 Ma (k + 1) M_117 equ hcc hz6 hf1 hf2 ha hr9 (by omega) (fun x j => by
                have e1 : M3 (o + 5) k = Ma (o + 5) k := by rw [h3, if_neg (by omega)]
                rw [h_117, e1]
                by_cases x1 : x = o + 1
                · subst x1
                  by_cases j1 : j = k
                  · subst j1; rw [cq_up_s, if_pos ⟨rfl, by omega⟩]
                  · rw [cq_up_k j1, h3]
                    by_cases j2 : j < k
                    · rw [if_pos ⟨rfl, j2⟩, if_pos (by omega)]
                    · rw [if_neg (by omega), if_neg (by omega)]
                · rw [cq_up_a x1, h3, if_neg (fun z => x1 z.1), if_neg (fun z => x1 z.1)]) (by omega)
  have loop_47 : ∀ (n_47 : Nat) (c k : Nat) (M2 : cq_M), u = nI c → c < S_g S 6 → M2 o 6 = nI 0 → (∀ x, x ≠ o → x ≠ o + 1 → x ≠ o + 5 → M2 x = M x) → (∀ j, j ≠ 6 → M2 o j = M o j) → (∀ j, j < 109 → M2 (o + 5) j = nI (S_g S j)) → k ≤ 2000 → ns_oi (S_g S) c 0 2000 = ns_oi (S_g S) c k (2000 - k) → cq_nv M2 (o + 1) 109 (ns_steps (S_g S) k) → 2001 - k < n_47 → cq_V p9 l e9 rmX7_outIn s9 m9 ([.ref o, .int u] : List Value).toArray b9 t9 c9 D cA X Bs 5 0 0 (MQ b9 (cq_Q D cA X Bs (cq_PI (fun r M1 => mq (op_outIn S u) r M M1 o))) ([.ref o, .int u] : List Value).toArray s9 0 0 (cq_A Bs)) 47 [(0, .ref o), (1, .int (nI c)), (2, .int (nI k))] [] M2 := by
    intro n_47
    induction n_47 with
    | zero =>
      intros
      omega
    | succ n_47 ih_47 =>
      intro c k M2 equ hcc hz6 hf1 hf2 ha hk9 hoi hg2 hn
      obtain ⟨hks, e6, -, -⟩ := ns_steps_ok hk.1 k
      have hqs := hks.2.2.2.1 c (by omega)
      have hlt : ns_left (ns_steps (S_g S) k) c ≤ 360 := by have := hqs.time; unfold ns_left; omega
      have hfl9 : ns_flames (ns_steps (S_g S) k) (S_g S 6) ≤ 2 * S_g S 6 := ns_flames_le (fun c2 hc2 => (hks.2.2.2.1 c2 (by omega)).2.2.2.1)
      refine cq_iload_n F (i := 2) dX7_outIn_47 rfl rfl ?_
      refine cq_sipush F (v := 2000) dX7_outIn_48 (by decide) ?_
      refine cq_icmp_ge F (tgt := 80) dX7_outIn_51 (by decide) (fun c_51 => ?_) (fun c_51 => ?_)
      · have c_51 : 2000 ≤ k := (nI_b (a := 2000) (b := k) (by omega) (by omega)).1.mp c_51
        refine cq_aload_n F (i := 0) dX7_outIn_80 rfl rfl ?_
        refine cq_iload_n F (i := 1) dX7_outIn_81 rfl rfl ?_
        refine cq_callV F (C := RX7) (ci := 8) (kX7_leftOf l D cA X Bs o c (ns_steps (S_g S) k) M2 ho hg2 (by omega) (hks.2.2.2.1 c (by omega)).1.2 (hks.2.2.2.1 c (by omega)).2.2.1) (cwV 1 F.1.2.2.2.2 gX7_outIn_X7_leftOf rfl rfl rfl hdVX7_leftOf ⟨Nat.le_of_ble_eq_true rfl, Nat.le_of_ble_eq_true rfl⟩) ho.kind ⟨by decide, by decide⟩ rfl rfl rfl (Nat.le_of_ble_eq_true rfl) dX7_outIn_82 ⟨Nat.le_of_ble_eq_true rfl, Nat.le_of_ble_eq_true rfl⟩ (cq_kIp fun r_82 h_82 => ?_)
        subst h_82
        refine cq_if_ne F (tgt := 92) dX7_outIn_85 (by decide) (fun c_85 => ?_) (fun c_85 => ?_)
        · have c_85 : ¬ (ns_left (ns_steps (S_g S) k) c) = 0 := fun z => c_85 ((nI_b (a := (ns_left (ns_steps (S_g S) k) c)) (b := 0) (by omega) (by omega)).2.2.mpr z)
          refine cq_iconst F (v := (-1)) dX7_outIn_92 rfl ?_
          refine cq_nmi (fun x_93 e_93 => ?_)
          refine cq_istore_n F (i := 3) dX7_outIn_93 rfl (by decide) ?_
          refine cq_iconst F (v := 0) dX7_outIn_94 rfl ?_
          refine cq_istore F dX7_outIn_95 (by decide) ?_
          refine cq_loc (L2 := [(0, .ref o), (1, .int (nI c)), (2, .int (nI k)), (3, .int x_93), (4, .int (nI 0))]) rfl ?_
          exact loop_97 110 c k _ M2 0 M2 equ hcc hz6 hf1 hf2 ha (by unfold ns_outIn; rw [hoi, ns_oi_end (by omega) (by omega)]; first | exact (if_pos (by omega)).symm | (rw [e_93]; exact (if_neg (by omega)).symm)) (by omega) (fun x j => by rw [if_neg (by omega)]) (by omega)
        · have c_85 : (ns_left (ns_steps (S_g S) k) c) = 0 := (nI_b (a := (ns_left (ns_steps (S_g S) k) c)) (b := 0) (by omega) (by omega)).2.2.mp c_85
          refine cq_iload_n F (i := 2) dX7_outIn_88 rfl rfl ?_
          refine cq_goto F (tgt := 93) dX7_outIn_89 (by decide) ?_
          refine cq_istore_n F (i := 3) dX7_outIn_93 rfl (by decide) ?_
          refine cq_iconst F (v := 0) dX7_outIn_94 rfl ?_
          refine cq_istore F dX7_outIn_95 (by decide) ?_
          refine cq_loc (L2 := [(0, .ref o), (1, .int (nI c)), (2, .int (nI k)), (3, .int (nI k)), (4, .int (nI 0))]) rfl ?_
          exact loop_97 110 c k _ M2 0 M2 equ hcc hz6 hf1 hf2 ha (by unfold ns_outIn; rw [hoi, ns_oi_end (by omega) (by omega)]; first | exact (if_pos (by omega)).symm | (rw [e_93]; exact (if_neg (by omega)).symm)) (by omega) (fun x j => by rw [if_neg (by omega)]) (by omega)
      · have c_51 : ¬ 2000 ≤ k := fun z => c_51 ((nI_b (a := 2000) (b := k) (by omega) (by omega)).1.mpr z)
        refine cq_aload_n F (i := 0) dX7_outIn_54 rfl rfl ?_
        refine cq_iload_n F (i := 1) dX7_outIn_55 rfl rfl ?_
        refine cq_callV F (C := RX7) (ci := 8) (kX7_leftOf l D cA X Bs o c (ns_steps (S_g S) k) M2 ho hg2 (by omega) (hks.2.2.2.1 c (by omega)).1.2 (hks.2.2.2.1 c (by omega)).2.2.1) (cwV 1 F.1.2.2.2.2 gX7_outIn_X7_leftOf rfl rfl rfl hdVX7_leftOf ⟨Nat.le_of_ble_eq_true rfl, Nat.le_of_ble_eq_true rfl⟩) ho.kind ⟨by decide, by decide⟩ rfl rfl rfl (Nat.le_of_ble_eq_true rfl) dX7_outIn_56 ⟨Nat.le_of_ble_eq_true rfl, Nat.le_of_ble_eq_true rfl⟩ (cq_kIp fun r_56 h_56 => ?_)
        subst h_56
        refine cq_if_le F (tgt := 80) dX7_outIn_59 (by decide) (fun c_59 => ?_) (fun c_59 => ?_)
        · have c_59 : (ns_left (ns_steps (S_g S) k) c) ≤ 0 := (nI_b (a := (ns_left (ns_steps (S_g S) k) c)) (b := 0) (by omega) (by omega)).1.mp c_59
          refine cq_aload_n F (i := 0) dX7_outIn_80 rfl rfl ?_
          refine cq_iload_n F (i := 1) dX7_outIn_81 rfl rfl ?_
          refine cq_callV F (C := RX7) (ci := 8) (kX7_leftOf l D cA X Bs o c (ns_steps (S_g S) k) M2 ho hg2 (by omega) (hks.2.2.2.1 c (by omega)).1.2 (hks.2.2.2.1 c (by omega)).2.2.1) (cwV 1 F.1.2.2.2.2 gX7_outIn_X7_leftOf rfl rfl rfl hdVX7_leftOf ⟨Nat.le_of_ble_eq_true rfl, Nat.le_of_ble_eq_true rfl⟩) ho.kind ⟨by decide, by decide⟩ rfl rfl rfl (Nat.le_of_ble_eq_true rfl) dX7_outIn_82 ⟨Nat.le_of_ble_eq_true rfl, Nat.le_of_ble_eq_true rfl⟩ (cq_kIp fun r_82 h_82 => ?_)
          subst h_82
          refine cq_if_ne F (tgt := 92) dX7_outIn_85 (by decide) (fun c_85 => ?_) (fun c_85 => ?_)
          · have c_85 : ¬ (ns_left (ns_steps (S_g S) k) c) = 0 := fun z => c_85 ((nI_b (a := (ns_left (ns_steps (S_g S) k) c)) (b := 0) (by omega) (by omega)).2.2.mpr z)
            refine cq_iconst F (v := (-1)) dX7_outIn_92 rfl ?_
            refine cq_nmi (fun x_93 e_93 => ?_)
            refine cq_istore_n F (i := 3) dX7_outIn_93 rfl (by decide) ?_
            refine cq_iconst F (v := 0) dX7_outIn_94 rfl ?_
            refine cq_istore F dX7_outIn_95 (by decide) ?_
            refine cq_loc (L2 := [(0, .ref o), (1, .int (nI c)), (2, .int (nI k)), (3, .int x_93), (4, .int (nI 0))]) rfl ?_
            exact loop_97 110 c k _ M2 0 M2 equ hcc hz6 hf1 hf2 ha (by unfold ns_outIn; rw [hoi, ns_oi_end (by omega) (by omega)]; first | exact (if_pos (by omega)).symm | (rw [e_93]; exact (if_neg (by omega)).symm)) (by omega) (fun x j => by rw [if_neg (by omega)]) (by omega)
          · have c_85 : (ns_left (ns_steps (S_g S) k) c) = 0 := (nI_b (a := (ns_left (ns_steps (S_g S) k) c)) (b := 0) (by omega) (by omega)).2.2.mp c_85
            refine cq_iload_n F (i := 2) dX7_outIn_88 rfl rfl ?_
            refine cq_goto F (tgt := 93) dX7_outIn_89 (by decide) ?_
            refine cq_istore_n F (i := 3) dX7_outIn_93 rfl (by decide) ?_
            refine cq_iconst F (v := 0) dX7_outIn_94 rfl ?_
            refine cq_istore F dX7_outIn_95 (by decide) ?_
            refine cq_loc (L2 := [(0, .ref o), (1, .int (nI c)), (2, .int (nI k)), (3, .int (nI k)), (4, .int (nI 0))]) rfl ?_
            exact loop_97 110 c k _ M2 0 M2 equ hcc hz6 hf1 hf2 ha (by unfold ns_outIn; rw [hoi, ns_oi_end (by omega) (by omega)]; first | exact (if_pos (by omega)).symm | (rw [e_93]; exact (if_neg (by omega)).symm)) (by omega) (fun x j => by rw [if_neg (by omega)]) (by omega)
        · have c_59 : ¬ (ns_left (ns_steps (S_g S) k) c) ≤ 0 := fun z => c_59 ((nI_b (a := (ns_left (ns_steps (S_g S) k) c)) (b := 0) (by omega) (by omega)).1.mpr z)
          refine cq_aload_n F (i := 0) dX7_outIn_62 rfl rfl ?_
          refine cq_callV F (C := RX7) (ci := 8) (kX7_flames l D cA X Bs o (ns_steps (S_g S) k) M2 ho hg2 (by omega) (fun c2 hc2 => (hks.2.2.2.1 c2 hc2).2.2.2.1)) (cwV 0 F.1.2.2.2.2 gX7_outIn_X7_flames rfl rfl rfl hdVX7_flames ⟨Nat.le_of_ble_eq_true rfl, Nat.le_of_ble_eq_true rfl⟩) ho.kind ⟨by decide, by decide⟩ rfl rfl rfl (Nat.le_of_ble_eq_true rfl) dX7_outIn_63 ⟨Nat.le_of_ble_eq_true rfl, Nat.le_of_ble_eq_true rfl⟩ (cq_kIp fun r_63 h_63 => ?_)
          rw [e6] at h_63
          subst h_63
          refine cq_if_le F (tgt := 80) dX7_outIn_66 (by decide) (fun c_66 => ?_) (fun c_66 => ?_)
          · have c_66 : (ns_flames (ns_steps (S_g S) k) (S_g S 6)) ≤ 0 := (nI_b (a := (ns_flames (ns_steps (S_g S) k) (S_g S 6))) (b := 0) (by omega) (by omega)).1.mp c_66
            refine cq_aload_n F (i := 0) dX7_outIn_80 rfl rfl ?_
            refine cq_iload_n F (i := 1) dX7_outIn_81 rfl rfl ?_
            refine cq_callV F (C := RX7) (ci := 8) (kX7_leftOf l D cA X Bs o c (ns_steps (S_g S) k) M2 ho hg2 (by omega) (hks.2.2.2.1 c (by omega)).1.2 (hks.2.2.2.1 c (by omega)).2.2.1) (cwV 1 F.1.2.2.2.2 gX7_outIn_X7_leftOf rfl rfl rfl hdVX7_leftOf ⟨Nat.le_of_ble_eq_true rfl, Nat.le_of_ble_eq_true rfl⟩) ho.kind ⟨by decide, by decide⟩ rfl rfl rfl (Nat.le_of_ble_eq_true rfl) dX7_outIn_82 ⟨Nat.le_of_ble_eq_true rfl, Nat.le_of_ble_eq_true rfl⟩ (cq_kIp fun r_82 h_82 => ?_)
            subst h_82
            refine cq_if_ne F (tgt := 92) dX7_outIn_85 (by decide) (fun c_85 => ?_) (fun c_85 => ?_)
            · have c_85 : ¬ (ns_left (ns_steps (S_g S) k) c) = 0 := fun z => c_85 ((nI_b (a := (ns_left (ns_steps (S_g S) k) c)) (b := 0) (by omega) (by omega)).2.2.mpr z)
              refine cq_iconst F (v := (-1)) dX7_outIn_92 rfl ?_
              refine cq_nmi (fun x_93 e_93 => ?_)
              refine cq_istore_n F (i := 3) dX7_outIn_93 rfl (by decide) ?_
              refine cq_iconst F (v := 0) dX7_outIn_94 rfl ?_
              refine cq_istore F dX7_outIn_95 (by decide) ?_
              refine cq_loc (L2 := [(0, .ref o), (1, .int (nI c)), (2, .int (nI k)), (3, .int x_93), (4, .int (nI 0))]) rfl ?_
              exact loop_97 110 c k _ M2 0 M2 equ hcc hz6 hf1 hf2 ha (by unfold ns_outIn; rw [hoi, ns_oi_end (by omega) (by omega)]; first | exact (if_pos (by omega)).symm | (rw [e_93]; exact (if_neg (by omega)).symm)) (by omega) (fun x j => by rw [if_neg (by omega)]) (by omega)
            · have c_85 : (ns_left (ns_steps (S_g S) k) c) = 0 := (nI_b (a := (ns_left (ns_steps (S_g S) k) c)) (b := 0) (by omega) (by omega)).2.2.mp c_85
              refine cq_iload_n F (i := 2) dX7_outIn_88 rfl rfl ?_
              refine cq_goto F (tgt := 93) dX7_outIn_89 (by decide) ?_
              refine cq_istore_n F (i := 3) dX7_outIn_93 rfl (by decide) ?_
              refine cq_iconst F (v := 0) dX7_outIn_94 rfl ?_
              refine cq_istore F dX7_outIn_95 (by decide) ?_
              refine cq_loc (L2 := [(0, .ref o), (1, .int (nI c)), (2, .int (nI k)), (3, .int (nI k)), (4, .int (nI 0))]) rfl ?_
              exact loop_97 110 c k _ M2 0 M2 equ hcc hz6 hf1 hf2 ha (by unfold ns_outIn; rw [hoi, ns_oi_end (by omega) (by omega)]; first | exact (if_pos (by omega)).symm | (rw [e_93]; exact (if_neg (by omega)).symm)) (by omega) (fun x j => by rw [if_neg (by omega)]) (by omega)
          · have c_66 : ¬ (ns_flames (ns_steps (S_g S) k) (S_g S 6)) ≤ 0 := fun z => c_66 ((nI_b (a := (ns_flames (ns_steps (S_g S) k) (S_g S 6))) (b := 0) (by omega) (by omega)).1.mpr z)
            refine cq_aload_n F (i := 0) dX7_outIn_69 rfl rfl ?_
            refine cq_callV F (C := RX7) (ci := 8) (kX7_step l D cA X Bs o (B + k) (ns_steps (S_g S) k) M2 ho hg2 hks (by omega)) (cwV 0 F.1.2.2.2.2 gX7_outIn_X7_step rfl rfl rfl hdVX7_step ⟨Nat.le_of_ble_eq_true rfl, Nat.le_of_ble_eq_true rfl⟩) ho.kind ⟨by decide, by decide⟩ rfl rfl rfl (Nat.le_of_ble_eq_true rfl) dX7_outIn_70 ⟨Nat.le_of_ble_eq_true rfl, Nat.le_of_ble_eq_true rfl⟩ (cq_kI fun r_70 M_70 h_70 => ?_)
            refine cq_nmi (fun x_73 e_73 => ?_)
            refine cq_istore_n F (i := 3) dX7_outIn_73 rfl (by decide) ?_
            refine cq_iinc F dX7_outIn_74 rfl (by decide) (fun x_74 e_74 => ?_)
            obtain rfl : x_74 = nI (k + 1) := by rw [e_74]; exact nI_1 _
            refine cq_goto F (tgt := 47) dX7_outIn_77 (by decide) ?_
            refine cq_loc (L2 := [(0, .ref o), (1, .int (nI c)), (2, .int (nI (k + 1)))]) rfl ?_
            exact ih_47 c (k + 1) M_70 equ hcc (by rw [h_70.2.2 o (by omega)]; exact hz6) (fun x x1 x2 x3 => by rw [h_70.2.2 x x2, hf1 x x1 x2 x3]) (fun j hj => by rw [h_70.2.2 o (by omega)]; exact hf2 j hj) (fun j hj => by rw [h_70.2.2 _ (by omega)]; exact ha j hj) (by omega) (by rw [hoi, ns_oi_go (by omega) (Nat.not_le.mp c_59) (Nat.not_le.mp c_66)]) h_70.2.1 (by omega)
  have loop_21 : ∀ (n_21 : Nat) (c : Nat) (Ma : cq_M) (k : Nat) (M2 : cq_M), u = nI c → c < S_g S 6 → Ma o 6 = nI 0 → (∀ x, x ≠ o → x ≠ o + 1 → x ≠ o + 5 → Ma x = M x) → (∀ j, j ≠ 6 → Ma o j = M o j) → cq_nv Ma (o + 1) 109 (S_g S) → k ≤ 109 → (∀ x j, M2 x j = if x = o + 5 ∧ j < k then Ma (o + 1) j else Ma x j) → 109 - k < n_21 → cq_V p9 l e9 rmX7_outIn s9 m9 ([.ref o, .int u] : List Value).toArray b9 t9 c9 D cA X Bs 5 0 0 (MQ b9 (cq_Q D cA X Bs (cq_PI (fun r M1 => mq (op_outIn S u) r M M1 o))) ([.ref o, .int u] : List Value).toArray s9 0 0 (cq_A Bs)) 21 [(0, .ref o), (1, .int (nI c)), (2, .int (nI k))] [] M2 := by
    intro n_21
    induction n_21 with
    | zero =>
      intros
      omega
    | succ n_21 ih_21 =>
      intro c Ma k M2 equ hcc hz6 hf1 hf2 hg1 hk9 h2 hn
      refine cq_iload_n F (i := 2) dX7_outIn_21 rfl rfl ?_
      refine cq_bipush F (v := 109) dX7_outIn_22 (by decide) ?_
      refine cq_icmp_ge F (tgt := 45) dX7_outIn_24 (by decide) (fun c_24 => ?_) (fun c_24 => ?_)
      · have c_24 : 109 ≤ k := (nI_b (a := 109) (b := k) (by omega) (by omega)).1.mp c_24
        obtain rfl : k = 109 := by omega
        refine cq_iconst F (v := 0) dX7_outIn_45 rfl ?_
        refine cq_istore_n F (i := 2) dX7_outIn_46 rfl (by decide) ?_
        refine cq_loc (L2 := [(0, .ref o), (1, .int (nI c)), (2, .int (nI 0))]) rfl ?_
        exact loop_47 2002 c 0 M2 equ hcc (by rw [h2, if_neg (by omega)]; exact hz6) (fun x x1 x2 x3 => by funext j; rw [h2, if_neg (by omega), hf1 x x1 x2 x3]) (fun j hj => by rw [h2, if_neg (by omega), hf2 j hj]) (fun j hj => by rw [h2, if_pos ⟨rfl, hj⟩]; exact hg1 j hj) (by omega) rfl (fun j hj => by rw [h2, if_neg (by omega)]; exact hg1 j hj) (by omega)
      · have c_24 : ¬ 109 ≤ k := fun z => c_24 ((nI_b (a := 109) (b := k) (by omega) (by omega)).1.mpr z)
        refine cq_aload_n F (i := 0) dX7_outIn_27 rfl rfl ?_
        refine cq_getT (t := (o + 5)) F (C := RX7) (T := TX7) (N := 22) (ci := 8) ho.kind rfl ⟨⟨by decide, by decide⟩, rfl⟩ inX7 5 (by decide) rfl rfl ho.t5 (F.1.2.2.2.2 _ (List.mem_of_getElem? (l := wsX7_outIn) (i := 2) (a := .fieldLink RX7 23 "CordClockModel" "aside" "[I") (by decide +kernel))) dX7_outIn_28 ?_
        refine cq_iload_n F (i := 2) dX7_outIn_31 rfl rfl ?_
        refine cq_aload_n F (i := 0) dX7_outIn_32 rfl rfl ?_
        refine cq_getT (t := (o + 1)) F (C := RX7) (T := TX7) (N := 22) (ci := 8) ho.kind rfl ⟨⟨by decide, by decide⟩, rfl⟩ inX7 0 (by decide) rfl rfl ho.t0 (F.1.2.2.2.2 _ (List.mem_of_getElem? (l := wsX7_outIn) (i := 3) (a := .fieldLink RX7 7 "CordClockModel" "row" "[I") (by decide +kernel))) dX7_outIn_33 ?_
        refine cq_iload_n F (i := 2) dX7_outIn_36 rfl rfl ?_
        refine cq_iald_j F (j := k) ho.k1 ho.n1 rfl ⟨(by omega), by decide⟩ dX7_outIn_37 ?_
        refine cq_iast_j F (j := k) ho.k5 ho.n5 rfl ⟨(by omega), by decide⟩ dX7_outIn_38 (fun M_38 h_38 => ?_)
        refine cq_iinc F dX7_outIn_39 rfl (by decide) (fun x_39 e_39 => ?_)
        obtain rfl : x_39 = nI (k + 1) := by rw [e_39]; exact nI_1 _
        refine cq_goto F (tgt := 21) dX7_outIn_42 (by decide) ?_
        refine cq_loc (L2 := [(0, .ref o), (1, .int (nI c)), (2, .int (nI (k + 1)))]) rfl ?_
        exact ih_21 c Ma (k + 1) M_38 equ hcc hz6 hf1 hf2 hg1 (by omega) (fun x j => by
                have e1 : M2 (o + 1) k = Ma (o + 1) k := by rw [h2, if_neg (by omega)]
                rw [h_38, e1]
                by_cases x1 : x = o + 5
                · subst x1
                  by_cases j1 : j = k
                  · subst j1; rw [cq_up_s, if_pos ⟨rfl, by omega⟩]
                  · rw [cq_up_k j1, h2]
                    by_cases j2 : j < k
                    · rw [if_pos ⟨rfl, j2⟩, if_pos (by omega)]
                    · rw [if_neg (by omega), if_neg (by omega)]
                · rw [cq_up_a x1, h2, if_neg (fun z => x1 z.1), if_neg (fun z => x1 z.1)]) (by omega)
  refine cq_aload_n F (i := 0) dX7_outIn_0 rfl rfl ?_
  refine cq_iconst F (v := 0) dX7_outIn_1 rfl ?_
  refine cq_put F (C := RX7) (T := TX7) (N := 22) (ci := 8) ho.kind rfl ⟨⟨by decide, by decide⟩, rfl⟩ inX7 tyX7 tyX7_ok nmX7 6 (by decide) rfl rfl (F.1.2.2.2.2 _ (List.mem_of_getElem? (l := wsX7_outIn) (i := 1) (a := .fieldLink RX7 53 "CordClockModel" "thrown" "I") (by decide +kernel))) rfl (by rfl) (by rfl) dX7_outIn_2 (fun M_2 h_2 => ?_)
  have v_2_o1 := h.1.ne h_2 (by omega)
  have q2 := h.o h_2 (by omega) (by omega)
  have f2 : cr_fr M M_2 o 15 := cr_fr.rf.up h_2 (by omega) (by omega)
  refine cq_aload_n F (i := 0) dX7_outIn_5 rfl rfl ?_
  refine cq_iload_n F (i := 1) dX7_outIn_6 rfl rfl ?_
  refine cq_callV F (C := RX7) (ci := 8) (kX7_isCord l D cA X Bs o u (S_g S) M_2 ho v_2_o1 hk.1.1) (cwV 1 F.1.2.2.2.2 gX7_outIn_X7_isCord rfl rfl rfl hdVX7_isCord ⟨Nat.le_of_ble_eq_true rfl, Nat.le_of_ble_eq_true rfl⟩) ho.kind ⟨by decide, by decide⟩ rfl rfl rfl (Nat.le_of_ble_eq_true rfl) dX7_outIn_7 ⟨Nat.le_of_ble_eq_true rfl, Nat.le_of_ble_eq_true rfl⟩ (cq_kIp fun r_7 h_7 => ?_)
  refine cq_if_ne F (tgt := 19) dX7_outIn_10 (by decide) (fun c_10 => ?_) (fun c_10 => ?_)
  · have c_10 := cq_b1 h_7 c_10
    have c_10b := c_10
    obtain ⟨c, hc, rfl⟩ := nI_cd (n := S_g S 6) (by have := hk.1.1; omega) c_10
    have ec : (nI c).toNatClampNeg = c := nI_clamp (by have := hk.1.1; omega)
    refine cq_iconst F (v := 0) dX7_outIn_19 rfl ?_
    refine cq_istore_n F (i := 2) dX7_outIn_20 rfl (by decide) ?_
    refine cq_loc (L2 := [(0, .ref o), (1, .int (nI c)), (2, .int (nI 0))]) rfl ?_
    exact loop_21 110 c M_2 0 M_2 rfl hc (by rw [h_2]; exact cq_up_s _ _ _ _) (fun x x1 x2 x3 => by rw [h_2, cq_up_row x1]) (fun j hj => by rw [h_2, cq_up_k hj]) (v_2_o1) (by omega) (fun x j => by rw [if_neg (by omega)]) (by omega)
  · have c_10 := cq_b0 h_7 c_10
    refine cq_aload_n F (i := 0) dX7_outIn_13 rfl rfl ?_
    refine cq_iconst F (v := 1) dX7_outIn_14 rfl ?_
    refine cq_callV F (C := RX7) (ci := 8) (kX7_fails l D cA X Bs o 1 M_2 ho) (cwV 1 F.1.2.2.2.2 gX7_outIn_X7_fails rfl rfl rfl hdVX7_fails ⟨Nat.le_of_ble_eq_true rfl, Nat.le_of_ble_eq_true rfl⟩) ho.kind ⟨by decide, by decide⟩ rfl rfl rfl (Nat.le_of_ble_eq_true rfl) dX7_outIn_15 ⟨Nat.le_of_ble_eq_true rfl, Nat.le_of_ble_eq_true rfl⟩ (cq_kI fun r_15 M_15 h_15 => ?_)
    obtain ⟨hr_15, h_15⟩ := h_15
    subst hr_15
    refine cq_iret F hr (by decide) (by decide) dX7_outIn_18 ⟨_, rfl, ?_⟩
    have e : op_outIn S u = (1, 0, S) := if_neg c_10
    rw [e]
    exact ⟨by rw [h_15]; exact cq_up_s _ _ _ _, fun z => absurd (show (1 : Nat) = 0 from z) (by decide), q2.o h_15 (by omega) (by omega), f2.up h_15 (by omega) (by omega)⟩
theorem hdVX7_outIn : yX7_outIn.cls = RX7 ∧ yX7_outIn.cls ≠ "java/lang/invoke/MethodHandle" ∧ yX7_outIn.cls ≠ "java/lang/invoke/VarHandle" ∧ (parseMethodDescriptor yX7_outIn.desc).map (fun d => d.parameters.length) = some 1 := by decide +kernel
