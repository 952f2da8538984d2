/-! CordClockModel: more calls that change the state -/
abbrev rmX7_isSegment : Room := ({ frames := 2, cells := 0, slots := 0, locals := 43 })
set_option maxHeartbeats 4000000 in
set_option maxRecDepth 100000 in
theorem kX7_isSegment (l : Launch) (D : va_G) (cA : Nat → ClassId) (X : cq_X) (Bs : Nat) (o : Nat) (u w : Int32) (g : Nat → Nat) (M : cq_M) (ho : cq_isModel X o) (hg : cq_nv M (o + 1) 109 g) (h6 : g 6 ≤ 4) (hs : ∀ c, c < g 6 → g (7 + 11 * c) ≤ 6) : cq_C l yX7_isSegment wsX7_isSegment rmX7_isSegment D cA X Bs [.ref o, .int u, .int w] M (cq_PI (fun r M1 => r = (if (0 ≤ u ∧ u < nI (g 6)) ∧ 0 ≤ w ∧ w < nI (g (7 + 11 * u.toNatClampNeg)) then 1 else 0) ∧ M1 = M)) 0 0 := by
  refine cq_met (cc := cX7_isSegment) (maxL := 3) (ret := (some .boolean)) (by decide) rfl (Nat.le_of_ble_eq_true rfl) [(0, .ref o), (1, .int u), (2, .int w)] rfl rfl ?_
  intro p9 e9 s9 m9 b9 t9 c9 F hr
  refine cq_aload_n F (i := 0) dX7_isSegment_0 rfl rfl ?_
  refine cq_iload_n F (i := 1) dX7_isSegment_1 rfl rfl ?_
  refine cq_callV F (C := RX7) (ci := 8) (kX7_isCord l D cA X Bs o u g M ho hg h6) (cwV 1 F.1.2.2.2.2 gX7_isSegment_X7_isCord rfl rfl rfl hdVX7_isCord ⟨Nat.le_of_ble_eq_true rfl, Nat.le_of_ble_eq_true rfl⟩) ho.kind ⟨by decide, by decide⟩ rfl rfl rfl (Nat.le_of_ble_eq_true rfl) dX7_isSegment_2 ⟨Nat.le_of_ble_eq_true rfl, Nat.le_of_ble_eq_true rfl⟩ (cq_kIp fun r_2 h_2 => ?_)
  refine cq_if_eq F (tgt := 28) dX7_isSegment_5 (by decide) (fun c_5 => ?_) (fun c_5 => ?_)
  · have c_5 := cq_b0 h_2 c_5
    refine cq_iconst F (v := 0) dX7_isSegment_28 rfl ?_
    exact cq_zret F hr (by rfl) (by decide) (by decide) dX7_isSegment_29 ⟨_, rfl, ⟨by first | exact (if_neg (fun z => c_5 z.1)).symm | exact (if_pos ⟨c_5b, c_21.1, by rw [ec]; exact (nI_pm1 (by omega)).mp c_21.2⟩).symm | exact (if_neg (fun z => c_21 ⟨z.2.1, (nI_pm1 (by omega)).mpr (by have := z.2.2; rw [ec] at this; exact this)⟩)).symm, rfl⟩⟩
  · have c_5 := cq_b1 h_2 c_5
    have c_5b := c_5
    obtain ⟨c, hc, rfl⟩ := nI_cd (by omega) c_5
    have ec : (nI c).toNatClampNeg = c := nI_clamp (by omega)
    have h7 := hs c hc
    refine cq_iload_n F (i := 2) dX7_isSegment_8 rfl rfl ?_
    refine cq_iconst F (v := 0) dX7_isSegment_9 rfl ?_
    refine cq_aload_n F (i := 0) dX7_isSegment_10 rfl rfl ?_
    refine cq_iload_n F (i := 1) dX7_isSegment_11 rfl rfl ?_
    refine cq_iconst F (v := 0) dX7_isSegment_12 rfl ?_
    refine cq_callV F (C := RX7) (ci := 8) (kX7_of l D cA X Bs o c (0) (7 + 11 * c) g M ho hg (by omega) (by omega)) (cwV 2 F.1.2.2.2.2 gX7_isSegment_X7_of rfl rfl rfl hdVX7_of ⟨Nat.le_of_ble_eq_true rfl, Nat.le_of_ble_eq_true rfl⟩) ho.kind ⟨by decide, by decide⟩ rfl rfl rfl (Nat.le_of_ble_eq_true rfl) dX7_isSegment_13 ⟨Nat.le_of_ble_eq_true rfl, Nat.le_of_ble_eq_true rfl⟩ (cq_kIp fun r_13 h_13 => ?_)
    subst h_13
    refine cq_iconst F (v := 1) dX7_isSegment_16 rfl ?_
    refine cq_isub F dX7_isSegment_17 ?_
    refine cq_callS F (kX7_in l D cA X Bs w 0 (nI (g (7 + 11 * c)) - 1) M) (va_cwS 3 F.1.2.2.2.2 gX7_isSegment_X7_in rfl rfl rfl hdVX7_in.2 ⟨Nat.le_of_ble_eq_true rfl, Nat.le_of_ble_eq_true rfl⟩) rfl (Nat.le_of_ble_eq_true rfl) dX7_isSegment_18 ⟨Nat.le_of_ble_eq_true rfl, Nat.le_of_ble_eq_true rfl⟩ (cq_kIp fun r_18 h_18 => ?_)
    refine cq_if_eq F (tgt := 28) dX7_isSegment_21 (by decide) (fun c_21 => ?_) (fun c_21 => ?_)
    · have c_21 := cq_b0 h_18 c_21
      refine cq_iconst F (v := 0) dX7_isSegment_28 rfl ?_
      exact cq_zret F hr (by rfl) (by decide) (by decide) dX7_isSegment_29 ⟨_, rfl, ⟨by first | exact (if_neg (fun z => c_5 z.1)).symm | exact (if_pos ⟨c_5b, c_21.1, by rw [ec]; exact (nI_pm1 (by omega)).mp c_21.2⟩).symm | exact (if_neg (fun z => c_21 ⟨z.2.1, (nI_pm1 (by omega)).mpr (by have := z.2.2; rw [ec] at this; exact this)⟩)).symm, rfl⟩⟩
    · have c_21 := cq_b1 h_18 c_21
      refine cq_iconst F (v := 1) dX7_isSegment_24 rfl ?_
      refine cq_goto F (tgt := 29) dX7_isSegment_25 (by decide) ?_
      exact cq_zret F hr (by rfl) (by decide) (by decide) dX7_isSegment_29 ⟨_, rfl, ⟨by first | exact (if_neg (fun z => c_5 z.1)).symm | exact (if_pos ⟨c_5b, c_21.1, by rw [ec]; exact (nI_pm1 (by omega)).mp c_21.2⟩).symm | exact (if_neg (fun z => c_21 ⟨z.2.1, (nI_pm1 (by omega)).mpr (by have := z.2.2; rw [ec] at this; exact this)⟩)).symm, rfl⟩⟩
theorem hdVX7_isSegment : yX7_isSegment.cls = RX7 ∧ yX7_isSegment.cls ≠ "java/lang/invoke/MethodHandle" ∧ yX7_isSegment.cls ≠ "java/lang/invoke/VarHandle" ∧ (parseMethodDescriptor yX7_isSegment.desc).map (fun d => d.parameters.length) = some 2 := by decide +kernel
abbrev rmX7_renew : Room := ({ frames := 2, cells := 0, slots := 0, locals := 43 })
set_option maxHeartbeats 4000000 in
set_option maxRecDepth 100000 in
theorem kX7_renew (l : Launch) (D : va_G) (cA : Nat → ClassId) (X : cq_X) (Bs : Nat) (o B : Nat) (S : as_T) (u : Int32) (M : cq_M) (ho : cq_isModel X o) (h : cm M o S) (hk : as_ok S B) : cq_C l yX7_renew wsX7_renew rmX7_renew D cA X Bs [.ref o, .int u] M (cq_PI (fun r M1 => mq (op_renew S u) r M M1 o)) 0 0 := by
  refine cq_met (cc := cX7_renew) (maxL := 3) (ret := (some .int)) (by decide) rfl (Nat.le_of_ble_eq_true rfl) [(0, .ref o), (1, .int u)] rfl rfl ?_
  intro p9 e9 s9 m9 b9 t9 c9 F hr
  have inX7 : ∀ w ∈ wsX70, w ∈ wsX7_renew := (fun w h => List.mem_cons_of_mem _ (List.mem_append_right _ h))
  have hk6 := hk.1.1
  refine cq_aload_n F (i := 0) dX7_renew_0 rfl rfl ?_
  refine cq_iconst F (v := 0) dX7_renew_1 rfl ?_
  refine cq_put F (C := RX7) (T := TX7) (N := 22) (ci := 8) ho.kind rfl ⟨⟨by decide, by decide⟩, rfl⟩ inX7 tyX7 tyX7_ok nmX7 6 (by decide) rfl rfl (F.1.2.2.2.2 _ (List.mem_of_getElem? (l := wsX7_renew) (i := 1) (a := .fieldLink RX7 53 "CordClockModel" "thrown" "I") (by decide +kernel))) rfl (by rfl) (by rfl) dX7_renew_2 (fun M_2 h_2 => ?_)
  have v_2_o1 := h.1.ne h_2 (by omega)
  have q2 := h.o h_2 (by omega) (by omega)
  have f2 : cr_fr M M_2 o 15 := cr_fr.rf.up h_2 (by omega) (by omega)
  refine cq_aload_n F (i := 0) dX7_renew_5 rfl rfl ?_
  refine cq_iload_n F (i := 1) dX7_renew_6 rfl rfl ?_
  refine cq_callV F (C := RX7) (ci := 8) (kX7_isCord l D cA X Bs o u (S_g S) M_2 ho v_2_o1 hk.1.1) (cwV 1 F.1.2.2.2.2 gX7_renew_X7_isCord rfl rfl rfl hdVX7_isCord ⟨Nat.le_of_ble_eq_true rfl, Nat.le_of_ble_eq_true rfl⟩) ho.kind ⟨by decide, by decide⟩ rfl rfl rfl (Nat.le_of_ble_eq_true rfl) dX7_renew_7 ⟨Nat.le_of_ble_eq_true rfl, Nat.le_of_ble_eq_true rfl⟩ (cq_kIp fun r_7 h_7 => ?_)
  refine cq_if_ne F (tgt := 19) dX7_renew_10 (by decide) (fun c_10 => ?_) (fun c_10 => ?_)
  · have c_10 := cq_b1 h_7 c_10
    have c_10b := c_10
    obtain ⟨c, hc, rfl⟩ := nI_cd (n := S_g S 6) (by have := hk.1.1; omega) c_10
    have ec : (nI c).toNatClampNeg = c := nI_clamp (by have := hk.1.1; omega)
    have hq := hk.1.2.2.2.1 c hc
    refine cq_aload_n F (i := 0) dX7_renew_19 rfl rfl ?_
    refine cq_callV F (C := RX7) (ci := 8) (kX7_save l D cA X Bs o B S M_2 ho q2 hk) (cwV 0 F.1.2.2.2.2 gX7_renew_X7_save rfl rfl rfl hdVX7_save ⟨Nat.le_of_ble_eq_true rfl, Nat.le_of_ble_eq_true rfl⟩) ho.kind ⟨by decide, by decide⟩ rfl rfl rfl (Nat.le_of_ble_eq_true rfl) dX7_renew_20 ⟨Nat.le_of_ble_eq_true rfl, Nat.le_of_ble_eq_true rfl⟩ (cq_kV fun M_20 h_20 => ?_)
    have z6 : M_20 o 6 = nI 0 := by rw [h_20.2.2 6 (by omega), h_2]; exact cq_up_s _ _ _ _
    have fs : cr_fr M M_20 o 15 := f2.trans h_20.2.1
    have qs := h_20.1
    refine cq_aload_n F (i := 0) dX7_renew_23 rfl rfl ?_
    refine cq_iload_n F (i := 1) dX7_renew_24 rfl rfl ?_
    refine cq_callV F (C := RX7) (ci := 8) (kX7_burnedOf l D cA X Bs o c (S_g S) M_20 ho h_20.1.1 (by omega)) (cwV 1 F.1.2.2.2.2 gX7_renew_X7_burnedOf rfl rfl rfl hdVX7_burnedOf ⟨Nat.le_of_ble_eq_true rfl, Nat.le_of_ble_eq_true rfl⟩) ho.kind ⟨by decide, by decide⟩ rfl rfl rfl (Nat.le_of_ble_eq_true rfl) dX7_renew_25 ⟨Nat.le_of_ble_eq_true rfl, Nat.le_of_ble_eq_true rfl⟩ (cq_kIp fun r_25 h_25 => ?_)
    subst h_25
    refine cq_istore_n F (i := 2) dX7_renew_28 rfl (by decide) ?_
    refine cq_aload_n F (i := 0) dX7_renew_29 rfl rfl ?_
    refine cq_iload_n F (i := 1) dX7_renew_30 rfl rfl ?_
    refine cq_bipush F (v := 7) dX7_renew_31 (by decide) ?_
    refine cq_iconst F (v := 0) dX7_renew_33 rfl ?_
    refine cq_callV F (C := RX7) (ci := 8) (kX7_put l D cA X Bs o c (7) (14 + 11 * c) (nI (0)) M_20 ho (by omega) (by omega)) (cwV 3 F.1.2.2.2.2 gX7_renew_X7_put rfl rfl rfl hdVX7_put ⟨Nat.le_of_ble_eq_true rfl, Nat.le_of_ble_eq_true rfl⟩) ho.kind ⟨by decide, by decide⟩ rfl rfl rfl (Nat.le_of_ble_eq_true rfl) dX7_renew_34 ⟨Nat.le_of_ble_eq_true rfl, Nat.le_of_ble_eq_true rfl⟩ (cq_kV fun M_34 h_34 => ?_)
    refine cq_aload_n F (i := 0) dX7_renew_37 rfl rfl ?_
    refine cq_iload_n F (i := 1) dX7_renew_38 rfl rfl ?_
    refine cq_bipush F (v := 8) dX7_renew_39 (by decide) ?_
    refine cq_iconst F (v := 0) dX7_renew_41 rfl ?_
    refine cq_callV F (C := RX7) (ci := 8) (kX7_put l D cA X Bs o c (8) (15 + 11 * c) (nI (0)) M_34 ho (by omega) (by omega)) (cwV 3 F.1.2.2.2.2 gX7_renew_X7_put rfl rfl rfl hdVX7_put ⟨Nat.le_of_ble_eq_true rfl, Nat.le_of_ble_eq_true rfl⟩) ho.kind ⟨by decide, by decide⟩ rfl rfl rfl (Nat.le_of_ble_eq_true rfl) dX7_renew_42 ⟨Nat.le_of_ble_eq_true rfl, Nat.le_of_ble_eq_true rfl⟩ (cq_kV fun M_42 h_42 => ?_)
    refine cq_aload_n F (i := 0) dX7_renew_45 rfl rfl ?_
    refine cq_iload_n F (i := 1) dX7_renew_46 rfl rfl ?_
    refine cq_bipush F (v := 9) dX7_renew_47 (by decide) ?_
    refine cq_iconst F (v := 0) dX7_renew_49 rfl ?_
    refine cq_callV F (C := RX7) (ci := 8) (kX7_put l D cA X Bs o c (9) (16 + 11 * c) (nI (0)) M_42 ho (by omega) (by omega)) (cwV 3 F.1.2.2.2.2 gX7_renew_X7_put rfl rfl rfl hdVX7_put ⟨Nat.le_of_ble_eq_true rfl, Nat.le_of_ble_eq_true rfl⟩) ho.kind ⟨by decide, by decide⟩ rfl rfl rfl (Nat.le_of_ble_eq_true rfl) dX7_renew_50 ⟨Nat.le_of_ble_eq_true rfl, Nat.le_of_ble_eq_true rfl⟩ (cq_kV fun M_50 h_50 => ?_)
    refine cq_iload_n F (i := 2) dX7_renew_53 rfl rfl ?_
    refine cq_iret F hr (by decide) (by decide) dX7_renew_54 ⟨_, rfl, ?_⟩
    have e : op_renew S (nI c) = (0, nI (ns_burned (S_g S) c), so_g (so_save S) (ns_up (ns_up (ns_up (S_g S) (14 + 11 * c) 0) (15 + 11 * c) 0) (16 + 11 * c) 0)) := by unfold op_renew; rw [if_pos c_10b, ec]
    rw [e]
    exact ⟨(show M_50 o 6 = nI (0) from (by rw [h_50, cq_up_a (by omega), h_42, cq_up_a (by omega), h_34, cq_up_a (by omega)]; exact z6)), fun _ => rfl, qs.row (((h_20.1.1.up h_34).up h_42).up h_50) (((cq_only.rf.up h_34).up h_42).up h_50), fs.trans (fun x hx => (show cq_only _ M_50 (o + 1) from (((cq_only.rf.up h_34).up h_42).up h_50)) x (by omega))⟩
  · have c_10 := cq_b0 h_7 c_10
    refine cq_aload_n F (i := 0) dX7_renew_13 rfl rfl ?_
    refine cq_iconst F (v := 1) dX7_renew_14 rfl ?_
    refine cq_callV F (C := RX7) (ci := 8) (kX7_fails l D cA X Bs o 1 M_2 ho) (cwV 1 F.1.2.2.2.2 gX7_renew_X7_fails rfl rfl rfl hdVX7_fails ⟨Nat.le_of_ble_eq_true rfl, Nat.le_of_ble_eq_true rfl⟩) ho.kind ⟨by decide, by decide⟩ rfl rfl rfl (Nat.le_of_ble_eq_true rfl) dX7_renew_15 ⟨Nat.le_of_ble_eq_true rfl, Nat.le_of_ble_eq_true rfl⟩ (cq_kI fun r_15 M_15 h_15 => ?_)
    obtain ⟨hr_15, h_15⟩ := h_15
    subst hr_15
    refine cq_iret F hr (by decide) (by decide) dX7_renew_18 ⟨_, rfl, ?_⟩
    have e : op_renew S u = (1, 0, S) := if_neg c_10
    rw [e]
    exact ⟨by rw [h_15]; exact cq_up_s _ _ _ _, fun z => absurd (show (1 : Nat) = 0 from z) (by decide), q2.o h_15 (by omega) (by omega), f2.up h_15 (by omega) (by omega)⟩
theorem hdVX7_renew : yX7_renew.cls = RX7 ∧ yX7_renew.cls ≠ "java/lang/invoke/MethodHandle" ∧ yX7_renew.cls ≠ "java/lang/invoke/VarHandle" ∧ (parseMethodDescriptor yX7_renew.desc).map (fun d => d.parameters.length) = some 1 := by decide +kernel
abbrev rmX7_putOut : Room := ({ frames := 3, cells := 0, slots := 0, locals := 66 })
set_option maxHeartbeats 4000000 in
set_option maxRecDepth 100000 in
theorem kX7_putOut (l : Launch) (D : va_G) (cA : Nat → ClassId) (X : cq_X) (Bs : Nat) (o B : Nat) (S : as_T) (u y : Int32) (M : cq_M) (ho : cq_isModel X o) (h : cm M o S) (hk : as_ok S B) : cq_C l yX7_putOut wsX7_putOut rmX7_putOut D cA X Bs [.ref o, .int u, .int y] M (cq_PI (fun r M1 => mq (op_putOut S u y) r M M1 o)) 0 0 := by
  refine cq_met (cc := cX7_putOut) (maxL := 3) (ret := (some .int)) (by decide) rfl (Nat.le_of_ble_eq_true rfl) [(0, .ref o), (1, .int u), (2, .int y)] rfl rfl ?_
  intro p9 e9 s9 m9 b9 t9 c9 F hr
  have inX7 : ∀ w ∈ wsX70, w ∈ wsX7_putOut := (fun w h => List.mem_cons_of_mem _ (List.mem_append_right _ h))
  have hk6 := hk.1.1
  refine cq_aload_n F (i := 0) dX7_putOut_0 rfl rfl ?_
  refine cq_iconst F (v := 0) dX7_putOut_1 rfl ?_
  refine cq_put F (C := RX7) (T := TX7) (N := 22) (ci := 8) ho.kind rfl ⟨⟨by decide, by decide⟩, rfl⟩ inX7 tyX7 tyX7_ok nmX7 6 (by decide) rfl rfl (F.1.2.2.2.2 _ (List.mem_of_getElem? (l := wsX7_putOut) (i := 1) (a := .fieldLink RX7 53 "CordClockModel" "thrown" "I") (by decide +kernel))) rfl (by rfl) (by rfl) dX7_putOut_2 (fun M_2 h_2 => ?_)
  have v_2_o1 := h.1.ne h_2 (by omega)
  have q2 := h.o h_2 (by omega) (by omega)
  have f2 : cr_fr M M_2 o 15 := cr_fr.rf.up h_2 (by omega) (by omega)
  refine cq_aload_n F (i := 0) dX7_putOut_5 rfl rfl ?_
  refine cq_iload_n F (i := 1) dX7_putOut_6 rfl rfl ?_
  refine cq_callV F (C := RX7) (ci := 8) (kX7_isCord l D cA X Bs o u (S_g S) M_2 ho v_2_o1 hk.1.1) (cwV 1 F.1.2.2.2.2 gX7_putOut_X7_isCord rfl rfl rfl hdVX7_isCord ⟨Nat.le_of_ble_eq_true rfl, Nat.le_of_ble_eq_true rfl⟩) ho.kind ⟨by decide, by decide⟩ rfl rfl rfl (Nat.le_of_ble_eq_true rfl) dX7_putOut_7 ⟨Nat.le_of_ble_eq_true rfl, Nat.le_of_ble_eq_true rfl⟩ (cq_kIp fun r_7 h_7 => ?_)
  refine cq_if_ne F (tgt := 19) dX7_putOut_10 (by decide) (fun c_10 => ?_) (fun c_10 => ?_)
  · have c_10 := cq_b1 h_7 c_10
    have c_10b := c_10
    obtain ⟨c, hc, rfl⟩ := nI_cd (n := S_g S 6) (by have := hk.1.1; omega) c_10
    have ec : (nI c).toNatClampNeg = c := nI_clamp (by have := hk.1.1; omega)
    have hq := hk.1.2.2.2.1 c hc
    refine cq_aload_n F (i := 0) dX7_putOut_19 rfl rfl ?_
    refine cq_iload_n F (i := 1) dX7_putOut_20 rfl rfl ?_
    refine cq_bipush F (v := 9) dX7_putOut_21 (by decide) ?_
    refine cq_callV F (C := RX7) (ci := 8) (kX7_of l D cA X Bs o c (9) (16 + 11 * c) (S_g S) M_2 ho v_2_o1 (by omega) (by omega)) (cwV 2 F.1.2.2.2.2 gX7_putOut_X7_of rfl rfl rfl hdVX7_of ⟨Nat.le_of_ble_eq_true rfl, Nat.le_of_ble_eq_true rfl⟩) ho.kind ⟨by decide, by decide⟩ rfl rfl rfl (Nat.le_of_ble_eq_true rfl) dX7_putOut_23 ⟨Nat.le_of_ble_eq_true rfl, Nat.le_of_ble_eq_true rfl⟩ (cq_kIp fun r_23 h_23 => ?_)
    subst h_23
    refine cq_iload_n F (i := 2) dX7_putOut_26 rfl rfl ?_
    refine cq_callS F (kX7_side l D cA X Bs y M_2) (va_cwS 1 F.1.2.2.2.2 gX7_putOut_X7_side rfl rfl rfl hdVX7_side.2 ⟨Nat.le_of_ble_eq_true rfl, Nat.le_of_ble_eq_true rfl⟩) rfl (Nat.le_of_ble_eq_true rfl) dX7_putOut_27 ⟨Nat.le_of_ble_eq_true rfl, Nat.le_of_ble_eq_true rfl⟩ (cq_kIp fun r_27 h_27 => ?_)
    subst h_27
    refine cq_iand F dX7_putOut_30 ?_
    rw [(nI_side y hq.2.2.2.1).1]
    have hs9 : (if y = 0 then 2 * (S_g S (16 + 11 * c) / 2) else S_g S (16 + 11 * c) % 2) < 4 ∧ ((if y = 0 then 2 * (S_g S (16 + 11 * c) / 2) else S_g S (16 + 11 * c) % 2) = 0 ↔ ns_bit (S_g S (16 + 11 * c)) y = 0) := by
      have h3 := hq.2.2.2.1
      unfold ns_bit
      constructor <;> split <;> omega
    refine cq_if_ne F (tgt := 40) dX7_putOut_31 (by decide) (fun c_31 => ?_) (fun c_31 => ?_)
    · have c_31 : ¬ (if y = 0 then 2 * (S_g S (16 + 11 * c) / 2) else S_g S (16 + 11 * c) % 2) = 0 := fun z => c_31 ((nI_b (a := (if y = 0 then 2 * (S_g S (16 + 11 * c) / 2) else S_g S (16 + 11 * c) % 2)) (b := 0) (by omega) (by omega)).2.2.mpr z)
      have hkL : ns_ok (ns_up (S_g S) (16 + 11 * c) (S_g S (16 + 11 * c) - ns_side y)) B := hk.1.flame hc (by have := hq.2.2.2.1; omega) (fun z => hq.2.2.2.2 (by omega))
      have e6 : (ns_up (S_g S) (16 + 11 * c) (S_g S (16 + 11 * c) - ns_side y)) 6 = S_g S 6 := ns_up_n (by omega)
      refine cq_aload_n F (i := 0) dX7_putOut_40 rfl rfl ?_
      refine cq_callV F (C := RX7) (ci := 8) (kX7_save l D cA X Bs o B S M_2 ho q2 hk) (cwV 0 F.1.2.2.2.2 gX7_putOut_X7_save rfl rfl rfl hdVX7_save ⟨Nat.le_of_ble_eq_true rfl, Nat.le_of_ble_eq_true rfl⟩) ho.kind ⟨by decide, by decide⟩ rfl rfl rfl (Nat.le_of_ble_eq_true rfl) dX7_putOut_41 ⟨Nat.le_of_ble_eq_true rfl, Nat.le_of_ble_eq_true rfl⟩ (cq_kV fun M_41 h_41 => ?_)
      have z6 : M_41 o 6 = nI 0 := by rw [h_41.2.2 6 (by omega), h_2]; exact cq_up_s _ _ _ _
      have fs : cr_fr M M_41 o 15 := f2.trans h_41.2.1
      have qs := h_41.1
      refine cq_aload_n F (i := 0) dX7_putOut_44 rfl rfl ?_
      refine cq_iload_n F (i := 1) dX7_putOut_45 rfl rfl ?_
      refine cq_bipush F (v := 9) dX7_putOut_46 (by decide) ?_
      refine cq_aload_n F (i := 0) dX7_putOut_48 rfl rfl ?_
      refine cq_iload_n F (i := 1) dX7_putOut_49 rfl rfl ?_
      refine cq_bipush F (v := 9) dX7_putOut_50 (by decide) ?_
      refine cq_callV F (C := RX7) (ci := 8) (kX7_of l D cA X Bs o c (9) (16 + 11 * c) (S_g S) M_41 ho h_41.1.1 (by omega) (by omega)) (cwV 2 F.1.2.2.2.2 gX7_putOut_X7_of rfl rfl rfl hdVX7_of ⟨Nat.le_of_ble_eq_true rfl, Nat.le_of_ble_eq_true rfl⟩) ho.kind ⟨by decide, by decide⟩ rfl rfl rfl (Nat.le_of_ble_eq_true rfl) dX7_putOut_52 ⟨Nat.le_of_ble_eq_true rfl, Nat.le_of_ble_eq_true rfl⟩ (cq_kIp fun r_52 h_52 => ?_)
      subst h_52
      refine cq_iload_n F (i := 2) dX7_putOut_55 rfl rfl ?_
      refine cq_callS F (kX7_side l D cA X Bs y M_41) (va_cwS 1 F.1.2.2.2.2 gX7_putOut_X7_side rfl rfl rfl hdVX7_side.2 ⟨Nat.le_of_ble_eq_true rfl, Nat.le_of_ble_eq_true rfl⟩) rfl (Nat.le_of_ble_eq_true rfl) dX7_putOut_56 ⟨Nat.le_of_ble_eq_true rfl, Nat.le_of_ble_eq_true rfl⟩ (cq_kIp fun r_56 h_56 => ?_)
      subst h_56
      refine cq_isub F dX7_putOut_59 ?_
      rw [(nI_side y hq.2.2.2.1).2.2 (fun z => c_31 (hs9.2.mpr z))]
      refine cq_callV F (C := RX7) (ci := 8) (kX7_put l D cA X Bs o c (9) (16 + 11 * c) (nI (S_g S (16 + 11 * c) - ns_side y)) M_41 ho (by omega) (by omega)) (cwV 3 F.1.2.2.2.2 gX7_putOut_X7_put rfl rfl rfl hdVX7_put ⟨Nat.le_of_ble_eq_true rfl, Nat.le_of_ble_eq_true rfl⟩) ho.kind ⟨by decide, by decide⟩ rfl rfl rfl (Nat.le_of_ble_eq_true rfl) dX7_putOut_60 ⟨Nat.le_of_ble_eq_true rfl, Nat.le_of_ble_eq_true rfl⟩ (cq_kV fun M_60 h_60 => ?_)
      refine cq_aload_n F (i := 0) dX7_putOut_63 rfl rfl ?_
      refine cq_callV F (C := RX7) (ci := 8) (kX7_flames l D cA X Bs o (ns_up (S_g S) (16 + 11 * c) (S_g S (16 + 11 * c) - ns_side y)) M_60 ho (h_41.1.1.up h_60) (by rw [e6]; exact hk6) (fun c2 hc2 => (hkL.2.2.2.1 c2 hc2).2.2.2.1)) (cwV 0 F.1.2.2.2.2 gX7_putOut_X7_flames rfl rfl rfl hdVX7_flames ⟨Nat.le_of_ble_eq_true rfl, Nat.le_of_ble_eq_true rfl⟩) ho.kind ⟨by decide, by decide⟩ rfl rfl rfl (Nat.le_of_ble_eq_true rfl) dX7_putOut_64 ⟨Nat.le_of_ble_eq_true rfl, Nat.le_of_ble_eq_true rfl⟩ (cq_kIp fun r_64 h_64 => ?_)
      rw [e6] at h_64
      subst h_64
      refine cq_iret F hr (by decide) (by decide) dX7_putOut_67 ⟨_, rfl, ?_⟩
      have e : op_putOut S (nI c) y = (0, nI (ns_flames (ns_up (S_g S) (16 + 11 * c) (S_g S (16 + 11 * c) - ns_side y)) (S_g S 6)), so_g (so_save S) (ns_up (S_g S) (16 + 11 * c) (S_g S (16 + 11 * c) - ns_side y))) := by unfold op_putOut; rw [if_pos c_10b, ec, if_neg (fun z => c_31 (hs9.2.mpr z))]; rfl
      rw [e]
      exact ⟨(show M_60 o 6 = nI (0) from (by rw [h_60, cq_up_a (by omega)]; exact z6)), fun _ => rfl, qs.row (h_41.1.1.up h_60) (cq_only.rf.up h_60), fs.trans (fun x hx => (show cq_only _ M_60 (o + 1) from (cq_only.rf.up h_60)) x (by omega))⟩
    · have c_31 : (if y = 0 then 2 * (S_g S (16 + 11 * c) / 2) else S_g S (16 + 11 * c) % 2) = 0 := (nI_b (a := (if y = 0 then 2 * (S_g S (16 + 11 * c) / 2) else S_g S (16 + 11 * c) % 2)) (b := 0) (by omega) (by omega)).2.2.mp c_31
      refine cq_aload_n F (i := 0) dX7_putOut_34 rfl rfl ?_
      refine cq_iconst F (v := 2) dX7_putOut_35 rfl ?_
      refine cq_callV F (C := RX7) (ci := 8) (kX7_fails l D cA X Bs o 2 M_2 ho) (cwV 1 F.1.2.2.2.2 gX7_putOut_X7_fails rfl rfl rfl hdVX7_fails ⟨Nat.le_of_ble_eq_true rfl, Nat.le_of_ble_eq_true rfl⟩) ho.kind ⟨by decide, by decide⟩ rfl rfl rfl (Nat.le_of_ble_eq_true rfl) dX7_putOut_36 ⟨Nat.le_of_ble_eq_true rfl, Nat.le_of_ble_eq_true rfl⟩ (cq_kI fun r_36 M_36 h_36 => ?_)
      obtain ⟨hr_36, h_36⟩ := h_36
      subst hr_36
      refine cq_iret F hr (by decide) (by decide) dX7_putOut_39 ⟨_, rfl, ?_⟩
      have e : op_putOut S (nI c) y = (2, 0, S) := by unfold op_putOut; rw [if_pos c_10b, ec, if_pos (hs9.2.mp c_31)]
      rw [e]
      exact ⟨by rw [h_36]; exact cq_up_s _ _ _ _, fun z => absurd (show (2 : Nat) = 0 from z) (by decide), q2.o h_36 (by omega) (by omega), f2.up h_36 (by omega) (by omega)⟩
  · have c_10 := cq_b0 h_7 c_10
    refine cq_aload_n F (i := 0) dX7_putOut_13 rfl rfl ?_
    refine cq_iconst F (v := 1) dX7_putOut_14 rfl ?_
    refine cq_callV F (C := RX7) (ci := 8) (kX7_fails l D cA X Bs o 1 M_2 ho) (cwV 1 F.1.2.2.2.2 gX7_putOut_X7_fails rfl rfl rfl hdVX7_fails ⟨Nat.le_of_ble_eq_true rfl, Nat.le_of_ble_eq_true rfl⟩) ho.kind ⟨by decide, by decide⟩ rfl rfl rfl (Nat.le_of_ble_eq_true rfl) dX7_putOut_15 ⟨Nat.le_of_ble_eq_true rfl, Nat.le_of_ble_eq_true rfl⟩ (cq_kI fun r_15 M_15 h_15 => ?_)
    obtain ⟨hr_15, h_15⟩ := h_15
    subst hr_15
    refine cq_iret F hr (by decide) (by decide) dX7_putOut_18 ⟨_, rfl, ?_⟩
    have e : op_putOut S u y = (1, 0, S) := if_neg c_10
    rw [e]
    exact ⟨by rw [h_15]; exact cq_up_s _ _ _ _, fun z => absurd (show (1 : Nat) = 0 from z) (by decide), q2.o h_15 (by omega) (by omega), f2.up h_15 (by omega) (by omega)⟩
theorem hdVX7_putOut : yX7_putOut.cls = RX7 ∧ yX7_putOut.cls ≠ "java/lang/invoke/MethodHandle" ∧ yX7_putOut.cls ≠ "java/lang/invoke/VarHandle" ∧ (parseMethodDescriptor yX7_putOut.desc).map (fun d => d.parameters.length) = some 2 := by decide +kernel
abbrev rmX7_addRule : Room := ({ frames := 0, cells := 0, slots := 0, locals := 0 })
set_option maxHeartbeats 4000000 in
set_option maxRecDepth 100000 in
theorem kX7_addRule (l : Launch) (D : va_G) (cA : Nat → ClassId) (X : cq_X) (Bs : Nat) (o a c y : Nat) (g : Nat → Nat) (M : cq_M) (ho : cq_isModel X o) (hg : cq_nv M (o + 1) 109 g) (h51 : g 51 < 8) : cq_C l yX7_addRule wsX7_addRule rmX7_addRule D cA X Bs [.ref o, .int (nI a), .int (nI c), .int (nI y)] M (cq_PI (fun r M1 => r = nI (g 51) ∧ cq_nv M1 (o + 1) 109 (ns_newRule g a c y) ∧ cq_only M M1 (o + 1))) 0 0 := by
  refine cq_met (cc := cX7_addRule) (maxL := 5) (ret := (some .int)) (by decide) rfl (Nat.le_of_ble_eq_true rfl) [(0, .ref o), (1, .int (nI a)), (2, .int (nI c)), (3, .int (nI y))] rfl rfl ?_
  intro p9 e9 s9 m9 b9 t9 c9 F hr
  have inX7 : ∀ w ∈ wsX70, w ∈ wsX7_addRule := (fun w h => List.mem_cons_of_mem _ (List.mem_append_right _ h))
  refine cq_bipush F (v := 52) dX7_addRule_0 (by decide) ?_
  refine cq_iconst F (v := 4) dX7_addRule_2 rfl ?_
  refine cq_aload_n F (i := 0) dX7_addRule_3 rfl rfl ?_
  refine cq_getT (t := (o + 1)) F (C := RX7) (T := TX7) (N := 22) (ci := 8) ho.kind rfl ⟨⟨by decide, by decide⟩, rfl⟩ inX7 0 (by decide) rfl rfl ho.t0 (F.1.2.2.2.2 _ (List.mem_of_getElem? (l := wsX7_addRule) (i := 1) (a := .fieldLink RX7 7 "CordClockModel" "row" "[I") (by decide +kernel))) dX7_addRule_4 ?_
  refine cq_bipush F (v := 51) dX7_addRule_7 (by decide) ?_
  refine cq_iald_j F (j := 51) ho.k1 ho.n1 rfl ⟨(by omega), by decide⟩ dX7_addRule_9 ?_
  rw [hg _ (by omega)]
  refine cq_imul F dX7_addRule_10 ?_
  rw [show (4 * nI (g (51)) : Int32) = nI (4 * (g (51))) from pk_mul _ _]
  refine cq_iadd F dX7_addRule_11 ?_
  rw [show (52 + nI (4 * (g (51))) : Int32) = nI (52 + 4 * (g (51))) from nI_add _ _]
  refine cq_istore F dX7_addRule_12 (by decide) ?_
  refine cq_aload_n F (i := 0) dX7_addRule_14 rfl rfl ?_
  refine cq_getT (t := (o + 1)) F (C := RX7) (T := TX7) (N := 22) (ci := 8) ho.kind rfl ⟨⟨by decide, by decide⟩, rfl⟩ inX7 0 (by decide) rfl rfl ho.t0 (F.1.2.2.2.2 _ (List.mem_of_getElem? (l := wsX7_addRule) (i := 1) (a := .fieldLink RX7 7 "CordClockModel" "row" "[I") (by decide +kernel))) dX7_addRule_15 ?_
  refine cq_iload F dX7_addRule_18 rfl ?_
  refine cq_iload_n F (i := 1) dX7_addRule_20 rfl rfl ?_
  refine cq_iast_j F (j := (52 + 4 * (g (51)))) ho.k1 ho.n1 rfl ⟨(by omega), by decide⟩ dX7_addRule_21 (fun M_21 h_21 => ?_)
  obtain ⟨g_21, eg_21⟩ : ∃ z, z = ns_up g ((52 + 4 * (g (51)))) (a) := ⟨_, rfl⟩
  have v_21_o1 : cq_nv M_21 (o + 1) 109 g_21 := by rw [eg_21]; exact hg.up h_21
  refine cq_aload_n F (i := 0) dX7_addRule_22 rfl rfl ?_
  refine cq_getT (t := (o + 1)) F (C := RX7) (T := TX7) (N := 22) (ci := 8) ho.kind rfl ⟨⟨by decide, by decide⟩, rfl⟩ inX7 0 (by decide) rfl rfl ho.t0 (F.1.2.2.2.2 _ (List.mem_of_getElem? (l := wsX7_addRule) (i := 1) (a := .fieldLink RX7 7 "CordClockModel" "row" "[I") (by decide +kernel))) dX7_addRule_23 ?_
  refine cq_iload F dX7_addRule_26 rfl ?_
  refine cq_iconst F (v := 1) dX7_addRule_28 rfl ?_
  refine cq_iadd F dX7_addRule_29 ?_
  rw [show (nI (52 + 4 * (g (51))) + 1 : Int32) = nI ((52 + 4 * (g (51))) + 1) from nI_add _ _]
  refine cq_iload_n F (i := 2) dX7_addRule_30 rfl rfl ?_
  refine cq_iast_j F (j := 53 + 4 * g 51) ho.k1 ho.n1 (congrArg nI (by omega)) ⟨(by omega), by decide⟩ dX7_addRule_31 (fun M_31 h_31 => ?_)
  obtain ⟨g_31, eg_31⟩ : ∃ z, z = ns_up g_21 (53 + 4 * g 51) (c) := ⟨_, rfl⟩
  have v_31_o1 : cq_nv M_31 (o + 1) 109 g_31 := by rw [eg_31]; exact v_21_o1.up h_31
  refine cq_aload_n F (i := 0) dX7_addRule_32 rfl rfl ?_
  refine cq_getT (t := (o + 1)) F (C := RX7) (T := TX7) (N := 22) (ci := 8) ho.kind rfl ⟨⟨by decide, by decide⟩, rfl⟩ inX7 0 (by decide) rfl rfl ho.t0 (F.1.2.2.2.2 _ (List.mem_of_getElem? (l := wsX7_addRule) (i := 1) (a := .fieldLink RX7 7 "CordClockModel" "row" "[I") (by decide +kernel))) dX7_addRule_33 ?_
  refine cq_iload F dX7_addRule_36 rfl ?_
  refine cq_iconst F (v := 2) dX7_addRule_38 rfl ?_
  refine cq_iadd F dX7_addRule_39 ?_
  rw [show (nI (52 + 4 * (g (51))) + 2 : Int32) = nI ((52 + 4 * (g (51))) + 2) from nI_add _ _]
  refine cq_iload_n F (i := 3) dX7_addRule_40 rfl rfl ?_
  refine cq_iast_j F (j := 54 + 4 * g 51) ho.k1 ho.n1 (congrArg nI (by omega)) ⟨(by omega), by decide⟩ dX7_addRule_41 (fun M_41 h_41 => ?_)
  obtain ⟨g_41, eg_41⟩ : ∃ z, z = ns_up g_31 (54 + 4 * g 51) (y) := ⟨_, rfl⟩
  have v_41_o1 : cq_nv M_41 (o + 1) 109 g_41 := by rw [eg_41]; exact v_31_o1.up h_41
  refine cq_aload_n F (i := 0) dX7_addRule_42 rfl rfl ?_
  refine cq_getT (t := (o + 1)) F (C := RX7) (T := TX7) (N := 22) (ci := 8) ho.kind rfl ⟨⟨by decide, by decide⟩, rfl⟩ inX7 0 (by decide) rfl rfl ho.t0 (F.1.2.2.2.2 _ (List.mem_of_getElem? (l := wsX7_addRule) (i := 1) (a := .fieldLink RX7 7 "CordClockModel" "row" "[I") (by decide +kernel))) dX7_addRule_43 ?_
  refine cq_iload F dX7_addRule_46 rfl ?_
  refine cq_iconst F (v := 3) dX7_addRule_48 rfl ?_
  refine cq_iadd F dX7_addRule_49 ?_
  rw [show (nI (52 + 4 * (g (51))) + 3 : Int32) = nI ((52 + 4 * (g (51))) + 3) from nI_add _ _]
  refine cq_iconst F (v := 0) dX7_addRule_50 rfl ?_
  refine cq_iast_j F (j := 55 + 4 * g 51) ho.k1 ho.n1 (congrArg nI (by omega)) ⟨(by omega), by decide⟩ dX7_addRule_51 (fun M_51 h_51 => ?_)
  obtain ⟨g_51, eg_51⟩ : ∃ z, z = ns_up g_41 (55 + 4 * g 51) (0) := ⟨_, rfl⟩
  have v_51_o1 : cq_nv M_51 (o + 1) 109 g_51 := by rw [eg_51]; exact v_41_o1.up h_51
  refine cq_aload_n F (i := 0) dX7_addRule_52 rfl rfl ?_
  refine cq_getT (t := (o + 1)) F (C := RX7) (T := TX7) (N := 22) (ci := 8) ho.kind rfl ⟨⟨by decide, by decide⟩, rfl⟩ inX7 0 (by decide) rfl rfl ho.t0 (F.1.2.2.2.2 _ (List.mem_of_getElem? (l := wsX7_addRule) (i := 1) (a := .fieldLink RX7 7 "CordClockModel" "row" "[I") (by decide +kernel))) dX7_addRule_53 ?_
  refine cq_bipush F (v := 51) dX7_addRule_56 (by decide) ?_
  refine cq_dup2 F dX7_addRule_58 rfl rfl ?_
  refine cq_iald_j F (j := 51) ho.k1 ho.n1 rfl ⟨(by omega), by decide⟩ dX7_addRule_59 ?_
  rw [v_51_o1 _ (by omega)]
  refine cq_iconst F (v := 1) dX7_addRule_60 rfl ?_
  refine cq_iadd F dX7_addRule_61 ?_
  rw [show (nI (g_51 (51)) + 1 : Int32) = nI ((g_51 (51)) + 1) from nI_add _ _]
  refine cq_iast_j F (j := 51) ho.k1 ho.n1 rfl ⟨(by omega), by decide⟩ dX7_addRule_62 (fun M_62 h_62 => ?_)
  obtain ⟨g_62, eg_62⟩ : ∃ z, z = ns_up g_51 (51) (((g_51 (51)) + 1)) := ⟨_, rfl⟩
  have v_62_o1 : cq_nv M_62 (o + 1) 109 g_62 := by rw [eg_62]; exact v_51_o1.up h_62
  refine cq_aload_n F (i := 0) dX7_addRule_63 rfl rfl ?_
  refine cq_getT (t := (o + 1)) F (C := RX7) (T := TX7) (N := 22) (ci := 8) ho.kind rfl ⟨⟨by decide, by decide⟩, rfl⟩ inX7 0 (by decide) rfl rfl ho.t0 (F.1.2.2.2.2 _ (List.mem_of_getElem? (l := wsX7_addRule) (i := 1) (a := .fieldLink RX7 7 "CordClockModel" "row" "[I") (by decide +kernel))) dX7_addRule_64 ?_
  refine cq_bipush F (v := 51) dX7_addRule_67 (by decide) ?_
  refine cq_iald_j F (j := 51) ho.k1 ho.n1 rfl ⟨(by omega), by decide⟩ dX7_addRule_69 ?_
  rw [v_62_o1 _ (by omega)]
  refine cq_iconst F (v := 1) dX7_addRule_70 rfl ?_
  refine cq_isub F dX7_addRule_71 ?_
  rw [show (nI (g_62 (51)) - 1 : Int32) = nI ((g_62 (51)) - 1) from pk_sub (a := (g_62 (51))) (b := 1) (by rw [eg_62, ns_up_s]; omega)]
  refine cq_iret F hr (by decide) (by decide) dX7_addRule_72 ⟨_, rfl, ?_⟩
  have e1 : g_21 51 = g 51 := by rw [eg_21, ns_up_n (by omega)]
  have e2 : g_31 51 = g 51 := by rw [eg_31, ns_up_n (by omega), e1]
  have e3 : g_41 51 = g 51 := by rw [eg_41, ns_up_n (by omega), e2]
  have e4 : g_51 51 = g 51 := by rw [eg_51, ns_up_n (by omega), e3]
  refine ⟨?_, ?_, (((((cq_only.rf.up h_21).up h_31).up h_41).up h_51).up h_62)⟩
  · rw [eg_62, ns_up_s, e4]; rfl
  · have hv := v_62_o1
    rw [eg_62, e4, eg_51, eg_41, eg_31, eg_21] at hv
    exact hv
theorem hdVX7_addRule : yX7_addRule.cls = RX7 ∧ yX7_addRule.cls ≠ "java/lang/invoke/MethodHandle" ∧ yX7_addRule.cls ≠ "java/lang/invoke/VarHandle" ∧ (parseMethodDescriptor yX7_addRule.desc).map (fun d => d.parameters.length) = some 3 := by decide +kernel
abbrev rmX7_rule : Room := ({ frames := 2, cells := 0, slots := 0, locals := 43 })
set_option maxHeartbeats 4000000 in
set_option maxRecDepth 100000 in
theorem kX7_rule (l : Launch) (D : va_G) (cA : Nat → ClassId) (X : cq_X) (Bs : Nat) (o B : Nat) (S : as_T) (a u y : Int32) (M : cq_M) (ho : cq_isModel X o) (h : cm M o S) (hk : as_ok S B) : cq_C l yX7_rule wsX7_rule rmX7_rule D cA X Bs [.ref o, .int a, .int u, .int y] M (cq_PI (fun r M1 => mq (op_rule S a u y) r M M1 o)) 0 0 := by
  refine cq_met (cc := cX7_rule) (maxL := 4) (ret := (some .int)) (by decide) rfl (Nat.le_of_ble_eq_true rfl) [(0, .ref o), (1, .int a), (2, .int u), (3, .int y)] rfl rfl ?_
  intro p9 e9 s9 m9 b9 t9 c9 F hr
  have inX7 : ∀ w ∈ wsX70, w ∈ wsX7_rule := (fun w h => List.mem_cons_of_mem _ (List.mem_append_right _ h))
  have hk6 := hk.1.1
  have hk51 := hk.1.2.1
  refine cq_aload_n F (i := 0) dX7_rule_0 rfl rfl ?_
  refine cq_iconst F (v := 0) dX7_rule_1 rfl ?_
  refine cq_put F (C := RX7) (T := TX7) (N := 22) (ci := 8) ho.kind rfl ⟨⟨by decide, by decide⟩, rfl⟩ inX7 tyX7 tyX7_ok nmX7 6 (by decide) rfl rfl (F.1.2.2.2.2 _ (List.mem_of_getElem? (l := wsX7_rule) (i := 1) (a := .fieldLink RX7 53 "CordClockModel" "thrown" "I") (by decide +kernel))) rfl (by rfl) (by rfl) dX7_rule_2 (fun M_2 h_2 => ?_)
  have v_2_o1 := h.1.ne h_2 (by omega)
  have q2 := h.o h_2 (by omega) (by omega)
  have f2 : cr_fr M M_2 o 15 := cr_fr.rf.up h_2 (by omega) (by omega)
  refine cq_aload_n F (i := 0) dX7_rule_5 rfl rfl ?_
  refine cq_iload_n F (i := 1) dX7_rule_6 rfl rfl ?_
  refine cq_callV F (C := RX7) (ci := 8) (kX7_isCord l D cA X Bs o a (S_g S) M_2 ho v_2_o1 hk.1.1) (cwV 1 F.1.2.2.2.2 gX7_rule_X7_isCord rfl rfl rfl hdVX7_isCord ⟨Nat.le_of_ble_eq_true rfl, Nat.le_of_ble_eq_true rfl⟩) ho.kind ⟨by decide, by decide⟩ rfl rfl rfl (Nat.le_of_ble_eq_true rfl) dX7_rule_7 ⟨Nat.le_of_ble_eq_true rfl, Nat.le_of_ble_eq_true rfl⟩ (cq_kIp fun r_7 h_7 => ?_)
  refine cq_if_eq F (tgt := 21) dX7_rule_10 (by decide) (fun c_10 => ?_) (fun c_10 => ?_)
  · have c_10 := cq_b0 h_7 c_10
    refine cq_aload_n F (i := 0) dX7_rule_21 rfl rfl ?_
    refine cq_iconst F (v := 1) dX7_rule_22 rfl ?_
    refine cq_callV F (C := RX7) (ci := 8) (kX7_fails l D cA X Bs o 1 M_2 ho) (cwV 1 F.1.2.2.2.2 gX7_rule_X7_fails rfl rfl rfl hdVX7_fails ⟨Nat.le_of_ble_eq_true rfl, Nat.le_of_ble_eq_true rfl⟩) ho.kind ⟨by decide, by decide⟩ rfl rfl rfl (Nat.le_of_ble_eq_true rfl) dX7_rule_23 ⟨Nat.le_of_ble_eq_true rfl, Nat.le_of_ble_eq_true rfl⟩ (cq_kI fun r_23 M_23 h_23 => ?_)
    obtain ⟨hr_23, h_23⟩ := h_23
    subst hr_23
    refine cq_iret F hr (by decide) (by decide) dX7_rule_26 ⟨_, rfl, ?_⟩
    first | rw [show op_rule S a u y = (1, 0, S) from if_neg (fun z => c_10 z.1)] | rw [show op_rule S (nI c) u y = (1, 0, S) from if_neg (fun z => c_18 z.2)]
    exact ⟨by rw [h_23]; exact cq_up_s _ _ _ _, fun z => absurd (show (1 : Nat) = 0 from z) (by decide), q2.o h_23 (by omega) (by omega), f2.up h_23 (by omega) (by omega)⟩
  · have c_10 := cq_b1 h_7 c_10
    have c_10b := c_10
    obtain ⟨c, hc, rfl⟩ := nI_cd (n := S_g S 6) (by have := hk.1.1; omega) c_10
    have ec : (nI c).toNatClampNeg = c := nI_clamp (by have := hk.1.1; omega)
    refine cq_aload_n F (i := 0) dX7_rule_13 rfl rfl ?_
    refine cq_iload_n F (i := 2) dX7_rule_14 rfl rfl ?_
    refine cq_callV F (C := RX7) (ci := 8) (kX7_isCord l D cA X Bs o u (S_g S) M_2 ho v_2_o1 hk.1.1) (cwV 1 F.1.2.2.2.2 gX7_rule_X7_isCord rfl rfl rfl hdVX7_isCord ⟨Nat.le_of_ble_eq_true rfl, Nat.le_of_ble_eq_true rfl⟩) ho.kind ⟨by decide, by decide⟩ rfl rfl rfl (Nat.le_of_ble_eq_true rfl) dX7_rule_15 ⟨Nat.le_of_ble_eq_true rfl, Nat.le_of_ble_eq_true rfl⟩ (cq_kIp fun r_15 h_15 => ?_)
    refine cq_if_ne F (tgt := 27) dX7_rule_18 (by decide) (fun c_18 => ?_) (fun c_18 => ?_)
    · have c_18 := cq_b1 h_15 c_18
      have c_18b := c_18
      obtain ⟨d, hd, rfl⟩ := nI_cd (n := S_g S 6) (by omega) c_18
      have ed : (nI d).toNatClampNeg = d := nI_clamp (by omega)
      refine cq_iload_n F (i := 1) dX7_rule_27 rfl rfl ?_
      refine cq_iload_n F (i := 2) dX7_rule_28 rfl rfl ?_
      refine cq_icmp_ne F (tgt := 38) dX7_rule_29 (by decide) (fun c_29 => ?_) (fun c_29 => ?_)
      · have c_29 : ¬ c = d := fun z => c_29 ((nI_b (a := c) (b := d) (by omega) (by omega)).2.2.mpr z)
        refine cq_aload_n F (i := 0) dX7_rule_38 rfl rfl ?_
        refine cq_getT (t := (o + 1)) F (C := RX7) (T := TX7) (N := 22) (ci := 8) ho.kind rfl ⟨⟨by decide, by decide⟩, rfl⟩ inX7 0 (by decide) rfl rfl ho.t0 (F.1.2.2.2.2 _ (List.mem_of_getElem? (l := wsX7_rule) (i := 2) (a := .fieldLink RX7 7 "CordClockModel" "row" "[I") (by decide +kernel))) dX7_rule_39 ?_
        refine cq_bipush F (v := 51) dX7_rule_42 (by decide) ?_
        refine cq_iald_j F (j := 51) ho.k1 ho.n1 rfl ⟨(by omega), by decide⟩ dX7_rule_44 ?_
        rw [v_2_o1 _ (by omega)]
        refine cq_bipush F (v := 8) dX7_rule_45 (by decide) ?_
        refine cq_icmp_ne F (tgt := 56) dX7_rule_47 (by decide) (fun c_47 => ?_) (fun c_47 => ?_)
        · have c_47 : ¬ ((S_g S) (51)) = 8 := fun z => c_47 ((nI_b (a := ((S_g S) (51))) (b := 8) (by omega) (by omega)).2.2.mpr z)
          refine cq_aload_n F (i := 0) dX7_rule_56 rfl rfl ?_
          refine cq_callV F (C := RX7) (ci := 8) (kX7_save l D cA X Bs o B S M_2 ho q2 hk) (cwV 0 F.1.2.2.2.2 gX7_rule_X7_save rfl rfl rfl hdVX7_save ⟨Nat.le_of_ble_eq_true rfl, Nat.le_of_ble_eq_true rfl⟩) ho.kind ⟨by decide, by decide⟩ rfl rfl rfl (Nat.le_of_ble_eq_true rfl) dX7_rule_57 ⟨Nat.le_of_ble_eq_true rfl, Nat.le_of_ble_eq_true rfl⟩ (cq_kV fun M_57 h_57 => ?_)
          have z6 : M_57 o 6 = nI 0 := by rw [h_57.2.2 6 (by omega), h_2]; exact cq_up_s _ _ _ _
          have fs : cr_fr M M_57 o 15 := f2.trans h_57.2.1
          have qs := h_57.1
          refine cq_aload_n F (i := 0) dX7_rule_60 rfl rfl ?_
          refine cq_iload_n F (i := 1) dX7_rule_61 rfl rfl ?_
          refine cq_iload_n F (i := 2) dX7_rule_62 rfl rfl ?_
          refine cq_iload_n F (i := 3) dX7_rule_63 rfl rfl ?_
          refine cq_if_eq F (tgt := 71) dX7_rule_64 (by decide) (fun c_64 => ?_) (fun c_64 => ?_)
          · refine cq_iconst F (v := 0) dX7_rule_71 rfl ?_
            refine cq_callV F (C := RX7) (ci := 8) (kX7_addRule l D cA X Bs o c d 0 (S_g S) M_57 ho h_57.1.1 (by omega)) (cwV 3 F.1.2.2.2.2 gX7_rule_X7_addRule rfl rfl rfl hdVX7_addRule ⟨Nat.le_of_ble_eq_true rfl, Nat.le_of_ble_eq_true rfl⟩) ho.kind ⟨by decide, by decide⟩ rfl rfl rfl (Nat.le_of_ble_eq_true rfl) dX7_rule_72 ⟨Nat.le_of_ble_eq_true rfl, Nat.le_of_ble_eq_true rfl⟩ (cq_kI fun r_72 M_72 h_72 => ?_)
            obtain ⟨hr_72, h_72⟩ := h_72
            subst hr_72
            refine cq_iret F hr (by decide) (by decide) dX7_rule_75 ⟨_, rfl, ?_⟩
            have e : op_rule S (nI c) (nI d) y = (0, nI (S_g S 51), so_g (so_save S) (ns_newRule (S_g S) c d 0)) := by unfold op_rule; rw [if_pos ⟨c_10b, c_18b⟩, if_neg (fun z => c_29 ((nI_eq (by omega) (by omega)).mp z)), if_pos (by omega), ec, ed]; first | rw [if_pos c_64] | rw [if_neg c_64]
            rw [e]
            exact ⟨(show M_72 o 6 = nI (0) from ((congrFun (h_72.2 o (by omega)) 6).trans (show M_57 o 6 = nI (0) from z6))), fun _ => rfl, qs.row h_72.1 (cq_only.rf.trans h_72.2), fs.trans (fun x hx => (show cq_only _ M_72 (o + 1) from (cq_only.rf.trans h_72.2)) x (by omega))⟩
          · refine cq_iconst F (v := 1) dX7_rule_67 rfl ?_
            refine cq_goto F (tgt := 72) dX7_rule_68 (by decide) ?_
            refine cq_callV F (C := RX7) (ci := 8) (kX7_addRule l D cA X Bs o c d 1 (S_g S) M_57 ho h_57.1.1 (by omega)) (cwV 3 F.1.2.2.2.2 gX7_rule_X7_addRule rfl rfl rfl hdVX7_addRule ⟨Nat.le_of_ble_eq_true rfl, Nat.le_of_ble_eq_true rfl⟩) ho.kind ⟨by decide, by decide⟩ rfl rfl rfl (Nat.le_of_ble_eq_true rfl) dX7_rule_72 ⟨Nat.le_of_ble_eq_true rfl, Nat.le_of_ble_eq_true rfl⟩ (cq_kI fun r_72 M_72 h_72 => ?_)
            obtain ⟨hr_72, h_72⟩ := h_72
            subst hr_72
            refine cq_iret F hr (by decide) (by decide) dX7_rule_75 ⟨_, rfl, ?_⟩
            have e : op_rule S (nI c) (nI d) y = (0, nI (S_g S 51), so_g (so_save S) (ns_newRule (S_g S) c d 1)) := by unfold op_rule; rw [if_pos ⟨c_10b, c_18b⟩, if_neg (fun z => c_29 ((nI_eq (by omega) (by omega)).mp z)), if_pos (by omega), ec, ed]; first | rw [if_pos c_64] | rw [if_neg c_64]
            rw [e]
            exact ⟨(show M_72 o 6 = nI (0) from ((congrFun (h_72.2 o (by omega)) 6).trans (show M_57 o 6 = nI (0) from z6))), fun _ => rfl, qs.row h_72.1 (cq_only.rf.trans h_72.2), fs.trans (fun x hx => (show cq_only _ M_72 (o + 1) from (cq_only.rf.trans h_72.2)) x (by omega))⟩
        · have c_47 : ((S_g S) (51)) = 8 := (nI_b (a := ((S_g S) (51))) (b := 8) (by omega) (by omega)).2.2.mp c_47
          refine cq_aload_n F (i := 0) dX7_rule_50 rfl rfl ?_
          refine cq_iconst F (v := 3) dX7_rule_51 rfl ?_
          refine cq_callV F (C := RX7) (ci := 8) (kX7_fails l D cA X Bs o 3 M_2 ho) (cwV 1 F.1.2.2.2.2 gX7_rule_X7_fails rfl rfl rfl hdVX7_fails ⟨Nat.le_of_ble_eq_true rfl, Nat.le_of_ble_eq_true rfl⟩) ho.kind ⟨by decide, by decide⟩ rfl rfl rfl (Nat.le_of_ble_eq_true rfl) dX7_rule_52 ⟨Nat.le_of_ble_eq_true rfl, Nat.le_of_ble_eq_true rfl⟩ (cq_kI fun r_52 M_52 h_52 => ?_)
          obtain ⟨hr_52, h_52⟩ := h_52
          subst hr_52
          refine cq_iret F hr (by decide) (by decide) dX7_rule_55 ⟨_, rfl, ?_⟩
          have e : op_rule S (nI c) (nI d) y = (3, 0, S) := by unfold op_rule; rw [if_pos ⟨c_10b, c_18b⟩, if_neg (fun z => c_29 ((nI_eq (by omega) (by omega)).mp z)), if_neg (by omega)]
          rw [e]
          exact ⟨by rw [h_52]; exact cq_up_s _ _ _ _, fun z => absurd (show (3 : Nat) = 0 from z) (by decide), q2.o h_52 (by omega) (by omega), f2.up h_52 (by omega) (by omega)⟩
      · have c_29 : c = d := (nI_b (a := c) (b := d) (by omega) (by omega)).2.2.mp c_29
        refine cq_aload_n F (i := 0) dX7_rule_32 rfl rfl ?_
        refine cq_iconst F (v := 2) dX7_rule_33 rfl ?_
        refine cq_callV F (C := RX7) (ci := 8) (kX7_fails l D cA X Bs o 2 M_2 ho) (cwV 1 F.1.2.2.2.2 gX7_rule_X7_fails rfl rfl rfl hdVX7_fails ⟨Nat.le_of_ble_eq_true rfl, Nat.le_of_ble_eq_true rfl⟩) ho.kind ⟨by decide, by decide⟩ rfl rfl rfl (Nat.le_of_ble_eq_true rfl) dX7_rule_34 ⟨Nat.le_of_ble_eq_true rfl, Nat.le_of_ble_eq_true rfl⟩ (cq_kI fun r_34 M_34 h_34 => ?_)
        obtain ⟨hr_34, h_34⟩ := h_34
        subst hr_34
        refine cq_iret F hr (by decide) (by decide) dX7_rule_37 ⟨_, rfl, ?_⟩
        have e : op_rule S (nI c) (nI d) y = (2, 0, S) := by unfold op_rule; rw [if_pos ⟨c_10b, c_18b⟩, if_pos (by rw [c_29])]
        rw [e]
        exact ⟨by rw [h_34]; exact cq_up_s _ _ _ _, fun z => absurd (show (2 : Nat) = 0 from z) (by decide), q2.o h_34 (by omega) (by omega), f2.up h_34 (by omega) (by omega)⟩
    · have c_18 := cq_b0 h_15 c_18
      refine cq_aload_n F (i := 0) dX7_rule_21 rfl rfl ?_
      refine cq_iconst F (v := 1) dX7_rule_22 rfl ?_
      refine cq_callV F (C := RX7) (ci := 8) (kX7_fails l D cA X Bs o 1 M_2 ho) (cwV 1 F.1.2.2.2.2 gX7_rule_X7_fails rfl rfl rfl hdVX7_fails ⟨Nat.le_of_ble_eq_true rfl, Nat.le_of_ble_eq_true rfl⟩) ho.kind ⟨by decide, by decide⟩ rfl rfl rfl (Nat.le_of_ble_eq_true rfl) dX7_rule_23 ⟨Nat.le_of_ble_eq_true rfl, Nat.le_of_ble_eq_true rfl⟩ (cq_kI fun r_23 M_23 h_23 => ?_)
      obtain ⟨hr_23, h_23⟩ := h_23
      subst hr_23
      refine cq_iret F hr (by decide) (by decide) dX7_rule_26 ⟨_, rfl, ?_⟩
      first | rw [show op_rule S a u y = (1, 0, S) from if_neg (fun z => c_10 z.1)] | rw [show op_rule S (nI c) u y = (1, 0, S) from if_neg (fun z => c_18 z.2)]
      exact ⟨by rw [h_23]; exact cq_up_s _ _ _ _, fun z => absurd (show (1 : Nat) = 0 from z) (by decide), q2.o h_23 (by omega) (by omega), f2.up h_23 (by omega) (by omega)⟩
theorem hdVX7_rule : yX7_rule.cls = RX7 ∧ yX7_rule.cls ≠ "java/lang/invoke/MethodHandle" ∧ yX7_rule.cls ≠ "java/lang/invoke/VarHandle" ∧ (parseMethodDescriptor yX7_rule.desc).map (fun d => d.parameters.length) = some 3 := by decide +kernel
abbrev rmX7_uneven : Room := ({ frames := 3, cells := 0, slots := 0, locals := 65 })
set_option maxHeartbeats 4000000 in
set_option maxRecDepth 100000 in
theorem kX7_uneven (l : Launch) (D : va_G) (cA : Nat → ClassId) (X : cq_X) (Bs : Nat) (o B : Nat) (S : as_T) (u w t : Int32) (M : cq_M) (ho : cq_isModel X o) (h : cm M o S) (hk : as_ok S B) : cq_C l yX7_uneven wsX7_uneven rmX7_uneven D cA X Bs [.ref o, .int u, .int w, .int t] M (cq_PI (fun r M1 => mq (op_uneven S u w t) r M M1 o)) 0 0 := by
  refine cq_met (cc := cX7_uneven) (maxL := 5) (ret := (some .int)) (by decide) rfl (Nat.le_of_ble_eq_true rfl) [(0, .ref o), (1, .int u), (2, .int w), (3, .int t)] rfl rfl ?_
  intro p9 e9 s9 m9 b9 t9 c9 F hr
  have inX7 : ∀ w ∈ wsX70, w ∈ wsX7_uneven := (fun w h => List.mem_cons_of_mem _ (List.mem_append_right _ h))
  have hk6 := hk.1.1
  refine cq_aload_n F (i := 0) dX7_uneven_0 rfl rfl ?_
  refine cq_iconst F (v := 0) dX7_uneven_1 rfl ?_
  refine cq_put F (C := RX7) (T := TX7) (N := 22) (ci := 8) ho.kind rfl ⟨⟨by decide, by decide⟩, rfl⟩ inX7 tyX7 tyX7_ok nmX7 6 (by decide) rfl rfl (F.1.2.2.2.2 _ (List.mem_of_getElem? (l := wsX7_uneven) (i := 1) (a := .fieldLink RX7 53 "CordClockModel" "thrown" "I") (by decide +kernel))) rfl (by rfl) (by rfl) dX7_uneven_2 (fun M_2 h_2 => ?_)
  have v_2_o1 := h.1.ne h_2 (by omega)
  have q2 := h.o h_2 (by omega) (by omega)
  have f2 : cr_fr M M_2 o 15 := cr_fr.rf.up h_2 (by omega) (by omega)
  refine cq_aload_n F (i := 0) dX7_uneven_5 rfl rfl ?_
  refine cq_iload_n F (i := 1) dX7_uneven_6 rfl rfl ?_
  refine cq_iload_n F (i := 2) dX7_uneven_7 rfl rfl ?_
  refine cq_callV F (C := RX7) (ci := 8) (kX7_isSegment l D cA X Bs o u w (S_g S) M_2 ho v_2_o1 hk6 (fun c hc => (hk.1.2.2.2.1 c hc).1.2)) (cwV 2 F.1.2.2.2.2 gX7_uneven_X7_isSegment rfl rfl rfl hdVX7_isSegment ⟨Nat.le_of_ble_eq_true rfl, Nat.le_of_ble_eq_true rfl⟩) ho.kind ⟨by decide, by decide⟩ rfl rfl rfl (Nat.le_of_ble_eq_true rfl) dX7_uneven_8 ⟨Nat.le_of_ble_eq_true rfl, Nat.le_of_ble_eq_true rfl⟩ (cq_kIp fun r_8 h_8 => ?_)
  refine cq_if_ne F (tgt := 20) dX7_uneven_11 (by decide) (fun c_11 => ?_) (fun c_11 => ?_)
  · have c_11 := cq_b1 h_8 c_11
    obtain ⟨c, hc, rfl⟩ := nI_cd (n := S_g S 6) (by omega) c_11.1
    have ec : (nI c).toNatClampNeg = c := nI_clamp (by omega)
    have hq := hk.1.2.2.2.1 c hc
    have h7 := hq.1.2
    obtain ⟨s, hs, rfl⟩ := nI_cd (n := S_g S (7 + 11 * c)) (by omega) (by have := c_11.2; rw [ec] at this; exact this)
    have es : (nI s).toNatClampNeg = s := nI_clamp (by omega)
    have hbt := hq.time
    have hbb : ns_burned (S_g S) c ≤ 360 := Nat.le_trans hq.2.2.1 hbt
    have hff := hq.2.2.2.1
    refine cq_iload_n F (i := 3) dX7_uneven_20 rfl rfl ?_
    refine cq_iconst F (v := 1) dX7_uneven_21 rfl ?_
    refine cq_bipush F (v := 60) dX7_uneven_22 (by decide) ?_
    refine cq_callS F (kX7_in l D cA X Bs t 1 60 M_2) (va_cwS 3 F.1.2.2.2.2 gX7_uneven_X7_in rfl rfl rfl hdVX7_in.2 ⟨Nat.le_of_ble_eq_true rfl, Nat.le_of_ble_eq_true rfl⟩) rfl (Nat.le_of_ble_eq_true rfl) dX7_uneven_24 ⟨Nat.le_of_ble_eq_true rfl, Nat.le_of_ble_eq_true rfl⟩ (cq_kIp fun r_24 h_24 => ?_)
    refine cq_if_ne F (tgt := 36) dX7_uneven_27 (by decide) (fun c_27 => ?_) (fun c_27 => ?_)
    · have c_27 := cq_b1 h_24 c_27
      have c_27b := c_27
      obtain ⟨q, hq1, hq2, rfl⟩ := nI_ab (a := 1) (b := 60) (by omega) (by omega) c_27
      have eq : (nI q).toNatClampNeg = q := nI_clamp (by omega)
      refine cq_aload_n F (i := 0) dX7_uneven_36 rfl rfl ?_
      refine cq_iload_n F (i := 1) dX7_uneven_37 rfl rfl ?_
      refine cq_callV F (C := RX7) (ci := 8) (kX7_burnedOf l D cA X Bs o c (S_g S) M_2 ho v_2_o1 (by omega)) (cwV 1 F.1.2.2.2.2 gX7_uneven_X7_burnedOf rfl rfl rfl hdVX7_burnedOf ⟨Nat.le_of_ble_eq_true rfl, Nat.le_of_ble_eq_true rfl⟩) ho.kind ⟨by decide, by decide⟩ rfl rfl rfl (Nat.le_of_ble_eq_true rfl) dX7_uneven_38 ⟨Nat.le_of_ble_eq_true rfl, Nat.le_of_ble_eq_true rfl⟩ (cq_kIp fun r_38 h_38 => ?_)
      subst h_38
      refine cq_if_gt F (tgt := 54) dX7_uneven_41 (by decide) (fun c_41 => ?_) (fun c_41 => ?_)
      · have c_41 : 0 < (ns_burned (S_g S) c) := (nI_b (a := 0) (b := (ns_burned (S_g S) c)) (by omega) (by omega)).2.1.mp c_41
        refine cq_aload_n F (i := 0) dX7_uneven_54 rfl rfl ?_
        refine cq_iconst F (v := 3) dX7_uneven_55 rfl ?_
        refine cq_callV F (C := RX7) (ci := 8) (kX7_fails l D cA X Bs o 3 M_2 ho) (cwV 1 F.1.2.2.2.2 gX7_uneven_X7_fails rfl rfl rfl hdVX7_fails ⟨Nat.le_of_ble_eq_true rfl, Nat.le_of_ble_eq_true rfl⟩) ho.kind ⟨by decide, by decide⟩ rfl rfl rfl (Nat.le_of_ble_eq_true rfl) dX7_uneven_56 ⟨Nat.le_of_ble_eq_true rfl, Nat.le_of_ble_eq_true rfl⟩ (cq_kI fun r_56 M_56 h_56 => ?_)
        obtain ⟨hr_56, h_56⟩ := h_56
        subst hr_56
        refine cq_iret F hr (by decide) (by decide) dX7_uneven_59 ⟨_, rfl, ?_⟩
        have e : op_uneven S (nI c) (nI s) (nI q) = (3, 0, S) := by unfold op_uneven; rw [if_pos c_11, if_pos c_27b, if_neg (fun z => by rw [ec] at z; first | exact c_41 (by omega) | exact c_51 z.2 | omega)]
        rw [e]
        exact ⟨by rw [h_56]; exact cq_up_s _ _ _ _, fun z => absurd (show (3 : Nat) = 0 from z) (by decide), q2.o h_56 (by omega) (by omega), f2.up h_56 (by omega) (by omega)⟩
      · have c_41 : ¬ 0 < (ns_burned (S_g S) c) := fun z => c_41 ((nI_b (a := 0) (b := (ns_burned (S_g S) c)) (by omega) (by omega)).2.1.mpr z)
        refine cq_aload_n F (i := 0) dX7_uneven_44 rfl rfl ?_
        refine cq_iload_n F (i := 1) dX7_uneven_45 rfl rfl ?_
        refine cq_bipush F (v := 9) dX7_uneven_46 (by decide) ?_
        refine cq_callV F (C := RX7) (ci := 8) (kX7_of l D cA X Bs o c (9) (16 + 11 * c) (S_g S) M_2 ho v_2_o1 (by omega) (by omega)) (cwV 2 F.1.2.2.2.2 gX7_uneven_X7_of rfl rfl rfl hdVX7_of ⟨Nat.le_of_ble_eq_true rfl, Nat.le_of_ble_eq_true rfl⟩) ho.kind ⟨by decide, by decide⟩ rfl rfl rfl (Nat.le_of_ble_eq_true rfl) dX7_uneven_48 ⟨Nat.le_of_ble_eq_true rfl, Nat.le_of_ble_eq_true rfl⟩ (cq_kIp fun r_48 h_48 => ?_)
        subst h_48
        refine cq_if_eq F (tgt := 60) dX7_uneven_51 (by decide) (fun c_51 => ?_) (fun c_51 => ?_)
        · have c_51 : ((S_g S) (16 + 11 * c)) = 0 := (nI_b (a := ((S_g S) (16 + 11 * c))) (b := 0) (by omega) (by omega)).2.2.mp c_51
          refine cq_aload_n F (i := 0) dX7_uneven_60 rfl rfl ?_
          refine cq_callV F (C := RX7) (ci := 8) (kX7_save l D cA X Bs o B S M_2 ho q2 hk) (cwV 0 F.1.2.2.2.2 gX7_uneven_X7_save rfl rfl rfl hdVX7_save ⟨Nat.le_of_ble_eq_true rfl, Nat.le_of_ble_eq_true rfl⟩) ho.kind ⟨by decide, by decide⟩ rfl rfl rfl (Nat.le_of_ble_eq_true rfl) dX7_uneven_61 ⟨Nat.le_of_ble_eq_true rfl, Nat.le_of_ble_eq_true rfl⟩ (cq_kV fun M_61 h_61 => ?_)
          have z6 : M_61 o 6 = nI 0 := by rw [h_61.2.2 6 (by omega), h_2]; exact cq_up_s _ _ _ _
          have fs : cr_fr M M_61 o 15 := f2.trans h_61.2.1
          have qs := h_61.1
          refine cq_aload_n F (i := 0) dX7_uneven_64 rfl rfl ?_
          refine cq_iload_n F (i := 1) dX7_uneven_65 rfl rfl ?_
          refine cq_iconst F (v := 1) dX7_uneven_66 rfl ?_
          refine cq_iload_n F (i := 2) dX7_uneven_67 rfl rfl ?_
          refine cq_iadd F dX7_uneven_68 ?_
          rw [show (1 + nI s : Int32) = nI (1 + s) from nI_add _ _]
          refine cq_callV F (C := RX7) (ci := 8) (kX7_of l D cA X Bs o c (1 + s) (8 + 11 * c + s) (S_g S) M_61 ho h_61.1.1 (by omega) (by omega)) (cwV 2 F.1.2.2.2.2 gX7_uneven_X7_of rfl rfl rfl hdVX7_of ⟨Nat.le_of_ble_eq_true rfl, Nat.le_of_ble_eq_true rfl⟩) ho.kind ⟨by decide, by decide⟩ rfl rfl rfl (Nat.le_of_ble_eq_true rfl) dX7_uneven_69 ⟨Nat.le_of_ble_eq_true rfl, Nat.le_of_ble_eq_true rfl⟩ (cq_kIp fun r_69 h_69 => ?_)
          subst h_69
          refine cq_istore F dX7_uneven_72 (by decide) ?_
          refine cq_aload_n F (i := 0) dX7_uneven_74 rfl rfl ?_
          refine cq_iload_n F (i := 1) dX7_uneven_75 rfl rfl ?_
          refine cq_iconst F (v := 1) dX7_uneven_76 rfl ?_
          refine cq_iload_n F (i := 2) dX7_uneven_77 rfl rfl ?_
          refine cq_iadd F dX7_uneven_78 ?_
          rw [show (1 + nI s : Int32) = nI (1 + s) from nI_add _ _]
          refine cq_iload_n F (i := 3) dX7_uneven_79 rfl rfl ?_
          refine cq_callV F (C := RX7) (ci := 8) (kX7_put l D cA X Bs o c (1 + s) (8 + 11 * c + s) (nI (q)) M_61 ho (by omega) (by omega)) (cwV 3 F.1.2.2.2.2 gX7_uneven_X7_put rfl rfl rfl hdVX7_put ⟨Nat.le_of_ble_eq_true rfl, Nat.le_of_ble_eq_true rfl⟩) ho.kind ⟨by decide, by decide⟩ rfl rfl rfl (Nat.le_of_ble_eq_true rfl) dX7_uneven_80 ⟨Nat.le_of_ble_eq_true rfl, Nat.le_of_ble_eq_true rfl⟩ (cq_kV fun M_80 h_80 => ?_)
          refine cq_iload F dX7_uneven_83 rfl ?_
          refine cq_iret F hr (by decide) (by decide) dX7_uneven_85 ⟨_, rfl, ?_⟩
          have e : op_uneven S (nI c) (nI s) (nI q) = (0, nI (S_g S (8 + 11 * c + s)), so_g (so_save S) (ns_up (S_g S) (8 + 11 * c + s) q)) := by unfold op_uneven; rw [if_pos c_11, if_pos c_27b, ec, es, eq, if_pos ⟨by omega, by omega⟩]
          rw [e]
          exact ⟨(show M_80 o 6 = nI (0) from (by rw [h_80, cq_up_a (by omega)]; exact z6)), fun _ => rfl, qs.row (h_61.1.1.up h_80) (cq_only.rf.up h_80), fs.trans (fun x hx => (show cq_only _ M_80 (o + 1) from (cq_only.rf.up h_80)) x (by omega))⟩
        · have c_51 : ¬ ((S_g S) (16 + 11 * c)) = 0 := fun z => c_51 ((nI_b (a := ((S_g S) (16 + 11 * c))) (b := 0) (by omega) (by omega)).2.2.mpr z)
          refine cq_aload_n F (i := 0) dX7_uneven_54 rfl rfl ?_
          refine cq_iconst F (v := 3) dX7_uneven_55 rfl ?_
          refine cq_callV F (C := RX7) (ci := 8) (kX7_fails l D cA X Bs o 3 M_2 ho) (cwV 1 F.1.2.2.2.2 gX7_uneven_X7_fails rfl rfl rfl hdVX7_fails ⟨Nat.le_of_ble_eq_true rfl, Nat.le_of_ble_eq_true rfl⟩) ho.kind ⟨by decide, by decide⟩ rfl rfl rfl (Nat.le_of_ble_eq_true rfl) dX7_uneven_56 ⟨Nat.le_of_ble_eq_true rfl, Nat.le_of_ble_eq_true rfl⟩ (cq_kI fun r_56 M_56 h_56 => ?_)
          obtain ⟨hr_56, h_56⟩ := h_56
          subst hr_56
          refine cq_iret F hr (by decide) (by decide) dX7_uneven_59 ⟨_, rfl, ?_⟩
          have e : op_uneven S (nI c) (nI s) (nI q) = (3, 0, S) := by unfold op_uneven; rw [if_pos c_11, if_pos c_27b, if_neg (fun z => by rw [ec] at z; first | exact c_41 (by omega) | exact c_51 z.2 | omega)]
          rw [e]
          exact ⟨by rw [h_56]; exact cq_up_s _ _ _ _, fun z => absurd (show (3 : Nat) = 0 from z) (by decide), q2.o h_56 (by omega) (by omega), f2.up h_56 (by omega) (by omega)⟩
    · have c_27 := cq_b0 h_24 c_27
      refine cq_aload_n F (i := 0) dX7_uneven_30 rfl rfl ?_
      refine cq_iconst F (v := 2) dX7_uneven_31 rfl ?_
      refine cq_callV F (C := RX7) (ci := 8) (kX7_fails l D cA X Bs o 2 M_2 ho) (cwV 1 F.1.2.2.2.2 gX7_uneven_X7_fails rfl rfl rfl hdVX7_fails ⟨Nat.le_of_ble_eq_true rfl, Nat.le_of_ble_eq_true rfl⟩) ho.kind ⟨by decide, by decide⟩ rfl rfl rfl (Nat.le_of_ble_eq_true rfl) dX7_uneven_32 ⟨Nat.le_of_ble_eq_true rfl, Nat.le_of_ble_eq_true rfl⟩ (cq_kI fun r_32 M_32 h_32 => ?_)
      obtain ⟨hr_32, h_32⟩ := h_32
      subst hr_32
      refine cq_iret F hr (by decide) (by decide) dX7_uneven_35 ⟨_, rfl, ?_⟩
      have e : op_uneven S (nI c) (nI s) t = (2, 0, S) := by unfold op_uneven; rw [if_pos ⟨c_11.1, c_11.2⟩, if_neg c_27]
      rw [e]
      exact ⟨by rw [h_32]; exact cq_up_s _ _ _ _, fun z => absurd (show (2 : Nat) = 0 from z) (by decide), q2.o h_32 (by omega) (by omega), f2.up h_32 (by omega) (by omega)⟩
  · have c_11 := cq_b0 h_8 c_11
    refine cq_aload_n F (i := 0) dX7_uneven_14 rfl rfl ?_
    refine cq_iconst F (v := 1) dX7_uneven_15 rfl ?_
    refine cq_callV F (C := RX7) (ci := 8) (kX7_fails l D cA X Bs o 1 M_2 ho) (cwV 1 F.1.2.2.2.2 gX7_uneven_X7_fails rfl rfl rfl hdVX7_fails ⟨Nat.le_of_ble_eq_true rfl, Nat.le_of_ble_eq_true rfl⟩) ho.kind ⟨by decide, by decide⟩ rfl rfl rfl (Nat.le_of_ble_eq_true rfl) dX7_uneven_16 ⟨Nat.le_of_ble_eq_true rfl, Nat.le_of_ble_eq_true rfl⟩ (cq_kI fun r_16 M_16 h_16 => ?_)
    obtain ⟨hr_16, h_16⟩ := h_16
    subst hr_16
    refine cq_iret F hr (by decide) (by decide) dX7_uneven_19 ⟨_, rfl, ?_⟩
    have e : op_uneven S u w t = (1, 0, S) := by unfold op_uneven; rw [if_neg (fun z => c_11 ⟨z.1, z.2⟩)]
    rw [e]
    exact ⟨by rw [h_16]; exact cq_up_s _ _ _ _, fun z => absurd (show (1 : Nat) = 0 from z) (by decide), q2.o h_16 (by omega) (by omega), f2.up h_16 (by omega) (by omega)⟩
theorem hdVX7_uneven : yX7_uneven.cls = RX7 ∧ yX7_uneven.cls ≠ "java/lang/invoke/MethodHandle" ∧ yX7_uneven.cls ≠ "java/lang/invoke/VarHandle" ∧ (parseMethodDescriptor yX7_uneven.desc).map (fun d => d.parameters.length) = some 3 := by decide +kernel
abbrev rmX7_run : Room := ({ frames := 7, cells := 0, slots := 0, locals := 158 })
set_option maxHeartbeats 4000000 in
set_option maxRecDepth 100000 in
theorem kX7_run (l : Launch) (D : va_G) (cA : Nat → ClassId) (X : cq_X) (Bs : Nat) (o B : Nat) (S : as_T) (u : Int32) (M : cq_M) (ho : cq_isModel X o) (h : cm M o S) (hk : as_ok S B) (hB : B < 1999990000) : cq_C l yX7_run wsX7_run rmX7_run D cA X Bs [.ref o, .int u] M (cq_PI (fun r M1 => mq (op_run S u) r M M1 o)) 0 0 := by
  refine cq_met (cc := cX7_run) (maxL := 2) (ret := (some .int)) (by decide) rfl (Nat.le_of_ble_eq_true rfl) [(0, .ref o), (1, .int u)] rfl rfl ?_
  intro p9 e9 s9 m9 b9 t9 c9 F hr
  have inX7 : ∀ w ∈ wsX70, w ∈ wsX7_run := (fun w h => List.mem_cons_of_mem _ (List.mem_append_right _ h))
  refine cq_aload_n F (i := 0) dX7_run_0 rfl rfl ?_
  refine cq_iconst F (v := 0) dX7_run_1 rfl ?_
  refine cq_put F (C := RX7) (T := TX7) (N := 22) (ci := 8) ho.kind rfl ⟨⟨by decide, by decide⟩, rfl⟩ inX7 tyX7 tyX7_ok nmX7 6 (by decide) rfl rfl (F.1.2.2.2.2 _ (List.mem_of_getElem? (l := wsX7_run) (i := 1) (a := .fieldLink RX7 53 "CordClockModel" "thrown" "I") (by decide +kernel))) rfl (by rfl) (by rfl) dX7_run_2 (fun M_2 h_2 => ?_)
  have v_2_o1 := h.1.ne h_2 (by omega)
  have q2 := h.o h_2 (by omega) (by omega)
  have f2 : cr_fr M M_2 o 15 := cr_fr.rf.up h_2 (by omega) (by omega)
  refine cq_iload_n F (i := 1) dX7_run_5 rfl rfl ?_
  refine cq_iconst F (v := 1) dX7_run_6 rfl ?_
  refine cq_sipush F (v := 200) dX7_run_7 (by decide) ?_
  refine cq_callS F (kX7_in l D cA X Bs u 1 200 M_2) (va_cwS 3 F.1.2.2.2.2 gX7_run_X7_in rfl rfl rfl hdVX7_in.2 ⟨Nat.le_of_ble_eq_true rfl, Nat.le_of_ble_eq_true rfl⟩) rfl (Nat.le_of_ble_eq_true rfl) dX7_run_10 ⟨Nat.le_of_ble_eq_true rfl, Nat.le_of_ble_eq_true rfl⟩ (cq_kIp fun r_10 h_10 => ?_)
  refine cq_if_ne F (tgt := 22) dX7_run_13 (by decide) (fun c_13 => ?_) (fun c_13 => ?_)
  · have c_13 := cq_b1 h_10 c_13
    have c_13b := c_13
    obtain ⟨q, hq1, hq2, rfl⟩ := nI_ab (a := 1) (b := 200) (by omega) (by omega) c_13
    have eq : (nI q).toNatClampNeg = q := nI_clamp (by omega)
    refine cq_aload_n F (i := 0) dX7_run_22 rfl rfl ?_
    refine cq_callV F (C := RX7) (ci := 8) (kX7_save l D cA X Bs o B S M_2 ho q2 hk) (cwV 0 F.1.2.2.2.2 gX7_run_X7_save rfl rfl rfl hdVX7_save ⟨Nat.le_of_ble_eq_true rfl, Nat.le_of_ble_eq_true rfl⟩) ho.kind ⟨by decide, by decide⟩ rfl rfl rfl (Nat.le_of_ble_eq_true rfl) dX7_run_23 ⟨Nat.le_of_ble_eq_true rfl, Nat.le_of_ble_eq_true rfl⟩ (cq_kV fun M_23 h_23 => ?_)
    have z6 : M_23 o 6 = nI 0 := by rw [h_23.2.2 6 (by omega), h_2]; exact cq_up_s _ _ _ _
    have fs : cr_fr M M_23 o 15 := f2.trans h_23.2.1
    have qs := h_23.1
    refine cq_aload_n F (i := 0) dX7_run_26 rfl rfl ?_
    refine cq_iload_n F (i := 1) dX7_run_27 rfl rfl ?_
    refine cq_callV F (C := RX7) (ci := 8) (kX7_runNow l D cA X Bs o q B (S_g S) M_23 ho h_23.1.1 hk.1 (by omega) hB) (cwV 1 F.1.2.2.2.2 gX7_run_X7_runNow rfl rfl rfl hdVX7_runNow ⟨Nat.le_of_ble_eq_true rfl, Nat.le_of_ble_eq_true rfl⟩) ho.kind ⟨by decide, by decide⟩ rfl rfl rfl (Nat.le_of_ble_eq_true rfl) dX7_run_28 ⟨Nat.le_of_ble_eq_true rfl, Nat.le_of_ble_eq_true rfl⟩ (cq_kI fun r_28 M_28 h_28 => ?_)
    obtain ⟨hr_28, h_28⟩ := h_28
    subst hr_28
    refine cq_iret F hr (by decide) (by decide) dX7_run_31 ⟨_, rfl, ?_⟩
    have e : op_run S (nI q) = (0, nI (ns_sigsN (S_g S) q), so_g (so_save S) (ns_steps (S_g S) q)) := by unfold op_run; rw [if_pos c_13b, eq]
    rw [e]
    exact ⟨(show M_28 o 6 = nI (0) from ((congrFun (h_28.2 o (by omega)) 6).trans (show M_23 o 6 = nI (0) from z6))), fun _ => rfl, qs.row h_28.1 (cq_only.rf.trans h_28.2), fs.trans (fun x hx => (show cq_only _ M_28 (o + 1) from (cq_only.rf.trans h_28.2)) x (by omega))⟩
  · have c_13 := cq_b0 h_10 c_13
    refine cq_aload_n F (i := 0) dX7_run_16 rfl rfl ?_
    refine cq_iconst F (v := 1) dX7_run_17 rfl ?_
    refine cq_callV F (C := RX7) (ci := 8) (kX7_fails l D cA X Bs o 1 M_2 ho) (cwV 1 F.1.2.2.2.2 gX7_run_X7_fails rfl rfl rfl hdVX7_fails ⟨Nat.le_of_ble_eq_true rfl, Nat.le_of_ble_eq_true rfl⟩) ho.kind ⟨by decide, by decide⟩ rfl rfl rfl (Nat.le_of_ble_eq_true rfl) dX7_run_18 ⟨Nat.le_of_ble_eq_true rfl, Nat.le_of_ble_eq_true rfl⟩ (cq_kI fun r_18 M_18 h_18 => ?_)
    obtain ⟨hr_18, h_18⟩ := h_18
    subst hr_18
    refine cq_iret F hr (by decide) (by decide) dX7_run_21 ⟨_, rfl, ?_⟩
    have e : op_run S u = (1, 0, S) := if_neg c_13
    rw [e]
    exact ⟨by rw [h_18]; exact cq_up_s _ _ _ _, fun z => absurd (show (1 : Nat) = 0 from z) (by decide), q2.o h_18 (by omega) (by omega), f2.up h_18 (by omega) (by omega)⟩
theorem hdVX7_run : yX7_run.cls = RX7 ∧ yX7_run.cls ≠ "java/lang/invoke/MethodHandle" ∧ yX7_run.cls ≠ "java/lang/invoke/VarHandle" ∧ (parseMethodDescriptor yX7_run.desc).map (fun d => d.parameters.length) = some 1 := by decide +kernel
