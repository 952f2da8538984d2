/-! CordClockModel: the calls that change the state -/
abbrev rmX7_isCord : Room := ({ frames := 1, cells := 0, slots := 0, locals := 22 })
set_option maxHeartbeats 4000000 in
set_option maxRecDepth 100000 in
theorem kX7_isCord (l : Launch) (D : va_G) (cA : Nat → ClassId) (X : cq_X) (Bs : Nat) (o : Nat) (x : Int32) (g : Nat → Nat) (M : cq_M) (ho : cq_isModel X o) (hg : cq_nv M (o + 1) 109 g) (h6 : g 6 ≤ 4) : cq_C l yX7_isCord wsX7_isCord rmX7_isCord D cA X Bs [.ref o, .int x] M (cq_PI (fun r M1 => r = (if 0 ≤ x ∧ x < nI (g 6) then 1 else 0) ∧ M1 = M)) 0 0 := by
  refine cq_met (cc := cX7_isCord) (maxL := 2) (ret := (some .boolean)) (by decide) rfl (Nat.le_of_ble_eq_true rfl) [(0, .ref o), (1, .int x)] rfl rfl ?_
  intro p9 e9 s9 m9 b9 t9 c9 F hr
  have inX7 : ∀ w ∈ wsX70, w ∈ wsX7_isCord := (fun w h => List.mem_cons_of_mem _ (List.mem_append_right _ h))
  refine cq_iload_n F (i := 1) dX7_isCord_0 rfl rfl ?_
  refine cq_iconst F (v := 0) dX7_isCord_1 rfl ?_
  refine cq_aload_n F (i := 0) dX7_isCord_2 rfl rfl ?_
  refine cq_getT (t := (o + 1)) F (C := RX7) (T := TX7) (N := 22) (ci := 8) ho.kind rfl ⟨⟨by decide, by decide⟩, rfl⟩ inX7 0 (by decide) rfl rfl ho.t0 (F.1.2.2.2.2 _ (List.mem_of_getElem? (l := wsX7_isCord) (i := 1) (a := .fieldLink RX7 7 "CordClockModel" "row" "[I") (by decide +kernel))) dX7_isCord_3 ?_
  refine cq_bipush F (v := 6) dX7_isCord_6 (by decide) ?_
  refine cq_iald_j F (j := 6) ho.k1 ho.n1 rfl ⟨(by omega), by decide⟩ dX7_isCord_8 ?_
  rw [hg _ (by omega)]
  refine cq_iconst F (v := 1) dX7_isCord_9 rfl ?_
  refine cq_isub F dX7_isCord_10 ?_
  refine cq_callS F (kX7_in l D cA X Bs x 0 (nI (g 6) - 1) M) (va_cwS 3 F.1.2.2.2.2 gX7_isCord_X7_in rfl rfl rfl hdVX7_in.2 ⟨Nat.le_of_ble_eq_true rfl, Nat.le_of_ble_eq_true rfl⟩) rfl (Nat.le_of_ble_eq_true rfl) dX7_isCord_11 ⟨Nat.le_of_ble_eq_true rfl, Nat.le_of_ble_eq_true rfl⟩ (cq_kIp fun r_11 h_11 => ?_)
  exact cq_zret F hr (cq_zn (by rw [h_11]; split <;> simp)) (by decide) (by decide) dX7_isCord_14 ⟨_, rfl, ⟨by rw [h_11]; exact cq_ifc ⟨fun z => ⟨z.1, (nI_pm1 (by omega)).mp z.2⟩, fun z => ⟨z.1, (nI_pm1 (by omega)).mpr z.2⟩⟩, rfl⟩⟩
theorem hdVX7_isCord : yX7_isCord.cls = RX7 ∧ yX7_isCord.cls ≠ "java/lang/invoke/MethodHandle" ∧ yX7_isCord.cls ≠ "java/lang/invoke/VarHandle" ∧ (parseMethodDescriptor yX7_isCord.desc).map (fun d => d.parameters.length) = some 1 := by decide +kernel
abbrev rmX7_light : Room := ({ frames := 4, cells := 0, slots := 0, locals := 88 })
set_option maxHeartbeats 4000000 in
set_option maxRecDepth 100000 in
theorem kX7_light (l : Launch) (D : va_G) (cA : Nat → ClassId) (X : cq_X) (Bs : Nat) (o B : Nat) (S : as_T) (u y : Int32) (M : cq_M) (ho : cq_isModel X o) (h : cm M o S) (hk : as_ok S B) : cq_C l yX7_light wsX7_light rmX7_light D cA X Bs [.ref o, .int u, .int y] M (cq_PI (fun r M1 => mq (op_light S u y) r M M1 o)) 0 0 := by
  refine cq_met (cc := cX7_light) (maxL := 3) (ret := (some .int)) (by decide) rfl (Nat.le_of_ble_eq_true rfl) [(0, .ref o), (1, .int u), (2, .int y)] rfl rfl ?_
  intro p9 e9 s9 m9 b9 t9 c9 F hr
  have inX7 : ∀ w ∈ wsX70, w ∈ wsX7_light := (fun w h => List.mem_cons_of_mem _ (List.mem_append_right _ h))
  have hk6 := hk.1.1
  refine cq_aload_n F (i := 0) dX7_light_0 rfl rfl ?_
  refine cq_iconst F (v := 0) dX7_light_1 rfl ?_
  refine cq_put F (C := RX7) (T := TX7) (N := 22) (ci := 8) ho.kind rfl ⟨⟨by decide, by decide⟩, rfl⟩ inX7 tyX7 tyX7_ok nmX7 6 (by decide) rfl rfl (F.1.2.2.2.2 _ (List.mem_of_getElem? (l := wsX7_light) (i := 1) (a := .fieldLink RX7 53 "CordClockModel" "thrown" "I") (by decide +kernel))) rfl (by rfl) (by rfl) dX7_light_2 (fun M_2 h_2 => ?_)
  have v_2_o1 := h.1.ne h_2 (by omega)
  have q2 := h.o h_2 (by omega) (by omega)
  have f2 : cr_fr M M_2 o 15 := cr_fr.rf.up h_2 (by omega) (by omega)
  refine cq_aload_n F (i := 0) dX7_light_5 rfl rfl ?_
  refine cq_iload_n F (i := 1) dX7_light_6 rfl rfl ?_
  refine cq_callV F (C := RX7) (ci := 8) (kX7_isCord l D cA X Bs o u (S_g S) M_2 ho v_2_o1 hk.1.1) (cwV 1 F.1.2.2.2.2 gX7_light_X7_isCord rfl rfl rfl hdVX7_isCord ⟨Nat.le_of_ble_eq_true rfl, Nat.le_of_ble_eq_true rfl⟩) ho.kind ⟨by decide, by decide⟩ rfl rfl rfl (Nat.le_of_ble_eq_true rfl) dX7_light_7 ⟨Nat.le_of_ble_eq_true rfl, Nat.le_of_ble_eq_true rfl⟩ (cq_kIp fun r_7 h_7 => ?_)
  refine cq_if_ne F (tgt := 19) dX7_light_10 (by decide) (fun c_10 => ?_) (fun c_10 => ?_)
  · have c_10 := cq_b1 h_7 c_10
    have c_10b := c_10
    obtain ⟨c, hc, rfl⟩ := nI_cd (n := S_g S 6) (by have := hk.1.1; omega) c_10
    have ec : (nI c).toNatClampNeg = c := nI_clamp (by have := hk.1.1; omega)
    have hq := hk.1.2.2.2.1 c hc
    refine cq_aload_n F (i := 0) dX7_light_19 rfl rfl ?_
    refine cq_iload_n F (i := 1) dX7_light_20 rfl rfl ?_
    refine cq_iload_n F (i := 2) dX7_light_21 rfl rfl ?_
    refine cq_callV F (C := RX7) (ci := 8) (kX7_canLight l D cA X Bs o c y (S_g S) M_2 ho v_2_o1 (by omega) hq) (cwV 2 F.1.2.2.2.2 gX7_light_X7_canLight rfl rfl rfl hdVX7_canLight ⟨Nat.le_of_ble_eq_true rfl, Nat.le_of_ble_eq_true rfl⟩) ho.kind ⟨by decide, by decide⟩ rfl rfl rfl (Nat.le_of_ble_eq_true rfl) dX7_light_22 ⟨Nat.le_of_ble_eq_true rfl, Nat.le_of_ble_eq_true rfl⟩ (cq_kIp fun r_22 h_22 => ?_)
    refine cq_if_ne F (tgt := 34) dX7_light_25 (by decide) (fun c_25 => ?_) (fun c_25 => ?_)
    · have c_25 := cq_b1 h_22 c_25
      have hkL := hk.1.light hc c_25
      have e6 : ns_lightNow (S_g S) c y 6 = S_g S 6 := ns_light_n (by omega) (by omega) (by omega)
      refine cq_aload_n F (i := 0) dX7_light_34 rfl rfl ?_
      refine cq_callV F (C := RX7) (ci := 8) (kX7_save l D cA X Bs o B S M_2 ho q2 hk) (cwV 0 F.1.2.2.2.2 gX7_light_X7_save rfl rfl rfl hdVX7_save ⟨Nat.le_of_ble_eq_true rfl, Nat.le_of_ble_eq_true rfl⟩) ho.kind ⟨by decide, by decide⟩ rfl rfl rfl (Nat.le_of_ble_eq_true rfl) dX7_light_35 ⟨Nat.le_of_ble_eq_true rfl, Nat.le_of_ble_eq_true rfl⟩ (cq_kV fun M_35 h_35 => ?_)
      have z6 : M_35 o 6 = nI 0 := by rw [h_35.2.2 6 (by omega), h_2]; exact cq_up_s _ _ _ _
      have fs : cr_fr M M_35 o 15 := f2.trans h_35.2.1
      have qs := h_35.1
      refine cq_aload_n F (i := 0) dX7_light_38 rfl rfl ?_
      refine cq_iload_n F (i := 1) dX7_light_39 rfl rfl ?_
      refine cq_iload_n F (i := 2) dX7_light_40 rfl rfl ?_
      refine cq_callV F (C := RX7) (ci := 8) (kX7_lightNow l D cA X Bs o c y (S_g S) M_35 ho h_35.1.1 (by omega) hq.2.2.2.1 c_25.2 hk.1.2.2.1) (cwV 2 F.1.2.2.2.2 gX7_light_X7_lightNow rfl rfl rfl hdVX7_lightNow ⟨Nat.le_of_ble_eq_true rfl, Nat.le_of_ble_eq_true rfl⟩) ho.kind ⟨by decide, by decide⟩ rfl rfl rfl (Nat.le_of_ble_eq_true rfl) dX7_light_41 ⟨Nat.le_of_ble_eq_true rfl, Nat.le_of_ble_eq_true rfl⟩ (cq_kV fun M_41 h_41 => ?_)
      refine cq_aload_n F (i := 0) dX7_light_44 rfl rfl ?_
      refine cq_callV F (C := RX7) (ci := 8) (kX7_flames l D cA X Bs o (ns_lightNow (S_g S) c y) M_41 ho h_41.1 (by rw [e6]; exact hk6) (fun c2 hc2 => (hkL.2.2.2.1 c2 hc2).2.2.2.1)) (cwV 0 F.1.2.2.2.2 gX7_light_X7_flames rfl rfl rfl hdVX7_flames ⟨Nat.le_of_ble_eq_true rfl, Nat.le_of_ble_eq_true rfl⟩) ho.kind ⟨by decide, by decide⟩ rfl rfl rfl (Nat.le_of_ble_eq_true rfl) dX7_light_45 ⟨Nat.le_of_ble_eq_true rfl, Nat.le_of_ble_eq_true rfl⟩ (cq_kIp fun r_45 h_45 => ?_)
      rw [e6] at h_45
      subst h_45
      refine cq_iret F hr (by decide) (by decide) dX7_light_48 ⟨_, rfl, ?_⟩
      have e : op_light S (nI c) y = (0, nI (ns_flames (ns_lightNow (S_g S) c y) (S_g S 6)), so_g (so_save S) (ns_lightNow (S_g S) c y)) := by unfold op_light; rw [if_pos c_10b, ec, if_pos c_25]
      rw [e]
      exact ⟨(show M_41 o 6 = nI (0) from ((congrFun (h_41.2 o (by omega)) 6).trans (show M_35 o 6 = nI (0) from z6))), fun _ => rfl, qs.row h_41.1 (cq_only.rf.trans h_41.2), fs.trans (fun x hx => (show cq_only _ M_41 (o + 1) from (cq_only.rf.trans h_41.2)) x (by omega))⟩
    · have c_25 := cq_b0 h_22 c_25
      refine cq_aload_n F (i := 0) dX7_light_28 rfl rfl ?_
      refine cq_iconst F (v := 2) dX7_light_29 rfl ?_
      refine cq_callV F (C := RX7) (ci := 8) (kX7_fails l D cA X Bs o 2 M_2 ho) (cwV 1 F.1.2.2.2.2 gX7_light_X7_fails rfl rfl rfl hdVX7_fails ⟨Nat.le_of_ble_eq_true rfl, Nat.le_of_ble_eq_true rfl⟩) ho.kind ⟨by decide, by decide⟩ rfl rfl rfl (Nat.le_of_ble_eq_true rfl) dX7_light_30 ⟨Nat.le_of_ble_eq_true rfl, Nat.le_of_ble_eq_true rfl⟩ (cq_kI fun r_30 M_30 h_30 => ?_)
      obtain ⟨hr_30, h_30⟩ := h_30
      subst hr_30
      refine cq_iret F hr (by decide) (by decide) dX7_light_33 ⟨_, rfl, ?_⟩
      have e : op_light S (nI c) y = (2, 0, S) := by unfold op_light; rw [if_pos c_10b, ec, if_neg c_25]
      rw [e]
      exact ⟨by rw [h_30]; exact cq_up_s _ _ _ _, fun z => absurd (show (2 : Nat) = 0 from z) (by decide), q2.o h_30 (by omega) (by omega), f2.up h_30 (by omega) (by omega)⟩
  · have c_10 := cq_b0 h_7 c_10
    refine cq_aload_n F (i := 0) dX7_light_13 rfl rfl ?_
    refine cq_iconst F (v := 1) dX7_light_14 rfl ?_
    refine cq_callV F (C := RX7) (ci := 8) (kX7_fails l D cA X Bs o 1 M_2 ho) (cwV 1 F.1.2.2.2.2 gX7_light_X7_fails rfl rfl rfl hdVX7_fails ⟨Nat.le_of_ble_eq_true rfl, Nat.le_of_ble_eq_true rfl⟩) ho.kind ⟨by decide, by decide⟩ rfl rfl rfl (Nat.le_of_ble_eq_true rfl) dX7_light_15 ⟨Nat.le_of_ble_eq_true rfl, Nat.le_of_ble_eq_true rfl⟩ (cq_kI fun r_15 M_15 h_15 => ?_)
    obtain ⟨hr_15, h_15⟩ := h_15
    subst hr_15
    refine cq_iret F hr (by decide) (by decide) dX7_light_18 ⟨_, rfl, ?_⟩
    have e : op_light S u y = (1, 0, S) := if_neg c_10
    rw [e]
    exact ⟨by rw [h_15]; exact cq_up_s _ _ _ _, fun z => absurd (show (1 : Nat) = 0 from z) (by decide), q2.o h_15 (by omega) (by omega), f2.up h_15 (by omega) (by omega)⟩
theorem hdVX7_light : yX7_light.cls = RX7 ∧ yX7_light.cls ≠ "java/lang/invoke/MethodHandle" ∧ yX7_light.cls ≠ "java/lang/invoke/VarHandle" ∧ (parseMethodDescriptor yX7_light.desc).map (fun d => d.parameters.length) = some 2 := by decide +kernel
