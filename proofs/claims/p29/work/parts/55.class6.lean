/-! the class: calls that change the state -/
abbrev rmX6_light : Room := ({ frames := 7, cells := 2, slots := 12, locals := 111 })
set_option maxHeartbeats 4000000 in
set_option maxRecDepth 100000 in
theorem kX6_light (l : Launch) (hl : l.stackTraces = false) (D : va_G) (cA : Nat → ClassId) (X : cq_X) (Bs : Nat) (b B : Nat) (S : as_T) (u y : Int32) (M : cq_M) (hb : cq_isClock X b) (h : ck M b S) (hk : as_ok S B) : cq_T l yX6_light wsX6_light rmX6_light D cA X Bs [.ref b, .int u, .int y] M (cq_PI (fun r M1 => cw (op_light S u y) r M M1 b)) (fun E M1 => cx (op_light S u y) S [xI, xS] E M M1) 2 12 := by
  refine cq_met9 (cc := cX6_light) (maxL := 3) (ret := (some .int)) (by decide) rfl (Nat.le_of_ble_eq_true rfl) [(0, .ref b), (1, .int u), (2, .int y)] rfl rfl ?_
  intro p9 e9 s9 m9 b9 t9 c9 F hr hex
  have inX5 : ∀ w ∈ wsX50, w ∈ wsX6_light := (fun w h => List.mem_cons_of_mem _ (List.mem_append_left _ (List.mem_append_left _ (List.mem_append_left _ (List.mem_append_left _ (List.mem_append_left _ (List.mem_append_right _ h)))))))
  have inX6 : ∀ w ∈ wsX60, w ∈ wsX6_light := (fun w h => List.mem_cons_of_mem _ (List.mem_append_left _ (List.mem_append_left _ (List.mem_append_left _ (List.mem_append_left _ (List.mem_append_left _ (List.mem_append_left _ (List.mem_append_right _ h))))))))
  refine cq_aload_n F (i := 0) dX6_light_0 rfl rfl ?_
  refine cq_iload_n F (i := 1) dX6_light_1 rfl rfl ?_
  refine cq_xcallV F hex (C := RX6) (ci := 7) (kX6_requireCord l hl D cA X Bs b B S u M hb h hk) (cwV 1 F.1.2.2.2.2 gX6_light_X6_requireCord rfl rfl rfl hdVX6_requireCord ⟨Nat.le_of_ble_eq_true rfl, Nat.le_of_ble_eq_true rfl⟩) hb.kind ⟨by decide, by decide⟩ rfl rfl rfl (Nat.le_of_ble_eq_true rfl) dX6_light_2 ⟨Nat.le_of_ble_eq_true rfl, Nat.le_of_ble_eq_true rfl⟩ (⟨by decide, by decide⟩) (fun E M1 h => cx_of (k := 0) (if_neg h.2.2) (by rw [h.1]; rfl) h.2.1) (cq_kVq fun h_2 => ?_)
  have h_2b := h_2
  obtain ⟨c, hc, rfl⟩ := nI_cd (n := S_g S 6) (by have := hk.1.1; omega) h_2
  have ec : (nI c).toNatClampNeg = c := nI_clamp (by have := hk.1.1; omega)
  have hk6 := hk.1.1
  have hq := hk.1.2.2.2.1 c hc
  refine cq_aload_n F (i := 0) dX6_light_5 rfl rfl ?_
  refine cq_getT (t := (b + 1)) F (C := RX6) (T := TX6) (N := 9) (ci := 7) hb.kind rfl ⟨⟨by decide, by decide⟩, rfl⟩ inX6 0 (by decide) rfl rfl hb.t0 (F.1.2.2.2.2 _ (List.mem_of_getElem? (l := wsX6_light) (i := 3) (a := .fieldLink RX6 10 "CordClock" "now" "LCordClock$State;") (by decide +kernel))) dX6_light_6 ?_
  refine cq_getTN (t := ((b + 1) + 1)) F (C := RX5) (T := TX5) (N := 11) (ci := 6) hb.now.kind rfl ⟨⟨by decide, by decide⟩, rfl⟩ inX5 0 (by decide) rfl rfl hb.now.t0 (cq_nfw F.2.2.2.2 (List.mem_of_getElem? (l := cq_nf) (i := 1) rfl)) dX6_light_9 ?_
  refine cq_iload_n F (i := 1) dX6_light_12 rfl rfl ?_
  have hj_13 : c < 4 := (by omega)
  refine cq_aaldC_j F (j := c) (t := ((b + 1) + 7 + 2 * c)) hb.now.k1 hb.now.n1 rfl ⟨hj_13, by decide⟩ (hb.now.ct _ hj_13) dX6_light_13 ?_
  refine cq_iload_n F (i := 2) dX6_light_14 rfl rfl ?_
  refine cq_callV F (C := RX1) (ci := 2) (nX1_canBeLit (l := l) (D := D) (cA := cA) (Bs := Bs) y (hb.now.cord _ (by omega)) (h.1.2.1 c hc) hq) (cwV 1 F.1.2.2.2.2 gX6_light_X1_canBeLit rfl rfl rfl hdVX1_canBeLit ⟨Nat.le_of_ble_eq_true rfl, Nat.le_of_ble_eq_true rfl⟩) (hb.now.cord _ hj_13).kind ⟨by decide, by decide⟩ rfl rfl rfl (Nat.le_of_ble_eq_true rfl) dX6_light_15 ⟨Nat.le_of_ble_eq_true rfl, Nat.le_of_ble_eq_true rfl⟩ (cq_kIp fun r_15 h_15 => ?_)
  refine cq_if_ne F (tgt := 31) dX6_light_18 (by decide) (fun c_18 => ?_) (fun c_18 => ?_)
  · have c_18 := cq_b1 h_15 c_18
    have hkL := hk.1.light hc c_18
    have e6 : ns_lightNow (S_g S) c y 6 = S_g S 6 := ns_light_n (by omega) (by omega) (by omega)
    refine cq_aload_n F (i := 0) dX6_light_31 rfl rfl ?_
    refine cq_callV F (C := RX6) (ci := 7) (kX6_save l D cA X Bs b B S M hb h hk) (cwV 0 F.1.2.2.2.2 gX6_light_X6_save rfl rfl rfl hdVX6_save ⟨Nat.le_of_ble_eq_true rfl, Nat.le_of_ble_eq_true rfl⟩) hb.kind ⟨by decide, by decide⟩ rfl rfl rfl (Nat.le_of_ble_eq_true rfl) dX6_light_32 ⟨Nat.le_of_ble_eq_true rfl, Nat.le_of_ble_eq_true rfl⟩ (cq_kV fun M_32 h_32 => ?_)
    have hs32 := h_32.1
    have ht32 : cr_st M_32 (b + 1) (S_g S) := h_32.1.1
    refine cq_aload_n F (i := 0) dX6_light_35 rfl rfl ?_
    refine cq_getT (t := (b + 1)) F (C := RX6) (T := TX6) (N := 9) (ci := 7) hb.kind rfl ⟨⟨by decide, by decide⟩, rfl⟩ inX6 0 (by decide) rfl rfl hb.t0 (F.1.2.2.2.2 _ (List.mem_of_getElem? (l := wsX6_light) (i := 3) (a := .fieldLink RX6 10 "CordClock" "now" "LCordClock$State;") (by decide +kernel))) dX6_light_36 ?_
    refine cq_iload_n F (i := 1) dX6_light_39 rfl rfl ?_
    refine cq_iload_n F (i := 2) dX6_light_40 rfl rfl ?_
    refine cq_callV F (C := RX5) (ci := 6) (kX5_lightEnd l D cA X Bs (b + 1) B c y (S_g S) M_32 hb.now hs32.1 hk.1 hc c_18) (cwV 2 F.1.2.2.2.2 gX6_light_X5_lightEnd rfl rfl rfl hdVX5_lightEnd ⟨Nat.le_of_ble_eq_true rfl, Nat.le_of_ble_eq_true rfl⟩) hb.now.kind ⟨by decide, by decide⟩ rfl rfl rfl (Nat.le_of_ble_eq_true rfl) dX6_light_41 ⟨Nat.le_of_ble_eq_true rfl, Nat.le_of_ble_eq_true rfl⟩ (cq_kV fun M_41 h_41 => ?_)
    refine cq_aload_n F (i := 0) dX6_light_44 rfl rfl ?_
    refine cq_getT (t := (b + 1)) F (C := RX6) (T := TX6) (N := 9) (ci := 7) hb.kind rfl ⟨⟨by decide, by decide⟩, rfl⟩ inX6 0 (by decide) rfl rfl hb.t0 (F.1.2.2.2.2 _ (List.mem_of_getElem? (l := wsX6_light) (i := 3) (a := .fieldLink RX6 10 "CordClock" "now" "LCordClock$State;") (by decide +kernel))) dX6_light_45 ?_
    refine cq_callV F (C := RX5) (ci := 6) (kX5_flameCount l D cA X Bs (b + 1) B (ns_lightNow (S_g S) c y) M_41 hb.now h_41.1 hkL) (cwV 0 F.1.2.2.2.2 gX6_light_X5_flameCount rfl rfl rfl hdVX5_flameCount ⟨Nat.le_of_ble_eq_true rfl, Nat.le_of_ble_eq_true rfl⟩) hb.now.kind ⟨by decide, by decide⟩ rfl rfl rfl (Nat.le_of_ble_eq_true rfl) dX6_light_48 ⟨Nat.le_of_ble_eq_true rfl, Nat.le_of_ble_eq_true rfl⟩ (cq_kIp fun r_48 h_48 => ?_)
    rw [e6] at h_48
    subst h_48
    refine cq_ret9 ?_
    exact cq_iret F hr (by decide) (by decide) dX6_light_51 ⟨_, rfl, (cw_of (by unfold op_light; rw [if_pos h_2b, ec, if_pos c_18]) (hs32.now hk.save h_41.1 h_41.2) (h_32.2.trans (h_41.2.wide (by omega) (by omega))))⟩
  · have c_18 := cq_b0 h_15 c_18
    refine cq_throw F hl hex (by decide +kernel) (F.1.2.2.2.2 _ (List.mem_of_getElem? (l := wsX6_light) (i := 1) (a := .classLink RX6 59 "java/lang/IllegalStateException") (by decide +kernel))) (F.1.2.2.2.2 _ (List.mem_of_getElem? (l := wsX6_light) (i := 2) (a := .initialized "java/lang/IllegalStateException") (by decide +kernel))) (List.mem_of_getElem? (l := cq_sr) (i := 4) rfl) (fun w h => F.1.2.2.2.2 w ((fun w h => List.mem_cons_of_mem _ (List.mem_append_left _ (List.mem_append_right _ h))) w h)) xn_59_63 xg_59_63 dX6_light_21 dX6_light_24 dX6_light_25 dX6_light_27 dX6_light_30 ⟨by decide, Nat.le_of_ble_eq_true rfl, by decide, by decide⟩ ⟨by decide, by decide⟩ ?_
    exact (cx_of (k := 1) (by unfold op_light; rw [if_pos h_2b, ec, if_neg c_18]) rfl rfl)
theorem hdVX6_light : yX6_light.cls = RX6 ∧ yX6_light.cls ≠ "java/lang/invoke/MethodHandle" ∧ yX6_light.cls ≠ "java/lang/invoke/VarHandle" ∧ (parseMethodDescriptor yX6_light.desc).map (fun d => d.parameters.length) = some 2 := by decide +kernel
abbrev rmX6_renew : Room := ({ frames := 7, cells := 1, slots := 6, locals := 111 })
set_option maxHeartbeats 4000000 in
set_option maxRecDepth 100000 in
theorem kX6_renew (l : Launch) (hl : l.stackTraces = false) (D : va_G) (cA : Nat → ClassId) (X : cq_X) (Bs : Nat) (b B : Nat) (S : as_T) (u : Int32) (M : cq_M) (hb : cq_isClock X b) (h : ck M b S) (hk : as_ok S B) : cq_T l yX6_renew wsX6_renew rmX6_renew D cA X Bs [.ref b, .int u] M (cq_PI (fun r M1 => cw (op_renew S u) r M M1 b)) (fun E M1 => cx (op_renew S u) S [xI] E M M1) 1 6 := by
  refine cq_met9 (cc := cX6_renew) (maxL := 3) (ret := (some .int)) (by decide) rfl (Nat.le_of_ble_eq_true rfl) [(0, .ref b), (1, .int u)] rfl rfl ?_
  intro p9 e9 s9 m9 b9 t9 c9 F hr hex
  have inX5 : ∀ w ∈ wsX50, w ∈ wsX6_renew := (fun w h => List.mem_cons_of_mem _ (List.mem_append_left _ (List.mem_append_left _ (List.mem_append_left _ (List.mem_append_left _ (List.mem_append_right _ h))))))
  have inX6 : ∀ w ∈ wsX60, w ∈ wsX6_renew := (fun w h => List.mem_cons_of_mem _ (List.mem_append_left _ (List.mem_append_left _ (List.mem_append_left _ (List.mem_append_left _ (List.mem_append_left _ (List.mem_append_right _ h)))))))
  refine cq_aload_n F (i := 0) dX6_renew_0 rfl rfl ?_
  refine cq_iload_n F (i := 1) dX6_renew_1 rfl rfl ?_
  refine cq_xcallV F hex (C := RX6) (ci := 7) (kX6_requireCord l hl D cA X Bs b B S u M hb h hk) (cwV 1 F.1.2.2.2.2 gX6_renew_X6_requireCord rfl rfl rfl hdVX6_requireCord ⟨Nat.le_of_ble_eq_true rfl, Nat.le_of_ble_eq_true rfl⟩) hb.kind ⟨by decide, by decide⟩ rfl rfl rfl (Nat.le_of_ble_eq_true rfl) dX6_renew_2 ⟨Nat.le_of_ble_eq_true rfl, Nat.le_of_ble_eq_true rfl⟩ (⟨by decide, by decide⟩) (fun E M1 h => cx_of (k := 0) (if_neg h.2.2) (by rw [h.1]; rfl) h.2.1) (cq_kVq fun h_2 => ?_)
  have h_2b := h_2
  obtain ⟨c, hc, rfl⟩ := nI_cd (n := S_g S 6) (by have := hk.1.1; omega) h_2
  have ec : (nI c).toNatClampNeg = c := nI_clamp (by have := hk.1.1; omega)
  have hk6 := hk.1.1
  refine cq_aload_n F (i := 0) dX6_renew_5 rfl rfl ?_
  refine cq_callV F (C := RX6) (ci := 7) (kX6_save l D cA X Bs b B S M hb h hk) (cwV 0 F.1.2.2.2.2 gX6_renew_X6_save rfl rfl rfl hdVX6_save ⟨Nat.le_of_ble_eq_true rfl, Nat.le_of_ble_eq_true rfl⟩) hb.kind ⟨by decide, by decide⟩ rfl rfl rfl (Nat.le_of_ble_eq_true rfl) dX6_renew_6 ⟨Nat.le_of_ble_eq_true rfl, Nat.le_of_ble_eq_true rfl⟩ (cq_kV fun M_6 h_6 => ?_)
  have hs6 := h_6.1
  have ht6 : cr_st M_6 (b + 1) (S_g S) := h_6.1.1
  refine cq_aload_n F (i := 0) dX6_renew_9 rfl rfl ?_
  refine cq_getT (t := (b + 1)) F (C := RX6) (T := TX6) (N := 9) (ci := 7) hb.kind rfl ⟨⟨by decide, by decide⟩, rfl⟩ inX6 0 (by decide) rfl rfl hb.t0 (F.1.2.2.2.2 _ (List.mem_of_getElem? (l := wsX6_renew) (i := 1) (a := .fieldLink RX6 10 "CordClock" "now" "LCordClock$State;") (by decide +kernel))) dX6_renew_10 ?_
  refine cq_getTN (t := ((b + 1) + 1)) F (C := RX5) (T := TX5) (N := 11) (ci := 6) hb.now.kind rfl ⟨⟨by decide, by decide⟩, rfl⟩ inX5 0 (by decide) rfl rfl hb.now.t0 (cq_nfw F.2.2.2.2 (List.mem_of_getElem? (l := cq_nf) (i := 1) rfl)) dX6_renew_13 ?_
  refine cq_iload_n F (i := 1) dX6_renew_16 rfl rfl ?_
  have hj_17 : c < 4 := (by omega)
  refine cq_aaldC_j F (j := c) (t := ((b + 1) + 7 + 2 * c)) hb.now.k1 hb.now.n1 rfl ⟨hj_17, by decide⟩ (hb.now.ct _ hj_17) dX6_renew_17 ?_
  refine cq_callV F (C := RX1) (ci := 2) (nX1_burnedTime (l := l) (D := D) (cA := cA) (Bs := Bs) (hb.now.cord _ (by omega)) (hs6.1.2.1 c hc)) (cwV 0 F.1.2.2.2.2 gX6_renew_X1_burnedTime rfl rfl rfl hdVX1_burnedTime ⟨Nat.le_of_ble_eq_true rfl, Nat.le_of_ble_eq_true rfl⟩) (hb.now.cord _ hj_17).kind ⟨by decide, by decide⟩ rfl rfl rfl (Nat.le_of_ble_eq_true rfl) dX6_renew_18 ⟨Nat.le_of_ble_eq_true rfl, Nat.le_of_ble_eq_true rfl⟩ (cq_kIp fun r_18 h_18 => ?_)
  subst h_18
  refine cq_istore_n F (i := 2) dX6_renew_21 rfl (by decide) ?_
  refine cq_aload_n F (i := 0) dX6_renew_22 rfl rfl ?_
  refine cq_getT (t := (b + 1)) F (C := RX6) (T := TX6) (N := 9) (ci := 7) hb.kind rfl ⟨⟨by decide, by decide⟩, rfl⟩ inX6 0 (by decide) rfl rfl hb.t0 (F.1.2.2.2.2 _ (List.mem_of_getElem? (l := wsX6_renew) (i := 1) (a := .fieldLink RX6 10 "CordClock" "now" "LCordClock$State;") (by decide +kernel))) dX6_renew_23 ?_
  refine cq_getTN (t := ((b + 1) + 1)) F (C := RX5) (T := TX5) (N := 11) (ci := 6) hb.now.kind rfl ⟨⟨by decide, by decide⟩, rfl⟩ inX5 0 (by decide) rfl rfl hb.now.t0 (cq_nfw F.2.2.2.2 (List.mem_of_getElem? (l := cq_nf) (i := 1) rfl)) dX6_renew_26 ?_
  refine cq_iload_n F (i := 1) dX6_renew_29 rfl rfl ?_
  have hj_30 : c < 4 := (by omega)
  refine cq_aaldC_j F (j := c) (t := ((b + 1) + 7 + 2 * c)) hb.now.k1 hb.now.n1 rfl ⟨hj_30, by decide⟩ (hb.now.ct _ hj_30) dX6_renew_30 ?_
  refine cq_callV F (C := RX1) (ci := 2) (kX1_makeNew l D cA X Bs (b + 1 + 7 + 2 * c) M_6 (hb.now.cord _ (by omega))) (cwV 0 F.1.2.2.2.2 gX6_renew_X1_makeNew rfl rfl rfl hdVX1_makeNew ⟨Nat.le_of_ble_eq_true rfl, Nat.le_of_ble_eq_true rfl⟩) (hb.now.cord _ hj_30).kind ⟨by decide, by decide⟩ rfl rfl rfl (Nat.le_of_ble_eq_true rfl) dX6_renew_31 ⟨Nat.le_of_ble_eq_true rfl, Nat.le_of_ble_eq_true rfl⟩ (cq_kV fun M_31 h_31 => ?_)
  have s9 := ht6.renew hk.1 hc h_31
  refine cq_iload_n F (i := 2) dX6_renew_34 rfl rfl ?_
  refine cq_ret9 ?_
  exact cq_iret F hr (by decide) (by decide) dX6_renew_35 ⟨_, rfl, (cw_of (by unfold op_renew; rw [if_pos h_2b, ec]; rfl) (hs6.now hk.save s9.1 s9.2) (h_6.2.trans (s9.2.wide (by omega) (by omega))))⟩
theorem hdVX6_renew : yX6_renew.cls = RX6 ∧ yX6_renew.cls ≠ "java/lang/invoke/MethodHandle" ∧ yX6_renew.cls ≠ "java/lang/invoke/VarHandle" ∧ (parseMethodDescriptor yX6_renew.desc).map (fun d => d.parameters.length) = some 1 := by decide +kernel
abbrev rmX6_putOut : Room := ({ frames := 7, cells := 2, slots := 12, locals := 111 })
set_option maxHeartbeats 4000000 in
set_option maxRecDepth 100000 in
theorem kX6_putOut (l : Launch) (hl : l.stackTraces = false) (D : va_G) (cA : Nat → ClassId) (X : cq_X) (Bs : Nat) (b B : Nat) (S : as_T) (u y : Int32) (M : cq_M) (hb : cq_isClock X b) (h : ck M b S) (hk : as_ok S B) : cq_T l yX6_putOut wsX6_putOut rmX6_putOut D cA X Bs [.ref b, .int u, .int y] M (cq_PI (fun r M1 => cw (op_putOut S u y) r M M1 b)) (fun E M1 => cx (op_putOut S u y) S [xI, xS] E M M1) 2 12 := by
  refine cq_met9 (cc := cX6_putOut) (maxL := 3) (ret := (some .int)) (by decide) rfl (Nat.le_of_ble_eq_true rfl) [(0, .ref b), (1, .int u), (2, .int y)] rfl rfl ?_
  intro p9 e9 s9 m9 b9 t9 c9 F hr hex
  have inX5 : ∀ w ∈ wsX50, w ∈ wsX6_putOut := (fun w h => List.mem_cons_of_mem _ (List.mem_append_left _ (List.mem_append_left _ (List.mem_append_left _ (List.mem_append_left _ (List.mem_append_left _ (List.mem_append_right _ h)))))))
  have inX6 : ∀ w ∈ wsX60, w ∈ wsX6_putOut := (fun w h => List.mem_cons_of_mem _ (List.mem_append_left _ (List.mem_append_left _ (List.mem_append_left _ (List.mem_append_left _ (List.mem_append_left _ (List.mem_append_left _ (List.mem_append_right _ h))))))))
  refine cq_aload_n F (i := 0) dX6_putOut_0 rfl rfl ?_
  refine cq_iload_n F (i := 1) dX6_putOut_1 rfl rfl ?_
  refine cq_xcallV F hex (C := RX6) (ci := 7) (kX6_requireCord l hl D cA X Bs b B S u M hb h hk) (cwV 1 F.1.2.2.2.2 gX6_putOut_X6_requireCord rfl rfl rfl hdVX6_requireCord ⟨Nat.le_of_ble_eq_true rfl, Nat.le_of_ble_eq_true rfl⟩) hb.kind ⟨by decide, by decide⟩ rfl rfl rfl (Nat.le_of_ble_eq_true rfl) dX6_putOut_2 ⟨Nat.le_of_ble_eq_true rfl, Nat.le_of_ble_eq_true rfl⟩ (⟨by decide, by decide⟩) (fun E M1 h => cx_of (k := 0) (if_neg h.2.2) (by rw [h.1]; rfl) h.2.1) (cq_kVq fun h_2 => ?_)
  have h_2b := h_2
  obtain ⟨c, hc, rfl⟩ := nI_cd (n := S_g S 6) (by have := hk.1.1; omega) h_2
  have ec : (nI c).toNatClampNeg = c := nI_clamp (by have := hk.1.1; omega)
  have hk6 := hk.1.1
  have hq := hk.1.2.2.2.1 c hc
  refine cq_aload_n F (i := 0) dX6_putOut_5 rfl rfl ?_
  refine cq_getT (t := (b + 1)) F (C := RX6) (T := TX6) (N := 9) (ci := 7) hb.kind rfl ⟨⟨by decide, by decide⟩, rfl⟩ inX6 0 (by decide) rfl rfl hb.t0 (F.1.2.2.2.2 _ (List.mem_of_getElem? (l := wsX6_putOut) (i := 3) (a := .fieldLink RX6 10 "CordClock" "now" "LCordClock$State;") (by decide +kernel))) dX6_putOut_6 ?_
  refine cq_getTN (t := ((b + 1) + 1)) F (C := RX5) (T := TX5) (N := 11) (ci := 6) hb.now.kind rfl ⟨⟨by decide, by decide⟩, rfl⟩ inX5 0 (by decide) rfl rfl hb.now.t0 (cq_nfw F.2.2.2.2 (List.mem_of_getElem? (l := cq_nf) (i := 1) rfl)) dX6_putOut_9 ?_
  refine cq_iload_n F (i := 1) dX6_putOut_12 rfl rfl ?_
  have hj_13 : c < 4 := (by omega)
  refine cq_aaldC_j F (j := c) (t := ((b + 1) + 7 + 2 * c)) hb.now.k1 hb.now.n1 rfl ⟨hj_13, by decide⟩ (hb.now.ct _ hj_13) dX6_putOut_13 ?_
  refine cq_iload_n F (i := 2) dX6_putOut_14 rfl rfl ?_
  refine cq_callV F (C := RX1) (ci := 2) (nX1_hasFlame (l := l) (D := D) (cA := cA) (Bs := Bs) y (hb.now.cord _ (by omega)) (h.1.2.1 c hc) hq.2.2.2.1) (cwV 1 F.1.2.2.2.2 gX6_putOut_X1_hasFlame rfl rfl rfl hdVX1_hasFlame ⟨Nat.le_of_ble_eq_true rfl, Nat.le_of_ble_eq_true rfl⟩) (hb.now.cord _ hj_13).kind ⟨by decide, by decide⟩ rfl rfl rfl (Nat.le_of_ble_eq_true rfl) dX6_putOut_15 ⟨Nat.le_of_ble_eq_true rfl, Nat.le_of_ble_eq_true rfl⟩ (cq_kIp fun r_15 h_15 => ?_)
  refine cq_if_ne F (tgt := 31) dX6_putOut_18 (by decide) (fun c_18 => ?_) (fun c_18 => ?_)
  · have c_18 := cq_b1 h_15 c_18
    have hkL : ns_ok (ns_put (S_g S) c y) B := hk.1.flame hc (by have := hq.2.2.2.1; omega) (fun z => hq.2.2.2.2 (by omega))
    have e6 : ns_put (S_g S) c y 6 = S_g S 6 := ns_up_n (by omega)
    refine cq_aload_n F (i := 0) dX6_putOut_31 rfl rfl ?_
    refine cq_callV F (C := RX6) (ci := 7) (kX6_save l D cA X Bs b B S M hb h hk) (cwV 0 F.1.2.2.2.2 gX6_putOut_X6_save rfl rfl rfl hdVX6_save ⟨Nat.le_of_ble_eq_true rfl, Nat.le_of_ble_eq_true rfl⟩) hb.kind ⟨by decide, by decide⟩ rfl rfl rfl (Nat.le_of_ble_eq_true rfl) dX6_putOut_32 ⟨Nat.le_of_ble_eq_true rfl, Nat.le_of_ble_eq_true rfl⟩ (cq_kV fun M_32 h_32 => ?_)
    have hs32 := h_32.1
    have ht32 : cr_st M_32 (b + 1) (S_g S) := h_32.1.1
    refine cq_aload_n F (i := 0) dX6_putOut_35 rfl rfl ?_
    refine cq_getT (t := (b + 1)) F (C := RX6) (T := TX6) (N := 9) (ci := 7) hb.kind rfl ⟨⟨by decide, by decide⟩, rfl⟩ inX6 0 (by decide) rfl rfl hb.t0 (F.1.2.2.2.2 _ (List.mem_of_getElem? (l := wsX6_putOut) (i := 3) (a := .fieldLink RX6 10 "CordClock" "now" "LCordClock$State;") (by decide +kernel))) dX6_putOut_36 ?_
    refine cq_getTN (t := ((b + 1) + 1)) F (C := RX5) (T := TX5) (N := 11) (ci := 6) hb.now.kind rfl ⟨⟨by decide, by decide⟩, rfl⟩ inX5 0 (by decide) rfl rfl hb.now.t0 (cq_nfw F.2.2.2.2 (List.mem_of_getElem? (l := cq_nf) (i := 1) rfl)) dX6_putOut_39 ?_
    refine cq_iload_n F (i := 1) dX6_putOut_42 rfl rfl ?_
    have hj_43 : c < 4 := (by omega)
    refine cq_aaldC_j F (j := c) (t := ((b + 1) + 7 + 2 * c)) hb.now.k1 hb.now.n1 rfl ⟨hj_43, by decide⟩ (hb.now.ct _ hj_43) dX6_putOut_43 ?_
    refine cq_iload_n F (i := 2) dX6_putOut_44 rfl rfl ?_
    refine cq_iconst F (v := 0) dX6_putOut_45 rfl ?_
    refine cq_callV F (C := RX1) (ci := 2) (kX1_setFlame l D cA X Bs (b + 1 + 7 + 2 * c) y 0 M_32 (hb.now.cord _ (by omega)) (Or.inl rfl)) (cwV 2 F.1.2.2.2.2 gX6_putOut_X1_setFlame rfl rfl rfl hdVX1_setFlame ⟨Nat.le_of_ble_eq_true rfl, Nat.le_of_ble_eq_true rfl⟩) (hb.now.cord _ hj_43).kind ⟨by decide, by decide⟩ rfl rfl rfl (Nat.le_of_ble_eq_true rfl) dX6_putOut_46 ⟨Nat.le_of_ble_eq_true rfl, Nat.le_of_ble_eq_true rfl⟩ (cq_kV fun M_46 h_46 => ?_)
    have s9 := ht32.put hk.1 hc c_18 h_46
    refine cq_aload_n F (i := 0) dX6_putOut_49 rfl rfl ?_
    refine cq_getT (t := (b + 1)) F (C := RX6) (T := TX6) (N := 9) (ci := 7) hb.kind rfl ⟨⟨by decide, by decide⟩, rfl⟩ inX6 0 (by decide) rfl rfl hb.t0 (F.1.2.2.2.2 _ (List.mem_of_getElem? (l := wsX6_putOut) (i := 3) (a := .fieldLink RX6 10 "CordClock" "now" "LCordClock$State;") (by decide +kernel))) dX6_putOut_50 ?_
    refine cq_callV F (C := RX5) (ci := 6) (kX5_flameCount l D cA X Bs (b + 1) B (ns_put (S_g S) c y) M_46 hb.now s9.1 hkL) (cwV 0 F.1.2.2.2.2 gX6_putOut_X5_flameCount rfl rfl rfl hdVX5_flameCount ⟨Nat.le_of_ble_eq_true rfl, Nat.le_of_ble_eq_true rfl⟩) hb.now.kind ⟨by decide, by decide⟩ rfl rfl rfl (Nat.le_of_ble_eq_true rfl) dX6_putOut_53 ⟨Nat.le_of_ble_eq_true rfl, Nat.le_of_ble_eq_true rfl⟩ (cq_kIp fun r_53 h_53 => ?_)
    rw [e6] at h_53
    subst h_53
    refine cq_ret9 ?_
    exact cq_iret F hr (by decide) (by decide) dX6_putOut_56 ⟨_, rfl, (cw_of (by unfold op_putOut; rw [if_pos h_2b, ec, if_neg c_18]) (hs32.now hk.save s9.1 s9.2) (h_32.2.trans (s9.2.wide (by omega) (by omega))))⟩
  · have c_18 := cq_b0 h_15 c_18
    refine cq_throw F hl hex (by decide +kernel) (F.1.2.2.2.2 _ (List.mem_of_getElem? (l := wsX6_putOut) (i := 1) (a := .classLink RX6 59 "java/lang/IllegalStateException") (by decide +kernel))) (F.1.2.2.2.2 _ (List.mem_of_getElem? (l := wsX6_putOut) (i := 2) (a := .initialized "java/lang/IllegalStateException") (by decide +kernel))) (List.mem_of_getElem? (l := cq_sr) (i := 5) rfl) (fun w h => F.1.2.2.2.2 w ((fun w h => List.mem_cons_of_mem _ (List.mem_append_left _ (List.mem_append_right _ h))) w h)) xn_59_63 xg_59_63 dX6_putOut_21 dX6_putOut_24 dX6_putOut_25 dX6_putOut_27 dX6_putOut_30 ⟨by decide, Nat.le_of_ble_eq_true rfl, by decide, by decide⟩ ⟨by decide, by decide⟩ ?_
    exact (cx_of (k := 1) (by unfold op_putOut; rw [if_pos h_2b, ec, if_pos (Classical.not_not.mp c_18)]) rfl rfl)
theorem hdVX6_putOut : yX6_putOut.cls = RX6 ∧ yX6_putOut.cls ≠ "java/lang/invoke/MethodHandle" ∧ yX6_putOut.cls ≠ "java/lang/invoke/VarHandle" ∧ (parseMethodDescriptor yX6_putOut.desc).map (fun d => d.parameters.length) = some 2 := by decide +kernel
abbrev rmX6_requireSegment : Room := ({ frames := 7, cells := 2, slots := 12, locals := 111 })
set_option maxHeartbeats 4000000 in
set_option maxRecDepth 100000 in
theorem kX6_requireSegment (l : Launch) (hl : l.stackTraces = false) (D : va_G) (cA : Nat → ClassId) (X : cq_X) (Bs : Nat) (b B : Nat) (S : as_T) (u w : Int32) (M : cq_M) (hb : cq_isClock X b) (h : ck M b S) (hk : as_ok S B) : cq_T l yX6_requireSegment wsX6_requireSegment rmX6_requireSegment D cA X Bs [.ref b, .int u, .int w] M (cq_PV (fun M1 => (op_cd S u ∧ 0 ≤ w ∧ w < nI (S_g S (7 + 11 * u.toNatClampNeg))) ∧ M1 = M)) (fun E M1 => E = xI ∧ M1 = M ∧ ¬ (op_cd S u ∧ 0 ≤ w ∧ w < nI (S_g S (7 + 11 * u.toNatClampNeg)))) 2 12 := by
  refine cq_met9 (cc := cX6_requireSegment) (maxL := 3) (ret := none) (by decide) rfl (Nat.le_of_ble_eq_true rfl) [(0, .ref b), (1, .int u), (2, .int w)] rfl rfl ?_
  intro p9 e9 s9 m9 b9 t9 c9 F hr hex
  have inX1 : ∀ w ∈ wsX10, w ∈ wsX6_requireSegment := (fun w h => List.mem_cons_of_mem _ (List.mem_append_left _ (List.mem_append_right _ h)))
  have inX5 : ∀ w ∈ wsX50, w ∈ wsX6_requireSegment := (fun w h => List.mem_cons_of_mem _ (List.mem_append_left _ (List.mem_append_left _ (List.mem_append_right _ h))))
  have inX6 : ∀ w ∈ wsX60, w ∈ wsX6_requireSegment := (fun w h => List.mem_cons_of_mem _ (List.mem_append_left _ (List.mem_append_left _ (List.mem_append_left _ (List.mem_append_right _ h)))))
  refine cq_aload_n F (i := 0) dX6_requireSegment_0 rfl rfl ?_
  refine cq_iload_n F (i := 1) dX6_requireSegment_1 rfl rfl ?_
  refine cq_xcallV F hex (C := RX6) (ci := 7) (kX6_requireCord l hl D cA X Bs b B S u M hb h hk) (cwV 1 F.1.2.2.2.2 gX6_requireSegment_X6_requireCord rfl rfl rfl hdVX6_requireCord ⟨Nat.le_of_ble_eq_true rfl, Nat.le_of_ble_eq_true rfl⟩) hb.kind ⟨by decide, by decide⟩ rfl rfl rfl (Nat.le_of_ble_eq_true rfl) dX6_requireSegment_2 ⟨Nat.le_of_ble_eq_true rfl, Nat.le_of_ble_eq_true rfl⟩ (⟨by decide, by decide⟩) (fun E M1 h => ⟨h.1, h.2.1, fun z => h.2.2 z.1⟩) (cq_kVq fun h_2 => ?_)
  have h_2b := h_2
  obtain ⟨c, hc, rfl⟩ := nI_cd (n := S_g S 6) (by have := hk.1.1; omega) h_2
  have ec : (nI c).toNatClampNeg = c := nI_clamp (by have := hk.1.1; omega)
  have hk6 := hk.1.1
  refine cq_iload_n F (i := 2) dX6_requireSegment_5 rfl rfl ?_
  refine cq_if_lt F (tgt := 25) dX6_requireSegment_6 (by decide) (fun c_6 => ?_) (fun c_6 => ?_)
  · refine cq_throwW F hl hex (by decide +kernel) (F.1.2.2.2.2 _ (List.mem_of_getElem? (l := wsX6_requireSegment) (i := 1) (a := .classLink RX6 232 "java/lang/IndexOutOfBoundsException") (by decide +kernel))) (F.1.2.2.2.2 _ (List.mem_of_getElem? (l := wsX6_requireSegment) (i := 2) (a := .initialized "java/lang/IndexOutOfBoundsException") (by decide +kernel))) (List.mem_of_getElem? (l := cq_sr) (i := 18) rfl) (fun w h => F.1.2.2.2.2 w ((fun w h => List.mem_cons_of_mem _ (List.mem_append_right _ h)) w h)) xn_232_236 xg_232_236 dX6_requireSegment_25 dX6_requireSegment_28 dX6_requireSegment_29 dX6_requireSegment_32 dX6_requireSegment_35 ⟨by decide, Nat.le_of_ble_eq_true rfl, by decide, by decide⟩ ⟨by decide, by decide⟩ ?_
    exact ⟨rfl, rfl, fun z => by first | exact absurd z.2.1 (Int32.not_le.mpr c_6) | exact c_22 (by have z2 := z.2.2; rw [ec] at z2; exact z2)⟩
  · refine cq_iload_n F (i := 2) dX6_requireSegment_9 rfl rfl ?_
    refine cq_aload_n F (i := 0) dX6_requireSegment_10 rfl rfl ?_
    refine cq_getT (t := (b + 1)) F (C := RX6) (T := TX6) (N := 9) (ci := 7) hb.kind rfl ⟨⟨by decide, by decide⟩, rfl⟩ inX6 0 (by decide) rfl rfl hb.t0 (F.1.2.2.2.2 _ (List.mem_of_getElem? (l := wsX6_requireSegment) (i := 3) (a := .fieldLink RX6 10 "CordClock" "now" "LCordClock$State;") (by decide +kernel))) dX6_requireSegment_11 ?_
    refine cq_getTN (t := ((b + 1) + 1)) F (C := RX5) (T := TX5) (N := 11) (ci := 6) hb.now.kind rfl ⟨⟨by decide, by decide⟩, rfl⟩ inX5 0 (by decide) rfl rfl hb.now.t0 (cq_nfw F.2.2.2.2 (List.mem_of_getElem? (l := cq_nf) (i := 1) rfl)) dX6_requireSegment_14 ?_
    refine cq_iload_n F (i := 1) dX6_requireSegment_17 rfl rfl ?_
    have hj_18 : c < 4 := (by omega)
    refine cq_aaldC_j F (j := c) (t := ((b + 1) + 7 + 2 * c)) hb.now.k1 hb.now.n1 rfl ⟨hj_18, by decide⟩ (hb.now.ct _ hj_18) dX6_requireSegment_18 ?_
    refine cq_getIN F (C := RX1) (T := TX1) (N := 8) (ci := 2) (hb.now.cord _ hj_18).kind rfl ⟨⟨by decide, by decide⟩, rfl⟩ inX1 1 (by decide) rfl rfl (cq_nfw F.2.2.2.2 (List.mem_of_getElem? (l := cq_nf) (i := 7) rfl)) dX6_requireSegment_19 ?_
    rw [(h.1.2.1 c hc).1]
    refine cq_icmp_lt F (tgt := 36) dX6_requireSegment_22 (by decide) (fun c_22 => ?_) (fun c_22 => ?_)
    · refine cq_ret9 ?_
      exact cq_vret F hr (by decide) (by decide) dX6_requireSegment_36 ⟨rfl, ⟨⟨h_2b, Int32.not_lt.mp c_6, by rw [ec]; exact c_22⟩, rfl⟩⟩
    · refine cq_throwW F hl hex (by decide +kernel) (F.1.2.2.2.2 _ (List.mem_of_getElem? (l := wsX6_requireSegment) (i := 1) (a := .classLink RX6 232 "java/lang/IndexOutOfBoundsException") (by decide +kernel))) (F.1.2.2.2.2 _ (List.mem_of_getElem? (l := wsX6_requireSegment) (i := 2) (a := .initialized "java/lang/IndexOutOfBoundsException") (by decide +kernel))) (List.mem_of_getElem? (l := cq_sr) (i := 18) rfl) (fun w h => F.1.2.2.2.2 w ((fun w h => List.mem_cons_of_mem _ (List.mem_append_right _ h)) w h)) xn_232_236 xg_232_236 dX6_requireSegment_25 dX6_requireSegment_28 dX6_requireSegment_29 dX6_requireSegment_32 dX6_requireSegment_35 ⟨by decide, Nat.le_of_ble_eq_true rfl, by decide, by decide⟩ ⟨by decide, by decide⟩ ?_
      exact ⟨rfl, rfl, fun z => by first | exact absurd z.2.1 (Int32.not_le.mpr c_6) | exact c_22 (by have z2 := z.2.2; rw [ec] at z2; exact z2)⟩
theorem hdVX6_requireSegment : yX6_requireSegment.cls = RX6 ∧ yX6_requireSegment.cls ≠ "java/lang/invoke/MethodHandle" ∧ yX6_requireSegment.cls ≠ "java/lang/invoke/VarHandle" ∧ (parseMethodDescriptor yX6_requireSegment.desc).map (fun d => d.parameters.length) = some 2 := by decide +kernel
abbrev rmX6_uneven : Room := ({ frames := 8, cells := 3, slots := 18, locals := 133 })
set_option maxHeartbeats 4000000 in
set_option maxRecDepth 100000 in
theorem kX6_uneven (l : Launch) (hl : l.stackTraces = false) (D : va_G) (cA : Nat → ClassId) (X : cq_X) (Bs : Nat) (b B : Nat) (S : as_T) (u w t : Int32) (M : cq_M) (hb : cq_isClock X b) (h : ck M b S) (hk : as_ok S B) : cq_T l yX6_uneven wsX6_uneven rmX6_uneven D cA X Bs [.ref b, .int u, .int w, .int t] M (cq_PI (fun r M1 => cw (op_uneven S u w t) r M M1 b)) (fun E M1 => cx (op_uneven S u w t) S [xI, xA, xS] E M M1) 3 18 := by
  refine cq_met9 (cc := cX6_uneven) (maxL := 6) (ret := (some .int)) (by decide) rfl (Nat.le_of_ble_eq_true rfl) [(0, .ref b), (1, .int u), (2, .int w), (3, .int t)] rfl rfl ?_
  intro p9 e9 s9 m9 b9 t9 c9 F hr hex
  have inX1 : ∀ w ∈ wsX10, w ∈ wsX6_uneven := (fun w h => List.mem_cons_of_mem _ (List.mem_append_left _ (List.mem_append_left _ (List.mem_append_left _ (List.mem_append_left _ (List.mem_append_left _ (List.mem_append_right _ h)))))))
  have inX5 : ∀ w ∈ wsX50, w ∈ wsX6_uneven := (fun w h => List.mem_cons_of_mem _ (List.mem_append_left _ (List.mem_append_left _ (List.mem_append_left _ (List.mem_append_left _ (List.mem_append_left _ (List.mem_append_left _ (List.mem_append_right _ h))))))))
  have inX6 : ∀ w ∈ wsX60, w ∈ wsX6_uneven := (fun w h => List.mem_cons_of_mem _ (List.mem_append_left _ (List.mem_append_left _ (List.mem_append_left _ (List.mem_append_left _ (List.mem_append_left _ (List.mem_append_left _ (List.mem_append_left _ (List.mem_append_right _ h)))))))))
  refine cq_aload_n F (i := 0) dX6_uneven_0 rfl rfl ?_
  refine cq_iload_n F (i := 1) dX6_uneven_1 rfl rfl ?_
  refine cq_iload_n F (i := 2) dX6_uneven_2 rfl rfl ?_
  refine cq_xcallV F hex (C := RX6) (ci := 7) (kX6_requireSegment l hl D cA X Bs b B S u w M hb h hk) (cwV 2 F.1.2.2.2.2 gX6_uneven_X6_requireSegment rfl rfl rfl hdVX6_requireSegment ⟨Nat.le_of_ble_eq_true rfl, Nat.le_of_ble_eq_true rfl⟩) hb.kind ⟨by decide, by decide⟩ rfl rfl rfl (Nat.le_of_ble_eq_true rfl) dX6_uneven_3 ⟨Nat.le_of_ble_eq_true rfl, Nat.le_of_ble_eq_true rfl⟩ (⟨by decide, by decide⟩) (fun E M1 h => cx_of (k := 0) (if_neg h.2.2) (by rw [h.1]; rfl) h.2.1) (cq_kVq fun h_3 => ?_)
  have h_3b := h_3
  obtain ⟨c, hc, rfl⟩ := nI_cd (n := S_g S 6) (by have := hk.1.1; omega) h_3.1
  have ec : (nI c).toNatClampNeg = c := nI_clamp (by have := hk.1.1; omega)
  have hq := hk.1.2.2.2.1 c hc
  have h7 := hq.1.2
  have hk6 := hk.1.1
  obtain ⟨s, hs, rfl⟩ := nI_cd (n := S_g S (7 + 11 * c)) (by omega) (by have z := h_3.2; rw [ec] at z; exact z)
  have es : (nI s).toNatClampNeg = s := nI_clamp (by omega)
  have hbt := hq.time
  have hbb : ns_burned (S_g S) c ≤ 360 := Nat.le_trans hq.2.2.1 hbt
  have hff := hq.2.2.2.1
  have hfl : ns_fl (S_g S (16 + 11 * c)) ≤ 2 := by unfold ns_fl; omega
  refine cq_iload_n F (i := 3) dX6_uneven_6 rfl rfl ?_
  refine cq_callS F (kX6_isSegmentTime l D cA X Bs t M) (va_cwS 1 F.1.2.2.2.2 gX6_uneven_X6_isSegmentTime rfl rfl rfl hdVX6_isSegmentTime.2 ⟨Nat.le_of_ble_eq_true rfl, Nat.le_of_ble_eq_true rfl⟩) rfl (Nat.le_of_ble_eq_true rfl) dX6_uneven_7 ⟨Nat.le_of_ble_eq_true rfl, Nat.le_of_ble_eq_true rfl⟩ (cq_kIp fun r_7 h_7 => ?_)
  refine cq_if_ne F (tgt := 23) dX6_uneven_10 (by decide) (fun c_10 => ?_) (fun c_10 => ?_)
  · have c_10 := cq_b1 h_7 c_10
    have c_10b := c_10
    obtain ⟨q, hq1, hq2, rfl⟩ := nI_ab (a := 1) (b := 60) (by omega) (by omega) c_10
    have eq : (nI q).toNatClampNeg = q := nI_clamp (by omega)
    refine cq_aload_n F (i := 0) dX6_uneven_23 rfl rfl ?_
    refine cq_getT (t := (b + 1)) F (C := RX6) (T := TX6) (N := 9) (ci := 7) hb.kind rfl ⟨⟨by decide, by decide⟩, rfl⟩ inX6 0 (by decide) rfl rfl hb.t0 (F.1.2.2.2.2 _ (List.mem_of_getElem? (l := wsX6_uneven) (i := 5) (a := .fieldLink RX6 10 "CordClock" "now" "LCordClock$State;") (by decide +kernel))) dX6_uneven_24 ?_
    refine cq_getTN (t := ((b + 1) + 1)) F (C := RX5) (T := TX5) (N := 11) (ci := 6) hb.now.kind rfl ⟨⟨by decide, by decide⟩, rfl⟩ inX5 0 (by decide) rfl rfl hb.now.t0 (cq_nfw F.2.2.2.2 (List.mem_of_getElem? (l := cq_nf) (i := 1) rfl)) dX6_uneven_27 ?_
    refine cq_iload_n F (i := 1) dX6_uneven_30 rfl rfl ?_
    have hj_31 : c < 4 := (by omega)
    refine cq_aaldC_j F (j := c) (t := ((b + 1) + 7 + 2 * c)) hb.now.k1 hb.now.n1 rfl ⟨hj_31, by decide⟩ (hb.now.ct _ hj_31) dX6_uneven_31 ?_
    refine cq_astore F dX6_uneven_32 (by decide) ?_
    refine cq_aload F dX6_uneven_34 rfl ?_
    refine cq_callV F (C := RX1) (ci := 2) (nX1_burnedTime (l := l) (D := D) (cA := cA) (Bs := Bs) (hb.now.cord _ (by omega)) (h.1.2.1 c hc)) (cwV 0 F.1.2.2.2.2 gX6_uneven_X1_burnedTime rfl rfl rfl hdVX1_burnedTime ⟨Nat.le_of_ble_eq_true rfl, Nat.le_of_ble_eq_true rfl⟩) (hb.now.cord _ hj_31).kind ⟨by decide, by decide⟩ rfl rfl rfl (Nat.le_of_ble_eq_true rfl) dX6_uneven_36 ⟨Nat.le_of_ble_eq_true rfl, Nat.le_of_ble_eq_true rfl⟩ (cq_kIp fun r_36 h_36 => ?_)
    subst h_36
    refine cq_if_gt F (tgt := 50) dX6_uneven_39 (by decide) (fun c_39 => ?_) (fun c_39 => ?_)
    · have c_39 : 0 < (ns_burned (S_g S) c) := (nI_b (a := 0) (b := (ns_burned (S_g S) c)) (by omega) (by omega)).2.1.mp c_39
      refine cq_throw F hl hex (by decide +kernel) (F.1.2.2.2.2 _ (List.mem_of_getElem? (l := wsX6_uneven) (i := 3) (a := .classLink RX6 59 "java/lang/IllegalStateException") (by decide +kernel))) (F.1.2.2.2.2 _ (List.mem_of_getElem? (l := wsX6_uneven) (i := 4) (a := .initialized "java/lang/IllegalStateException") (by decide +kernel))) (List.mem_of_getElem? (l := cq_sr) (i := 3) rfl) (fun w h => F.1.2.2.2.2 w ((fun w h => List.mem_cons_of_mem _ (List.mem_append_left _ (List.mem_append_right _ h))) w h)) xn_59_63 xg_59_63 dX6_uneven_50 dX6_uneven_53 dX6_uneven_54 dX6_uneven_56 dX6_uneven_59 ⟨by decide, Nat.le_of_ble_eq_true rfl, by decide, by decide⟩ ⟨by decide, by decide⟩ ?_
      exact (cx_of (k := 2) (by unfold op_uneven; rw [if_pos h_3b, if_pos c_10b, if_neg (fun z => by rw [ec] at z; have z2 := z.2; first | omega | (have c47 := c_47; unfold ns_fl at c47; rw [z2] at c47; omega))]) rfl rfl)
    · have c_39 : ¬ 0 < (ns_burned (S_g S) c) := fun z => c_39 ((nI_b (a := 0) (b := (ns_burned (S_g S) c)) (by omega) (by omega)).2.1.mpr z)
      refine cq_aload F dX6_uneven_42 rfl ?_
      refine cq_callV F (C := RX1) (ci := 2) (nX1_flameCount (l := l) (D := D) (cA := cA) (Bs := Bs) (hb.now.cord _ (by omega)) (h.1.2.1 c hc) hff) (cwV 0 F.1.2.2.2.2 gX6_uneven_X1_flameCount rfl rfl rfl hdVX1_flameCount ⟨Nat.le_of_ble_eq_true rfl, Nat.le_of_ble_eq_true rfl⟩) (hb.now.cord _ hj_31).kind ⟨by decide, by decide⟩ rfl rfl rfl (Nat.le_of_ble_eq_true rfl) dX6_uneven_44 ⟨Nat.le_of_ble_eq_true rfl, Nat.le_of_ble_eq_true rfl⟩ (cq_kIp fun r_44 h_44 => ?_)
      subst h_44
      refine cq_if_le F (tgt := 60) dX6_uneven_47 (by decide) (fun c_47 => ?_) (fun c_47 => ?_)
      · have c_47 : (ns_fl (S_g S (16 + 11 * c))) ≤ 0 := (nI_b (a := (ns_fl (S_g S (16 + 11 * c)))) (b := 0) (by omega) (by omega)).1.mp c_47
        refine cq_aload_n F (i := 0) dX6_uneven_60 rfl rfl ?_
        refine cq_callV F (C := RX6) (ci := 7) (kX6_save l D cA X Bs b B S M hb h hk) (cwV 0 F.1.2.2.2.2 gX6_uneven_X6_save rfl rfl rfl hdVX6_save ⟨Nat.le_of_ble_eq_true rfl, Nat.le_of_ble_eq_true rfl⟩) hb.kind ⟨by decide, by decide⟩ rfl rfl rfl (Nat.le_of_ble_eq_true rfl) dX6_uneven_61 ⟨Nat.le_of_ble_eq_true rfl, Nat.le_of_ble_eq_true rfl⟩ (cq_kV fun M_61 h_61 => ?_)
        have hs61 := h_61.1
        have ht61 : cr_st M_61 (b + 1) (S_g S) := h_61.1.1
        refine cq_aload F dX6_uneven_64 rfl ?_
        refine cq_getTN (t := (((b + 1) + 7 + 2 * c) + 1)) F (C := RX1) (T := TX1) (N := 8) (ci := 2) (hb.now.cord _ hj_31).kind rfl ⟨⟨by decide, by decide⟩, rfl⟩ inX1 0 (by decide) rfl rfl (hb.now.cord _ hj_31).t0 (cq_nfw F.2.2.2.2 (List.mem_of_getElem? (l := cq_nf) (i := 2) rfl)) dX6_uneven_66 ?_
        refine cq_iload_n F (i := 2) dX6_uneven_69 rfl rfl ?_
        refine cq_iald_j F (j := s) (hb.now.cord _ hj_31).k1 (hb.now.cord _ hj_31).n1 rfl ⟨(by omega), by decide⟩ dX6_uneven_70 ?_
        rw [(ht61.2.1 c hc).2.2.2.2.2.2.2 s hs]
        refine cq_istore F dX6_uneven_71 (by decide) ?_
        refine cq_aload F dX6_uneven_73 rfl ?_
        refine cq_iload_n F (i := 2) dX6_uneven_75 rfl rfl ?_
        refine cq_iload_n F (i := 3) dX6_uneven_76 rfl rfl ?_
        refine cq_callV F (C := RX1) (ci := 2) (kX1_changeTime l D cA X Bs (b + 1 + 7 + 2 * c) s (nI q) M_61 (hb.now.cord _ (by omega)) (by omega)) (cwV 2 F.1.2.2.2.2 gX6_uneven_X1_changeTime rfl rfl rfl hdVX1_changeTime ⟨Nat.le_of_ble_eq_true rfl, Nat.le_of_ble_eq_true rfl⟩) (hb.now.cord _ hj_31).kind ⟨by decide, by decide⟩ rfl rfl rfl (Nat.le_of_ble_eq_true rfl) dX6_uneven_77 ⟨Nat.le_of_ble_eq_true rfl, Nat.le_of_ble_eq_true rfl⟩ (cq_kV fun M_77 h_77 => ?_)
        have s9 := ht61.seg hk.1 hc hs h_77
        refine cq_iload F dX6_uneven_80 rfl ?_
        refine cq_ret9 ?_
        exact cq_iret F hr (by decide) (by decide) dX6_uneven_82 ⟨_, rfl, (cw_of (by unfold op_uneven; rw [if_pos h_3b, if_pos c_10b, ec, es, eq, if_pos ⟨by omega, by have c47 := c_47; unfold ns_fl at c47; omega⟩]) (hs61.now hk.save s9.1 s9.2) (h_61.2.trans (s9.2.wide (by omega) (by omega))))⟩
      · have c_47 : ¬ (ns_fl (S_g S (16 + 11 * c))) ≤ 0 := fun z => c_47 ((nI_b (a := (ns_fl (S_g S (16 + 11 * c)))) (b := 0) (by omega) (by omega)).1.mpr z)
        refine cq_throw F hl hex (by decide +kernel) (F.1.2.2.2.2 _ (List.mem_of_getElem? (l := wsX6_uneven) (i := 3) (a := .classLink RX6 59 "java/lang/IllegalStateException") (by decide +kernel))) (F.1.2.2.2.2 _ (List.mem_of_getElem? (l := wsX6_uneven) (i := 4) (a := .initialized "java/lang/IllegalStateException") (by decide +kernel))) (List.mem_of_getElem? (l := cq_sr) (i := 3) rfl) (fun w h => F.1.2.2.2.2 w ((fun w h => List.mem_cons_of_mem _ (List.mem_append_left _ (List.mem_append_right _ h))) w h)) xn_59_63 xg_59_63 dX6_uneven_50 dX6_uneven_53 dX6_uneven_54 dX6_uneven_56 dX6_uneven_59 ⟨by decide, Nat.le_of_ble_eq_true rfl, by decide, by decide⟩ ⟨by decide, by decide⟩ ?_
        exact (cx_of (k := 2) (by unfold op_uneven; rw [if_pos h_3b, if_pos c_10b, if_neg (fun z => by rw [ec] at z; have z2 := z.2; first | omega | (have c47 := c_47; unfold ns_fl at c47; rw [z2] at c47; omega))]) rfl rfl)
  · have c_10 := cq_b0 h_7 c_10
    refine cq_throw F hl hex (by decide +kernel) (F.1.2.2.2.2 _ (List.mem_of_getElem? (l := wsX6_uneven) (i := 1) (a := .classLink RX6 48 "java/lang/IllegalArgumentException") (by decide +kernel))) (F.1.2.2.2.2 _ (List.mem_of_getElem? (l := wsX6_uneven) (i := 2) (a := .initialized "java/lang/IllegalArgumentException") (by decide +kernel))) (List.mem_of_getElem? (l := cq_sr) (i := 2) rfl) (fun w h => F.1.2.2.2.2 w ((fun w h => List.mem_cons_of_mem _ (List.mem_append_left _ (List.mem_append_left _ (List.mem_append_right _ h)))) w h)) xn_48_52 xg_48_52 dX6_uneven_13 dX6_uneven_16 dX6_uneven_17 dX6_uneven_19 dX6_uneven_22 ⟨by decide, Nat.le_of_ble_eq_true rfl, by decide, by decide⟩ ⟨by decide, by decide⟩ ?_
    exact (cx_of (k := 1) (by unfold op_uneven; rw [if_pos h_3b, if_neg c_10]) rfl rfl)
theorem hdVX6_uneven : yX6_uneven.cls = RX6 ∧ yX6_uneven.cls ≠ "java/lang/invoke/MethodHandle" ∧ yX6_uneven.cls ≠ "java/lang/invoke/VarHandle" ∧ (parseMethodDescriptor yX6_uneven.desc).map (fun d => d.parameters.length) = some 3 := by decide +kernel
abbrev rmX5_addRule : Room := ({ frames := 0, cells := 0, slots := 0, locals := 0 })
set_option maxHeartbeats 4000000 in
set_option maxRecDepth 100000 in
theorem kX5_addRule (l : Launch) (D : va_G) (cA : Nat → ClassId) (X : cq_X) (Bs : Nat) (b B a c y : Nat) (g : Nat → Nat) (M : cq_M) (hb : cq_isState X b) (hs : cr_st M b g) (hk : ns_ok g B) (h51 : g 51 < 8) (hy : y ≤ 1) : cq_C l yX5_addRule wsX5_addRule rmX5_addRule D cA X Bs [.ref b, .int (nI a), .int (nI c), .int (nI y)] M (cq_PV (fun M1 => cr_st M1 b (ns_newRule g a c y) ∧ cr_fr M M1 b 23)) 0 0 := by
  refine cq_met (cc := cX5_addRule) (maxL := 5) (ret := none) (by decide) rfl (Nat.le_of_ble_eq_true rfl) [(0, .ref b), (1, .int (nI a)), (2, .int (nI c)), (3, .int (nI y))] rfl rfl ?_
  intro p9 e9 s9 m9 b9 t9 c9 F hr
  have inX4 : ∀ w ∈ wsX40, w ∈ wsX5_addRule := (fun w h => List.mem_cons_of_mem _ (List.mem_append_right _ h))
  have inX5 : ∀ w ∈ wsX50, w ∈ wsX5_addRule := (fun w h => List.mem_cons_of_mem _ (List.mem_append_left _ (List.mem_append_right _ h)))
  refine cq_aload_n F (i := 0) dX5_addRule_0 rfl rfl ?_
  refine cq_getT (t := (b + 2)) F (C := RX5) (T := TX5) (N := 11) (ci := 6) hb.kind rfl ⟨⟨by decide, by decide⟩, rfl⟩ inX5 2 (by decide) rfl rfl hb.t2 (F.1.2.2.2.2 _ (List.mem_of_getElem? (l := wsX5_addRule) (i := 1) (a := .fieldLink RX5 19 "CordClock$State" "rules" "[LCordClock$Rule;") (by decide +kernel))) dX5_addRule_1 ?_
  refine cq_aload_n F (i := 0) dX5_addRule_4 rfl rfl ?_
  refine cq_getI F (C := RX5) (T := TX5) (N := 11) (ci := 6) hb.kind rfl ⟨⟨by decide, by decide⟩, rfl⟩ inX5 3 (by decide) rfl rfl (F.1.2.2.2.2 _ (List.mem_of_getElem? (l := wsX5_addRule) (i := 2) (a := .fieldLink RX5 43 "CordClock$State" "ruleCount" "I") (by decide +kernel))) dX5_addRule_5 ?_
  rw [show M b 3 = nI (g 51) from (show M b 3 = nI (g 51) from hs.1.2.1)]
  have hj_8 : (g 51) < 8 := (by omega)
  refine cq_aaldU_j F (j := (g 51)) (t := (b + 15 + (g 51))) hb.k2 hb.n2 rfl ⟨hj_8, by decide⟩ (hb.rt _ hj_8) dX5_addRule_8 ?_
  refine cq_astore F dX5_addRule_9 (by decide) ?_
  refine cq_aload F dX5_addRule_11 rfl ?_
  refine cq_iload_n F (i := 1) dX5_addRule_13 rfl rfl ?_
  refine cq_putN F (C := RX4) (T := TX4) (N := 4) (ci := 5) (hb.rule _ hj_8).kind rfl ⟨⟨by decide, by decide⟩, rfl⟩ inX4 tyX4 tyX4_ok nmX4 0 (by decide) rfl rfl (cq_nfw F.2.2.2.2 (List.mem_of_getElem? (l := cq_nf) (i := 25) rfl)) rfl (by rfl) (by rfl) dX5_addRule_14 (fun M_14 h_14 => ?_)
  refine cq_aload F dX5_addRule_17 rfl ?_
  refine cq_iload_n F (i := 2) dX5_addRule_19 rfl rfl ?_
  refine cq_putN F (C := RX4) (T := TX4) (N := 4) (ci := 5) (hb.rule _ hj_8).kind rfl ⟨⟨by decide, by decide⟩, rfl⟩ inX4 tyX4 tyX4_ok nmX4 1 (by decide) rfl rfl (cq_nfw F.2.2.2.2 (List.mem_of_getElem? (l := cq_nf) (i := 26) rfl)) rfl (by rfl) (by rfl) dX5_addRule_20 (fun M_20 h_20 => ?_)
  refine cq_aload F dX5_addRule_23 rfl ?_
  refine cq_iload_n F (i := 3) dX5_addRule_25 rfl rfl ?_
  refine cq_putN F (C := RX4) (T := TX4) (N := 4) (ci := 5) (hb.rule _ hj_8).kind rfl ⟨⟨by decide, by decide⟩, rfl⟩ inX4 tyX4 tyX4_ok nmX4 2 (by decide) rfl rfl (cq_nfw F.2.2.2.2 (List.mem_of_getElem? (l := cq_nf) (i := 27) rfl)) rfl (cq_zn (nI_01 hy)) (cq_fz (nI_01 hy)) dX5_addRule_26 (fun M_26 h_26 => ?_)
  refine cq_aload F dX5_addRule_29 rfl ?_
  refine cq_iconst F (v := 0) dX5_addRule_31 rfl ?_
  refine cq_putN F (C := RX4) (T := TX4) (N := 4) (ci := 5) (hb.rule _ hj_8).kind rfl ⟨⟨by decide, by decide⟩, rfl⟩ inX4 tyX4 tyX4_ok nmX4 3 (by decide) rfl rfl (cq_nfw F.2.2.2.2 (List.mem_of_getElem? (l := cq_nf) (i := 28) rfl)) rfl (by rfl) (by rfl) dX5_addRule_32 (fun M_32 h_32 => ?_)
  refine cq_aload_n F (i := 0) dX5_addRule_35 rfl rfl ?_
  refine cq_dup F dX5_addRule_36 rfl ?_
  refine cq_getI F (C := RX5) (T := TX5) (N := 11) (ci := 6) hb.kind rfl ⟨⟨by decide, by decide⟩, rfl⟩ inX5 3 (by decide) rfl rfl (F.1.2.2.2.2 _ (List.mem_of_getElem? (l := wsX5_addRule) (i := 2) (a := .fieldLink RX5 43 "CordClock$State" "ruleCount" "I") (by decide +kernel))) dX5_addRule_37 ?_
  rw [show M_32 b 3 = nI (g 51) from (show M_32 b 3 = nI (g 51) from (by rw [h_32, cq_up_a (by omega), h_26, cq_up_a (by omega), h_20, cq_up_a (by omega), h_14, cq_up_a (by omega)]; exact hs.1.2.1))]
  refine cq_iconst F (v := 1) dX5_addRule_40 rfl ?_
  refine cq_iadd F dX5_addRule_41 ?_
  rw [show (nI (g 51) + 1 : Int32) = nI ((g 51) + 1) from nI_add _ _]
  refine cq_put F (C := RX5) (T := TX5) (N := 11) (ci := 6) hb.kind rfl ⟨⟨by decide, by decide⟩, rfl⟩ inX5 tyX5 tyX5_ok nmX5 3 (by decide) rfl rfl (F.1.2.2.2.2 _ (List.mem_of_getElem? (l := wsX5_addRule) (i := 2) (a := .fieldLink RX5 43 "CordClock$State" "ruleCount" "I") (by decide +kernel))) rfl (by rfl) (by rfl) dX5_addRule_42 (fun M_42 h_42 => ?_)
  exact cq_vret F hr (by decide) (by decide) dX5_addRule_45 ⟨rfl, (hs.newRule hk h51 hy (by rw [h_42, h_32, h_26, h_20, h_14]))⟩
theorem hdVX5_addRule : yX5_addRule.cls = RX5 ∧ yX5_addRule.cls ≠ "java/lang/invoke/MethodHandle" ∧ yX5_addRule.cls ≠ "java/lang/invoke/VarHandle" ∧ (parseMethodDescriptor yX5_addRule.desc).map (fun d => d.parameters.length) = some 3 := by decide +kernel
abbrev rmX5_addCord : Room := ({ frames := 2, cells := 0, slots := 0, locals := 40 })
set_option maxHeartbeats 4000000 in
set_option maxRecDepth 100000 in
theorem kX5_addCord (l : Launch) (D : va_G) (cA : Nat → ClassId) (X : cq_X) (Bs : Nat) (b B : Nat) (g : Nat → Nat) (M : cq_M) (hb : cq_isState X b) (hs : cr_st M b g) (hk : ns_ok g B) (h6 : g 6 < 4) : cq_C l yX5_addCord wsX5_addCord rmX5_addCord D cA X Bs [.ref b] M (cq_PR (fun a M1 => a = b + 7 + 2 * g 6 ∧ ∀ q, ad_R M M1 b (g 6) 0 q)) 0 0 := by
  refine cq_met (cc := cX5_addCord) (maxL := 2) (ret := (some (.object "CordClock$Cord"))) (by decide) rfl (Nat.le_of_ble_eq_true rfl) [(0, .ref b)] rfl rfl ?_
  intro p9 e9 s9 m9 b9 t9 c9 F hr
  have inX5 : ∀ w ∈ wsX50, w ∈ wsX5_addCord := (fun w h => List.mem_cons_of_mem _ (List.mem_append_left _ (List.mem_append_right _ h)))
  refine cq_aload_n F (i := 0) dX5_addCord_0 rfl rfl ?_
  refine cq_getT (t := (b + 1)) F (C := RX5) (T := TX5) (N := 11) (ci := 6) hb.kind rfl ⟨⟨by decide, by decide⟩, rfl⟩ inX5 0 (by decide) rfl rfl hb.t0 (F.1.2.2.2.2 _ (List.mem_of_getElem? (l := wsX5_addCord) (i := 1) (a := .fieldLink RX5 11 "CordClock$State" "cords" "[LCordClock$Cord;") (by decide +kernel))) dX5_addCord_1 ?_
  refine cq_aload_n F (i := 0) dX5_addCord_4 rfl rfl ?_
  refine cq_getI F (C := RX5) (T := TX5) (N := 11) (ci := 6) hb.kind rfl ⟨⟨by decide, by decide⟩, rfl⟩ inX5 1 (by decide) rfl rfl (F.1.2.2.2.2 _ (List.mem_of_getElem? (l := wsX5_addCord) (i := 2) (a := .fieldLink RX5 36 "CordClock$State" "cordCount" "I") (by decide +kernel))) dX5_addCord_5 ?_
  rw [show M b 1 = nI (g 6) from (show M b 1 = nI (g 6) from hs.1.1)]
  have hj_8 : (g 6) < 4 := (by omega)
  refine cq_aaldC_j F (j := (g 6)) (t := (b + 7 + 2 * (g 6))) hb.k1 hb.n1 rfl ⟨hj_8, by decide⟩ (hb.ct _ hj_8) dX5_addCord_8 ?_
  refine cq_astore_n F (i := 1) dX5_addCord_9 rfl (by decide) ?_
  refine cq_aload_n F (i := 1) dX5_addCord_10 rfl rfl ?_
  refine cq_callV F (C := RX1) (ci := 2) (kX1_clear l D cA X Bs (b + 7 + 2 * g 6) M (hb.cord _ (by omega))) (cwV 0 F.1.2.2.2.2 gX5_addCord_X1_clear rfl rfl rfl hdVX1_clear ⟨Nat.le_of_ble_eq_true rfl, Nat.le_of_ble_eq_true rfl⟩) (hb.cord _ hj_8).kind ⟨by decide, by decide⟩ rfl rfl rfl (Nat.le_of_ble_eq_true rfl) dX5_addCord_11 ⟨Nat.le_of_ble_eq_true rfl, Nat.le_of_ble_eq_true rfl⟩ (cq_kV fun M_11 h_11 => ?_)
  refine cq_aload_n F (i := 0) dX5_addCord_14 rfl rfl ?_
  refine cq_dup F dX5_addCord_15 rfl ?_
  refine cq_getI F (C := RX5) (T := TX5) (N := 11) (ci := 6) hb.kind rfl ⟨⟨by decide, by decide⟩, rfl⟩ inX5 1 (by decide) rfl rfl (F.1.2.2.2.2 _ (List.mem_of_getElem? (l := wsX5_addCord) (i := 2) (a := .fieldLink RX5 36 "CordClock$State" "cordCount" "I") (by decide +kernel))) dX5_addCord_16 ?_
  rw [show M_11 b 1 = nI (g 6) from (show M_11 b 1 = nI (g 6) from (by rw [h_11]; repeat (first | exact hs.1.1 | rw [cq_up_a (by omega)])))]
  refine cq_iconst F (v := 1) dX5_addCord_19 rfl ?_
  refine cq_iadd F dX5_addCord_20 ?_
  rw [show (nI (g 6) + 1 : Int32) = nI ((g 6) + 1) from nI_add _ _]
  refine cq_put F (C := RX5) (T := TX5) (N := 11) (ci := 6) hb.kind rfl ⟨⟨by decide, by decide⟩, rfl⟩ inX5 tyX5 tyX5_ok nmX5 1 (by decide) rfl rfl (F.1.2.2.2.2 _ (List.mem_of_getElem? (l := wsX5_addCord) (i := 2) (a := .fieldLink RX5 36 "CordClock$State" "cordCount" "I") (by decide +kernel))) rfl (by rfl) (by rfl) dX5_addCord_21 (fun M_21 h_21 => ?_)
  refine cq_aload_n F (i := 1) dX5_addCord_24 rfl rfl ?_
  exact cq_aret F hr (Or.inl ⟨_, rfl⟩) (by decide) (by decide) dX5_addCord_25 ⟨_, rfl, ⟨rfl, fun q => ad_R.first (by rw [h_21, h_11])⟩⟩
theorem hdVX5_addCord : yX5_addCord.cls = RX5 ∧ yX5_addCord.cls ≠ "java/lang/invoke/MethodHandle" ∧ yX5_addCord.cls ≠ "java/lang/invoke/VarHandle" ∧ (parseMethodDescriptor yX5_addCord.desc).map (fun d => d.parameters.length) = some 0 := by decide +kernel
abbrev rmX6_rule : Room := ({ frames := 7, cells := 3, slots := 18, locals := 111 })
set_option maxHeartbeats 4000000 in
set_option maxRecDepth 100000 in
theorem kX6_rule (l : Launch) (hl : l.stackTraces = false) (D : va_G) (cA : Nat → ClassId) (X : cq_X) (Bs : Nat) (b B : Nat) (S : as_T) (a u : Int32) (y : Nat) (M : cq_M) (hb : cq_isClock X b) (h : ck M b S) (hk : as_ok S B) (hy : y ≤ 1) : cq_T l yX6_rule wsX6_rule rmX6_rule D cA X Bs [.ref b, .int a, .int u, .int (nI y)] M (cq_PI (fun r M1 => cw (op_rule S a u (nI y)) r M M1 b)) (fun E M1 => cx (op_rule S a u (nI y)) S [xI, xA, xS] E M M1) 3 18 := by
  refine cq_met9 (cc := cX6_rule) (maxL := 4) (ret := (some .int)) (by decide) rfl (Nat.le_of_ble_eq_true rfl) [(0, .ref b), (1, .int a), (2, .int u), (3, .int (nI y))] rfl rfl ?_
  intro p9 e9 s9 m9 b9 t9 c9 F hr hex
  have inX5 : ∀ w ∈ wsX50, w ∈ wsX6_rule := (fun w h => List.mem_cons_of_mem _ (List.mem_append_left _ (List.mem_append_left _ (List.mem_append_left _ (List.mem_append_left _ (List.mem_append_left _ (List.mem_append_left _ (List.mem_append_right _ h))))))))
  have inX6 : ∀ w ∈ wsX60, w ∈ wsX6_rule := (fun w h => List.mem_cons_of_mem _ (List.mem_append_left _ (List.mem_append_left _ (List.mem_append_left _ (List.mem_append_left _ (List.mem_append_left _ (List.mem_append_left _ (List.mem_append_left _ (List.mem_append_right _ h)))))))))
  refine cq_aload_n F (i := 0) dX6_rule_0 rfl rfl ?_
  refine cq_iload_n F (i := 1) dX6_rule_1 rfl rfl ?_
  refine cq_xcallV F hex (C := RX6) (ci := 7) (kX6_requireCord l hl D cA X Bs b B S a M hb h hk) (cwV 1 F.1.2.2.2.2 gX6_rule_X6_requireCord rfl rfl rfl hdVX6_requireCord ⟨Nat.le_of_ble_eq_true rfl, Nat.le_of_ble_eq_true rfl⟩) hb.kind ⟨by decide, by decide⟩ rfl rfl rfl (Nat.le_of_ble_eq_true rfl) dX6_rule_2 ⟨Nat.le_of_ble_eq_true rfl, Nat.le_of_ble_eq_true rfl⟩ (⟨by decide, by decide⟩) (fun E M1 h => cx_of (k := 0) (if_neg (fun z => h.2.2 z.1)) (by rw [h.1]; rfl) h.2.1) (cq_kVq fun h_2 => ?_)
  have h_2b := h_2
  obtain ⟨c, hc, rfl⟩ := nI_cd (n := S_g S 6) (by have := hk.1.1; omega) h_2
  have ec : (nI c).toNatClampNeg = c := nI_clamp (by have := hk.1.1; omega)
  have hk6 := hk.1.1
  have hk51 := hk.1.2.1
  refine cq_aload_n F (i := 0) dX6_rule_5 rfl rfl ?_
  refine cq_iload_n F (i := 2) dX6_rule_6 rfl rfl ?_
  refine cq_xcallV F hex (C := RX6) (ci := 7) (kX6_requireCord l hl D cA X Bs b B S u M hb h hk) (cwV 1 F.1.2.2.2.2 gX6_rule_X6_requireCord rfl rfl rfl hdVX6_requireCord ⟨Nat.le_of_ble_eq_true rfl, Nat.le_of_ble_eq_true rfl⟩) hb.kind ⟨by decide, by decide⟩ rfl rfl rfl (Nat.le_of_ble_eq_true rfl) dX6_rule_7 ⟨Nat.le_of_ble_eq_true rfl, Nat.le_of_ble_eq_true rfl⟩ (⟨by decide, by decide⟩) (fun E M1 h => cx_of (k := 0) (if_neg (fun z => h.2.2 z.2)) (by rw [h.1]; rfl) h.2.1) (cq_kVq fun h_7 => ?_)
  have h_7b := h_7
  obtain ⟨d, hd, rfl⟩ := nI_cd (n := S_g S 6) (by have := hk.1.1; omega) h_7
  have ed : (nI d).toNatClampNeg = d := nI_clamp (by have := hk.1.1; omega)
  refine cq_iload_n F (i := 1) dX6_rule_10 rfl rfl ?_
  refine cq_iload_n F (i := 2) dX6_rule_11 rfl rfl ?_
  refine cq_icmp_ne F (tgt := 25) dX6_rule_12 (by decide) (fun c_12 => ?_) (fun c_12 => ?_)
  · have c_12 : ¬ c = d := fun z => c_12 ((nI_b (a := c) (b := d) (by omega) (by omega)).2.2.mpr z)
    refine cq_aload_n F (i := 0) dX6_rule_25 rfl rfl ?_
    refine cq_getT (t := (b + 1)) F (C := RX6) (T := TX6) (N := 9) (ci := 7) hb.kind rfl ⟨⟨by decide, by decide⟩, rfl⟩ inX6 0 (by decide) rfl rfl hb.t0 (F.1.2.2.2.2 _ (List.mem_of_getElem? (l := wsX6_rule) (i := 5) (a := .fieldLink RX6 10 "CordClock" "now" "LCordClock$State;") (by decide +kernel))) dX6_rule_26 ?_
    refine cq_callV F (C := RX5) (ci := 6) (kX5_hasRoomForRule l D cA X Bs (b + 1) B (S_g S) M hb.now h.1 hk.1) (cwV 0 F.1.2.2.2.2 gX6_rule_X5_hasRoomForRule rfl rfl rfl hdVX5_hasRoomForRule ⟨Nat.le_of_ble_eq_true rfl, Nat.le_of_ble_eq_true rfl⟩) hb.now.kind ⟨by decide, by decide⟩ rfl rfl rfl (Nat.le_of_ble_eq_true rfl) dX6_rule_29 ⟨Nat.le_of_ble_eq_true rfl, Nat.le_of_ble_eq_true rfl⟩ (cq_kIp fun r_29 h_29 => ?_)
    refine cq_if_ne F (tgt := 45) dX6_rule_32 (by decide) (fun c_32 => ?_) (fun c_32 => ?_)
    · have c_32 := cq_b1 h_29 c_32
      refine cq_aload_n F (i := 0) dX6_rule_45 rfl rfl ?_
      refine cq_callV F (C := RX6) (ci := 7) (kX6_save l D cA X Bs b B S M hb h hk) (cwV 0 F.1.2.2.2.2 gX6_rule_X6_save rfl rfl rfl hdVX6_save ⟨Nat.le_of_ble_eq_true rfl, Nat.le_of_ble_eq_true rfl⟩) hb.kind ⟨by decide, by decide⟩ rfl rfl rfl (Nat.le_of_ble_eq_true rfl) dX6_rule_46 ⟨Nat.le_of_ble_eq_true rfl, Nat.le_of_ble_eq_true rfl⟩ (cq_kV fun M_46 h_46 => ?_)
      have hs46 := h_46.1
      have ht46 : cr_st M_46 (b + 1) (S_g S) := h_46.1.1
      refine cq_aload_n F (i := 0) dX6_rule_49 rfl rfl ?_
      refine cq_getT (t := (b + 1)) F (C := RX6) (T := TX6) (N := 9) (ci := 7) hb.kind rfl ⟨⟨by decide, by decide⟩, rfl⟩ inX6 0 (by decide) rfl rfl hb.t0 (F.1.2.2.2.2 _ (List.mem_of_getElem? (l := wsX6_rule) (i := 5) (a := .fieldLink RX6 10 "CordClock" "now" "LCordClock$State;") (by decide +kernel))) dX6_rule_50 ?_
      refine cq_iload_n F (i := 1) dX6_rule_53 rfl rfl ?_
      refine cq_iload_n F (i := 2) dX6_rule_54 rfl rfl ?_
      refine cq_iload_n F (i := 3) dX6_rule_55 rfl rfl ?_
      refine cq_callV F (C := RX5) (ci := 6) (kX5_addRule l D cA X Bs (b + 1) B c d y (S_g S) M_46 hb.now ht46 hk.1 c_32 hy) (cwV 3 F.1.2.2.2.2 gX6_rule_X5_addRule rfl rfl rfl hdVX5_addRule ⟨Nat.le_of_ble_eq_true rfl, Nat.le_of_ble_eq_true rfl⟩) hb.now.kind ⟨by decide, by decide⟩ rfl rfl rfl (Nat.le_of_ble_eq_true rfl) dX6_rule_56 ⟨Nat.le_of_ble_eq_true rfl, Nat.le_of_ble_eq_true rfl⟩ (cq_kV fun M_56 h_56 => ?_)
      have s9 := h_56
      refine cq_aload_n F (i := 0) dX6_rule_59 rfl rfl ?_
      refine cq_getT (t := (b + 1)) F (C := RX6) (T := TX6) (N := 9) (ci := 7) hb.kind rfl ⟨⟨by decide, by decide⟩, rfl⟩ inX6 0 (by decide) rfl rfl hb.t0 (F.1.2.2.2.2 _ (List.mem_of_getElem? (l := wsX6_rule) (i := 5) (a := .fieldLink RX6 10 "CordClock" "now" "LCordClock$State;") (by decide +kernel))) dX6_rule_60 ?_
      refine cq_getIN F (C := RX5) (T := TX5) (N := 11) (ci := 6) hb.now.kind rfl ⟨⟨by decide, by decide⟩, rfl⟩ inX5 3 (by decide) rfl rfl (cq_nfw F.2.2.2.2 (List.mem_of_getElem? (l := cq_nf) (i := 3) rfl)) dX6_rule_63 ?_
      rw [show M_56 (b + 1) 3 = nI ((ns_newRule (S_g S) c d y) 51) from (show M_56 (b + 1) 3 = nI ((ns_newRule (S_g S) c d y) 51) from h_56.1.1.2.1)]
      refine cq_iconst F (v := 1) dX6_rule_66 rfl ?_
      refine cq_isub F dX6_rule_67 ?_
      rw [show (nI ((ns_newRule (S_g S) c d y) 51) - 1 : Int32) = nI (((ns_newRule (S_g S) c d y) 51) - 1) from pk_sub (a := ((ns_newRule (S_g S) c d y) 51)) (b := 1) (by rw [show ns_newRule (S_g S) c d y 51 = S_g S 51 + 1 from ns_up_s _ _ _]; omega)]
      refine cq_ret9 ?_
      exact cq_iret F hr (by decide) (by decide) dX6_rule_68 ⟨_, rfl, (cw_of (by unfold op_rule; rw [if_pos ⟨h_2b, h_7b⟩, if_neg (fun z => c_12 ((nI_eq (by omega) (by omega)).mp z)), if_pos c_32, ec, ed, nI_yn hy, show ns_newRule (S_g S) c d y 51 - 1 = S_g S 51 from by rw [show ns_newRule (S_g S) c d y 51 = S_g S 51 + 1 from ns_up_s _ _ _]; omega]) (hs46.now hk.save s9.1 s9.2) (h_46.2.trans (s9.2.wide (by omega) (by omega))))⟩
    · have c_32 := cq_b0 h_29 c_32
      refine cq_throw F hl hex (by decide +kernel) (F.1.2.2.2.2 _ (List.mem_of_getElem? (l := wsX6_rule) (i := 3) (a := .classLink RX6 59 "java/lang/IllegalStateException") (by decide +kernel))) (F.1.2.2.2.2 _ (List.mem_of_getElem? (l := wsX6_rule) (i := 4) (a := .initialized "java/lang/IllegalStateException") (by decide +kernel))) (List.mem_of_getElem? (l := cq_sr) (i := 7) rfl) (fun w h => F.1.2.2.2.2 w ((fun w h => List.mem_cons_of_mem _ (List.mem_append_left _ (List.mem_append_right _ h))) w h)) xn_59_63 xg_59_63 dX6_rule_35 dX6_rule_38 dX6_rule_39 dX6_rule_41 dX6_rule_44 ⟨by decide, Nat.le_of_ble_eq_true rfl, by decide, by decide⟩ ⟨by decide, by decide⟩ ?_
      exact (cx_of (k := 2) (by unfold op_rule; rw [if_pos ⟨h_2b, h_7b⟩, if_neg (fun z => c_12 ((nI_eq (by omega) (by omega)).mp z)), if_neg c_32]) rfl rfl)
  · have c_12 : c = d := (nI_b (a := c) (b := d) (by omega) (by omega)).2.2.mp c_12
    refine cq_throw F hl hex (by decide +kernel) (F.1.2.2.2.2 _ (List.mem_of_getElem? (l := wsX6_rule) (i := 1) (a := .classLink RX6 48 "java/lang/IllegalArgumentException") (by decide +kernel))) (F.1.2.2.2.2 _ (List.mem_of_getElem? (l := wsX6_rule) (i := 2) (a := .initialized "java/lang/IllegalArgumentException") (by decide +kernel))) (List.mem_of_getElem? (l := cq_sr) (i := 6) rfl) (fun w h => F.1.2.2.2.2 w ((fun w h => List.mem_cons_of_mem _ (List.mem_append_left _ (List.mem_append_left _ (List.mem_append_right _ h)))) w h)) xn_48_52 xg_48_52 dX6_rule_15 dX6_rule_18 dX6_rule_19 dX6_rule_21 dX6_rule_24 ⟨by decide, Nat.le_of_ble_eq_true rfl, by decide, by decide⟩ ⟨by decide, by decide⟩ ?_
    exact (cx_of (k := 1) (by unfold op_rule; rw [if_pos ⟨h_2b, h_7b⟩, if_pos (by rw [c_12])]) rfl rfl)
theorem hdVX6_rule : yX6_rule.cls = RX6 ∧ yX6_rule.cls ≠ "java/lang/invoke/MethodHandle" ∧ yX6_rule.cls ≠ "java/lang/invoke/VarHandle" ∧ (parseMethodDescriptor yX6_rule.desc).map (fun d => d.parameters.length) = some 3 := by decide +kernel
abbrev rmX6_dropRules : Room := ({ frames := 3, cells := 0, slots := 0, locals := 64 })
set_option maxHeartbeats 4000000 in
set_option maxRecDepth 100000 in
theorem kX6_dropRules (l : Launch) (D : va_G) (cA : Nat → ClassId) (X : cq_X) (Bs : Nat) (b B : Nat) (S : as_T) (M : cq_M) (hb : cq_isClock X b) (h : ck M b S) (hk : as_ok S B) : cq_C l yX6_dropRules wsX6_dropRules rmX6_dropRules D cA X Bs [.ref b] M (cq_PI (fun r M1 => cw (op_drop S) r M M1 b)) 0 0 := by
  refine cq_met (cc := cX6_dropRules) (maxL := 2) (ret := (some .int)) (by decide) rfl (Nat.le_of_ble_eq_true rfl) [(0, .ref b)] rfl rfl ?_
  intro p9 e9 s9 m9 b9 t9 c9 F hr
  have inX5 : ∀ w ∈ wsX50, w ∈ wsX6_dropRules := (fun w h => List.mem_cons_of_mem _ (List.mem_append_left _ (List.mem_append_left _ (List.mem_append_left _ (List.mem_append_right _ h)))))
  have inX6 : ∀ w ∈ wsX60, w ∈ wsX6_dropRules := (fun w h => List.mem_cons_of_mem _ (List.mem_append_left _ (List.mem_append_left _ (List.mem_append_left _ (List.mem_append_left _ (List.mem_append_right _ h))))))
  refine cq_aload_n F (i := 0) dX6_dropRules_0 rfl rfl ?_
  refine cq_callV F (C := RX6) (ci := 7) (kX6_save l D cA X Bs b B S M hb h hk) (cwV 0 F.1.2.2.2.2 gX6_dropRules_X6_save rfl rfl rfl hdVX6_save ⟨Nat.le_of_ble_eq_true rfl, Nat.le_of_ble_eq_true rfl⟩) hb.kind ⟨by decide, by decide⟩ rfl rfl rfl (Nat.le_of_ble_eq_true rfl) dX6_dropRules_1 ⟨Nat.le_of_ble_eq_true rfl, Nat.le_of_ble_eq_true rfl⟩ (cq_kV fun M_1 h_1 => ?_)
  have hs1 := h_1.1
  have ht1 : cr_st M_1 (b + 1) (S_g S) := h_1.1.1
  refine cq_aload_n F (i := 0) dX6_dropRules_4 rfl rfl ?_
  refine cq_getT (t := (b + 1)) F (C := RX6) (T := TX6) (N := 9) (ci := 7) hb.kind rfl ⟨⟨by decide, by decide⟩, rfl⟩ inX6 0 (by decide) rfl rfl hb.t0 (F.1.2.2.2.2 _ (List.mem_of_getElem? (l := wsX6_dropRules) (i := 1) (a := .fieldLink RX6 10 "CordClock" "now" "LCordClock$State;") (by decide +kernel))) dX6_dropRules_5 ?_
  refine cq_getIN F (C := RX5) (T := TX5) (N := 11) (ci := 6) hb.now.kind rfl ⟨⟨by decide, by decide⟩, rfl⟩ inX5 3 (by decide) rfl rfl (cq_nfw F.2.2.2.2 (List.mem_of_getElem? (l := cq_nf) (i := 3) rfl)) dX6_dropRules_8 ?_
  rw [show M_1 (b + 1) 3 = nI ((S_g S) 51) from (show M_1 (b + 1) 3 = nI ((S_g S) 51) from ht1.1.2.1)]
  refine cq_istore_n F (i := 1) dX6_dropRules_11 rfl (by decide) ?_
  refine cq_aload_n F (i := 0) dX6_dropRules_12 rfl rfl ?_
  refine cq_getT (t := (b + 1)) F (C := RX6) (T := TX6) (N := 9) (ci := 7) hb.kind rfl ⟨⟨by decide, by decide⟩, rfl⟩ inX6 0 (by decide) rfl rfl hb.t0 (F.1.2.2.2.2 _ (List.mem_of_getElem? (l := wsX6_dropRules) (i := 1) (a := .fieldLink RX6 10 "CordClock" "now" "LCordClock$State;") (by decide +kernel))) dX6_dropRules_13 ?_
  refine cq_iconst F (v := 0) dX6_dropRules_16 rfl ?_
  refine cq_putN F (C := RX5) (T := TX5) (N := 11) (ci := 6) hb.now.kind rfl ⟨⟨by decide, by decide⟩, rfl⟩ inX5 tyX5 tyX5_ok nmX5 3 (by decide) rfl rfl (cq_nfw F.2.2.2.2 (List.mem_of_getElem? (l := cq_nf) (i := 3) rfl)) rfl (by rfl) (by rfl) dX6_dropRules_17 (fun M_17 h_17 => ?_)
  refine cq_iload_n F (i := 1) dX6_dropRules_20 rfl rfl ?_
  refine cq_iret F hr (by decide) (by decide) dX6_dropRules_21 ⟨_, rfl, ?_⟩
  have s9 := ht1.drop hk.1 h_17
  exact (cw_of rfl (hs1.now hk.save s9.1 s9.2) (h_1.2.trans (s9.2.wide (by omega) (by omega))))
theorem hdVX6_dropRules : yX6_dropRules.cls = RX6 ∧ yX6_dropRules.cls ≠ "java/lang/invoke/MethodHandle" ∧ yX6_dropRules.cls ≠ "java/lang/invoke/VarHandle" ∧ (parseMethodDescriptor yX6_dropRules.desc).map (fun d => d.parameters.length) = some 0 := by decide +kernel
abbrev rmX6_run : Room := ({ frames := 6, cells := 1, slots := 6, locals := 113 })
set_option maxHeartbeats 4000000 in
set_option maxRecDepth 100000 in
theorem kX6_run (l : Launch) (hl : l.stackTraces = false) (D : va_G) (cA : Nat → ClassId) (X : cq_X) (Bs : Nat) (b B : Nat) (S : as_T) (u : Int32) (M : cq_M) (hb : cq_isClock X b) (h : ck M b S) (hk : as_ok S B) (hB : B < 1999990000) : cq_T l yX6_run wsX6_run rmX6_run D cA X Bs [.ref b, .int u] M (cq_PI (fun r M1 => cw (op_run S u) r M M1 b)) (fun E M1 => cx (op_run S u) S [xA] E M M1) 1 6 := by
  refine cq_met9 (cc := cX6_run) (maxL := 2) (ret := (some .int)) (by decide) rfl (Nat.le_of_ble_eq_true rfl) [(0, .ref b), (1, .int u)] rfl rfl ?_
  intro p9 e9 s9 m9 b9 t9 c9 F hr hex
  have inX6 : ∀ w ∈ wsX60, w ∈ wsX6_run := (fun w h => List.mem_cons_of_mem _ (List.mem_append_left _ (List.mem_append_left _ (List.mem_append_left _ (List.mem_append_left _ (List.mem_append_left _ (List.mem_append_right _ h)))))))
  refine cq_iload_n F (i := 1) dX6_run_0 rfl rfl ?_
  refine cq_iconst F (v := 1) dX6_run_1 rfl ?_
  refine cq_icmp_lt F (tgt := 12) dX6_run_2 (by decide) (fun c_2 => ?_) (fun c_2 => ?_)
  · refine cq_throw F hl hex (by decide +kernel) (F.1.2.2.2.2 _ (List.mem_of_getElem? (l := wsX6_run) (i := 1) (a := .classLink RX6 48 "java/lang/IllegalArgumentException") (by decide +kernel))) (F.1.2.2.2.2 _ (List.mem_of_getElem? (l := wsX6_run) (i := 2) (a := .initialized "java/lang/IllegalArgumentException") (by decide +kernel))) (List.mem_of_getElem? (l := cq_sr) (i := 8) rfl) (fun w h => F.1.2.2.2.2 w ((fun w h => List.mem_cons_of_mem _ (List.mem_append_right _ h)) w h)) xn_48_52 xg_48_52 dX6_run_12 dX6_run_15 dX6_run_16 dX6_run_18 dX6_run_21 ⟨by decide, Nat.le_of_ble_eq_true rfl, by decide, by decide⟩ ⟨by decide, by decide⟩ ?_
    exact (cx_of (k := 0) (if_neg (fun z => by first | exact absurd c_2 (Int32.not_lt.mpr z.1) | exact c_9 z.2)) rfl rfl)
  · refine cq_iload_n F (i := 1) dX6_run_5 rfl rfl ?_
    refine cq_sipush F (v := 200) dX6_run_6 (by decide) ?_
    refine cq_icmp_le F (tgt := 22) dX6_run_9 (by decide) (fun c_9 => ?_) (fun c_9 => ?_)
    · have c_9b : 1 ≤ u ∧ u ≤ 200 := ⟨Int32.not_lt.mp c_2, c_9⟩
      obtain ⟨q, hq1, hq2, rfl⟩ := nI_ab (a := 1) (b := 200) (by omega) (by omega) c_9b
      have eq : (nI q).toNatClampNeg = q := nI_clamp (by omega)
      refine cq_aload_n F (i := 0) dX6_run_22 rfl rfl ?_
      refine cq_callV F (C := RX6) (ci := 7) (kX6_save l D cA X Bs b B S M hb h hk) (cwV 0 F.1.2.2.2.2 gX6_run_X6_save rfl rfl rfl hdVX6_save ⟨Nat.le_of_ble_eq_true rfl, Nat.le_of_ble_eq_true rfl⟩) hb.kind ⟨by decide, by decide⟩ rfl rfl rfl (Nat.le_of_ble_eq_true rfl) dX6_run_23 ⟨Nat.le_of_ble_eq_true rfl, Nat.le_of_ble_eq_true rfl⟩ (cq_kV fun M_23 h_23 => ?_)
      have hs23 := h_23.1
      have ht23 : cr_st M_23 (b + 1) (S_g S) := h_23.1.1
      refine cq_aload_n F (i := 0) dX6_run_26 rfl rfl ?_
      refine cq_getT (t := (b + 1)) F (C := RX6) (T := TX6) (N := 9) (ci := 7) hb.kind rfl ⟨⟨by decide, by decide⟩, rfl⟩ inX6 0 (by decide) rfl rfl hb.t0 (F.1.2.2.2.2 _ (List.mem_of_getElem? (l := wsX6_run) (i := 3) (a := .fieldLink RX6 10 "CordClock" "now" "LCordClock$State;") (by decide +kernel))) dX6_run_27 ?_
      refine cq_iload_n F (i := 1) dX6_run_30 rfl rfl ?_
      refine cq_callV F (C := RX5) (ci := 6) (kX5_passSteps l D cA X Bs (b + 1) q B (S_g S) M_23 hb.now ht23 hk.1 (by omega) hB) (cwV 1 F.1.2.2.2.2 gX6_run_X5_passSteps rfl rfl rfl hdVX5_passSteps ⟨Nat.le_of_ble_eq_true rfl, Nat.le_of_ble_eq_true rfl⟩) hb.now.kind ⟨by decide, by decide⟩ rfl rfl rfl (Nat.le_of_ble_eq_true rfl) dX6_run_31 ⟨Nat.le_of_ble_eq_true rfl, Nat.le_of_ble_eq_true rfl⟩ (cq_kI fun r_31 M_31 h_31 => ?_)
      obtain ⟨hr_31, s9⟩ := h_31
      subst hr_31
      refine cq_ret9 ?_
      exact cq_iret F hr (by decide) (by decide) dX6_run_34 ⟨_, rfl, (cw_of (by unfold op_run; rw [if_pos c_9b, eq]) (hs23.now hk.save s9.1 s9.2) (h_23.2.trans (s9.2.wide (by omega) (by omega))))⟩
    · refine cq_throw F hl hex (by decide +kernel) (F.1.2.2.2.2 _ (List.mem_of_getElem? (l := wsX6_run) (i := 1) (a := .classLink RX6 48 "java/lang/IllegalArgumentException") (by decide +kernel))) (F.1.2.2.2.2 _ (List.mem_of_getElem? (l := wsX6_run) (i := 2) (a := .initialized "java/lang/IllegalArgumentException") (by decide +kernel))) (List.mem_of_getElem? (l := cq_sr) (i := 8) rfl) (fun w h => F.1.2.2.2.2 w ((fun w h => List.mem_cons_of_mem _ (List.mem_append_right _ h)) w h)) xn_48_52 xg_48_52 dX6_run_12 dX6_run_15 dX6_run_16 dX6_run_18 dX6_run_21 ⟨by decide, Nat.le_of_ble_eq_true rfl, by decide, by decide⟩ ⟨by decide, by decide⟩ ?_
      exact (cx_of (k := 0) (if_neg (fun z => by first | exact absurd c_2 (Int32.not_lt.mpr z.1) | exact c_9 z.2)) rfl rfl)
theorem hdVX6_run : yX6_run.cls = RX6 ∧ yX6_run.cls ≠ "java/lang/invoke/MethodHandle" ∧ yX6_run.cls ≠ "java/lang/invoke/VarHandle" ∧ (parseMethodDescriptor yX6_run.desc).map (fun d => d.parameters.length) = some 1 := by decide +kernel
abbrev rmX6_cord : Room := ({ frames := 6, cells := 1, slots := 6, locals := 90 })
set_option maxHeartbeats 4000000 in
set_option maxRecDepth 100000 in
theorem kX6_cord (l : Launch) (hl : l.stackTraces = false) (D : va_G) (cA : Nat → ClassId) (X : cq_X) (Bs : Nat) (b B : Nat) (S : as_T) (u t : Int32) (M : cq_M) (hb : cq_isClock X b) (h : ck M b S) (hk : as_ok S B) : cq_T l yX6_cord wsX6_cord rmX6_cord D cA X Bs [.ref b, .int u, .int t] M (cq_PI (fun r M1 => cw (op_cord S u t) r M M1 b)) (fun E M1 => cx (op_cord S u t) S [xA, xS] E M M1) 1 6 := by
  refine cq_met9 (cc := cX6_cord) (maxL := 5) (ret := (some .int)) (by decide) rfl (Nat.le_of_ble_eq_true rfl) [(0, .ref b), (1, .int u), (2, .int t)] rfl rfl ?_
  intro p9 e9 s9 m9 b9 t9 c9 F hr hex
  have inX5 : ∀ w ∈ wsX50, w ∈ wsX6_cord := (fun w h => List.mem_cons_of_mem _ (List.mem_append_left _ (List.mem_append_left _ (List.mem_append_left _ (List.mem_append_left _ (List.mem_append_left _ (List.mem_append_right _ h)))))))
  have inX6 : ∀ w ∈ wsX60, w ∈ wsX6_cord := (fun w h => List.mem_cons_of_mem _ (List.mem_append_left _ (List.mem_append_left _ (List.mem_append_left _ (List.mem_append_left _ (List.mem_append_left _ (List.mem_append_left _ (List.mem_append_right _ h))))))))
  have loop_63 : ∀ (n_63 : Nat) (sg q : Nat) (Ms : cq_M) (k : Nat) (M2 : cq_M), u = nI sg → t = nI q → 1 ≤ sg → sg ≤ 6 → 1 ≤ q → q ≤ 60 → S_g S 6 < 4 → ck Ms b (so_save S) → cr_st Ms (b + 1) (S_g S) → cr_fr M Ms b 249 → k ≤ sg → ad_R Ms M2 (b + 1) (S_g S 6) k q → sg - k < n_63 → cq_V p9 l e9 rmX6_cord s9 m9 ([.ref b, .int u, .int t] : List Value).toArray b9 t9 c9 D cA X Bs 5 0 0 (vx_MQ b9 (cq_Q D cA X Bs (cq_PI (fun r M1 => cw (op_cord S u t) r M M1 b))) (cq_XC D cA X Bs (fun E M1 => cx (op_cord S u t) S [xA, xS] E M M1)) ([.ref b, .int u, .int t] : List Value).toArray s9 1 6 (cq_A Bs)) 63 [(0, .ref b), (1, .int (nI sg)), (2, .int (nI q)), (3, .ref (b + 1 + 7 + 2 * S_g S 6)), (4, .int (nI k))] [] M2 := by
    intro n_63
    induction n_63 with
    | zero =>
      intros
      omega
    | succ n_63 ih_63 =>
      intro sg q Ms k M2 equ eqt hs1 hs2 hq1 hq2 h4 hss hts hfs hk9 hR hn
      refine cq_iload F dX6_cord_63 rfl ?_
      refine cq_iload_n F (i := 1) dX6_cord_65 rfl rfl ?_
      refine cq_icmp_ge F (tgt := 80) dX6_cord_66 (by decide) (fun c_66 => ?_) (fun c_66 => ?_)
      · have c_66 : sg ≤ k := (nI_b (a := sg) (b := k) (by omega) (by omega)).1.mp c_66
        refine cq_aload_n F (i := 0) dX6_cord_80 rfl rfl ?_
        refine cq_getT (t := (b + 1)) F (C := RX6) (T := TX6) (N := 9) (ci := 7) hb.kind rfl ⟨⟨by decide, by decide⟩, rfl⟩ inX6 0 (by decide) rfl rfl hb.t0 (F.1.2.2.2.2 _ (List.mem_of_getElem? (l := wsX6_cord) (i := 5) (a := .fieldLink RX6 10 "CordClock" "now" "LCordClock$State;") (by decide +kernel))) dX6_cord_81 ?_
        refine cq_getIN F (C := RX5) (T := TX5) (N := 11) (ci := 6) hb.now.kind rfl ⟨⟨by decide, by decide⟩, rfl⟩ inX5 1 (by decide) rfl rfl (cq_nfw F.2.2.2.2 (List.mem_of_getElem? (l := cq_nf) (i := 0) rfl)) dX6_cord_84 ?_
        rw [(show M2 (b + 1) 1 = _ by rw [hR.2.1, cq_up_s])]
        refine cq_iconst F (v := 1) dX6_cord_87 rfl ?_
        refine cq_isub F dX6_cord_88 ?_
        rw [show (nI (S_g S 6 + 1) - 1 : Int32) = nI ((S_g S 6 + 1) - 1) from pk_sub (a := (S_g S 6 + 1)) (b := 1) (by omega)]
        refine cq_ret9 ?_
        refine cq_iret F hr (by decide) (by decide) dX6_cord_89 ⟨_, rfl, ?_⟩
        obtain rfl : k = sg := by omega
        have s9 := hR.fin hts hk.1 h4 hs1 hs2
        refine cw_of ?_ (hss.now hk.save s9.1 s9.2) (hfs.trans (s9.2.wide (by omega) (by omega)))
        subst equ eqt
        unfold op_cord
        rw [if_pos ⟨nI_ab2 (a := 1) (b := 6) (by omega) hs1 hs2, nI_ab2 (a := 1) (b := 60) (by omega) hq1 hq2⟩, if_pos h4, nI_clamp (by omega), nI_clamp (by omega)]
        rfl
      · have c_66 : ¬ sg ≤ k := fun z => c_66 ((nI_b (a := sg) (b := k) (by omega) (by omega)).1.mpr z)
        refine cq_aload_n F (i := 3) dX6_cord_69 rfl rfl ?_
        refine cq_iload_n F (i := 2) dX6_cord_70 rfl rfl ?_
        refine cq_callV F (C := RX1) (ci := 2) (kX1_addSegment l D cA X Bs (b + 1 + 7 + 2 * S_g S 6) k (nI q) M2 (hb.now.cord _ (by omega)) (by omega) hR.2.2.1) (cwV 1 F.1.2.2.2.2 gX6_cord_X1_addSegment rfl rfl rfl hdVX1_addSegment ⟨Nat.le_of_ble_eq_true rfl, Nat.le_of_ble_eq_true rfl⟩) (hb.now.cord _ (by omega)).kind ⟨by decide, by decide⟩ rfl rfl rfl (Nat.le_of_ble_eq_true rfl) dX6_cord_71 ⟨Nat.le_of_ble_eq_true rfl, Nat.le_of_ble_eq_true rfl⟩ (cq_kV fun M_71 h_71 => ?_)
        refine cq_iinc F dX6_cord_74 rfl (by decide) (fun x_74 e_74 => ?_)
        obtain rfl : x_74 = nI (k + 1) := by rw [e_74]; exact nI_1 _
        refine cq_goto F (tgt := 63) dX6_cord_77 (by decide) ?_
        refine cq_loc (L2 := [(0, .ref b), (1, .int (nI sg)), (2, .int (nI q)), (3, .ref (b + 1 + 7 + 2 * S_g S 6)), (4, .int (nI (k + 1)))]) rfl ?_
        exact ih_63 sg q Ms (k + 1) M_71 equ eqt hs1 hs2 hq1 hq2 h4 hss hts hfs (by omega) (hR.next h_71) (by omega)
  refine cq_iload_n F (i := 1) dX6_cord_0 rfl rfl ?_
  refine cq_iconst F (v := 1) dX6_cord_1 rfl ?_
  refine cq_icmp_lt F (tgt := 18) dX6_cord_2 (by decide) (fun c_2 => ?_) (fun c_2 => ?_)
  · refine cq_throw F hl hex (by decide +kernel) (F.1.2.2.2.2 _ (List.mem_of_getElem? (l := wsX6_cord) (i := 1) (a := .classLink RX6 48 "java/lang/IllegalArgumentException") (by decide +kernel))) (F.1.2.2.2.2 _ (List.mem_of_getElem? (l := wsX6_cord) (i := 2) (a := .initialized "java/lang/IllegalArgumentException") (by decide +kernel))) (List.mem_of_getElem? (l := cq_sr) (i := 0) rfl) (fun w h => F.1.2.2.2.2 w ((fun w h => List.mem_cons_of_mem _ (List.mem_append_left _ (List.mem_append_right _ h))) w h)) xn_48_52 xg_48_52 dX6_cord_18 dX6_cord_21 dX6_cord_22 dX6_cord_24 dX6_cord_27 ⟨by decide, Nat.le_of_ble_eq_true rfl, by decide, by decide⟩ ⟨by decide, by decide⟩ ?_
    exact (cx_of (k := 0) (if_neg (fun z => by first | exact absurd c_2 (Int32.not_lt.mpr z.1.1) | exact absurd c_8 (Int32.not_lt.mpr z.1.2) | exact c_15 z.2)) rfl rfl)
  · refine cq_iload_n F (i := 1) dX6_cord_5 rfl rfl ?_
    refine cq_bipush F (v := 6) dX6_cord_6 (by decide) ?_
    refine cq_icmp_gt F (tgt := 18) dX6_cord_8 (by decide) (fun c_8 => ?_) (fun c_8 => ?_)
    · refine cq_throw F hl hex (by decide +kernel) (F.1.2.2.2.2 _ (List.mem_of_getElem? (l := wsX6_cord) (i := 1) (a := .classLink RX6 48 "java/lang/IllegalArgumentException") (by decide +kernel))) (F.1.2.2.2.2 _ (List.mem_of_getElem? (l := wsX6_cord) (i := 2) (a := .initialized "java/lang/IllegalArgumentException") (by decide +kernel))) (List.mem_of_getElem? (l := cq_sr) (i := 0) rfl) (fun w h => F.1.2.2.2.2 w ((fun w h => List.mem_cons_of_mem _ (List.mem_append_left _ (List.mem_append_right _ h))) w h)) xn_48_52 xg_48_52 dX6_cord_18 dX6_cord_21 dX6_cord_22 dX6_cord_24 dX6_cord_27 ⟨by decide, Nat.le_of_ble_eq_true rfl, by decide, by decide⟩ ⟨by decide, by decide⟩ ?_
      exact (cx_of (k := 0) (if_neg (fun z => by first | exact absurd c_2 (Int32.not_lt.mpr z.1.1) | exact absurd c_8 (Int32.not_lt.mpr z.1.2) | exact c_15 z.2)) rfl rfl)
    · have c_8b : 1 ≤ u ∧ u ≤ 6 := ⟨Int32.not_lt.mp c_2, Int32.not_lt.mp c_8⟩
      refine cq_iload_n F (i := 2) dX6_cord_11 rfl rfl ?_
      refine cq_callS F (kX6_isSegmentTime l D cA X Bs t M) (va_cwS 1 F.1.2.2.2.2 gX6_cord_X6_isSegmentTime rfl rfl rfl hdVX6_isSegmentTime.2 ⟨Nat.le_of_ble_eq_true rfl, Nat.le_of_ble_eq_true rfl⟩) rfl (Nat.le_of_ble_eq_true rfl) dX6_cord_12 ⟨Nat.le_of_ble_eq_true rfl, Nat.le_of_ble_eq_true rfl⟩ (cq_kIp fun r_12 h_12 => ?_)
      refine cq_if_ne F (tgt := 28) dX6_cord_15 (by decide) (fun c_15 => ?_) (fun c_15 => ?_)
      · have c_15 := cq_b1 h_12 c_15
        have c_15b := c_15
        obtain ⟨sg, hsg1, hsg2, rfl⟩ := nI_ab (a := 1) (b := 6) (by omega) (by omega) c_8b
        obtain ⟨q, hq1, hq2, rfl⟩ := nI_ab (a := 1) (b := 60) (by omega) (by omega) c_15
        refine cq_aload_n F (i := 0) dX6_cord_28 rfl rfl ?_
        refine cq_getT (t := (b + 1)) F (C := RX6) (T := TX6) (N := 9) (ci := 7) hb.kind rfl ⟨⟨by decide, by decide⟩, rfl⟩ inX6 0 (by decide) rfl rfl hb.t0 (F.1.2.2.2.2 _ (List.mem_of_getElem? (l := wsX6_cord) (i := 5) (a := .fieldLink RX6 10 "CordClock" "now" "LCordClock$State;") (by decide +kernel))) dX6_cord_29 ?_
        refine cq_callV F (C := RX5) (ci := 6) (kX5_hasRoomForCord l D cA X Bs (b + 1) B (S_g S) M hb.now h.1 hk.1) (cwV 0 F.1.2.2.2.2 gX6_cord_X5_hasRoomForCord rfl rfl rfl hdVX5_hasRoomForCord ⟨Nat.le_of_ble_eq_true rfl, Nat.le_of_ble_eq_true rfl⟩) hb.now.kind ⟨by decide, by decide⟩ rfl rfl rfl (Nat.le_of_ble_eq_true rfl) dX6_cord_32 ⟨Nat.le_of_ble_eq_true rfl, Nat.le_of_ble_eq_true rfl⟩ (cq_kIp fun r_32 h_32 => ?_)
        refine cq_if_ne F (tgt := 48) dX6_cord_35 (by decide) (fun c_35 => ?_) (fun c_35 => ?_)
        · have c_35 := cq_b1 h_32 c_35
          refine cq_aload_n F (i := 0) dX6_cord_48 rfl rfl ?_
          refine cq_callV F (C := RX6) (ci := 7) (kX6_save l D cA X Bs b B S M hb h hk) (cwV 0 F.1.2.2.2.2 gX6_cord_X6_save rfl rfl rfl hdVX6_save ⟨Nat.le_of_ble_eq_true rfl, Nat.le_of_ble_eq_true rfl⟩) hb.kind ⟨by decide, by decide⟩ rfl rfl rfl (Nat.le_of_ble_eq_true rfl) dX6_cord_49 ⟨Nat.le_of_ble_eq_true rfl, Nat.le_of_ble_eq_true rfl⟩ (cq_kV fun M_49 h_49 => ?_)
          have hs49 := h_49.1
          have ht49 : cr_st M_49 (b + 1) (S_g S) := h_49.1.1
          refine cq_aload_n F (i := 0) dX6_cord_52 rfl rfl ?_
          refine cq_getT (t := (b + 1)) F (C := RX6) (T := TX6) (N := 9) (ci := 7) hb.kind rfl ⟨⟨by decide, by decide⟩, rfl⟩ inX6 0 (by decide) rfl rfl hb.t0 (F.1.2.2.2.2 _ (List.mem_of_getElem? (l := wsX6_cord) (i := 5) (a := .fieldLink RX6 10 "CordClock" "now" "LCordClock$State;") (by decide +kernel))) dX6_cord_53 ?_
          refine cq_callV F (C := RX5) (ci := 6) (kX5_addCord l D cA X Bs (b + 1) B (S_g S) M_49 hb.now ht49 hk.1 c_35) (cwV 0 F.1.2.2.2.2 gX6_cord_X5_addCord rfl rfl rfl hdVX5_addCord ⟨Nat.le_of_ble_eq_true rfl, Nat.le_of_ble_eq_true rfl⟩) hb.now.kind ⟨by decide, by decide⟩ rfl rfl rfl (Nat.le_of_ble_eq_true rfl) dX6_cord_56 ⟨Nat.le_of_ble_eq_true rfl, Nat.le_of_ble_eq_true rfl⟩ (cq_kR fun a_56 M_56 h_56 => ?_)
          obtain ⟨ha_56, h_56⟩ := h_56
          subst ha_56
          refine cq_astore_n F (i := 3) dX6_cord_59 rfl (by decide) ?_
          refine cq_iconst F (v := 0) dX6_cord_60 rfl ?_
          refine cq_istore F dX6_cord_61 (by decide) ?_
          refine cq_loc (L2 := [(0, .ref b), (1, .int (nI sg)), (2, .int (nI q)), (3, .ref (b + 1 + 7 + 2 * S_g S 6)), (4, .int (nI 0))]) rfl ?_
          exact loop_63 (sg + 1) sg q M_49 0 M_56 rfl rfl (by omega) (by omega) (by omega) (by omega) c_35 hs49 ht49 h_49.2 (by omega) (h_56 q) (by omega)
        · have c_35 := cq_b0 h_32 c_35
          refine cq_throw F hl hex (by decide +kernel) (F.1.2.2.2.2 _ (List.mem_of_getElem? (l := wsX6_cord) (i := 3) (a := .classLink RX6 59 "java/lang/IllegalStateException") (by decide +kernel))) (F.1.2.2.2.2 _ (List.mem_of_getElem? (l := wsX6_cord) (i := 4) (a := .initialized "java/lang/IllegalStateException") (by decide +kernel))) (List.mem_of_getElem? (l := cq_sr) (i := 1) rfl) (fun w h => F.1.2.2.2.2 w ((fun w h => List.mem_cons_of_mem _ (List.mem_append_right _ h)) w h)) xn_59_63 xg_59_63 dX6_cord_38 dX6_cord_41 dX6_cord_42 dX6_cord_44 dX6_cord_47 ⟨by decide, Nat.le_of_ble_eq_true rfl, by decide, by decide⟩ ⟨by decide, by decide⟩ ?_
          exact (cx_of (k := 1) (by unfold op_cord; rw [if_pos ⟨c_8b, c_15b⟩, if_neg c_35]) rfl rfl)
      · have c_15 := cq_b0 h_12 c_15
        refine cq_throw F hl hex (by decide +kernel) (F.1.2.2.2.2 _ (List.mem_of_getElem? (l := wsX6_cord) (i := 1) (a := .classLink RX6 48 "java/lang/IllegalArgumentException") (by decide +kernel))) (F.1.2.2.2.2 _ (List.mem_of_getElem? (l := wsX6_cord) (i := 2) (a := .initialized "java/lang/IllegalArgumentException") (by decide +kernel))) (List.mem_of_getElem? (l := cq_sr) (i := 0) rfl) (fun w h => F.1.2.2.2.2 w ((fun w h => List.mem_cons_of_mem _ (List.mem_append_left _ (List.mem_append_right _ h))) w h)) xn_48_52 xg_48_52 dX6_cord_18 dX6_cord_21 dX6_cord_22 dX6_cord_24 dX6_cord_27 ⟨by decide, Nat.le_of_ble_eq_true rfl, by decide, by decide⟩ ⟨by decide, by decide⟩ ?_
        exact (cx_of (k := 0) (if_neg (fun z => by first | exact absurd c_2 (Int32.not_lt.mpr z.1.1) | exact absurd c_8 (Int32.not_lt.mpr z.1.2) | exact c_15 z.2)) rfl rfl)
theorem hdVX6_cord : yX6_cord.cls = RX6 ∧ yX6_cord.cls ≠ "java/lang/invoke/MethodHandle" ∧ yX6_cord.cls ≠ "java/lang/invoke/VarHandle" ∧ (parseMethodDescriptor yX6_cord.desc).map (fun d => d.parameters.length) = some 2 := by decide +kernel
