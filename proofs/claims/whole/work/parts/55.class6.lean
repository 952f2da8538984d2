/-! the class: calls that change the state -/
abbrev rmX6_light : Room := ({ frames := 7, cells := 2, slots := 12, locals := 111 })
set_option maxHeartbeats 4000000 in
set_option maxRecDepth 100000 in
theorem kX6_light (l : Launch) (hl : l.stackTraces = false) (D : va_G) (cA : Nat → ClassId) (X : cq_X) (Bs : Nat) (b B : Nat) (S : as_T) (u y : Int32) (M : cq_M) (hb : cq_isClock X b) (h : ck M b S) (hk : as_ok S B) : cq_T l yX6_light wsX6_light rmX6_light D cA X Bs [.ref b, .int u, .int y] M (cq_PI (fun r M1 => cw (op_light S u y) r M M1 b)) (fun E M1 => cx (op_light S u y) S [xI, xS] E M M1) 2 12 := by
  refine cq_met9 (cc := cX6_light) (maxL := 3) (ret := (some .int)) (by decide) rfl (Nat.le_of_ble_eq_true rfl) [(0, .ref b), (1, .int u), (2, .int y)] rfl rfl ?_
  intro p9 e9 s9 m9 b9 t9 c9 F hr hex
  have inX5 : ∀ w ∈ wsX50, w ∈ wsX6_light := (fun w h => List.mem_cons_of_mem _ (List.mem_append_left _ (List.mem_append_left _ (List.mem_append_left _ (List.mem_append_left _ (List.mem_append_left _ (List.mem_append_right _ h)))))))
  have inX6 : ∀ w ∈ wsX60, w ∈ wsX6_light := (fun w h => List.mem_cons_of_mem _ (List.mem_append_left _ (List.mem_append_left _ (List.mem_append_left _ (List.mem_append_left _ (List.mem_append_left _ (List.mem_append_left _ (List.mem_append_right _ h))))))))
  refine cq_aload_n F (i := 0) dX6_light_0 rfl rfl ?_
  refine cq_iload_n F (i := 1) dX6_light_1 rfl rfl ?_
  refine cq_xcallV F hex (C := RX6) (ci := 7) (kX6_requireCord l hl D cA X Bs b B S u M hb h hk) (cwV 1 F.1.2.2.2.2 gX6_light_X6_requireCord rfl rfl rfl hdVX6_requireCord ⟨Nat.le_of_ble_eq_true rfl, Nat.le_of_ble_eq_true rfl⟩) hb.kind ⟨by decide, by decide⟩ rfl rfl rfl (Nat.le_of_ble_eq_true rfl) dX6_light_2 ⟨Nat.le_of_ble_eq_true rfl, Nat.le_of_ble_eq_true rfl⟩ (⟨by decide, by decide⟩) (fun E M1 h => cx_of (k := 0) (if_neg h.2.2) (by rw [h.1]; rfl) h.2.1) (cq_kVq fun h_2 => ?_)
  have h_2b := h_2
  obtain ⟨c, hc, rfl⟩ := nI_cd (n := S_g S 6) (by have := hk.1.1; omega) h_2
  have ec : (nI c).toNatClampNeg = c := nI_clamp (by have := hk.1.1; omega)
  have hk6 := hk.1.1
  have hq := hk.1.2.2.2.1 c hc
  refine cq_aload_n F (i := 0) dX6_light_5 rfl rfl ?_
  refine cq_getT (t := (b + 1)) F (C := RX6) (T := TX6) (N := 9) (ci := 7) hb.kind rfl ⟨⟨by decide, by decide⟩, rfl⟩ inX6 0 (by decide) rfl rfl hb.t0 (F.1.2.2.2.2 _ (List.mem_of_getElem? (l := wsX6_light) (i := 3) (a := .fieldLink RX6 10 "CordClock" "now" "LCordClock$State;") (by decide +kernel))) dX6_light_6 ?_
  refine cq_getTN (t := ((b + 1) + 1)) F (C := RX5) (T := TX5) (N := 11) (ci := 6) hb.now.kind rfl ⟨⟨by decide, by decide⟩, rfl⟩ inX5 0 (by decide) rfl rfl hb.now.t0 (cq_nfw F.2.2.2.2 (List.mem_of_getElem? (l := cq_nf) (i := 1) rfl)) dX6_light_9 ?_
  refine cq_iload_n F (i := 1) dX6_light_12 rfl rfl ?_
  have hj_13 : c < 4 := (by omega)
  refine cq_aaldC_j F (j := c) (t := ((b + 1) + 7 + 2 * c)) hb.now.k1 hb.now.n1 rfl ⟨hj_13, by decide⟩ (hb.now.ct _ hj_13) dX6_light_13 ?_
  refine cq_iload_n F (i := 2) dX6_light_14 rfl rfl ?_
  refine cq_callV F (C := RX1) (ci := 2) (nX1_canBeLit (l := l) (D := D) (cA := cA) (Bs := Bs) y (hb.now.cord _ (by omega)) (h.1.2.1 c hc) hq) (cwV 1 F.1.2.2.2.2 gX6_light_X1_canBeLit rfl rfl rfl hdVX1_canBeLit ⟨Nat.le_of_ble_eq_true rfl, Nat.le_of_ble_eq_true rfl⟩) (hb.now.cord _ hj_13).kind ⟨by decide, by decide⟩ rfl rfl rfl (Nat.le_of_ble_eq_true rfl) dX6_light_15 ⟨Nat.le_of_ble_eq_true rfl, Nat.le_of_ble_eq_true rfl⟩ (cq_kIp fun r_15 h_15 => ?_)
  refine cq_if_ne F (tgt := 31) dX6_light_18 (by decide) (fun c_18 => ?_) (fun c_18 => ?_)
  · have c_18 := cq_b1 h_15 c_18
    have hkL := hk.1.light hc c_18
    have e6 : ns_lightNow (S_g S) c y 6 = S_g S 6 := ns_light_n (by omega) (by omega) (by omega)
    refine cq_aload_n F (i := 0) dX6_light_31 rfl rfl ?_
    refine cq_callV F (C := RX6) (ci := 7) (kX6_save l D cA X Bs b B S M hb h hk) (cwV 0 F.1.2.2.2.2 gX6_light_X6_save rfl rfl rfl hdVX6_save ⟨Nat.le_of_ble_eq_true rfl, Nat.le_of_ble_eq_true rfl⟩) hb.kind ⟨by decide, by decide⟩ rfl rfl rfl (Nat.le_of_ble_eq_true rfl) dX6_light_32 ⟨Nat.le_of_ble_eq_true rfl, Nat.le_of_ble_eq_true rfl⟩ (cq_kV fun M_32 h_32 => ?_)
    have hs32 := h_32.1
    refine cq_aload_n F (i := 0) dX6_light_35 rfl rfl ?_
    refine cq_getT (t := (b + 1)) F (C := RX6) (T := TX6) (N := 9) (ci := 7) hb.kind rfl ⟨⟨by decide, by decide⟩, rfl⟩ inX6 0 (by decide) rfl rfl hb.t0 (F.1.2.2.2.2 _ (List.mem_of_getElem? (l := wsX6_light) (i := 3) (a := .fieldLink RX6 10 "CordClock" "now" "LCordClock$State;") (by decide +kernel))) dX6_light_36 ?_
    refine cq_iload_n F (i := 1) dX6_light_39 rfl rfl ?_
    refine cq_iload_n F (i := 2) dX6_light_40 rfl rfl ?_
    refine cq_callV F (C := RX5) (ci := 6) (kX5_lightEnd l D cA X Bs (b + 1) B c y (S_g S) M_32 hb.now hs32.1 hk.1 hc c_18) (cwV 2 F.1.2.2.2.2 gX6_light_X5_lightEnd rfl rfl rfl hdVX5_lightEnd ⟨Nat.le_of_ble_eq_true rfl, Nat.le_of_ble_eq_true rfl⟩) hb.now.kind ⟨by decide, by decide⟩ rfl rfl rfl (Nat.le_of_ble_eq_true rfl) dX6_light_41 ⟨Nat.le_of_ble_eq_true rfl, Nat.le_of_ble_eq_true rfl⟩ (cq_kV fun M_41 h_41 => ?_)
    refine cq_aload_n F (i := 0) dX6_light_44 rfl rfl ?_
    refine cq_getT (t := (b + 1)) F (C := RX6) (T := TX6) (N := 9) (ci := 7) hb.kind rfl ⟨⟨by decide, by decide⟩, rfl⟩ inX6 0 (by decide) rfl rfl hb.t0 (F.1.2.2.2.2 _ (List.mem_of_getElem? (l := wsX6_light) (i := 3) (a := .fieldLink RX6 10 "CordClock" "now" "LCordClock$State;") (by decide +kernel))) dX6_light_45 ?_
    refine cq_callV F (C := RX5) (ci := 6) (kX5_flameCount l D cA X Bs (b + 1) B (ns_lightNow (S_g S) c y) M_41 hb.now h_41.1 hkL) (cwV 0 F.1.2.2.2.2 gX6_light_X5_flameCount rfl rfl rfl hdVX5_flameCount ⟨Nat.le_of_ble_eq_true rfl, Nat.le_of_ble_eq_true rfl⟩) hb.now.kind ⟨by decide, by decide⟩ rfl rfl rfl (Nat.le_of_ble_eq_true rfl) dX6_light_48 ⟨Nat.le_of_ble_eq_true rfl, Nat.le_of_ble_eq_true rfl⟩ (cq_kIp fun r_48 h_48 => ?_)
    rw [e6] at h_48
    subst h_48
    refine cq_ret9 ?_
    exact cq_iret F hr (by decide) (by decide) dX6_light_51 ⟨_, rfl, (cw_of (by unfold op_light; rw [if_pos h_2b, ec, if_pos c_18]) (hs32.now hk.save h_41.1 h_41.2) (h_32.2.trans (h_41.2.wide (by omega) (by omega))))⟩
  · have c_18 := cq_b0 h_15 c_18
    refine cq_throw F hl hex (by decide +kernel) (F.1.2.2.2.2 _ (List.mem_of_getElem? (l := wsX6_light) (i := 1) (a := .classLink RX6 59 "java/lang/IllegalStateException") (by decide +kernel))) (F.1.2.2.2.2 _ (List.mem_of_getElem? (l := wsX6_light) (i := 2) (a := .initialized "java/lang/IllegalStateException") (by decide +kernel))) (List.mem_of_getElem? (l := cq_sr) (i := 4) rfl) (fun w h => F.1.2.2.2.2 w ((fun w h => List.mem_cons_of_mem _ (List.mem_append_left _ (List.mem_append_right _ h))) w h)) xn_59_63 xg_59_63 dX6_light_21 dX6_light_24 dX6_light_25 dX6_light_27 dX6_light_30 ⟨by decide, Nat.le_of_ble_eq_true rfl, by decide, by decide⟩ ⟨by decide, by decide⟩ ?_
    exact (cx_of (k := 1) (by unfold op_light; rw [if_pos h_2b, ec, if_neg c_18]) rfl rfl)
theorem hdVX6_light : yX6_light.cls = RX6 ∧ yX6_light.cls ≠ "java/lang/invoke/MethodHandle" ∧ yX6_light.cls ≠ "java/lang/invoke/VarHandle" ∧ (parseMethodDescriptor yX6_light.desc).map (fun d => d.parameters.length) = some 2 := by decide +kernel
