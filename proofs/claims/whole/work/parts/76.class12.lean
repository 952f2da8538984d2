/-! the class: orders are carried out -/
abbrev rmX6_carryOutLit : Room := ({ frames := 2, cells := 0, slots := 0, locals := 45 })
set_option maxHeartbeats 4000000 in
set_option maxRecDepth 100000 in
theorem kX6_carryOutLit (l : Launch) (D : va_G) (cA : Nat → ClassId) (X : cq_X) (Bs : Nat) (b B : Nat) (g : Nat → Nat) (c y : Nat) (M : cq_M) (hb : cq_isClock X b) (hs : cr_st M (b + 1) g) (hk : ns_ok g B) (h7 : M (b + 50) 7 = nI c) (h8 : M (b + 50) 8 = nI y) (hc9 : c ≤ 3) : cq_C l yX6_carryOutLit wsX6_carryOutLit rmX6_carryOutLit D cA X Bs [.ref b] M (cq_PI (fun r M1 => r = (if (c < g 6 ∧ ns_canLight g c (nI y)) then 1 else 0) ∧ ((c < g 6 ∧ ns_canLight g c (nI y)) → cr_st M1 (b + 1) (ns_lightNow g c (nI y)) ∧ cr_fr M M1 (b + 1) 23) ∧ (¬ (c < g 6 ∧ ns_canLight g c (nI y)) → M1 = M))) 0 0 := by
  refine cq_met (cc := cX6_carryOutLit) (maxL := 1) (ret := (some .boolean)) (by decide) rfl (Nat.le_of_ble_eq_true rfl) [(0, .ref b)] rfl rfl ?_
  intro p9 e9 s9 m9 b9 t9 c9 F hr
  have inX2 : ∀ w ∈ wsX20, w ∈ wsX6_carryOutLit := (fun w h => List.mem_cons_of_mem _ (List.mem_append_left _ (List.mem_append_left _ (List.mem_append_left _ (List.mem_append_right _ h)))))
  have inX5 : ∀ w ∈ wsX50, w ∈ wsX6_carryOutLit := (fun w h => List.mem_cons_of_mem _ (List.mem_append_left _ (List.mem_append_left _ (List.mem_append_right _ h))))
  have inX6 : ∀ w ∈ wsX60, w ∈ wsX6_carryOutLit := (fun w h => List.mem_cons_of_mem _ (List.mem_append_left _ (List.mem_append_left _ (List.mem_append_left _ (List.mem_append_left _ (List.mem_append_right _ h))))))
  have hk6 := hk.1
  refine cq_aload_n F (i := 0) dX6_carryOutLit_0 rfl rfl ?_
  refine cq_getT (t := (b + 1)) F (C := RX6) (T := TX6) (N := 9) (ci := 7) hb.kind rfl ⟨⟨by decide, by decide⟩, rfl⟩ inX6 0 (by decide) rfl rfl hb.t0 (F.1.2.2.2.2 _ (List.mem_of_getElem? (l := wsX6_carryOutLit) (i := 1) (a := .fieldLink RX6 10 "CordClock" "now" "LCordClock$State;") (by decide +kernel))) dX6_carryOutLit_1 ?_
  refine cq_aload_n F (i := 0) dX6_carryOutLit_4 rfl rfl ?_
  refine cq_getT (t := (b + 50)) F (C := RX6) (T := TX6) (N := 9) (ci := 7) hb.kind rfl ⟨⟨by decide, by decide⟩, rfl⟩ inX6 7 (by decide) rfl rfl hb.t7 (F.1.2.2.2.2 _ (List.mem_of_getElem? (l := wsX6_carryOutLit) (i := 2) (a := .fieldLink RX6 33 "CordClock" "text" "LCordClock$OrderText;") (by decide +kernel))) dX6_carryOutLit_5 ?_
  refine cq_getIN F (C := RX2) (T := TX2) (N := 10) (ci := 3) hb.text.kind rfl ⟨⟨by decide, by decide⟩, rfl⟩ inX2 7 (by decide) rfl rfl (cq_nfw F.2.2.2.2 (List.mem_of_getElem? (l := cq_nf) (i := 30) rfl)) dX6_carryOutLit_8 ?_
  rw [show M (b + 50) 7 = nI (c) from (show M (b + 50) 7 = nI (c) from h7)]
  refine cq_callV F (C := RX5) (ci := 6) (kX5_hasCord l D cA X Bs (b + 1) B (nI c) g M hb.now hs hk) (cwV 1 F.1.2.2.2.2 gX6_carryOutLit_X5_hasCord rfl rfl rfl hdVX5_hasCord ⟨Nat.le_of_ble_eq_true rfl, Nat.le_of_ble_eq_true rfl⟩) hb.now.kind ⟨by decide, by decide⟩ rfl rfl rfl (Nat.le_of_ble_eq_true rfl) dX6_carryOutLit_11 ⟨Nat.le_of_ble_eq_true rfl, Nat.le_of_ble_eq_true rfl⟩ (cq_kIp fun r_11 h_11 => ?_)
  refine cq_if_eq F (tgt := 45) dX6_carryOutLit_14 (by decide) (fun c_14 => ?_) (fun c_14 => ?_)
  · have c_14 := cq_b0 h_11 c_14
    have d_14 : ¬ c < g 6 := fun z => c_14 (nI_cd2 (by omega) z)
    refine cq_iconst F (v := 0) dX6_carryOutLit_45 rfl ?_
    exact cq_zret F hr (by rfl) (by decide) (by decide) dX6_carryOutLit_46 ⟨_, rfl, ⟨by first | exact (if_neg (fun z => d_14 z.1)).symm | exact (if_neg (fun z => c_42 z.2)).symm, fun z => by first | exact absurd z.1 d_14 | exact absurd z.2 c_42, fun _ => rfl⟩⟩
  · have c_14 := cq_b1 h_11 c_14
    have d_14 : c < g 6 := (nI_ltI (by omega) (by omega)).mp c_14.2
    refine cq_aload_n F (i := 0) dX6_carryOutLit_17 rfl rfl ?_
    refine cq_getT (t := (b + 1)) F (C := RX6) (T := TX6) (N := 9) (ci := 7) hb.kind rfl ⟨⟨by decide, by decide⟩, rfl⟩ inX6 0 (by decide) rfl rfl hb.t0 (F.1.2.2.2.2 _ (List.mem_of_getElem? (l := wsX6_carryOutLit) (i := 1) (a := .fieldLink RX6 10 "CordClock" "now" "LCordClock$State;") (by decide +kernel))) dX6_carryOutLit_18 ?_
    refine cq_getTN (t := ((b + 1) + 1)) F (C := RX5) (T := TX5) (N := 11) (ci := 6) hb.now.kind rfl ⟨⟨by decide, by decide⟩, rfl⟩ inX5 0 (by decide) rfl rfl hb.now.t0 (cq_nfw F.2.2.2.2 (List.mem_of_getElem? (l := cq_nf) (i := 1) rfl)) dX6_carryOutLit_21 ?_
    refine cq_aload_n F (i := 0) dX6_carryOutLit_24 rfl rfl ?_
    refine cq_getT (t := (b + 50)) F (C := RX6) (T := TX6) (N := 9) (ci := 7) hb.kind rfl ⟨⟨by decide, by decide⟩, rfl⟩ inX6 7 (by decide) rfl rfl hb.t7 (F.1.2.2.2.2 _ (List.mem_of_getElem? (l := wsX6_carryOutLit) (i := 2) (a := .fieldLink RX6 33 "CordClock" "text" "LCordClock$OrderText;") (by decide +kernel))) dX6_carryOutLit_25 ?_
    refine cq_getIN F (C := RX2) (T := TX2) (N := 10) (ci := 3) hb.text.kind rfl ⟨⟨by decide, by decide⟩, rfl⟩ inX2 7 (by decide) rfl rfl (cq_nfw F.2.2.2.2 (List.mem_of_getElem? (l := cq_nf) (i := 30) rfl)) dX6_carryOutLit_28 ?_
    rw [show M (b + 50) 7 = nI (c) from (show M (b + 50) 7 = nI (c) from h7)]
    have hj_31 : c < 4 := (by omega)
    refine cq_aaldC_j F (j := c) (t := ((b + 1) + 7 + 2 * c)) hb.now.k1 hb.now.n1 rfl ⟨hj_31, by decide⟩ (hb.now.ct _ hj_31) dX6_carryOutLit_31 ?_
    refine cq_aload_n F (i := 0) dX6_carryOutLit_32 rfl rfl ?_
    refine cq_getT (t := (b + 50)) F (C := RX6) (T := TX6) (N := 9) (ci := 7) hb.kind rfl ⟨⟨by decide, by decide⟩, rfl⟩ inX6 7 (by decide) rfl rfl hb.t7 (F.1.2.2.2.2 _ (List.mem_of_getElem? (l := wsX6_carryOutLit) (i := 2) (a := .fieldLink RX6 33 "CordClock" "text" "LCordClock$OrderText;") (by decide +kernel))) dX6_carryOutLit_33 ?_
    refine cq_getIN F (C := RX2) (T := TX2) (N := 10) (ci := 3) hb.text.kind rfl ⟨⟨by decide, by decide⟩, rfl⟩ inX2 8 (by decide) rfl rfl (cq_nfw F.2.2.2.2 (List.mem_of_getElem? (l := cq_nf) (i := 31) rfl)) dX6_carryOutLit_36 ?_
    rw [show M (b + 50) 8 = nI (y) from (show M (b + 50) 8 = nI (y) from h8)]
    refine cq_callV F (C := RX1) (ci := 2) (nX1_canBeLit (l := l) (D := D) (cA := cA) (Bs := Bs) (nI y) (hb.now.cord _ (by omega)) (hs.2.1 c d_14) (hk.2.2.2.1 c d_14)) (cwV 1 F.1.2.2.2.2 gX6_carryOutLit_X1_canBeLit rfl rfl rfl hdVX1_canBeLit ⟨Nat.le_of_ble_eq_true rfl, Nat.le_of_ble_eq_true rfl⟩) (hb.now.cord _ hj_31).kind ⟨by decide, by decide⟩ rfl rfl rfl (Nat.le_of_ble_eq_true rfl) dX6_carryOutLit_39 ⟨Nat.le_of_ble_eq_true rfl, Nat.le_of_ble_eq_true rfl⟩ (cq_kIp fun r_39 h_39 => ?_)
    refine cq_if_ne F (tgt := 47) dX6_carryOutLit_42 (by decide) (fun c_42 => ?_) (fun c_42 => ?_)
    · have c_42 := cq_b1 h_39 c_42
      have hcn : (c < g 6 ∧ ns_canLight g c (nI y)) := ⟨d_14, c_42⟩
      refine cq_aload_n F (i := 0) dX6_carryOutLit_47 rfl rfl ?_
      refine cq_getT (t := (b + 1)) F (C := RX6) (T := TX6) (N := 9) (ci := 7) hb.kind rfl ⟨⟨by decide, by decide⟩, rfl⟩ inX6 0 (by decide) rfl rfl hb.t0 (F.1.2.2.2.2 _ (List.mem_of_getElem? (l := wsX6_carryOutLit) (i := 1) (a := .fieldLink RX6 10 "CordClock" "now" "LCordClock$State;") (by decide +kernel))) dX6_carryOutLit_48 ?_
      refine cq_aload_n F (i := 0) dX6_carryOutLit_51 rfl rfl ?_
      refine cq_getT (t := (b + 50)) F (C := RX6) (T := TX6) (N := 9) (ci := 7) hb.kind rfl ⟨⟨by decide, by decide⟩, rfl⟩ inX6 7 (by decide) rfl rfl hb.t7 (F.1.2.2.2.2 _ (List.mem_of_getElem? (l := wsX6_carryOutLit) (i := 2) (a := .fieldLink RX6 33 "CordClock" "text" "LCordClock$OrderText;") (by decide +kernel))) dX6_carryOutLit_52 ?_
      refine cq_getIN F (C := RX2) (T := TX2) (N := 10) (ci := 3) hb.text.kind rfl ⟨⟨by decide, by decide⟩, rfl⟩ inX2 7 (by decide) rfl rfl (cq_nfw F.2.2.2.2 (List.mem_of_getElem? (l := cq_nf) (i := 30) rfl)) dX6_carryOutLit_55 ?_
      rw [show M (b + 50) 7 = nI (c) from (show M (b + 50) 7 = nI (c) from h7)]
      refine cq_aload_n F (i := 0) dX6_carryOutLit_58 rfl rfl ?_
      refine cq_getT (t := (b + 50)) F (C := RX6) (T := TX6) (N := 9) (ci := 7) hb.kind rfl ⟨⟨by decide, by decide⟩, rfl⟩ inX6 7 (by decide) rfl rfl hb.t7 (F.1.2.2.2.2 _ (List.mem_of_getElem? (l := wsX6_carryOutLit) (i := 2) (a := .fieldLink RX6 33 "CordClock" "text" "LCordClock$OrderText;") (by decide +kernel))) dX6_carryOutLit_59 ?_
      refine cq_getIN F (C := RX2) (T := TX2) (N := 10) (ci := 3) hb.text.kind rfl ⟨⟨by decide, by decide⟩, rfl⟩ inX2 8 (by decide) rfl rfl (cq_nfw F.2.2.2.2 (List.mem_of_getElem? (l := cq_nf) (i := 31) rfl)) dX6_carryOutLit_62 ?_
      rw [show M (b + 50) 8 = nI (y) from (show M (b + 50) 8 = nI (y) from h8)]
      refine cq_callV F (C := RX5) (ci := 6) (kX5_lightEnd l D cA X Bs (b + 1) B c (nI y) g M hb.now hs hk d_14 c_42) (cwV 2 F.1.2.2.2.2 gX6_carryOutLit_X5_lightEnd rfl rfl rfl hdVX5_lightEnd ⟨Nat.le_of_ble_eq_true rfl, Nat.le_of_ble_eq_true rfl⟩) hb.now.kind ⟨by decide, by decide⟩ rfl rfl rfl (Nat.le_of_ble_eq_true rfl) dX6_carryOutLit_65 ⟨Nat.le_of_ble_eq_true rfl, Nat.le_of_ble_eq_true rfl⟩ (cq_kV fun M_65 h_65 => ?_)
      refine cq_iconst F (v := 1) dX6_carryOutLit_68 rfl ?_
      exact cq_zret F hr (by rfl) (by decide) (by decide) dX6_carryOutLit_69 ⟨_, rfl, ⟨(if_pos hcn).symm, fun _ => h_65, fun z => absurd hcn z⟩⟩
    · have c_42 := cq_b0 h_39 c_42
      refine cq_iconst F (v := 0) dX6_carryOutLit_45 rfl ?_
      exact cq_zret F hr (by rfl) (by decide) (by decide) dX6_carryOutLit_46 ⟨_, rfl, ⟨by first | exact (if_neg (fun z => d_14 z.1)).symm | exact (if_neg (fun z => c_42 z.2)).symm, fun z => by first | exact absurd z.1 d_14 | exact absurd z.2 c_42, fun _ => rfl⟩⟩
theorem hdVX6_carryOutLit : yX6_carryOutLit.cls = RX6 ∧ yX6_carryOutLit.cls ≠ "java/lang/invoke/MethodHandle" ∧ yX6_carryOutLit.cls ≠ "java/lang/invoke/VarHandle" ∧ (parseMethodDescriptor yX6_carryOutLit.desc).map (fun d => d.parameters.length) = some 0 := by decide +kernel
