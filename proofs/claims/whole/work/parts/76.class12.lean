/-! the class: orders are carried out -/
abbrev rmX6_carryOutLit : Room := ({ frames := 2, cells := 0, slots := 0, locals := 45 })
set_option maxHeartbeats 4000000 in
set_option maxRecDepth 100000 in
theorem kX6_carryOutLit (l : Launch) (D : va_G) (cA : Nat → ClassId) (X : cq_X) (Bs : Nat) (b B : Nat) (g : Nat → Nat) (c y : Nat) (M : cq_M) (hb : cq_isClock X b) (hs : cr_st M (b + 1) g) (hk : ns_ok g B) (h7 : M (b + 50) 7 = nI c) (h8 : M (b + 50) 8 = nI y) (hc9 : c ≤ 3) : cq_C l yX6_carryOutLit wsX6_carryOutLit rmX6_carryOutLit D cA X Bs [.ref b] M (cq_PI (fun r M1 => r = (if (c < g 6 ∧ ns_canLight g c (nI y)) then 1 else 0) ∧ ((c < g 6 ∧ ns_canLight g c (nI y)) → cr_st M1 (b + 1) (ns_lightNow g c (nI y)) ∧ cr_fr M M1 (b + 1) 23) ∧ (¬ (c < g 6 ∧ ns_canLight g c (nI y)) → M1 = M))) 0 0 := by
  refine cq_met (cc := cX6_carryOutLit) (maxL := 1) (ret := (some .boolean)) (by decide) rfl (Nat.le_of_ble_eq_true rfl) [(0, .ref b)] rfl rfl ?_
  intro p9 e9 s9 m9 b9 t9 c9 F hr
  have inX2 : ∀ w ∈ wsX20, w ∈ wsX6_carryOutLit := (fun w h => List.mem_cons_of_mem _ (List.mem_append_left _ (List.mem_append_left _ (List.mem_append_left _ (List.mem_append_right _ h)))))
  have inX5 : ∀ w ∈ wsX50, w ∈ wsX6_carryOutLit := (fun w h => List.mem_cons_of_mem _ (List.mem_append_left _ (List.mem_append_left _ (List.mem_append_right _ h))))
  have inX6 : ∀ w ∈ wsX60, w ∈ wsX6_carryOutLit := (fun w h => List.mem_cons_of_mem _ (List.mem_append_left _ (List.mem_append_left _ (List.mem_append_left _ (List.mem_append_left _ (List.mem_append_right _ h))))))
  have hk6 := hk.1
  refine cq_aload_n F (i := 0) dX6_carryOutLit_0 rfl rfl ?_
  refine cq_getT (t := (b + 1)) F (C := RX6) (T := TX6) (N := 9) (ci := 7) hb.kind rfl ⟨⟨by decide, by decide⟩, rfl⟩ inX6 0 (by decide) rfl rfl hb.t0 (F.1.2.2.2.2 _ (List.mem_of_getElem? (l := wsX6_carryOutLit) (i := 1) (a := .fieldLink RX6 10 "CordClock" "now" "LCordClock$State;") (by decide +kernel))) dX6_carryOutLit_1 ?_
  refine cq_aload_n F (i := 0) dX6_carryOutLit_4 rfl rfl ?_
  refine cq_getT (t := (b + 50)) F (C := RX6) (T := TX6) (N := 9) (ci := 7) hb.kind rfl ⟨⟨by decide, by decide⟩, rfl⟩ inX6 7 (by decide) rfl rfl hb.t7 (F.1.2.2.2.2 _ (List.mem_of_getElem? (l := wsX6_carryOutLit) (i := 2) (a := .fieldLink RX6 33 "CordClock" "text" "LCordClock$OrderText;") (by decide +kernel))) dX6_carryOutLit_5 ?_
  refine cq_getIN F (C := RX2) (T := TX2) (N := 10) (ci := 3) hb.text.kind rfl ⟨⟨by decide, by decide⟩, rfl⟩ inX2 7 (by decide) rfl rfl (cq_nfw F.2.2.2.2 (List.mem_of_getElem? (l := cq_nf) (i := 30) rfl)) dX6_carryOutLit_8 ?_
  rw [show M (b + 50) 7 = nI (c) from (show M (b + 50) 7 = nI (c) from h7)]
  refine cq_callV F (C := RX5) (ci := 6) (kX5_hasCord l D cA X Bs (b + 1) B (nI c) g M hb.now hs hk) (cwV 1 F.1.2.2.2.2 gX6_carryOutLit_X5_hasCord rfl rfl rfl hdVX5_hasCord ⟨Nat.le_of_ble_eq_true rfl, Nat.le_of_ble_eq_true rfl⟩) hb.now.kind ⟨by decide, by decide⟩ rfl rfl rfl (Nat.le_of_ble_eq_true rfl) dX6_carryOutLit_11 ⟨Nat.le_of_ble_eq_true rfl, Nat.le_of_ble_eq_true rfl⟩ (cq_kIp fun r_11 h_11 => ?_)
  refine cq_if_eq F (tgt := 45) dX6_carryOutLit_14 (by decide) (fun c_14 => ?_) (fun c_14 => ?_)
  · have c_14 := cq_b0 h_11 c_14
    have d_14 : ¬ c < g 6 := fun z => c_14 (nI_cd2 (by omega) z)
    refine cq_iconst F (v := 0) dX6_carryOutLit_45 rfl ?_
    exact cq_zret F hr (by rfl) (by decide) (by decide) dX6_carryOutLit_46 ⟨_, rfl, ⟨by first | exact (if_neg (fun z => d_14 z.1)).symm | exact (if_neg (fun z => c_42 z.2)).symm, fun z => by first | exact absurd z.1 d_14 | exact absurd z.2 c_42, fun _ => rfl⟩⟩
  · have c_14 := cq_b1 h_11 c_14
    have d_14 : c < g 6 := (nI_ltI (by omega) (by omega)).mp c_14.2
    refine cq_aload_n F (i := 0) dX6_carryOutLit_17 rfl rfl ?_
    refine cq_getT (t := (b + 1)) F (C := RX6) (T := TX6) (N := 9) (ci := 7) hb.kind rfl ⟨⟨by decide, by decide⟩, rfl⟩ inX6 0 (by decide) rfl rfl hb.t0 (F.1.2.2.2.2 _ (List.mem_of_getElem? (l := wsX6_carryOutLit) (i := 1) (a := .fieldLink RX6 10 "CordClock" "now" "LCordClock$State;") (by decide +kernel))) dX6_carryOutLit_18 ?_
    refine cq_getTN (t := ((b + 1) + 1)) F (C := RX5) (T := TX5) (N := 11) (ci := 6) hb.now.kind rfl ⟨⟨by decide, by decide⟩, rfl⟩ inX5 0 (by decide) rfl rfl hb.now.t0 (cq_nfw F.2.2.2.2 (List.mem_of_getElem? (l := cq_nf) (i := 1) rfl)) dX6_carryOutLit_21 ?_
    refine cq_aload_n F (i := 0) dX6_carryOutLit_24 rfl rfl ?_
    refine cq_getT (t := (b + 50)) F (C := RX6) (T := TX6) (N := 9) (ci := 7) hb.kind rfl ⟨⟨by decide, by decide⟩, rfl⟩ inX6 7 (by decide) rfl rfl hb.t7 (F.1.2.2.2.2 _ (List.mem_of_getElem? (l := wsX6_carryOutLit) (i := 2) (a := .fieldLink RX6 33 "CordClock" "text" "LCordClock$OrderText;") (by decide +kernel))) dX6_carryOutLit_25 ?_
    refine cq_getIN F (C := RX2) (T := TX2) (N := 10) (ci := 3) hb.text.kind rfl ⟨⟨by decide, by decide⟩, rfl⟩ inX2 7 (by decide) rfl rfl (cq_nfw F.2.2.2.2 (List.mem_of_getElem? (l := cq_nf) (i := 30) rfl)) dX6_carryOutLit_28 ?_
    rw [show M (b + 50) 7 = nI (c) from (show M (b + 50) 7 = nI (c) from h7)]
    have hj_31 : c < 4 := (by omega)
    refine cq_aaldC_j F (j := c) (t := ((b + 1) + 7 + 2 * c)) hb.now.k1 hb.now.n1 rfl ⟨hj_31, by decide⟩ (hb.now.ct _ hj_31) dX6_carryOutLit_31 ?_
    refine cq_aload_n F (i := 0) dX6_carryOutLit_32 rfl rfl ?_
    refine cq_getT (t := (b + 50)) F (C := RX6) (T := TX6) (N := 9) (ci := 7) hb.kind rfl ⟨⟨by decide, by decide⟩, rfl⟩ inX6 7 (by decide) rfl rfl hb.t7 (F.1.2.2.2.2 _ (List.mem_of_getElem? (l := wsX6_carryOutLit) (i := 2) (a := .fieldLink RX6 33 "CordClock" "text" "LCordClock$OrderText;") (by decide +kernel))) dX6_carryOutLit_33 ?_
    refine cq_getIN F (C := RX2) (T := TX2) (N := 10) (ci := 3) hb.text.kind rfl ⟨⟨by decide, by decide⟩, rfl⟩ inX2 8 (by decide) rfl rfl (cq_nfw F.2.2.2.2 (List.mem_of_getElem? (l := cq_nf) (i := 31) rfl)) dX6_carryOutLit_36 ?_
    rw [show M (b + 50) 8 = nI (y) from (show M (b + 50) 8 = nI (y) from h8)]
    refine cq_callV F (C := RX1) (ci := 2) (nX1_canBeLit (l := l) (D := D) (cA := cA) (Bs := Bs) (nI y) (hb.now.cord _ (by omega)) (hs.2.1 c d_14) (hk.2.2.2.1 c d_14)) (cwV 1 F.1.2.2.2.2 gX6_carryOutLit_X1_canBeLit rfl rfl rfl hdVX1_canBeLit ⟨Nat.le_of_ble_eq_true rfl, Nat.le_of_ble_eq_true rfl⟩) (hb.now.cord _ hj_31).kind ⟨by decide, by decide⟩ rfl rfl rfl (Nat.le_of_ble_eq_true rfl) dX6_carryOutLit_39 ⟨Nat.le_of_ble_eq_true rfl, Nat.le_of_ble_eq_true rfl⟩ (cq_kIp fun r_39 h_39 => ?_)
    refine cq_if_ne F (tgt := 47) dX6_carryOutLit_42 (by decide) (fun c_42 => ?_) (fun c_42 => ?_)
    · have c_42 := cq_b1 h_39 c_42
      have hcn : (c < g 6 ∧ ns_canLight g c (nI y)) := ⟨d_14, c_42⟩
      refine cq_aload_n F (i := 0) dX6_carryOutLit_47 rfl rfl ?_
      refine cq_getT (t := (b + 1)) F (C := RX6) (T := TX6) (N := 9) (ci := 7) hb.kind rfl ⟨⟨by decide, by decide⟩, rfl⟩ inX6 0 (by decide) rfl rfl hb.t0 (F.1.2.2.2.2 _ (List.mem_of_getElem? (l := wsX6_carryOutLit) (i := 1) (a := .fieldLink RX6 10 "CordClock" "now" "LCordClock$State;") (by decide +kernel))) dX6_carryOutLit_48 ?_
      refine cq_aload_n F (i := 0) dX6_carryOutLit_51 rfl rfl ?_
      refine cq_getT (t := (b + 50)) F (C := RX6) (T := TX6) (N := 9) (ci := 7) hb.kind rfl ⟨⟨by decide, by decide⟩, rfl⟩ inX6 7 (by decide) rfl rfl hb.t7 (F.1.2.2.2.2 _ (List.mem_of_getElem? (l := wsX6_carryOutLit) (i := 2) (a := .fieldLink RX6 33 "CordClock" "text" "LCordClock$OrderText;") (by decide +kernel))) dX6_carryOutLit_52 ?_
      refine cq_getIN F (C := RX2) (T := TX2) (N := 10) (ci := 3) hb.text.kind rfl ⟨⟨by decide, by decide⟩, rfl⟩ inX2 7 (by decide) rfl rfl (cq_nfw F.2.2.2.2 (List.mem_of_getElem? (l := cq_nf) (i := 30) rfl)) dX6_carryOutLit_55 ?_
      rw [show M (b + 50) 7 = nI (c) from (show M (b + 50) 7 = nI (c) from h7)]
      refine cq_aload_n F (i := 0) dX6_carryOutLit_58 rfl rfl ?_
      refine cq_getT (t := (b + 50)) F (C := RX6) (T := TX6) (N := 9) (ci := 7) hb.kind rfl ⟨⟨by decide, by decide⟩, rfl⟩ inX6 7 (by decide) rfl rfl hb.t7 (F.1.2.2.2.2 _ (List.mem_of_getElem? (l := wsX6_carryOutLit) (i := 2) (a := .fieldLink RX6 33 "CordClock" "text" "LCordClock$OrderText;") (by decide +kernel))) dX6_carryOutLit_59 ?_
      refine cq_getIN F (C := RX2) (T := TX2) (N := 10) (ci := 3) hb.text.kind rfl ⟨⟨by decide, by decide⟩, rfl⟩ inX2 8 (by decide) rfl rfl (cq_nfw F.2.2.2.2 (List.mem_of_getElem? (l := cq_nf) (i := 31) rfl)) dX6_carryOutLit_62 ?_
      rw [show M (b + 50) 8 = nI (y) from (show M (b + 50) 8 = nI (y) from h8)]
      refine cq_callV F (C := RX5) (ci := 6) (kX5_lightEnd l D cA X Bs (b + 1) B c (nI y) g M hb.now hs hk d_14 c_42) (cwV 2 F.1.2.2.2.2 gX6_carryOutLit_X5_lightEnd rfl rfl rfl hdVX5_lightEnd ⟨Nat.le_of_ble_eq_true rfl, Nat.le_of_ble_eq_true rfl⟩) hb.now.kind ⟨by decide, by decide⟩ rfl rfl rfl (Nat.le_of_ble_eq_true rfl) dX6_carryOutLit_65 ⟨Nat.le_of_ble_eq_true rfl, Nat.le_of_ble_eq_true rfl⟩ (cq_kV fun M_65 h_65 => ?_)
      refine cq_iconst F (v := 1) dX6_carryOutLit_68 rfl ?_
      exact cq_zret F hr (by rfl) (by decide) (by decide) dX6_carryOutLit_69 ⟨_, rfl, ⟨(if_pos hcn).symm, fun _ => h_65, fun z => absurd hcn z⟩⟩
    · have c_42 := cq_b0 h_39 c_42
      refine cq_iconst F (v := 0) dX6_carryOutLit_45 rfl ?_
      exact cq_zret F hr (by rfl) (by decide) (by decide) dX6_carryOutLit_46 ⟨_, rfl, ⟨by first | exact (if_neg (fun z => d_14 z.1)).symm | exact (if_neg (fun z => c_42 z.2)).symm, fun z => by first | exact absurd z.1 d_14 | exact absurd z.2 c_42, fun _ => rfl⟩⟩
theorem hdVX6_carryOutLit : yX6_carryOutLit.cls = RX6 ∧ yX6_carryOutLit.cls ≠ "java/lang/invoke/MethodHandle" ∧ yX6_carryOutLit.cls ≠ "java/lang/invoke/VarHandle" ∧ (parseMethodDescriptor yX6_carryOutLit.desc).map (fun d => d.parameters.length) = some 0 := by decide +kernel
abbrev rmX6_carryOutWhen : Room := ({ frames := 1, cells := 0, slots := 0, locals := 24 })
set_option maxHeartbeats 4000000 in
set_option maxRecDepth 100000 in
theorem kX6_carryOutWhen (l : Launch) (D : va_G) (cA : Nat → ClassId) (X : cq_X) (Bs : Nat) (b B : Nat) (g : Nat → Nat) (u c y : Nat) (M : cq_M) (hb : cq_isClock X b) (hs : cr_st M (b + 1) g) (hk : ns_ok g B) (h6 : M (b + 50) 6 = nI u) (h7 : M (b + 50) 7 = nI c) (h8 : M (b + 50) 8 = nI y) (hc9 : c ≤ 3 ∧ u ≤ 3 ∧ y ≤ 1) : cq_C l yX6_carryOutWhen wsX6_carryOutWhen rmX6_carryOutWhen D cA X Bs [.ref b] M (cq_PI (fun r M1 => r = (if ((u < g 6 ∧ c < g 6) ∧ u ≠ c ∧ g 51 < 8) then 1 else 0) ∧ (((u < g 6 ∧ c < g 6) ∧ u ≠ c ∧ g 51 < 8) → cr_st M1 (b + 1) (ns_newRule g u c y) ∧ cr_fr M M1 (b + 1) 23) ∧ (¬ ((u < g 6 ∧ c < g 6) ∧ u ≠ c ∧ g 51 < 8) → M1 = M))) 0 0 := by
  refine cq_met (cc := cX6_carryOutWhen) (maxL := 1) (ret := (some .boolean)) (by decide) rfl (Nat.le_of_ble_eq_true rfl) [(0, .ref b)] rfl rfl ?_
  intro p9 e9 s9 m9 b9 t9 c9 F hr
  have inX2 : ∀ w ∈ wsX20, w ∈ wsX6_carryOutWhen := (fun w h => List.mem_cons_of_mem _ (List.mem_append_left _ (List.mem_append_left _ (List.mem_append_right _ h))))
  have inX6 : ∀ w ∈ wsX60, w ∈ wsX6_carryOutWhen := (fun w h => List.mem_cons_of_mem _ (List.mem_append_left _ (List.mem_append_left _ (List.mem_append_left _ (List.mem_append_right _ h)))))
  have hk6 := hk.1
  have hk51 := hk.2.1
  refine cq_aload_n F (i := 0) dX6_carryOutWhen_0 rfl rfl ?_
  refine cq_getT (t := (b + 1)) F (C := RX6) (T := TX6) (N := 9) (ci := 7) hb.kind rfl ⟨⟨by decide, by decide⟩, rfl⟩ inX6 0 (by decide) rfl rfl hb.t0 (F.1.2.2.2.2 _ (List.mem_of_getElem? (l := wsX6_carryOutWhen) (i := 1) (a := .fieldLink RX6 10 "CordClock" "now" "LCordClock$State;") (by decide +kernel))) dX6_carryOutWhen_1 ?_
  refine cq_aload_n F (i := 0) dX6_carryOutWhen_4 rfl rfl ?_
  refine cq_getT (t := (b + 50)) F (C := RX6) (T := TX6) (N := 9) (ci := 7) hb.kind rfl ⟨⟨by decide, by decide⟩, rfl⟩ inX6 7 (by decide) rfl rfl hb.t7 (F.1.2.2.2.2 _ (List.mem_of_getElem? (l := wsX6_carryOutWhen) (i := 2) (a := .fieldLink RX6 33 "CordClock" "text" "LCordClock$OrderText;") (by decide +kernel))) dX6_carryOutWhen_5 ?_
  refine cq_getIN F (C := RX2) (T := TX2) (N := 10) (ci := 3) hb.text.kind rfl ⟨⟨by decide, by decide⟩, rfl⟩ inX2 6 (by decide) rfl rfl (cq_nfw F.2.2.2.2 (List.mem_of_getElem? (l := cq_nf) (i := 32) rfl)) dX6_carryOutWhen_8 ?_
  rw [show M (b + 50) 6 = nI (u) from (show M (b + 50) 6 = nI (u) from h6)]
  refine cq_callV F (C := RX5) (ci := 6) (kX5_hasCord l D cA X Bs (b + 1) B (nI u) g M hb.now hs hk) (cwV 1 F.1.2.2.2.2 gX6_carryOutWhen_X5_hasCord rfl rfl rfl hdVX5_hasCord ⟨Nat.le_of_ble_eq_true rfl, Nat.le_of_ble_eq_true rfl⟩) hb.now.kind ⟨by decide, by decide⟩ rfl rfl rfl (Nat.le_of_ble_eq_true rfl) dX6_carryOutWhen_11 ⟨Nat.le_of_ble_eq_true rfl, Nat.le_of_ble_eq_true rfl⟩ (cq_kIp fun r_11 h_11 => ?_)
  refine cq_if_eq F (tgt := 34) dX6_carryOutWhen_14 (by decide) (fun c_14 => ?_) (fun c_14 => ?_)
  · have c_14 := cq_b0 h_11 c_14
    have d_14 : ¬ u < g 6 := fun z => c_14 (nI_cd2 (by omega) z)
    refine cq_iconst F (v := 0) dX6_carryOutWhen_34 rfl ?_
    exact cq_zret F hr (by rfl) (by decide) (by decide) dX6_carryOutWhen_35 ⟨_, rfl, ⟨by first | exact (if_neg (fun z => d_14 z.1.1)).symm | exact (if_neg (fun z => d_31 z.1.2)).symm | exact (if_neg (fun z => c_60 z.2.2)).symm | exact (if_neg (fun z => absurd c_50 z.2.1)).symm, fun z => by first | exact absurd z.1.1 d_14 | exact absurd z.1.2 d_31 | exact absurd z.2.2 c_60 | exact absurd c_50 z.2.1, fun _ => rfl⟩⟩
  · have c_14 := cq_b1 h_11 c_14
    have d_14 : u < g 6 := (nI_ltI (by omega) (by omega)).mp c_14.2
    refine cq_aload_n F (i := 0) dX6_carryOutWhen_17 rfl rfl ?_
    refine cq_getT (t := (b + 1)) F (C := RX6) (T := TX6) (N := 9) (ci := 7) hb.kind rfl ⟨⟨by decide, by decide⟩, rfl⟩ inX6 0 (by decide) rfl rfl hb.t0 (F.1.2.2.2.2 _ (List.mem_of_getElem? (l := wsX6_carryOutWhen) (i := 1) (a := .fieldLink RX6 10 "CordClock" "now" "LCordClock$State;") (by decide +kernel))) dX6_carryOutWhen_18 ?_
    refine cq_aload_n F (i := 0) dX6_carryOutWhen_21 rfl rfl ?_
    refine cq_getT (t := (b + 50)) F (C := RX6) (T := TX6) (N := 9) (ci := 7) hb.kind rfl ⟨⟨by decide, by decide⟩, rfl⟩ inX6 7 (by decide) rfl rfl hb.t7 (F.1.2.2.2.2 _ (List.mem_of_getElem? (l := wsX6_carryOutWhen) (i := 2) (a := .fieldLink RX6 33 "CordClock" "text" "LCordClock$OrderText;") (by decide +kernel))) dX6_carryOutWhen_22 ?_
    refine cq_getIN F (C := RX2) (T := TX2) (N := 10) (ci := 3) hb.text.kind rfl ⟨⟨by decide, by decide⟩, rfl⟩ inX2 7 (by decide) rfl rfl (cq_nfw F.2.2.2.2 (List.mem_of_getElem? (l := cq_nf) (i := 30) rfl)) dX6_carryOutWhen_25 ?_
    rw [show M (b + 50) 7 = nI (c) from (show M (b + 50) 7 = nI (c) from h7)]
    refine cq_callV F (C := RX5) (ci := 6) (kX5_hasCord l D cA X Bs (b + 1) B (nI c) g M hb.now hs hk) (cwV 1 F.1.2.2.2.2 gX6_carryOutWhen_X5_hasCord rfl rfl rfl hdVX5_hasCord ⟨Nat.le_of_ble_eq_true rfl, Nat.le_of_ble_eq_true rfl⟩) hb.now.kind ⟨by decide, by decide⟩ rfl rfl rfl (Nat.le_of_ble_eq_true rfl) dX6_carryOutWhen_28 ⟨Nat.le_of_ble_eq_true rfl, Nat.le_of_ble_eq_true rfl⟩ (cq_kIp fun r_28 h_28 => ?_)
    refine cq_if_ne F (tgt := 36) dX6_carryOutWhen_31 (by decide) (fun c_31 => ?_) (fun c_31 => ?_)
    · have c_31 := cq_b1 h_28 c_31
      have d_31 : c < g 6 := (nI_ltI (by omega) (by omega)).mp c_31.2
      refine cq_aload_n F (i := 0) dX6_carryOutWhen_36 rfl rfl ?_
      refine cq_getT (t := (b + 50)) F (C := RX6) (T := TX6) (N := 9) (ci := 7) hb.kind rfl ⟨⟨by decide, by decide⟩, rfl⟩ inX6 7 (by decide) rfl rfl hb.t7 (F.1.2.2.2.2 _ (List.mem_of_getElem? (l := wsX6_carryOutWhen) (i := 2) (a := .fieldLink RX6 33 "CordClock" "text" "LCordClock$OrderText;") (by decide +kernel))) dX6_carryOutWhen_37 ?_
      refine cq_getIN F (C := RX2) (T := TX2) (N := 10) (ci := 3) hb.text.kind rfl ⟨⟨by decide, by decide⟩, rfl⟩ inX2 6 (by decide) rfl rfl (cq_nfw F.2.2.2.2 (List.mem_of_getElem? (l := cq_nf) (i := 32) rfl)) dX6_carryOutWhen_40 ?_
      rw [show M (b + 50) 6 = nI (u) from (show M (b + 50) 6 = nI (u) from h6)]
      refine cq_aload_n F (i := 0) dX6_carryOutWhen_43 rfl rfl ?_
      refine cq_getT (t := (b + 50)) F (C := RX6) (T := TX6) (N := 9) (ci := 7) hb.kind rfl ⟨⟨by decide, by decide⟩, rfl⟩ inX6 7 (by decide) rfl rfl hb.t7 (F.1.2.2.2.2 _ (List.mem_of_getElem? (l := wsX6_carryOutWhen) (i := 2) (a := .fieldLink RX6 33 "CordClock" "text" "LCordClock$OrderText;") (by decide +kernel))) dX6_carryOutWhen_44 ?_
      refine cq_getIN F (C := RX2) (T := TX2) (N := 10) (ci := 3) hb.text.kind rfl ⟨⟨by decide, by decide⟩, rfl⟩ inX2 7 (by decide) rfl rfl (cq_nfw F.2.2.2.2 (List.mem_of_getElem? (l := cq_nf) (i := 30) rfl)) dX6_carryOutWhen_47 ?_
      rw [show M (b + 50) 7 = nI (c) from (show M (b + 50) 7 = nI (c) from h7)]
      refine cq_icmp_eq F (tgt := 63) dX6_carryOutWhen_50 (by decide) (fun c_50 => ?_) (fun c_50 => ?_)
      · have c_50 : u = c := (nI_b (a := u) (b := c) (by omega) (by omega)).2.2.mp c_50
        refine cq_iconst F (v := 0) dX6_carryOutWhen_63 rfl ?_
        exact cq_zret F hr (by rfl) (by decide) (by decide) dX6_carryOutWhen_64 ⟨_, rfl, ⟨by first | exact (if_neg (fun z => d_14 z.1.1)).symm | exact (if_neg (fun z => d_31 z.1.2)).symm | exact (if_neg (fun z => c_60 z.2.2)).symm | exact (if_neg (fun z => absurd c_50 z.2.1)).symm, fun z => by first | exact absurd z.1.1 d_14 | exact absurd z.1.2 d_31 | exact absurd z.2.2 c_60 | exact absurd c_50 z.2.1, fun _ => rfl⟩⟩
      · have c_50 : ¬ u = c := fun z => c_50 ((nI_b (a := u) (b := c) (by omega) (by omega)).2.2.mpr z)
        refine cq_aload_n F (i := 0) dX6_carryOutWhen_53 rfl rfl ?_
        refine cq_getT (t := (b + 1)) F (C := RX6) (T := TX6) (N := 9) (ci := 7) hb.kind rfl ⟨⟨by decide, by decide⟩, rfl⟩ inX6 0 (by decide) rfl rfl hb.t0 (F.1.2.2.2.2 _ (List.mem_of_getElem? (l := wsX6_carryOutWhen) (i := 1) (a := .fieldLink RX6 10 "CordClock" "now" "LCordClock$State;") (by decide +kernel))) dX6_carryOutWhen_54 ?_
        refine cq_callV F (C := RX5) (ci := 6) (kX5_hasRoomForRule l D cA X Bs (b + 1) B g M hb.now hs hk) (cwV 0 F.1.2.2.2.2 gX6_carryOutWhen_X5_hasRoomForRule rfl rfl rfl hdVX5_hasRoomForRule ⟨Nat.le_of_ble_eq_true rfl, Nat.le_of_ble_eq_true rfl⟩) hb.now.kind ⟨by decide, by decide⟩ rfl rfl rfl (Nat.le_of_ble_eq_true rfl) dX6_carryOutWhen_57 ⟨Nat.le_of_ble_eq_true rfl, Nat.le_of_ble_eq_true rfl⟩ (cq_kIp fun r_57 h_57 => ?_)
        refine cq_if_ne F (tgt := 65) dX6_carryOutWhen_60 (by decide) (fun c_60 => ?_) (fun c_60 => ?_)
        · have c_60 := cq_b1 h_57 c_60
          have hcn : ((u < g 6 ∧ c < g 6) ∧ u ≠ c ∧ g 51 < 8) := ⟨⟨d_14, d_31⟩, c_50, c_60⟩
          refine cq_aload_n F (i := 0) dX6_carryOutWhen_65 rfl rfl ?_
          refine cq_getT (t := (b + 1)) F (C := RX6) (T := TX6) (N := 9) (ci := 7) hb.kind rfl ⟨⟨by decide, by decide⟩, rfl⟩ inX6 0 (by decide) rfl rfl hb.t0 (F.1.2.2.2.2 _ (List.mem_of_getElem? (l := wsX6_carryOutWhen) (i := 1) (a := .fieldLink RX6 10 "CordClock" "now" "LCordClock$State;") (by decide +kernel))) dX6_carryOutWhen_66 ?_
          refine cq_aload_n F (i := 0) dX6_carryOutWhen_69 rfl rfl ?_
          refine cq_getT (t := (b + 50)) F (C := RX6) (T := TX6) (N := 9) (ci := 7) hb.kind rfl ⟨⟨by decide, by decide⟩, rfl⟩ inX6 7 (by decide) rfl rfl hb.t7 (F.1.2.2.2.2 _ (List.mem_of_getElem? (l := wsX6_carryOutWhen) (i := 2) (a := .fieldLink RX6 33 "CordClock" "text" "LCordClock$OrderText;") (by decide +kernel))) dX6_carryOutWhen_70 ?_
          refine cq_getIN F (C := RX2) (T := TX2) (N := 10) (ci := 3) hb.text.kind rfl ⟨⟨by decide, by decide⟩, rfl⟩ inX2 6 (by decide) rfl rfl (cq_nfw F.2.2.2.2 (List.mem_of_getElem? (l := cq_nf) (i := 32) rfl)) dX6_carryOutWhen_73 ?_
          rw [show M (b + 50) 6 = nI (u) from (show M (b + 50) 6 = nI (u) from h6)]
          refine cq_aload_n F (i := 0) dX6_carryOutWhen_76 rfl rfl ?_
          refine cq_getT (t := (b + 50)) F (C := RX6) (T := TX6) (N := 9) (ci := 7) hb.kind rfl ⟨⟨by decide, by decide⟩, rfl⟩ inX6 7 (by decide) rfl rfl hb.t7 (F.1.2.2.2.2 _ (List.mem_of_getElem? (l := wsX6_carryOutWhen) (i := 2) (a := .fieldLink RX6 33 "CordClock" "text" "LCordClock$OrderText;") (by decide +kernel))) dX6_carryOutWhen_77 ?_
          refine cq_getIN F (C := RX2) (T := TX2) (N := 10) (ci := 3) hb.text.kind rfl ⟨⟨by decide, by decide⟩, rfl⟩ inX2 7 (by decide) rfl rfl (cq_nfw F.2.2.2.2 (List.mem_of_getElem? (l := cq_nf) (i := 30) rfl)) dX6_carryOutWhen_80 ?_
          rw [show M (b + 50) 7 = nI (c) from (show M (b + 50) 7 = nI (c) from h7)]
          refine cq_aload_n F (i := 0) dX6_carryOutWhen_83 rfl rfl ?_
          refine cq_getT (t := (b + 50)) F (C := RX6) (T := TX6) (N := 9) (ci := 7) hb.kind rfl ⟨⟨by decide, by decide⟩, rfl⟩ inX6 7 (by decide) rfl rfl hb.t7 (F.1.2.2.2.2 _ (List.mem_of_getElem? (l := wsX6_carryOutWhen) (i := 2) (a := .fieldLink RX6 33 "CordClock" "text" "LCordClock$OrderText;") (by decide +kernel))) dX6_carryOutWhen_84 ?_
          refine cq_getIN F (C := RX2) (T := TX2) (N := 10) (ci := 3) hb.text.kind rfl ⟨⟨by decide, by decide⟩, rfl⟩ inX2 8 (by decide) rfl rfl (cq_nfw F.2.2.2.2 (List.mem_of_getElem? (l := cq_nf) (i := 31) rfl)) dX6_carryOutWhen_87 ?_
          rw [show M (b + 50) 8 = nI (y) from (show M (b + 50) 8 = nI (y) from h8)]
          refine cq_callV F (C := RX5) (ci := 6) (kX5_addRule l D cA X Bs (b + 1) B u c y g M hb.now hs hk c_60 hc9.2.2) (cwV 3 F.1.2.2.2.2 gX6_carryOutWhen_X5_addRule rfl rfl rfl hdVX5_addRule ⟨Nat.le_of_ble_eq_true rfl, Nat.le_of_ble_eq_true rfl⟩) hb.now.kind ⟨by decide, by decide⟩ rfl rfl rfl (Nat.le_of_ble_eq_true rfl) dX6_carryOutWhen_90 ⟨Nat.le_of_ble_eq_true rfl, Nat.le_of_ble_eq_true rfl⟩ (cq_kV fun M_90 h_90 => ?_)
          refine cq_iconst F (v := 1) dX6_carryOutWhen_93 rfl ?_
          exact cq_zret F hr (by rfl) (by decide) (by decide) dX6_carryOutWhen_94 ⟨_, rfl, ⟨(if_pos hcn).symm, fun _ => h_90, fun z => absurd hcn z⟩⟩
        · have c_60 := cq_b0 h_57 c_60
          refine cq_iconst F (v := 0) dX6_carryOutWhen_63 rfl ?_
          exact cq_zret F hr (by rfl) (by decide) (by decide) dX6_carryOutWhen_64 ⟨_, rfl, ⟨by first | exact (if_neg (fun z => d_14 z.1.1)).symm | exact (if_neg (fun z => d_31 z.1.2)).symm | exact (if_neg (fun z => c_60 z.2.2)).symm | exact (if_neg (fun z => absurd c_50 z.2.1)).symm, fun z => by first | exact absurd z.1.1 d_14 | exact absurd z.1.2 d_31 | exact absurd z.2.2 c_60 | exact absurd c_50 z.2.1, fun _ => rfl⟩⟩
    · have c_31 := cq_b0 h_28 c_31
      have d_31 : ¬ c < g 6 := fun z => c_31 (nI_cd2 (by omega) z)
      refine cq_iconst F (v := 0) dX6_carryOutWhen_34 rfl ?_
      exact cq_zret F hr (by rfl) (by decide) (by decide) dX6_carryOutWhen_35 ⟨_, rfl, ⟨by first | exact (if_neg (fun z => d_14 z.1.1)).symm | exact (if_neg (fun z => d_31 z.1.2)).symm | exact (if_neg (fun z => c_60 z.2.2)).symm | exact (if_neg (fun z => absurd c_50 z.2.1)).symm, fun z => by first | exact absurd z.1.1 d_14 | exact absurd z.1.2 d_31 | exact absurd z.2.2 c_60 | exact absurd c_50 z.2.1, fun _ => rfl⟩⟩
theorem hdVX6_carryOutWhen : yX6_carryOutWhen.cls = RX6 ∧ yX6_carryOutWhen.cls ≠ "java/lang/invoke/MethodHandle" ∧ yX6_carryOutWhen.cls ≠ "java/lang/invoke/VarHandle" ∧ (parseMethodDescriptor yX6_carryOutWhen.desc).map (fun d => d.parameters.length) = some 0 := by decide +kernel
