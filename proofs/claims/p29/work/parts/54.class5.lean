/-! the class: its calls' helpers -/
theorem xn_48_52 : ∀ w ∈ (vx_atS RX6 52 "java/lang/IllegalArgumentException" cq_nms).filter (fun w => !goodWord w), w ∈ cq_no := by decide +kernel
theorem xg_48_52 : ∀ w ∈ Cond.classLink RX6 48 "java/lang/IllegalArgumentException" :: Cond.initialized "java/lang/IllegalArgumentException" :: vx_atS RX6 52 "java/lang/IllegalArgumentException" cq_nms, vx_ot w = true := by decide +kernel
theorem xn_59_63 : ∀ w ∈ (vx_atS RX6 63 "java/lang/IllegalStateException" cq_nms).filter (fun w => !goodWord w), w ∈ cq_no := by decide +kernel
theorem xg_59_63 : ∀ w ∈ Cond.classLink RX6 59 "java/lang/IllegalStateException" :: Cond.initialized "java/lang/IllegalStateException" :: vx_atS RX6 63 "java/lang/IllegalStateException" cq_nms, vx_ot w = true := by decide +kernel
theorem xn_232_236 : ∀ w ∈ (vx_atS RX6 236 "java/lang/IndexOutOfBoundsException" cq_nms).filter (fun w => !goodWord w), w ∈ cq_no := by decide +kernel
theorem xg_232_236 : ∀ w ∈ Cond.classLink RX6 232 "java/lang/IndexOutOfBoundsException" :: Cond.initialized "java/lang/IndexOutOfBoundsException" :: vx_atS RX6 236 "java/lang/IndexOutOfBoundsException" cq_nms, vx_ot w = true := by decide +kernel
abbrev xA : String := "java/lang/IllegalArgumentException"
abbrev xS : String := "java/lang/IllegalStateException"
abbrev xI : String := "java/lang/IndexOutOfBoundsException"
abbrev rmX6_requireCord : Room := ({ frames := 6, cells := 1, slots := 6, locals := 90 })
set_option maxHeartbeats 4000000 in
set_option maxRecDepth 100000 in
theorem kX6_requireCord (l : Launch) (hl : l.stackTraces = false) (D : va_G) (cA : Nat → ClassId) (X : cq_X) (Bs : Nat) (b B : Nat) (S : as_T) (u : Int32) (M : cq_M) (hb : cq_isClock X b) (h : ck M b S) (hk : as_ok S B) : cq_T l yX6_requireCord wsX6_requireCord rmX6_requireCord D cA X Bs [.ref b, .int u] M (cq_PV (fun M1 => op_cd S u ∧ M1 = M)) (fun E M1 => E = xI ∧ M1 = M ∧ ¬ op_cd S u) 1 6 := by
  refine cq_met9 (cc := cX6_requireCord) (maxL := 2) (ret := none) (by decide) rfl (Nat.le_of_ble_eq_true rfl) [(0, .ref b), (1, .int u)] rfl rfl ?_
  intro p9 e9 s9 m9 b9 t9 c9 F hr hex
  have inX6 : ∀ w ∈ wsX60, w ∈ wsX6_requireCord := (fun w h => List.mem_cons_of_mem _ (List.mem_append_left _ (List.mem_append_left _ (List.mem_append_right _ h))))
  refine cq_aload_n F (i := 0) dX6_requireCord_0 rfl rfl ?_
  refine cq_getT (t := (b + 1)) F (C := RX6) (T := TX6) (N := 9) (ci := 7) hb.kind rfl ⟨⟨by decide, by decide⟩, rfl⟩ inX6 0 (by decide) rfl rfl hb.t0 (F.1.2.2.2.2 _ (List.mem_of_getElem? (l := wsX6_requireCord) (i := 3) (a := .fieldLink RX6 10 "CordClock" "now" "LCordClock$State;") (by decide +kernel))) dX6_requireCord_1 ?_
  refine cq_iload_n F (i := 1) dX6_requireCord_4 rfl rfl ?_
  refine cq_callV F (C := RX5) (ci := 6) (kX5_hasCord l D cA X Bs (b + 1) B u (S_g S) M hb.now h.1 hk.1) (cwV 1 F.1.2.2.2.2 gX6_requireCord_X5_hasCord rfl rfl rfl hdVX5_hasCord ⟨Nat.le_of_ble_eq_true rfl, Nat.le_of_ble_eq_true rfl⟩) hb.now.kind ⟨by decide, by decide⟩ rfl rfl rfl (Nat.le_of_ble_eq_true rfl) dX6_requireCord_5 ⟨Nat.le_of_ble_eq_true rfl, Nat.le_of_ble_eq_true rfl⟩ (cq_kIp fun r_5 h_5 => ?_)
  refine cq_if_ne F (tgt := 22) dX6_requireCord_8 (by decide) (fun c_8 => ?_) (fun c_8 => ?_)
  · have c_8 := cq_b1 h_5 c_8
    refine cq_ret9 ?_
    exact cq_vret F hr (by decide) (by decide) dX6_requireCord_22 ⟨rfl, ⟨c_8, rfl⟩⟩
  · have c_8 := cq_b0 h_5 c_8
    refine cq_throwW F hl hex (by decide +kernel) (F.1.2.2.2.2 _ (List.mem_of_getElem? (l := wsX6_requireCord) (i := 1) (a := .classLink RX6 232 "java/lang/IndexOutOfBoundsException") (by decide +kernel))) (F.1.2.2.2.2 _ (List.mem_of_getElem? (l := wsX6_requireCord) (i := 2) (a := .initialized "java/lang/IndexOutOfBoundsException") (by decide +kernel))) (List.mem_of_getElem? (l := cq_sr) (i := 17) rfl) (fun w h => F.1.2.2.2.2 w ((fun w h => List.mem_cons_of_mem _ (List.mem_append_right _ h)) w h)) xn_232_236 xg_232_236 dX6_requireCord_11 dX6_requireCord_14 dX6_requireCord_15 dX6_requireCord_18 dX6_requireCord_21 ⟨by decide, Nat.le_of_ble_eq_true rfl, by decide, by decide⟩ ⟨by decide, by decide⟩ ?_
    exact ⟨rfl, rfl, c_8⟩
theorem hdVX6_requireCord : yX6_requireCord.cls = RX6 ∧ yX6_requireCord.cls ≠ "java/lang/invoke/MethodHandle" ∧ yX6_requireCord.cls ≠ "java/lang/invoke/VarHandle" ∧ (parseMethodDescriptor yX6_requireCord.desc).map (fun d => d.parameters.length) = some 1 := by decide +kernel
theorem nI_lt1 (u : Int32) : u < 2 ↔ u ≤ 1 := by
  rw [Int32.lt_iff_toInt_lt, Int32.le_iff_toInt_le, show (2 : Int32).toInt = 2 from rfl, show (1 : Int32).toInt = 1 from rfl]
  omega
abbrev rmX6_isSegmentTime : Room := ({ frames := 0, cells := 0, slots := 0, locals := 0 })
set_option maxHeartbeats 4000000 in
set_option maxRecDepth 100000 in
theorem kX6_isSegmentTime (l : Launch) (D : va_G) (cA : Nat → ClassId) (X : cq_X) (Bs : Nat) (u : Int32) (M : cq_M)  : cq_C l yX6_isSegmentTime wsX6_isSegmentTime rmX6_isSegmentTime D cA X Bs [.int u] M (cq_PI (fun r M1 => r = (if 1 ≤ u ∧ u ≤ 60 then 1 else 0) ∧ M1 = M)) 0 0 := by
  refine cq_met (cc := cX6_isSegmentTime) (maxL := 1) (ret := (some .boolean)) (by decide) rfl (Nat.le_of_ble_eq_true rfl) [(0, .int u)] rfl rfl ?_
  intro p9 e9 s9 m9 b9 t9 c9 F hr
  refine cq_iload_n F (i := 0) dX6_isSegmentTime_0 rfl rfl ?_
  refine cq_iconst F (v := 1) dX6_isSegmentTime_1 rfl ?_
  refine cq_icmp_lt F (tgt := 15) dX6_isSegmentTime_2 (by decide) (fun c_2 => ?_) (fun c_2 => ?_)
  · refine cq_iconst F (v := 0) dX6_isSegmentTime_15 rfl ?_
    exact cq_zret F hr (by rfl) (by decide) (by decide) dX6_isSegmentTime_16 ⟨_, rfl, ⟨by first | exact (if_neg (fun z => absurd c_2 (Int32.not_lt.mpr z.1))).symm | exact (if_neg (fun z => absurd c_8 (Int32.not_lt.mpr z.2))).symm | exact (if_pos ⟨Int32.not_lt.mp c_2, Int32.not_lt.mp c_8⟩).symm, rfl⟩⟩
  · refine cq_iload_n F (i := 0) dX6_isSegmentTime_5 rfl rfl ?_
    refine cq_bipush F (v := 60) dX6_isSegmentTime_6 (by decide) ?_
    refine cq_icmp_gt F (tgt := 15) dX6_isSegmentTime_8 (by decide) (fun c_8 => ?_) (fun c_8 => ?_)
    · refine cq_iconst F (v := 0) dX6_isSegmentTime_15 rfl ?_
      exact cq_zret F hr (by rfl) (by decide) (by decide) dX6_isSegmentTime_16 ⟨_, rfl, ⟨by first | exact (if_neg (fun z => absurd c_2 (Int32.not_lt.mpr z.1))).symm | exact (if_neg (fun z => absurd c_8 (Int32.not_lt.mpr z.2))).symm | exact (if_pos ⟨Int32.not_lt.mp c_2, Int32.not_lt.mp c_8⟩).symm, rfl⟩⟩
    · refine cq_iconst F (v := 1) dX6_isSegmentTime_11 rfl ?_
      refine cq_goto F (tgt := 16) dX6_isSegmentTime_12 (by decide) ?_
      exact cq_zret F hr (by rfl) (by decide) (by decide) dX6_isSegmentTime_16 ⟨_, rfl, ⟨by first | exact (if_neg (fun z => absurd c_2 (Int32.not_lt.mpr z.1))).symm | exact (if_neg (fun z => absurd c_8 (Int32.not_lt.mpr z.2))).symm | exact (if_pos ⟨Int32.not_lt.mp c_2, Int32.not_lt.mp c_8⟩).symm, rfl⟩⟩
theorem hdVX6_isSegmentTime : yX6_isSegmentTime.cls = RX6 ∧ yX6_isSegmentTime.cls ≠ "java/lang/invoke/MethodHandle" ∧ yX6_isSegmentTime.cls ≠ "java/lang/invoke/VarHandle" ∧ (parseMethodDescriptor yX6_isSegmentTime.desc).map (fun d => d.parameters.length) = some 1 := by decide +kernel
abbrev rmX6_save : Room := ({ frames := 2, cells := 0, slots := 0, locals := 44 })
set_option maxHeartbeats 4000000 in
set_option maxRecDepth 100000 in
theorem kX6_save (l : Launch) (D : va_G) (cA : Nat → ClassId) (X : cq_X) (Bs : Nat) (b B : Nat) (S : as_T) (M : cq_M) (hb : cq_isClock X b) (h : ck M b S) (hk : as_ok S B) : cq_C l yX6_save wsX6_save rmX6_save D cA X Bs [.ref b] M (cq_PV (fun M1 => ck M1 b (so_save S) ∧ cr_fr M M1 b 249)) 0 0 := by
  refine cq_met (cc := cX6_save) (maxL := 1) (ret := none) (by decide) rfl (Nat.le_of_ble_eq_true rfl) [(0, .ref b)] rfl rfl ?_
  intro p9 e9 s9 m9 b9 t9 c9 F hr
  have inX6 : ∀ w ∈ wsX60, w ∈ wsX6_save := (fun w h => List.mem_cons_of_mem _ (List.mem_append_left _ (List.mem_append_left _ (List.mem_append_left _ (List.mem_append_left _ (List.mem_append_right _ h))))))
  obtain ⟨h1, ⟨od, hod, h3, h4, hv⟩, h6, h7, h8⟩ := id h
  have hn6 := hk.2.2.2.2.1
  refine cq_aload_n F (i := 0) dX6_save_0 rfl rfl ?_
  refine cq_getI F (C := RX6) (T := TX6) (N := 9) (ci := 7) hb.kind rfl ⟨⟨by decide, by decide⟩, rfl⟩ inX6 4 (by decide) rfl rfl (F.1.2.2.2.2 _ (List.mem_of_getElem? (l := wsX6_save) (i := 1) (a := .fieldLink RX6 178 "CordClock" "savedStates" "I") (by decide +kernel))) dX6_save_1 ?_
  rw [show M b 4 = nI (S_n S) from (show M b 4 = nI (S_n S) from h4)]
  refine cq_bipush F (v := 6) dX6_save_4 (by decide) ?_
  refine cq_icmp_ne F (tgt := 32) dX6_save_6 (by decide) (fun c_6 => ?_) (fun c_6 => ?_)
  · have c_6 : ¬ (S_n S) = 6 := fun z => c_6 ((nI_b (a := (S_n S)) (b := 6) (by omega) (by omega)).2.2.mpr z)
    refine cq_aload_n F (i := 0) dX6_save_32 rfl rfl ?_
    refine cq_getT (t := (b + 47)) F (C := RX6) (T := TX6) (N := 9) (ci := 7) hb.kind rfl ⟨⟨by decide, by decide⟩, rfl⟩ inX6 2 (by decide) rfl rfl hb.t2 (F.1.2.2.2.2 _ (List.mem_of_getElem? (l := wsX6_save) (i := 3) (a := .fieldLink RX6 19 "CordClock" "saved" "[LCordClock$State;") (by decide +kernel))) dX6_save_33 ?_
    refine cq_aload_n F (i := 0) dX6_save_36 rfl rfl ?_
    refine cq_getI F (C := RX6) (T := TX6) (N := 9) (ci := 7) hb.kind rfl ⟨⟨by decide, by decide⟩, rfl⟩ inX6 3 (by decide) rfl rfl (F.1.2.2.2.2 _ (List.mem_of_getElem? (l := wsX6_save) (i := 2) (a := .fieldLink RX6 183 "CordClock" "oldestSaved" "I") (by decide +kernel))) dX6_save_37 ?_
    rw [show M b 3 = nI (od) from (show M b 3 = nI (od) from h3)]
    refine cq_aload_n F (i := 0) dX6_save_40 rfl rfl ?_
    refine cq_getI F (C := RX6) (T := TX6) (N := 9) (ci := 7) hb.kind rfl ⟨⟨by decide, by decide⟩, rfl⟩ inX6 4 (by decide) rfl rfl (F.1.2.2.2.2 _ (List.mem_of_getElem? (l := wsX6_save) (i := 1) (a := .fieldLink RX6 178 "CordClock" "savedStates" "I") (by decide +kernel))) dX6_save_41 ?_
    rw [show M b 4 = nI (S_n S) from (show M b 4 = nI (S_n S) from h4)]
    refine cq_iadd F dX6_save_44 ?_
    rw [show (nI od + nI (S_n S) : Int32) = nI (od + (S_n S)) from nI_add _ _]
    refine cq_bipush F (v := 6) dX6_save_45 (by decide) ?_
    refine cq_irem F dX6_save_47 (by decide) ?_
    rw [show (nI (od + (S_n S)) - nI (od + (S_n S)) / 6 * 6 : Int32) = nI ((od + (S_n S)) % 6) from pk_rem (d := 6) (by omega) (by omega) (by omega)]
    have hj_48 : ((od + (S_n S)) % 6) < 6 := (by omega)
    refine cq_aaldS_j F (j := ((od + (S_n S)) % 6)) (t := (b + 65 + 23 * ((od + (S_n S)) % 6))) hb.k47 hb.n47 rfl ⟨hj_48, by decide⟩ (hb.svt _ hj_48) dX6_save_48 ?_
    refine cq_aload_n F (i := 0) dX6_save_49 rfl rfl ?_
    refine cq_getT (t := (b + 1)) F (C := RX6) (T := TX6) (N := 9) (ci := 7) hb.kind rfl ⟨⟨by decide, by decide⟩, rfl⟩ inX6 0 (by decide) rfl rfl hb.t0 (F.1.2.2.2.2 _ (List.mem_of_getElem? (l := wsX6_save) (i := 4) (a := .fieldLink RX6 10 "CordClock" "now" "LCordClock$State;") (by decide +kernel))) dX6_save_50 ?_
    refine cq_callV F (C := RX5) (ci := 6) (kX5_copyFrom l D cA X Bs (b + 65 + 23 * ((od + (S_n S)) % 6)) (b + 1) M (hb.sv _ hj_48) hb.now h1.2.2.2.2 (by omega)) (cwV 1 F.1.2.2.2.2 gX6_save_X5_copyFrom rfl rfl rfl hdVX5_copyFrom ⟨Nat.le_of_ble_eq_true rfl, Nat.le_of_ble_eq_true rfl⟩) (hb.sv _ hj_48).kind ⟨by decide, by decide⟩ rfl rfl rfl (Nat.le_of_ble_eq_true rfl) dX6_save_53 ⟨Nat.le_of_ble_eq_true rfl, Nat.le_of_ble_eq_true rfl⟩ (cq_kV fun M_53 h_53 => ?_)
    have e1 : ∀ x, x ≠ b → M x = M x := fun x hx => rfl
    refine cq_aload_n F (i := 0) dX6_save_56 rfl rfl ?_
    refine cq_dup F dX6_save_57 rfl ?_
    refine cq_getI F (C := RX6) (T := TX6) (N := 9) (ci := 7) hb.kind rfl ⟨⟨by decide, by decide⟩, rfl⟩ inX6 4 (by decide) rfl rfl (F.1.2.2.2.2 _ (List.mem_of_getElem? (l := wsX6_save) (i := 1) (a := .fieldLink RX6 178 "CordClock" "savedStates" "I") (by decide +kernel))) dX6_save_58 ?_
    rw [show M_53 b 4 = nI (S_n S) from (show M_53 b 4 = nI (S_n S) from ((congrFun (h_53.2.2.2.2 b (by omega)) 4).trans h4))]
    refine cq_iconst F (v := 1) dX6_save_61 rfl ?_
    refine cq_iadd F dX6_save_62 ?_
    rw [show (nI (S_n S) + 1 : Int32) = nI ((S_n S) + 1) from nI_add _ _]
    refine cq_put F (C := RX6) (T := TX6) (N := 9) (ci := 7) hb.kind rfl ⟨⟨by decide, by decide⟩, rfl⟩ inX6 tyX6 tyX6_ok nmX6 4 (by decide) rfl rfl (F.1.2.2.2.2 _ (List.mem_of_getElem? (l := wsX6_save) (i := 1) (a := .fieldLink RX6 178 "CordClock" "savedStates" "I") (by decide +kernel))) rfl (by rfl) (by rfl) dX6_save_63 (fun M_63 h_63 => ?_)
    refine cq_vret F hr (by decide) (by decide) dX6_save_66 ⟨rfl, ?_⟩
    have fb : ∀ x, x ≠ b → M_63 x = M_53 x := fun x hx => by rw [h_63, cq_up_row hx]
    obtain ⟨w1, w2, w3, w4, w5⟩ := id h_53
    refine ⟨?_, fun x hx => by rw [fb x (by omega), w5 x (by omega), e1 x (by omega)]⟩
    refine h.push hk hod h3 hv (Or.inr ⟨by omega, rfl, rfl, rfl⟩) (e3 := (show M_63 b 3 = nI (od) from (by rw [h_63, cq_up_k (by omega)]; exact ((congrFun (h_53.2.2.2.2 b (by omega)) 3).trans h3)))) (e4 := (show M_63 b 4 = nI (((S_n S) + 1)) from (by rw [h_63]; exact cq_up_s _ _ _ _))) ((w1.pre (by omega) (fun x k1 k2 => e1 x (by omega))).keep (by omega) (fun x k1 k2 => fb x (by omega))) ((w2.pre (by omega) (fun x k1 k2 => e1 x (by omega))).keep (by omega) (fun x k1 k2 => fb x (by omega))) ((w3.pre (fun x k1 k2 => e1 x (by omega))).keep (fun x k1 k2 => fb x (by omega))) ?_ (fun x x1 x2 => by rw [fb x x1, w5 x x2, e1 x x1])
    have w6 := w4.pre (e1 (b + 1) (by omega))
    unfold cp_I at w6 ⊢
    rw [fb _ (by omega)]
    exact w6
  · have c_6 : (S_n S) = 6 := (nI_b (a := (S_n S)) (b := 6) (by omega) (by omega)).2.2.mp c_6
    have n5 : S_n S - 1 = 5 := by omega
    refine cq_aload_n F (i := 0) dX6_save_9 rfl rfl ?_
    refine cq_aload_n F (i := 0) dX6_save_10 rfl rfl ?_
    refine cq_getI F (C := RX6) (T := TX6) (N := 9) (ci := 7) hb.kind rfl ⟨⟨by decide, by decide⟩, rfl⟩ inX6 3 (by decide) rfl rfl (F.1.2.2.2.2 _ (List.mem_of_getElem? (l := wsX6_save) (i := 2) (a := .fieldLink RX6 183 "CordClock" "oldestSaved" "I") (by decide +kernel))) dX6_save_11 ?_
    rw [show M b 3 = nI (od) from (show M b 3 = nI (od) from h3)]
    refine cq_iconst F (v := 1) dX6_save_14 rfl ?_
    refine cq_iadd F dX6_save_15 ?_
    rw [show (nI od + 1 : Int32) = nI (od + 1) from nI_add _ _]
    refine cq_bipush F (v := 6) dX6_save_16 (by decide) ?_
    refine cq_irem F dX6_save_18 (by decide) ?_
    rw [show (nI (od + 1) - nI (od + 1) / 6 * 6 : Int32) = nI ((od + 1) % 6) from pk_rem (d := 6) (by omega) (by omega) (by omega)]
    refine cq_put F (C := RX6) (T := TX6) (N := 9) (ci := 7) hb.kind rfl ⟨⟨by decide, by decide⟩, rfl⟩ inX6 tyX6 tyX6_ok nmX6 3 (by decide) rfl rfl (F.1.2.2.2.2 _ (List.mem_of_getElem? (l := wsX6_save) (i := 2) (a := .fieldLink RX6 183 "CordClock" "oldestSaved" "I") (by decide +kernel))) rfl (by rfl) (by rfl) dX6_save_19 (fun M_19 h_19 => ?_)
    refine cq_aload_n F (i := 0) dX6_save_22 rfl rfl ?_
    refine cq_dup F dX6_save_23 rfl ?_
    refine cq_getI F (C := RX6) (T := TX6) (N := 9) (ci := 7) hb.kind rfl ⟨⟨by decide, by decide⟩, rfl⟩ inX6 4 (by decide) rfl rfl (F.1.2.2.2.2 _ (List.mem_of_getElem? (l := wsX6_save) (i := 1) (a := .fieldLink RX6 178 "CordClock" "savedStates" "I") (by decide +kernel))) dX6_save_24 ?_
    rw [show M_19 b 4 = nI (S_n S) from (show M_19 b 4 = nI (S_n S) from (by rw [h_19, cq_up_k (by omega)]; exact h4))]
    refine cq_iconst F (v := 1) dX6_save_27 rfl ?_
    refine cq_isub F dX6_save_28 ?_
    rw [show (nI (S_n S) - 1 : Int32) = nI ((S_n S) - 1) from pk_sub (a := (S_n S)) (b := 1) (by omega)]
    refine cq_put F (C := RX6) (T := TX6) (N := 9) (ci := 7) hb.kind rfl ⟨⟨by decide, by decide⟩, rfl⟩ inX6 tyX6 tyX6_ok nmX6 4 (by decide) rfl rfl (F.1.2.2.2.2 _ (List.mem_of_getElem? (l := wsX6_save) (i := 1) (a := .fieldLink RX6 178 "CordClock" "savedStates" "I") (by decide +kernel))) rfl (by rfl) (by rfl) dX6_save_29 (fun M_29 h_29 => ?_)
    refine cq_aload_n F (i := 0) dX6_save_32 rfl rfl ?_
    refine cq_getT (t := (b + 47)) F (C := RX6) (T := TX6) (N := 9) (ci := 7) hb.kind rfl ⟨⟨by decide, by decide⟩, rfl⟩ inX6 2 (by decide) rfl rfl hb.t2 (F.1.2.2.2.2 _ (List.mem_of_getElem? (l := wsX6_save) (i := 3) (a := .fieldLink RX6 19 "CordClock" "saved" "[LCordClock$State;") (by decide +kernel))) dX6_save_33 ?_
    refine cq_aload_n F (i := 0) dX6_save_36 rfl rfl ?_
    refine cq_getI F (C := RX6) (T := TX6) (N := 9) (ci := 7) hb.kind rfl ⟨⟨by decide, by decide⟩, rfl⟩ inX6 3 (by decide) rfl rfl (F.1.2.2.2.2 _ (List.mem_of_getElem? (l := wsX6_save) (i := 2) (a := .fieldLink RX6 183 "CordClock" "oldestSaved" "I") (by decide +kernel))) dX6_save_37 ?_
    rw [show M_29 b 3 = nI (((od + 1) % 6)) from (show M_29 b 3 = nI (((od + 1) % 6)) from (by rw [h_29, cq_up_k (by omega), h_19]; exact cq_up_s _ _ _ _))]
    refine cq_aload_n F (i := 0) dX6_save_40 rfl rfl ?_
    refine cq_getI F (C := RX6) (T := TX6) (N := 9) (ci := 7) hb.kind rfl ⟨⟨by decide, by decide⟩, rfl⟩ inX6 4 (by decide) rfl rfl (F.1.2.2.2.2 _ (List.mem_of_getElem? (l := wsX6_save) (i := 1) (a := .fieldLink RX6 178 "CordClock" "savedStates" "I") (by decide +kernel))) dX6_save_41 ?_
    rw [show M_29 b 4 = nI (((S_n S) - 1)) from (show M_29 b 4 = nI (((S_n S) - 1)) from (by rw [h_29]; exact cq_up_s _ _ _ _))]
    refine cq_iadd F dX6_save_44 ?_
    rw [show (nI ((od + 1) % 6) + nI ((S_n S) - 1) : Int32) = nI (((od + 1) % 6) + ((S_n S) - 1)) from nI_add _ _]
    refine cq_bipush F (v := 6) dX6_save_45 (by decide) ?_
    refine cq_irem F dX6_save_47 (by decide) ?_
    rw [show (nI (((od + 1) % 6) + ((S_n S) - 1)) - nI (((od + 1) % 6) + ((S_n S) - 1)) / 6 * 6 : Int32) = nI ((((od + 1) % 6) + ((S_n S) - 1)) % 6) from pk_rem (d := 6) (by omega) (by omega) (by omega)]
    have hj_48 : ((((od + 1) % 6) + ((S_n S) - 1)) % 6) < 6 := (by omega)
    refine cq_aaldS_j F (j := ((((od + 1) % 6) + ((S_n S) - 1)) % 6)) (t := (b + 65 + 23 * ((((od + 1) % 6) + ((S_n S) - 1)) % 6))) hb.k47 hb.n47 rfl ⟨hj_48, by decide⟩ (hb.svt _ hj_48) dX6_save_48 ?_
    refine cq_aload_n F (i := 0) dX6_save_49 rfl rfl ?_
    refine cq_getT (t := (b + 1)) F (C := RX6) (T := TX6) (N := 9) (ci := 7) hb.kind rfl ⟨⟨by decide, by decide⟩, rfl⟩ inX6 0 (by decide) rfl rfl hb.t0 (F.1.2.2.2.2 _ (List.mem_of_getElem? (l := wsX6_save) (i := 4) (a := .fieldLink RX6 10 "CordClock" "now" "LCordClock$State;") (by decide +kernel))) dX6_save_50 ?_
    refine cq_callV F (C := RX5) (ci := 6) (kX5_copyFrom l D cA X Bs (b + 65 + 23 * ((((od + 1) % 6) + ((S_n S) - 1)) % 6)) (b + 1) M_29 (hb.sv _ hj_48) hb.now (h1.2.2.2.2.fr (fun x k1 k2 => by rw [h_29, cq_up_row (by omega), h_19, cq_up_row (by omega)])) (by omega)) (cwV 1 F.1.2.2.2.2 gX6_save_X5_copyFrom rfl rfl rfl hdVX5_copyFrom ⟨Nat.le_of_ble_eq_true rfl, Nat.le_of_ble_eq_true rfl⟩) (hb.sv _ hj_48).kind ⟨by decide, by decide⟩ rfl rfl rfl (Nat.le_of_ble_eq_true rfl) dX6_save_53 ⟨Nat.le_of_ble_eq_true rfl, Nat.le_of_ble_eq_true rfl⟩ (cq_kV fun M_53 h_53 => ?_)
    have e1 : ∀ x, x ≠ b → M_29 x = M x := fun x hx => by rw [h_29, cq_up_row hx, h_19, cq_up_row hx]
    refine cq_aload_n F (i := 0) dX6_save_56 rfl rfl ?_
    refine cq_dup F dX6_save_57 rfl ?_
    refine cq_getI F (C := RX6) (T := TX6) (N := 9) (ci := 7) hb.kind rfl ⟨⟨by decide, by decide⟩, rfl⟩ inX6 4 (by decide) rfl rfl (F.1.2.2.2.2 _ (List.mem_of_getElem? (l := wsX6_save) (i := 1) (a := .fieldLink RX6 178 "CordClock" "savedStates" "I") (by decide +kernel))) dX6_save_58 ?_
    rw [show M_53 b 4 = nI (5) from (show M_53 b 4 = nI (5) from (by rw [h_53.2.2.2.2 b (by omega), h_29, cq_up_s, n5]))]
    refine cq_iconst F (v := 1) dX6_save_61 rfl ?_
    refine cq_iadd F dX6_save_62 ?_
    rw [show (nI 5 + 1 : Int32) = nI (5 + 1) from nI_add _ _]
    refine cq_put F (C := RX6) (T := TX6) (N := 9) (ci := 7) hb.kind rfl ⟨⟨by decide, by decide⟩, rfl⟩ inX6 tyX6 tyX6_ok nmX6 4 (by decide) rfl rfl (F.1.2.2.2.2 _ (List.mem_of_getElem? (l := wsX6_save) (i := 1) (a := .fieldLink RX6 178 "CordClock" "savedStates" "I") (by decide +kernel))) rfl (by rfl) (by rfl) dX6_save_63 (fun M_63 h_63 => ?_)
    refine cq_vret F hr (by decide) (by decide) dX6_save_66 ⟨rfl, ?_⟩
    have fb : ∀ x, x ≠ b → M_63 x = M_53 x := fun x hx => by rw [h_63, cq_up_row hx]
    obtain ⟨w1, w2, w3, w4, w5⟩ := id h_53
    refine ⟨?_, fun x hx => by rw [fb x (by omega), w5 x (by omega), e1 x (by omega)]⟩
    refine h.push hk hod h3 hv (Or.inl ⟨by omega, rfl, by omega, rfl⟩) (e3 := (show M_63 b 3 = nI ((od + 1) % 6) from (by rw [h_63, cq_up_k (by omega)]; exact (by rw [h_53.2.2.2.2 b (by omega), h_29, cq_up_k (by omega), h_19]; exact cq_up_s _ _ _ _)))) (e4 := (show M_63 b 4 = nI ((5 + 1)) from (by rw [h_63]; exact cq_up_s _ _ _ _))) ((w1.pre (by omega) (fun x k1 k2 => e1 x (by omega))).keep (by omega) (fun x k1 k2 => fb x (by omega))) ((w2.pre (by omega) (fun x k1 k2 => e1 x (by omega))).keep (by omega) (fun x k1 k2 => fb x (by omega))) ((w3.pre (fun x k1 k2 => e1 x (by omega))).keep (fun x k1 k2 => fb x (by omega))) ?_ (fun x x1 x2 => by rw [fb x x1, w5 x x2, e1 x x1])
    have w6 := w4.pre (e1 (b + 1) (by omega))
    unfold cp_I at w6 ⊢
    rw [fb _ (by omega)]
    exact w6
theorem hdVX6_save : yX6_save.cls = RX6 ∧ yX6_save.cls ≠ "java/lang/invoke/MethodHandle" ∧ yX6_save.cls ≠ "java/lang/invoke/VarHandle" ∧ (parseMethodDescriptor yX6_save.desc).map (fun d => d.parameters.length) = some 0 := by decide +kernel
