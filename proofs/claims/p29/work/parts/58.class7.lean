/-! the class: queries -/
abbrev rmX6_cordOf : Room := ({ frames := 7, cells := 2, slots := 12, locals := 111 })
set_option maxHeartbeats 4000000 in
set_option maxRecDepth 100000 in
theorem kX6_cordOf (l : Launch) (hl : l.stackTraces = false) (D : va_G) (cA : Nat → ClassId) (X : cq_X) (Bs : Nat) (b B : Nat) (S : as_T) (u w : Int32) (M : cq_M) (hb : cq_isClock X b) (h : ck M b S) (hk : as_ok S B) : cq_T l yX6_cordOf wsX6_cordOf rmX6_cordOf D cA X Bs [.ref b, .int u, .int w] M (cq_PI (fun r M1 => cw (op_cordOf S u w) r M M1 b ∧ M1 = M)) (fun E M1 => cx (op_cordOf S u w) S [xI, xA] E M M1) 2 12 := by
  refine cq_met9 (cc := cX6_cordOf) (maxL := 4) (ret := (some .int)) (by decide) rfl (Nat.le_of_ble_eq_true rfl) [(0, .ref b), (1, .int u), (2, .int w)] rfl rfl ?_
  intro p9 e9 s9 m9 b9 t9 c9 F hr hex
  have inX1 : ∀ w ∈ wsX10, w ∈ wsX6_cordOf := (fun w h => List.mem_cons_of_mem _ (List.mem_append_left _ (List.mem_append_left _ (List.mem_append_right _ h))))
  have inX5 : ∀ w ∈ wsX50, w ∈ wsX6_cordOf := (fun w h => List.mem_cons_of_mem _ (List.mem_append_left _ (List.mem_append_left _ (List.mem_append_left _ (List.mem_append_right _ h)))))
  have inX6 : ∀ w ∈ wsX60, w ∈ wsX6_cordOf := (fun w h => List.mem_cons_of_mem _ (List.mem_append_left _ (List.mem_append_left _ (List.mem_append_left _ (List.mem_append_left _ (List.mem_append_right _ h))))))
  refine cq_aload_n F (i := 0) dX6_cordOf_0 rfl rfl ?_
  refine cq_iload_n F (i := 1) dX6_cordOf_1 rfl rfl ?_
  refine cq_xcallV F hex (C := RX6) (ci := 7) (kX6_requireCord l hl D cA X Bs b B S u M hb h hk) (cwV 1 F.1.2.2.2.2 gX6_cordOf_X6_requireCord rfl rfl rfl hdVX6_requireCord ⟨Nat.le_of_ble_eq_true rfl, Nat.le_of_ble_eq_true rfl⟩) hb.kind ⟨by decide, by decide⟩ rfl rfl rfl (Nat.le_of_ble_eq_true rfl) dX6_cordOf_2 ⟨Nat.le_of_ble_eq_true rfl, Nat.le_of_ble_eq_true rfl⟩ (⟨by decide, by decide⟩) (fun E M1 h => cx_of (k := 0) (if_neg h.2.2) (by rw [h.1]; rfl) h.2.1) (cq_kVq fun h_2 => ?_)
  have h_2b := h_2
  obtain ⟨c, hc, rfl⟩ := nI_cd (n := S_g S 6) (by have := hk.1.1; omega) h_2
  have ec : (nI c).toNatClampNeg = c := nI_clamp (by have := hk.1.1; omega)
  have hk6 := hk.1.1
  have hq := hk.1.2.2.2.1 c hc
  have hcr := h.1.2.1 c hc
  have hff := hq.2.2.2.1
  refine cq_aload_n F (i := 0) dX6_cordOf_5 rfl rfl ?_
  refine cq_getT (t := (b + 1)) F (C := RX6) (T := TX6) (N := 9) (ci := 7) hb.kind rfl ⟨⟨by decide, by decide⟩, rfl⟩ inX6 0 (by decide) rfl rfl hb.t0 (F.1.2.2.2.2 _ (List.mem_of_getElem? (l := wsX6_cordOf) (i := 3) (a := .fieldLink RX6 10 "CordClock" "now" "LCordClock$State;") (by decide +kernel))) dX6_cordOf_6 ?_
  refine cq_getTN (t := ((b + 1) + 1)) F (C := RX5) (T := TX5) (N := 11) (ci := 6) hb.now.kind rfl ⟨⟨by decide, by decide⟩, rfl⟩ inX5 0 (by decide) rfl rfl hb.now.t0 (cq_nfw F.2.2.2.2 (List.mem_of_getElem? (l := cq_nf) (i := 1) rfl)) dX6_cordOf_9 ?_
  refine cq_iload_n F (i := 1) dX6_cordOf_12 rfl rfl ?_
  have hj_13 : c < 4 := (by omega)
  refine cq_aaldC_j F (j := c) (t := ((b + 1) + 7 + 2 * c)) hb.now.k1 hb.now.n1 rfl ⟨hj_13, by decide⟩ (hb.now.ct _ hj_13) dX6_cordOf_13 ?_
  refine cq_astore_n F (i := 3) dX6_cordOf_14 rfl (by decide) ?_
  refine cq_iload_n F (i := 2) dX6_cordOf_15 rfl rfl ?_
  by_cases sw_16_0 : w = nI 0
  · subst sw_16_0
    refine cq_tableIn F (off := 48) (tgt := 64) dX6_cordOf_16 (by decide) (by decide) (by decide) (by decide) ?_
    refine cq_aload_n F (i := 3) dX6_cordOf_64 rfl rfl ?_
    refine cq_getIN F (C := RX1) (T := TX1) (N := 8) (ci := 2) (hb.now.cord _ hj_13).kind rfl ⟨⟨by decide, by decide⟩, rfl⟩ inX1 2 (by decide) rfl rfl (cq_nfw F.2.2.2.2 (List.mem_of_getElem? (l := cq_nf) (i := 6) rfl)) dX6_cordOf_65 ?_
    rw [hcr.2.1]
    refine cq_ret9 ?_
    exact cq_iret F hr (by decide) (by decide) dX6_cordOf_68 ⟨_, rfl, ⟨(cw_q (by unfold op_cordOf; rw [if_pos h_2b, ec]; exact if_pos ⟨by decide, by decide⟩) (rfl) h), rfl⟩⟩
  by_cases sw_16_1 : w = nI 1
  · subst sw_16_1
    refine cq_tableIn F (off := 53) (tgt := 69) dX6_cordOf_16 (by decide) (by decide) (by decide) (by decide) ?_
    refine cq_aload_n F (i := 3) dX6_cordOf_69 rfl rfl ?_
    refine cq_getIN F (C := RX1) (T := TX1) (N := 8) (ci := 2) (hb.now.cord _ hj_13).kind rfl ⟨⟨by decide, by decide⟩, rfl⟩ inX1 1 (by decide) rfl rfl (cq_nfw F.2.2.2.2 (List.mem_of_getElem? (l := cq_nf) (i := 7) rfl)) dX6_cordOf_70 ?_
    rw [hcr.1]
    refine cq_ret9 ?_
    exact cq_iret F hr (by decide) (by decide) dX6_cordOf_73 ⟨_, rfl, ⟨(cw_q (by unfold op_cordOf; rw [if_pos h_2b, ec]; exact if_pos ⟨by decide, by decide⟩) (rfl) h), rfl⟩⟩
  by_cases sw_16_2 : w = nI 2
  · subst sw_16_2
    refine cq_tableIn F (off := 58) (tgt := 74) dX6_cordOf_16 (by decide) (by decide) (by decide) (by decide) ?_
    refine cq_aload_n F (i := 3) dX6_cordOf_74 rfl rfl ?_
    refine cq_getIN F (C := RX1) (T := TX1) (N := 8) (ci := 2) (hb.now.cord _ hj_13).kind rfl ⟨⟨by decide, by decide⟩, rfl⟩ inX1 3 (by decide) rfl rfl (cq_nfw F.2.2.2.2 (List.mem_of_getElem? (l := cq_nf) (i := 8) rfl)) dX6_cordOf_75 ?_
    rw [hcr.2.2.1]
    refine cq_ret9 ?_
    exact cq_iret F hr (by decide) (by decide) dX6_cordOf_78 ⟨_, rfl, ⟨(cw_q (by unfold op_cordOf; rw [if_pos h_2b, ec]; exact if_pos ⟨by decide, by decide⟩) (rfl) h), rfl⟩⟩
  by_cases sw_16_3 : w = nI 3
  · subst sw_16_3
    refine cq_tableIn F (off := 63) (tgt := 79) dX6_cordOf_16 (by decide) (by decide) (by decide) (by decide) ?_
    refine cq_aload_n F (i := 3) dX6_cordOf_79 rfl rfl ?_
    refine cq_getIN F (C := RX1) (T := TX1) (N := 8) (ci := 2) (hb.now.cord _ hj_13).kind rfl ⟨⟨by decide, by decide⟩, rfl⟩ inX1 4 (by decide) rfl rfl (cq_nfw F.2.2.2.2 (List.mem_of_getElem? (l := cq_nf) (i := 9) rfl)) dX6_cordOf_80 ?_
    rw [hcr.2.2.2.1]
    refine cq_ret9 ?_
    exact cq_iret F hr (by decide) (by decide) dX6_cordOf_83 ⟨_, rfl, ⟨(cw_q (by unfold op_cordOf; rw [if_pos h_2b, ec]; exact if_pos ⟨by decide, by decide⟩) (rfl) h), rfl⟩⟩
  by_cases sw_16_4 : w = nI 4
  · subst sw_16_4
    refine cq_tableIn F (off := 68) (tgt := 84) dX6_cordOf_16 (by decide) (by decide) (by decide) (by decide) ?_
    refine cq_aload_n F (i := 3) dX6_cordOf_84 rfl rfl ?_
    refine cq_callV F (C := RX1) (ci := 2) (nX1_timeLeft (l := l) (D := D) (cA := cA) (Bs := Bs) (hb.now.cord _ (by omega)) hcr hq) (cwV 0 F.1.2.2.2.2 gX6_cordOf_X1_timeLeft rfl rfl rfl hdVX1_timeLeft ⟨Nat.le_of_ble_eq_true rfl, Nat.le_of_ble_eq_true rfl⟩) (hb.now.cord _ hj_13).kind ⟨by decide, by decide⟩ rfl rfl rfl (Nat.le_of_ble_eq_true rfl) dX6_cordOf_85 ⟨Nat.le_of_ble_eq_true rfl, Nat.le_of_ble_eq_true rfl⟩ (cq_kIp fun r_85 h_85 => ?_)
    subst h_85
    refine cq_ret9 ?_
    exact cq_iret F hr (by decide) (by decide) dX6_cordOf_88 ⟨_, rfl, ⟨(cw_q (by unfold op_cordOf; rw [if_pos h_2b, ec]; exact if_pos ⟨by decide, by decide⟩) (rfl) h), rfl⟩⟩
  by_cases sw_16_5 : w = nI 5
  · subst sw_16_5
    refine cq_tableIn F (off := 73) (tgt := 89) dX6_cordOf_16 (by decide) (by decide) (by decide) (by decide) ?_
    refine cq_aload_n F (i := 3) dX6_cordOf_89 rfl rfl ?_
    refine cq_getIN F (C := RX1) (T := TX1) (N := 8) (ci := 2) (hb.now.cord _ hj_13).kind rfl ⟨⟨by decide, by decide⟩, rfl⟩ inX1 5 (by decide) rfl rfl (cq_nfw F.2.2.2.2 (List.mem_of_getElem? (l := cq_nf) (i := 10) rfl)) dX6_cordOf_90 ?_
    rw [hcr.2.2.2.2.1]
    refine cq_if_eq F (tgt := 100) dX6_cordOf_93 (by decide) (fun c_93 => ?_) (fun c_93 => ?_)
    · have c_93 : (S_g S (16 + 11 * c) % 2) = 0 := (nI_b (a := (S_g S (16 + 11 * c) % 2)) (b := 0) (by omega) (by omega)).2.2.mp c_93
      refine cq_iconst F (v := 0) dX6_cordOf_100 rfl ?_
      refine cq_aload_n F (i := 3) dX6_cordOf_101 rfl rfl ?_
      refine cq_getIN F (C := RX1) (T := TX1) (N := 8) (ci := 2) (hb.now.cord _ hj_13).kind rfl ⟨⟨by decide, by decide⟩, rfl⟩ inX1 6 (by decide) rfl rfl (cq_nfw F.2.2.2.2 (List.mem_of_getElem? (l := cq_nf) (i := 11) rfl)) dX6_cordOf_102 ?_
      rw [hcr.2.2.2.2.2.1]
      refine cq_if_eq F (tgt := 112) dX6_cordOf_105 (by decide) (fun c_105 => ?_) (fun c_105 => ?_)
      · have c_105 : (S_g S (16 + 11 * c) / 2) = 0 := (nI_b (a := (S_g S (16 + 11 * c) / 2)) (b := 0) (by omega) (by omega)).2.2.mp c_105
        refine cq_iconst F (v := 0) dX6_cordOf_112 rfl ?_
        refine cq_iadd F dX6_cordOf_113 ?_
        rw [show (0 + 0 : Int32) = 0 from by decide]
        refine cq_ret9 ?_
        exact cq_iret F hr (by decide) (by decide) dX6_cordOf_114 ⟨_, rfl, ⟨(cw_q (by unfold op_cordOf; rw [if_pos h_2b, ec]; exact if_pos ⟨by decide, by decide⟩) ((show _ = nI (S_g S (16 + 11 * c)) by first | (exact congrArg nI (show 3 = _ by omega)) | (exact congrArg nI (show 2 = _ by omega)) | (exact congrArg nI (show 1 = _ by omega)) | (exact congrArg nI (show 0 = _ by omega)))) h), rfl⟩⟩
      · have c_105 : ¬ (S_g S (16 + 11 * c) / 2) = 0 := fun z => c_105 ((nI_b (a := (S_g S (16 + 11 * c) / 2)) (b := 0) (by omega) (by omega)).2.2.mpr z)
        refine cq_iconst F (v := 2) dX6_cordOf_108 rfl ?_
        refine cq_goto F (tgt := 113) dX6_cordOf_109 (by decide) ?_
        refine cq_iadd F dX6_cordOf_113 ?_
        rw [show (0 + 2 : Int32) = 2 from by decide]
        refine cq_ret9 ?_
        exact cq_iret F hr (by decide) (by decide) dX6_cordOf_114 ⟨_, rfl, ⟨(cw_q (by unfold op_cordOf; rw [if_pos h_2b, ec]; exact if_pos ⟨by decide, by decide⟩) ((show _ = nI (S_g S (16 + 11 * c)) by first | (exact congrArg nI (show 3 = _ by omega)) | (exact congrArg nI (show 2 = _ by omega)) | (exact congrArg nI (show 1 = _ by omega)) | (exact congrArg nI (show 0 = _ by omega)))) h), rfl⟩⟩
    · have c_93 : ¬ (S_g S (16 + 11 * c) % 2) = 0 := fun z => c_93 ((nI_b (a := (S_g S (16 + 11 * c) % 2)) (b := 0) (by omega) (by omega)).2.2.mpr z)
      refine cq_iconst F (v := 1) dX6_cordOf_96 rfl ?_
      refine cq_goto F (tgt := 101) dX6_cordOf_97 (by decide) ?_
      refine cq_aload_n F (i := 3) dX6_cordOf_101 rfl rfl ?_
      refine cq_getIN F (C := RX1) (T := TX1) (N := 8) (ci := 2) (hb.now.cord _ hj_13).kind rfl ⟨⟨by decide, by decide⟩, rfl⟩ inX1 6 (by decide) rfl rfl (cq_nfw F.2.2.2.2 (List.mem_of_getElem? (l := cq_nf) (i := 11) rfl)) dX6_cordOf_102 ?_
      rw [hcr.2.2.2.2.2.1]
      refine cq_if_eq F (tgt := 112) dX6_cordOf_105 (by decide) (fun c_105 => ?_) (fun c_105 => ?_)
      · have c_105 : (S_g S (16 + 11 * c) / 2) = 0 := (nI_b (a := (S_g S (16 + 11 * c) / 2)) (b := 0) (by omega) (by omega)).2.2.mp c_105
        refine cq_iconst F (v := 0) dX6_cordOf_112 rfl ?_
        refine cq_iadd F dX6_cordOf_113 ?_
        rw [show (1 + 0 : Int32) = 1 from by decide]
        refine cq_ret9 ?_
        exact cq_iret F hr (by decide) (by decide) dX6_cordOf_114 ⟨_, rfl, ⟨(cw_q (by unfold op_cordOf; rw [if_pos h_2b, ec]; exact if_pos ⟨by decide, by decide⟩) ((show _ = nI (S_g S (16 + 11 * c)) by first | (exact congrArg nI (show 3 = _ by omega)) | (exact congrArg nI (show 2 = _ by omega)) | (exact congrArg nI (show 1 = _ by omega)) | (exact congrArg nI (show 0 = _ by omega)))) h), rfl⟩⟩
      · have c_105 : ¬ (S_g S (16 + 11 * c) / 2) = 0 := fun z => c_105 ((nI_b (a := (S_g S (16 + 11 * c) / 2)) (b := 0) (by omega) (by omega)).2.2.mpr z)
        refine cq_iconst F (v := 2) dX6_cordOf_108 rfl ?_
        refine cq_goto F (tgt := 113) dX6_cordOf_109 (by decide) ?_
        refine cq_iadd F dX6_cordOf_113 ?_
        rw [show (1 + 2 : Int32) = 3 from by decide]
        refine cq_ret9 ?_
        exact cq_iret F hr (by decide) (by decide) dX6_cordOf_114 ⟨_, rfl, ⟨(cw_q (by unfold op_cordOf; rw [if_pos h_2b, ec]; exact if_pos ⟨by decide, by decide⟩) ((show _ = nI (S_g S (16 + 11 * c)) by first | (exact congrArg nI (show 3 = _ by omega)) | (exact congrArg nI (show 2 = _ by omega)) | (exact congrArg nI (show 1 = _ by omega)) | (exact congrArg nI (show 0 = _ by omega)))) h), rfl⟩⟩
  by_cases sw_16_6 : w = nI 6
  · subst sw_16_6
    refine cq_tableIn F (off := 99) (tgt := 115) dX6_cordOf_16 (by decide) (by decide) (by decide) (by decide) ?_
    refine cq_aload_n F (i := 3) dX6_cordOf_115 rfl rfl ?_
    refine cq_callV F (C := RX1) (ci := 2) (nX1_isOut (l := l) (D := D) (cA := cA) (Bs := Bs) (hb.now.cord _ (by omega)) hcr hq) (cwV 0 F.1.2.2.2.2 gX6_cordOf_X1_isOut rfl rfl rfl hdVX1_isOut ⟨Nat.le_of_ble_eq_true rfl, Nat.le_of_ble_eq_true rfl⟩) (hb.now.cord _ hj_13).kind ⟨by decide, by decide⟩ rfl rfl rfl (Nat.le_of_ble_eq_true rfl) dX6_cordOf_116 ⟨Nat.le_of_ble_eq_true rfl, Nat.le_of_ble_eq_true rfl⟩ (cq_kIp fun r_116 h_116 => ?_)
    refine cq_if_eq F (tgt := 126) dX6_cordOf_119 (by decide) (fun c_119 => ?_) (fun c_119 => ?_)
    · have c_119 := cq_b0 h_116 c_119
      refine cq_iconst F (v := 0) dX6_cordOf_126 rfl ?_
      refine cq_ret9 ?_
      exact cq_iret F hr (by decide) (by decide) dX6_cordOf_127 ⟨_, rfl, ⟨(cw_q (by unfold op_cordOf; rw [if_pos h_2b, ec]; exact if_pos ⟨by decide, by decide⟩) ((show _ = (if ns_left (S_g S) c = 0 then (1 : Int32) else 0) by first | exact (if_pos c_119).symm | exact (if_neg c_119).symm)) h), rfl⟩⟩
    · have c_119 := cq_b1 h_116 c_119
      refine cq_iconst F (v := 1) dX6_cordOf_122 rfl ?_
      refine cq_goto F (tgt := 127) dX6_cordOf_123 (by decide) ?_
      refine cq_ret9 ?_
      exact cq_iret F hr (by decide) (by decide) dX6_cordOf_127 ⟨_, rfl, ⟨(cw_q (by unfold op_cordOf; rw [if_pos h_2b, ec]; exact if_pos ⟨by decide, by decide⟩) ((show _ = (if ns_left (S_g S) c = 0 then (1 : Int32) else 0) by first | exact (if_pos c_119).symm | exact (if_neg c_119).symm)) h), rfl⟩⟩
  by_cases sw_16_7 : w = nI 7
  · subst sw_16_7
    refine cq_tableIn F (off := 112) (tgt := 128) dX6_cordOf_16 (by decide) (by decide) (by decide) (by decide) ?_
    refine cq_aload_n F (i := 3) dX6_cordOf_128 rfl rfl ?_
    refine cq_getIN F (C := RX1) (T := TX1) (N := 8) (ci := 2) (hb.now.cord _ hj_13).kind rfl ⟨⟨by decide, by decide⟩, rfl⟩ inX1 7 (by decide) rfl rfl (cq_nfw F.2.2.2.2 (List.mem_of_getElem? (l := cq_nf) (i := 12) rfl)) dX6_cordOf_129 ?_
    rw [hcr.2.2.2.2.2.2.1]
    refine cq_ret9 ?_
    exact cq_iret F hr (by decide) (by decide) dX6_cordOf_132 ⟨_, rfl, ⟨(cw_q (by unfold op_cordOf; rw [if_pos h_2b, ec]; exact if_pos ⟨by decide, by decide⟩) (rfl) h), rfl⟩⟩
  have sw_16 : w.toInt < 0 ∨ 7 < w.toInt := by
    have z_0 := sw_ne 0 (by decide) sw_16_0
    have z_1 := sw_ne 1 (by decide) sw_16_1
    have z_2 := sw_ne 2 (by decide) sw_16_2
    have z_3 := sw_ne 3 (by decide) sw_16_3
    have z_4 := sw_ne 4 (by decide) sw_16_4
    have z_5 := sw_ne 5 (by decide) sw_16_5
    have z_6 := sw_ne 6 (by decide) sw_16_6
    have z_7 := sw_ne 7 (by decide) sw_16_7
    omega
  refine cq_tableOut F (tgt := 133) dX6_cordOf_16 sw_16 (by decide) ?_
  refine cq_throw F hl hex (by decide +kernel) (F.1.2.2.2.2 _ (List.mem_of_getElem? (l := wsX6_cordOf) (i := 1) (a := .classLink RX6 48 "java/lang/IllegalArgumentException") (by decide +kernel))) (F.1.2.2.2.2 _ (List.mem_of_getElem? (l := wsX6_cordOf) (i := 2) (a := .initialized "java/lang/IllegalArgumentException") (by decide +kernel))) (List.mem_of_getElem? (l := cq_sr) (i := 9) rfl) (fun w h => F.1.2.2.2.2 w ((fun w h => List.mem_cons_of_mem _ (List.mem_append_left _ (List.mem_append_right _ h))) w h)) xn_48_52 xg_48_52 dX6_cordOf_133 dX6_cordOf_136 dX6_cordOf_137 dX6_cordOf_139 dX6_cordOf_142 ⟨by decide, Nat.le_of_ble_eq_true rfl, by decide, by decide⟩ ⟨by decide, by decide⟩ ?_
  exact (cx_of (k := 1) (by unfold op_cordOf; rw [if_pos h_2b, if_neg (show ¬ (0 ≤ w ∧ w ≤ 7) from sw_ge (n := 7) (by decide) sw_16)]) rfl rfl)
theorem hdVX6_cordOf : yX6_cordOf.cls = RX6 ∧ yX6_cordOf.cls ≠ "java/lang/invoke/MethodHandle" ∧ yX6_cordOf.cls ≠ "java/lang/invoke/VarHandle" ∧ (parseMethodDescriptor yX6_cordOf.desc).map (fun d => d.parameters.length) = some 2 := by decide +kernel
abbrev rmX6_segment : Room := ({ frames := 8, cells := 2, slots := 12, locals := 133 })
set_option maxHeartbeats 4000000 in
set_option maxRecDepth 100000 in
theorem kX6_segment (l : Launch) (hl : l.stackTraces = false) (D : va_G) (cA : Nat → ClassId) (X : cq_X) (Bs : Nat) (b B : Nat) (S : as_T) (u w : Int32) (M : cq_M) (hb : cq_isClock X b) (h : ck M b S) (hk : as_ok S B) : cq_T l yX6_segment wsX6_segment rmX6_segment D cA X Bs [.ref b, .int u, .int w] M (cq_PI (fun r M1 => cw (op_segment S u w) r M M1 b ∧ M1 = M)) (fun E M1 => cx (op_segment S u w) S [xI] E M M1) 2 12 := by
  refine cq_met9 (cc := cX6_segment) (maxL := 3) (ret := (some .int)) (by decide) rfl (Nat.le_of_ble_eq_true rfl) [(0, .ref b), (1, .int u), (2, .int w)] rfl rfl ?_
  intro p9 e9 s9 m9 b9 t9 c9 F hr hex
  have inX1 : ∀ w ∈ wsX10, w ∈ wsX6_segment := (fun w h => List.mem_cons_of_mem _ (List.mem_append_left _ (List.mem_append_right _ h)))
  have inX5 : ∀ w ∈ wsX50, w ∈ wsX6_segment := (fun w h => List.mem_cons_of_mem _ (List.mem_append_left _ (List.mem_append_left _ (List.mem_append_right _ h))))
  have inX6 : ∀ w ∈ wsX60, w ∈ wsX6_segment := (fun w h => List.mem_cons_of_mem _ (List.mem_append_left _ (List.mem_append_left _ (List.mem_append_left _ (List.mem_append_right _ h)))))
  refine cq_aload_n F (i := 0) dX6_segment_0 rfl rfl ?_
  refine cq_iload_n F (i := 1) dX6_segment_1 rfl rfl ?_
  refine cq_iload_n F (i := 2) dX6_segment_2 rfl rfl ?_
  refine cq_xcallV F hex (C := RX6) (ci := 7) (kX6_requireSegment l hl D cA X Bs b B S u w M hb h hk) (cwV 2 F.1.2.2.2.2 gX6_segment_X6_requireSegment rfl rfl rfl hdVX6_requireSegment ⟨Nat.le_of_ble_eq_true rfl, Nat.le_of_ble_eq_true rfl⟩) hb.kind ⟨by decide, by decide⟩ rfl rfl rfl (Nat.le_of_ble_eq_true rfl) dX6_segment_3 ⟨Nat.le_of_ble_eq_true rfl, Nat.le_of_ble_eq_true rfl⟩ (⟨by decide, by decide⟩) (fun E M1 h => cx_of (k := 0) (if_neg h.2.2) (by rw [h.1]; rfl) h.2.1) (cq_kVq fun h_3 => ?_)
  have h_3b := h_3
  obtain ⟨c, hc, rfl⟩ := nI_cd (n := S_g S 6) (by have := hk.1.1; omega) h_3.1
  have ec : (nI c).toNatClampNeg = c := nI_clamp (by have := hk.1.1; omega)
  have hq := hk.1.2.2.2.1 c hc
  have h7 := hq.1.2
  have hk6 := hk.1.1
  obtain ⟨s, hs, rfl⟩ := nI_cd (n := S_g S (7 + 11 * c)) (by omega) (by have z := h_3.2; rw [ec] at z; exact z)
  have es : (nI s).toNatClampNeg = s := nI_clamp (by omega)
  refine cq_aload_n F (i := 0) dX6_segment_6 rfl rfl ?_
  refine cq_getT (t := (b + 1)) F (C := RX6) (T := TX6) (N := 9) (ci := 7) hb.kind rfl ⟨⟨by decide, by decide⟩, rfl⟩ inX6 0 (by decide) rfl rfl hb.t0 (F.1.2.2.2.2 _ (List.mem_of_getElem? (l := wsX6_segment) (i := 1) (a := .fieldLink RX6 10 "CordClock" "now" "LCordClock$State;") (by decide +kernel))) dX6_segment_7 ?_
  refine cq_getTN (t := ((b + 1) + 1)) F (C := RX5) (T := TX5) (N := 11) (ci := 6) hb.now.kind rfl ⟨⟨by decide, by decide⟩, rfl⟩ inX5 0 (by decide) rfl rfl hb.now.t0 (cq_nfw F.2.2.2.2 (List.mem_of_getElem? (l := cq_nf) (i := 1) rfl)) dX6_segment_10 ?_
  refine cq_iload_n F (i := 1) dX6_segment_13 rfl rfl ?_
  have hj_14 : c < 4 := (by omega)
  refine cq_aaldC_j F (j := c) (t := ((b + 1) + 7 + 2 * c)) hb.now.k1 hb.now.n1 rfl ⟨hj_14, by decide⟩ (hb.now.ct _ hj_14) dX6_segment_14 ?_
  refine cq_getTN (t := (((b + 1) + 7 + 2 * c) + 1)) F (C := RX1) (T := TX1) (N := 8) (ci := 2) (hb.now.cord _ hj_14).kind rfl ⟨⟨by decide, by decide⟩, rfl⟩ inX1 0 (by decide) rfl rfl (hb.now.cord _ hj_14).t0 (cq_nfw F.2.2.2.2 (List.mem_of_getElem? (l := cq_nf) (i := 2) rfl)) dX6_segment_15 ?_
  refine cq_iload_n F (i := 2) dX6_segment_18 rfl rfl ?_
  refine cq_iald_j F (j := s) (hb.now.cord _ hj_14).k1 (hb.now.cord _ hj_14).n1 rfl ⟨(by omega), by decide⟩ dX6_segment_19 ?_
  rw [(h.1.2.1 c hc).2.2.2.2.2.2.2 s hs]
  refine cq_ret9 ?_
  exact cq_iret F hr (by decide) (by decide) dX6_segment_20 ⟨_, rfl, ⟨(cw_q (by unfold op_segment; rw [if_pos h_3b, ec, es]) (rfl) h), rfl⟩⟩
theorem hdVX6_segment : yX6_segment.cls = RX6 ∧ yX6_segment.cls ≠ "java/lang/invoke/MethodHandle" ∧ yX6_segment.cls ≠ "java/lang/invoke/VarHandle" ∧ (parseMethodDescriptor yX6_segment.desc).map (fun d => d.parameters.length) = some 2 := by decide +kernel
abbrev rmX1_frontSegment : Room := ({ frames := 1, cells := 0, slots := 0, locals := 20 })
set_option maxHeartbeats 4000000 in
set_option maxRecDepth 100000 in
theorem kX1_frontSegment (l : Launch) (D : va_G) (cA : Nat → ClassId) (X : cq_X) (Bs : Nat) (a c : Nat) (y : Int32) (g : Nat → Nat) (M : cq_M) (ha : cq_isCord X a) (h : cr_cord M a g c) (hq : ns_cord g c) : cq_C l yX1_frontSegment wsX1_frontSegment rmX1_frontSegment D cA X Bs [.ref a, .int y] M (cq_PI (fun r M1 => r = ns_front g c y ∧ M1 = M)) 0 0 := by
  refine cq_met (cc := cX1_frontSegment) (maxL := 5) (ret := (some .int)) (by decide) rfl (Nat.le_of_ble_eq_true rfl) [(0, .ref a), (1, .int y)] rfl rfl ?_
  intro p9 e9 s9 m9 b9 t9 c9 F hr
  have inX1 : ∀ w ∈ wsX10, w ∈ wsX1_frontSegment := (fun w h => List.mem_cons_of_mem _ (List.mem_append_right _ h))
  have h7 := hq.1
  have ht := hq.time
  have hbt := hq.2.2.1
  have hlt : ns_left g c ≤ 360 := by unfold ns_left; omega
  have hseg : ∀ k, k < g (7 + 11 * c) → ns_sum g (8 + 11 * c) (k + 1) = ns_sum g (8 + 11 * c) k + g (8 + 11 * c + k) := fun _ _ => rfl
  have hst : ns_time g c = ns_sum g (8 + 11 * c) (g (7 + 11 * c)) := rfl
  have hbd : ns_burned g c = g (14 + 11 * c) + g (15 + 11 * c) := rfl
  have hld : ns_left g c = ns_time g c - ns_burned g c := rfl
  have loop_27 : ∀ (n_27 : Nat) (ah k : Nat), ¬ ns_left g c = 0 → k ≤ g (7 + 11 * c) → ((¬ y = 0 → ns_sum g (8 + 11 * c) k ≤ g (14 + 11 * c) ∧ ah + ns_sum g (8 + 11 * c) k = g (14 + 11 * c)) ∧ (y = 0 → ns_time g c ≤ g (15 + 11 * c) + ns_sum g (8 + 11 * c) (g (7 + 11 * c) - k) ∧ ah + ns_time g c = g (15 + 11 * c) + ns_sum g (8 + 11 * c) (g (7 + 11 * c) - k))) → g (7 + 11 * c) + 1 - k < n_27 → cq_V p9 l e9 rmX1_frontSegment s9 m9 ([.ref a, .int y] : List Value).toArray b9 t9 c9 D cA X Bs 5 0 0 (MQ b9 (cq_Q D cA X Bs (cq_PI (fun r M1 => r = ns_front g c y ∧ M1 = M))) ([.ref a, .int y] : List Value).toArray s9 0 0 (cq_A Bs)) 27 [(0, .ref a), (1, .int y), (2, .int (nI ah)), (3, .int (nI k))] [] M := by
    intro n_27
    induction n_27 with
    | zero =>
      intros
      omega
    | succ n_27 ih_27 =>
      intro ah k hnl hk hinv hn
      have ha9 : ah ≤ 360 := by
            by_cases y0 : y = 0
            · have := hinv.2 y0
              have z3 := ns_sum_mono (g := g) (b := 8 + 11 * c) (show g (7 + 11 * c) - k ≤ g (7 + 11 * c) by omega)
              omega
            · have := hinv.1 y0; omega
      refine cq_iload_n F (i := 3) dX1_frontSegment_27 rfl rfl ?_
      refine cq_aload_n F (i := 0) dX1_frontSegment_28 rfl rfl ?_
      refine cq_getI F (C := RX1) (T := TX1) (N := 8) (ci := 2) ha.kind rfl ⟨⟨by decide, by decide⟩, rfl⟩ inX1 1 (by decide) rfl rfl (F.1.2.2.2.2 _ (List.mem_of_getElem? (l := wsX1_frontSegment) (i := 3) (a := .fieldLink RX1 19 "CordClock$Cord" "segments" "I") (by decide +kernel))) dX1_frontSegment_29 ?_
      rw [h.1]
      refine cq_icmp_ge F (tgt := 83) dX1_frontSegment_32 (by decide) (fun c_32 => ?_) (fun c_32 => ?_)
      · have c_32 : (g (7 + 11 * c)) ≤ k := (nI_b (a := (g (7 + 11 * c))) (b := k) (by omega) (by omega)).1.mp c_32
        have hF : False := by
          by_cases y0 : y = 0
          · have z2 := hinv.2 y0
            rw [show g (7 + 11 * c) - k = 0 by omega, show ns_sum g (8 + 11 * c) 0 = 0 from rfl] at z2
            omega
          · have z2 := hinv.1 y0
            have z3 := ns_sum_mono (g := g) (b := 8 + 11 * c) (show g (7 + 11 * c) ≤ k by omega)
            omega
        exact hF.elim
      · have c_32 : ¬ (g (7 + 11 * c)) ≤ k := fun z => c_32 ((nI_b (a := (g (7 + 11 * c))) (b := k) (by omega) (by omega)).1.mpr z)
        refine cq_iload_n F (i := 1) dX1_frontSegment_35 rfl rfl ?_
        refine cq_if_eq F (tgt := 43) dX1_frontSegment_36 (by decide) (fun c_36 => ?_) (fun c_36 => ?_)
        · have hi2 := hinv.2 c_36
          have e1 : g (7 + 11 * c) - k = g (7 + 11 * c) - 1 - k + 1 := by omega
          have e2 := hseg (g (7 + 11 * c) - 1 - k) (by omega)
          rw [e1, e2] at hi2
          have e3 := (hq.2.1 (g (7 + 11 * c) - 1 - k) (by omega)).2
          refine cq_aload_n F (i := 0) dX1_frontSegment_43 rfl rfl ?_
          refine cq_getI F (C := RX1) (T := TX1) (N := 8) (ci := 2) ha.kind rfl ⟨⟨by decide, by decide⟩, rfl⟩ inX1 1 (by decide) rfl rfl (F.1.2.2.2.2 _ (List.mem_of_getElem? (l := wsX1_frontSegment) (i := 3) (a := .fieldLink RX1 19 "CordClock$Cord" "segments" "I") (by decide +kernel))) dX1_frontSegment_44 ?_
          rw [h.1]
          refine cq_iconst F (v := 1) dX1_frontSegment_47 rfl ?_
          refine cq_isub F dX1_frontSegment_48 ?_
          rw [show (nI (g (7 + 11 * c)) - 1 : Int32) = nI ((g (7 + 11 * c)) - 1) from pk_sub (a := (g (7 + 11 * c))) (b := 1) (by omega)]
          refine cq_iload_n F (i := 3) dX1_frontSegment_49 rfl rfl ?_
          refine cq_isub F dX1_frontSegment_50 ?_
          rw [show (nI ((g (7 + 11 * c)) - 1) - nI k : Int32) = nI (((g (7 + 11 * c)) - 1) - k) from pk_sub (a := ((g (7 + 11 * c)) - 1)) (b := k) (by omega)]
          refine cq_istore F dX1_frontSegment_51 (by decide) ?_
          refine cq_iload_n F (i := 2) dX1_frontSegment_53 rfl rfl ?_
          refine cq_aload_n F (i := 0) dX1_frontSegment_54 rfl rfl ?_
          refine cq_getT (t := (a + 1)) F (C := RX1) (T := TX1) (N := 8) (ci := 2) ha.kind rfl ⟨⟨by decide, by decide⟩, rfl⟩ inX1 0 (by decide) rfl rfl ha.t0 (F.1.2.2.2.2 _ (List.mem_of_getElem? (l := wsX1_frontSegment) (i := 4) (a := .fieldLink RX1 9 "CordClock$Cord" "times" "[I") (by decide +kernel))) dX1_frontSegment_55 ?_
          refine cq_iload F dX1_frontSegment_58 rfl ?_
          refine cq_iald_j F (j := (((g (7 + 11 * c)) - 1) - k)) ha.k1 ha.n1 rfl ⟨(by omega), by decide⟩ dX1_frontSegment_60 ?_
          rw [show M (a + 1) (((g (7 + 11 * c)) - 1) - k) = nI ((g (8 + 11 * c + ((((g (7 + 11 * c)) - 1) - k))))) from (h.2.2.2.2.2.2.2 ((((g (7 + 11 * c)) - 1) - k)) (by omega))]
          refine cq_icmp_ge F (tgt := 67) dX1_frontSegment_61 (by decide) (fun c_61 => ?_) (fun c_61 => ?_)
          · have c_61 : (g (8 + 11 * c + ((((g (7 + 11 * c)) - 1) - k)))) ≤ ah := (nI_b (a := (g (8 + 11 * c + ((((g (7 + 11 * c)) - 1) - k))))) (b := ah) (by omega) (by omega)).1.mp c_61
            refine cq_iload_n F (i := 2) dX1_frontSegment_67 rfl rfl ?_
            refine cq_aload_n F (i := 0) dX1_frontSegment_68 rfl rfl ?_
            refine cq_getT (t := (a + 1)) F (C := RX1) (T := TX1) (N := 8) (ci := 2) ha.kind rfl ⟨⟨by decide, by decide⟩, rfl⟩ inX1 0 (by decide) rfl rfl ha.t0 (F.1.2.2.2.2 _ (List.mem_of_getElem? (l := wsX1_frontSegment) (i := 4) (a := .fieldLink RX1 9 "CordClock$Cord" "times" "[I") (by decide +kernel))) dX1_frontSegment_69 ?_
            refine cq_iload F dX1_frontSegment_72 rfl ?_
            refine cq_iald_j F (j := (((g (7 + 11 * c)) - 1) - k)) ha.k1 ha.n1 rfl ⟨(by omega), by decide⟩ dX1_frontSegment_74 ?_
            rw [show M (a + 1) (((g (7 + 11 * c)) - 1) - k) = nI ((g (8 + 11 * c + ((((g (7 + 11 * c)) - 1) - k))))) from (h.2.2.2.2.2.2.2 ((((g (7 + 11 * c)) - 1) - k)) (by omega))]
            refine cq_isub F dX1_frontSegment_75 ?_
            rw [show (nI ah - nI (g (8 + 11 * c + ((((g (7 + 11 * c)) - 1) - k)))) : Int32) = nI (ah - (g (8 + 11 * c + ((((g (7 + 11 * c)) - 1) - k))))) from pk_sub (a := ah) (b := (g (8 + 11 * c + ((((g (7 + 11 * c)) - 1) - k))))) (by omega)]
            refine cq_istore_n F (i := 2) dX1_frontSegment_76 rfl (by decide) ?_
            refine cq_iinc F dX1_frontSegment_77 rfl (by decide) (fun x_77 e_77 => ?_)
            obtain rfl : x_77 = nI (k + 1) := by rw [e_77]; exact nI_1 _
            refine cq_goto F (tgt := 27) dX1_frontSegment_80 (by decide) ?_
            refine cq_loc (L2 := [(0, .ref a), (1, .int y), (2, .int (nI (ah - (g (8 + 11 * c + ((((g (7 + 11 * c)) - 1) - k))))))), (3, .int (nI (k + 1)))]) rfl ?_
            exact ih_27 _ (k + 1) hnl (by omega) ⟨fun y0 => by first | exact absurd c_36 y0 | omega, fun y0 => by first | exact absurd y0 c_36 | (rw [show g (7 + 11 * c) - (k + 1) = g (7 + 11 * c) - 1 - k by omega]; omega)⟩ (by omega)
          · have c_61 : ¬ (g (8 + 11 * c + ((((g (7 + 11 * c)) - 1) - k)))) ≤ ah := fun z => c_61 ((nI_b (a := (g (8 + 11 * c + ((((g (7 + 11 * c)) - 1) - k))))) (b := ah) (by omega) (by omega)).1.mpr z)
            refine cq_iload F dX1_frontSegment_64 rfl ?_
            exact cq_iret F hr (by decide) (by decide) dX1_frontSegment_66 ⟨_, rfl, ⟨by unfold ns_front; first | exact (if_pos c_4).symm | (rw [if_neg hnl]; first | (rw [if_pos c_36, ns_at_eq (s := g (7 + 11 * c) - 1 - k) (by omega) (by omega), if_neg (by omega)]) | (rw [if_neg c_36, ns_at_eq (s := k) (by omega) (by omega), if_neg (by omega)])), rfl⟩⟩
        · have hi2 := hinv.1 c_36
          have e2 := hseg k (by omega)
          have e3 := (hq.2.1 k (by omega)).2
          refine cq_iload_n F (i := 3) dX1_frontSegment_39 rfl rfl ?_
          refine cq_goto F (tgt := 51) dX1_frontSegment_40 (by decide) ?_
          refine cq_istore F dX1_frontSegment_51 (by decide) ?_
          refine cq_iload_n F (i := 2) dX1_frontSegment_53 rfl rfl ?_
          refine cq_aload_n F (i := 0) dX1_frontSegment_54 rfl rfl ?_
          refine cq_getT (t := (a + 1)) F (C := RX1) (T := TX1) (N := 8) (ci := 2) ha.kind rfl ⟨⟨by decide, by decide⟩, rfl⟩ inX1 0 (by decide) rfl rfl ha.t0 (F.1.2.2.2.2 _ (List.mem_of_getElem? (l := wsX1_frontSegment) (i := 4) (a := .fieldLink RX1 9 "CordClock$Cord" "times" "[I") (by decide +kernel))) dX1_frontSegment_55 ?_
          refine cq_iload F dX1_frontSegment_58 rfl ?_
          refine cq_iald_j F (j := k) ha.k1 ha.n1 rfl ⟨(by omega), by decide⟩ dX1_frontSegment_60 ?_
          rw [show M (a + 1) k = nI ((g (8 + 11 * c + (k)))) from (h.2.2.2.2.2.2.2 (k) (by omega))]
          refine cq_icmp_ge F (tgt := 67) dX1_frontSegment_61 (by decide) (fun c_61 => ?_) (fun c_61 => ?_)
          · have c_61 : (g (8 + 11 * c + (k))) ≤ ah := (nI_b (a := (g (8 + 11 * c + (k)))) (b := ah) (by omega) (by omega)).1.mp c_61
            refine cq_iload_n F (i := 2) dX1_frontSegment_67 rfl rfl ?_
            refine cq_aload_n F (i := 0) dX1_frontSegment_68 rfl rfl ?_
            refine cq_getT (t := (a + 1)) F (C := RX1) (T := TX1) (N := 8) (ci := 2) ha.kind rfl ⟨⟨by decide, by decide⟩, rfl⟩ inX1 0 (by decide) rfl rfl ha.t0 (F.1.2.2.2.2 _ (List.mem_of_getElem? (l := wsX1_frontSegment) (i := 4) (a := .fieldLink RX1 9 "CordClock$Cord" "times" "[I") (by decide +kernel))) dX1_frontSegment_69 ?_
            refine cq_iload F dX1_frontSegment_72 rfl ?_
            refine cq_iald_j F (j := k) ha.k1 ha.n1 rfl ⟨(by omega), by decide⟩ dX1_frontSegment_74 ?_
            rw [show M (a + 1) k = nI ((g (8 + 11 * c + (k)))) from (h.2.2.2.2.2.2.2 (k) (by omega))]
            refine cq_isub F dX1_frontSegment_75 ?_
            rw [show (nI ah - nI (g (8 + 11 * c + (k))) : Int32) = nI (ah - (g (8 + 11 * c + (k)))) from pk_sub (a := ah) (b := (g (8 + 11 * c + (k)))) (by omega)]
            refine cq_istore_n F (i := 2) dX1_frontSegment_76 rfl (by decide) ?_
            refine cq_iinc F dX1_frontSegment_77 rfl (by decide) (fun x_77 e_77 => ?_)
            obtain rfl : x_77 = nI (k + 1) := by rw [e_77]; exact nI_1 _
            refine cq_goto F (tgt := 27) dX1_frontSegment_80 (by decide) ?_
            refine cq_loc (L2 := [(0, .ref a), (1, .int y), (2, .int (nI (ah - (g (8 + 11 * c + (k)))))), (3, .int (nI (k + 1)))]) rfl ?_
            exact ih_27 _ (k + 1) hnl (by omega) ⟨fun y0 => by first | exact absurd c_36 y0 | omega, fun y0 => by first | exact absurd y0 c_36 | (rw [show g (7 + 11 * c) - (k + 1) = g (7 + 11 * c) - 1 - k by omega]; omega)⟩ (by omega)
          · have c_61 : ¬ (g (8 + 11 * c + (k))) ≤ ah := fun z => c_61 ((nI_b (a := (g (8 + 11 * c + (k)))) (b := ah) (by omega) (by omega)).1.mpr z)
            refine cq_iload F dX1_frontSegment_64 rfl ?_
            exact cq_iret F hr (by decide) (by decide) dX1_frontSegment_66 ⟨_, rfl, ⟨by unfold ns_front; first | exact (if_pos c_4).symm | (rw [if_neg hnl]; first | (rw [if_pos c_36, ns_at_eq (s := g (7 + 11 * c) - 1 - k) (by omega) (by omega), if_neg (by omega)]) | (rw [if_neg c_36, ns_at_eq (s := k) (by omega) (by omega), if_neg (by omega)])), rfl⟩⟩
  refine cq_aload_n F (i := 0) dX1_frontSegment_0 rfl rfl ?_
  refine cq_callV F (C := RX1) (ci := 2) (nX1_isOut (l := l) (D := D) (cA := cA) (Bs := Bs) ha h hq) (cwV 0 F.1.2.2.2.2 gX1_frontSegment_X1_isOut rfl rfl rfl hdVX1_isOut ⟨Nat.le_of_ble_eq_true rfl, Nat.le_of_ble_eq_true rfl⟩) ha.kind ⟨by decide, by decide⟩ rfl rfl rfl (Nat.le_of_ble_eq_true rfl) dX1_frontSegment_1 ⟨Nat.le_of_ble_eq_true rfl, Nat.le_of_ble_eq_true rfl⟩ (cq_kIp fun r_1 h_1 => ?_)
  refine cq_if_eq F (tgt := 9) dX1_frontSegment_4 (by decide) (fun c_4 => ?_) (fun c_4 => ?_)
  · have c_4 := cq_b0 h_1 c_4
    refine cq_iload_n F (i := 1) dX1_frontSegment_9 rfl rfl ?_
    refine cq_if_eq F (tgt := 20) dX1_frontSegment_10 (by decide) (fun c_10 => ?_) (fun c_10 => ?_)
    · refine cq_aload_n F (i := 0) dX1_frontSegment_20 rfl rfl ?_
      refine cq_getI F (C := RX1) (T := TX1) (N := 8) (ci := 2) ha.kind rfl ⟨⟨by decide, by decide⟩, rfl⟩ inX1 4 (by decide) rfl rfl (F.1.2.2.2.2 _ (List.mem_of_getElem? (l := wsX1_frontSegment) (i := 2) (a := .fieldLink RX1 28 "CordClock$Cord" "rightBurned" "I") (by decide +kernel))) dX1_frontSegment_21 ?_
      rw [h.2.2.2.1]
      refine cq_istore_n F (i := 2) dX1_frontSegment_24 rfl (by decide) ?_
      refine cq_iconst F (v := 0) dX1_frontSegment_25 rfl ?_
      refine cq_istore_n F (i := 3) dX1_frontSegment_26 rfl (by decide) ?_
      refine cq_loc (L2 := [(0, .ref a), (1, .int y), (2, .int (nI (g (15 + 11 * c)))), (3, .int (nI 0))]) rfl ?_
      exact loop_27 (g (7 + 11 * c) + 2) _ 0 c_4 (by omega) ⟨fun y0 => by first | exact absurd y0 (by simpa using c_10) | exact ⟨Nat.zero_le _, rfl⟩, fun y0 => by first | exact absurd y0 c_10 | (refine ⟨?_, ?_⟩ <;> (rw [Nat.sub_zero]; omega))⟩ (by omega)
    · refine cq_aload_n F (i := 0) dX1_frontSegment_13 rfl rfl ?_
      refine cq_getI F (C := RX1) (T := TX1) (N := 8) (ci := 2) ha.kind rfl ⟨⟨by decide, by decide⟩, rfl⟩ inX1 3 (by decide) rfl rfl (F.1.2.2.2.2 _ (List.mem_of_getElem? (l := wsX1_frontSegment) (i := 1) (a := .fieldLink RX1 25 "CordClock$Cord" "leftBurned" "I") (by decide +kernel))) dX1_frontSegment_14 ?_
      rw [h.2.2.1]
      refine cq_goto F (tgt := 24) dX1_frontSegment_17 (by decide) ?_
      refine cq_istore_n F (i := 2) dX1_frontSegment_24 rfl (by decide) ?_
      refine cq_iconst F (v := 0) dX1_frontSegment_25 rfl ?_
      refine cq_istore_n F (i := 3) dX1_frontSegment_26 rfl (by decide) ?_
      refine cq_loc (L2 := [(0, .ref a), (1, .int y), (2, .int (nI (g (14 + 11 * c)))), (3, .int (nI 0))]) rfl ?_
      exact loop_27 (g (7 + 11 * c) + 2) _ 0 c_4 (by omega) ⟨fun y0 => by first | exact absurd y0 (by simpa using c_10) | exact ⟨Nat.zero_le _, rfl⟩, fun y0 => by first | exact absurd y0 c_10 | (refine ⟨?_, ?_⟩ <;> (rw [Nat.sub_zero]; omega))⟩ (by omega)
  · have c_4 := cq_b1 h_1 c_4
    refine cq_iconst F (v := (-1)) dX1_frontSegment_7 rfl ?_
    exact cq_iret F hr (by decide) (by decide) dX1_frontSegment_8 ⟨_, rfl, ⟨by unfold ns_front; first | exact (if_pos c_4).symm | (rw [if_neg hnl]; first | (rw [if_pos c_36, ns_at_eq (s := g (7 + 11 * c) - 1 - k) (by omega) (by omega), if_neg (by omega)]) | (rw [if_neg c_36, ns_at_eq (s := k) (by omega) (by omega), if_neg (by omega)])), rfl⟩⟩
theorem hdVX1_frontSegment : yX1_frontSegment.cls = RX1 ∧ yX1_frontSegment.cls ≠ "java/lang/invoke/MethodHandle" ∧ yX1_frontSegment.cls ≠ "java/lang/invoke/VarHandle" ∧ (parseMethodDescriptor yX1_frontSegment.desc).map (fun d => d.parameters.length) = some 1 := by decide +kernel
abbrev rmX6_front : Room := ({ frames := 7, cells := 1, slots := 6, locals := 111 })
set_option maxHeartbeats 4000000 in
set_option maxRecDepth 100000 in
theorem kX6_front (l : Launch) (hl : l.stackTraces = false) (D : va_G) (cA : Nat → ClassId) (X : cq_X) (Bs : Nat) (b B : Nat) (S : as_T) (u y : Int32) (M : cq_M) (hb : cq_isClock X b) (h : ck M b S) (hk : as_ok S B) : cq_T l yX6_front wsX6_front rmX6_front D cA X Bs [.ref b, .int u, .int y] M (cq_PI (fun r M1 => cw (op_front S u y) r M M1 b ∧ M1 = M)) (fun E M1 => cx (op_front S u y) S [xI] E M M1) 1 6 := by
  refine cq_met9 (cc := cX6_front) (maxL := 3) (ret := (some .int)) (by decide) rfl (Nat.le_of_ble_eq_true rfl) [(0, .ref b), (1, .int u), (2, .int y)] rfl rfl ?_
  intro p9 e9 s9 m9 b9 t9 c9 F hr hex
  have inX5 : ∀ w ∈ wsX50, w ∈ wsX6_front := (fun w h => List.mem_cons_of_mem _ (List.mem_append_left _ (List.mem_append_left _ (List.mem_append_right _ h))))
  have inX6 : ∀ w ∈ wsX60, w ∈ wsX6_front := (fun w h => List.mem_cons_of_mem _ (List.mem_append_left _ (List.mem_append_left _ (List.mem_append_left _ (List.mem_append_right _ h)))))
  refine cq_aload_n F (i := 0) dX6_front_0 rfl rfl ?_
  refine cq_iload_n F (i := 1) dX6_front_1 rfl rfl ?_
  refine cq_xcallV F hex (C := RX6) (ci := 7) (kX6_requireCord l hl D cA X Bs b B S u M hb h hk) (cwV 1 F.1.2.2.2.2 gX6_front_X6_requireCord rfl rfl rfl hdVX6_requireCord ⟨Nat.le_of_ble_eq_true rfl, Nat.le_of_ble_eq_true rfl⟩) hb.kind ⟨by decide, by decide⟩ rfl rfl rfl (Nat.le_of_ble_eq_true rfl) dX6_front_2 ⟨Nat.le_of_ble_eq_true rfl, Nat.le_of_ble_eq_true rfl⟩ (⟨by decide, by decide⟩) (fun E M1 h => cx_of (k := 0) (if_neg h.2.2) (by rw [h.1]; rfl) h.2.1) (cq_kVq fun h_2 => ?_)
  have h_2b := h_2
  obtain ⟨c, hc, rfl⟩ := nI_cd (n := S_g S 6) (by have := hk.1.1; omega) h_2
  have ec : (nI c).toNatClampNeg = c := nI_clamp (by have := hk.1.1; omega)
  have hk6 := hk.1.1
  have hq := hk.1.2.2.2.1 c hc
  have hcr := h.1.2.1 c hc
  have hff := hq.2.2.2.1
  refine cq_aload_n F (i := 0) dX6_front_5 rfl rfl ?_
  refine cq_getT (t := (b + 1)) F (C := RX6) (T := TX6) (N := 9) (ci := 7) hb.kind rfl ⟨⟨by decide, by decide⟩, rfl⟩ inX6 0 (by decide) rfl rfl hb.t0 (F.1.2.2.2.2 _ (List.mem_of_getElem? (l := wsX6_front) (i := 1) (a := .fieldLink RX6 10 "CordClock" "now" "LCordClock$State;") (by decide +kernel))) dX6_front_6 ?_
  refine cq_getTN (t := ((b + 1) + 1)) F (C := RX5) (T := TX5) (N := 11) (ci := 6) hb.now.kind rfl ⟨⟨by decide, by decide⟩, rfl⟩ inX5 0 (by decide) rfl rfl hb.now.t0 (cq_nfw F.2.2.2.2 (List.mem_of_getElem? (l := cq_nf) (i := 1) rfl)) dX6_front_9 ?_
  refine cq_iload_n F (i := 1) dX6_front_12 rfl rfl ?_
  have hj_13 : c < 4 := (by omega)
  refine cq_aaldC_j F (j := c) (t := ((b + 1) + 7 + 2 * c)) hb.now.k1 hb.now.n1 rfl ⟨hj_13, by decide⟩ (hb.now.ct _ hj_13) dX6_front_13 ?_
  refine cq_iload_n F (i := 2) dX6_front_14 rfl rfl ?_
  refine cq_callV F (C := RX1) (ci := 2) (kX1_frontSegment l D cA X Bs (b + 1 + 7 + 2 * c) c y (S_g S) M (hb.now.cord _ (by omega)) hcr hq) (cwV 1 F.1.2.2.2.2 gX6_front_X1_frontSegment rfl rfl rfl hdVX1_frontSegment ⟨Nat.le_of_ble_eq_true rfl, Nat.le_of_ble_eq_true rfl⟩) (hb.now.cord _ hj_13).kind ⟨by decide, by decide⟩ rfl rfl rfl (Nat.le_of_ble_eq_true rfl) dX6_front_15 ⟨Nat.le_of_ble_eq_true rfl, Nat.le_of_ble_eq_true rfl⟩ (cq_kIp fun r_15 h_15 => ?_)
  refine cq_ret9 ?_
  exact cq_iret F hr (by decide) (by decide) dX6_front_18 ⟨_, rfl, ⟨(cw_q (by unfold op_front; rw [if_pos h_2b, ec]) (h_15) h), rfl⟩⟩
theorem hdVX6_front : yX6_front.cls = RX6 ∧ yX6_front.cls ≠ "java/lang/invoke/MethodHandle" ∧ yX6_front.cls ≠ "java/lang/invoke/VarHandle" ∧ (parseMethodDescriptor yX6_front.desc).map (fun d => d.parameters.length) = some 2 := by decide +kernel
abbrev rmX6_ruleOf : Room := ({ frames := 6, cells := 1, slots := 6, locals := 90 })
set_option maxHeartbeats 4000000 in
set_option maxRecDepth 100000 in
theorem kX6_ruleOf (l : Launch) (hl : l.stackTraces = false) (D : va_G) (cA : Nat → ClassId) (X : cq_X) (Bs : Nat) (b B : Nat) (S : as_T) (u w : Int32) (M : cq_M) (hb : cq_isClock X b) (h : ck M b S) (hk : as_ok S B) : cq_T l yX6_ruleOf wsX6_ruleOf rmX6_ruleOf D cA X Bs [.ref b, .int u, .int w] M (cq_PI (fun r M1 => cw (op_ruleOf S u w) r M M1 b ∧ M1 = M)) (fun E M1 => cx (op_ruleOf S u w) S [xI, xA] E M M1) 1 6 := by
  refine cq_met9 (cc := cX6_ruleOf) (maxL := 4) (ret := (some .int)) (by decide) rfl (Nat.le_of_ble_eq_true rfl) [(0, .ref b), (1, .int u), (2, .int w)] rfl rfl ?_
  intro p9 e9 s9 m9 b9 t9 c9 F hr hex
  have inX4 : ∀ w ∈ wsX40, w ∈ wsX6_ruleOf := (fun w h => List.mem_cons_of_mem _ (List.mem_append_left _ (List.mem_append_left _ (List.mem_append_right _ h))))
  have inX5 : ∀ w ∈ wsX50, w ∈ wsX6_ruleOf := (fun w h => List.mem_cons_of_mem _ (List.mem_append_left _ (List.mem_append_left _ (List.mem_append_left _ (List.mem_append_right _ h)))))
  have inX6 : ∀ w ∈ wsX60, w ∈ wsX6_ruleOf := (fun w h => List.mem_cons_of_mem _ (List.mem_append_left _ (List.mem_append_left _ (List.mem_append_left _ (List.mem_append_left _ (List.mem_append_right _ h))))))
  have hk51 := hk.1.2.1
  refine cq_iload_n F (i := 1) dX6_ruleOf_0 rfl rfl ?_
  refine cq_if_lt F (tgt := 15) dX6_ruleOf_1 (by decide) (fun c_1 => ?_) (fun c_1 => ?_)
  · refine cq_throw F hl hex (by decide +kernel) (F.1.2.2.2.2 _ (List.mem_of_getElem? (l := wsX6_ruleOf) (i := 1) (a := .classLink RX6 232 "java/lang/IndexOutOfBoundsException") (by decide +kernel))) (F.1.2.2.2.2 _ (List.mem_of_getElem? (l := wsX6_ruleOf) (i := 2) (a := .initialized "java/lang/IndexOutOfBoundsException") (by decide +kernel))) (List.mem_of_getElem? (l := cq_sr) (i := 10) rfl) (fun w h => F.1.2.2.2.2 w ((fun w h => List.mem_cons_of_mem _ (List.mem_append_left _ (List.mem_append_right _ h))) w h)) xn_232_236 xg_232_236 dX6_ruleOf_15 dX6_ruleOf_18 dX6_ruleOf_19 dX6_ruleOf_21 dX6_ruleOf_24 ⟨by decide, Nat.le_of_ble_eq_true rfl, by decide, by decide⟩ ⟨by decide, by decide⟩ ?_
    exact (cx_of (k := 0) (if_neg (fun z => by first | exact absurd c_1 (Int32.not_lt.mpr z.1) | exact c_12 z.2)) rfl rfl)
  · refine cq_iload_n F (i := 1) dX6_ruleOf_4 rfl rfl ?_
    refine cq_aload_n F (i := 0) dX6_ruleOf_5 rfl rfl ?_
    refine cq_getT (t := (b + 1)) F (C := RX6) (T := TX6) (N := 9) (ci := 7) hb.kind rfl ⟨⟨by decide, by decide⟩, rfl⟩ inX6 0 (by decide) rfl rfl hb.t0 (F.1.2.2.2.2 _ (List.mem_of_getElem? (l := wsX6_ruleOf) (i := 5) (a := .fieldLink RX6 10 "CordClock" "now" "LCordClock$State;") (by decide +kernel))) dX6_ruleOf_6 ?_
    refine cq_getIN F (C := RX5) (T := TX5) (N := 11) (ci := 6) hb.now.kind rfl ⟨⟨by decide, by decide⟩, rfl⟩ inX5 3 (by decide) rfl rfl (cq_nfw F.2.2.2.2 (List.mem_of_getElem? (l := cq_nf) (i := 3) rfl)) dX6_ruleOf_9 ?_
    rw [show M (b + 1) 3 = nI ((S_g S) 51) from (show M (b + 1) 3 = nI ((S_g S) 51) from h.1.1.2.1)]
    refine cq_icmp_lt F (tgt := 25) dX6_ruleOf_12 (by decide) (fun c_12 => ?_) (fun c_12 => ?_)
    · have c_12b : 0 ≤ u ∧ u < nI (S_g S 51) := ⟨Int32.not_lt.mp c_1, c_12⟩
      obtain ⟨c, hc, rfl⟩ := nI_cd (n := S_g S 51) (by omega) c_12b
      have ec : (nI c).toNatClampNeg = c := nI_clamp (by omega)
      have hru := h.1.2.2.1 c hc
      refine cq_aload_n F (i := 0) dX6_ruleOf_25 rfl rfl ?_
      refine cq_getT (t := (b + 1)) F (C := RX6) (T := TX6) (N := 9) (ci := 7) hb.kind rfl ⟨⟨by decide, by decide⟩, rfl⟩ inX6 0 (by decide) rfl rfl hb.t0 (F.1.2.2.2.2 _ (List.mem_of_getElem? (l := wsX6_ruleOf) (i := 5) (a := .fieldLink RX6 10 "CordClock" "now" "LCordClock$State;") (by decide +kernel))) dX6_ruleOf_26 ?_
      refine cq_getTN (t := ((b + 1) + 2)) F (C := RX5) (T := TX5) (N := 11) (ci := 6) hb.now.kind rfl ⟨⟨by decide, by decide⟩, rfl⟩ inX5 2 (by decide) rfl rfl hb.now.t2 (cq_nfw F.2.2.2.2 (List.mem_of_getElem? (l := cq_nf) (i := 13) rfl)) dX6_ruleOf_29 ?_
      refine cq_iload_n F (i := 1) dX6_ruleOf_32 rfl rfl ?_
      have hj_33 : c < 8 := (by omega)
      refine cq_aaldU_j F (j := c) (t := ((b + 1) + 15 + c)) hb.now.k2 hb.now.n2 rfl ⟨hj_33, by decide⟩ (hb.now.rt _ hj_33) dX6_ruleOf_33 ?_
      refine cq_astore_n F (i := 3) dX6_ruleOf_34 rfl (by decide) ?_
      refine cq_iload_n F (i := 2) dX6_ruleOf_35 rfl rfl ?_
      by_cases sw_36_0 : w = nI 0
      · subst sw_36_0
        refine cq_tableIn F (off := 32) (tgt := 68) dX6_ruleOf_36 (by decide) (by decide) (by decide) (by decide) ?_
        refine cq_aload_n F (i := 3) dX6_ruleOf_68 rfl rfl ?_
        refine cq_getIN F (C := RX4) (T := TX4) (N := 4) (ci := 5) (hb.now.rule _ hj_33).kind rfl ⟨⟨by decide, by decide⟩, rfl⟩ inX4 0 (by decide) rfl rfl (cq_nfw F.2.2.2.2 (List.mem_of_getElem? (l := cq_nf) (i := 14) rfl)) dX6_ruleOf_69 ?_
        rw [hru.1]
        refine cq_ret9 ?_
        exact cq_iret F hr (by decide) (by decide) dX6_ruleOf_72 ⟨_, rfl, ⟨(cw_q (r' := nI (S_g S (52 + 4 * c + 0))) (by unfold op_ruleOf; rw [if_pos c_12b, ec]; exact if_pos ⟨by decide, by decide⟩) (congrArg (fun k => nI (S_g S k)) (show 52 + 4 * c = 52 + 4 * c + 0 by omega)) h), rfl⟩⟩
      by_cases sw_36_1 : w = nI 1
      · subst sw_36_1
        refine cq_tableIn F (off := 37) (tgt := 73) dX6_ruleOf_36 (by decide) (by decide) (by decide) (by decide) ?_
        refine cq_aload_n F (i := 3) dX6_ruleOf_73 rfl rfl ?_
        refine cq_getIN F (C := RX4) (T := TX4) (N := 4) (ci := 5) (hb.now.rule _ hj_33).kind rfl ⟨⟨by decide, by decide⟩, rfl⟩ inX4 1 (by decide) rfl rfl (cq_nfw F.2.2.2.2 (List.mem_of_getElem? (l := cq_nf) (i := 15) rfl)) dX6_ruleOf_74 ?_
        rw [hru.2.1]
        refine cq_ret9 ?_
        exact cq_iret F hr (by decide) (by decide) dX6_ruleOf_77 ⟨_, rfl, ⟨(cw_q (r' := nI (S_g S (52 + 4 * c + 1))) (by unfold op_ruleOf; rw [if_pos c_12b, ec]; exact if_pos ⟨by decide, by decide⟩) (congrArg (fun k => nI (S_g S k)) (show 53 + 4 * c = 52 + 4 * c + 1 by omega)) h), rfl⟩⟩
      by_cases sw_36_2 : w = nI 2
      · subst sw_36_2
        refine cq_tableIn F (off := 42) (tgt := 78) dX6_ruleOf_36 (by decide) (by decide) (by decide) (by decide) ?_
        refine cq_aload_n F (i := 3) dX6_ruleOf_78 rfl rfl ?_
        refine cq_getIN F (C := RX4) (T := TX4) (N := 4) (ci := 5) (hb.now.rule _ hj_33).kind rfl ⟨⟨by decide, by decide⟩, rfl⟩ inX4 2 (by decide) rfl rfl (cq_nfw F.2.2.2.2 (List.mem_of_getElem? (l := cq_nf) (i := 16) rfl)) dX6_ruleOf_79 ?_
        rw [hru.2.2.1]
        have h54 := (hk.1.2.2.2.2.1 c hc).2.2
        refine cq_if_eq F (tgt := 89) dX6_ruleOf_82 (by decide) (fun c_82 => ?_) (fun c_82 => ?_)
        · have c_82 : (S_g S (54 + 4 * c)) = 0 := (nI_b (a := (S_g S (54 + 4 * c))) (b := 0) (by omega) (by omega)).2.2.mp c_82
          refine cq_iconst F (v := 0) dX6_ruleOf_89 rfl ?_
          refine cq_ret9 ?_
          exact cq_iret F hr (by decide) (by decide) dX6_ruleOf_90 ⟨_, rfl, ⟨(cw_q (r' := nI (S_g S (52 + 4 * c + 2))) (by unfold op_ruleOf; rw [if_pos c_12b, ec]; exact if_pos ⟨by decide, by decide⟩) (show _ = nI (S_g S (52 + 4 * c + 2)) by rw [show 52 + 4 * c + 2 = 54 + 4 * c by omega]; first | (exact congrArg nI (show 1 = _ by omega)) | (exact congrArg nI (show 0 = _ by omega))) h), rfl⟩⟩
        · have c_82 : ¬ (S_g S (54 + 4 * c)) = 0 := fun z => c_82 ((nI_b (a := (S_g S (54 + 4 * c))) (b := 0) (by omega) (by omega)).2.2.mpr z)
          refine cq_iconst F (v := 1) dX6_ruleOf_85 rfl ?_
          refine cq_goto F (tgt := 90) dX6_ruleOf_86 (by decide) ?_
          refine cq_ret9 ?_
          exact cq_iret F hr (by decide) (by decide) dX6_ruleOf_90 ⟨_, rfl, ⟨(cw_q (r' := nI (S_g S (52 + 4 * c + 2))) (by unfold op_ruleOf; rw [if_pos c_12b, ec]; exact if_pos ⟨by decide, by decide⟩) (show _ = nI (S_g S (52 + 4 * c + 2)) by rw [show 52 + 4 * c + 2 = 54 + 4 * c by omega]; first | (exact congrArg nI (show 1 = _ by omega)) | (exact congrArg nI (show 0 = _ by omega))) h), rfl⟩⟩
      by_cases sw_36_3 : w = nI 3
      · subst sw_36_3
        refine cq_tableIn F (off := 55) (tgt := 91) dX6_ruleOf_36 (by decide) (by decide) (by decide) (by decide) ?_
        refine cq_aload_n F (i := 3) dX6_ruleOf_91 rfl rfl ?_
        refine cq_getIN F (C := RX4) (T := TX4) (N := 4) (ci := 5) (hb.now.rule _ hj_33).kind rfl ⟨⟨by decide, by decide⟩, rfl⟩ inX4 3 (by decide) rfl rfl (cq_nfw F.2.2.2.2 (List.mem_of_getElem? (l := cq_nf) (i := 17) rfl)) dX6_ruleOf_92 ?_
        rw [hru.2.2.2]
        refine cq_ret9 ?_
        exact cq_iret F hr (by decide) (by decide) dX6_ruleOf_95 ⟨_, rfl, ⟨(cw_q (r' := nI (S_g S (52 + 4 * c + 3))) (by unfold op_ruleOf; rw [if_pos c_12b, ec]; exact if_pos ⟨by decide, by decide⟩) (congrArg (fun k => nI (S_g S k)) (show 55 + 4 * c = 52 + 4 * c + 3 by omega)) h), rfl⟩⟩
      have sw_36 : w.toInt < 0 ∨ 3 < w.toInt := by
        have z_0 := sw_ne 0 (by decide) sw_36_0
        have z_1 := sw_ne 1 (by decide) sw_36_1
        have z_2 := sw_ne 2 (by decide) sw_36_2
        have z_3 := sw_ne 3 (by decide) sw_36_3
        omega
      refine cq_tableOut F (tgt := 96) dX6_ruleOf_36 sw_36 (by decide) ?_
      refine cq_throw F hl hex (by decide +kernel) (F.1.2.2.2.2 _ (List.mem_of_getElem? (l := wsX6_ruleOf) (i := 3) (a := .classLink RX6 48 "java/lang/IllegalArgumentException") (by decide +kernel))) (F.1.2.2.2.2 _ (List.mem_of_getElem? (l := wsX6_ruleOf) (i := 4) (a := .initialized "java/lang/IllegalArgumentException") (by decide +kernel))) (List.mem_of_getElem? (l := cq_sr) (i := 11) rfl) (fun w h => F.1.2.2.2.2 w ((fun w h => List.mem_cons_of_mem _ (List.mem_append_right _ h)) w h)) xn_48_52 xg_48_52 dX6_ruleOf_96 dX6_ruleOf_99 dX6_ruleOf_100 dX6_ruleOf_102 dX6_ruleOf_105 ⟨by decide, Nat.le_of_ble_eq_true rfl, by decide, by decide⟩ ⟨by decide, by decide⟩ ?_
      exact (cx_of (k := 1) (by unfold op_ruleOf; rw [if_pos c_12b, if_neg (show ¬ (0 ≤ w ∧ w ≤ 3) from sw_ge (n := 3) (by decide) sw_36)]) rfl rfl)
    · refine cq_throw F hl hex (by decide +kernel) (F.1.2.2.2.2 _ (List.mem_of_getElem? (l := wsX6_ruleOf) (i := 1) (a := .classLink RX6 232 "java/lang/IndexOutOfBoundsException") (by decide +kernel))) (F.1.2.2.2.2 _ (List.mem_of_getElem? (l := wsX6_ruleOf) (i := 2) (a := .initialized "java/lang/IndexOutOfBoundsException") (by decide +kernel))) (List.mem_of_getElem? (l := cq_sr) (i := 10) rfl) (fun w h => F.1.2.2.2.2 w ((fun w h => List.mem_cons_of_mem _ (List.mem_append_left _ (List.mem_append_right _ h))) w h)) xn_232_236 xg_232_236 dX6_ruleOf_15 dX6_ruleOf_18 dX6_ruleOf_19 dX6_ruleOf_21 dX6_ruleOf_24 ⟨by decide, Nat.le_of_ble_eq_true rfl, by decide, by decide⟩ ⟨by decide, by decide⟩ ?_
      exact (cx_of (k := 0) (if_neg (fun z => by first | exact absurd c_1 (Int32.not_lt.mpr z.1) | exact c_12 z.2)) rfl rfl)
theorem hdVX6_ruleOf : yX6_ruleOf.cls = RX6 ∧ yX6_ruleOf.cls ≠ "java/lang/invoke/MethodHandle" ∧ yX6_ruleOf.cls ≠ "java/lang/invoke/VarHandle" ∧ (parseMethodDescriptor yX6_ruleOf.desc).map (fun d => d.parameters.length) = some 2 := by decide +kernel
abbrev rmX6_count : Room := ({ frames := 6, cells := 1, slots := 6, locals := 90 })
set_option maxHeartbeats 4000000 in
set_option maxRecDepth 100000 in
theorem kX6_count (l : Launch) (hl : l.stackTraces = false) (D : va_G) (cA : Nat → ClassId) (X : cq_X) (Bs : Nat) (b B : Nat) (S : as_T) (u : Int32) (M : cq_M) (hb : cq_isClock X b) (h : ck M b S) (hk : as_ok S B) : cq_T l yX6_count wsX6_count rmX6_count D cA X Bs [.ref b, .int u] M (cq_PI (fun r M1 => cw (op_count S u) r M M1 b ∧ M1 = M)) (fun E M1 => cx (op_count S u) S [xA] E M M1) 1 6 := by
  refine cq_met9 (cc := cX6_count) (maxL := 2) (ret := (some .int)) (by decide) rfl (Nat.le_of_ble_eq_true rfl) [(0, .ref b), (1, .int u)] rfl rfl ?_
  intro p9 e9 s9 m9 b9 t9 c9 F hr hex
  have inX0 : ∀ w ∈ wsX00, w ∈ wsX6_count := (fun w h => List.mem_cons_of_mem _ (List.mem_append_left _ (List.mem_append_left _ (List.mem_append_left _ (List.mem_append_right _ h)))))
  have inX2 : ∀ w ∈ wsX20, w ∈ wsX6_count := (fun w h => List.mem_cons_of_mem _ (List.mem_append_left _ (List.mem_append_left _ (List.mem_append_right _ h))))
  have inX5 : ∀ w ∈ wsX50, w ∈ wsX6_count := (fun w h => List.mem_cons_of_mem _ (List.mem_append_left _ (List.mem_append_left _ (List.mem_append_left _ (List.mem_append_left _ (List.mem_append_right _ h))))))
  have inX6 : ∀ w ∈ wsX60, w ∈ wsX6_count := (fun w h => List.mem_cons_of_mem _ (List.mem_append_left _ (List.mem_append_left _ (List.mem_append_left _ (List.mem_append_left _ (List.mem_append_left _ (List.mem_append_right _ h)))))))
  obtain ⟨-, ⟨od, hod, h3, h4, hv⟩, -, -, -⟩ := id h
  refine cq_iload_n F (i := 1) dX6_count_0 rfl rfl ?_
  by_cases sw_1_0 : u = nI 0
  · subst sw_1_0
    refine cq_tableIn F (off := 63) (tgt := 64) dX6_count_1 (by decide) (by decide) (by decide) (by decide) ?_
    refine cq_aload_n F (i := 0) dX6_count_64 rfl rfl ?_
    refine cq_getT (t := (b + 1)) F (C := RX6) (T := TX6) (N := 9) (ci := 7) hb.kind rfl ⟨⟨by decide, by decide⟩, rfl⟩ inX6 0 (by decide) rfl rfl hb.t0 (F.1.2.2.2.2 _ (List.mem_of_getElem? (l := wsX6_count) (i := 3) (a := .fieldLink RX6 10 "CordClock" "now" "LCordClock$State;") (by decide +kernel))) dX6_count_65 ?_
    refine cq_getIN F (C := RX5) (T := TX5) (N := 11) (ci := 6) hb.now.kind rfl ⟨⟨by decide, by decide⟩, rfl⟩ inX5 5 (by decide) rfl rfl (cq_nfw F.2.2.2.2 (List.mem_of_getElem? (l := cq_nf) (i := 5) rfl)) dX6_count_68 ?_
    rw [show M (b + 1) 5 = nI ((S_g S) 0) from (show M (b + 1) 5 = nI ((S_g S) 0) from h.1.1.2.2.1)]
    refine cq_ret9 ?_
    exact cq_iret F hr (by decide) (by decide) dX6_count_71 ⟨_, rfl, ⟨(cw_q (by exact if_pos ⟨by decide, by decide⟩) (rfl) h), rfl⟩⟩
  by_cases sw_1_1 : u = nI 1
  · subst sw_1_1
    refine cq_tableIn F (off := 71) (tgt := 72) dX6_count_1 (by decide) (by decide) (by decide) (by decide) ?_
    refine cq_aload_n F (i := 0) dX6_count_72 rfl rfl ?_
    refine cq_getT (t := (b + 1)) F (C := RX6) (T := TX6) (N := 9) (ci := 7) hb.kind rfl ⟨⟨by decide, by decide⟩, rfl⟩ inX6 0 (by decide) rfl rfl hb.t0 (F.1.2.2.2.2 _ (List.mem_of_getElem? (l := wsX6_count) (i := 3) (a := .fieldLink RX6 10 "CordClock" "now" "LCordClock$State;") (by decide +kernel))) dX6_count_73 ?_
    refine cq_getIN F (C := RX5) (T := TX5) (N := 11) (ci := 6) hb.now.kind rfl ⟨⟨by decide, by decide⟩, rfl⟩ inX5 1 (by decide) rfl rfl (cq_nfw F.2.2.2.2 (List.mem_of_getElem? (l := cq_nf) (i := 0) rfl)) dX6_count_76 ?_
    rw [show M (b + 1) 1 = nI ((S_g S) 6) from (show M (b + 1) 1 = nI ((S_g S) 6) from h.1.1.1)]
    refine cq_ret9 ?_
    exact cq_iret F hr (by decide) (by decide) dX6_count_79 ⟨_, rfl, ⟨(cw_q (by exact if_pos ⟨by decide, by decide⟩) (rfl) h), rfl⟩⟩
  by_cases sw_1_2 : u = nI 2
  · subst sw_1_2
    refine cq_tableIn F (off := 79) (tgt := 80) dX6_count_1 (by decide) (by decide) (by decide) (by decide) ?_
    refine cq_aload_n F (i := 0) dX6_count_80 rfl rfl ?_
    refine cq_getT (t := (b + 1)) F (C := RX6) (T := TX6) (N := 9) (ci := 7) hb.kind rfl ⟨⟨by decide, by decide⟩, rfl⟩ inX6 0 (by decide) rfl rfl hb.t0 (F.1.2.2.2.2 _ (List.mem_of_getElem? (l := wsX6_count) (i := 3) (a := .fieldLink RX6 10 "CordClock" "now" "LCordClock$State;") (by decide +kernel))) dX6_count_81 ?_
    refine cq_getIN F (C := RX5) (T := TX5) (N := 11) (ci := 6) hb.now.kind rfl ⟨⟨by decide, by decide⟩, rfl⟩ inX5 3 (by decide) rfl rfl (cq_nfw F.2.2.2.2 (List.mem_of_getElem? (l := cq_nf) (i := 3) rfl)) dX6_count_84 ?_
    rw [show M (b + 1) 3 = nI ((S_g S) 51) from (show M (b + 1) 3 = nI ((S_g S) 51) from h.1.1.2.1)]
    refine cq_ret9 ?_
    exact cq_iret F hr (by decide) (by decide) dX6_count_87 ⟨_, rfl, ⟨(cw_q (by exact if_pos ⟨by decide, by decide⟩) (rfl) h), rfl⟩⟩
  by_cases sw_1_3 : u = nI 3
  · subst sw_1_3
    refine cq_tableIn F (off := 87) (tgt := 88) dX6_count_1 (by decide) (by decide) (by decide) (by decide) ?_
    refine cq_aload_n F (i := 0) dX6_count_88 rfl rfl ?_
    refine cq_getT (t := (b + 1)) F (C := RX6) (T := TX6) (N := 9) (ci := 7) hb.kind rfl ⟨⟨by decide, by decide⟩, rfl⟩ inX6 0 (by decide) rfl rfl hb.t0 (F.1.2.2.2.2 _ (List.mem_of_getElem? (l := wsX6_count) (i := 3) (a := .fieldLink RX6 10 "CordClock" "now" "LCordClock$State;") (by decide +kernel))) dX6_count_89 ?_
    refine cq_callV F (C := RX5) (ci := 6) (kX5_flameCount l D cA X Bs (b + 1) B (S_g S) M hb.now h.1 hk.1) (cwV 0 F.1.2.2.2.2 gX6_count_X5_flameCount rfl rfl rfl hdVX5_flameCount ⟨Nat.le_of_ble_eq_true rfl, Nat.le_of_ble_eq_true rfl⟩) hb.now.kind ⟨by decide, by decide⟩ rfl rfl rfl (Nat.le_of_ble_eq_true rfl) dX6_count_92 ⟨Nat.le_of_ble_eq_true rfl, Nat.le_of_ble_eq_true rfl⟩ (cq_kIp fun r_92 h_92 => ?_)
    subst h_92
    refine cq_ret9 ?_
    exact cq_iret F hr (by decide) (by decide) dX6_count_95 ⟨_, rfl, ⟨(cw_q (by exact if_pos ⟨by decide, by decide⟩) (rfl) h), rfl⟩⟩
  by_cases sw_1_4 : u = nI 4
  · subst sw_1_4
    refine cq_tableIn F (off := 95) (tgt := 96) dX6_count_1 (by decide) (by decide) (by decide) (by decide) ?_
    refine cq_aload_n F (i := 0) dX6_count_96 rfl rfl ?_
    refine cq_getT (t := (b + 1)) F (C := RX6) (T := TX6) (N := 9) (ci := 7) hb.kind rfl ⟨⟨by decide, by decide⟩, rfl⟩ inX6 0 (by decide) rfl rfl hb.t0 (F.1.2.2.2.2 _ (List.mem_of_getElem? (l := wsX6_count) (i := 3) (a := .fieldLink RX6 10 "CordClock" "now" "LCordClock$State;") (by decide +kernel))) dX6_count_97 ?_
    refine cq_callV F (C := RX5) (ci := 6) (kX5_cordsOut l D cA X Bs (b + 1) B (S_g S) M hb.now h.1 hk.1) (cwV 0 F.1.2.2.2.2 gX6_count_X5_cordsOut rfl rfl rfl hdVX5_cordsOut ⟨Nat.le_of_ble_eq_true rfl, Nat.le_of_ble_eq_true rfl⟩) hb.now.kind ⟨by decide, by decide⟩ rfl rfl rfl (Nat.le_of_ble_eq_true rfl) dX6_count_100 ⟨Nat.le_of_ble_eq_true rfl, Nat.le_of_ble_eq_true rfl⟩ (cq_kIp fun r_100 h_100 => ?_)
    subst h_100
    refine cq_ret9 ?_
    exact cq_iret F hr (by decide) (by decide) dX6_count_103 ⟨_, rfl, ⟨(cw_q (by exact if_pos ⟨by decide, by decide⟩) (rfl) h), rfl⟩⟩
  by_cases sw_1_5 : u = nI 5
  · subst sw_1_5
    refine cq_tableIn F (off := 103) (tgt := 104) dX6_count_1 (by decide) (by decide) (by decide) (by decide) ?_
    refine cq_aload_n F (i := 0) dX6_count_104 rfl rfl ?_
    refine cq_getT (t := (b + 1)) F (C := RX6) (T := TX6) (N := 9) (ci := 7) hb.kind rfl ⟨⟨by decide, by decide⟩, rfl⟩ inX6 0 (by decide) rfl rfl hb.t0 (F.1.2.2.2.2 _ (List.mem_of_getElem? (l := wsX6_count) (i := 3) (a := .fieldLink RX6 10 "CordClock" "now" "LCordClock$State;") (by decide +kernel))) dX6_count_105 ?_
    refine cq_getIN F (C := RX5) (T := TX5) (N := 11) (ci := 6) hb.now.kind rfl ⟨⟨by decide, by decide⟩, rfl⟩ inX5 6 (by decide) rfl rfl (cq_nfw F.2.2.2.2 (List.mem_of_getElem? (l := cq_nf) (i := 18) rfl)) dX6_count_108 ?_
    rw [show M (b + 1) 6 = nI ((S_g S) 1) from (show M (b + 1) 6 = nI ((S_g S) 1) from h.1.1.2.2.2.1)]
    refine cq_ret9 ?_
    exact cq_iret F hr (by decide) (by decide) dX6_count_111 ⟨_, rfl, ⟨(cw_q (by exact if_pos ⟨by decide, by decide⟩) (rfl) h), rfl⟩⟩
  by_cases sw_1_6 : u = nI 6
  · subst sw_1_6
    refine cq_tableIn F (off := 111) (tgt := 112) dX6_count_1 (by decide) (by decide) (by decide) (by decide) ?_
    refine cq_aload_n F (i := 0) dX6_count_112 rfl rfl ?_
    refine cq_getT (t := (b + 1)) F (C := RX6) (T := TX6) (N := 9) (ci := 7) hb.kind rfl ⟨⟨by decide, by decide⟩, rfl⟩ inX6 0 (by decide) rfl rfl hb.t0 (F.1.2.2.2.2 _ (List.mem_of_getElem? (l := wsX6_count) (i := 3) (a := .fieldLink RX6 10 "CordClock" "now" "LCordClock$State;") (by decide +kernel))) dX6_count_113 ?_
    refine cq_getIN F (C := RX5) (T := TX5) (N := 11) (ci := 6) hb.now.kind rfl ⟨⟨by decide, by decide⟩, rfl⟩ inX5 7 (by decide) rfl rfl (cq_nfw F.2.2.2.2 (List.mem_of_getElem? (l := cq_nf) (i := 19) rfl)) dX6_count_116 ?_
    rw [show M (b + 1) 7 = nI ((S_g S) 2) from (show M (b + 1) 7 = nI ((S_g S) 2) from h.1.1.2.2.2.2.1)]
    refine cq_ret9 ?_
    exact cq_iret F hr (by decide) (by decide) dX6_count_119 ⟨_, rfl, ⟨(cw_q (by exact if_pos ⟨by decide, by decide⟩) (rfl) h), rfl⟩⟩
  by_cases sw_1_7 : u = nI 7
  · subst sw_1_7
    refine cq_tableIn F (off := 119) (tgt := 120) dX6_count_1 (by decide) (by decide) (by decide) (by decide) ?_
    refine cq_aload_n F (i := 0) dX6_count_120 rfl rfl ?_
    refine cq_getT (t := (b + 1)) F (C := RX6) (T := TX6) (N := 9) (ci := 7) hb.kind rfl ⟨⟨by decide, by decide⟩, rfl⟩ inX6 0 (by decide) rfl rfl hb.t0 (F.1.2.2.2.2 _ (List.mem_of_getElem? (l := wsX6_count) (i := 3) (a := .fieldLink RX6 10 "CordClock" "now" "LCordClock$State;") (by decide +kernel))) dX6_count_121 ?_
    refine cq_getIN F (C := RX5) (T := TX5) (N := 11) (ci := 6) hb.now.kind rfl ⟨⟨by decide, by decide⟩, rfl⟩ inX5 8 (by decide) rfl rfl (cq_nfw F.2.2.2.2 (List.mem_of_getElem? (l := cq_nf) (i := 20) rfl)) dX6_count_124 ?_
    rw [show M (b + 1) 8 = nI ((S_g S) 3) from (show M (b + 1) 8 = nI ((S_g S) 3) from h.1.1.2.2.2.2.2.1)]
    refine cq_ret9 ?_
    exact cq_iret F hr (by decide) (by decide) dX6_count_127 ⟨_, rfl, ⟨(cw_q (by exact if_pos ⟨by decide, by decide⟩) (rfl) h), rfl⟩⟩
  by_cases sw_1_8 : u = nI 8
  · subst sw_1_8
    refine cq_tableIn F (off := 127) (tgt := 128) dX6_count_1 (by decide) (by decide) (by decide) (by decide) ?_
    refine cq_aload_n F (i := 0) dX6_count_128 rfl rfl ?_
    refine cq_getT (t := (b + 1)) F (C := RX6) (T := TX6) (N := 9) (ci := 7) hb.kind rfl ⟨⟨by decide, by decide⟩, rfl⟩ inX6 0 (by decide) rfl rfl hb.t0 (F.1.2.2.2.2 _ (List.mem_of_getElem? (l := wsX6_count) (i := 3) (a := .fieldLink RX6 10 "CordClock" "now" "LCordClock$State;") (by decide +kernel))) dX6_count_129 ?_
    refine cq_getIN F (C := RX5) (T := TX5) (N := 11) (ci := 6) hb.now.kind rfl ⟨⟨by decide, by decide⟩, rfl⟩ inX5 10 (by decide) rfl rfl (cq_nfw F.2.2.2.2 (List.mem_of_getElem? (l := cq_nf) (i := 21) rfl)) dX6_count_132 ?_
    rw [show M (b + 1) 10 = nI ((S_g S) 5) from (show M (b + 1) 10 = nI ((S_g S) 5) from h.1.1.2.2.2.2.2.2.2)]
    refine cq_ret9 ?_
    exact cq_iret F hr (by decide) (by decide) dX6_count_135 ⟨_, rfl, ⟨(cw_q (by exact if_pos ⟨by decide, by decide⟩) (rfl) h), rfl⟩⟩
  by_cases sw_1_9 : u = nI 9
  · subst sw_1_9
    refine cq_tableIn F (off := 135) (tgt := 136) dX6_count_1 (by decide) (by decide) (by decide) (by decide) ?_
    refine cq_aload_n F (i := 0) dX6_count_136 rfl rfl ?_
    refine cq_getT (t := (b + 1)) F (C := RX6) (T := TX6) (N := 9) (ci := 7) hb.kind rfl ⟨⟨by decide, by decide⟩, rfl⟩ inX6 0 (by decide) rfl rfl hb.t0 (F.1.2.2.2.2 _ (List.mem_of_getElem? (l := wsX6_count) (i := 3) (a := .fieldLink RX6 10 "CordClock" "now" "LCordClock$State;") (by decide +kernel))) dX6_count_137 ?_
    refine cq_getTN (t := ((b + 1) + 3)) F (C := RX5) (T := TX5) (N := 11) (ci := 6) hb.now.kind rfl ⟨⟨by decide, by decide⟩, rfl⟩ inX5 4 (by decide) rfl rfl hb.now.t4 (cq_nfw F.2.2.2.2 (List.mem_of_getElem? (l := cq_nf) (i := 22) rfl)) dX6_count_140 ?_
    refine cq_getIN F (C := RX0) (T := TX0) (N := 5) (ci := 1) hb.now.book.kind rfl ⟨⟨by decide, by decide⟩, rfl⟩ inX0 4 (by decide) rfl rfl (cq_nfw F.2.2.2.2 (List.mem_of_getElem? (l := cq_nf) (i := 23) rfl)) dX6_count_143 ?_
    rw [show M ((b + 1) + 3) 4 = nI (S_g S 84) from (show M ((b + 1) + 3) 4 = nI (S_g S 84) from h.1.2.2.2.1.1)]
    refine cq_ret9 ?_
    exact cq_iret F hr (by decide) (by decide) dX6_count_146 ⟨_, rfl, ⟨(cw_q (by exact if_pos ⟨by decide, by decide⟩) (rfl) h), rfl⟩⟩
  by_cases sw_1_10 : u = nI 10
  · subst sw_1_10
    refine cq_tableIn F (off := 146) (tgt := 147) dX6_count_1 (by decide) (by decide) (by decide) (by decide) ?_
    refine cq_aload_n F (i := 0) dX6_count_147 rfl rfl ?_
    refine cq_getI F (C := RX6) (T := TX6) (N := 9) (ci := 7) hb.kind rfl ⟨⟨by decide, by decide⟩, rfl⟩ inX6 4 (by decide) rfl rfl (F.1.2.2.2.2 _ (List.mem_of_getElem? (l := wsX6_count) (i := 4) (a := .fieldLink RX6 178 "CordClock" "savedStates" "I") (by decide +kernel))) dX6_count_148 ?_
    rw [show M b 4 = nI (S_n S) from (show M b 4 = nI (S_n S) from h4)]
    refine cq_ret9 ?_
    exact cq_iret F hr (by decide) (by decide) dX6_count_151 ⟨_, rfl, ⟨(cw_q (by exact if_pos ⟨by decide, by decide⟩) (rfl) h), rfl⟩⟩
  by_cases sw_1_11 : u = nI 11
  · subst sw_1_11
    refine cq_tableIn F (off := 151) (tgt := 152) dX6_count_1 (by decide) (by decide) (by decide) (by decide) ?_
    refine cq_aload_n F (i := 0) dX6_count_152 rfl rfl ?_
    refine cq_getT (t := (b + 50)) F (C := RX6) (T := TX6) (N := 9) (ci := 7) hb.kind rfl ⟨⟨by decide, by decide⟩, rfl⟩ inX6 7 (by decide) rfl rfl hb.t7 (F.1.2.2.2.2 _ (List.mem_of_getElem? (l := wsX6_count) (i := 5) (a := .fieldLink RX6 33 "CordClock" "text" "LCordClock$OrderText;") (by decide +kernel))) dX6_count_153 ?_
    refine cq_getIN F (C := RX2) (T := TX2) (N := 10) (ci := 3) hb.text.kind rfl ⟨⟨by decide, by decide⟩, rfl⟩ inX2 1 (by decide) rfl rfl (cq_nfw F.2.2.2.2 (List.mem_of_getElem? (l := cq_nf) (i := 4) rfl)) dX6_count_156 ?_
    rw [show M (b + 50) 1 = nI (S_l S) from (show M (b + 50) 1 = nI (S_l S) from h.2.2.2.2.1)]
    refine cq_ret9 ?_
    exact cq_iret F hr (by decide) (by decide) dX6_count_159 ⟨_, rfl, ⟨(cw_q (by exact if_pos ⟨by decide, by decide⟩) (rfl) h), rfl⟩⟩
  have sw_1 : u.toInt < 0 ∨ 11 < u.toInt := by
    have z_0 := sw_ne 0 (by decide) sw_1_0
    have z_1 := sw_ne 1 (by decide) sw_1_1
    have z_2 := sw_ne 2 (by decide) sw_1_2
    have z_3 := sw_ne 3 (by decide) sw_1_3
    have z_4 := sw_ne 4 (by decide) sw_1_4
    have z_5 := sw_ne 5 (by decide) sw_1_5
    have z_6 := sw_ne 6 (by decide) sw_1_6
    have z_7 := sw_ne 7 (by decide) sw_1_7
    have z_8 := sw_ne 8 (by decide) sw_1_8
    have z_9 := sw_ne 9 (by decide) sw_1_9
    have z_10 := sw_ne 10 (by decide) sw_1_10
    have z_11 := sw_ne 11 (by decide) sw_1_11
    omega
  refine cq_tableOut F (tgt := 160) dX6_count_1 sw_1 (by decide) ?_
  refine cq_throwW F hl hex (by decide +kernel) (F.1.2.2.2.2 _ (List.mem_of_getElem? (l := wsX6_count) (i := 1) (a := .classLink RX6 48 "java/lang/IllegalArgumentException") (by decide +kernel))) (F.1.2.2.2.2 _ (List.mem_of_getElem? (l := wsX6_count) (i := 2) (a := .initialized "java/lang/IllegalArgumentException") (by decide +kernel))) (List.mem_of_getElem? (l := cq_sr) (i := 12) rfl) (fun w h => F.1.2.2.2.2 w ((fun w h => List.mem_cons_of_mem _ (List.mem_append_right _ h)) w h)) xn_48_52 xg_48_52 dX6_count_160 dX6_count_163 dX6_count_164 dX6_count_167 dX6_count_170 ⟨by decide, Nat.le_of_ble_eq_true rfl, by decide, by decide⟩ ⟨by decide, by decide⟩ ?_
  exact (cx_of (k := 0) (if_neg (sw_ge (n := 11) (by decide) sw_1)) rfl rfl)
theorem hdVX6_count : yX6_count.cls = RX6 ∧ yX6_count.cls ≠ "java/lang/invoke/MethodHandle" ∧ yX6_count.cls ≠ "java/lang/invoke/VarHandle" ∧ (parseMethodDescriptor yX6_count.desc).map (fun d => d.parameters.length) = some 1 := by decide +kernel
