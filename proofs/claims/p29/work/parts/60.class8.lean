/-! the class: what would be -/
abbrev rmX6_stepsByCounting : Room := ({ frames := 0, cells := 0, slots := 0, locals := 0 })
set_option maxHeartbeats 4000000 in
set_option maxRecDepth 100000 in
theorem kX6_stepsByCounting (l : Launch) (D : va_G) (cA : Nat → ClassId) (X : cq_X) (Bs : Nat) (L f : Nat) (M : cq_M) (hL : L ≤ 360) (hf : f = 1 ∨ f = 2) : cq_C l yX6_stepsByCounting wsX6_stepsByCounting rmX6_stepsByCounting D cA X Bs [.int (nI L), .int (nI f)] M (cq_PI (fun r M1 => r = nI (ns_last L f) ∧ M1 = M)) 0 0 := by
  refine cq_met (cc := cX6_stepsByCounting) (maxL := 4) (ret := (some .int)) (by decide) rfl (Nat.le_of_ble_eq_true rfl) [(0, .int (nI L)), (1, .int (nI f))] rfl rfl ?_
  intro p9 e9 s9 m9 b9 t9 c9 F hr
  have loop_4 : ∀ (n_4 : Nat) (k : Nat) (x : Int32), x.toInt = (L : Int) - (k * f : Nat) → k * f < L + f → k ≤ k * f → (L + 3) - k < n_4 → cq_V p9 l e9 rmX6_stepsByCounting s9 m9 ([.int (nI L), .int (nI f)] : List Value).toArray b9 t9 c9 D cA X Bs 4 0 0 (MQ b9 (cq_Q D cA X Bs (cq_PI (fun r M1 => r = nI (ns_last L f) ∧ M1 = M))) ([.int (nI L), .int (nI f)] : List Value).toArray s9 0 0 (cq_A Bs)) 4 [(0, .int (nI L)), (1, .int (nI f)), (2, .int (nI k)), (3, .int x)] [] M := by
    intro n_4
    induction n_4 with
    | zero =>
      intros
      omega
    | succ n_4 ih_4 =>
      intro k x hx hkf hkk hn
      have hn9 : k < 2000 := by omega
      refine cq_iload_n F (i := 3) dX6_stepsByCounting_4 rfl rfl ?_
      refine cq_if_le F (tgt := 25) dX6_stepsByCounting_5 (by decide) (fun c_5 => ?_) (fun c_5 => ?_)
      · refine cq_iload_n F (i := 2) dX6_stepsByCounting_25 rfl rfl ?_
        exact cq_iret F hr (by decide) (by decide) dX6_stepsByCounting_26 ⟨_, rfl, ⟨by have z1 := i32_npos.mp c_5; rw [ns_last_eq hf (show L ≤ k * f by omega) (by omega)], rfl⟩⟩
      · refine cq_iload_n F (i := 2) dX6_stepsByCounting_8 rfl rfl ?_
        refine cq_sipush F (v := 2000) dX6_stepsByCounting_9 (by decide) ?_
        refine cq_icmp_ge F (tgt := 25) dX6_stepsByCounting_12 (by decide) (fun c_12 => ?_) (fun c_12 => ?_)
        · have c_12 : 2000 ≤ k := (nI_b (a := 2000) (b := k) (by omega) (by omega)).1.mp c_12
          exact absurd hn9 (by omega)
        · have c_12 : ¬ 2000 ≤ k := fun z => c_12 ((nI_b (a := 2000) (b := k) (by omega) (by omega)).1.mpr z)
          refine cq_iload_n F (i := 3) dX6_stepsByCounting_15 rfl rfl ?_
          refine cq_iload_n F (i := 1) dX6_stepsByCounting_16 rfl rfl ?_
          refine cq_isub F dX6_stepsByCounting_17 ?_
          refine cq_nmi (fun x_18 e_18 => ?_)
          refine cq_istore_n F (i := 3) dX6_stepsByCounting_18 rfl (by decide) ?_
          refine cq_iinc F dX6_stepsByCounting_19 rfl (by decide) (fun x_19 e_19 => ?_)
          obtain rfl : x_19 = nI (k + 1) := by rw [e_19]; exact nI_1 _
          refine cq_goto F (tgt := 4) dX6_stepsByCounting_22 (by decide) ?_
          refine cq_loc (L2 := [(0, .int (nI L)), (1, .int (nI f)), (2, .int (nI (k + 1))), (3, .int x_18)]) rfl ?_
          exact ih_4 (k + 1) x_18 (by
            have z1 := i32_pos.mp (Int32.not_le.mp c_5)
            have z2 : (nI f).toInt = f := nI_toInt (by omega)
            rw [e_18, i32_sub (by omega) (by omega), z2, hx, Nat.add_mul, Nat.one_mul]
            omega) (by
            have z1 := i32_pos.mp (Int32.not_le.mp c_5)
            rw [Nat.add_mul, Nat.one_mul]
            omega) (by rw [Nat.add_mul, Nat.one_mul]; omega) (by
            have z1 := i32_pos.mp (Int32.not_le.mp c_5)
            omega)
  refine cq_iconst F (v := 0) dX6_stepsByCounting_0 rfl ?_
  refine cq_istore_n F (i := 2) dX6_stepsByCounting_1 rfl (by decide) ?_
  refine cq_iload_n F (i := 0) dX6_stepsByCounting_2 rfl rfl ?_
  refine cq_istore_n F (i := 3) dX6_stepsByCounting_3 rfl (by decide) ?_
  refine cq_loc (L2 := [(0, .int (nI L)), (1, .int (nI f)), (2, .int (nI 0)), (3, .int (nI L))]) rfl ?_
  exact loop_4 (L + 4) 0 (nI L) (by rw [nI_toInt (by omega), Nat.zero_mul]; omega) (by omega) (by omega) (by omega)
theorem hdVX6_stepsByCounting : yX6_stepsByCounting.cls = RX6 ∧ yX6_stepsByCounting.cls ≠ "java/lang/invoke/MethodHandle" ∧ yX6_stepsByCounting.cls ≠ "java/lang/invoke/VarHandle" ∧ (parseMethodDescriptor yX6_stepsByCounting.desc).map (fun d => d.parameters.length) = some 2 := by decide +kernel
abbrev rmX6_stepsByDividing : Room := ({ frames := 0, cells := 0, slots := 0, locals := 0 })
set_option maxHeartbeats 4000000 in
set_option maxRecDepth 100000 in
theorem kX6_stepsByDividing (l : Launch) (D : va_G) (cA : Nat → ClassId) (X : cq_X) (Bs : Nat) (L f : Nat) (M : cq_M) (hL : L < 100000) (hf : 1 ≤ f ∧ f ≤ 2) : cq_C l yX6_stepsByDividing wsX6_stepsByDividing rmX6_stepsByDividing D cA X Bs [.int (nI L), .int (nI f)] M (cq_PI (fun r M1 => r = nI (ns_last L f) ∧ M1 = M)) 0 0 := by
  refine cq_met (cc := cX6_stepsByDividing) (maxL := 2) (ret := (some .int)) (by decide) rfl (Nat.le_of_ble_eq_true rfl) [(0, .int (nI L)), (1, .int (nI f))] rfl rfl ?_
  intro p9 e9 s9 m9 b9 t9 c9 F hr
  refine cq_iload_n F (i := 1) dX6_stepsByDividing_0 rfl rfl ?_
  refine cq_if_le F (tgt := 14) dX6_stepsByDividing_1 (by decide) (fun c_1 => ?_) (fun c_1 => ?_)
  · have c_1 : f ≤ 0 := (nI_b (a := f) (b := 0) (by omega) (by omega)).1.mp c_1
    omega
  · have c_1 : ¬ f ≤ 0 := fun z => c_1 ((nI_b (a := f) (b := 0) (by omega) (by omega)).1.mpr z)
    refine cq_iload_n F (i := 0) dX6_stepsByDividing_4 rfl rfl ?_
    refine cq_iload_n F (i := 1) dX6_stepsByDividing_5 rfl rfl ?_
    refine cq_iadd F dX6_stepsByDividing_6 ?_
    rw [show (nI L + nI f : Int32) = nI (L + f) from nI_add _ _]
    refine cq_iconst F (v := 1) dX6_stepsByDividing_7 rfl ?_
    refine cq_isub F dX6_stepsByDividing_8 ?_
    rw [show (nI (L + f) - 1 : Int32) = nI ((L + f) - 1) from pk_sub (a := (L + f)) (b := 1) (by omega)]
    refine cq_iload_n F (i := 1) dX6_stepsByDividing_9 rfl rfl ?_
    refine cq_idiv F dX6_stepsByDividing_10 (fun z => absurd ((nI_eq (a := f) (b := 0) (by omega) (by omega)).mp z) (by omega)) ?_
    rw [show (nI (L + f - 1) / nI f : Int32) = nI ((L + f - 1) / f) from pk_div (by omega) (by omega) (by omega)]
    refine cq_goto F (tgt := 15) dX6_stepsByDividing_11 (by decide) ?_
    exact cq_iret F hr (by decide) (by decide) dX6_stepsByDividing_15 ⟨_, rfl, ⟨rfl, rfl⟩⟩
theorem hdVX6_stepsByDividing : yX6_stepsByDividing.cls = RX6 ∧ yX6_stepsByDividing.cls ≠ "java/lang/invoke/MethodHandle" ∧ yX6_stepsByDividing.cls ≠ "java/lang/invoke/VarHandle" ∧ (parseMethodDescriptor yX6_stepsByDividing.desc).map (fun d => d.parameters.length) = some 2 := by decide +kernel
abbrev rmX6_lasts : Room := ({ frames := 7, cells := 2, slots := 12, locals := 111 })
set_option maxHeartbeats 4000000 in
set_option maxRecDepth 100000 in
theorem kX6_lasts (l : Launch) (hl : l.stackTraces = false) (D : va_G) (cA : Nat → ClassId) (X : cq_X) (Bs : Nat) (b B : Nat) (S : as_T) (u y w : Int32) (M : cq_M) (hb : cq_isClock X b) (h : ck M b S) (hk : as_ok S B) : cq_T l yX6_lasts wsX6_lasts rmX6_lasts D cA X Bs [.ref b, .int u, .int y, .int w] M (cq_PI (fun r M1 => cw (op_lasts S u y w) r M M1 b ∧ M1 = M)) (fun E M1 => cx (op_lasts S u y w) S [xI, xA] E M M1) 2 12 := by
  refine cq_met9 (cc := cX6_lasts) (maxL := 5) (ret := (some .int)) (by decide) rfl (Nat.le_of_ble_eq_true rfl) [(0, .ref b), (1, .int u), (2, .int y), (3, .int w)] rfl rfl ?_
  intro p9 e9 s9 m9 b9 t9 c9 F hr hex
  have inX5 : ∀ w ∈ wsX50, w ∈ wsX6_lasts := (fun w h => List.mem_cons_of_mem _ (List.mem_append_left _ (List.mem_append_left _ (List.mem_append_left _ (List.mem_append_right _ h)))))
  have inX6 : ∀ w ∈ wsX60, w ∈ wsX6_lasts := (fun w h => List.mem_cons_of_mem _ (List.mem_append_left _ (List.mem_append_left _ (List.mem_append_left _ (List.mem_append_left _ (List.mem_append_right _ h))))))
  refine cq_aload_n F (i := 0) dX6_lasts_0 rfl rfl ?_
  refine cq_iload_n F (i := 1) dX6_lasts_1 rfl rfl ?_
  refine cq_xcallV F hex (C := RX6) (ci := 7) (kX6_requireCord l hl D cA X Bs b B S u M hb h hk) (cwV 1 F.1.2.2.2.2 gX6_lasts_X6_requireCord rfl rfl rfl hdVX6_requireCord ⟨Nat.le_of_ble_eq_true rfl, Nat.le_of_ble_eq_true rfl⟩) hb.kind ⟨by decide, by decide⟩ rfl rfl rfl (Nat.le_of_ble_eq_true rfl) dX6_lasts_2 ⟨Nat.le_of_ble_eq_true rfl, Nat.le_of_ble_eq_true rfl⟩ (⟨by decide, by decide⟩) (fun E M1 h => cx_of (k := 0) (if_neg h.2.2) (by rw [h.1]; rfl) h.2.1) (cq_kVq fun h_2 => ?_)
  have h_2b := h_2
  obtain ⟨c, hc, rfl⟩ := nI_cd (n := S_g S 6) (by have := hk.1.1; omega) h_2
  have ec : (nI c).toNatClampNeg = c := nI_clamp (by have := hk.1.1; omega)
  have hk6 := hk.1.1
  have hq := hk.1.2.2.2.1 c hc
  have hcr := h.1.2.1 c hc
  have hlt : ns_left (S_g S) c ≤ 360 := by have := hq.time; unfold ns_left; omega
  refine cq_iload_n F (i := 2) dX6_lasts_5 rfl rfl ?_
  refine cq_iconst F (v := 1) dX6_lasts_6 rfl ?_
  refine cq_icmp_lt F (tgt := 24) dX6_lasts_7 (by decide) (fun c_7 => ?_) (fun c_7 => ?_)
  · refine cq_throwW F hl hex (by decide +kernel) (F.1.2.2.2.2 _ (List.mem_of_getElem? (l := wsX6_lasts) (i := 1) (a := .classLink RX6 48 "java/lang/IllegalArgumentException") (by decide +kernel))) (F.1.2.2.2.2 _ (List.mem_of_getElem? (l := wsX6_lasts) (i := 2) (a := .initialized "java/lang/IllegalArgumentException") (by decide +kernel))) (List.mem_of_getElem? (l := cq_sr) (i := 14) rfl) (fun w h => F.1.2.2.2.2 w ((fun w h => List.mem_cons_of_mem _ (List.mem_append_left _ (List.mem_append_right _ h))) w h)) xn_48_52 xg_48_52 dX6_lasts_24 dX6_lasts_27 dX6_lasts_28 dX6_lasts_31 dX6_lasts_34 ⟨by decide, Nat.le_of_ble_eq_true rfl, by decide, by decide⟩ ⟨by decide, by decide⟩ ?_
    exact (cx_of (k := 1) (by unfold op_lasts; rw [if_pos h_2b, if_neg (fun z => by first | exact absurd c_7 (Int32.not_lt.mpr z.1.1) | exact absurd c_12 (Int32.not_lt.mpr z.1.2) | exact absurd c_16 (Int32.not_lt.mpr z.2.1) | exact c_21 z.2.2)]) rfl rfl)
  · refine cq_iload_n F (i := 2) dX6_lasts_10 rfl rfl ?_
    refine cq_iconst F (v := 2) dX6_lasts_11 rfl ?_
    refine cq_icmp_gt F (tgt := 24) dX6_lasts_12 (by decide) (fun c_12 => ?_) (fun c_12 => ?_)
    · refine cq_throwW F hl hex (by decide +kernel) (F.1.2.2.2.2 _ (List.mem_of_getElem? (l := wsX6_lasts) (i := 1) (a := .classLink RX6 48 "java/lang/IllegalArgumentException") (by decide +kernel))) (F.1.2.2.2.2 _ (List.mem_of_getElem? (l := wsX6_lasts) (i := 2) (a := .initialized "java/lang/IllegalArgumentException") (by decide +kernel))) (List.mem_of_getElem? (l := cq_sr) (i := 14) rfl) (fun w h => F.1.2.2.2.2 w ((fun w h => List.mem_cons_of_mem _ (List.mem_append_left _ (List.mem_append_right _ h))) w h)) xn_48_52 xg_48_52 dX6_lasts_24 dX6_lasts_27 dX6_lasts_28 dX6_lasts_31 dX6_lasts_34 ⟨by decide, Nat.le_of_ble_eq_true rfl, by decide, by decide⟩ ⟨by decide, by decide⟩ ?_
      exact (cx_of (k := 1) (by unfold op_lasts; rw [if_pos h_2b, if_neg (fun z => by first | exact absurd c_7 (Int32.not_lt.mpr z.1.1) | exact absurd c_12 (Int32.not_lt.mpr z.1.2) | exact absurd c_16 (Int32.not_lt.mpr z.2.1) | exact c_21 z.2.2)]) rfl rfl)
    · have c_12b : 1 ≤ y ∧ y ≤ 2 := ⟨Int32.not_lt.mp c_7, Int32.not_lt.mp c_12⟩
      obtain ⟨f, hf1, hf2, rfl⟩ := nI_ab (a := 1) (b := 2) (by omega) (by omega) c_12b
      have ef : (nI f).toNatClampNeg = f := nI_clamp (by omega)
      refine cq_iload_n F (i := 3) dX6_lasts_15 rfl rfl ?_
      refine cq_if_lt F (tgt := 24) dX6_lasts_16 (by decide) (fun c_16 => ?_) (fun c_16 => ?_)
      · refine cq_throwW F hl hex (by decide +kernel) (F.1.2.2.2.2 _ (List.mem_of_getElem? (l := wsX6_lasts) (i := 1) (a := .classLink RX6 48 "java/lang/IllegalArgumentException") (by decide +kernel))) (F.1.2.2.2.2 _ (List.mem_of_getElem? (l := wsX6_lasts) (i := 2) (a := .initialized "java/lang/IllegalArgumentException") (by decide +kernel))) (List.mem_of_getElem? (l := cq_sr) (i := 14) rfl) (fun w h => F.1.2.2.2.2 w ((fun w h => List.mem_cons_of_mem _ (List.mem_append_left _ (List.mem_append_right _ h))) w h)) xn_48_52 xg_48_52 dX6_lasts_24 dX6_lasts_27 dX6_lasts_28 dX6_lasts_31 dX6_lasts_34 ⟨by decide, Nat.le_of_ble_eq_true rfl, by decide, by decide⟩ ⟨by decide, by decide⟩ ?_
        exact (cx_of (k := 1) (by unfold op_lasts; rw [if_pos h_2b, if_neg (fun z => by first | exact absurd c_7 (Int32.not_lt.mpr z.1.1) | exact absurd c_12 (Int32.not_lt.mpr z.1.2) | exact absurd c_16 (Int32.not_lt.mpr z.2.1) | exact c_21 z.2.2)]) rfl rfl)
      · refine cq_iload_n F (i := 3) dX6_lasts_19 rfl rfl ?_
        refine cq_iconst F (v := 1) dX6_lasts_20 rfl ?_
        refine cq_icmp_le F (tgt := 35) dX6_lasts_21 (by decide) (fun c_21 => ?_) (fun c_21 => ?_)
        · have c_21b : 0 ≤ w ∧ w ≤ 1 := ⟨Int32.not_lt.mp c_16, c_21⟩
          obtain ⟨v, -, hv2, rfl⟩ := nI_ab (a := 0) (b := 1) (by omega) (by omega) c_21b
          refine cq_aload_n F (i := 0) dX6_lasts_35 rfl rfl ?_
          refine cq_getT (t := (b + 1)) F (C := RX6) (T := TX6) (N := 9) (ci := 7) hb.kind rfl ⟨⟨by decide, by decide⟩, rfl⟩ inX6 0 (by decide) rfl rfl hb.t0 (F.1.2.2.2.2 _ (List.mem_of_getElem? (l := wsX6_lasts) (i := 3) (a := .fieldLink RX6 10 "CordClock" "now" "LCordClock$State;") (by decide +kernel))) dX6_lasts_36 ?_
          refine cq_getTN (t := ((b + 1) + 1)) F (C := RX5) (T := TX5) (N := 11) (ci := 6) hb.now.kind rfl ⟨⟨by decide, by decide⟩, rfl⟩ inX5 0 (by decide) rfl rfl hb.now.t0 (cq_nfw F.2.2.2.2 (List.mem_of_getElem? (l := cq_nf) (i := 1) rfl)) dX6_lasts_39 ?_
          refine cq_iload_n F (i := 1) dX6_lasts_42 rfl rfl ?_
          have hj_43 : c < 4 := (by omega)
          refine cq_aaldC_j F (j := c) (t := ((b + 1) + 7 + 2 * c)) hb.now.k1 hb.now.n1 rfl ⟨hj_43, by decide⟩ (hb.now.ct _ hj_43) dX6_lasts_43 ?_
          refine cq_callV F (C := RX1) (ci := 2) (nX1_timeLeft (l := l) (D := D) (cA := cA) (Bs := Bs) (hb.now.cord _ (by omega)) hcr hq) (cwV 0 F.1.2.2.2.2 gX6_lasts_X1_timeLeft rfl rfl rfl hdVX1_timeLeft ⟨Nat.le_of_ble_eq_true rfl, Nat.le_of_ble_eq_true rfl⟩) (hb.now.cord _ hj_43).kind ⟨by decide, by decide⟩ rfl rfl rfl (Nat.le_of_ble_eq_true rfl) dX6_lasts_44 ⟨Nat.le_of_ble_eq_true rfl, Nat.le_of_ble_eq_true rfl⟩ (cq_kIp fun r_44 h_44 => ?_)
          subst h_44
          refine cq_istore F dX6_lasts_47 (by decide) ?_
          refine cq_iload_n F (i := 3) dX6_lasts_49 rfl rfl ?_
          refine cq_if_ne F (tgt := 62) dX6_lasts_50 (by decide) (fun c_50 => ?_) (fun c_50 => ?_)
          · have c_50 : ¬ v = 0 := fun z => c_50 ((nI_b (a := v) (b := 0) (by omega) (by omega)).2.2.mpr z)
            refine cq_iload F dX6_lasts_62 rfl ?_
            refine cq_iload_n F (i := 2) dX6_lasts_64 rfl rfl ?_
            refine cq_callS F (kX6_stepsByDividing l D cA X Bs (ns_left (S_g S) c) f M (by omega) ⟨hf1, hf2⟩) (va_cwS 2 F.1.2.2.2.2 gX6_lasts_X6_stepsByDividing rfl rfl rfl hdVX6_stepsByDividing.2 ⟨Nat.le_of_ble_eq_true rfl, Nat.le_of_ble_eq_true rfl⟩) rfl (Nat.le_of_ble_eq_true rfl) dX6_lasts_65 ⟨Nat.le_of_ble_eq_true rfl, Nat.le_of_ble_eq_true rfl⟩ (cq_kIp fun r_65 h_65 => ?_)
            refine cq_ret9 ?_
            exact cq_iret F hr (by decide) (by decide) dX6_lasts_68 ⟨_, rfl, ⟨(cw_q (by unfold op_lasts; rw [if_pos h_2b, if_pos ⟨c_12b, c_21b⟩, ec, ef]) (by first | exact h_56 | exact h_65) h), rfl⟩⟩
          · have c_50 : v = 0 := (nI_b (a := v) (b := 0) (by omega) (by omega)).2.2.mp c_50
            refine cq_iload F dX6_lasts_53 rfl ?_
            refine cq_iload_n F (i := 2) dX6_lasts_55 rfl rfl ?_
            refine cq_callS F (kX6_stepsByCounting l D cA X Bs (ns_left (S_g S) c) f M hlt (by omega)) (va_cwS 2 F.1.2.2.2.2 gX6_lasts_X6_stepsByCounting rfl rfl rfl hdVX6_stepsByCounting.2 ⟨Nat.le_of_ble_eq_true rfl, Nat.le_of_ble_eq_true rfl⟩) rfl (Nat.le_of_ble_eq_true rfl) dX6_lasts_56 ⟨Nat.le_of_ble_eq_true rfl, Nat.le_of_ble_eq_true rfl⟩ (cq_kIp fun r_56 h_56 => ?_)
            refine cq_goto F (tgt := 68) dX6_lasts_59 (by decide) ?_
            refine cq_ret9 ?_
            exact cq_iret F hr (by decide) (by decide) dX6_lasts_68 ⟨_, rfl, ⟨(cw_q (by unfold op_lasts; rw [if_pos h_2b, if_pos ⟨c_12b, c_21b⟩, ec, ef]) (by first | exact h_56 | exact h_65) h), rfl⟩⟩
        · refine cq_throwW F hl hex (by decide +kernel) (F.1.2.2.2.2 _ (List.mem_of_getElem? (l := wsX6_lasts) (i := 1) (a := .classLink RX6 48 "java/lang/IllegalArgumentException") (by decide +kernel))) (F.1.2.2.2.2 _ (List.mem_of_getElem? (l := wsX6_lasts) (i := 2) (a := .initialized "java/lang/IllegalArgumentException") (by decide +kernel))) (List.mem_of_getElem? (l := cq_sr) (i := 14) rfl) (fun w h => F.1.2.2.2.2 w ((fun w h => List.mem_cons_of_mem _ (List.mem_append_left _ (List.mem_append_right _ h))) w h)) xn_48_52 xg_48_52 dX6_lasts_24 dX6_lasts_27 dX6_lasts_28 dX6_lasts_31 dX6_lasts_34 ⟨by decide, Nat.le_of_ble_eq_true rfl, by decide, by decide⟩ ⟨by decide, by decide⟩ ?_
          exact (cx_of (k := 1) (by unfold op_lasts; rw [if_pos h_2b, if_neg (fun z => by first | exact absurd c_7 (Int32.not_lt.mpr z.1.1) | exact absurd c_12 (Int32.not_lt.mpr z.1.2) | exact absurd c_16 (Int32.not_lt.mpr z.2.1) | exact c_21 z.2.2)]) rfl rfl)
theorem hdVX6_lasts : yX6_lasts.cls = RX6 ∧ yX6_lasts.cls ≠ "java/lang/invoke/MethodHandle" ∧ yX6_lasts.cls ≠ "java/lang/invoke/VarHandle" ∧ (parseMethodDescriptor yX6_lasts.desc).map (fun d => d.parameters.length) = some 3 := by decide +kernel
abbrev rmX6_outIn : Room := ({ frames := 7, cells := 1, slots := 6, locals := 111 })
set_option maxHeartbeats 4000000 in
set_option maxRecDepth 100000 in
theorem kX6_outIn (l : Launch) (hl : l.stackTraces = false) (D : va_G) (cA : Nat → ClassId) (X : cq_X) (Bs : Nat) (b B : Nat) (S : as_T) (u : Int32) (M : cq_M) (hb : cq_isClock X b) (h : ck M b S) (hk : as_ok S B) (hB : B < 1999990000) : cq_T l yX6_outIn wsX6_outIn rmX6_outIn D cA X Bs [.ref b, .int u] M (cq_PI (fun r M1 => cw (op_outIn S u) r M M1 b)) (fun E M1 => cx (op_outIn S u) S [xI] E M M1) 1 6 := by
  refine cq_met9 (cc := cX6_outIn) (maxL := 3) (ret := (some .int)) (by decide) rfl (Nat.le_of_ble_eq_true rfl) [(0, .ref b), (1, .int u)] rfl rfl ?_
  intro p9 e9 s9 m9 b9 t9 c9 F hr hex
  have inX5 : ∀ w ∈ wsX50, w ∈ wsX6_outIn := (fun w h => List.mem_cons_of_mem _ (List.mem_append_left _ (List.mem_append_left _ (List.mem_append_left _ (List.mem_append_left _ (List.mem_append_right _ h))))))
  have inX6 : ∀ w ∈ wsX60, w ∈ wsX6_outIn := (fun w h => List.mem_cons_of_mem _ (List.mem_append_left _ (List.mem_append_left _ (List.mem_append_left _ (List.mem_append_left _ (List.mem_append_left _ (List.mem_append_right _ h)))))))
  have hk6 := hk.1.1
  have loop_18 : ∀ (n_18 : Nat) (c k : Nat) (M2 : cq_M), u = nI c → c < S_g S 6 → k ≤ 2001 → (k ≤ 2000 → ns_oi (S_g S) c 0 2000 = ns_oi (S_g S) c k (2000 - k)) → (k = 2001 → ns_outIn (S_g S) c = -1) → cr_st M2 (b + 24) (ns_steps (S_g S) k) → cr_fr M M2 (b + 24) 23 → 2002 - k < n_18 → cq_V p9 l e9 rmX6_outIn s9 m9 ([.ref b, .int u] : List Value).toArray b9 t9 c9 D cA X Bs 3 1 6 (vx_MQ b9 (cq_Q D cA X Bs (cq_PI (fun r M1 => cw (op_outIn S u) r M M1 b))) (cq_XC D cA X Bs (fun E M1 => cx (op_outIn S u) S [xI] E M M1)) ([.ref b, .int u] : List Value).toArray s9 1 6 (cq_A Bs)) 18 [(0, .ref b), (1, .int (nI c)), (2, .int (nI k))] [] M2 := by
    intro n_18
    induction n_18 with
    | zero =>
      intros
      omega
    | succ n_18 ih_18 =>
      intro c k M2 equ hcc hk9 hoi9 hoi8 hs2 hf2 hn
      obtain ⟨hks, e6, -, -⟩ := ns_steps_ok hk.1 k
      have hqs := hks.2.2.2.1 c (by omega)
      have hlt : ns_left (ns_steps (S_g S) k) c ≤ 360 := by have := hqs.time; unfold ns_left; omega
      have hfl9 : ns_flames (ns_steps (S_g S) k) (S_g S 6) ≤ 2 * S_g S 6 := ns_flames_le (fun c2 hc2 => (hks.2.2.2.1 c2 (by omega)).2.2.2.1)
      refine cq_iload_n F (i := 2) dX6_outIn_18 rfl rfl ?_
      refine cq_sipush F (v := 2000) dX6_outIn_19 (by decide) ?_
      refine cq_icmp_gt F (tgt := 68) dX6_outIn_22 (by decide) (fun c_22 => ?_) (fun c_22 => ?_)
      · have c_22 : 2000 < k := (nI_b (a := 2000) (b := k) (by omega) (by omega)).2.1.mp c_22
        refine cq_iconst F (v := (-1)) dX6_outIn_68 rfl ?_
        refine cq_ret9 ?_
        refine cq_iret F hr (by decide) (by decide) dX6_outIn_69 ⟨_, rfl, ?_⟩
        subst equ
        exact cw_of (by unfold op_outIn; rw [if_pos (nI_cd2 (by omega) hcc), nI_clamp (by omega), show ns_outIn (S_g S) c = -1 from hoi8 (by omega)]) (ck.fr h hk (fun x k1 k2 k3 k4 k5 => hf2 x (by omega)) (by rw [hf2 _ (by omega)]) hs2.2.2.2.2) (fun x hx => hf2 x (by omega))
      · have c_22 : ¬ 2000 < k := fun z => c_22 ((nI_b (a := 2000) (b := k) (by omega) (by omega)).2.1.mpr z)
        refine cq_aload_n F (i := 0) dX6_outIn_25 rfl rfl ?_
        refine cq_getT (t := (b + 24)) F (C := RX6) (T := TX6) (N := 9) (ci := 7) hb.kind rfl ⟨⟨by decide, by decide⟩, rfl⟩ inX6 1 (by decide) rfl rfl hb.t1 (F.1.2.2.2.2 _ (List.mem_of_getElem? (l := wsX6_outIn) (i := 1) (a := .fieldLink RX6 16 "CordClock" "foreseen" "LCordClock$State;") (by decide +kernel))) dX6_outIn_26 ?_
        refine cq_getTN (t := ((b + 24) + 1)) F (C := RX5) (T := TX5) (N := 11) (ci := 6) hb.fore.kind rfl ⟨⟨by decide, by decide⟩, rfl⟩ inX5 0 (by decide) rfl rfl hb.fore.t0 (cq_nfw F.2.2.2.2 (List.mem_of_getElem? (l := cq_nf) (i := 1) rfl)) dX6_outIn_29 ?_
        refine cq_iload_n F (i := 1) dX6_outIn_32 rfl rfl ?_
        have hj_33 : c < 4 := (by omega)
        refine cq_aaldC_j F (j := c) (t := ((b + 24) + 7 + 2 * c)) hb.fore.k1 hb.fore.n1 rfl ⟨hj_33, by decide⟩ (hb.fore.ct _ hj_33) dX6_outIn_33 ?_
        refine cq_callV F (C := RX1) (ci := 2) (nX1_isOut (l := l) (D := D) (cA := cA) (Bs := Bs) (hb.fore.cord _ (by omega)) (hs2.2.1 c (by omega)) hqs) (cwV 0 F.1.2.2.2.2 gX6_outIn_X1_isOut rfl rfl rfl hdVX1_isOut ⟨Nat.le_of_ble_eq_true rfl, Nat.le_of_ble_eq_true rfl⟩) (hb.fore.cord _ hj_33).kind ⟨by decide, by decide⟩ rfl rfl rfl (Nat.le_of_ble_eq_true rfl) dX6_outIn_34 ⟨Nat.le_of_ble_eq_true rfl, Nat.le_of_ble_eq_true rfl⟩ (cq_kIp fun r_34 h_34 => ?_)
        refine cq_if_eq F (tgt := 42) dX6_outIn_37 (by decide) (fun c_37 => ?_) (fun c_37 => ?_)
        · have c_37 := cq_b0 h_34 c_37
          refine cq_aload_n F (i := 0) dX6_outIn_42 rfl rfl ?_
          refine cq_getT (t := (b + 24)) F (C := RX6) (T := TX6) (N := 9) (ci := 7) hb.kind rfl ⟨⟨by decide, by decide⟩, rfl⟩ inX6 1 (by decide) rfl rfl hb.t1 (F.1.2.2.2.2 _ (List.mem_of_getElem? (l := wsX6_outIn) (i := 1) (a := .fieldLink RX6 16 "CordClock" "foreseen" "LCordClock$State;") (by decide +kernel))) dX6_outIn_43 ?_
          refine cq_callV F (C := RX5) (ci := 6) (kX5_flameCount l D cA X Bs (b + 24) (B + k) (ns_steps (S_g S) k) M2 hb.fore hs2 hks) (cwV 0 F.1.2.2.2.2 gX6_outIn_X5_flameCount rfl rfl rfl hdVX5_flameCount ⟨Nat.le_of_ble_eq_true rfl, Nat.le_of_ble_eq_true rfl⟩) hb.fore.kind ⟨by decide, by decide⟩ rfl rfl rfl (Nat.le_of_ble_eq_true rfl) dX6_outIn_46 ⟨Nat.le_of_ble_eq_true rfl, Nat.le_of_ble_eq_true rfl⟩ (cq_kIp fun r_46 h_46 => ?_)
          rw [e6] at h_46
          subst h_46
          refine cq_if_ne F (tgt := 54) dX6_outIn_49 (by decide) (fun c_49 => ?_) (fun c_49 => ?_)
          · have c_49 : ¬ (ns_flames (ns_steps (S_g S) k) (S_g S 6)) = 0 := fun z => c_49 ((nI_b (a := (ns_flames (ns_steps (S_g S) k) (S_g S 6))) (b := 0) (by omega) (by omega)).2.2.mpr z)
            refine cq_aload_n F (i := 0) dX6_outIn_54 rfl rfl ?_
            refine cq_getT (t := (b + 24)) F (C := RX6) (T := TX6) (N := 9) (ci := 7) hb.kind rfl ⟨⟨by decide, by decide⟩, rfl⟩ inX6 1 (by decide) rfl rfl hb.t1 (F.1.2.2.2.2 _ (List.mem_of_getElem? (l := wsX6_outIn) (i := 1) (a := .fieldLink RX6 16 "CordClock" "foreseen" "LCordClock$State;") (by decide +kernel))) dX6_outIn_55 ?_
            refine cq_callV F (C := RX5) (ci := 6) (kX5_passStep l D cA X Bs (b + 24) (B + k) (ns_steps (S_g S) k) M2 hb.fore hs2 hks (by omega)) (cwV 0 F.1.2.2.2.2 gX6_outIn_X5_passStep rfl rfl rfl hdVX5_passStep ⟨Nat.le_of_ble_eq_true rfl, Nat.le_of_ble_eq_true rfl⟩) hb.fore.kind ⟨by decide, by decide⟩ rfl rfl rfl (Nat.le_of_ble_eq_true rfl) dX6_outIn_58 ⟨Nat.le_of_ble_eq_true rfl, Nat.le_of_ble_eq_true rfl⟩ (cq_kI fun r_58 M_58 h_58 => ?_)
            refine cq_pop F dX6_outIn_61 rfl ?_
            refine cq_iinc F dX6_outIn_62 rfl (by decide) (fun x_62 e_62 => ?_)
            obtain rfl : x_62 = nI (k + 1) := by rw [e_62]; exact nI_1 _
            refine cq_goto F (tgt := 18) dX6_outIn_65 (by decide) ?_
            refine cq_loc (L2 := [(0, .ref b), (1, .int (nI c)), (2, .int (nI (k + 1)))]) rfl ?_
            exact ih_18 c (k + 1) M_58 equ hcc (by omega) (fun z => by rw [hoi9 (by omega), ns_oi_go (by omega) (by omega) (by omega)]) (fun z => by
            unfold ns_outIn
            rw [hoi9 (by omega), ns_oi_end (by omega) (Or.inl (by omega)), if_neg (by omega)]) h_58.2.1 (hf2.trans h_58.2.2) (by omega)
          · have c_49 : (ns_flames (ns_steps (S_g S) k) (S_g S 6)) = 0 := (nI_b (a := (ns_flames (ns_steps (S_g S) k) (S_g S 6))) (b := 0) (by omega) (by omega)).2.2.mp c_49
            refine cq_iconst F (v := (-1)) dX6_outIn_52 rfl ?_
            refine cq_ret9 ?_
            refine cq_iret F hr (by decide) (by decide) dX6_outIn_53 ⟨_, rfl, ?_⟩
            subst equ
            exact cw_of (by unfold op_outIn; rw [if_pos (nI_cd2 (by omega) hcc), nI_clamp (by omega), show ns_outIn (S_g S) c = -1 from by unfold ns_outIn; rw [(hoi9 (by omega)), ns_oi_end (by omega) (Or.inr (by omega)), if_neg (by omega)]]) (ck.fr h hk (fun x k1 k2 k3 k4 k5 => hf2 x (by omega)) (by rw [hf2 _ (by omega)]) hs2.2.2.2.2) (fun x hx => hf2 x (by omega))
        · have c_37 := cq_b1 h_34 c_37
          refine cq_iload_n F (i := 2) dX6_outIn_40 rfl rfl ?_
          refine cq_ret9 ?_
          refine cq_iret F hr (by decide) (by decide) dX6_outIn_41 ⟨_, rfl, ?_⟩
          subst equ
          exact cw_of (by unfold op_outIn; rw [if_pos (nI_cd2 (by omega) hcc), nI_clamp (by omega), show ns_outIn (S_g S) c = nI k from by unfold ns_outIn; rw [(hoi9 (by omega)), ns_oi_end (by omega) (Or.inr (by omega)), if_pos (by omega)]]) (ck.fr h hk (fun x k1 k2 k3 k4 k5 => hf2 x (by omega)) (by rw [hf2 _ (by omega)]) hs2.2.2.2.2) (fun x hx => hf2 x (by omega))
  refine cq_aload_n F (i := 0) dX6_outIn_0 rfl rfl ?_
  refine cq_iload_n F (i := 1) dX6_outIn_1 rfl rfl ?_
  refine cq_xcallV F hex (C := RX6) (ci := 7) (kX6_requireCord l hl D cA X Bs b B S u M hb h hk) (cwV 1 F.1.2.2.2.2 gX6_outIn_X6_requireCord rfl rfl rfl hdVX6_requireCord ⟨Nat.le_of_ble_eq_true rfl, Nat.le_of_ble_eq_true rfl⟩) hb.kind ⟨by decide, by decide⟩ rfl rfl rfl (Nat.le_of_ble_eq_true rfl) dX6_outIn_2 ⟨Nat.le_of_ble_eq_true rfl, Nat.le_of_ble_eq_true rfl⟩ (⟨by decide, by decide⟩) (fun E M1 h => cx_of (k := 0) (if_neg h.2.2) (by rw [h.1]; rfl) h.2.1) (cq_kVq fun h_2 => ?_)
  have h_2b := h_2
  obtain ⟨c, hc, rfl⟩ := nI_cd (n := S_g S 6) (by have := hk.1.1; omega) h_2
  have ec : (nI c).toNatClampNeg = c := nI_clamp (by have := hk.1.1; omega)
  refine cq_aload_n F (i := 0) dX6_outIn_5 rfl rfl ?_
  refine cq_getT (t := (b + 24)) F (C := RX6) (T := TX6) (N := 9) (ci := 7) hb.kind rfl ⟨⟨by decide, by decide⟩, rfl⟩ inX6 1 (by decide) rfl rfl hb.t1 (F.1.2.2.2.2 _ (List.mem_of_getElem? (l := wsX6_outIn) (i := 1) (a := .fieldLink RX6 16 "CordClock" "foreseen" "LCordClock$State;") (by decide +kernel))) dX6_outIn_6 ?_
  refine cq_aload_n F (i := 0) dX6_outIn_9 rfl rfl ?_
  refine cq_getT (t := (b + 1)) F (C := RX6) (T := TX6) (N := 9) (ci := 7) hb.kind rfl ⟨⟨by decide, by decide⟩, rfl⟩ inX6 0 (by decide) rfl rfl hb.t0 (F.1.2.2.2.2 _ (List.mem_of_getElem? (l := wsX6_outIn) (i := 2) (a := .fieldLink RX6 10 "CordClock" "now" "LCordClock$State;") (by decide +kernel))) dX6_outIn_10 ?_
  refine cq_callV F (C := RX5) (ci := 6) (kX5_copyFrom l D cA X Bs (b + 24) (b + 1) M hb.fore hb.now h.1.2.2.2.2 (by omega)) (cwV 1 F.1.2.2.2.2 gX6_outIn_X5_copyFrom rfl rfl rfl hdVX5_copyFrom ⟨Nat.le_of_ble_eq_true rfl, Nat.le_of_ble_eq_true rfl⟩) hb.fore.kind ⟨by decide, by decide⟩ rfl rfl rfl (Nat.le_of_ble_eq_true rfl) dX6_outIn_13 ⟨Nat.le_of_ble_eq_true rfl, Nat.le_of_ble_eq_true rfl⟩ (cq_kV fun M_13 h_13 => ?_)
  refine cq_iconst F (v := 0) dX6_outIn_16 rfl ?_
  refine cq_istore_n F (i := 2) dX6_outIn_17 rfl (by decide) ?_
  refine cq_loc (L2 := [(0, .ref b), (1, .int (nI c)), (2, .int (nI 0))]) rfl ?_
  exact loop_18 2003 c 0 M_13 rfl hc (by omega) (fun _ => rfl) (fun z => absurd z (by omega)) (cr_copy h.1 hk.1 h_13.1 h_13.2.1 h_13.2.2.1 h_13.2.2.2.1) h_13.2.2.2.2 (by omega)
theorem hdVX6_outIn : yX6_outIn.cls = RX6 ∧ yX6_outIn.cls ≠ "java/lang/invoke/MethodHandle" ∧ yX6_outIn.cls ≠ "java/lang/invoke/VarHandle" ∧ (parseMethodDescriptor yX6_outIn.desc).map (fun d => d.parameters.length) = some 1 := by decide +kernel
