/-! CordClockModel: what writes the row -/
abbrev rmX7_write : Room := ({ frames := 0, cells := 0, slots := 0, locals := 0 })
set_option maxHeartbeats 4000000 in
set_option maxRecDepth 100000 in
theorem kX7_write (l : Launch) (D : va_G) (cA : Nat → ClassId) (X : cq_X) (Bs : Nat) (o kd c : Nat) (g : Nat → Nat) (M : cq_M) (ho : cq_isModel X o) (hg : cq_nv M (o + 1) 109 g) (h84 : g 84 ≤ 8) : cq_C l yX7_write wsX7_write rmX7_write D cA X Bs [.ref o, .int (nI kd), .int (nI c)] M (cq_PV (fun M1 => cq_nv M1 (o + 1) 109 (ns_write g kd c) ∧ cq_only M M1 (o + 1))) 0 0 := by
  refine cq_met (cc := cX7_write) (maxL := 4) (ret := none) (by decide) rfl (Nat.le_of_ble_eq_true rfl) [(0, .ref o), (1, .int (nI kd)), (2, .int (nI c))] rfl rfl ?_
  intro p9 e9 s9 m9 b9 t9 c9 F hr
  have inX7 : ∀ w ∈ wsX70, w ∈ wsX7_write := (fun w h => List.mem_cons_of_mem _ (List.mem_append_right _ h))
  have loop_3 : ∀ (n_3 : Nat) (k : Nat) (M2 : cq_M) (g2 : Nat → Nat), 2 ≤ k → k ≤ 23 → cq_nv M2 (o + 1) 109 g2 → cq_only M M2 (o + 1) → (∀ j, g2 j = if 85 + k < j ∧ j < 109 then g (j - 3) else g j) → k < n_3 → cq_V p9 l e9 rmX7_write s9 m9 ([.ref o, .int (nI kd), .int (nI c)] : List Value).toArray b9 t9 c9 D cA X Bs 4 0 0 (MQ b9 (cq_Q D cA X Bs (cq_PV (fun M1 => cq_nv M1 (o + 1) 109 (ns_write g kd c) ∧ cq_only M M1 (o + 1)))) ([.ref o, .int (nI kd), .int (nI c)] : List Value).toArray s9 0 0 (cq_A Bs)) 3 [(0, .ref o), (1, .int (nI kd)), (2, .int (nI c)), (3, .int (nI k))] [] M2 := by
    intro n_3
    induction n_3 with
    | zero =>
      intros
      omega
    | succ n_3 ih_3 =>
      intro k M2 g2 hk2 hk9 hg2 ho2 he2 hn
      refine cq_iload_n F (i := 3) dX7_write_3 rfl rfl ?_
      refine cq_iconst F (v := 2) dX7_write_4 rfl ?_
      refine cq_icmp_le F (tgt := 34) dX7_write_5 (by decide) (fun c_5 => ?_) (fun c_5 => ?_)
      · have c_5 : k ≤ 2 := (nI_b (a := k) (b := 2) (by omega) (by omega)).1.mp c_5
        refine cq_aload_n F (i := 0) dX7_write_34 rfl rfl ?_
        refine cq_getT (t := (o + 1)) F (C := RX7) (T := TX7) (N := 22) (ci := 8) ho.kind rfl ⟨⟨by decide, by decide⟩, rfl⟩ inX7 0 (by decide) rfl rfl ho.t0 (F.1.2.2.2.2 _ (List.mem_of_getElem? (l := wsX7_write) (i := 1) (a := .fieldLink RX7 7 "CordClockModel" "row" "[I") (by decide +kernel))) dX7_write_35 ?_
        refine cq_bipush F (v := 85) dX7_write_38 (by decide) ?_
        refine cq_iload_n F (i := 1) dX7_write_40 rfl rfl ?_
        refine cq_iast_j F (j := 85) ho.k1 ho.n1 rfl ⟨(by omega), by decide⟩ dX7_write_41 (fun M_41 h_41 => ?_)
        obtain ⟨g_41, eg_41⟩ : ∃ z, z = ns_up g2 (85) (kd) := ⟨_, rfl⟩
        have v_41_o1 : cq_nv M_41 (o + 1) 109 g_41 := by rw [eg_41]; exact hg2.up h_41
        refine cq_aload_n F (i := 0) dX7_write_42 rfl rfl ?_
        refine cq_getT (t := (o + 1)) F (C := RX7) (T := TX7) (N := 22) (ci := 8) ho.kind rfl ⟨⟨by decide, by decide⟩, rfl⟩ inX7 0 (by decide) rfl rfl ho.t0 (F.1.2.2.2.2 _ (List.mem_of_getElem? (l := wsX7_write) (i := 1) (a := .fieldLink RX7 7 "CordClockModel" "row" "[I") (by decide +kernel))) dX7_write_43 ?_
        refine cq_bipush F (v := 86) dX7_write_46 (by decide) ?_
        refine cq_aload_n F (i := 0) dX7_write_48 rfl rfl ?_
        refine cq_getT (t := (o + 1)) F (C := RX7) (T := TX7) (N := 22) (ci := 8) ho.kind rfl ⟨⟨by decide, by decide⟩, rfl⟩ inX7 0 (by decide) rfl rfl ho.t0 (F.1.2.2.2.2 _ (List.mem_of_getElem? (l := wsX7_write) (i := 1) (a := .fieldLink RX7 7 "CordClockModel" "row" "[I") (by decide +kernel))) dX7_write_49 ?_
        refine cq_iconst F (v := 0) dX7_write_52 rfl ?_
        refine cq_iald_j F (j := 0) ho.k1 ho.n1 rfl ⟨(by omega), by decide⟩ dX7_write_53 ?_
        rw [v_41_o1 _ (by omega)]
        refine cq_iast_j F (j := 86) ho.k1 ho.n1 rfl ⟨(by omega), by decide⟩ dX7_write_54 (fun M_54 h_54 => ?_)
        obtain ⟨g_54, eg_54⟩ : ∃ z, z = ns_up g_41 (86) ((g_41 (0))) := ⟨_, rfl⟩
        have v_54_o1 : cq_nv M_54 (o + 1) 109 g_54 := by rw [eg_54]; exact v_41_o1.up h_54
        refine cq_aload_n F (i := 0) dX7_write_55 rfl rfl ?_
        refine cq_getT (t := (o + 1)) F (C := RX7) (T := TX7) (N := 22) (ci := 8) ho.kind rfl ⟨⟨by decide, by decide⟩, rfl⟩ inX7 0 (by decide) rfl rfl ho.t0 (F.1.2.2.2.2 _ (List.mem_of_getElem? (l := wsX7_write) (i := 1) (a := .fieldLink RX7 7 "CordClockModel" "row" "[I") (by decide +kernel))) dX7_write_56 ?_
        refine cq_bipush F (v := 87) dX7_write_59 (by decide) ?_
        refine cq_iload_n F (i := 2) dX7_write_61 rfl rfl ?_
        refine cq_iast_j F (j := 87) ho.k1 ho.n1 rfl ⟨(by omega), by decide⟩ dX7_write_62 (fun M_62 h_62 => ?_)
        obtain ⟨g_62, eg_62⟩ : ∃ z, z = ns_up g_54 (87) (c) := ⟨_, rfl⟩
        have v_62_o1 : cq_nv M_62 (o + 1) 109 g_62 := by rw [eg_62]; exact v_54_o1.up h_62
        refine cq_aload_n F (i := 0) dX7_write_63 rfl rfl ?_
        refine cq_getT (t := (o + 1)) F (C := RX7) (T := TX7) (N := 22) (ci := 8) ho.kind rfl ⟨⟨by decide, by decide⟩, rfl⟩ inX7 0 (by decide) rfl rfl ho.t0 (F.1.2.2.2.2 _ (List.mem_of_getElem? (l := wsX7_write) (i := 1) (a := .fieldLink RX7 7 "CordClockModel" "row" "[I") (by decide +kernel))) dX7_write_64 ?_
        refine cq_bipush F (v := 84) dX7_write_67 (by decide) ?_
        refine cq_aload_n F (i := 0) dX7_write_69 rfl rfl ?_
        refine cq_getT (t := (o + 1)) F (C := RX7) (T := TX7) (N := 22) (ci := 8) ho.kind rfl ⟨⟨by decide, by decide⟩, rfl⟩ inX7 0 (by decide) rfl rfl ho.t0 (F.1.2.2.2.2 _ (List.mem_of_getElem? (l := wsX7_write) (i := 1) (a := .fieldLink RX7 7 "CordClockModel" "row" "[I") (by decide +kernel))) dX7_write_70 ?_
        refine cq_bipush F (v := 84) dX7_write_73 (by decide) ?_
        refine cq_iald_j F (j := 84) ho.k1 ho.n1 rfl ⟨(by omega), by decide⟩ dX7_write_75 ?_
        rw [v_62_o1 _ (by omega)]
        refine cq_bipush F (v := 8) dX7_write_76 (by decide) ?_
        have e84 : g_62 84 = g 84 := by subst_vars; simp [ns_up, he2]; try omega
        refine cq_icmp_ge F (tgt := 93) dX7_write_78 (by decide) (fun c_78 => ?_) (fun c_78 => ?_)
        · have c_78 : 8 ≤ (g_62 (84)) := (nI_b (a := 8) (b := (g_62 (84))) (by omega) (by omega)).1.mp c_78
          refine cq_bipush F (v := 8) dX7_write_93 (by decide) ?_
          refine cq_iast_j F (j := 84) ho.k1 ho.n1 rfl ⟨(by omega), by decide⟩ dX7_write_95 (fun M_95 h_95 => ?_)
          obtain ⟨g_95, eg_95⟩ : ∃ z, z = ns_up g_62 (84) (8) := ⟨_, rfl⟩
          have v_95_o1 : cq_nv M_95 (o + 1) 109 g_95 := by rw [eg_95]; exact v_62_o1.up h_95
          refine cq_vret F hr (by decide) (by decide) dX7_write_96 ⟨rfl, ?_⟩
          refine ⟨v_95_o1.ext (fun j hj => ?_), ((((ho2.up h_41).up h_54).up h_62).up h_95)⟩
          obtain rfl : k = 2 := by omega
          have e84 : g2 84 = g 84 := by rw [he2, if_neg (by omega)]
          have e0 : g2 0 = g 0 := by rw [he2, if_neg (by omega)]
          have h9 : j = 84 ∨ j = 85 ∨ j = 86 ∨ j = 87 ∨ j < 84 ∨ 87 < j := by omega
          rcases h9 with h | h | h | h | h | h
          · subst_vars; simp [ns_up, ns_write, he2]; simp [ns_up, he2] at *; try omega
          · subst_vars; simp [ns_up, ns_write, he2]
          · subst_vars; simp [ns_up, ns_write, he2]
          · subst_vars; simp [ns_up, ns_write, he2]
          · subst_vars; simp [ns_up, ns_write, he2, show j ≠ 84 by omega, show j ≠ 85 by omega, show j ≠ 86 by omega, show j ≠ 87 by omega, show ¬ 87 < j by omega]
          · subst_vars; simp [ns_up, ns_write, he2, show j ≠ 84 by omega, show j ≠ 85 by omega, show j ≠ 86 by omega, show j ≠ 87 by omega, h, hj]
        · have c_78 : ¬ 8 ≤ (g_62 (84)) := fun z => c_78 ((nI_b (a := 8) (b := (g_62 (84))) (by omega) (by omega)).1.mpr z)
          refine cq_aload_n F (i := 0) dX7_write_81 rfl rfl ?_
          refine cq_getT (t := (o + 1)) F (C := RX7) (T := TX7) (N := 22) (ci := 8) ho.kind rfl ⟨⟨by decide, by decide⟩, rfl⟩ inX7 0 (by decide) rfl rfl ho.t0 (F.1.2.2.2.2 _ (List.mem_of_getElem? (l := wsX7_write) (i := 1) (a := .fieldLink RX7 7 "CordClockModel" "row" "[I") (by decide +kernel))) dX7_write_82 ?_
          refine cq_bipush F (v := 84) dX7_write_85 (by decide) ?_
          refine cq_iald_j F (j := 84) ho.k1 ho.n1 rfl ⟨(by omega), by decide⟩ dX7_write_87 ?_
          rw [v_62_o1 _ (by omega)]
          refine cq_iconst F (v := 1) dX7_write_88 rfl ?_
          refine cq_iadd F dX7_write_89 ?_
          rw [show (nI (g_62 (84)) + 1 : Int32) = nI ((g_62 (84)) + 1) from nI_add _ _]
          refine cq_goto F (tgt := 95) dX7_write_90 (by decide) ?_
          refine cq_iast_j F (j := 84) ho.k1 ho.n1 rfl ⟨(by omega), by decide⟩ dX7_write_95 (fun M_95 h_95 => ?_)
          obtain ⟨g_95, eg_95⟩ : ∃ z, z = ns_up g_62 (84) (((g_62 (84)) + 1)) := ⟨_, rfl⟩
          have v_95_o1 : cq_nv M_95 (o + 1) 109 g_95 := by rw [eg_95]; exact v_62_o1.up h_95
          refine cq_vret F hr (by decide) (by decide) dX7_write_96 ⟨rfl, ?_⟩
          refine ⟨v_95_o1.ext (fun j hj => ?_), ((((ho2.up h_41).up h_54).up h_62).up h_95)⟩
          obtain rfl : k = 2 := by omega
          have e84 : g2 84 = g 84 := by rw [he2, if_neg (by omega)]
          have e0 : g2 0 = g 0 := by rw [he2, if_neg (by omega)]
          have h9 : j = 84 ∨ j = 85 ∨ j = 86 ∨ j = 87 ∨ j < 84 ∨ 87 < j := by omega
          rcases h9 with h | h | h | h | h | h
          · subst_vars; simp [ns_up, ns_write, he2]; simp [ns_up, he2] at *; try omega
          · subst_vars; simp [ns_up, ns_write, he2]
          · subst_vars; simp [ns_up, ns_write, he2]
          · subst_vars; simp [ns_up, ns_write, he2]
          · subst_vars; simp [ns_up, ns_write, he2, show j ≠ 84 by omega, show j ≠ 85 by omega, show j ≠ 86 by omega, show j ≠ 87 by omega, show ¬ 87 < j by omega]
          · subst_vars; simp [ns_up, ns_write, he2, show j ≠ 84 by omega, show j ≠ 85 by omega, show j ≠ 86 by omega, show j ≠ 87 by omega, h, hj]
      · have c_5 : ¬ k ≤ 2 := fun z => c_5 ((nI_b (a := k) (b := 2) (by omega) (by omega)).1.mpr z)
        refine cq_aload_n F (i := 0) dX7_write_8 rfl rfl ?_
        refine cq_getT (t := (o + 1)) F (C := RX7) (T := TX7) (N := 22) (ci := 8) ho.kind rfl ⟨⟨by decide, by decide⟩, rfl⟩ inX7 0 (by decide) rfl rfl ho.t0 (F.1.2.2.2.2 _ (List.mem_of_getElem? (l := wsX7_write) (i := 1) (a := .fieldLink RX7 7 "CordClockModel" "row" "[I") (by decide +kernel))) dX7_write_9 ?_
        refine cq_bipush F (v := 85) dX7_write_12 (by decide) ?_
        refine cq_iload_n F (i := 3) dX7_write_14 rfl rfl ?_
        refine cq_iadd F dX7_write_15 ?_
        rw [show (85 + nI k : Int32) = nI (85 + k) from nI_add _ _]
        refine cq_aload_n F (i := 0) dX7_write_16 rfl rfl ?_
        refine cq_getT (t := (o + 1)) F (C := RX7) (T := TX7) (N := 22) (ci := 8) ho.kind rfl ⟨⟨by decide, by decide⟩, rfl⟩ inX7 0 (by decide) rfl rfl ho.t0 (F.1.2.2.2.2 _ (List.mem_of_getElem? (l := wsX7_write) (i := 1) (a := .fieldLink RX7 7 "CordClockModel" "row" "[I") (by decide +kernel))) dX7_write_17 ?_
        refine cq_bipush F (v := 85) dX7_write_20 (by decide) ?_
        refine cq_iload_n F (i := 3) dX7_write_22 rfl rfl ?_
        refine cq_iadd F dX7_write_23 ?_
        rw [show (85 + nI k : Int32) = nI (85 + k) from nI_add _ _]
        refine cq_iconst F (v := 3) dX7_write_24 rfl ?_
        refine cq_isub F dX7_write_25 ?_
        rw [show (nI (85 + k) - 3 : Int32) = nI ((85 + k) - 3) from pk_sub (a := (85 + k)) (b := 3) (by omega)]
        refine cq_iald_j F (j := ((85 + k) - 3)) ho.k1 ho.n1 rfl ⟨(by omega), by decide⟩ dX7_write_26 ?_
        rw [hg2 _ (by omega)]
        refine cq_iast_j F (j := (85 + k)) ho.k1 ho.n1 rfl ⟨(by omega), by decide⟩ dX7_write_27 (fun M_27 h_27 => ?_)
        obtain ⟨g_27, eg_27⟩ : ∃ z, z = ns_up g2 ((85 + k)) ((g2 (((85 + k) - 3)))) := ⟨_, rfl⟩
        have v_27_o1 : cq_nv M_27 (o + 1) 109 g_27 := by rw [eg_27]; exact hg2.up h_27
        refine cq_iinc F dX7_write_28 rfl (by decide) (fun x_28 e_28 => ?_)
        obtain rfl : x_28 = nI (k - 1) := by rw [e_28]; exact nI_dn (by omega)
        refine cq_goto F (tgt := 3) dX7_write_31 (by decide) ?_
        refine cq_loc (L2 := [(0, .ref o), (1, .int (nI kd)), (2, .int (nI c)), (3, .int (nI (k - 1)))]) rfl ?_
        exact ih_3 (k - 1) M_27 g_27 (by omega) (by omega) v_27_o1 (ho2.up h_27) (fun j => by rw [eg_27]; simp only [ns_up, he2]; (repeat' split) <;> first | rfl | (exfalso; omega) | (congr 1; omega)) (by omega)
  refine cq_bipush F (v := 23) dX7_write_0 (by decide) ?_
  refine cq_istore_n F (i := 3) dX7_write_2 rfl (by decide) ?_
  refine cq_loc (L2 := [(0, .ref o), (1, .int (nI kd)), (2, .int (nI c)), (3, .int (nI 23))]) rfl ?_
  exact loop_3 24 23 M g (by omega) (by omega) hg cq_only.rf (fun j => by rw [if_neg (by omega)]) (by omega)
theorem hdVX7_write : yX7_write.cls = RX7 ∧ yX7_write.cls ≠ "java/lang/invoke/MethodHandle" ∧ yX7_write.cls ≠ "java/lang/invoke/VarHandle" ∧ (parseMethodDescriptor yX7_write.desc).map (fun d => d.parameters.length) = some 2 := by decide +kernel
abbrev rmX7_canLight : Room := ({ frames := 3, cells := 0, slots := 0, locals := 66 })
set_option maxHeartbeats 4000000 in
set_option maxRecDepth 100000 in
theorem kX7_canLight (l : Launch) (D : va_G) (cA : Nat → ClassId) (X : cq_X) (Bs : Nat) (o c : Nat) (x : Int32) (g : Nat → Nat) (M : cq_M) (ho : cq_isModel X o) (hg : cq_nv M (o + 1) 109 g) (hc : c < 4) (hq : ns_cord g c) : cq_C l yX7_canLight wsX7_canLight rmX7_canLight D cA X Bs [.ref o, .int (nI c), .int x] M (cq_PI (fun r M1 => r = (if ns_canLight g c x then 1 else 0) ∧ M1 = M)) 0 0 := by
  refine cq_met (cc := cX7_canLight) (maxL := 3) (ret := (some .boolean)) (by decide) rfl (Nat.le_of_ble_eq_true rfl) [(0, .ref o), (1, .int (nI c)), (2, .int x)] rfl rfl ?_
  intro p9 e9 s9 m9 b9 t9 c9 F hr
  refine cq_aload_n F (i := 0) dX7_canLight_0 rfl rfl ?_
  refine cq_iload_n F (i := 1) dX7_canLight_1 rfl rfl ?_
  refine cq_callV F (C := RX7) (ci := 8) (kX7_leftOf l D cA X Bs o c g M ho hg hc hq.1.2 hq.2.2.1) (cwV 1 F.1.2.2.2.2 gX7_canLight_X7_leftOf rfl rfl rfl hdVX7_leftOf ⟨Nat.le_of_ble_eq_true rfl, Nat.le_of_ble_eq_true rfl⟩) ho.kind ⟨by decide, by decide⟩ rfl rfl rfl (Nat.le_of_ble_eq_true rfl) dX7_canLight_2 ⟨Nat.le_of_ble_eq_true rfl, Nat.le_of_ble_eq_true rfl⟩ (cq_kIp fun r_2 h_2 => ?_)
  subst h_2
  have ht8 := hq.time
  have ht7 : ns_left g c ≤ 360 := by unfold ns_left; omega
  refine cq_if_le F (tgt := 27) dX7_canLight_5 (by decide) (fun c_5 => ?_) (fun c_5 => ?_)
  · have c_5 : (ns_left g c) ≤ 0 := (nI_b (a := (ns_left g c)) (b := 0) (by omega) (by omega)).1.mp c_5
    refine cq_iconst F (v := 0) dX7_canLight_27 rfl ?_
    exact cq_zret F hr (by rfl) (by decide) (by decide) dX7_canLight_28 ⟨_, rfl, ⟨by first | exact (if_pos ⟨by omega, hs9.2.mp c_20⟩).symm | exact (if_neg (fun z => c_20 (hs9.2.mpr z.2))).symm | exact (if_neg (fun z => absurd z.1 (by omega))).symm, rfl⟩⟩
  · have c_5 : ¬ (ns_left g c) ≤ 0 := fun z => c_5 ((nI_b (a := (ns_left g c)) (b := 0) (by omega) (by omega)).1.mpr z)
    refine cq_aload_n F (i := 0) dX7_canLight_8 rfl rfl ?_
    refine cq_iload_n F (i := 1) dX7_canLight_9 rfl rfl ?_
    refine cq_bipush F (v := 9) dX7_canLight_10 (by decide) ?_
    refine cq_callV F (C := RX7) (ci := 8) (kX7_of l D cA X Bs o c (9) (16 + 11 * c) g M ho hg (by omega) (by omega)) (cwV 2 F.1.2.2.2.2 gX7_canLight_X7_of rfl rfl rfl hdVX7_of ⟨Nat.le_of_ble_eq_true rfl, Nat.le_of_ble_eq_true rfl⟩) ho.kind ⟨by decide, by decide⟩ rfl rfl rfl (Nat.le_of_ble_eq_true rfl) dX7_canLight_12 ⟨Nat.le_of_ble_eq_true rfl, Nat.le_of_ble_eq_true rfl⟩ (cq_kIp fun r_12 h_12 => ?_)
    subst h_12
    refine cq_iload_n F (i := 2) dX7_canLight_15 rfl rfl ?_
    refine cq_callS F (kX7_side l D cA X Bs x M) (va_cwS 1 F.1.2.2.2.2 gX7_canLight_X7_side rfl rfl rfl hdVX7_side.2 ⟨Nat.le_of_ble_eq_true rfl, Nat.le_of_ble_eq_true rfl⟩) rfl (Nat.le_of_ble_eq_true rfl) dX7_canLight_16 ⟨Nat.le_of_ble_eq_true rfl, Nat.le_of_ble_eq_true rfl⟩ (cq_kIp fun r_16 h_16 => ?_)
    subst h_16
    refine cq_iand F dX7_canLight_19 ?_
    rw [(nI_side x hq.2.2.2.1).1]
    have hs9 : (if x = 0 then 2 * (g (16 + 11 * c) / 2) else g (16 + 11 * c) % 2) < 4 ∧ ((if x = 0 then 2 * (g (16 + 11 * c) / 2) else g (16 + 11 * c) % 2) = 0 ↔ ns_bit (g (16 + 11 * c)) x = 0) := by
      have h3 := hq.2.2.2.1
      unfold ns_bit
      constructor <;> split <;> omega
    have ht9 := hq.time
    refine cq_if_ne F (tgt := 27) dX7_canLight_20 (by decide) (fun c_20 => ?_) (fun c_20 => ?_)
    · have c_20 : ¬ (if x = 0 then 2 * (g (16 + 11 * c) / 2) else g (16 + 11 * c) % 2) = 0 := fun z => c_20 ((nI_b (a := (if x = 0 then 2 * (g (16 + 11 * c) / 2) else g (16 + 11 * c) % 2)) (b := 0) (by omega) (by omega)).2.2.mpr z)
      refine cq_iconst F (v := 0) dX7_canLight_27 rfl ?_
      exact cq_zret F hr (by rfl) (by decide) (by decide) dX7_canLight_28 ⟨_, rfl, ⟨by first | exact (if_pos ⟨by omega, hs9.2.mp c_20⟩).symm | exact (if_neg (fun z => c_20 (hs9.2.mpr z.2))).symm | exact (if_neg (fun z => absurd z.1 (by omega))).symm, rfl⟩⟩
    · have c_20 : (if x = 0 then 2 * (g (16 + 11 * c) / 2) else g (16 + 11 * c) % 2) = 0 := (nI_b (a := (if x = 0 then 2 * (g (16 + 11 * c) / 2) else g (16 + 11 * c) % 2)) (b := 0) (by omega) (by omega)).2.2.mp c_20
      refine cq_iconst F (v := 1) dX7_canLight_23 rfl ?_
      refine cq_goto F (tgt := 28) dX7_canLight_24 (by decide) ?_
      exact cq_zret F hr (by rfl) (by decide) (by decide) dX7_canLight_28 ⟨_, rfl, ⟨by first | exact (if_pos ⟨by omega, hs9.2.mp c_20⟩).symm | exact (if_neg (fun z => c_20 (hs9.2.mpr z.2))).symm | exact (if_neg (fun z => absurd z.1 (by omega))).symm, rfl⟩⟩
theorem hdVX7_canLight : yX7_canLight.cls = RX7 ∧ yX7_canLight.cls ≠ "java/lang/invoke/MethodHandle" ∧ yX7_canLight.cls ≠ "java/lang/invoke/VarHandle" ∧ (parseMethodDescriptor yX7_canLight.desc).map (fun d => d.parameters.length) = some 2 := by decide +kernel
abbrev rmX7_lightNow : Room := ({ frames := 1, cells := 0, slots := 0, locals := 23 })
set_option maxHeartbeats 4000000 in
set_option maxRecDepth 100000 in
theorem kX7_lightNow (l : Launch) (D : va_G) (cA : Nat → ClassId) (X : cq_X) (Bs : Nat) (o c : Nat) (x : Int32) (g : Nat → Nat) (M : cq_M) (ho : cq_isModel X o) (hg : cq_nv M (o + 1) 109 g) (hc : c < 4) (hf : g (16 + 11 * c) ≤ 3) (hb : ns_bit (g (16 + 11 * c)) x = 0) (h84 : g 84 ≤ 8) : cq_C l yX7_lightNow wsX7_lightNow rmX7_lightNow D cA X Bs [.ref o, .int (nI c), .int x] M (cq_PV (fun M1 => cq_nv M1 (o + 1) 109 (ns_lightNow g c x) ∧ cq_only M M1 (o + 1))) 0 0 := by
  refine cq_met (cc := cX7_lightNow) (maxL := 3) (ret := none) (by decide) rfl (Nat.le_of_ble_eq_true rfl) [(0, .ref o), (1, .int (nI c)), (2, .int x)] rfl rfl ?_
  intro p9 e9 s9 m9 b9 t9 c9 F hr
  have inX7 : ∀ w ∈ wsX70, w ∈ wsX7_lightNow := (fun w h => List.mem_cons_of_mem _ (List.mem_append_right _ h))
  refine cq_aload_n F (i := 0) dX7_lightNow_0 rfl rfl ?_
  refine cq_iload_n F (i := 1) dX7_lightNow_1 rfl rfl ?_
  refine cq_bipush F (v := 9) dX7_lightNow_2 (by decide) ?_
  refine cq_aload_n F (i := 0) dX7_lightNow_4 rfl rfl ?_
  refine cq_iload_n F (i := 1) dX7_lightNow_5 rfl rfl ?_
  refine cq_bipush F (v := 9) dX7_lightNow_6 (by decide) ?_
  refine cq_callV F (C := RX7) (ci := 8) (kX7_of l D cA X Bs o c (9) (16 + 11 * c) g M ho hg (by omega) (by omega)) (cwV 2 F.1.2.2.2.2 gX7_lightNow_X7_of rfl rfl rfl hdVX7_of ⟨Nat.le_of_ble_eq_true rfl, Nat.le_of_ble_eq_true rfl⟩) ho.kind ⟨by decide, by decide⟩ rfl rfl rfl (Nat.le_of_ble_eq_true rfl) dX7_lightNow_8 ⟨Nat.le_of_ble_eq_true rfl, Nat.le_of_ble_eq_true rfl⟩ (cq_kIp fun r_8 h_8 => ?_)
  subst h_8
  refine cq_iload_n F (i := 2) dX7_lightNow_11 rfl rfl ?_
  refine cq_callS F (kX7_side l D cA X Bs x M) (va_cwS 1 F.1.2.2.2.2 gX7_lightNow_X7_side rfl rfl rfl hdVX7_side.2 ⟨Nat.le_of_ble_eq_true rfl, Nat.le_of_ble_eq_true rfl⟩) rfl (Nat.le_of_ble_eq_true rfl) dX7_lightNow_12 ⟨Nat.le_of_ble_eq_true rfl, Nat.le_of_ble_eq_true rfl⟩ (cq_kIp fun r_12 h_12 => ?_)
  subst h_12
  refine cq_ior F dX7_lightNow_15 ?_
  rw [(nI_side x hf).2.1 hb]
  refine cq_callV F (C := RX7) (ci := 8) (kX7_put l D cA X Bs o c (9) (16 + 11 * c) (nI (g (16 + 11 * c) + ns_side x)) M ho (by omega) (by omega)) (cwV 3 F.1.2.2.2.2 gX7_lightNow_X7_put rfl rfl rfl hdVX7_put ⟨Nat.le_of_ble_eq_true rfl, Nat.le_of_ble_eq_true rfl⟩) ho.kind ⟨by decide, by decide⟩ rfl rfl rfl (Nat.le_of_ble_eq_true rfl) dX7_lightNow_16 ⟨Nat.le_of_ble_eq_true rfl, Nat.le_of_ble_eq_true rfl⟩ (cq_kV fun M_16 h_16 => ?_)
  refine cq_aload_n F (i := 0) dX7_lightNow_19 rfl rfl ?_
  refine cq_getT (t := (o + 1)) F (C := RX7) (T := TX7) (N := 22) (ci := 8) ho.kind rfl ⟨⟨by decide, by decide⟩, rfl⟩ inX7 0 (by decide) rfl rfl ho.t0 (F.1.2.2.2.2 _ (List.mem_of_getElem? (l := wsX7_lightNow) (i := 1) (a := .fieldLink RX7 7 "CordClockModel" "row" "[I") (by decide +kernel))) dX7_lightNow_20 ?_
  refine cq_iconst F (v := 2) dX7_lightNow_23 rfl ?_
  refine cq_dup2 F dX7_lightNow_24 rfl rfl ?_
  refine cq_iald_j F (j := 2) ho.k1 ho.n1 rfl ⟨(by omega), by decide⟩ dX7_lightNow_25 ?_
  rw [(hg.up h_16) _ (by omega)]
  refine cq_iconst F (v := 1) dX7_lightNow_26 rfl ?_
  refine cq_iadd F dX7_lightNow_27 ?_
  rw [show (nI ((ns_up g (16 + 11 * c) (g (16 + 11 * c) + ns_side x)) (2)) + 1 : Int32) = nI (((ns_up g (16 + 11 * c) (g (16 + 11 * c) + ns_side x)) (2)) + 1) from nI_add _ _]
  refine cq_iast_j F (j := 2) ho.k1 ho.n1 rfl ⟨(by omega), by decide⟩ dX7_lightNow_28 (fun M_28 h_28 => ?_)
  obtain ⟨g_28, eg_28⟩ : ∃ z, z = ns_up (ns_up g (16 + 11 * c) (g (16 + 11 * c) + ns_side x)) (2) ((((ns_up g (16 + 11 * c) (g (16 + 11 * c) + ns_side x)) (2)) + 1)) := ⟨_, rfl⟩
  have v_28_o1 : cq_nv M_28 (o + 1) 109 g_28 := by rw [eg_28]; exact (hg.up h_16).up h_28
  refine cq_aload_n F (i := 0) dX7_lightNow_29 rfl rfl ?_
  refine cq_iload_n F (i := 2) dX7_lightNow_30 rfl rfl ?_
  refine cq_if_eq F (tgt := 38) dX7_lightNow_31 (by decide) (fun c_31 => ?_) (fun c_31 => ?_)
  · refine cq_iconst F (v := 1) dX7_lightNow_38 rfl ?_
    refine cq_iload_n F (i := 1) dX7_lightNow_39 rfl rfl ?_
    refine cq_callV F (C := RX7) (ci := 8) (kX7_write l D cA X Bs o 1 c g_28 M_28 ho v_28_o1 (by simpa [ns_up, show 84 ≠ 16 + 11 * c by omega, *] using h84)) (cwV 2 F.1.2.2.2.2 gX7_lightNow_X7_write rfl rfl rfl hdVX7_write ⟨Nat.le_of_ble_eq_true rfl, Nat.le_of_ble_eq_true rfl⟩) ho.kind ⟨by decide, by decide⟩ rfl rfl rfl (Nat.le_of_ble_eq_true rfl) dX7_lightNow_40 ⟨Nat.le_of_ble_eq_true rfl, Nat.le_of_ble_eq_true rfl⟩ (cq_kV fun M_40 h_40 => ?_)
    refine cq_vret F hr (by decide) (by decide) dX7_lightNow_43 ⟨rfl, ?_⟩
    have e2 : ns_up g (16 + 11 * c) (g (16 + 11 * c) + ns_side x) 2 = g 2 := ns_up_n (by omega)
    have e := h_40.1
    refine ⟨?_, (((cq_only.rf.up h_16).up h_28).trans h_40.2)⟩
    unfold ns_lightNow
    subst_vars
    rw [e2] at e
    first | exact e | (rw [if_pos rfl]; exact e) | (rw [if_pos (by assumption)]; exact e) | (rw [if_neg (by assumption)]; exact e)
  · refine cq_iconst F (v := 0) dX7_lightNow_34 rfl ?_
    refine cq_goto F (tgt := 39) dX7_lightNow_35 (by decide) ?_
    refine cq_iload_n F (i := 1) dX7_lightNow_39 rfl rfl ?_
    refine cq_callV F (C := RX7) (ci := 8) (kX7_write l D cA X Bs o 0 c g_28 M_28 ho v_28_o1 (by simpa [ns_up, show 84 ≠ 16 + 11 * c by omega, *] using h84)) (cwV 2 F.1.2.2.2.2 gX7_lightNow_X7_write rfl rfl rfl hdVX7_write ⟨Nat.le_of_ble_eq_true rfl, Nat.le_of_ble_eq_true rfl⟩) ho.kind ⟨by decide, by decide⟩ rfl rfl rfl (Nat.le_of_ble_eq_true rfl) dX7_lightNow_40 ⟨Nat.le_of_ble_eq_true rfl, Nat.le_of_ble_eq_true rfl⟩ (cq_kV fun M_40 h_40 => ?_)
    refine cq_vret F hr (by decide) (by decide) dX7_lightNow_43 ⟨rfl, ?_⟩
    have e2 : ns_up g (16 + 11 * c) (g (16 + 11 * c) + ns_side x) 2 = g 2 := ns_up_n (by omega)
    have e := h_40.1
    refine ⟨?_, (((cq_only.rf.up h_16).up h_28).trans h_40.2)⟩
    unfold ns_lightNow
    subst_vars
    rw [e2] at e
    first | exact e | (rw [if_pos rfl]; exact e) | (rw [if_pos (by assumption)]; exact e) | (rw [if_neg (by assumption)]; exact e)
theorem hdVX7_lightNow : yX7_lightNow.cls = RX7 ∧ yX7_lightNow.cls ≠ "java/lang/invoke/MethodHandle" ∧ yX7_lightNow.cls ≠ "java/lang/invoke/VarHandle" ∧ (parseMethodDescriptor yX7_lightNow.desc).map (fun d => d.parameters.length) = some 2 := by decide +kernel
abbrev rmX7_burns : Room := ({ frames := 3, cells := 0, slots := 0, locals := 66 })
set_option maxHeartbeats 4000000 in
set_option maxRecDepth 100000 in
theorem kX7_burns (l : Launch) (D : va_G) (cA : Nat → ClassId) (X : cq_X) (Bs : Nat) (o c : Nat) (g : Nat → Nat) (M : cq_M) (ho : cq_isModel X o) (hg : cq_nv M (o + 1) 109 g) (hc : c < 4) (hq : ns_cord g c) : cq_C l yX7_burns wsX7_burns rmX7_burns D cA X Bs [.ref o, .int (nI c)] M (cq_PI (fun r M1 => r = (if ns_outs g c then 1 else 0) ∧ cq_nv M1 (o + 1) 109 (ns_burn2 g c) ∧ cq_only M M1 (o + 1))) 0 0 := by
  refine cq_met (cc := cX7_burns) (maxL := 3) (ret := (some .boolean)) (by decide) rfl (Nat.le_of_ble_eq_true rfl) [(0, .ref o), (1, .int (nI c))] rfl rfl ?_
  intro p9 e9 s9 m9 b9 t9 c9 F hr
  have h3 := hq.2.2.2.1
  have hb1 := ns_b1 hq
  have hb2 := ns_b2 hq
  have ht8 := hq.time
  have ht7 : ns_left (ns_burn1 g c) c ≤ 360 := by unfold ns_left; omega
  have ht6 : ns_left (ns_burn2 g c) c ≤ 360 := by unfold ns_left; omega
  have e7 : ns_burn1 g c (7 + 11 * c) ≤ 6 := by rw [hb1.1 _ (by omega)]; exact hq.1.2
  have f7 : ns_burn2 g c (7 + 11 * c) ≤ 6 := by rw [hb2.1 _ (by omega) (by omega)]; exact hq.1.2
  refine cq_aload_n F (i := 0) dX7_burns_0 rfl rfl ?_
  refine cq_iload_n F (i := 1) dX7_burns_1 rfl rfl ?_
  refine cq_bipush F (v := 9) dX7_burns_2 (by decide) ?_
  refine cq_callV F (C := RX7) (ci := 8) (kX7_of l D cA X Bs o c (9) (16 + 11 * c) g M ho hg (by omega) (by omega)) (cwV 2 F.1.2.2.2.2 gX7_burns_X7_of rfl rfl rfl hdVX7_of ⟨Nat.le_of_ble_eq_true rfl, Nat.le_of_ble_eq_true rfl⟩) ho.kind ⟨by decide, by decide⟩ rfl rfl rfl (Nat.le_of_ble_eq_true rfl) dX7_burns_4 ⟨Nat.le_of_ble_eq_true rfl, Nat.le_of_ble_eq_true rfl⟩ (cq_kIp fun r_4 h_4 => ?_)
  subst h_4
  refine cq_istore_n F (i := 2) dX7_burns_7 rfl (by decide) ?_
  refine cq_iload_n F (i := 2) dX7_burns_8 rfl rfl ?_
  refine cq_iconst F (v := 1) dX7_burns_9 rfl ?_
  refine cq_iand F dX7_burns_10 ?_
  rw [(nI_and1 h3).1]
  refine cq_iconst F (v := 1) dX7_burns_11 rfl ?_
  refine cq_icmp_ne F (tgt := 31) dX7_burns_12 (by decide) (fun c_12 => ?_) (fun c_12 => ?_)
  · have c_12 : ¬ (g (16 + 11 * c) % 2) = 1 := fun z => c_12 ((nI_b (a := (g (16 + 11 * c) % 2)) (b := 1) (by omega) (by omega)).2.2.mpr z)
    have w_31 : cq_nv M (o + 1) 109 (ns_burn1 g c) := by
      unfold ns_burn1
      first | (rw [if_pos (by assumption)]; exact hg) | (rw [if_neg (by assumption)]; exact hg)
    refine cq_iload_n F (i := 2) dX7_burns_31 rfl rfl ?_
    refine cq_iconst F (v := 2) dX7_burns_32 rfl ?_
    refine cq_iand F dX7_burns_33 ?_
    rw [(nI_and1 h3).2.1]
    refine cq_iconst F (v := 2) dX7_burns_34 rfl ?_
    refine cq_icmp_ne F (tgt := 62) dX7_burns_35 (by decide) (fun c_35 => ?_) (fun c_35 => ?_)
    · have c_35 : ¬ (2 * (g (16 + 11 * c) / 2)) = 2 := fun z => c_35 ((nI_b (a := (2 * (g (16 + 11 * c) / 2))) (b := 2) (by omega) (by omega)).2.2.mpr z)
      have w_62 : cq_nv M (o + 1) 109 (ns_burn2 g c) := by
        unfold ns_burn2
        first | (rw [if_neg (fun z => by omega)]; exact w_31) | (rw [if_pos ⟨by omega, by omega⟩]; exact w_31)
      refine cq_iload_n F (i := 2) dX7_burns_62 rfl rfl ?_
      refine cq_if_eq F (tgt := 78) dX7_burns_63 (by decide) (fun c_63 => ?_) (fun c_63 => ?_)
      · have c_63 : (g (16 + 11 * c)) = 0 := (nI_b (a := (g (16 + 11 * c))) (b := 0) (by omega) (by omega)).2.2.mp c_63
        refine cq_iconst F (v := 0) dX7_burns_78 rfl ?_
        exact cq_zret F hr (by rfl) (by decide) (by decide) dX7_burns_79 ⟨_, rfl, ⟨by first | exact (if_pos ⟨by omega, by omega⟩).symm | exact (if_neg (fun z => absurd z.1 (by omega))).symm | exact (if_neg (fun z => absurd z.2 (by omega))).symm, w_62, cq_only.rf⟩⟩
      · have c_63 : ¬ (g (16 + 11 * c)) = 0 := fun z => c_63 ((nI_b (a := (g (16 + 11 * c))) (b := 0) (by omega) (by omega)).2.2.mpr z)
        refine cq_aload_n F (i := 0) dX7_burns_66 rfl rfl ?_
        refine cq_iload_n F (i := 1) dX7_burns_67 rfl rfl ?_
        refine cq_callV F (C := RX7) (ci := 8) (kX7_leftOf l D cA X Bs o c (ns_burn2 g c) M ho w_62 hc f7 (by rw [hb2.2.1]; exact hb2.2.2)) (cwV 1 F.1.2.2.2.2 gX7_burns_X7_leftOf rfl rfl rfl hdVX7_leftOf ⟨Nat.le_of_ble_eq_true rfl, Nat.le_of_ble_eq_true rfl⟩) ho.kind ⟨by decide, by decide⟩ rfl rfl rfl (Nat.le_of_ble_eq_true rfl) dX7_burns_68 ⟨Nat.le_of_ble_eq_true rfl, Nat.le_of_ble_eq_true rfl⟩ (cq_kIp fun r_68 h_68 => ?_)
        subst h_68
        refine cq_if_ne F (tgt := 78) dX7_burns_71 (by decide) (fun c_71 => ?_) (fun c_71 => ?_)
        · have c_71 : ¬ (ns_left (ns_burn2 g c) c) = 0 := fun z => c_71 ((nI_b (a := (ns_left (ns_burn2 g c) c)) (b := 0) (by omega) (by omega)).2.2.mpr z)
          refine cq_iconst F (v := 0) dX7_burns_78 rfl ?_
          exact cq_zret F hr (by rfl) (by decide) (by decide) dX7_burns_79 ⟨_, rfl, ⟨by first | exact (if_pos ⟨by omega, by omega⟩).symm | exact (if_neg (fun z => absurd z.1 (by omega))).symm | exact (if_neg (fun z => absurd z.2 (by omega))).symm, w_62, cq_only.rf⟩⟩
        · have c_71 : (ns_left (ns_burn2 g c) c) = 0 := (nI_b (a := (ns_left (ns_burn2 g c) c)) (b := 0) (by omega) (by omega)).2.2.mp c_71
          refine cq_iconst F (v := 1) dX7_burns_74 rfl ?_
          refine cq_goto F (tgt := 79) dX7_burns_75 (by decide) ?_
          exact cq_zret F hr (by rfl) (by decide) (by decide) dX7_burns_79 ⟨_, rfl, ⟨by first | exact (if_pos ⟨by omega, by omega⟩).symm | exact (if_neg (fun z => absurd z.1 (by omega))).symm | exact (if_neg (fun z => absurd z.2 (by omega))).symm, w_62, cq_only.rf⟩⟩
    · have c_35 : (2 * (g (16 + 11 * c) / 2)) = 2 := (nI_b (a := (2 * (g (16 + 11 * c) / 2))) (b := 2) (by omega) (by omega)).2.2.mp c_35
      refine cq_aload_n F (i := 0) dX7_burns_38 rfl rfl ?_
      refine cq_iload_n F (i := 1) dX7_burns_39 rfl rfl ?_
      refine cq_callV F (C := RX7) (ci := 8) (kX7_leftOf l D cA X Bs o c (ns_burn1 g c) M ho w_31 hc e7 (by rw [hb1.2.2.1]; exact hb1.2.2.2.2)) (cwV 1 F.1.2.2.2.2 gX7_burns_X7_leftOf rfl rfl rfl hdVX7_leftOf ⟨Nat.le_of_ble_eq_true rfl, Nat.le_of_ble_eq_true rfl⟩) ho.kind ⟨by decide, by decide⟩ rfl rfl rfl (Nat.le_of_ble_eq_true rfl) dX7_burns_40 ⟨Nat.le_of_ble_eq_true rfl, Nat.le_of_ble_eq_true rfl⟩ (cq_kIp fun r_40 h_40 => ?_)
      subst h_40
      refine cq_if_le F (tgt := 62) dX7_burns_43 (by decide) (fun c_43 => ?_) (fun c_43 => ?_)
      · have c_43 : (ns_left (ns_burn1 g c) c) ≤ 0 := (nI_b (a := (ns_left (ns_burn1 g c) c)) (b := 0) (by omega) (by omega)).1.mp c_43
        have w_62 : cq_nv M (o + 1) 109 (ns_burn2 g c) := by
          unfold ns_burn2
          first | (rw [if_neg (fun z => by omega)]; exact w_31) | (rw [if_pos ⟨by omega, by omega⟩]; exact w_31)
        refine cq_iload_n F (i := 2) dX7_burns_62 rfl rfl ?_
        refine cq_if_eq F (tgt := 78) dX7_burns_63 (by decide) (fun c_63 => ?_) (fun c_63 => ?_)
        · have c_63 : (g (16 + 11 * c)) = 0 := (nI_b (a := (g (16 + 11 * c))) (b := 0) (by omega) (by omega)).2.2.mp c_63
          refine cq_iconst F (v := 0) dX7_burns_78 rfl ?_
          exact cq_zret F hr (by rfl) (by decide) (by decide) dX7_burns_79 ⟨_, rfl, ⟨by first | exact (if_pos ⟨by omega, by omega⟩).symm | exact (if_neg (fun z => absurd z.1 (by omega))).symm | exact (if_neg (fun z => absurd z.2 (by omega))).symm, w_62, cq_only.rf⟩⟩
        · have c_63 : ¬ (g (16 + 11 * c)) = 0 := fun z => c_63 ((nI_b (a := (g (16 + 11 * c))) (b := 0) (by omega) (by omega)).2.2.mpr z)
          refine cq_aload_n F (i := 0) dX7_burns_66 rfl rfl ?_
          refine cq_iload_n F (i := 1) dX7_burns_67 rfl rfl ?_
          refine cq_callV F (C := RX7) (ci := 8) (kX7_leftOf l D cA X Bs o c (ns_burn2 g c) M ho w_62 hc f7 (by rw [hb2.2.1]; exact hb2.2.2)) (cwV 1 F.1.2.2.2.2 gX7_burns_X7_leftOf rfl rfl rfl hdVX7_leftOf ⟨Nat.le_of_ble_eq_true rfl, Nat.le_of_ble_eq_true rfl⟩) ho.kind ⟨by decide, by decide⟩ rfl rfl rfl (Nat.le_of_ble_eq_true rfl) dX7_burns_68 ⟨Nat.le_of_ble_eq_true rfl, Nat.le_of_ble_eq_true rfl⟩ (cq_kIp fun r_68 h_68 => ?_)
          subst h_68
          refine cq_if_ne F (tgt := 78) dX7_burns_71 (by decide) (fun c_71 => ?_) (fun c_71 => ?_)
          · have c_71 : ¬ (ns_left (ns_burn2 g c) c) = 0 := fun z => c_71 ((nI_b (a := (ns_left (ns_burn2 g c) c)) (b := 0) (by omega) (by omega)).2.2.mpr z)
            refine cq_iconst F (v := 0) dX7_burns_78 rfl ?_
            exact cq_zret F hr (by rfl) (by decide) (by decide) dX7_burns_79 ⟨_, rfl, ⟨by first | exact (if_pos ⟨by omega, by omega⟩).symm | exact (if_neg (fun z => absurd z.1 (by omega))).symm | exact (if_neg (fun z => absurd z.2 (by omega))).symm, w_62, cq_only.rf⟩⟩
          · have c_71 : (ns_left (ns_burn2 g c) c) = 0 := (nI_b (a := (ns_left (ns_burn2 g c) c)) (b := 0) (by omega) (by omega)).2.2.mp c_71
            refine cq_iconst F (v := 1) dX7_burns_74 rfl ?_
            refine cq_goto F (tgt := 79) dX7_burns_75 (by decide) ?_
            exact cq_zret F hr (by rfl) (by decide) (by decide) dX7_burns_79 ⟨_, rfl, ⟨by first | exact (if_pos ⟨by omega, by omega⟩).symm | exact (if_neg (fun z => absurd z.1 (by omega))).symm | exact (if_neg (fun z => absurd z.2 (by omega))).symm, w_62, cq_only.rf⟩⟩
      · have c_43 : ¬ (ns_left (ns_burn1 g c) c) ≤ 0 := fun z => c_43 ((nI_b (a := (ns_left (ns_burn1 g c) c)) (b := 0) (by omega) (by omega)).1.mpr z)
        refine cq_aload_n F (i := 0) dX7_burns_46 rfl rfl ?_
        refine cq_iload_n F (i := 1) dX7_burns_47 rfl rfl ?_
        refine cq_bipush F (v := 8) dX7_burns_48 (by decide) ?_
        refine cq_aload_n F (i := 0) dX7_burns_50 rfl rfl ?_
        refine cq_iload_n F (i := 1) dX7_burns_51 rfl rfl ?_
        refine cq_bipush F (v := 8) dX7_burns_52 (by decide) ?_
        refine cq_callV F (C := RX7) (ci := 8) (kX7_of l D cA X Bs o c (8) (15 + 11 * c) (ns_burn1 g c) M ho w_31 (by omega) (by omega)) (cwV 2 F.1.2.2.2.2 gX7_burns_X7_of rfl rfl rfl hdVX7_of ⟨Nat.le_of_ble_eq_true rfl, Nat.le_of_ble_eq_true rfl⟩) ho.kind ⟨by decide, by decide⟩ rfl rfl rfl (Nat.le_of_ble_eq_true rfl) dX7_burns_54 ⟨Nat.le_of_ble_eq_true rfl, Nat.le_of_ble_eq_true rfl⟩ (cq_kIp fun r_54 h_54 => ?_)
        subst h_54
        refine cq_iconst F (v := 1) dX7_burns_57 rfl ?_
        refine cq_iadd F dX7_burns_58 ?_
        rw [show (nI ((ns_burn1 g c) (15 + 11 * c)) + 1 : Int32) = nI (((ns_burn1 g c) (15 + 11 * c)) + 1) from nI_add _ _]
        refine cq_callV F (C := RX7) (ci := 8) (kX7_put l D cA X Bs o c (8) (15 + 11 * c) (nI ((ns_burn1 g c) (15 + 11 * c) + 1)) M ho (by omega) (by omega)) (cwV 3 F.1.2.2.2.2 gX7_burns_X7_put rfl rfl rfl hdVX7_put ⟨Nat.le_of_ble_eq_true rfl, Nat.le_of_ble_eq_true rfl⟩) ho.kind ⟨by decide, by decide⟩ rfl rfl rfl (Nat.le_of_ble_eq_true rfl) dX7_burns_59 ⟨Nat.le_of_ble_eq_true rfl, Nat.le_of_ble_eq_true rfl⟩ (cq_kV fun M_59 h_59 => ?_)
        have w_62 : cq_nv M_59 (o + 1) 109 (ns_burn2 g c) := by
          unfold ns_burn2
          first | (rw [if_neg (fun z => by omega)]; exact (w_31.up h_59)) | (rw [if_pos ⟨by omega, by omega⟩]; exact (w_31.up h_59))
        refine cq_iload_n F (i := 2) dX7_burns_62 rfl rfl ?_
        refine cq_if_eq F (tgt := 78) dX7_burns_63 (by decide) (fun c_63 => ?_) (fun c_63 => ?_)
        · have c_63 : (g (16 + 11 * c)) = 0 := (nI_b (a := (g (16 + 11 * c))) (b := 0) (by omega) (by omega)).2.2.mp c_63
          refine cq_iconst F (v := 0) dX7_burns_78 rfl ?_
          exact cq_zret F hr (by rfl) (by decide) (by decide) dX7_burns_79 ⟨_, rfl, ⟨by first | exact (if_pos ⟨by omega, by omega⟩).symm | exact (if_neg (fun z => absurd z.1 (by omega))).symm | exact (if_neg (fun z => absurd z.2 (by omega))).symm, w_62, (cq_only.rf.up h_59)⟩⟩
        · have c_63 : ¬ (g (16 + 11 * c)) = 0 := fun z => c_63 ((nI_b (a := (g (16 + 11 * c))) (b := 0) (by omega) (by omega)).2.2.mpr z)
          refine cq_aload_n F (i := 0) dX7_burns_66 rfl rfl ?_
          refine cq_iload_n F (i := 1) dX7_burns_67 rfl rfl ?_
          refine cq_callV F (C := RX7) (ci := 8) (kX7_leftOf l D cA X Bs o c (ns_burn2 g c) M_59 ho w_62 hc f7 (by rw [hb2.2.1]; exact hb2.2.2)) (cwV 1 F.1.2.2.2.2 gX7_burns_X7_leftOf rfl rfl rfl hdVX7_leftOf ⟨Nat.le_of_ble_eq_true rfl, Nat.le_of_ble_eq_true rfl⟩) ho.kind ⟨by decide, by decide⟩ rfl rfl rfl (Nat.le_of_ble_eq_true rfl) dX7_burns_68 ⟨Nat.le_of_ble_eq_true rfl, Nat.le_of_ble_eq_true rfl⟩ (cq_kIp fun r_68 h_68 => ?_)
          subst h_68
          refine cq_if_ne F (tgt := 78) dX7_burns_71 (by decide) (fun c_71 => ?_) (fun c_71 => ?_)
          · have c_71 : ¬ (ns_left (ns_burn2 g c) c) = 0 := fun z => c_71 ((nI_b (a := (ns_left (ns_burn2 g c) c)) (b := 0) (by omega) (by omega)).2.2.mpr z)
            refine cq_iconst F (v := 0) dX7_burns_78 rfl ?_
            exact cq_zret F hr (by rfl) (by decide) (by decide) dX7_burns_79 ⟨_, rfl, ⟨by first | exact (if_pos ⟨by omega, by omega⟩).symm | exact (if_neg (fun z => absurd z.1 (by omega))).symm | exact (if_neg (fun z => absurd z.2 (by omega))).symm, w_62, (cq_only.rf.up h_59)⟩⟩
          · have c_71 : (ns_left (ns_burn2 g c) c) = 0 := (nI_b (a := (ns_left (ns_burn2 g c) c)) (b := 0) (by omega) (by omega)).2.2.mp c_71
            refine cq_iconst F (v := 1) dX7_burns_74 rfl ?_
            refine cq_goto F (tgt := 79) dX7_burns_75 (by decide) ?_
            exact cq_zret F hr (by rfl) (by decide) (by decide) dX7_burns_79 ⟨_, rfl, ⟨by first | exact (if_pos ⟨by omega, by omega⟩).symm | exact (if_neg (fun z => absurd z.1 (by omega))).symm | exact (if_neg (fun z => absurd z.2 (by omega))).symm, w_62, (cq_only.rf.up h_59)⟩⟩
  · have c_12 : (g (16 + 11 * c) % 2) = 1 := (nI_b (a := (g (16 + 11 * c) % 2)) (b := 1) (by omega) (by omega)).2.2.mp c_12
    refine cq_aload_n F (i := 0) dX7_burns_15 rfl rfl ?_
    refine cq_iload_n F (i := 1) dX7_burns_16 rfl rfl ?_
    refine cq_bipush F (v := 7) dX7_burns_17 (by decide) ?_
    refine cq_aload_n F (i := 0) dX7_burns_19 rfl rfl ?_
    refine cq_iload_n F (i := 1) dX7_burns_20 rfl rfl ?_
    refine cq_bipush F (v := 7) dX7_burns_21 (by decide) ?_
    refine cq_callV F (C := RX7) (ci := 8) (kX7_of l D cA X Bs o c (7) (14 + 11 * c) g M ho hg (by omega) (by omega)) (cwV 2 F.1.2.2.2.2 gX7_burns_X7_of rfl rfl rfl hdVX7_of ⟨Nat.le_of_ble_eq_true rfl, Nat.le_of_ble_eq_true rfl⟩) ho.kind ⟨by decide, by decide⟩ rfl rfl rfl (Nat.le_of_ble_eq_true rfl) dX7_burns_23 ⟨Nat.le_of_ble_eq_true rfl, Nat.le_of_ble_eq_true rfl⟩ (cq_kIp fun r_23 h_23 => ?_)
    subst h_23
    refine cq_iconst F (v := 1) dX7_burns_26 rfl ?_
    refine cq_iadd F dX7_burns_27 ?_
    rw [show (nI (g (14 + 11 * c)) + 1 : Int32) = nI ((g (14 + 11 * c)) + 1) from nI_add _ _]
    refine cq_callV F (C := RX7) (ci := 8) (kX7_put l D cA X Bs o c (7) (14 + 11 * c) (nI (g (14 + 11 * c) + 1)) M ho (by omega) (by omega)) (cwV 3 F.1.2.2.2.2 gX7_burns_X7_put rfl rfl rfl hdVX7_put ⟨Nat.le_of_ble_eq_true rfl, Nat.le_of_ble_eq_true rfl⟩) ho.kind ⟨by decide, by decide⟩ rfl rfl rfl (Nat.le_of_ble_eq_true rfl) dX7_burns_28 ⟨Nat.le_of_ble_eq_true rfl, Nat.le_of_ble_eq_true rfl⟩ (cq_kV fun M_28 h_28 => ?_)
    have w_31 : cq_nv M_28 (o + 1) 109 (ns_burn1 g c) := by
      unfold ns_burn1
      first | (rw [if_pos (by assumption)]; exact (hg.up h_28)) | (rw [if_neg (by assumption)]; exact (hg.up h_28))
    refine cq_iload_n F (i := 2) dX7_burns_31 rfl rfl ?_
    refine cq_iconst F (v := 2) dX7_burns_32 rfl ?_
    refine cq_iand F dX7_burns_33 ?_
    rw [(nI_and1 h3).2.1]
    refine cq_iconst F (v := 2) dX7_burns_34 rfl ?_
    refine cq_icmp_ne F (tgt := 62) dX7_burns_35 (by decide) (fun c_35 => ?_) (fun c_35 => ?_)
    · have c_35 : ¬ (2 * (g (16 + 11 * c) / 2)) = 2 := fun z => c_35 ((nI_b (a := (2 * (g (16 + 11 * c) / 2))) (b := 2) (by omega) (by omega)).2.2.mpr z)
      have w_62 : cq_nv M_28 (o + 1) 109 (ns_burn2 g c) := by
        unfold ns_burn2
        first | (rw [if_neg (fun z => by omega)]; exact w_31) | (rw [if_pos ⟨by omega, by omega⟩]; exact w_31)
      refine cq_iload_n F (i := 2) dX7_burns_62 rfl rfl ?_
      refine cq_if_eq F (tgt := 78) dX7_burns_63 (by decide) (fun c_63 => ?_) (fun c_63 => ?_)
      · have c_63 : (g (16 + 11 * c)) = 0 := (nI_b (a := (g (16 + 11 * c))) (b := 0) (by omega) (by omega)).2.2.mp c_63
        refine cq_iconst F (v := 0) dX7_burns_78 rfl ?_
        exact cq_zret F hr (by rfl) (by decide) (by decide) dX7_burns_79 ⟨_, rfl, ⟨by first | exact (if_pos ⟨by omega, by omega⟩).symm | exact (if_neg (fun z => absurd z.1 (by omega))).symm | exact (if_neg (fun z => absurd z.2 (by omega))).symm, w_62, (cq_only.rf.up h_28)⟩⟩
      · have c_63 : ¬ (g (16 + 11 * c)) = 0 := fun z => c_63 ((nI_b (a := (g (16 + 11 * c))) (b := 0) (by omega) (by omega)).2.2.mpr z)
        refine cq_aload_n F (i := 0) dX7_burns_66 rfl rfl ?_
        refine cq_iload_n F (i := 1) dX7_burns_67 rfl rfl ?_
        refine cq_callV F (C := RX7) (ci := 8) (kX7_leftOf l D cA X Bs o c (ns_burn2 g c) M_28 ho w_62 hc f7 (by rw [hb2.2.1]; exact hb2.2.2)) (cwV 1 F.1.2.2.2.2 gX7_burns_X7_leftOf rfl rfl rfl hdVX7_leftOf ⟨Nat.le_of_ble_eq_true rfl, Nat.le_of_ble_eq_true rfl⟩) ho.kind ⟨by decide, by decide⟩ rfl rfl rfl (Nat.le_of_ble_eq_true rfl) dX7_burns_68 ⟨Nat.le_of_ble_eq_true rfl, Nat.le_of_ble_eq_true rfl⟩ (cq_kIp fun r_68 h_68 => ?_)
        subst h_68
        refine cq_if_ne F (tgt := 78) dX7_burns_71 (by decide) (fun c_71 => ?_) (fun c_71 => ?_)
        · have c_71 : ¬ (ns_left (ns_burn2 g c) c) = 0 := fun z => c_71 ((nI_b (a := (ns_left (ns_burn2 g c) c)) (b := 0) (by omega) (by omega)).2.2.mpr z)
          refine cq_iconst F (v := 0) dX7_burns_78 rfl ?_
          exact cq_zret F hr (by rfl) (by decide) (by decide) dX7_burns_79 ⟨_, rfl, ⟨by first | exact (if_pos ⟨by omega, by omega⟩).symm | exact (if_neg (fun z => absurd z.1 (by omega))).symm | exact (if_neg (fun z => absurd z.2 (by omega))).symm, w_62, (cq_only.rf.up h_28)⟩⟩
        · have c_71 : (ns_left (ns_burn2 g c) c) = 0 := (nI_b (a := (ns_left (ns_burn2 g c) c)) (b := 0) (by omega) (by omega)).2.2.mp c_71
          refine cq_iconst F (v := 1) dX7_burns_74 rfl ?_
          refine cq_goto F (tgt := 79) dX7_burns_75 (by decide) ?_
          exact cq_zret F hr (by rfl) (by decide) (by decide) dX7_burns_79 ⟨_, rfl, ⟨by first | exact (if_pos ⟨by omega, by omega⟩).symm | exact (if_neg (fun z => absurd z.1 (by omega))).symm | exact (if_neg (fun z => absurd z.2 (by omega))).symm, w_62, (cq_only.rf.up h_28)⟩⟩
    · have c_35 : (2 * (g (16 + 11 * c) / 2)) = 2 := (nI_b (a := (2 * (g (16 + 11 * c) / 2))) (b := 2) (by omega) (by omega)).2.2.mp c_35
      refine cq_aload_n F (i := 0) dX7_burns_38 rfl rfl ?_
      refine cq_iload_n F (i := 1) dX7_burns_39 rfl rfl ?_
      refine cq_callV F (C := RX7) (ci := 8) (kX7_leftOf l D cA X Bs o c (ns_burn1 g c) M_28 ho w_31 hc e7 (by rw [hb1.2.2.1]; exact hb1.2.2.2.2)) (cwV 1 F.1.2.2.2.2 gX7_burns_X7_leftOf rfl rfl rfl hdVX7_leftOf ⟨Nat.le_of_ble_eq_true rfl, Nat.le_of_ble_eq_true rfl⟩) ho.kind ⟨by decide, by decide⟩ rfl rfl rfl (Nat.le_of_ble_eq_true rfl) dX7_burns_40 ⟨Nat.le_of_ble_eq_true rfl, Nat.le_of_ble_eq_true rfl⟩ (cq_kIp fun r_40 h_40 => ?_)
      subst h_40
      refine cq_if_le F (tgt := 62) dX7_burns_43 (by decide) (fun c_43 => ?_) (fun c_43 => ?_)
      · have c_43 : (ns_left (ns_burn1 g c) c) ≤ 0 := (nI_b (a := (ns_left (ns_burn1 g c) c)) (b := 0) (by omega) (by omega)).1.mp c_43
        have w_62 : cq_nv M_28 (o + 1) 109 (ns_burn2 g c) := by
          unfold ns_burn2
          first | (rw [if_neg (fun z => by omega)]; exact w_31) | (rw [if_pos ⟨by omega, by omega⟩]; exact w_31)
        refine cq_iload_n F (i := 2) dX7_burns_62 rfl rfl ?_
        refine cq_if_eq F (tgt := 78) dX7_burns_63 (by decide) (fun c_63 => ?_) (fun c_63 => ?_)
        · have c_63 : (g (16 + 11 * c)) = 0 := (nI_b (a := (g (16 + 11 * c))) (b := 0) (by omega) (by omega)).2.2.mp c_63
          refine cq_iconst F (v := 0) dX7_burns_78 rfl ?_
          exact cq_zret F hr (by rfl) (by decide) (by decide) dX7_burns_79 ⟨_, rfl, ⟨by first | exact (if_pos ⟨by omega, by omega⟩).symm | exact (if_neg (fun z => absurd z.1 (by omega))).symm | exact (if_neg (fun z => absurd z.2 (by omega))).symm, w_62, (cq_only.rf.up h_28)⟩⟩
        · have c_63 : ¬ (g (16 + 11 * c)) = 0 := fun z => c_63 ((nI_b (a := (g (16 + 11 * c))) (b := 0) (by omega) (by omega)).2.2.mpr z)
          refine cq_aload_n F (i := 0) dX7_burns_66 rfl rfl ?_
          refine cq_iload_n F (i := 1) dX7_burns_67 rfl rfl ?_
          refine cq_callV F (C := RX7) (ci := 8) (kX7_leftOf l D cA X Bs o c (ns_burn2 g c) M_28 ho w_62 hc f7 (by rw [hb2.2.1]; exact hb2.2.2)) (cwV 1 F.1.2.2.2.2 gX7_burns_X7_leftOf rfl rfl rfl hdVX7_leftOf ⟨Nat.le_of_ble_eq_true rfl, Nat.le_of_ble_eq_true rfl⟩) ho.kind ⟨by decide, by decide⟩ rfl rfl rfl (Nat.le_of_ble_eq_true rfl) dX7_burns_68 ⟨Nat.le_of_ble_eq_true rfl, Nat.le_of_ble_eq_true rfl⟩ (cq_kIp fun r_68 h_68 => ?_)
          subst h_68
          refine cq_if_ne F (tgt := 78) dX7_burns_71 (by decide) (fun c_71 => ?_) (fun c_71 => ?_)
          · have c_71 : ¬ (ns_left (ns_burn2 g c) c) = 0 := fun z => c_71 ((nI_b (a := (ns_left (ns_burn2 g c) c)) (b := 0) (by omega) (by omega)).2.2.mpr z)
            refine cq_iconst F (v := 0) dX7_burns_78 rfl ?_
            exact cq_zret F hr (by rfl) (by decide) (by decide) dX7_burns_79 ⟨_, rfl, ⟨by first | exact (if_pos ⟨by omega, by omega⟩).symm | exact (if_neg (fun z => absurd z.1 (by omega))).symm | exact (if_neg (fun z => absurd z.2 (by omega))).symm, w_62, (cq_only.rf.up h_28)⟩⟩
          · have c_71 : (ns_left (ns_burn2 g c) c) = 0 := (nI_b (a := (ns_left (ns_burn2 g c) c)) (b := 0) (by omega) (by omega)).2.2.mp c_71
            refine cq_iconst F (v := 1) dX7_burns_74 rfl ?_
            refine cq_goto F (tgt := 79) dX7_burns_75 (by decide) ?_
            exact cq_zret F hr (by rfl) (by decide) (by decide) dX7_burns_79 ⟨_, rfl, ⟨by first | exact (if_pos ⟨by omega, by omega⟩).symm | exact (if_neg (fun z => absurd z.1 (by omega))).symm | exact (if_neg (fun z => absurd z.2 (by omega))).symm, w_62, (cq_only.rf.up h_28)⟩⟩
      · have c_43 : ¬ (ns_left (ns_burn1 g c) c) ≤ 0 := fun z => c_43 ((nI_b (a := (ns_left (ns_burn1 g c) c)) (b := 0) (by omega) (by omega)).1.mpr z)
        refine cq_aload_n F (i := 0) dX7_burns_46 rfl rfl ?_
        refine cq_iload_n F (i := 1) dX7_burns_47 rfl rfl ?_
        refine cq_bipush F (v := 8) dX7_burns_48 (by decide) ?_
        refine cq_aload_n F (i := 0) dX7_burns_50 rfl rfl ?_
        refine cq_iload_n F (i := 1) dX7_burns_51 rfl rfl ?_
        refine cq_bipush F (v := 8) dX7_burns_52 (by decide) ?_
        refine cq_callV F (C := RX7) (ci := 8) (kX7_of l D cA X Bs o c (8) (15 + 11 * c) (ns_burn1 g c) M_28 ho w_31 (by omega) (by omega)) (cwV 2 F.1.2.2.2.2 gX7_burns_X7_of rfl rfl rfl hdVX7_of ⟨Nat.le_of_ble_eq_true rfl, Nat.le_of_ble_eq_true rfl⟩) ho.kind ⟨by decide, by decide⟩ rfl rfl rfl (Nat.le_of_ble_eq_true rfl) dX7_burns_54 ⟨Nat.le_of_ble_eq_true rfl, Nat.le_of_ble_eq_true rfl⟩ (cq_kIp fun r_54 h_54 => ?_)
        subst h_54
        refine cq_iconst F (v := 1) dX7_burns_57 rfl ?_
        refine cq_iadd F dX7_burns_58 ?_
        rw [show (nI ((ns_burn1 g c) (15 + 11 * c)) + 1 : Int32) = nI (((ns_burn1 g c) (15 + 11 * c)) + 1) from nI_add _ _]
        refine cq_callV F (C := RX7) (ci := 8) (kX7_put l D cA X Bs o c (8) (15 + 11 * c) (nI ((ns_burn1 g c) (15 + 11 * c) + 1)) M_28 ho (by omega) (by omega)) (cwV 3 F.1.2.2.2.2 gX7_burns_X7_put rfl rfl rfl hdVX7_put ⟨Nat.le_of_ble_eq_true rfl, Nat.le_of_ble_eq_true rfl⟩) ho.kind ⟨by decide, by decide⟩ rfl rfl rfl (Nat.le_of_ble_eq_true rfl) dX7_burns_59 ⟨Nat.le_of_ble_eq_true rfl, Nat.le_of_ble_eq_true rfl⟩ (cq_kV fun M_59 h_59 => ?_)
        have w_62 : cq_nv M_59 (o + 1) 109 (ns_burn2 g c) := by
          unfold ns_burn2
          first | (rw [if_neg (fun z => by omega)]; exact (w_31.up h_59)) | (rw [if_pos ⟨by omega, by omega⟩]; exact (w_31.up h_59))
        refine cq_iload_n F (i := 2) dX7_burns_62 rfl rfl ?_
        refine cq_if_eq F (tgt := 78) dX7_burns_63 (by decide) (fun c_63 => ?_) (fun c_63 => ?_)
        · have c_63 : (g (16 + 11 * c)) = 0 := (nI_b (a := (g (16 + 11 * c))) (b := 0) (by omega) (by omega)).2.2.mp c_63
          refine cq_iconst F (v := 0) dX7_burns_78 rfl ?_
          exact cq_zret F hr (by rfl) (by decide) (by decide) dX7_burns_79 ⟨_, rfl, ⟨by first | exact (if_pos ⟨by omega, by omega⟩).symm | exact (if_neg (fun z => absurd z.1 (by omega))).symm | exact (if_neg (fun z => absurd z.2 (by omega))).symm, w_62, ((cq_only.rf.up h_28).up h_59)⟩⟩
        · have c_63 : ¬ (g (16 + 11 * c)) = 0 := fun z => c_63 ((nI_b (a := (g (16 + 11 * c))) (b := 0) (by omega) (by omega)).2.2.mpr z)
          refine cq_aload_n F (i := 0) dX7_burns_66 rfl rfl ?_
          refine cq_iload_n F (i := 1) dX7_burns_67 rfl rfl ?_
          refine cq_callV F (C := RX7) (ci := 8) (kX7_leftOf l D cA X Bs o c (ns_burn2 g c) M_59 ho w_62 hc f7 (by rw [hb2.2.1]; exact hb2.2.2)) (cwV 1 F.1.2.2.2.2 gX7_burns_X7_leftOf rfl rfl rfl hdVX7_leftOf ⟨Nat.le_of_ble_eq_true rfl, Nat.le_of_ble_eq_true rfl⟩) ho.kind ⟨by decide, by decide⟩ rfl rfl rfl (Nat.le_of_ble_eq_true rfl) dX7_burns_68 ⟨Nat.le_of_ble_eq_true rfl, Nat.le_of_ble_eq_true rfl⟩ (cq_kIp fun r_68 h_68 => ?_)
          subst h_68
          refine cq_if_ne F (tgt := 78) dX7_burns_71 (by decide) (fun c_71 => ?_) (fun c_71 => ?_)
          · have c_71 : ¬ (ns_left (ns_burn2 g c) c) = 0 := fun z => c_71 ((nI_b (a := (ns_left (ns_burn2 g c) c)) (b := 0) (by omega) (by omega)).2.2.mpr z)
            refine cq_iconst F (v := 0) dX7_burns_78 rfl ?_
            exact cq_zret F hr (by rfl) (by decide) (by decide) dX7_burns_79 ⟨_, rfl, ⟨by first | exact (if_pos ⟨by omega, by omega⟩).symm | exact (if_neg (fun z => absurd z.1 (by omega))).symm | exact (if_neg (fun z => absurd z.2 (by omega))).symm, w_62, ((cq_only.rf.up h_28).up h_59)⟩⟩
          · have c_71 : (ns_left (ns_burn2 g c) c) = 0 := (nI_b (a := (ns_left (ns_burn2 g c) c)) (b := 0) (by omega) (by omega)).2.2.mp c_71
            refine cq_iconst F (v := 1) dX7_burns_74 rfl ?_
            refine cq_goto F (tgt := 79) dX7_burns_75 (by decide) ?_
            exact cq_zret F hr (by rfl) (by decide) (by decide) dX7_burns_79 ⟨_, rfl, ⟨by first | exact (if_pos ⟨by omega, by omega⟩).symm | exact (if_neg (fun z => absurd z.1 (by omega))).symm | exact (if_neg (fun z => absurd z.2 (by omega))).symm, w_62, ((cq_only.rf.up h_28).up h_59)⟩⟩
theorem hdVX7_burns : yX7_burns.cls = RX7 ∧ yX7_burns.cls ≠ "java/lang/invoke/MethodHandle" ∧ yX7_burns.cls ≠ "java/lang/invoke/VarHandle" ∧ (parseMethodDescriptor yX7_burns.desc).map (fun d => d.parameters.length) = some 1 := by decide +kernel
