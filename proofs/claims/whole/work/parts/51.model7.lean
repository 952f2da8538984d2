/-! CordClockModel: dropRules, the buffer, undo, snapshots, cord -/
abbrev rmX7_dropRules : Room := ({ frames := 1, cells := 0, slots := 0, locals := 21 })
set_option maxHeartbeats 4000000 in
set_option maxRecDepth 100000 in
theorem kX7_dropRules (l : Launch) (D : va_G) (cA : Nat → ClassId) (X : cq_X) (Bs : Nat) (o B : Nat) (S : as_T) (M : cq_M) (ho : cq_isModel X o) (h : cm M o S) (hk : as_ok S B) : cq_C l yX7_dropRules wsX7_dropRules rmX7_dropRules D cA X Bs [.ref o] M (cq_PI (fun r M1 => mq (op_drop S) r M M1 o)) 0 0 := by
  refine cq_met (cc := cX7_dropRules) (maxL := 3) (ret := (some .int)) (by decide) rfl (Nat.le_of_ble_eq_true rfl) [(0, .ref o)] rfl rfl ?_
  intro p9 e9 s9 m9 b9 t9 c9 F hr
  have inX7 : ∀ w ∈ wsX70, w ∈ wsX7_dropRules := (fun w h => List.mem_cons_of_mem _ (List.mem_append_right _ h))
  have loop_27 : ∀ (n_27 : Nat) (Mb : cq_M) (k : Nat) (M2 : cq_M) (g2 : Nat → Nat), cm Mb o (so_save S) → Mb o 6 = nI 0 → cr_fr M Mb o 15 → k ≤ 32 → cq_nv M2 (o + 1) 109 g2 → cq_only Mb M2 (o + 1) → (∀ j, g2 j = if j = 51 ∨ (52 ≤ j ∧ j < 52 + k) then 0 else S_g S j) → 32 - k < n_27 → cq_V p9 l e9 rmX7_dropRules s9 m9 ([.ref o] : List Value).toArray b9 t9 c9 D cA X Bs 3 0 0 (MQ b9 (cq_Q D cA X Bs (cq_PI (fun r M1 => mq (op_drop S) r M M1 o))) ([.ref o] : List Value).toArray s9 0 0 (cq_A Bs)) 27 [(0, .ref o), (1, .int (nI (S_g S 51))), (2, .int (nI k))] [] M2 := by
    intro n_27
    induction n_27 with
    | zero =>
      intros
      omega
    | succ n_27 ih_27 =>
      intro Mb k M2 g2 qs z6 fs hk9 hg2 ho2 he2 hn
      refine cq_iload_n F (i := 2) dX7_dropRules_27 rfl rfl ?_
      refine cq_bipush F (v := 32) dX7_dropRules_28 (by decide) ?_
      refine cq_icmp_ge F (tgt := 49) dX7_dropRules_30 (by decide) (fun c_30 => ?_) (fun c_30 => ?_)
      · have c_30 : 32 ≤ k := (nI_b (a := 32) (b := k) (by omega) (by omega)).1.mp c_30
        refine cq_iload_n F (i := 1) dX7_dropRules_49 rfl rfl ?_
        refine cq_iret F hr (by decide) (by decide) dX7_dropRules_50 ⟨_, rfl, ?_⟩
        obtain rfl : k = 32 := by omega
        have eg : g2 = ns_drop (S_g S) := funext fun j => by
          rw [he2]
          unfold ns_drop
          by_cases z : j = 51 ∨ (52 ≤ j ∧ j < 84)
          · rw [if_pos z]
          · rw [if_neg z]
        rw [eg] at hg2
        exact ⟨by rw [ho2 _ (by omega)]; exact z6, fun _ => rfl, qs.row hg2 ho2, fs.trans (fun x hx => ho2 x (by omega))⟩
      · have c_30 : ¬ 32 ≤ k := fun z => c_30 ((nI_b (a := 32) (b := k) (by omega) (by omega)).1.mpr z)
        refine cq_aload_n F (i := 0) dX7_dropRules_33 rfl rfl ?_
        refine cq_getT (t := (o + 1)) F (C := RX7) (T := TX7) (N := 22) (ci := 8) ho.kind rfl ⟨⟨by decide, by decide⟩, rfl⟩ inX7 0 (by decide) rfl rfl ho.t0 (F.1.2.2.2.2 _ (List.mem_of_getElem? (l := wsX7_dropRules) (i := 2) (a := .fieldLink RX7 7 "CordClockModel" "row" "[I") (by decide +kernel))) dX7_dropRules_34 ?_
        refine cq_bipush F (v := 52) dX7_dropRules_37 (by decide) ?_
        refine cq_iload_n F (i := 2) dX7_dropRules_39 rfl rfl ?_
        refine cq_iadd F dX7_dropRules_40 ?_
        rw [show (52 + nI k : Int32) = nI (52 + k) from nI_add _ _]
        refine cq_iconst F (v := 0) dX7_dropRules_41 rfl ?_
        refine cq_iast_j F (j := (52 + k)) ho.k1 ho.n1 rfl ⟨(by omega), by decide⟩ dX7_dropRules_42 (fun M_42 h_42 => ?_)
        obtain ⟨g_42, eg_42⟩ : ∃ z, z = ns_up g2 ((52 + k)) (0) := ⟨_, rfl⟩
        have v_42_o1 : cq_nv M_42 (o + 1) 109 g_42 := by rw [eg_42]; exact hg2.up h_42
        refine cq_iinc F dX7_dropRules_43 rfl (by decide) (fun x_43 e_43 => ?_)
        obtain rfl : x_43 = nI (k + 1) := by rw [e_43]; exact nI_1 _
        refine cq_goto F (tgt := 27) dX7_dropRules_46 (by decide) ?_
        refine cq_loc (L2 := [(0, .ref o), (1, .int (nI (S_g S 51))), (2, .int (nI (k + 1)))]) rfl ?_
        exact ih_27 Mb (k + 1) M_42 _ qs z6 fs (by omega) v_42_o1 (ho2.up h_42) (fun j => by rw [eg_42]; simp only [ns_up, he2]; (repeat' split) <;> first | rfl | (exfalso; omega)) (by omega)
  refine cq_aload_n F (i := 0) dX7_dropRules_0 rfl rfl ?_
  refine cq_iconst F (v := 0) dX7_dropRules_1 rfl ?_
  refine cq_put F (C := RX7) (T := TX7) (N := 22) (ci := 8) ho.kind rfl ⟨⟨by decide, by decide⟩, rfl⟩ inX7 tyX7 tyX7_ok nmX7 6 (by decide) rfl rfl (F.1.2.2.2.2 _ (List.mem_of_getElem? (l := wsX7_dropRules) (i := 1) (a := .fieldLink RX7 53 "CordClockModel" "thrown" "I") (by decide +kernel))) rfl (by rfl) (by rfl) dX7_dropRules_2 (fun M_2 h_2 => ?_)
  have v_2_o1 := h.1.ne h_2 (by omega)
  have q2 := h.o h_2 (by omega) (by omega)
  have f2 : cr_fr M M_2 o 15 := cr_fr.rf.up h_2 (by omega) (by omega)
  refine cq_aload_n F (i := 0) dX7_dropRules_5 rfl rfl ?_
  refine cq_callV F (C := RX7) (ci := 8) (kX7_save l D cA X Bs o B S M_2 ho q2 hk) (cwV 0 F.1.2.2.2.2 gX7_dropRules_X7_save rfl rfl rfl hdVX7_save ⟨Nat.le_of_ble_eq_true rfl, Nat.le_of_ble_eq_true rfl⟩) ho.kind ⟨by decide, by decide⟩ rfl rfl rfl (Nat.le_of_ble_eq_true rfl) dX7_dropRules_6 ⟨Nat.le_of_ble_eq_true rfl, Nat.le_of_ble_eq_true rfl⟩ (cq_kV fun M_6 h_6 => ?_)
  have z6 : M_6 o 6 = nI 0 := by rw [h_6.2.2 6 (by omega), h_2]; exact cq_up_s _ _ _ _
  have fs : cr_fr M M_6 o 15 := f2.trans h_6.2.1
  have qs := h_6.1
  refine cq_aload_n F (i := 0) dX7_dropRules_9 rfl rfl ?_
  refine cq_getT (t := (o + 1)) F (C := RX7) (T := TX7) (N := 22) (ci := 8) ho.kind rfl ⟨⟨by decide, by decide⟩, rfl⟩ inX7 0 (by decide) rfl rfl ho.t0 (F.1.2.2.2.2 _ (List.mem_of_getElem? (l := wsX7_dropRules) (i := 2) (a := .fieldLink RX7 7 "CordClockModel" "row" "[I") (by decide +kernel))) dX7_dropRules_10 ?_
  refine cq_bipush F (v := 51) dX7_dropRules_13 (by decide) ?_
  refine cq_iald_j F (j := 51) ho.k1 ho.n1 rfl ⟨(by omega), by decide⟩ dX7_dropRules_15 ?_
  rw [h_6.1.1 _ (by omega)]
  refine cq_istore_n F (i := 1) dX7_dropRules_16 rfl (by decide) ?_
  refine cq_aload_n F (i := 0) dX7_dropRules_17 rfl rfl ?_
  refine cq_getT (t := (o + 1)) F (C := RX7) (T := TX7) (N := 22) (ci := 8) ho.kind rfl ⟨⟨by decide, by decide⟩, rfl⟩ inX7 0 (by decide) rfl rfl ho.t0 (F.1.2.2.2.2 _ (List.mem_of_getElem? (l := wsX7_dropRules) (i := 2) (a := .fieldLink RX7 7 "CordClockModel" "row" "[I") (by decide +kernel))) dX7_dropRules_18 ?_
  refine cq_bipush F (v := 51) dX7_dropRules_21 (by decide) ?_
  refine cq_iconst F (v := 0) dX7_dropRules_23 rfl ?_
  refine cq_iast_j F (j := 51) ho.k1 ho.n1 rfl ⟨(by omega), by decide⟩ dX7_dropRules_24 (fun M_24 h_24 => ?_)
  obtain ⟨g_24, eg_24⟩ : ∃ z, z = ns_up (S_g S) (51) (0) := ⟨_, rfl⟩
  have v_24_o1 : cq_nv M_24 (o + 1) 109 g_24 := by rw [eg_24]; exact h_6.1.1.up h_24
  refine cq_iconst F (v := 0) dX7_dropRules_25 rfl ?_
  refine cq_istore_n F (i := 2) dX7_dropRules_26 rfl (by decide) ?_
  refine cq_loc (L2 := [(0, .ref o), (1, .int (nI (S_g S 51))), (2, .int (nI 0))]) rfl ?_
  exact loop_27 33 M_6 0 M_24 _ qs z6 fs (by omega) v_24_o1 (cq_only.rf.up h_24) (fun j => by rw [eg_24]; simp only [ns_up]; (repeat' split) <;> first | rfl | (exfalso; omega)) (by omega)
theorem hdVX7_dropRules : yX7_dropRules.cls = RX7 ∧ yX7_dropRules.cls ≠ "java/lang/invoke/MethodHandle" ∧ yX7_dropRules.cls ≠ "java/lang/invoke/VarHandle" ∧ (parseMethodDescriptor yX7_dropRules.desc).map (fun d => d.parameters.length) = some 0 := by decide +kernel
abbrev rmX7_append : Room := ({ frames := 1, cells := 0, slots := 0, locals := 22 })
set_option maxHeartbeats 4000000 in
set_option maxRecDepth 100000 in
theorem kX7_append (l : Launch) (D : va_G) (cA : Nat → ClassId) (X : cq_X) (Bs : Nat) (o B : Nat) (S : as_T) (u : Int32) (M : cq_M) (ho : cq_isModel X o) (h : cm M o S) (hk : as_ok S B) : cq_C l yX7_append wsX7_append rmX7_append D cA X Bs [.ref o, .int u] M (cq_PI (fun r M1 => mq (op_append S u) r M M1 o)) 0 0 := by
  refine cq_met (cc := cX7_append) (maxL := 2) (ret := (some .int)) (by decide) rfl (Nat.le_of_ble_eq_true rfl) [(0, .ref o), (1, .int u)] rfl rfl ?_
  intro p9 e9 s9 m9 b9 t9 c9 F hr
  have inX7 : ∀ w ∈ wsX70, w ∈ wsX7_append := (fun w h => List.mem_cons_of_mem _ (List.mem_append_right _ h))
  have hl60 := hk.2.2.2.2.2.1
  refine cq_aload_n F (i := 0) dX7_append_0 rfl rfl ?_
  refine cq_iconst F (v := 0) dX7_append_1 rfl ?_
  refine cq_put F (C := RX7) (T := TX7) (N := 22) (ci := 8) ho.kind rfl ⟨⟨by decide, by decide⟩, rfl⟩ inX7 tyX7 tyX7_ok nmX7 6 (by decide) rfl rfl (F.1.2.2.2.2 _ (List.mem_of_getElem? (l := wsX7_append) (i := 1) (a := .fieldLink RX7 53 "CordClockModel" "thrown" "I") (by decide +kernel))) rfl (by rfl) (by rfl) dX7_append_2 (fun M_2 h_2 => ?_)
  have v_2_o1 := h.1.ne h_2 (by omega)
  have q2 := h.o h_2 (by omega) (by omega)
  have f2 : cr_fr M M_2 o 15 := cr_fr.rf.up h_2 (by omega) (by omega)
  refine cq_iload_n F (i := 1) dX7_append_5 rfl rfl ?_
  refine cq_bipush F (v := 33) dX7_append_6 (by decide) ?_
  refine cq_bipush F (v := 126) dX7_append_8 (by decide) ?_
  refine cq_callS F (kX7_in l D cA X Bs u 33 126 M_2) (va_cwS 3 F.1.2.2.2.2 gX7_append_X7_in rfl rfl rfl hdVX7_in.2 ⟨Nat.le_of_ble_eq_true rfl, Nat.le_of_ble_eq_true rfl⟩) rfl (Nat.le_of_ble_eq_true rfl) dX7_append_10 ⟨Nat.le_of_ble_eq_true rfl, Nat.le_of_ble_eq_true rfl⟩ (cq_kIp fun r_10 h_10 => ?_)
  refine cq_if_ne F (tgt := 22) dX7_append_13 (by decide) (fun c_13 => ?_) (fun c_13 => ?_)
  · have c_13 := cq_b1 h_10 c_13
    have c_13b := c_13
    obtain ⟨q, hq1, hq2, rfl⟩ := nI_ab (a := 33) (b := 126) (by omega) (by omega) c_13
    have eq : (nI q).toNatClampNeg = q := nI_clamp (by omega)
    refine cq_aload_n F (i := 0) dX7_append_22 rfl rfl ?_
    refine cq_getI F (C := RX7) (T := TX7) (N := 22) (ci := 8) ho.kind rfl ⟨⟨by decide, by decide⟩, rfl⟩ inX7 8 (by decide) rfl rfl (F.1.2.2.2.2 _ (List.mem_of_getElem? (l := wsX7_append) (i := 2) (a := .fieldLink RX7 139 "CordClockModel" "length" "I") (by decide +kernel))) dX7_append_23 ?_
    rw [show M_2 o 8 = nI (S_l S) from (show M_2 o 8 = nI (S_l S) from (by rw [h_2, cq_up_k (by omega)]; exact h.2.2.2.2.1))]
    refine cq_bipush F (v := 60) dX7_append_26 (by decide) ?_
    refine cq_icmp_ne F (tgt := 37) dX7_append_28 (by decide) (fun c_28 => ?_) (fun c_28 => ?_)
    · have c_28 : ¬ (S_l S) = 60 := fun z => c_28 ((nI_b (a := (S_l S)) (b := 60) (by omega) (by omega)).2.2.mpr z)
      refine cq_aload_n F (i := 0) dX7_append_37 rfl rfl ?_
      refine cq_getT (t := (o + 6)) F (C := RX7) (T := TX7) (N := 22) (ci := 8) ho.kind rfl ⟨⟨by decide, by decide⟩, rfl⟩ inX7 7 (by decide) rfl rfl ho.t7 (F.1.2.2.2.2 _ (List.mem_of_getElem? (l := wsX7_append) (i := 3) (a := .fieldLink RX7 26 "CordClockModel" "buffer" "[I") (by decide +kernel))) dX7_append_38 ?_
      refine cq_aload_n F (i := 0) dX7_append_41 rfl rfl ?_
      refine cq_getI F (C := RX7) (T := TX7) (N := 22) (ci := 8) ho.kind rfl ⟨⟨by decide, by decide⟩, rfl⟩ inX7 8 (by decide) rfl rfl (F.1.2.2.2.2 _ (List.mem_of_getElem? (l := wsX7_append) (i := 2) (a := .fieldLink RX7 139 "CordClockModel" "length" "I") (by decide +kernel))) dX7_append_42 ?_
      rw [show M_2 o 8 = nI (S_l S) from (show M_2 o 8 = nI (S_l S) from (by rw [h_2, cq_up_k (by omega)]; exact h.2.2.2.2.1))]
      refine cq_iload_n F (i := 1) dX7_append_45 rfl rfl ?_
      refine cq_iast_j F (j := (S_l S)) ho.k6 ho.n6 rfl ⟨(by omega), by decide⟩ dX7_append_46 (fun M_46 h_46 => ?_)
      have v_46_o1 := v_2_o1.ne h_46 (by omega)
      refine cq_aload_n F (i := 0) dX7_append_47 rfl rfl ?_
      refine cq_dup F dX7_append_48 rfl ?_
      refine cq_getI F (C := RX7) (T := TX7) (N := 22) (ci := 8) ho.kind rfl ⟨⟨by decide, by decide⟩, rfl⟩ inX7 8 (by decide) rfl rfl (F.1.2.2.2.2 _ (List.mem_of_getElem? (l := wsX7_append) (i := 2) (a := .fieldLink RX7 139 "CordClockModel" "length" "I") (by decide +kernel))) dX7_append_49 ?_
      rw [show M_46 o 8 = nI (S_l S) from (show M_46 o 8 = nI (S_l S) from (by rw [h_46, cq_up_a (by omega), h_2, cq_up_k (by omega)]; exact h.2.2.2.2.1))]
      refine cq_iconst F (v := 1) dX7_append_52 rfl ?_
      refine cq_iadd F dX7_append_53 ?_
      rw [show (nI (S_l S) + 1 : Int32) = nI ((S_l S) + 1) from nI_add _ _]
      refine cq_put F (C := RX7) (T := TX7) (N := 22) (ci := 8) ho.kind rfl ⟨⟨by decide, by decide⟩, rfl⟩ inX7 tyX7 tyX7_ok nmX7 8 (by decide) rfl rfl (F.1.2.2.2.2 _ (List.mem_of_getElem? (l := wsX7_append) (i := 2) (a := .fieldLink RX7 139 "CordClockModel" "length" "I") (by decide +kernel))) rfl (by rfl) (by rfl) dX7_append_54 (fun M_54 h_54 => ?_)
      have v_54_o1 := v_46_o1.ne h_54 (by omega)
      refine cq_aload_n F (i := 0) dX7_append_57 rfl rfl ?_
      refine cq_getI F (C := RX7) (T := TX7) (N := 22) (ci := 8) ho.kind rfl ⟨⟨by decide, by decide⟩, rfl⟩ inX7 8 (by decide) rfl rfl (F.1.2.2.2.2 _ (List.mem_of_getElem? (l := wsX7_append) (i := 2) (a := .fieldLink RX7 139 "CordClockModel" "length" "I") (by decide +kernel))) dX7_append_58 ?_
      rw [show M_54 o 8 = nI (((S_l S) + 1)) from (show M_54 o 8 = nI (((S_l S) + 1)) from (by rw [h_54]; exact cq_up_s _ _ _ _))]
      refine cq_iret F hr (by decide) (by decide) dX7_append_61 ⟨_, rfl, ?_⟩
      have e : op_append S (nI q) = (0, nI (S_l S + 1), so_text S (ns_up (S_t S) (S_l S) q) (S_l S + 1)) := by unfold op_append; rw [if_pos c_13b, if_pos (by omega), eq]
      rw [e]
      refine ⟨by rw [h_54, cq_up_k (by omega), h_46, cq_up_a (by omega), h_2]; exact cq_up_s _ _ _ _, fun _ => rfl, ?_, (f2.up h_46 (by omega) (by omega)).up h_54 (by omega) (by omega)⟩
      obtain ⟨a1, a2, a3, a4, a5, a6⟩ := h
      have f : ∀ x, x ≠ o → x ≠ o + 6 → M_54 x = M x := fun x x1 x2 => by rw [h_54, cq_up_row x1, h_46, cq_up_row x2, h_2, cq_up_row x1]
      have fo : ∀ j, j ≠ 6 → j ≠ 8 → M_54 o j = M o j := fun j j1 j2 => by rw [h_54, cq_up_k j2, h_46, cq_up_a (by omega), h_2, cq_up_k j1]
      refine ⟨fun k hk9 => by rw [f _ (by omega) (by omega)]; exact a1 k hk9, by rw [fo 2 (by omega) (by omega)]; exact a2, fun i hi k hk9 => by rw [f _ (by omega) (by omega)]; exact a3 i hi k hk9, fun i hi => ⟨by rw [f _ (by omega) (by omega)]; exact (a4 i hi).1, fun z k hk9 => by rw [f _ (by omega) (by omega)]; exact (a4 i hi).2 z k hk9⟩, by rw [h_54]; exact cq_up_s _ _ _ _, fun j hj => ?_⟩
      rw [h_54, cq_up_a (by omega), h_46]
      show cq_up M_2 (o + 6) (S_l S) (nI q) (o + 6) j = nI (ns_up (S_t S) (S_l S) q j)
      have hj2 : j < S_l S + 1 := hj
      by_cases e9 : j = S_l S
      · rw [e9, cq_up_s, ns_up_s]
      · rw [cq_up_k e9, ns_up_n e9, h_2, cq_up_a (by omega)]
        exact a6 j (by omega)
    · have c_28 : (S_l S) = 60 := (nI_b (a := (S_l S)) (b := 60) (by omega) (by omega)).2.2.mp c_28
      refine cq_aload_n F (i := 0) dX7_append_31 rfl rfl ?_
      refine cq_iconst F (v := 2) dX7_append_32 rfl ?_
      refine cq_callV F (C := RX7) (ci := 8) (kX7_fails l D cA X Bs o 2 M_2 ho) (cwV 1 F.1.2.2.2.2 gX7_append_X7_fails rfl rfl rfl hdVX7_fails ⟨Nat.le_of_ble_eq_true rfl, Nat.le_of_ble_eq_true rfl⟩) ho.kind ⟨by decide, by decide⟩ rfl rfl rfl (Nat.le_of_ble_eq_true rfl) dX7_append_33 ⟨Nat.le_of_ble_eq_true rfl, Nat.le_of_ble_eq_true rfl⟩ (cq_kI fun r_33 M_33 h_33 => ?_)
      obtain ⟨hr_33, h_33⟩ := h_33
      subst hr_33
      refine cq_iret F hr (by decide) (by decide) dX7_append_36 ⟨_, rfl, ?_⟩
      have e : op_append S (nI q) = (2, 0, S) := by unfold op_append; rw [if_pos c_13b, if_neg (by omega)]
      rw [e]
      exact ⟨by rw [h_33]; exact cq_up_s _ _ _ _, fun z => absurd (show (2 : Nat) = 0 from z) (by decide), q2.o h_33 (by omega) (by omega), f2.up h_33 (by omega) (by omega)⟩
  · have c_13 := cq_b0 h_10 c_13
    refine cq_aload_n F (i := 0) dX7_append_16 rfl rfl ?_
    refine cq_iconst F (v := 1) dX7_append_17 rfl ?_
    refine cq_callV F (C := RX7) (ci := 8) (kX7_fails l D cA X Bs o 1 M_2 ho) (cwV 1 F.1.2.2.2.2 gX7_append_X7_fails rfl rfl rfl hdVX7_fails ⟨Nat.le_of_ble_eq_true rfl, Nat.le_of_ble_eq_true rfl⟩) ho.kind ⟨by decide, by decide⟩ rfl rfl rfl (Nat.le_of_ble_eq_true rfl) dX7_append_18 ⟨Nat.le_of_ble_eq_true rfl, Nat.le_of_ble_eq_true rfl⟩ (cq_kI fun r_18 M_18 h_18 => ?_)
    obtain ⟨hr_18, h_18⟩ := h_18
    subst hr_18
    refine cq_iret F hr (by decide) (by decide) dX7_append_21 ⟨_, rfl, ?_⟩
    have e : op_append S u = (1, 0, S) := if_neg c_13
    rw [e]
    exact ⟨by rw [h_18]; exact cq_up_s _ _ _ _, fun z => absurd (show (1 : Nat) = 0 from z) (by decide), q2.o h_18 (by omega) (by omega), f2.up h_18 (by omega) (by omega)⟩
theorem hdVX7_append : yX7_append.cls = RX7 ∧ yX7_append.cls ≠ "java/lang/invoke/MethodHandle" ∧ yX7_append.cls ≠ "java/lang/invoke/VarHandle" ∧ (parseMethodDescriptor yX7_append.desc).map (fun d => d.parameters.length) = some 1 := by decide +kernel
abbrev rmX7_clearBuffer : Room := ({ frames := 0, cells := 0, slots := 0, locals := 0 })
set_option maxHeartbeats 4000000 in
set_option maxRecDepth 100000 in
theorem kX7_clearBuffer (l : Launch) (D : va_G) (cA : Nat → ClassId) (X : cq_X) (Bs : Nat) (o B : Nat) (S : as_T) (M : cq_M) (ho : cq_isModel X o) (h : cm M o S) (hk : as_ok S B) : cq_C l yX7_clearBuffer wsX7_clearBuffer rmX7_clearBuffer D cA X Bs [.ref o] M (cq_PI (fun r M1 => mq (op_clear S) r M M1 o)) 0 0 := by
  refine cq_met (cc := cX7_clearBuffer) (maxL := 2) (ret := (some .int)) (by decide) rfl (Nat.le_of_ble_eq_true rfl) [(0, .ref o)] rfl rfl ?_
  intro p9 e9 s9 m9 b9 t9 c9 F hr
  have inX7 : ∀ w ∈ wsX70, w ∈ wsX7_clearBuffer := (fun w h => List.mem_cons_of_mem _ (List.mem_append_right _ h))
  refine cq_aload_n F (i := 0) dX7_clearBuffer_0 rfl rfl ?_
  refine cq_iconst F (v := 0) dX7_clearBuffer_1 rfl ?_
  refine cq_put F (C := RX7) (T := TX7) (N := 22) (ci := 8) ho.kind rfl ⟨⟨by decide, by decide⟩, rfl⟩ inX7 tyX7 tyX7_ok nmX7 6 (by decide) rfl rfl (F.1.2.2.2.2 _ (List.mem_of_getElem? (l := wsX7_clearBuffer) (i := 1) (a := .fieldLink RX7 53 "CordClockModel" "thrown" "I") (by decide +kernel))) rfl (by rfl) (by rfl) dX7_clearBuffer_2 (fun M_2 h_2 => ?_)
  have q2 := h.o h_2 (by omega) (by omega)
  have f2 : cr_fr M M_2 o 15 := cr_fr.rf.up h_2 (by omega) (by omega)
  refine cq_aload_n F (i := 0) dX7_clearBuffer_5 rfl rfl ?_
  refine cq_getI F (C := RX7) (T := TX7) (N := 22) (ci := 8) ho.kind rfl ⟨⟨by decide, by decide⟩, rfl⟩ inX7 8 (by decide) rfl rfl (F.1.2.2.2.2 _ (List.mem_of_getElem? (l := wsX7_clearBuffer) (i := 2) (a := .fieldLink RX7 139 "CordClockModel" "length" "I") (by decide +kernel))) dX7_clearBuffer_6 ?_
  rw [show M_2 o 8 = nI (S_l S) from (show M_2 o 8 = nI (S_l S) from (by rw [h_2, cq_up_k (by omega)]; exact h.2.2.2.2.1))]
  refine cq_istore_n F (i := 1) dX7_clearBuffer_9 rfl (by decide) ?_
  refine cq_aload_n F (i := 0) dX7_clearBuffer_10 rfl rfl ?_
  refine cq_iconst F (v := 0) dX7_clearBuffer_11 rfl ?_
  refine cq_put F (C := RX7) (T := TX7) (N := 22) (ci := 8) ho.kind rfl ⟨⟨by decide, by decide⟩, rfl⟩ inX7 tyX7 tyX7_ok nmX7 8 (by decide) rfl rfl (F.1.2.2.2.2 _ (List.mem_of_getElem? (l := wsX7_clearBuffer) (i := 2) (a := .fieldLink RX7 139 "CordClockModel" "length" "I") (by decide +kernel))) rfl (by rfl) (by rfl) dX7_clearBuffer_12 (fun M_12 h_12 => ?_)
  refine cq_iload_n F (i := 1) dX7_clearBuffer_15 rfl rfl ?_
  refine cq_iret F hr (by decide) (by decide) dX7_clearBuffer_16 ⟨_, rfl, ?_⟩
  obtain ⟨a1, a2, a3, a4, a5, a6⟩ := q2
  exact ⟨by rw [h_12, cq_up_k (by omega), h_2]; exact cq_up_s _ _ _ _, fun _ => rfl, ⟨fun k hk9 => by rw [h_12, cq_up_a (by omega)]; exact a1 k hk9, by rw [h_12, cq_up_k (by omega)]; exact a2, fun i hi k hk9 => by rw [h_12, cq_up_a (by omega)]; exact a3 i hi k hk9, fun i hi => ⟨by rw [h_12, cq_up_a (by omega)]; exact (a4 i hi).1, fun z k hk9 => by rw [h_12, cq_up_a (by omega)]; exact (a4 i hi).2 z k hk9⟩, by rw [h_12]; exact cq_up_s _ _ _ _, fun j hj => absurd hj (Nat.not_lt_zero _)⟩, f2.up h_12 (by omega) (by omega)⟩
theorem hdVX7_clearBuffer : yX7_clearBuffer.cls = RX7 ∧ yX7_clearBuffer.cls ≠ "java/lang/invoke/MethodHandle" ∧ yX7_clearBuffer.cls ≠ "java/lang/invoke/VarHandle" ∧ (parseMethodDescriptor yX7_clearBuffer.desc).map (fun d => d.parameters.length) = some 0 := by decide +kernel
abbrev rmX7_undo : Room := ({ frames := 1, cells := 0, slots := 0, locals := 21 })
set_option maxHeartbeats 4000000 in
set_option maxRecDepth 100000 in
theorem kX7_undo (l : Launch) (D : va_G) (cA : Nat → ClassId) (X : cq_X) (Bs : Nat) (o B : Nat) (S : as_T) (M : cq_M) (ho : cq_isModel X o) (h : cm M o S) (hk : as_ok S B) : cq_C l yX7_undo wsX7_undo rmX7_undo D cA X Bs [.ref o] M (cq_PI (fun r M1 => mq (op_undo S) r M M1 o)) 0 0 := by
  refine cq_met (cc := cX7_undo) (maxL := 2) (ret := (some .int)) (by decide) rfl (Nat.le_of_ble_eq_true rfl) [(0, .ref o)] rfl rfl ?_
  intro p9 e9 s9 m9 b9 t9 c9 F hr
  have inX7 : ∀ w ∈ wsX70, w ∈ wsX7_undo := (fun w h => List.mem_cons_of_mem _ (List.mem_append_right _ h))
  have hn6 := hk.2.2.2.2.1
  have loop_30 : ∀ (n_30 : Nat) (Mb : cq_M) (k : Nat) (M2 : cq_M), ¬ S_n S = 0 → (∀ x, x ≠ o → Mb x = M x) → (∀ j, j ≠ 6 → j ≠ 2 → Mb o j = M o j) → Mb o 6 = nI 0 → Mb o 2 = nI (S_n S - 1) → k ≤ 109 → cq_only Mb M2 (o + 1) → (∀ j, j < k → M2 (o + 1) j = Mb (o + 2) (109 * (S_n S - 1) + j)) → 109 - k < n_30 → cq_V p9 l e9 rmX7_undo s9 m9 ([.ref o] : List Value).toArray b9 t9 c9 D cA X Bs 2 0 0 (MQ b9 (cq_Q D cA X Bs (cq_PI (fun r M1 => mq (op_undo S) r M M1 o))) ([.ref o] : List Value).toArray s9 0 0 (cq_A Bs)) 30 [(0, .ref o), (1, .int (nI k))] [] M2 := by
    intro n_30
    induction n_30 with
    | zero =>
      intros
      omega
    | succ n_30 ih_30 =>
      intro Mb k M2 hn0 hb1 hb2 hb6 hb3 hk9 hb4 hb5 hn
      have hn6 := hk.2.2.2.2.1
      refine cq_iload_n F (i := 1) dX7_undo_30 rfl rfl ?_
      refine cq_bipush F (v := 109) dX7_undo_31 (by decide) ?_
      refine cq_icmp_ge F (tgt := 62) dX7_undo_33 (by decide) (fun c_33 => ?_) (fun c_33 => ?_)
      · have c_33 : 109 ≤ k := (nI_b (a := 109) (b := k) (by omega) (by omega)).1.mp c_33
        refine cq_aload_n F (i := 0) dX7_undo_62 rfl rfl ?_
        refine cq_getI F (C := RX7) (T := TX7) (N := 22) (ci := 8) ho.kind rfl ⟨⟨by decide, by decide⟩, rfl⟩ inX7 2 (by decide) rfl rfl (F.1.2.2.2.2 _ (List.mem_of_getElem? (l := wsX7_undo) (i := 2) (a := .fieldLink RX7 61 "CordClockModel" "savedMany" "I") (by decide +kernel))) dX7_undo_63 ?_
        rw [show M2 o 2 = nI (S_n S - 1) from (show M2 o 2 = nI (S_n S - 1) from (by rw [hb4 o (by omega)]; exact hb3))]
        refine cq_iret F hr (by decide) (by decide) dX7_undo_66 ⟨_, rfl, ?_⟩
        obtain rfl : k = 109 := by omega
        have e : op_undo S = (0, nI (S_n S - 1), so_pop S) := if_neg hn0
        rw [e]
        obtain ⟨a1, a2, a3, a4, a5, a6⟩ := h
        have f : ∀ x, x ≠ o → x ≠ o + 1 → M2 x = M x := fun x x1 x2 => by rw [hb4 x x2, hb1 x x1]
        have fo : ∀ j, j ≠ 6 → j ≠ 2 → M2 o j = M o j := fun j j1 j2 => by rw [hb4 o (by omega), hb2 j j1 j2]
        refine ⟨by rw [hb4 o (by omega)]; exact hb6, fun _ => rfl, ⟨fun j hj => ?_, by rw [hb4 o (by omega)]; exact hb3, fun i hi j hj => by rw [f _ (by omega) (by omega)]; exact a3 i (by have h9 : i < S_n S - 1 := hi; omega) j hj, fun i hi => ⟨by rw [f _ (by omega) (by omega)]; exact (a4 i hi).1, fun z j hj => by rw [f _ (by omega) (by omega)]; exact (a4 i hi).2 z j hj⟩, by rw [fo 8 (by omega) (by omega)]; exact a5, fun j hj => by rw [f _ (by omega) (by omega)]; exact a6 j hj⟩, fun x hx => f x (by omega) (by omega)⟩
        rw [hb5 j hj, hb1 _ (by omega)]
        exact a3 (S_n S - 1) (by omega) j hj
      · have c_33 : ¬ 109 ≤ k := fun z => c_33 ((nI_b (a := 109) (b := k) (by omega) (by omega)).1.mpr z)
        refine cq_aload_n F (i := 0) dX7_undo_36 rfl rfl ?_
        refine cq_getT (t := (o + 1)) F (C := RX7) (T := TX7) (N := 22) (ci := 8) ho.kind rfl ⟨⟨by decide, by decide⟩, rfl⟩ inX7 0 (by decide) rfl rfl ho.t0 (F.1.2.2.2.2 _ (List.mem_of_getElem? (l := wsX7_undo) (i := 3) (a := .fieldLink RX7 7 "CordClockModel" "row" "[I") (by decide +kernel))) dX7_undo_37 ?_
        refine cq_iload_n F (i := 1) dX7_undo_40 rfl rfl ?_
        refine cq_aload_n F (i := 0) dX7_undo_41 rfl rfl ?_
        refine cq_getT (t := (o + 2)) F (C := RX7) (T := TX7) (N := 22) (ci := 8) ho.kind rfl ⟨⟨by decide, by decide⟩, rfl⟩ inX7 1 (by decide) rfl rfl ho.t1 (F.1.2.2.2.2 _ (List.mem_of_getElem? (l := wsX7_undo) (i := 4) (a := .fieldLink RX7 13 "CordClockModel" "saved" "[I") (by decide +kernel))) dX7_undo_42 ?_
        refine cq_bipush F (v := 109) dX7_undo_45 (by decide) ?_
        refine cq_aload_n F (i := 0) dX7_undo_47 rfl rfl ?_
        refine cq_getI F (C := RX7) (T := TX7) (N := 22) (ci := 8) ho.kind rfl ⟨⟨by decide, by decide⟩, rfl⟩ inX7 2 (by decide) rfl rfl (F.1.2.2.2.2 _ (List.mem_of_getElem? (l := wsX7_undo) (i := 2) (a := .fieldLink RX7 61 "CordClockModel" "savedMany" "I") (by decide +kernel))) dX7_undo_48 ?_
        rw [show M2 o 2 = nI (S_n S - 1) from (show M2 o 2 = nI (S_n S - 1) from (by rw [hb4 o (by omega)]; exact hb3))]
        refine cq_imul F dX7_undo_51 ?_
        rw [show (109 * nI (S_n S - 1) : Int32) = nI (109 * (S_n S - 1)) from pk_mul _ _]
        refine cq_iload_n F (i := 1) dX7_undo_52 rfl rfl ?_
        refine cq_iadd F dX7_undo_53 ?_
        rw [show (nI (109 * (S_n S - 1)) + nI k : Int32) = nI (109 * (S_n S - 1) + k) from nI_add _ _]
        refine cq_iald_j F (j := (109 * (S_n S - 1) + k)) ho.k2 ho.n2 rfl ⟨(by omega), by decide⟩ dX7_undo_54 ?_
        refine cq_iast_j F (j := k) ho.k1 ho.n1 rfl ⟨(by omega), by decide⟩ dX7_undo_55 (fun M_55 h_55 => ?_)
        refine cq_iinc F dX7_undo_56 rfl (by decide) (fun x_56 e_56 => ?_)
        obtain rfl : x_56 = nI (k + 1) := by rw [e_56]; exact nI_1 _
        refine cq_goto F (tgt := 30) dX7_undo_59 (by decide) ?_
        refine cq_loc (L2 := [(0, .ref o), (1, .int (nI (k + 1)))]) rfl ?_
        exact ih_30 Mb (k + 1) M_55 hn0 hb1 hb2 hb6 hb3 (by omega) (hb4.up h_55) (fun j hj => by
                rw [h_55]
                by_cases e9 : j = k
                · rw [e9, cq_up_s, hb4 _ (by omega)]
                · rw [cq_up_k e9]; exact hb5 j (by omega)) (by omega)
  refine cq_aload_n F (i := 0) dX7_undo_0 rfl rfl ?_
  refine cq_iconst F (v := 0) dX7_undo_1 rfl ?_
  refine cq_put F (C := RX7) (T := TX7) (N := 22) (ci := 8) ho.kind rfl ⟨⟨by decide, by decide⟩, rfl⟩ inX7 tyX7 tyX7_ok nmX7 6 (by decide) rfl rfl (F.1.2.2.2.2 _ (List.mem_of_getElem? (l := wsX7_undo) (i := 1) (a := .fieldLink RX7 53 "CordClockModel" "thrown" "I") (by decide +kernel))) rfl (by rfl) (by rfl) dX7_undo_2 (fun M_2 h_2 => ?_)
  have v_2_o1 := h.1.ne h_2 (by omega)
  have q2 := h.o h_2 (by omega) (by omega)
  have f2 : cr_fr M M_2 o 15 := cr_fr.rf.up h_2 (by omega) (by omega)
  refine cq_aload_n F (i := 0) dX7_undo_5 rfl rfl ?_
  refine cq_getI F (C := RX7) (T := TX7) (N := 22) (ci := 8) ho.kind rfl ⟨⟨by decide, by decide⟩, rfl⟩ inX7 2 (by decide) rfl rfl (F.1.2.2.2.2 _ (List.mem_of_getElem? (l := wsX7_undo) (i := 2) (a := .fieldLink RX7 61 "CordClockModel" "savedMany" "I") (by decide +kernel))) dX7_undo_6 ?_
  rw [show M_2 o 2 = nI (S_n S) from (show M_2 o 2 = nI (S_n S) from (by rw [h_2, cq_up_k (by omega)]; exact h.2.1))]
  refine cq_if_ne F (tgt := 18) dX7_undo_9 (by decide) (fun c_9 => ?_) (fun c_9 => ?_)
  · have c_9 : ¬ (S_n S) = 0 := fun z => c_9 ((nI_b (a := (S_n S)) (b := 0) (by omega) (by omega)).2.2.mpr z)
    refine cq_aload_n F (i := 0) dX7_undo_18 rfl rfl ?_
    refine cq_dup F dX7_undo_19 rfl ?_
    refine cq_getI F (C := RX7) (T := TX7) (N := 22) (ci := 8) ho.kind rfl ⟨⟨by decide, by decide⟩, rfl⟩ inX7 2 (by decide) rfl rfl (F.1.2.2.2.2 _ (List.mem_of_getElem? (l := wsX7_undo) (i := 2) (a := .fieldLink RX7 61 "CordClockModel" "savedMany" "I") (by decide +kernel))) dX7_undo_20 ?_
    rw [show M_2 o 2 = nI (S_n S) from (show M_2 o 2 = nI (S_n S) from (by rw [h_2, cq_up_k (by omega)]; exact h.2.1))]
    refine cq_iconst F (v := 1) dX7_undo_23 rfl ?_
    refine cq_isub F dX7_undo_24 ?_
    rw [show (nI (S_n S) - 1 : Int32) = nI ((S_n S) - 1) from pk_sub (a := (S_n S)) (b := 1) (by omega)]
    refine cq_put F (C := RX7) (T := TX7) (N := 22) (ci := 8) ho.kind rfl ⟨⟨by decide, by decide⟩, rfl⟩ inX7 tyX7 tyX7_ok nmX7 2 (by decide) rfl rfl (F.1.2.2.2.2 _ (List.mem_of_getElem? (l := wsX7_undo) (i := 2) (a := .fieldLink RX7 61 "CordClockModel" "savedMany" "I") (by decide +kernel))) rfl (by rfl) (by rfl) dX7_undo_25 (fun M_25 h_25 => ?_)
    have v_25_o1 := v_2_o1.ne h_25 (by omega)
    refine cq_iconst F (v := 0) dX7_undo_28 rfl ?_
    refine cq_istore_n F (i := 1) dX7_undo_29 rfl (by decide) ?_
    refine cq_loc (L2 := [(0, .ref o), (1, .int (nI 0))]) rfl ?_
    exact loop_30 110 M_25 0 M_25 (by omega) (fun x x1 => by rw [h_25, cq_up_row x1, h_2, cq_up_row x1]) (fun j j1 j2 => by rw [h_25, cq_up_k j2, h_2, cq_up_k j1]) (by rw [h_25, cq_up_k (by omega), h_2]; exact cq_up_s _ _ _ _) (by rw [h_25]; exact cq_up_s _ _ _ _) (by omega) cq_only.rf (fun j hj => absurd hj (Nat.not_lt_zero _)) (by omega)
  · have c_9 : (S_n S) = 0 := (nI_b (a := (S_n S)) (b := 0) (by omega) (by omega)).2.2.mp c_9
    refine cq_aload_n F (i := 0) dX7_undo_12 rfl rfl ?_
    refine cq_iconst F (v := 1) dX7_undo_13 rfl ?_
    refine cq_callV F (C := RX7) (ci := 8) (kX7_fails l D cA X Bs o 1 M_2 ho) (cwV 1 F.1.2.2.2.2 gX7_undo_X7_fails rfl rfl rfl hdVX7_fails ⟨Nat.le_of_ble_eq_true rfl, Nat.le_of_ble_eq_true rfl⟩) ho.kind ⟨by decide, by decide⟩ rfl rfl rfl (Nat.le_of_ble_eq_true rfl) dX7_undo_14 ⟨Nat.le_of_ble_eq_true rfl, Nat.le_of_ble_eq_true rfl⟩ (cq_kI fun r_14 M_14 h_14 => ?_)
    obtain ⟨hr_14, h_14⟩ := h_14
    subst hr_14
    refine cq_iret F hr (by decide) (by decide) dX7_undo_17 ⟨_, rfl, ?_⟩
    have e : op_undo S = (1, 0, S) := if_pos (by omega)
    rw [e]
    exact ⟨by rw [h_14]; exact cq_up_s _ _ _ _, fun z => absurd (show (1 : Nat) = 0 from z) (by decide), q2.o h_14 (by omega) (by omega), f2.up h_14 (by omega) (by omega)⟩
theorem hdVX7_undo : yX7_undo.cls = RX7 ∧ yX7_undo.cls ≠ "java/lang/invoke/MethodHandle" ∧ yX7_undo.cls ≠ "java/lang/invoke/VarHandle" ∧ (parseMethodDescriptor yX7_undo.desc).map (fun d => d.parameters.length) = some 0 := by decide +kernel
