/-! CordClockModel: snapshots, new cords -/
abbrev rmX7_keep : Room := ({ frames := 1, cells := 0, slots := 0, locals := 22 })
set_option maxHeartbeats 4000000 in
set_option maxRecDepth 100000 in
theorem kX7_keep (l : Launch) (D : va_G) (cA : Nat → ClassId) (X : cq_X) (Bs : Nat) (o B : Nat) (S : as_T) (u : Int32) (M : cq_M) (ho : cq_isModel X o) (h : cm M o S) (hk : as_ok S B) : cq_C l yX7_keep wsX7_keep rmX7_keep D cA X Bs [.ref o, .int u] M (cq_PI (fun r M1 => mq (op_keep S u) r M M1 o)) 0 0 := by
  refine cq_met (cc := cX7_keep) (maxL := 3) (ret := (some .int)) (by decide) rfl (Nat.le_of_ble_eq_true rfl) [(0, .ref o), (1, .int u)] rfl rfl ?_
  intro p9 e9 s9 m9 b9 t9 c9 F hr
  have inX7 : ∀ w ∈ wsX70, w ∈ wsX7_keep := (fun w h => List.mem_cons_of_mem _ (List.mem_append_right _ h))
  have loop_22 : ∀ (n_22 : Nat) (q : Nat) (Mb : cq_M) (k : Nat) (M2 : cq_M), u = nI q → q ≤ 1 → (∀ x, x ≠ o → Mb x = M x) → (∀ j, j ≠ 6 → Mb o j = M o j) → Mb o 6 = nI 0 → k ≤ 109 → (∀ x j, M2 x j = if x = o + 3 ∧ 109 * q ≤ j ∧ j < 109 * q + k then Mb (o + 1) (j - 109 * q) else Mb x j) → 109 - k < n_22 → cq_V p9 l e9 rmX7_keep s9 m9 ([.ref o, .int u] : List Value).toArray b9 t9 c9 D cA X Bs 3 0 0 (MQ b9 (cq_Q D cA X Bs (cq_PI (fun r M1 => mq (op_keep S u) r M M1 o))) ([.ref o, .int u] : List Value).toArray s9 0 0 (cq_A Bs)) 22 [(0, .ref o), (1, .int (nI q)), (2, .int (nI k))] [] M2 := by
    intro n_22
    induction n_22 with
    | zero =>
      intros
      omega
    | succ n_22 ih_22 =>
      intro q Mb k M2 equ hq2 hb1 hb2 hb6 hk9 h3 hn
      refine cq_iload_n F (i := 2) dX7_keep_22 rfl rfl ?_
      refine cq_bipush F (v := 109) dX7_keep_23 (by decide) ?_
      refine cq_icmp_ge F (tgt := 51) dX7_keep_25 (by decide) (fun c_25 => ?_) (fun c_25 => ?_)
      · have c_25 : 109 ≤ k := (nI_b (a := 109) (b := k) (by omega) (by omega)).1.mp c_25
        refine cq_aload_n F (i := 0) dX7_keep_51 rfl rfl ?_
        refine cq_getT (t := (o + 4)) F (C := RX7) (T := TX7) (N := 22) (ci := 8) ho.kind rfl ⟨⟨by decide, by decide⟩, rfl⟩ inX7 4 (by decide) rfl rfl ho.t4 (F.1.2.2.2.2 _ (List.mem_of_getElem? (l := wsX7_keep) (i := 4) (a := .fieldLink RX7 19 "CordClockModel" "isKept" "[Z") (by decide +kernel))) dX7_keep_52 ?_
        refine cq_iload_n F (i := 1) dX7_keep_55 rfl rfl ?_
        refine cq_iconst F (v := 1) dX7_keep_56 rfl ?_
        refine cq_zast_j F (j := q) ho.k4 ho.n4 rfl ⟨(by omega), by decide⟩ dX7_keep_57 (fun M_57 h_57 => ?_)
        refine cq_aload_n F (i := 0) dX7_keep_58 rfl rfl ?_
        refine cq_getT (t := (o + 1)) F (C := RX7) (T := TX7) (N := 22) (ci := 8) ho.kind rfl ⟨⟨by decide, by decide⟩, rfl⟩ inX7 0 (by decide) rfl rfl ho.t0 (F.1.2.2.2.2 _ (List.mem_of_getElem? (l := wsX7_keep) (i := 3) (a := .fieldLink RX7 7 "CordClockModel" "row" "[I") (by decide +kernel))) dX7_keep_59 ?_
        refine cq_iconst F (v := 0) dX7_keep_62 rfl ?_
        refine cq_iald_j F (j := 0) ho.k1 ho.n1 rfl ⟨(by omega), by decide⟩ dX7_keep_63 ?_
        rw [show M_57 (o + 1) 0 = nI (S_g S 0) by rw [h_57, cq_up_a (by omega), h3, if_neg (by omega), hb1 _ (by omega)]; exact h.1 0 (by omega)]
        refine cq_iret F hr (by decide) (by decide) dX7_keep_64 ⟨_, rfl, ?_⟩
        obtain rfl : k = 109 := by omega
        subst equ
        have e : op_keep S (nI q) = (0, nI (S_g S 0), so_keep S q) := by unfold op_keep; rw [if_pos (by exact nI_ab2 (a := 0) (b := 1) (by omega) (by omega) (by omega)), nI_clamp (by omega)]
        rw [e]
        obtain ⟨a1, a2, a3, a4, a5, a6⟩ := h
        have f : ∀ x, x ≠ o → x ≠ o + 3 → x ≠ o + 4 → M_57 x = M x := fun x x1 x2 x3 => by
          rw [h_57, cq_up_row x3]
          funext j
          rw [h3, if_neg (fun z => x2 z.1), hb1 x x1]
        have fo : ∀ j, j ≠ 6 → M_57 o j = M o j := fun j j1 => by rw [h_57, cq_up_a (by omega), h3, if_neg (by omega), hb2 j j1]
        refine ⟨by rw [h_57, cq_up_a (by omega), h3, if_neg (by omega)]; exact hb6, fun _ => rfl, ⟨fun j hj => by rw [f _ (by omega) (by omega) (by omega)]; exact a1 j hj, by rw [fo 2 (by omega)]; exact a2, fun i hi j hj => by rw [f _ (by omega) (by omega) (by omega)]; exact a3 i hi j hj, fun i hi => ⟨?_, fun z j hj => ?_⟩, by rw [fo 8 (by omega)]; exact a5, fun j hj => by rw [f _ (by omega) (by omega) (by omega)]; exact a6 j hj⟩, fun x hx => f x (by omega) (by omega) (by omega)⟩
        · rw [h_57]
          show cq_up M2 (o + 4) q _ (o + 4) i = nI (if i = q then 1 else S_k S i)
          by_cases e9 : i = q
          · rw [e9, cq_up_s, if_pos rfl]; rfl
          · rw [cq_up_k e9, if_neg e9, h3, if_neg (by omega), hb1 _ (by omega)]; exact (a4 i hi).1
        · have z2 : (if i = q then 1 else S_k S i) = 1 := z
          rw [h_57, cq_up_a (by omega), h3]
          show _ = nI ((if i = q then S.1 else S_s S i) j)
          by_cases e9 : i = q
          · rw [if_pos (by omega), if_pos e9, show 109 * i + j - 109 * q = j by omega, hb1 _ (by omega)]; exact a1 j hj
          · rw [if_neg e9] at z2
            rw [if_neg (by omega), if_neg e9, hb1 _ (by omega)]; exact (a4 i hi).2 z2 j hj
      · have c_25 : ¬ 109 ≤ k := fun z => c_25 ((nI_b (a := 109) (b := k) (by omega) (by omega)).1.mpr z)
        refine cq_aload_n F (i := 0) dX7_keep_28 rfl rfl ?_
        refine cq_getT (t := (o + 3)) F (C := RX7) (T := TX7) (N := 22) (ci := 8) ho.kind rfl ⟨⟨by decide, by decide⟩, rfl⟩ inX7 3 (by decide) rfl rfl ho.t3 (F.1.2.2.2.2 _ (List.mem_of_getElem? (l := wsX7_keep) (i := 2) (a := .fieldLink RX7 16 "CordClockModel" "snapshots" "[I") (by decide +kernel))) dX7_keep_29 ?_
        refine cq_bipush F (v := 109) dX7_keep_32 (by decide) ?_
        refine cq_iload_n F (i := 1) dX7_keep_34 rfl rfl ?_
        refine cq_imul F dX7_keep_35 ?_
        rw [show (109 * nI q : Int32) = nI (109 * q) from pk_mul _ _]
        refine cq_iload_n F (i := 2) dX7_keep_36 rfl rfl ?_
        refine cq_iadd F dX7_keep_37 ?_
        rw [show (nI (109 * q) + nI k : Int32) = nI (109 * q + k) from nI_add _ _]
        refine cq_aload_n F (i := 0) dX7_keep_38 rfl rfl ?_
        refine cq_getT (t := (o + 1)) F (C := RX7) (T := TX7) (N := 22) (ci := 8) ho.kind rfl ⟨⟨by decide, by decide⟩, rfl⟩ inX7 0 (by decide) rfl rfl ho.t0 (F.1.2.2.2.2 _ (List.mem_of_getElem? (l := wsX7_keep) (i := 3) (a := .fieldLink RX7 7 "CordClockModel" "row" "[I") (by decide +kernel))) dX7_keep_39 ?_
        refine cq_iload_n F (i := 2) dX7_keep_42 rfl rfl ?_
        refine cq_iald_j F (j := k) ho.k1 ho.n1 rfl ⟨(by omega), by decide⟩ dX7_keep_43 ?_
        refine cq_iast_j F (j := (109 * q + k)) ho.k3 ho.n3 rfl ⟨(by omega), by decide⟩ dX7_keep_44 (fun M_44 h_44 => ?_)
        refine cq_iinc F dX7_keep_45 rfl (by decide) (fun x_45 e_45 => ?_)
        obtain rfl : x_45 = nI (k + 1) := by rw [e_45]; exact nI_1 _
        refine cq_goto F (tgt := 22) dX7_keep_48 (by decide) ?_
        refine cq_loc (L2 := [(0, .ref o), (1, .int (nI q)), (2, .int (nI (k + 1)))]) rfl ?_
        exact ih_22 q Mb (k + 1) M_44 equ hq2 hb1 hb2 hb6 (by omega) (fun x j => by
                have e1 : M2 (o + 1) k = Mb (o + 1) k := by rw [h3, if_neg (by omega)]
                rw [h_44, e1]
                by_cases x1 : x = o + 3
                · subst x1
                  by_cases j1 : j = 109 * q + k
                  · subst j1; rw [cq_up_s, if_pos (by omega)]; congr 1; omega
                  · rw [cq_up_k j1, h3]
                    by_cases j2 : 109 * q ≤ j ∧ j < 109 * q + k
                    · rw [if_pos ⟨rfl, j2⟩, if_pos (by omega)]
                    · rw [if_neg (by omega), if_neg (by omega)]
                · rw [cq_up_a x1, h3, if_neg (fun z => x1 z.1), if_neg (fun z => x1 z.1)]) (by omega)
  refine cq_aload_n F (i := 0) dX7_keep_0 rfl rfl ?_
  refine cq_iconst F (v := 0) dX7_keep_1 rfl ?_
  refine cq_put F (C := RX7) (T := TX7) (N := 22) (ci := 8) ho.kind rfl ⟨⟨by decide, by decide⟩, rfl⟩ inX7 tyX7 tyX7_ok nmX7 6 (by decide) rfl rfl (F.1.2.2.2.2 _ (List.mem_of_getElem? (l := wsX7_keep) (i := 1) (a := .fieldLink RX7 53 "CordClockModel" "thrown" "I") (by decide +kernel))) rfl (by rfl) (by rfl) dX7_keep_2 (fun M_2 h_2 => ?_)
  have v_2_o1 := h.1.ne h_2 (by omega)
  have q2 := h.o h_2 (by omega) (by omega)
  have f2 : cr_fr M M_2 o 15 := cr_fr.rf.up h_2 (by omega) (by omega)
  refine cq_iload_n F (i := 1) dX7_keep_5 rfl rfl ?_
  refine cq_iconst F (v := 0) dX7_keep_6 rfl ?_
  refine cq_iconst F (v := 1) dX7_keep_7 rfl ?_
  refine cq_callS F (kX7_in l D cA X Bs u 0 1 M_2) (va_cwS 3 F.1.2.2.2.2 gX7_keep_X7_in rfl rfl rfl hdVX7_in.2 ⟨Nat.le_of_ble_eq_true rfl, Nat.le_of_ble_eq_true rfl⟩) rfl (Nat.le_of_ble_eq_true rfl) dX7_keep_8 ⟨Nat.le_of_ble_eq_true rfl, Nat.le_of_ble_eq_true rfl⟩ (cq_kIp fun r_8 h_8 => ?_)
  refine cq_if_ne F (tgt := 20) dX7_keep_11 (by decide) (fun c_11 => ?_) (fun c_11 => ?_)
  · have c_11 := cq_b1 h_8 c_11
    have c_11b := c_11
    obtain ⟨q, hq1, hq2, rfl⟩ := nI_ab (a := 0) (b := 1) (by omega) (by omega) c_11
    have eq : (nI q).toNatClampNeg = q := nI_clamp (by omega)
    refine cq_iconst F (v := 0) dX7_keep_20 rfl ?_
    refine cq_istore_n F (i := 2) dX7_keep_21 rfl (by decide) ?_
    refine cq_loc (L2 := [(0, .ref o), (1, .int (nI q)), (2, .int (nI 0))]) rfl ?_
    exact loop_22 110 q M_2 0 M_2 rfl (by omega) (fun x x1 => by rw [h_2, cq_up_row x1]) (fun j j1 => by rw [h_2, cq_up_k j1]) (by rw [h_2]; exact cq_up_s _ _ _ _) (by omega) (fun x j => by rw [if_neg (by omega)]) (by omega)
  · have c_11 := cq_b0 h_8 c_11
    refine cq_aload_n F (i := 0) dX7_keep_14 rfl rfl ?_
    refine cq_iconst F (v := 1) dX7_keep_15 rfl ?_
    refine cq_callV F (C := RX7) (ci := 8) (kX7_fails l D cA X Bs o 1 M_2 ho) (cwV 1 F.1.2.2.2.2 gX7_keep_X7_fails rfl rfl rfl hdVX7_fails ⟨Nat.le_of_ble_eq_true rfl, Nat.le_of_ble_eq_true rfl⟩) ho.kind ⟨by decide, by decide⟩ rfl rfl rfl (Nat.le_of_ble_eq_true rfl) dX7_keep_16 ⟨Nat.le_of_ble_eq_true rfl, Nat.le_of_ble_eq_true rfl⟩ (cq_kI fun r_16 M_16 h_16 => ?_)
    obtain ⟨hr_16, h_16⟩ := h_16
    subst hr_16
    refine cq_iret F hr (by decide) (by decide) dX7_keep_19 ⟨_, rfl, ?_⟩
    have e : op_keep S u = (1, 0, S) := if_neg c_11
    rw [e]
    exact ⟨by rw [h_16]; exact cq_up_s _ _ _ _, fun z => absurd (show (1 : Nat) = 0 from z) (by decide), q2.o h_16 (by omega) (by omega), f2.up h_16 (by omega) (by omega)⟩
theorem hdVX7_keep : yX7_keep.cls = RX7 ∧ yX7_keep.cls ≠ "java/lang/invoke/MethodHandle" ∧ yX7_keep.cls ≠ "java/lang/invoke/VarHandle" ∧ (parseMethodDescriptor yX7_keep.desc).map (fun d => d.parameters.length) = some 1 := by decide +kernel
abbrev rmX7_goBack : Room := ({ frames := 1, cells := 0, slots := 0, locals := 22 })
set_option maxHeartbeats 4000000 in
set_option maxRecDepth 100000 in
theorem kX7_goBack (l : Launch) (D : va_G) (cA : Nat → ClassId) (X : cq_X) (Bs : Nat) (o B : Nat) (S : as_T) (u : Int32) (M : cq_M) (ho : cq_isModel X o) (h : cm M o S) (hk : as_ok S B) : cq_C l yX7_goBack wsX7_goBack rmX7_goBack D cA X Bs [.ref o, .int u] M (cq_PI (fun r M1 => mq (op_back S u) r M M1 o)) 0 0 := by
  refine cq_met (cc := cX7_goBack) (maxL := 3) (ret := (some .int)) (by decide) rfl (Nat.le_of_ble_eq_true rfl) [(0, .ref o), (1, .int u)] rfl rfl ?_
  intro p9 e9 s9 m9 b9 t9 c9 F hr
  have inX7 : ∀ w ∈ wsX70, w ∈ wsX7_goBack := (fun w h => List.mem_cons_of_mem _ (List.mem_append_right _ h))
  have hk7 := hk.2.2.2.2.2.2
  have loop_41 : ∀ (n_41 : Nat) (q : Nat) (Mb : cq_M) (k : Nat) (M2 : cq_M) (g2 : Nat → Nat), u = nI q → q ≤ 1 → S_k S q = 1 → cm Mb o (so_save S) → Mb o 6 = nI 0 → cr_fr M Mb o 15 → k ≤ 109 → cq_nv M2 (o + 1) 109 g2 → cq_only Mb M2 (o + 1) → (∀ j, g2 j = if j < k then S_s S q j else S_g S j) → 109 - k < n_41 → cq_V p9 l e9 rmX7_goBack s9 m9 ([.ref o, .int u] : List Value).toArray b9 t9 c9 D cA X Bs 3 0 0 (MQ b9 (cq_Q D cA X Bs (cq_PI (fun r M1 => mq (op_back S u) r M M1 o))) ([.ref o, .int u] : List Value).toArray s9 0 0 (cq_A Bs)) 41 [(0, .ref o), (1, .int (nI q)), (2, .int (nI k))] [] M2 := by
    intro n_41
    induction n_41 with
    | zero =>
      intros
      omega
    | succ n_41 ih_41 =>
      intro q Mb k M2 g2 equ hq2 hkq qs z6 fs hk9 hg2 ho2 he2 hn
      refine cq_iload_n F (i := 2) dX7_goBack_41 rfl rfl ?_
      refine cq_bipush F (v := 109) dX7_goBack_42 (by decide) ?_
      refine cq_icmp_ge F (tgt := 70) dX7_goBack_44 (by decide) (fun c_44 => ?_) (fun c_44 => ?_)
      · have c_44 : 109 ≤ k := (nI_b (a := 109) (b := k) (by omega) (by omega)).1.mp c_44
        refine cq_aload_n F (i := 0) dX7_goBack_70 rfl rfl ?_
        refine cq_getT (t := (o + 1)) F (C := RX7) (T := TX7) (N := 22) (ci := 8) ho.kind rfl ⟨⟨by decide, by decide⟩, rfl⟩ inX7 0 (by decide) rfl rfl ho.t0 (F.1.2.2.2.2 _ (List.mem_of_getElem? (l := wsX7_goBack) (i := 3) (a := .fieldLink RX7 7 "CordClockModel" "row" "[I") (by decide +kernel))) dX7_goBack_71 ?_
        refine cq_iconst F (v := 0) dX7_goBack_74 rfl ?_
        refine cq_iald_j F (j := 0) ho.k1 ho.n1 rfl ⟨(by omega), by decide⟩ dX7_goBack_75 ?_
        rw [show M2 (o + 1) 0 = nI (S_s S q 0) by rw [hg2 _ (by omega), he2, if_pos (by omega)]]
        refine cq_iret F hr (by decide) (by decide) dX7_goBack_76 ⟨_, rfl, ?_⟩
        obtain rfl : k = 109 := by omega
        subst equ
        have e : op_back S (nI q) = (0, nI (S_s S q 0), so_g (so_save S) (S_s S q)) := by unfold op_back; rw [if_pos (by exact nI_ab2 (a := 0) (b := 1) (by omega) (by omega) (by omega)), nI_clamp (by omega), if_pos hkq]
        rw [e]
        exact ⟨by rw [ho2 _ (by omega)]; exact z6, fun _ => rfl, qs.row (hg2.ext (fun j hj => by rw [he2, if_pos hj])) ho2, fs.trans (fun x hx => ho2 x (by omega))⟩
      · have c_44 : ¬ 109 ≤ k := fun z => c_44 ((nI_b (a := 109) (b := k) (by omega) (by omega)).1.mpr z)
        refine cq_aload_n F (i := 0) dX7_goBack_47 rfl rfl ?_
        refine cq_getT (t := (o + 1)) F (C := RX7) (T := TX7) (N := 22) (ci := 8) ho.kind rfl ⟨⟨by decide, by decide⟩, rfl⟩ inX7 0 (by decide) rfl rfl ho.t0 (F.1.2.2.2.2 _ (List.mem_of_getElem? (l := wsX7_goBack) (i := 3) (a := .fieldLink RX7 7 "CordClockModel" "row" "[I") (by decide +kernel))) dX7_goBack_48 ?_
        refine cq_iload_n F (i := 2) dX7_goBack_51 rfl rfl ?_
        refine cq_aload_n F (i := 0) dX7_goBack_52 rfl rfl ?_
        refine cq_getT (t := (o + 3)) F (C := RX7) (T := TX7) (N := 22) (ci := 8) ho.kind rfl ⟨⟨by decide, by decide⟩, rfl⟩ inX7 3 (by decide) rfl rfl ho.t3 (F.1.2.2.2.2 _ (List.mem_of_getElem? (l := wsX7_goBack) (i := 4) (a := .fieldLink RX7 16 "CordClockModel" "snapshots" "[I") (by decide +kernel))) dX7_goBack_53 ?_
        refine cq_bipush F (v := 109) dX7_goBack_56 (by decide) ?_
        refine cq_iload_n F (i := 1) dX7_goBack_58 rfl rfl ?_
        refine cq_imul F dX7_goBack_59 ?_
        rw [show (109 * nI q : Int32) = nI (109 * q) from pk_mul _ _]
        refine cq_iload_n F (i := 2) dX7_goBack_60 rfl rfl ?_
        refine cq_iadd F dX7_goBack_61 ?_
        rw [show (nI (109 * q) + nI k : Int32) = nI (109 * q + k) from nI_add _ _]
        refine cq_iald_j F (j := (109 * q + k)) ho.k3 ho.n3 rfl ⟨(by omega), by decide⟩ dX7_goBack_62 ?_
        rw [show M2 (o + 3) (109 * q + k) = nI (S_s S q k) by rw [ho2 _ (by omega)]; exact (qs.2.2.2.1 q (by omega)).2 hkq k (by omega)]
        refine cq_iast_j F (j := k) ho.k1 ho.n1 rfl ⟨(by omega), by decide⟩ dX7_goBack_63 (fun M_63 h_63 => ?_)
        obtain ⟨g_63, eg_63⟩ : ∃ z, z = ns_up g2 (k) ((S_s S q k)) := ⟨_, rfl⟩
        have v_63_o1 : cq_nv M_63 (o + 1) 109 g_63 := by rw [eg_63]; exact hg2.up h_63
        refine cq_iinc F dX7_goBack_64 rfl (by decide) (fun x_64 e_64 => ?_)
        obtain rfl : x_64 = nI (k + 1) := by rw [e_64]; exact nI_1 _
        refine cq_goto F (tgt := 41) dX7_goBack_67 (by decide) ?_
        refine cq_loc (L2 := [(0, .ref o), (1, .int (nI q)), (2, .int (nI (k + 1)))]) rfl ?_
        exact ih_41 q Mb (k + 1) M_63 _ equ hq2 hkq qs z6 fs (by omega) v_63_o1 (ho2.up h_63) (fun j => by rw [eg_63]; simp only [ns_up, he2]; (repeat' split) <;> first | rfl | (exfalso; omega) | (congr 1; omega)) (by omega)
  refine cq_aload_n F (i := 0) dX7_goBack_0 rfl rfl ?_
  refine cq_iconst F (v := 0) dX7_goBack_1 rfl ?_
  refine cq_put F (C := RX7) (T := TX7) (N := 22) (ci := 8) ho.kind rfl ⟨⟨by decide, by decide⟩, rfl⟩ inX7 tyX7 tyX7_ok nmX7 6 (by decide) rfl rfl (F.1.2.2.2.2 _ (List.mem_of_getElem? (l := wsX7_goBack) (i := 1) (a := .fieldLink RX7 53 "CordClockModel" "thrown" "I") (by decide +kernel))) rfl (by rfl) (by rfl) dX7_goBack_2 (fun M_2 h_2 => ?_)
  have v_2_o1 := h.1.ne h_2 (by omega)
  have q2 := h.o h_2 (by omega) (by omega)
  have f2 : cr_fr M M_2 o 15 := cr_fr.rf.up h_2 (by omega) (by omega)
  refine cq_iload_n F (i := 1) dX7_goBack_5 rfl rfl ?_
  refine cq_iconst F (v := 0) dX7_goBack_6 rfl ?_
  refine cq_iconst F (v := 1) dX7_goBack_7 rfl ?_
  refine cq_callS F (kX7_in l D cA X Bs u 0 1 M_2) (va_cwS 3 F.1.2.2.2.2 gX7_goBack_X7_in rfl rfl rfl hdVX7_in.2 ⟨Nat.le_of_ble_eq_true rfl, Nat.le_of_ble_eq_true rfl⟩) rfl (Nat.le_of_ble_eq_true rfl) dX7_goBack_8 ⟨Nat.le_of_ble_eq_true rfl, Nat.le_of_ble_eq_true rfl⟩ (cq_kIp fun r_8 h_8 => ?_)
  refine cq_if_ne F (tgt := 20) dX7_goBack_11 (by decide) (fun c_11 => ?_) (fun c_11 => ?_)
  · have c_11 := cq_b1 h_8 c_11
    have c_11b := c_11
    obtain ⟨q, hq1, hq2, rfl⟩ := nI_ab (a := 0) (b := 1) (by omega) (by omega) c_11
    have eq : (nI q).toNatClampNeg = q := nI_clamp (by omega)
    have hkq1 := hk7 q (by omega)
    refine cq_aload_n F (i := 0) dX7_goBack_20 rfl rfl ?_
    refine cq_getT (t := (o + 4)) F (C := RX7) (T := TX7) (N := 22) (ci := 8) ho.kind rfl ⟨⟨by decide, by decide⟩, rfl⟩ inX7 4 (by decide) rfl rfl ho.t4 (F.1.2.2.2.2 _ (List.mem_of_getElem? (l := wsX7_goBack) (i := 2) (a := .fieldLink RX7 19 "CordClockModel" "isKept" "[Z") (by decide +kernel))) dX7_goBack_21 ?_
    refine cq_iload_n F (i := 1) dX7_goBack_24 rfl rfl ?_
    refine cq_zald_j F (j := q) ho.k4 ho.n4 rfl ⟨(by omega), by decide⟩ dX7_goBack_25 ?_
    rw [show M_2 (o + 4) q = nI (S_k S q) by rw [h_2, cq_up_a (by omega)]; exact (h.2.2.2.1 q (by omega)).1]
    refine cq_if_ne F (tgt := 35) dX7_goBack_26 (by decide) (fun c_26 => ?_) (fun c_26 => ?_)
    · have c_26 : ¬ (S_k S q) = 0 := fun z => c_26 ((nI_b (a := (S_k S q)) (b := 0) (by omega) (by omega)).2.2.mpr z)
      refine cq_aload_n F (i := 0) dX7_goBack_35 rfl rfl ?_
      refine cq_callV F (C := RX7) (ci := 8) (kX7_save l D cA X Bs o B S M_2 ho q2 hk) (cwV 0 F.1.2.2.2.2 gX7_goBack_X7_save rfl rfl rfl hdVX7_save ⟨Nat.le_of_ble_eq_true rfl, Nat.le_of_ble_eq_true rfl⟩) ho.kind ⟨by decide, by decide⟩ rfl rfl rfl (Nat.le_of_ble_eq_true rfl) dX7_goBack_36 ⟨Nat.le_of_ble_eq_true rfl, Nat.le_of_ble_eq_true rfl⟩ (cq_kV fun M_36 h_36 => ?_)
      have z6 : M_36 o 6 = nI 0 := by rw [h_36.2.2 6 (by omega), h_2]; exact cq_up_s _ _ _ _
      have fs : cr_fr M M_36 o 15 := f2.trans h_36.2.1
      have qs := h_36.1
      refine cq_iconst F (v := 0) dX7_goBack_39 rfl ?_
      refine cq_istore_n F (i := 2) dX7_goBack_40 rfl (by decide) ?_
      refine cq_loc (L2 := [(0, .ref o), (1, .int (nI q)), (2, .int (nI 0))]) rfl ?_
      exact loop_41 110 q M_36 0 M_36 (S_g S) rfl (by omega) (by omega) qs z6 fs (by omega) h_36.1.1 cq_only.rf (fun j => by rw [if_neg (by omega)]) (by omega)
    · have c_26 : (S_k S q) = 0 := (nI_b (a := (S_k S q)) (b := 0) (by omega) (by omega)).2.2.mp c_26
      refine cq_aload_n F (i := 0) dX7_goBack_29 rfl rfl ?_
      refine cq_iconst F (v := 2) dX7_goBack_30 rfl ?_
      refine cq_callV F (C := RX7) (ci := 8) (kX7_fails l D cA X Bs o 2 M_2 ho) (cwV 1 F.1.2.2.2.2 gX7_goBack_X7_fails rfl rfl rfl hdVX7_fails ⟨Nat.le_of_ble_eq_true rfl, Nat.le_of_ble_eq_true rfl⟩) ho.kind ⟨by decide, by decide⟩ rfl rfl rfl (Nat.le_of_ble_eq_true rfl) dX7_goBack_31 ⟨Nat.le_of_ble_eq_true rfl, Nat.le_of_ble_eq_true rfl⟩ (cq_kI fun r_31 M_31 h_31 => ?_)
      obtain ⟨hr_31, h_31⟩ := h_31
      subst hr_31
      refine cq_iret F hr (by decide) (by decide) dX7_goBack_34 ⟨_, rfl, ?_⟩
      have e : op_back S (nI q) = (2, 0, S) := by unfold op_back; rw [if_pos c_11b, eq, if_neg (by omega)]
      rw [e]
      exact ⟨by rw [h_31]; exact cq_up_s _ _ _ _, fun z => absurd (show (2 : Nat) = 0 from z) (by decide), q2.o h_31 (by omega) (by omega), f2.up h_31 (by omega) (by omega)⟩
  · have c_11 := cq_b0 h_8 c_11
    refine cq_aload_n F (i := 0) dX7_goBack_14 rfl rfl ?_
    refine cq_iconst F (v := 1) dX7_goBack_15 rfl ?_
    refine cq_callV F (C := RX7) (ci := 8) (kX7_fails l D cA X Bs o 1 M_2 ho) (cwV 1 F.1.2.2.2.2 gX7_goBack_X7_fails rfl rfl rfl hdVX7_fails ⟨Nat.le_of_ble_eq_true rfl, Nat.le_of_ble_eq_true rfl⟩) ho.kind ⟨by decide, by decide⟩ rfl rfl rfl (Nat.le_of_ble_eq_true rfl) dX7_goBack_16 ⟨Nat.le_of_ble_eq_true rfl, Nat.le_of_ble_eq_true rfl⟩ (cq_kI fun r_16 M_16 h_16 => ?_)
    obtain ⟨hr_16, h_16⟩ := h_16
    subst hr_16
    refine cq_iret F hr (by decide) (by decide) dX7_goBack_19 ⟨_, rfl, ?_⟩
    have e : op_back S u = (1, 0, S) := if_neg c_11
    rw [e]
    exact ⟨by rw [h_16]; exact cq_up_s _ _ _ _, fun z => absurd (show (1 : Nat) = 0 from z) (by decide), q2.o h_16 (by omega) (by omega), f2.up h_16 (by omega) (by omega)⟩
theorem hdVX7_goBack : yX7_goBack.cls = RX7 ∧ yX7_goBack.cls ≠ "java/lang/invoke/MethodHandle" ∧ yX7_goBack.cls ≠ "java/lang/invoke/VarHandle" ∧ (parseMethodDescriptor yX7_goBack.desc).map (fun d => d.parameters.length) = some 1 := by decide +kernel
abbrev rmX7_addCord : Room := ({ frames := 1, cells := 0, slots := 0, locals := 23 })
set_option maxHeartbeats 4000000 in
set_option maxRecDepth 100000 in
theorem kX7_addCord (l : Launch) (D : va_G) (cA : Nat → ClassId) (X : cq_X) (Bs : Nat) (o sg : Nat) (g : Nat → Nat) (M : cq_M) (ho : cq_isModel X o) (hg : cq_nv M (o + 1) 109 g) (h6 : g 6 < 4) (hsg : sg ≤ 6) : cq_C l yX7_addCord wsX7_addCord rmX7_addCord D cA X Bs [.ref o, .int (nI sg)] M (cq_PI (fun r M1 => r = nI (g 6) ∧ cq_nv M1 (o + 1) 109 (ns_new g sg (fun _ => 0)) ∧ cq_only M M1 (o + 1))) 0 0 := by
  refine cq_met (cc := cX7_addCord) (maxL := 4) (ret := (some .int)) (by decide) rfl (Nat.le_of_ble_eq_true rfl) [(0, .ref o), (1, .int (nI sg))] rfl rfl ?_
  intro p9 e9 s9 m9 b9 t9 c9 F hr
  have inX7 : ∀ w ∈ wsX70, w ∈ wsX7_addCord := (fun w h => List.mem_cons_of_mem _ (List.mem_append_right _ h))
  have loop_10 : ∀ (n_10 : Nat) (k : Nat) (M2 : cq_M) (g2 : Nat → Nat), k ≤ 11 → cq_nv M2 (o + 1) 109 g2 → cq_only M M2 (o + 1) → (∀ j, g2 j = if 7 + 11 * g 6 ≤ j ∧ j < 7 + 11 * g 6 + k then 0 else g j) → 11 - k < n_10 → cq_V p9 l e9 rmX7_addCord s9 m9 ([.ref o, .int (nI sg)] : List Value).toArray b9 t9 c9 D cA X Bs 4 0 0 (MQ b9 (cq_Q D cA X Bs (cq_PI (fun r M1 => r = nI (g 6) ∧ cq_nv M1 (o + 1) 109 (ns_new g sg (fun _ => 0)) ∧ cq_only M M1 (o + 1)))) ([.ref o, .int (nI sg)] : List Value).toArray s9 0 0 (cq_A Bs)) 10 [(0, .ref o), (1, .int (nI sg)), (2, .int (nI (g 6))), (3, .int (nI k))] [] M2 := by
    intro n_10
    induction n_10 with
    | zero =>
      intros
      omega
    | succ n_10 ih_10 =>
      intro k M2 g2 hk9 hg2 ho2 he2 hn
      refine cq_iload_n F (i := 3) dX7_addCord_10 rfl rfl ?_
      refine cq_bipush F (v := 11) dX7_addCord_11 (by decide) ?_
      refine cq_icmp_ge F (tgt := 29) dX7_addCord_13 (by decide) (fun c_13 => ?_) (fun c_13 => ?_)
      · have c_13 : 11 ≤ k := (nI_b (a := 11) (b := k) (by omega) (by omega)).1.mp c_13
        refine cq_aload_n F (i := 0) dX7_addCord_29 rfl rfl ?_
        refine cq_iload_n F (i := 2) dX7_addCord_30 rfl rfl ?_
        refine cq_iconst F (v := 0) dX7_addCord_31 rfl ?_
        refine cq_iload_n F (i := 1) dX7_addCord_32 rfl rfl ?_
        refine cq_callV F (C := RX7) (ci := 8) (kX7_put l D cA X Bs o (g 6) (0) (7 + 11 * g 6) (nI (sg)) M2 ho (by omega) (by omega)) (cwV 3 F.1.2.2.2.2 gX7_addCord_X7_put rfl rfl rfl hdVX7_put ⟨Nat.le_of_ble_eq_true rfl, Nat.le_of_ble_eq_true rfl⟩) ho.kind ⟨by decide, by decide⟩ rfl rfl rfl (Nat.le_of_ble_eq_true rfl) dX7_addCord_33 ⟨Nat.le_of_ble_eq_true rfl, Nat.le_of_ble_eq_true rfl⟩ (cq_kV fun M_33 h_33 => ?_)
        refine cq_aload_n F (i := 0) dX7_addCord_36 rfl rfl ?_
        refine cq_iload_n F (i := 2) dX7_addCord_37 rfl rfl ?_
        refine cq_bipush F (v := 10) dX7_addCord_38 (by decide) ?_
        refine cq_iconst F (v := (-1)) dX7_addCord_40 rfl ?_
        rw [show (-1 : Int32) = nI 4294967295 from by decide]
        refine cq_callV F (C := RX7) (ci := 8) (kX7_put l D cA X Bs o (g 6) (10) (17 + 11 * g 6) (nI (4294967295)) M_33 ho (by omega) (by omega)) (cwV 3 F.1.2.2.2.2 gX7_addCord_X7_put rfl rfl rfl hdVX7_put ⟨Nat.le_of_ble_eq_true rfl, Nat.le_of_ble_eq_true rfl⟩) ho.kind ⟨by decide, by decide⟩ rfl rfl rfl (Nat.le_of_ble_eq_true rfl) dX7_addCord_41 ⟨Nat.le_of_ble_eq_true rfl, Nat.le_of_ble_eq_true rfl⟩ (cq_kV fun M_41 h_41 => ?_)
        refine cq_aload_n F (i := 0) dX7_addCord_44 rfl rfl ?_
        refine cq_getT (t := (o + 1)) F (C := RX7) (T := TX7) (N := 22) (ci := 8) ho.kind rfl ⟨⟨by decide, by decide⟩, rfl⟩ inX7 0 (by decide) rfl rfl ho.t0 (F.1.2.2.2.2 _ (List.mem_of_getElem? (l := wsX7_addCord) (i := 1) (a := .fieldLink RX7 7 "CordClockModel" "row" "[I") (by decide +kernel))) dX7_addCord_45 ?_
        refine cq_bipush F (v := 6) dX7_addCord_48 (by decide) ?_
        refine cq_dup2 F dX7_addCord_50 rfl rfl ?_
        refine cq_iald_j F (j := 6) ho.k1 ho.n1 rfl ⟨(by omega), by decide⟩ dX7_addCord_51 ?_
        rw [((hg2.up h_33).up h_41) _ (by omega)]
        refine cq_iconst F (v := 1) dX7_addCord_52 rfl ?_
        refine cq_iadd F dX7_addCord_53 ?_
        rw [show (nI ((ns_up (ns_up g2 (7 + 11 * g 6) (sg)) (17 + 11 * g 6) (4294967295)) (6)) + 1 : Int32) = nI (((ns_up (ns_up g2 (7 + 11 * g 6) (sg)) (17 + 11 * g 6) (4294967295)) (6)) + 1) from nI_add _ _]
        refine cq_iast_j F (j := 6) ho.k1 ho.n1 rfl ⟨(by omega), by decide⟩ dX7_addCord_54 (fun M_54 h_54 => ?_)
        obtain ⟨g_54, eg_54⟩ : ∃ z, z = ns_up (ns_up (ns_up g2 (7 + 11 * g 6) (sg)) (17 + 11 * g 6) (4294967295)) (6) ((((ns_up (ns_up g2 (7 + 11 * g 6) (sg)) (17 + 11 * g 6) (4294967295)) (6)) + 1)) := ⟨_, rfl⟩
        have v_54_o1 : cq_nv M_54 (o + 1) 109 g_54 := by rw [eg_54]; exact ((hg2.up h_33).up h_41).up h_54
        refine cq_iload_n F (i := 2) dX7_addCord_55 rfl rfl ?_
        refine cq_iret F hr (by decide) (by decide) dX7_addCord_56 ⟨_, rfl, ?_⟩
        obtain rfl : k = 11 := by omega
        refine ⟨rfl, cq_nv.ext v_54_o1 (fun j hj => ?_), (((ho2.up h_33).up h_41).up h_54)⟩
        have e6 : g2 6 = g 6 := by rw [he2, if_neg (by omega)]
        have e7 : ns_up (ns_up g2 (7 + 11 * g 6) sg) (17 + 11 * g 6) 4294967295 6 = g 6 := by rw [ns_up_n (by omega), ns_up_n (by omega), e6]
        rw [eg_54, e7]
        unfold ns_new
        by_cases j6 : j = 6
        · subst j6; rw [ns_up_s, if_pos rfl]
        · rw [ns_up_n j6, if_neg j6]
          by_cases j17 : j = 17 + 11 * g 6
          · subst j17; rw [ns_up_s, if_neg (by omega), if_neg (by omega)]
            by_cases hs9 : 17 + 11 * g 6 < 8 + 11 * g 6 + sg
            · exact absurd hs9 (by omega)
            · rw [if_neg hs9, if_pos rfl]
          · rw [ns_up_n j17]
            by_cases j7 : j = 7 + 11 * g 6
            · subst j7; rw [ns_up_s, if_neg (by omega), if_pos rfl]
            · rw [ns_up_n j7, he2]
              by_cases jr : j < 7 + 11 * g 6 ∨ 18 + 11 * g 6 ≤ j
              · rw [if_pos jr, if_neg (by omega)]
              · rw [if_neg jr, if_neg j7, if_pos (by omega), if_neg j17]
                split <;> rfl
      · have c_13 : ¬ 11 ≤ k := fun z => c_13 ((nI_b (a := 11) (b := k) (by omega) (by omega)).1.mpr z)
        refine cq_aload_n F (i := 0) dX7_addCord_16 rfl rfl ?_
        refine cq_iload_n F (i := 2) dX7_addCord_17 rfl rfl ?_
        refine cq_iload_n F (i := 3) dX7_addCord_18 rfl rfl ?_
        refine cq_iconst F (v := 0) dX7_addCord_19 rfl ?_
        refine cq_callV F (C := RX7) (ci := 8) (kX7_put l D cA X Bs o (g 6) (k) (7 + 11 * g 6 + k) (nI (0)) M2 ho (by omega) (by omega)) (cwV 3 F.1.2.2.2.2 gX7_addCord_X7_put rfl rfl rfl hdVX7_put ⟨Nat.le_of_ble_eq_true rfl, Nat.le_of_ble_eq_true rfl⟩) ho.kind ⟨by decide, by decide⟩ rfl rfl rfl (Nat.le_of_ble_eq_true rfl) dX7_addCord_20 ⟨Nat.le_of_ble_eq_true rfl, Nat.le_of_ble_eq_true rfl⟩ (cq_kV fun M_20 h_20 => ?_)
        refine cq_iinc F dX7_addCord_23 rfl (by decide) (fun x_23 e_23 => ?_)
        obtain rfl : x_23 = nI (k + 1) := by rw [e_23]; exact nI_1 _
        refine cq_goto F (tgt := 10) dX7_addCord_26 (by decide) ?_
        refine cq_loc (L2 := [(0, .ref o), (1, .int (nI sg)), (2, .int (nI (g 6))), (3, .int (nI (k + 1)))]) rfl ?_
        exact ih_10 (k + 1) M_20 _ (by omega) (hg2.up h_20) (ho2.up h_20) (fun j => by simp only [ns_up, he2]; (repeat' split) <;> first | rfl | (exfalso; omega)) (by omega)
  refine cq_aload_n F (i := 0) dX7_addCord_0 rfl rfl ?_
  refine cq_getT (t := (o + 1)) F (C := RX7) (T := TX7) (N := 22) (ci := 8) ho.kind rfl ⟨⟨by decide, by decide⟩, rfl⟩ inX7 0 (by decide) rfl rfl ho.t0 (F.1.2.2.2.2 _ (List.mem_of_getElem? (l := wsX7_addCord) (i := 1) (a := .fieldLink RX7 7 "CordClockModel" "row" "[I") (by decide +kernel))) dX7_addCord_1 ?_
  refine cq_bipush F (v := 6) dX7_addCord_4 (by decide) ?_
  refine cq_iald_j F (j := 6) ho.k1 ho.n1 rfl ⟨(by omega), by decide⟩ dX7_addCord_6 ?_
  rw [hg _ (by omega)]
  refine cq_istore_n F (i := 2) dX7_addCord_7 rfl (by decide) ?_
  refine cq_iconst F (v := 0) dX7_addCord_8 rfl ?_
  refine cq_istore_n F (i := 3) dX7_addCord_9 rfl (by decide) ?_
  refine cq_loc (L2 := [(0, .ref o), (1, .int (nI sg)), (2, .int (nI (g 6))), (3, .int (nI 0))]) rfl ?_
  exact loop_10 12 0 M g (by omega) hg cq_only.rf (fun j => by rw [if_neg (by omega)]) (by omega)
theorem hdVX7_addCord : yX7_addCord.cls = RX7 ∧ yX7_addCord.cls ≠ "java/lang/invoke/MethodHandle" ∧ yX7_addCord.cls ≠ "java/lang/invoke/VarHandle" ∧ (parseMethodDescriptor yX7_addCord.desc).map (fun d => d.parameters.length) = some 1 := by decide +kernel
abbrev rmX7_cord : Room := ({ frames := 2, cells := 0, slots := 0, locals := 46 })
set_option maxHeartbeats 4000000 in
set_option maxRecDepth 100000 in
theorem kX7_cord (l : Launch) (D : va_G) (cA : Nat → ClassId) (X : cq_X) (Bs : Nat) (o B : Nat) (S : as_T) (u t : Int32) (M : cq_M) (ho : cq_isModel X o) (h : cm M o S) (hk : as_ok S B) : cq_C l yX7_cord wsX7_cord rmX7_cord D cA X Bs [.ref o, .int u, .int t] M (cq_PI (fun r M1 => mq (op_cord S u t) r M M1 o)) 0 0 := by
  refine cq_met (cc := cX7_cord) (maxL := 5) (ret := (some .int)) (by decide) rfl (Nat.le_of_ble_eq_true rfl) [(0, .ref o), (1, .int u), (2, .int t)] rfl rfl ?_
  intro p9 e9 s9 m9 b9 t9 c9 F hr
  have inX7 : ∀ w ∈ wsX70, w ∈ wsX7_cord := (fun w h => List.mem_cons_of_mem _ (List.mem_append_right _ h))
  have hk6 := hk.1.1
  have loop_61 : ∀ (n_61 : Nat) (sg q : Nat) (Mb : cq_M) (k : Nat) (M2 : cq_M) (g2 : Nat → Nat), u = nI sg → t = nI q → 1 ≤ sg → sg ≤ 6 → 1 ≤ q → q ≤ 60 → S_g S 6 < 4 → cm Mb o (so_save S) → Mb o 6 = nI 0 → cr_fr M Mb o 15 → k ≤ sg → cq_nv M2 (o + 1) 109 g2 → cq_only Mb M2 (o + 1) → g2 = ns_new (S_g S) sg (fun j => if j < k then q else 0) → sg - k < n_61 → cq_V p9 l e9 rmX7_cord s9 m9 ([.ref o, .int u, .int t] : List Value).toArray b9 t9 c9 D cA X Bs 5 0 0 (MQ b9 (cq_Q D cA X Bs (cq_PI (fun r M1 => mq (op_cord S u t) r M M1 o))) ([.ref o, .int u, .int t] : List Value).toArray s9 0 0 (cq_A Bs)) 61 [(0, .ref o), (1, .int (nI sg)), (2, .int (nI q)), (3, .int (nI (S_g S 6))), (4, .int (nI k))] [] M2 := by
    intro n_61
    induction n_61 with
    | zero =>
      intros
      omega
    | succ n_61 ih_61 =>
      intro sg q Mb k M2 g2 equ eqt hs1 hs2 hq1 hq2 h4 qs z6 fs hk9 hg2 ho2 he2 hn
      refine cq_iload F dX7_cord_61 rfl ?_
      refine cq_iload_n F (i := 1) dX7_cord_63 rfl rfl ?_
      refine cq_icmp_ge F (tgt := 83) dX7_cord_64 (by decide) (fun c_64 => ?_) (fun c_64 => ?_)
      · have c_64 : sg ≤ k := (nI_b (a := sg) (b := k) (by omega) (by omega)).1.mp c_64
        refine cq_iload_n F (i := 3) dX7_cord_83 rfl rfl ?_
        refine cq_iret F hr (by decide) (by decide) dX7_cord_84 ⟨_, rfl, ?_⟩
        obtain rfl : k = sg := by omega
        subst equ
        subst eqt
        have e : op_cord S (nI k) (nI q) = (0, nI (S_g S 6), so_g (so_save S) (ns_new (S_g S) k (fun _ => q))) := by unfold op_cord; rw [if_pos ⟨nI_ab2 (a := 1) (b := 6) (by omega) (by omega) (by omega), nI_ab2 (a := 1) (b := 60) (by omega) (by omega) (by omega)⟩, if_pos (by omega), nI_clamp (by omega), nI_clamp (by omega)]
        rw [e]
        refine ⟨by rw [ho2 _ (by omega)]; exact z6, fun _ => rfl, qs.row (hg2.ext (fun j hj => ?_)) ho2, fs.trans (fun x hx => ho2 x (by omega))⟩
        rw [he2]
        unfold ns_new
        by_cases j6 : j = 6
        · rw [if_pos j6, if_pos j6]
        · rw [if_neg j6, if_neg j6]
          by_cases jr : j < 7 + 11 * S_g S 6 ∨ 18 + 11 * S_g S 6 ≤ j
          · rw [if_pos jr, if_pos jr]
          · rw [if_neg jr, if_neg jr]
            by_cases j7 : j = 7 + 11 * S_g S 6
            · rw [if_pos j7, if_pos j7]
            · rw [if_neg j7, if_neg j7]
              by_cases j8 : j < 8 + 11 * S_g S 6 + k
              · rw [if_pos j8, if_pos j8]
                exact if_pos (by omega)
              · rw [if_neg j8, if_neg j8]
      · have c_64 : ¬ sg ≤ k := fun z => c_64 ((nI_b (a := sg) (b := k) (by omega) (by omega)).1.mpr z)
        refine cq_aload_n F (i := 0) dX7_cord_67 rfl rfl ?_
        refine cq_iload_n F (i := 3) dX7_cord_68 rfl rfl ?_
        refine cq_iconst F (v := 1) dX7_cord_69 rfl ?_
        refine cq_iload F dX7_cord_70 rfl ?_
        refine cq_iadd F dX7_cord_72 ?_
        rw [show (1 + nI k : Int32) = nI (1 + k) from nI_add _ _]
        refine cq_iload_n F (i := 2) dX7_cord_73 rfl rfl ?_
        refine cq_callV F (C := RX7) (ci := 8) (kX7_put l D cA X Bs o (S_g S 6) (1 + k) (8 + 11 * S_g S 6 + k) (nI (q)) M2 ho (by omega) (by omega)) (cwV 3 F.1.2.2.2.2 gX7_cord_X7_put rfl rfl rfl hdVX7_put ⟨Nat.le_of_ble_eq_true rfl, Nat.le_of_ble_eq_true rfl⟩) ho.kind ⟨by decide, by decide⟩ rfl rfl rfl (Nat.le_of_ble_eq_true rfl) dX7_cord_74 ⟨Nat.le_of_ble_eq_true rfl, Nat.le_of_ble_eq_true rfl⟩ (cq_kV fun M_74 h_74 => ?_)
        refine cq_iinc F dX7_cord_77 rfl (by decide) (fun x_77 e_77 => ?_)
        obtain rfl : x_77 = nI (k + 1) := by rw [e_77]; exact nI_1 _
        refine cq_goto F (tgt := 61) dX7_cord_80 (by decide) ?_
        refine cq_loc (L2 := [(0, .ref o), (1, .int (nI sg)), (2, .int (nI q)), (3, .int (nI (S_g S 6))), (4, .int (nI (k + 1)))]) rfl ?_
        exact ih_61 sg q Mb (k + 1) M_74 _ equ eqt hs1 hs2 hq1 hq2 h4 qs z6 fs (by omega) (hg2.up h_74) (ho2.up h_74) (by
                funext j
                rw [he2]
                unfold ns_new
                by_cases jk : j = 8 + 11 * S_g S 6 + k
                · rw [jk, ns_up_s, if_neg (by omega), if_neg (by omega), if_neg (by omega), if_pos (by omega)]
                  exact (if_pos (by omega)).symm
                · rw [ns_up_n jk]
                  by_cases j6 : j = 6
                  · rw [if_pos j6, if_pos j6]
                  · rw [if_neg j6, if_neg j6]
                    by_cases jr : j < 7 + 11 * S_g S 6 ∨ 18 + 11 * S_g S 6 ≤ j
                    · rw [if_pos jr, if_pos jr]
                    · rw [if_neg jr, if_neg jr]
                      by_cases j7 : j = 7 + 11 * S_g S 6
                      · rw [if_pos j7, if_pos j7]
                      · rw [if_neg j7, if_neg j7]
                        by_cases j8 : j < 8 + 11 * S_g S 6 + sg
                        · rw [if_pos j8, if_pos j8]
                          show (if j - (8 + 11 * S_g S 6) < k then q else 0) = (if j - (8 + 11 * S_g S 6) < k + 1 then q else 0)
                          by_cases j9 : j - (8 + 11 * S_g S 6) < k
                          · rw [if_pos j9, if_pos (by omega)]
                          · rw [if_neg j9, if_neg (by omega)]
                        · rw [if_neg j8, if_neg j8]) (by omega)
  refine cq_aload_n F (i := 0) dX7_cord_0 rfl rfl ?_
  refine cq_iconst F (v := 0) dX7_cord_1 rfl ?_
  refine cq_put F (C := RX7) (T := TX7) (N := 22) (ci := 8) ho.kind rfl ⟨⟨by decide, by decide⟩, rfl⟩ inX7 tyX7 tyX7_ok nmX7 6 (by decide) rfl rfl (F.1.2.2.2.2 _ (List.mem_of_getElem? (l := wsX7_cord) (i := 1) (a := .fieldLink RX7 53 "CordClockModel" "thrown" "I") (by decide +kernel))) rfl (by rfl) (by rfl) dX7_cord_2 (fun M_2 h_2 => ?_)
  have v_2_o1 := h.1.ne h_2 (by omega)
  have q2 := h.o h_2 (by omega) (by omega)
  have f2 : cr_fr M M_2 o 15 := cr_fr.rf.up h_2 (by omega) (by omega)
  refine cq_iload_n F (i := 1) dX7_cord_5 rfl rfl ?_
  refine cq_iconst F (v := 1) dX7_cord_6 rfl ?_
  refine cq_bipush F (v := 6) dX7_cord_7 (by decide) ?_
  refine cq_callS F (kX7_in l D cA X Bs u 1 6 M_2) (va_cwS 3 F.1.2.2.2.2 gX7_cord_X7_in rfl rfl rfl hdVX7_in.2 ⟨Nat.le_of_ble_eq_true rfl, Nat.le_of_ble_eq_true rfl⟩) rfl (Nat.le_of_ble_eq_true rfl) dX7_cord_9 ⟨Nat.le_of_ble_eq_true rfl, Nat.le_of_ble_eq_true rfl⟩ (cq_kIp fun r_9 h_9 => ?_)
  refine cq_if_eq F (tgt := 25) dX7_cord_12 (by decide) (fun c_12 => ?_) (fun c_12 => ?_)
  · have c_12 := cq_b0 h_9 c_12
    refine cq_aload_n F (i := 0) dX7_cord_25 rfl rfl ?_
    refine cq_iconst F (v := 1) dX7_cord_26 rfl ?_
    refine cq_callV F (C := RX7) (ci := 8) (kX7_fails l D cA X Bs o 1 M_2 ho) (cwV 1 F.1.2.2.2.2 gX7_cord_X7_fails rfl rfl rfl hdVX7_fails ⟨Nat.le_of_ble_eq_true rfl, Nat.le_of_ble_eq_true rfl⟩) ho.kind ⟨by decide, by decide⟩ rfl rfl rfl (Nat.le_of_ble_eq_true rfl) dX7_cord_27 ⟨Nat.le_of_ble_eq_true rfl, Nat.le_of_ble_eq_true rfl⟩ (cq_kI fun r_27 M_27 h_27 => ?_)
    obtain ⟨hr_27, h_27⟩ := h_27
    subst hr_27
    refine cq_iret F hr (by decide) (by decide) dX7_cord_30 ⟨_, rfl, ?_⟩
    first | rw [show op_cord S u t = (1, 0, S) from if_neg (fun z => c_12 z.1)] | rw [show op_cord S u t = (1, 0, S) from if_neg (fun z => c_22 z.2)]
    exact ⟨by rw [h_27]; exact cq_up_s _ _ _ _, fun z => absurd (show (1 : Nat) = 0 from z) (by decide), q2.o h_27 (by omega) (by omega), f2.up h_27 (by omega) (by omega)⟩
  · have c_12 := cq_b1 h_9 c_12
    have c_12b := c_12
    refine cq_iload_n F (i := 2) dX7_cord_15 rfl rfl ?_
    refine cq_iconst F (v := 1) dX7_cord_16 rfl ?_
    refine cq_bipush F (v := 60) dX7_cord_17 (by decide) ?_
    refine cq_callS F (kX7_in l D cA X Bs t 1 60 M_2) (va_cwS 3 F.1.2.2.2.2 gX7_cord_X7_in rfl rfl rfl hdVX7_in.2 ⟨Nat.le_of_ble_eq_true rfl, Nat.le_of_ble_eq_true rfl⟩) rfl (Nat.le_of_ble_eq_true rfl) dX7_cord_19 ⟨Nat.le_of_ble_eq_true rfl, Nat.le_of_ble_eq_true rfl⟩ (cq_kIp fun r_19 h_19 => ?_)
    refine cq_if_ne F (tgt := 31) dX7_cord_22 (by decide) (fun c_22 => ?_) (fun c_22 => ?_)
    · have c_22 := cq_b1 h_19 c_22
      have c_22b := c_22
      obtain ⟨sg, hsg1, hsg2, rfl⟩ := nI_ab (a := 1) (b := 6) (by omega) (by omega) c_12
      obtain ⟨q, hq1, hq2, rfl⟩ := nI_ab (a := 1) (b := 60) (by omega) (by omega) c_22
      refine cq_aload_n F (i := 0) dX7_cord_31 rfl rfl ?_
      refine cq_getT (t := (o + 1)) F (C := RX7) (T := TX7) (N := 22) (ci := 8) ho.kind rfl ⟨⟨by decide, by decide⟩, rfl⟩ inX7 0 (by decide) rfl rfl ho.t0 (F.1.2.2.2.2 _ (List.mem_of_getElem? (l := wsX7_cord) (i := 2) (a := .fieldLink RX7 7 "CordClockModel" "row" "[I") (by decide +kernel))) dX7_cord_32 ?_
      refine cq_bipush F (v := 6) dX7_cord_35 (by decide) ?_
      refine cq_iald_j F (j := 6) ho.k1 ho.n1 rfl ⟨(by omega), by decide⟩ dX7_cord_37 ?_
      rw [v_2_o1 _ (by omega)]
      refine cq_iconst F (v := 4) dX7_cord_38 rfl ?_
      refine cq_icmp_ne F (tgt := 48) dX7_cord_39 (by decide) (fun c_39 => ?_) (fun c_39 => ?_)
      · have c_39 : ¬ ((S_g S) (6)) = 4 := fun z => c_39 ((nI_b (a := ((S_g S) (6))) (b := 4) (by omega) (by omega)).2.2.mpr z)
        refine cq_aload_n F (i := 0) dX7_cord_48 rfl rfl ?_
        refine cq_callV F (C := RX7) (ci := 8) (kX7_save l D cA X Bs o B S M_2 ho q2 hk) (cwV 0 F.1.2.2.2.2 gX7_cord_X7_save rfl rfl rfl hdVX7_save ⟨Nat.le_of_ble_eq_true rfl, Nat.le_of_ble_eq_true rfl⟩) ho.kind ⟨by decide, by decide⟩ rfl rfl rfl (Nat.le_of_ble_eq_true rfl) dX7_cord_49 ⟨Nat.le_of_ble_eq_true rfl, Nat.le_of_ble_eq_true rfl⟩ (cq_kV fun M_49 h_49 => ?_)
        have z6 : M_49 o 6 = nI 0 := by rw [h_49.2.2 6 (by omega), h_2]; exact cq_up_s _ _ _ _
        have fs : cr_fr M M_49 o 15 := f2.trans h_49.2.1
        have qs := h_49.1
        refine cq_aload_n F (i := 0) dX7_cord_52 rfl rfl ?_
        refine cq_iload_n F (i := 1) dX7_cord_53 rfl rfl ?_
        refine cq_callV F (C := RX7) (ci := 8) (kX7_addCord l D cA X Bs o sg (S_g S) M_49 ho h_49.1.1 (by omega) (by omega)) (cwV 1 F.1.2.2.2.2 gX7_cord_X7_addCord rfl rfl rfl hdVX7_addCord ⟨Nat.le_of_ble_eq_true rfl, Nat.le_of_ble_eq_true rfl⟩) ho.kind ⟨by decide, by decide⟩ rfl rfl rfl (Nat.le_of_ble_eq_true rfl) dX7_cord_54 ⟨Nat.le_of_ble_eq_true rfl, Nat.le_of_ble_eq_true rfl⟩ (cq_kI fun r_54 M_54 h_54 => ?_)
        obtain ⟨hr_54, h_54⟩ := h_54
        subst hr_54
        refine cq_istore_n F (i := 3) dX7_cord_57 rfl (by decide) ?_
        refine cq_iconst F (v := 0) dX7_cord_58 rfl ?_
        refine cq_istore F dX7_cord_59 (by decide) ?_
        refine cq_loc (L2 := [(0, .ref o), (1, .int (nI sg)), (2, .int (nI q)), (3, .int (nI (S_g S 6))), (4, .int (nI 0))]) rfl ?_
        exact loop_61 (sg + 1) sg q M_49 0 M_54 _ rfl rfl (by omega) (by omega) (by omega) (by omega) (by omega) qs z6 fs (by omega) h_54.1 (cq_only.rf.trans h_54.2) (by simp) (by omega)
      · have c_39 : ((S_g S) (6)) = 4 := (nI_b (a := ((S_g S) (6))) (b := 4) (by omega) (by omega)).2.2.mp c_39
        refine cq_aload_n F (i := 0) dX7_cord_42 rfl rfl ?_
        refine cq_iconst F (v := 2) dX7_cord_43 rfl ?_
        refine cq_callV F (C := RX7) (ci := 8) (kX7_fails l D cA X Bs o 2 M_2 ho) (cwV 1 F.1.2.2.2.2 gX7_cord_X7_fails rfl rfl rfl hdVX7_fails ⟨Nat.le_of_ble_eq_true rfl, Nat.le_of_ble_eq_true rfl⟩) ho.kind ⟨by decide, by decide⟩ rfl rfl rfl (Nat.le_of_ble_eq_true rfl) dX7_cord_44 ⟨Nat.le_of_ble_eq_true rfl, Nat.le_of_ble_eq_true rfl⟩ (cq_kI fun r_44 M_44 h_44 => ?_)
        obtain ⟨hr_44, h_44⟩ := h_44
        subst hr_44
        refine cq_iret F hr (by decide) (by decide) dX7_cord_47 ⟨_, rfl, ?_⟩
        have e : op_cord S (nI sg) (nI q) = (2, 0, S) := by unfold op_cord; rw [if_pos ⟨c_12b, c_22b⟩, if_neg (by omega)]
        rw [e]
        exact ⟨by rw [h_44]; exact cq_up_s _ _ _ _, fun z => absurd (show (2 : Nat) = 0 from z) (by decide), q2.o h_44 (by omega) (by omega), f2.up h_44 (by omega) (by omega)⟩
    · have c_22 := cq_b0 h_19 c_22
      refine cq_aload_n F (i := 0) dX7_cord_25 rfl rfl ?_
      refine cq_iconst F (v := 1) dX7_cord_26 rfl ?_
      refine cq_callV F (C := RX7) (ci := 8) (kX7_fails l D cA X Bs o 1 M_2 ho) (cwV 1 F.1.2.2.2.2 gX7_cord_X7_fails rfl rfl rfl hdVX7_fails ⟨Nat.le_of_ble_eq_true rfl, Nat.le_of_ble_eq_true rfl⟩) ho.kind ⟨by decide, by decide⟩ rfl rfl rfl (Nat.le_of_ble_eq_true rfl) dX7_cord_27 ⟨Nat.le_of_ble_eq_true rfl, Nat.le_of_ble_eq_true rfl⟩ (cq_kI fun r_27 M_27 h_27 => ?_)
      obtain ⟨hr_27, h_27⟩ := h_27
      subst hr_27
      refine cq_iret F hr (by decide) (by decide) dX7_cord_30 ⟨_, rfl, ?_⟩
      first | rw [show op_cord S u t = (1, 0, S) from if_neg (fun z => c_12 z.1)] | rw [show op_cord S u t = (1, 0, S) from if_neg (fun z => c_22 z.2)]
      exact ⟨by rw [h_27]; exact cq_up_s _ _ _ _, fun z => absurd (show (1 : Nat) = 0 from z) (by decide), q2.o h_27 (by omega) (by omega), f2.up h_27 (by omega) (by omega)⟩
theorem hdVX7_cord : yX7_cord.cls = RX7 ∧ yX7_cord.cls ≠ "java/lang/invoke/MethodHandle" ∧ yX7_cord.cls ≠ "java/lang/invoke/VarHandle" ∧ (parseMethodDescriptor yX7_cord.desc).map (fun d => d.parameters.length) = some 2 := by decide +kernel
