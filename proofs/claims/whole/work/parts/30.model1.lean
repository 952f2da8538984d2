/-! CordClockModel: its row, read and written -/
abbrev rmX7_of : Room := ({ frames := 0, cells := 0, slots := 0, locals := 0 })
set_option maxHeartbeats 4000000 in
set_option maxRecDepth 100000 in
theorem kX7_of (l : Launch) (D : va_G) (cA : Nat → ClassId) (X : cq_X) (Bs : Nat) (o c w i : Nat) (g : Nat → Nat) (M : cq_M) (ho : cq_isModel X o) (hg : cq_nv M (o + 1) 109 g) (hi : 7 + 11 * c + w = i) (hi9 : i < 109) : cq_C l yX7_of wsX7_of rmX7_of D cA X Bs [.ref o, .int (nI c), .int (nI w)] M (cq_PI (fun r M1 => r = nI (g i) ∧ M1 = M)) 0 0 := by
  refine cq_met (cc := cX7_of) (maxL := 3) (ret := (some .int)) (by decide) rfl (Nat.le_of_ble_eq_true rfl) [(0, .ref o), (1, .int (nI c)), (2, .int (nI w))] rfl rfl ?_
  intro p9 e9 s9 m9 b9 t9 c9 F hr
  have inX7 : ∀ w ∈ wsX70, w ∈ wsX7_of := (fun w h => List.mem_cons_of_mem _ (List.mem_append_right _ h))
  refine cq_aload_n F (i := 0) dX7_of_0 rfl rfl ?_
  refine cq_getT (t := (o + 1)) F (C := RX7) (T := TX7) (N := 22) (ci := 8) ho.kind rfl ⟨⟨by decide, by decide⟩, rfl⟩ inX7 0 (by decide) rfl rfl ho.t0 (F.1.2.2.2.2 _ (List.mem_of_getElem? (l := wsX7_of) (i := 1) (a := .fieldLink RX7 7 "CordClockModel" "row" "[I") (by decide +kernel))) dX7_of_1 ?_
  refine cq_bipush F (v := 7) dX7_of_4 (by decide) ?_
  refine cq_bipush F (v := 11) dX7_of_6 (by decide) ?_
  refine cq_iload_n F (i := 1) dX7_of_8 rfl rfl ?_
  refine cq_imul F dX7_of_9 ?_
  rw [show (11 * nI c : Int32) = nI (11 * c) from pk_mul _ _]
  refine cq_iadd F dX7_of_10 ?_
  rw [show (7 + nI (11 * c) : Int32) = nI (7 + 11 * c) from nI_add _ _]
  refine cq_iload_n F (i := 2) dX7_of_11 rfl rfl ?_
  refine cq_iadd F dX7_of_12 ?_
  rw [show (nI (7 + 11 * c) + nI w : Int32) = nI ((7 + 11 * c) + w) from nI_add _ _]
  refine cq_iald_j F (j := ((7 + 11 * c) + w)) ho.k1 ho.n1 rfl ⟨(by omega), by decide⟩ dX7_of_13 ?_
  rw [hg _ (by omega)]
  exact cq_iret F hr (by decide) (by decide) dX7_of_14 ⟨_, rfl, ⟨by rw [hi], rfl⟩⟩
theorem hdVX7_of : yX7_of.cls = RX7 ∧ yX7_of.cls ≠ "java/lang/invoke/MethodHandle" ∧ yX7_of.cls ≠ "java/lang/invoke/VarHandle" ∧ (parseMethodDescriptor yX7_of.desc).map (fun d => d.parameters.length) = some 2 := by decide +kernel
abbrev rmX7_put : Room := ({ frames := 0, cells := 0, slots := 0, locals := 0 })
set_option maxHeartbeats 4000000 in
set_option maxRecDepth 100000 in
theorem kX7_put (l : Launch) (D : va_G) (cA : Nat → ClassId) (X : cq_X) (Bs : Nat) (o c w i : Nat) (v : Int32) (M : cq_M) (ho : cq_isModel X o) (hi : 7 + 11 * c + w = i) (hi9 : i < 109) : cq_C l yX7_put wsX7_put rmX7_put D cA X Bs [.ref o, .int (nI c), .int (nI w), .int v] M (cq_PV (fun M1 => M1 = cq_up M (o + 1) i v)) 0 0 := by
  refine cq_met (cc := cX7_put) (maxL := 4) (ret := none) (by decide) rfl (Nat.le_of_ble_eq_true rfl) [(0, .ref o), (1, .int (nI c)), (2, .int (nI w)), (3, .int v)] rfl rfl ?_
  intro p9 e9 s9 m9 b9 t9 c9 F hr
  have inX7 : ∀ w ∈ wsX70, w ∈ wsX7_put := (fun w h => List.mem_cons_of_mem _ (List.mem_append_right _ h))
  refine cq_aload_n F (i := 0) dX7_put_0 rfl rfl ?_
  refine cq_getT (t := (o + 1)) F (C := RX7) (T := TX7) (N := 22) (ci := 8) ho.kind rfl ⟨⟨by decide, by decide⟩, rfl⟩ inX7 0 (by decide) rfl rfl ho.t0 (F.1.2.2.2.2 _ (List.mem_of_getElem? (l := wsX7_put) (i := 1) (a := .fieldLink RX7 7 "CordClockModel" "row" "[I") (by decide +kernel))) dX7_put_1 ?_
  refine cq_bipush F (v := 7) dX7_put_4 (by decide) ?_
  refine cq_bipush F (v := 11) dX7_put_6 (by decide) ?_
  refine cq_iload_n F (i := 1) dX7_put_8 rfl rfl ?_
  refine cq_imul F dX7_put_9 ?_
  rw [show (11 * nI c : Int32) = nI (11 * c) from pk_mul _ _]
  refine cq_iadd F dX7_put_10 ?_
  rw [show (7 + nI (11 * c) : Int32) = nI (7 + 11 * c) from nI_add _ _]
  refine cq_iload_n F (i := 2) dX7_put_11 rfl rfl ?_
  refine cq_iadd F dX7_put_12 ?_
  rw [show (nI (7 + 11 * c) + nI w : Int32) = nI ((7 + 11 * c) + w) from nI_add _ _]
  refine cq_iload_n F (i := 3) dX7_put_13 rfl rfl ?_
  refine cq_iast_j F (j := ((7 + 11 * c) + w)) ho.k1 ho.n1 rfl ⟨(by omega), by decide⟩ dX7_put_14 (fun M_14 h_14 => ?_)
  exact cq_vret F hr (by decide) (by decide) dX7_put_15 ⟨rfl, by rw [h_14, hi]⟩
theorem hdVX7_put : yX7_put.cls = RX7 ∧ yX7_put.cls ≠ "java/lang/invoke/MethodHandle" ∧ yX7_put.cls ≠ "java/lang/invoke/VarHandle" ∧ (parseMethodDescriptor yX7_put.desc).map (fun d => d.parameters.length) = some 3 := by decide +kernel
abbrev rmX7_in : Room := ({ frames := 0, cells := 0, slots := 0, locals := 0 })
set_option maxHeartbeats 4000000 in
set_option maxRecDepth 100000 in
theorem kX7_in (l : Launch) (D : va_G) (cA : Nat → ClassId) (X : cq_X) (Bs : Nat) (v a b : Int32) (M : cq_M)  : cq_C l yX7_in wsX7_in rmX7_in D cA X Bs [.int v, .int a, .int b] M (cq_PI (fun r M1 => r = (if a ≤ v ∧ v ≤ b then 1 else 0) ∧ M1 = M)) 0 0 := by
  refine cq_met (cc := cX7_in) (maxL := 3) (ret := (some .boolean)) (by decide) rfl (Nat.le_of_ble_eq_true rfl) [(0, .int v), (1, .int a), (2, .int b)] rfl rfl ?_
  intro p9 e9 s9 m9 b9 t9 c9 F hr
  refine cq_iload_n F (i := 0) dX7_in_0 rfl rfl ?_
  refine cq_iload_n F (i := 1) dX7_in_1 rfl rfl ?_
  refine cq_icmp_lt F (tgt := 14) dX7_in_2 (by decide) (fun c_2 => ?_) (fun c_2 => ?_)
  · refine cq_iconst F (v := 0) dX7_in_14 rfl ?_
    exact cq_zret F hr (by rfl) (by decide) (by decide) dX7_in_15 ⟨_, rfl, ⟨(by first | (rw [if_neg (fun z => absurd c_2 (Int32.not_lt.mpr z.1))]) | (rw [if_neg (fun z => absurd c_7 (Int32.not_lt.mpr z.2))]) | (rw [if_pos ⟨Int32.not_lt.mp c_2, Int32.not_lt.mp c_7⟩])), rfl⟩⟩
  · refine cq_iload_n F (i := 0) dX7_in_5 rfl rfl ?_
    refine cq_iload_n F (i := 2) dX7_in_6 rfl rfl ?_
    refine cq_icmp_gt F (tgt := 14) dX7_in_7 (by decide) (fun c_7 => ?_) (fun c_7 => ?_)
    · refine cq_iconst F (v := 0) dX7_in_14 rfl ?_
      exact cq_zret F hr (by rfl) (by decide) (by decide) dX7_in_15 ⟨_, rfl, ⟨(by first | (rw [if_neg (fun z => absurd c_2 (Int32.not_lt.mpr z.1))]) | (rw [if_neg (fun z => absurd c_7 (Int32.not_lt.mpr z.2))]) | (rw [if_pos ⟨Int32.not_lt.mp c_2, Int32.not_lt.mp c_7⟩])), rfl⟩⟩
    · refine cq_iconst F (v := 1) dX7_in_10 rfl ?_
      refine cq_goto F (tgt := 15) dX7_in_11 (by decide) ?_
      exact cq_zret F hr (by rfl) (by decide) (by decide) dX7_in_15 ⟨_, rfl, ⟨(by first | (rw [if_neg (fun z => absurd c_2 (Int32.not_lt.mpr z.1))]) | (rw [if_neg (fun z => absurd c_7 (Int32.not_lt.mpr z.2))]) | (rw [if_pos ⟨Int32.not_lt.mp c_2, Int32.not_lt.mp c_7⟩])), rfl⟩⟩
theorem hdVX7_in : yX7_in.cls = RX7 ∧ yX7_in.cls ≠ "java/lang/invoke/MethodHandle" ∧ yX7_in.cls ≠ "java/lang/invoke/VarHandle" ∧ (parseMethodDescriptor yX7_in.desc).map (fun d => d.parameters.length) = some 3 := by decide +kernel
abbrev rmX7_fails : Room := ({ frames := 0, cells := 0, slots := 0, locals := 0 })
set_option maxHeartbeats 4000000 in
set_option maxRecDepth 100000 in
theorem kX7_fails (l : Launch) (D : va_G) (cA : Nat → ClassId) (X : cq_X) (Bs : Nat) (o : Nat) (x : Int32) (M : cq_M) (ho : cq_isModel X o) : cq_C l yX7_fails wsX7_fails rmX7_fails D cA X Bs [.ref o, .int x] M (cq_PI (fun r M1 => r = 0 ∧ M1 = cq_up M o 6 x)) 0 0 := by
  refine cq_met (cc := cX7_fails) (maxL := 2) (ret := (some .int)) (by decide) rfl (Nat.le_of_ble_eq_true rfl) [(0, .ref o), (1, .int x)] rfl rfl ?_
  intro p9 e9 s9 m9 b9 t9 c9 F hr
  have inX7 : ∀ w ∈ wsX70, w ∈ wsX7_fails := (fun w h => List.mem_cons_of_mem _ (List.mem_append_right _ h))
  refine cq_aload_n F (i := 0) dX7_fails_0 rfl rfl ?_
  refine cq_iload_n F (i := 1) dX7_fails_1 rfl rfl ?_
  refine cq_put F (C := RX7) (T := TX7) (N := 22) (ci := 8) ho.kind rfl ⟨⟨by decide, by decide⟩, rfl⟩ inX7 tyX7 tyX7_ok nmX7 6 (by decide) rfl rfl (F.1.2.2.2.2 _ (List.mem_of_getElem? (l := wsX7_fails) (i := 1) (a := .fieldLink RX7 53 "CordClockModel" "thrown" "I") (by decide +kernel))) rfl (by rfl) (by rfl) dX7_fails_2 (fun M_2 h_2 => ?_)
  refine cq_iconst F (v := 0) dX7_fails_5 rfl ?_
  exact cq_iret F hr (by decide) (by decide) dX7_fails_6 ⟨_, rfl, ⟨rfl, by simp [*]⟩⟩
theorem hdVX7_fails : yX7_fails.cls = RX7 ∧ yX7_fails.cls ≠ "java/lang/invoke/MethodHandle" ∧ yX7_fails.cls ≠ "java/lang/invoke/VarHandle" ∧ (parseMethodDescriptor yX7_fails.desc).map (fun d => d.parameters.length) = some 1 := by decide +kernel
abbrev rmX7_thrown : Room := ({ frames := 0, cells := 0, slots := 0, locals := 0 })
set_option maxHeartbeats 4000000 in
set_option maxRecDepth 100000 in
theorem kX7_thrown (l : Launch) (D : va_G) (cA : Nat → ClassId) (X : cq_X) (Bs : Nat) (o : Nat) (M : cq_M) (ho : cq_isModel X o) : cq_C l yX7_thrown wsX7_thrown rmX7_thrown D cA X Bs [.ref o] M (cq_PI (fun r M1 => r = M o 6 ∧ M1 = M)) 0 0 := by
  refine cq_met (cc := cX7_thrown) (maxL := 1) (ret := (some .int)) (by decide) rfl (Nat.le_of_ble_eq_true rfl) [(0, .ref o)] rfl rfl ?_
  intro p9 e9 s9 m9 b9 t9 c9 F hr
  have inX7 : ∀ w ∈ wsX70, w ∈ wsX7_thrown := (fun w h => List.mem_cons_of_mem _ (List.mem_append_right _ h))
  refine cq_aload_n F (i := 0) dX7_thrown_0 rfl rfl ?_
  refine cq_getI F (C := RX7) (T := TX7) (N := 22) (ci := 8) ho.kind rfl ⟨⟨by decide, by decide⟩, rfl⟩ inX7 6 (by decide) rfl rfl (F.1.2.2.2.2 _ (List.mem_of_getElem? (l := wsX7_thrown) (i := 1) (a := .fieldLink RX7 53 "CordClockModel" "thrown" "I") (by decide +kernel))) dX7_thrown_1 ?_
  exact cq_iret F hr (by decide) (by decide) dX7_thrown_4 ⟨_, rfl, ⟨by clear F hr; simp_all, rfl⟩⟩
theorem hdVX7_thrown : yX7_thrown.cls = RX7 ∧ yX7_thrown.cls ≠ "java/lang/invoke/MethodHandle" ∧ yX7_thrown.cls ≠ "java/lang/invoke/VarHandle" ∧ (parseMethodDescriptor yX7_thrown.desc).map (fun d => d.parameters.length) = some 0 := by decide +kernel
abbrev rmX7_side : Room := ({ frames := 0, cells := 0, slots := 0, locals := 0 })
set_option maxHeartbeats 4000000 in
set_option maxRecDepth 100000 in
theorem kX7_side (l : Launch) (D : va_G) (cA : Nat → ClassId) (X : cq_X) (Bs : Nat) (x : Int32) (M : cq_M)  : cq_C l yX7_side wsX7_side rmX7_side D cA X Bs [.int x] M (cq_PI (fun r M1 => r = nI (ns_side x) ∧ M1 = M)) 0 0 := by
  refine cq_met (cc := cX7_side) (maxL := 1) (ret := (some .int)) (by decide) rfl (Nat.le_of_ble_eq_true rfl) [(0, .int x)] rfl rfl ?_
  intro p9 e9 s9 m9 b9 t9 c9 F hr
  refine cq_iload_n F (i := 0) dX7_side_0 rfl rfl ?_
  refine cq_if_eq F (tgt := 8) dX7_side_1 (by decide) (fun c_1 => ?_) (fun c_1 => ?_)
  · refine cq_iconst F (v := 2) dX7_side_8 rfl ?_
    exact cq_iret F hr (by decide) (by decide) dX7_side_9 ⟨_, rfl, ⟨by simp [*, ns_side, nI], rfl⟩⟩
  · refine cq_iconst F (v := 1) dX7_side_4 rfl ?_
    refine cq_goto F (tgt := 9) dX7_side_5 (by decide) ?_
    exact cq_iret F hr (by decide) (by decide) dX7_side_9 ⟨_, rfl, ⟨by simp [*, ns_side, nI], rfl⟩⟩
theorem hdVX7_side : yX7_side.cls = RX7 ∧ yX7_side.cls ≠ "java/lang/invoke/MethodHandle" ∧ yX7_side.cls ≠ "java/lang/invoke/VarHandle" ∧ (parseMethodDescriptor yX7_side.desc).map (fun d => d.parameters.length) = some 1 := by decide +kernel
abbrev rmX7_timeOf : Room := ({ frames := 1, cells := 0, slots := 0, locals := 22 })
set_option maxHeartbeats 4000000 in
set_option maxRecDepth 100000 in
theorem kX7_timeOf (l : Launch) (D : va_G) (cA : Nat → ClassId) (X : cq_X) (Bs : Nat) (o c : Nat) (g : Nat → Nat) (M : cq_M) (ho : cq_isModel X o) (hg : cq_nv M (o + 1) 109 g) (hc : c < 4) (hs : g (7 + 11 * c) ≤ 6) : cq_C l yX7_timeOf wsX7_timeOf rmX7_timeOf D cA X Bs [.ref o, .int (nI c)] M (cq_PI (fun r M1 => r = nI (ns_time g c) ∧ M1 = M)) 0 0 := by
  refine cq_met (cc := cX7_timeOf) (maxL := 4) (ret := (some .int)) (by decide) rfl (Nat.le_of_ble_eq_true rfl) [(0, .ref o), (1, .int (nI c))] rfl rfl ?_
  intro p9 e9 s9 m9 b9 t9 c9 F hr
  have loop_4 : ∀ (n_4 : Nat) (k : Nat), k ≤ g (7 + 11 * c) → g (7 + 11 * c) - k < n_4 → cq_V p9 l e9 rmX7_timeOf s9 m9 ([.ref o, .int (nI c)] : List Value).toArray b9 t9 c9 D cA X Bs 4 0 0 (MQ b9 (cq_Q D cA X Bs (cq_PI (fun r M1 => r = nI (ns_time g c) ∧ M1 = M))) ([.ref o, .int (nI c)] : List Value).toArray s9 0 0 (cq_A Bs)) 4 [(0, .ref o), (1, .int (nI c)), (2, .int (nI (ns_sum g (8 + 11 * c) k))), (3, .int (nI k))] [] M := by
    intro n_4
    induction n_4 with
    | zero =>
      intros
      omega
    | succ n_4 ih_4 =>
      intro k hk hn
      refine cq_iload_n F (i := 3) dX7_timeOf_4 rfl rfl ?_
      refine cq_aload_n F (i := 0) dX7_timeOf_5 rfl rfl ?_
      refine cq_iload_n F (i := 1) dX7_timeOf_6 rfl rfl ?_
      refine cq_iconst F (v := 0) dX7_timeOf_7 rfl ?_
      refine cq_callV F (C := RX7) (ci := 8) (kX7_of l D cA X Bs o c (0) (7 + 11 * c) g M ho hg (by omega) (by omega)) (cwV 2 F.1.2.2.2.2 gX7_timeOf_X7_of rfl rfl rfl hdVX7_of ⟨Nat.le_of_ble_eq_true rfl, Nat.le_of_ble_eq_true rfl⟩) ho.kind ⟨by decide, by decide⟩ rfl rfl rfl (Nat.le_of_ble_eq_true rfl) dX7_timeOf_8 ⟨Nat.le_of_ble_eq_true rfl, Nat.le_of_ble_eq_true rfl⟩ (cq_kIp fun r_8 h_8 => ?_)
      subst h_8
      refine cq_icmp_ge F (tgt := 31) dX7_timeOf_11 (by decide) (fun c_11 => ?_) (fun c_11 => ?_)
      · have c_11 : (g (7 + 11 * c)) ≤ k := (nI_b (a := (g (7 + 11 * c))) (b := k) (by omega) (by omega)).1.mp c_11
        refine cq_iload_n F (i := 2) dX7_timeOf_31 rfl rfl ?_
        exact cq_iret F hr (by decide) (by decide) dX7_timeOf_32 ⟨_, rfl, ⟨(by rw [show k = g (7 + 11 * c) by omega]; rfl), rfl⟩⟩
      · have c_11 : ¬ (g (7 + 11 * c)) ≤ k := fun z => c_11 ((nI_b (a := (g (7 + 11 * c))) (b := k) (by omega) (by omega)).1.mpr z)
        refine cq_iload_n F (i := 2) dX7_timeOf_14 rfl rfl ?_
        refine cq_aload_n F (i := 0) dX7_timeOf_15 rfl rfl ?_
        refine cq_iload_n F (i := 1) dX7_timeOf_16 rfl rfl ?_
        refine cq_iconst F (v := 1) dX7_timeOf_17 rfl ?_
        refine cq_iload_n F (i := 3) dX7_timeOf_18 rfl rfl ?_
        refine cq_iadd F dX7_timeOf_19 ?_
        rw [show (1 + nI k : Int32) = nI (1 + k) from nI_add _ _]
        refine cq_callV F (C := RX7) (ci := 8) (kX7_of l D cA X Bs o c (1 + k) (8 + 11 * c + k) g M ho hg (by omega) (by omega)) (cwV 2 F.1.2.2.2.2 gX7_timeOf_X7_of rfl rfl rfl hdVX7_of ⟨Nat.le_of_ble_eq_true rfl, Nat.le_of_ble_eq_true rfl⟩) ho.kind ⟨by decide, by decide⟩ rfl rfl rfl (Nat.le_of_ble_eq_true rfl) dX7_timeOf_20 ⟨Nat.le_of_ble_eq_true rfl, Nat.le_of_ble_eq_true rfl⟩ (cq_kIp fun r_20 h_20 => ?_)
        subst h_20
        refine cq_iadd F dX7_timeOf_23 ?_
        rw [show (nI (ns_sum g (8 + 11 * c) k) + nI (g (8 + 11 * c + k)) : Int32) = nI ((ns_sum g (8 + 11 * c) k) + (g (8 + 11 * c + k))) from nI_add _ _]
        refine cq_istore_n F (i := 2) dX7_timeOf_24 rfl (by decide) ?_
        refine cq_iinc F dX7_timeOf_25 rfl (by decide) (fun x_25 e_25 => ?_)
        obtain rfl : x_25 = nI (k + 1) := by rw [e_25]; exact nI_1 _
        refine cq_goto F (tgt := 4) dX7_timeOf_28 (by decide) ?_
        refine cq_loc (L2 := [(0, .ref o), (1, .int (nI c)), (2, .int (nI (ns_sum g (8 + 11 * c) (k + 1)))), (3, .int (nI (k + 1)))]) rfl ?_
        exact ih_4 (k + 1) (by omega) (by omega)
  refine cq_iconst F (v := 0) dX7_timeOf_0 rfl ?_
  refine cq_istore_n F (i := 2) dX7_timeOf_1 rfl (by decide) ?_
  refine cq_iconst F (v := 0) dX7_timeOf_2 rfl ?_
  refine cq_istore_n F (i := 3) dX7_timeOf_3 rfl (by decide) ?_
  refine cq_loc (L2 := [(0, .ref o), (1, .int (nI c)), (2, .int (nI (ns_sum g (8 + 11 * c) 0))), (3, .int (nI 0))]) rfl ?_
  exact loop_4 (g (7 + 11 * c) + 1) 0 (by omega) (by omega)
theorem hdVX7_timeOf : yX7_timeOf.cls = RX7 ∧ yX7_timeOf.cls ≠ "java/lang/invoke/MethodHandle" ∧ yX7_timeOf.cls ≠ "java/lang/invoke/VarHandle" ∧ (parseMethodDescriptor yX7_timeOf.desc).map (fun d => d.parameters.length) = some 1 := by decide +kernel
abbrev rmX7_burnedOf : Room := ({ frames := 1, cells := 0, slots := 0, locals := 22 })
set_option maxHeartbeats 4000000 in
set_option maxRecDepth 100000 in
theorem kX7_burnedOf (l : Launch) (D : va_G) (cA : Nat → ClassId) (X : cq_X) (Bs : Nat) (o c : Nat) (g : Nat → Nat) (M : cq_M) (ho : cq_isModel X o) (hg : cq_nv M (o + 1) 109 g) (hc : c < 4) : cq_C l yX7_burnedOf wsX7_burnedOf rmX7_burnedOf D cA X Bs [.ref o, .int (nI c)] M (cq_PI (fun r M1 => r = nI (ns_burned g c) ∧ M1 = M)) 0 0 := by
  refine cq_met (cc := cX7_burnedOf) (maxL := 2) (ret := (some .int)) (by decide) rfl (Nat.le_of_ble_eq_true rfl) [(0, .ref o), (1, .int (nI c))] rfl rfl ?_
  intro p9 e9 s9 m9 b9 t9 c9 F hr
  refine cq_aload_n F (i := 0) dX7_burnedOf_0 rfl rfl ?_
  refine cq_iload_n F (i := 1) dX7_burnedOf_1 rfl rfl ?_
  refine cq_bipush F (v := 7) dX7_burnedOf_2 (by decide) ?_
  refine cq_callV F (C := RX7) (ci := 8) (kX7_of l D cA X Bs o c (7) (14 + 11 * c) g M ho hg (by omega) (by omega)) (cwV 2 F.1.2.2.2.2 gX7_burnedOf_X7_of rfl rfl rfl hdVX7_of ⟨Nat.le_of_ble_eq_true rfl, Nat.le_of_ble_eq_true rfl⟩) ho.kind ⟨by decide, by decide⟩ rfl rfl rfl (Nat.le_of_ble_eq_true rfl) dX7_burnedOf_4 ⟨Nat.le_of_ble_eq_true rfl, Nat.le_of_ble_eq_true rfl⟩ (cq_kIp fun r_4 h_4 => ?_)
  subst h_4
  refine cq_aload_n F (i := 0) dX7_burnedOf_7 rfl rfl ?_
  refine cq_iload_n F (i := 1) dX7_burnedOf_8 rfl rfl ?_
  refine cq_bipush F (v := 8) dX7_burnedOf_9 (by decide) ?_
  refine cq_callV F (C := RX7) (ci := 8) (kX7_of l D cA X Bs o c (8) (15 + 11 * c) g M ho hg (by omega) (by omega)) (cwV 2 F.1.2.2.2.2 gX7_burnedOf_X7_of rfl rfl rfl hdVX7_of ⟨Nat.le_of_ble_eq_true rfl, Nat.le_of_ble_eq_true rfl⟩) ho.kind ⟨by decide, by decide⟩ rfl rfl rfl (Nat.le_of_ble_eq_true rfl) dX7_burnedOf_11 ⟨Nat.le_of_ble_eq_true rfl, Nat.le_of_ble_eq_true rfl⟩ (cq_kIp fun r_11 h_11 => ?_)
  subst h_11
  refine cq_iadd F dX7_burnedOf_14 ?_
  rw [show (nI (g (14 + 11 * c)) + nI (g (15 + 11 * c)) : Int32) = nI ((g (14 + 11 * c)) + (g (15 + 11 * c))) from nI_add _ _]
  exact cq_iret F hr (by decide) (by decide) dX7_burnedOf_15 ⟨_, rfl, ⟨rfl, rfl⟩⟩
theorem hdVX7_burnedOf : yX7_burnedOf.cls = RX7 ∧ yX7_burnedOf.cls ≠ "java/lang/invoke/MethodHandle" ∧ yX7_burnedOf.cls ≠ "java/lang/invoke/VarHandle" ∧ (parseMethodDescriptor yX7_burnedOf.desc).map (fun d => d.parameters.length) = some 1 := by decide +kernel
abbrev rmX7_leftOf : Room := ({ frames := 2, cells := 0, slots := 0, locals := 45 })
set_option maxHeartbeats 4000000 in
set_option maxRecDepth 100000 in
theorem kX7_leftOf (l : Launch) (D : va_G) (cA : Nat → ClassId) (X : cq_X) (Bs : Nat) (o c : Nat) (g : Nat → Nat) (M : cq_M) (ho : cq_isModel X o) (hg : cq_nv M (o + 1) 109 g) (hc : c < 4) (hs : g (7 + 11 * c) ≤ 6) (hb : ns_burned g c ≤ ns_time g c) : cq_C l yX7_leftOf wsX7_leftOf rmX7_leftOf D cA X Bs [.ref o, .int (nI c)] M (cq_PI (fun r M1 => r = nI (ns_left g c) ∧ M1 = M)) 0 0 := by
  refine cq_met (cc := cX7_leftOf) (maxL := 2) (ret := (some .int)) (by decide) rfl (Nat.le_of_ble_eq_true rfl) [(0, .ref o), (1, .int (nI c))] rfl rfl ?_
  intro p9 e9 s9 m9 b9 t9 c9 F hr
  refine cq_aload_n F (i := 0) dX7_leftOf_0 rfl rfl ?_
  refine cq_iload_n F (i := 1) dX7_leftOf_1 rfl rfl ?_
  refine cq_callV F (C := RX7) (ci := 8) (kX7_timeOf l D cA X Bs o c g M ho hg hc hs) (cwV 1 F.1.2.2.2.2 gX7_leftOf_X7_timeOf rfl rfl rfl hdVX7_timeOf ⟨Nat.le_of_ble_eq_true rfl, Nat.le_of_ble_eq_true rfl⟩) ho.kind ⟨by decide, by decide⟩ rfl rfl rfl (Nat.le_of_ble_eq_true rfl) dX7_leftOf_2 ⟨Nat.le_of_ble_eq_true rfl, Nat.le_of_ble_eq_true rfl⟩ (cq_kIp fun r_2 h_2 => ?_)
  subst h_2
  refine cq_aload_n F (i := 0) dX7_leftOf_5 rfl rfl ?_
  refine cq_iload_n F (i := 1) dX7_leftOf_6 rfl rfl ?_
  refine cq_callV F (C := RX7) (ci := 8) (kX7_burnedOf l D cA X Bs o c g M ho hg hc) (cwV 1 F.1.2.2.2.2 gX7_leftOf_X7_burnedOf rfl rfl rfl hdVX7_burnedOf ⟨Nat.le_of_ble_eq_true rfl, Nat.le_of_ble_eq_true rfl⟩) ho.kind ⟨by decide, by decide⟩ rfl rfl rfl (Nat.le_of_ble_eq_true rfl) dX7_leftOf_7 ⟨Nat.le_of_ble_eq_true rfl, Nat.le_of_ble_eq_true rfl⟩ (cq_kIp fun r_7 h_7 => ?_)
  subst h_7
  refine cq_isub F dX7_leftOf_10 ?_
  rw [show (nI (ns_time g c) - nI (ns_burned g c) : Int32) = nI ((ns_time g c) - (ns_burned g c)) from pk_sub (a := (ns_time g c)) (b := (ns_burned g c)) hb]
  exact cq_iret F hr (by decide) (by decide) dX7_leftOf_11 ⟨_, rfl, ⟨rfl, rfl⟩⟩
theorem hdVX7_leftOf : yX7_leftOf.cls = RX7 ∧ yX7_leftOf.cls ≠ "java/lang/invoke/MethodHandle" ∧ yX7_leftOf.cls ≠ "java/lang/invoke/VarHandle" ∧ (parseMethodDescriptor yX7_leftOf.desc).map (fun d => d.parameters.length) = some 1 := by decide +kernel
abbrev rmX7_flamesOf : Room := ({ frames := 1, cells := 0, slots := 0, locals := 22 })
set_option maxHeartbeats 4000000 in
set_option maxRecDepth 100000 in
theorem kX7_flamesOf (l : Launch) (D : va_G) (cA : Nat → ClassId) (X : cq_X) (Bs : Nat) (o c : Nat) (g : Nat → Nat) (M : cq_M) (ho : cq_isModel X o) (hg : cq_nv M (o + 1) 109 g) (hc : c < 4) (hf : g (16 + 11 * c) ≤ 3) : cq_C l yX7_flamesOf wsX7_flamesOf rmX7_flamesOf D cA X Bs [.ref o, .int (nI c)] M (cq_PI (fun r M1 => r = nI (ns_fl (g (16 + 11 * c))) ∧ M1 = M)) 0 0 := by
  refine cq_met (cc := cX7_flamesOf) (maxL := 3) (ret := (some .int)) (by decide) rfl (Nat.le_of_ble_eq_true rfl) [(0, .ref o), (1, .int (nI c))] rfl rfl ?_
  intro p9 e9 s9 m9 b9 t9 c9 F hr
  refine cq_aload_n F (i := 0) dX7_flamesOf_0 rfl rfl ?_
  refine cq_iload_n F (i := 1) dX7_flamesOf_1 rfl rfl ?_
  refine cq_bipush F (v := 9) dX7_flamesOf_2 (by decide) ?_
  refine cq_callV F (C := RX7) (ci := 8) (kX7_of l D cA X Bs o c (9) (16 + 11 * c) g M ho hg (by omega) (by omega)) (cwV 2 F.1.2.2.2.2 gX7_flamesOf_X7_of rfl rfl rfl hdVX7_of ⟨Nat.le_of_ble_eq_true rfl, Nat.le_of_ble_eq_true rfl⟩) ho.kind ⟨by decide, by decide⟩ rfl rfl rfl (Nat.le_of_ble_eq_true rfl) dX7_flamesOf_4 ⟨Nat.le_of_ble_eq_true rfl, Nat.le_of_ble_eq_true rfl⟩ (cq_kIp fun r_4 h_4 => ?_)
  subst h_4
  refine cq_istore_n F (i := 2) dX7_flamesOf_7 rfl (by decide) ?_
  refine cq_iload_n F (i := 2) dX7_flamesOf_8 rfl rfl ?_
  refine cq_iconst F (v := 1) dX7_flamesOf_9 rfl ?_
  refine cq_iand F dX7_flamesOf_10 ?_
  rw [(nI_and1 hf).1]
  refine cq_iload_n F (i := 2) dX7_flamesOf_11 rfl rfl ?_
  refine cq_iconst F (v := 1) dX7_flamesOf_12 rfl ?_
  refine cq_ishr F dX7_flamesOf_13 ?_
  rw [(nI_and1 hf).2.2]
  refine cq_iadd F dX7_flamesOf_14 ?_
  rw [show (nI (g (16 + 11 * c) % 2) + nI (g (16 + 11 * c) / 2) : Int32) = nI ((g (16 + 11 * c) % 2) + (g (16 + 11 * c) / 2)) from nI_add _ _]
  exact cq_iret F hr (by decide) (by decide) dX7_flamesOf_15 ⟨_, rfl, ⟨rfl, rfl⟩⟩
theorem hdVX7_flamesOf : yX7_flamesOf.cls = RX7 ∧ yX7_flamesOf.cls ≠ "java/lang/invoke/MethodHandle" ∧ yX7_flamesOf.cls ≠ "java/lang/invoke/VarHandle" ∧ (parseMethodDescriptor yX7_flamesOf.desc).map (fun d => d.parameters.length) = some 1 := by decide +kernel
abbrev rmX7_flames : Room := ({ frames := 2, cells := 0, slots := 0, locals := 44 })
set_option maxHeartbeats 4000000 in
set_option maxRecDepth 100000 in
theorem kX7_flames (l : Launch) (D : va_G) (cA : Nat → ClassId) (X : cq_X) (Bs : Nat) (o : Nat) (g : Nat → Nat) (M : cq_M) (ho : cq_isModel X o) (hg : cq_nv M (o + 1) 109 g) (h6 : g 6 ≤ 4) (hf : ∀ c, c < g 6 → g (16 + 11 * c) ≤ 3) : cq_C l yX7_flames wsX7_flames rmX7_flames D cA X Bs [.ref o] M (cq_PI (fun r M1 => r = nI (ns_flames g (g 6)) ∧ M1 = M)) 0 0 := by
  refine cq_met (cc := cX7_flames) (maxL := 3) (ret := (some .int)) (by decide) rfl (Nat.le_of_ble_eq_true rfl) [(0, .ref o)] rfl rfl ?_
  intro p9 e9 s9 m9 b9 t9 c9 F hr
  have inX7 : ∀ w ∈ wsX70, w ∈ wsX7_flames := (fun w h => List.mem_cons_of_mem _ (List.mem_append_right _ h))
  have loop_4 : ∀ (n_4 : Nat) (k : Nat), k ≤ g 6 → g 6 - k < n_4 → cq_V p9 l e9 rmX7_flames s9 m9 ([.ref o] : List Value).toArray b9 t9 c9 D cA X Bs 3 0 0 (MQ b9 (cq_Q D cA X Bs (cq_PI (fun r M1 => r = nI (ns_flames g (g 6)) ∧ M1 = M))) ([.ref o] : List Value).toArray s9 0 0 (cq_A Bs)) 4 [(0, .ref o), (1, .int (nI (ns_flames g k))), (2, .int (nI k))] [] M := by
    intro n_4
    induction n_4 with
    | zero =>
      intros
      omega
    | succ n_4 ih_4 =>
      intro k hk hn
      refine cq_iload_n F (i := 2) dX7_flames_4 rfl rfl ?_
      refine cq_aload_n F (i := 0) dX7_flames_5 rfl rfl ?_
      refine cq_getT (t := (o + 1)) F (C := RX7) (T := TX7) (N := 22) (ci := 8) ho.kind rfl ⟨⟨by decide, by decide⟩, rfl⟩ inX7 0 (by decide) rfl rfl ho.t0 (F.1.2.2.2.2 _ (List.mem_of_getElem? (l := wsX7_flames) (i := 1) (a := .fieldLink RX7 7 "CordClockModel" "row" "[I") (by decide +kernel))) dX7_flames_6 ?_
      refine cq_bipush F (v := 6) dX7_flames_9 (by decide) ?_
      refine cq_iald_j F (j := 6) ho.k1 ho.n1 rfl ⟨(by omega), by decide⟩ dX7_flames_11 ?_
      rw [hg _ (by omega)]
      refine cq_icmp_ge F (tgt := 29) dX7_flames_12 (by decide) (fun c_12 => ?_) (fun c_12 => ?_)
      · have c_12 : (g (6)) ≤ k := (nI_b (a := (g (6))) (b := k) (by omega) (by omega)).1.mp c_12
        refine cq_iload_n F (i := 1) dX7_flames_29 rfl rfl ?_
        exact cq_iret F hr (by decide) (by decide) dX7_flames_30 ⟨_, rfl, ⟨(by rw [show k = g 6 by omega]), rfl⟩⟩
      · have c_12 : ¬ (g (6)) ≤ k := fun z => c_12 ((nI_b (a := (g (6))) (b := k) (by omega) (by omega)).1.mpr z)
        refine cq_iload_n F (i := 1) dX7_flames_15 rfl rfl ?_
        refine cq_aload_n F (i := 0) dX7_flames_16 rfl rfl ?_
        refine cq_iload_n F (i := 2) dX7_flames_17 rfl rfl ?_
        refine cq_callV F (C := RX7) (ci := 8) (kX7_flamesOf l D cA X Bs o k g M ho hg (by omega) (hf k (by omega))) (cwV 1 F.1.2.2.2.2 gX7_flames_X7_flamesOf rfl rfl rfl hdVX7_flamesOf ⟨Nat.le_of_ble_eq_true rfl, Nat.le_of_ble_eq_true rfl⟩) ho.kind ⟨by decide, by decide⟩ rfl rfl rfl (Nat.le_of_ble_eq_true rfl) dX7_flames_18 ⟨Nat.le_of_ble_eq_true rfl, Nat.le_of_ble_eq_true rfl⟩ (cq_kIp fun r_18 h_18 => ?_)
        subst h_18
        refine cq_iadd F dX7_flames_21 ?_
        rw [show (nI (ns_flames g k) + nI (ns_fl (g (16 + 11 * k))) : Int32) = nI ((ns_flames g k) + (ns_fl (g (16 + 11 * k)))) from nI_add _ _]
        refine cq_istore_n F (i := 1) dX7_flames_22 rfl (by decide) ?_
        refine cq_iinc F dX7_flames_23 rfl (by decide) (fun x_23 e_23 => ?_)
        obtain rfl : x_23 = nI (k + 1) := by rw [e_23]; exact nI_1 _
        refine cq_goto F (tgt := 4) dX7_flames_26 (by decide) ?_
        refine cq_loc (L2 := [(0, .ref o), (1, .int (nI (ns_flames g (k + 1)))), (2, .int (nI (k + 1)))]) rfl ?_
        exact ih_4 (k + 1) (by omega) (by omega)
  refine cq_iconst F (v := 0) dX7_flames_0 rfl ?_
  refine cq_istore_n F (i := 1) dX7_flames_1 rfl (by decide) ?_
  refine cq_iconst F (v := 0) dX7_flames_2 rfl ?_
  refine cq_istore_n F (i := 2) dX7_flames_3 rfl (by decide) ?_
  refine cq_loc (L2 := [(0, .ref o), (1, .int (nI (ns_flames g 0))), (2, .int (nI 0))]) rfl ?_
  exact loop_4 (g 6 + 1) 0 (by omega) (by omega)
theorem hdVX7_flames : yX7_flames.cls = RX7 ∧ yX7_flames.cls ≠ "java/lang/invoke/MethodHandle" ∧ yX7_flames.cls ≠ "java/lang/invoke/VarHandle" ∧ (parseMethodDescriptor yX7_flames.desc).map (fun d => d.parameters.length) = some 0 := by decide +kernel
