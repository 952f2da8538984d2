/-! the class's State: copies, new cords, new rules -/
abbrev rmX4_copyFrom : Room := ({ frames := 0, cells := 0, slots := 0, locals := 0 })
set_option maxHeartbeats 4000000 in
set_option maxRecDepth 100000 in
theorem kX4_copyFrom (l : Launch) (D : va_G) (cA : Nat → ClassId) (X : cq_X) (Bs : Nat) (a o : Nat) (M : cq_M) (ha : cq_isRule X a) (ho : cq_isRule X o) (h2 : cr_01 (M o 2)) (hd : a ≠ o) : cq_C l yX4_copyFrom wsX4_copyFrom rmX4_copyFrom D cA X Bs [.ref a, .ref o] M (cq_PV (fun M1 => ∀ x j, M1 x j = if x = a ∧ j ≤ 3 then M o j else M x j)) 0 0 := by
  refine cq_met (cc := cX4_copyFrom) (maxL := 2) (ret := none) (by decide) rfl (Nat.le_of_ble_eq_true rfl) [(0, .ref a), (1, .ref o)] rfl rfl ?_
  intro p9 e9 s9 m9 b9 t9 c9 F hr
  have inX4 : ∀ w ∈ wsX40, w ∈ wsX4_copyFrom := (fun w h => List.mem_cons_of_mem _ (List.mem_append_right _ h))
  refine cq_aload_n F (i := 0) dX4_copyFrom_0 rfl rfl ?_
  refine cq_aload_n F (i := 1) dX4_copyFrom_1 rfl rfl ?_
  refine cq_getI F (C := RX4) (T := TX4) (N := 4) (ci := 5) ho.kind rfl ⟨⟨by decide, by decide⟩, rfl⟩ inX4 0 (by decide) rfl rfl (F.1.2.2.2.2 _ (List.mem_of_getElem? (l := wsX4_copyFrom) (i := 1) (a := .fieldLink RX4 7 "CordClock$Rule" "out" "I") (by decide +kernel))) dX4_copyFrom_2 ?_
  refine cq_put F (C := RX4) (T := TX4) (N := 4) (ci := 5) ha.kind rfl ⟨⟨by decide, by decide⟩, rfl⟩ inX4 tyX4 tyX4_ok nmX4 0 (by decide) rfl rfl (F.1.2.2.2.2 _ (List.mem_of_getElem? (l := wsX4_copyFrom) (i := 1) (a := .fieldLink RX4 7 "CordClock$Rule" "out" "I") (by decide +kernel))) rfl (by rfl) (by rfl) dX4_copyFrom_5 (fun M_5 h_5 => ?_)
  refine cq_aload_n F (i := 0) dX4_copyFrom_8 rfl rfl ?_
  refine cq_aload_n F (i := 1) dX4_copyFrom_9 rfl rfl ?_
  refine cq_getI F (C := RX4) (T := TX4) (N := 4) (ci := 5) ho.kind rfl ⟨⟨by decide, by decide⟩, rfl⟩ inX4 1 (by decide) rfl rfl (F.1.2.2.2.2 _ (List.mem_of_getElem? (l := wsX4_copyFrom) (i := 2) (a := .fieldLink RX4 13 "CordClock$Rule" "lit" "I") (by decide +kernel))) dX4_copyFrom_10 ?_
  refine cq_put F (C := RX4) (T := TX4) (N := 4) (ci := 5) ha.kind rfl ⟨⟨by decide, by decide⟩, rfl⟩ inX4 tyX4 tyX4_ok nmX4 1 (by decide) rfl rfl (F.1.2.2.2.2 _ (List.mem_of_getElem? (l := wsX4_copyFrom) (i := 2) (a := .fieldLink RX4 13 "CordClock$Rule" "lit" "I") (by decide +kernel))) rfl (by rfl) (by rfl) dX4_copyFrom_13 (fun M_13 h_13 => ?_)
  refine cq_aload_n F (i := 0) dX4_copyFrom_16 rfl rfl ?_
  refine cq_aload_n F (i := 1) dX4_copyFrom_17 rfl rfl ?_
  refine cq_getI F (C := RX4) (T := TX4) (N := 4) (ci := 5) ho.kind rfl ⟨⟨by decide, by decide⟩, rfl⟩ inX4 2 (by decide) rfl rfl (F.1.2.2.2.2 _ (List.mem_of_getElem? (l := wsX4_copyFrom) (i := 3) (a := .fieldLink RX4 16 "CordClock$Rule" "left" "Z") (by decide +kernel))) dX4_copyFrom_18 ?_
  refine cq_put F (C := RX4) (T := TX4) (N := 4) (ci := 5) ha.kind rfl ⟨⟨by decide, by decide⟩, rfl⟩ inX4 tyX4 tyX4_ok nmX4 2 (by decide) rfl rfl (F.1.2.2.2.2 _ (List.mem_of_getElem? (l := wsX4_copyFrom) (i := 3) (a := .fieldLink RX4 16 "CordClock$Rule" "left" "Z") (by decide +kernel))) rfl (cq_zn (by rw [h_13, cq_up_a (by omega), h_5, cq_up_a (by omega)]; exact h2)) (cq_fz (by rw [h_13, cq_up_a (by omega), h_5, cq_up_a (by omega)]; exact h2)) dX4_copyFrom_21 (fun M_21 h_21 => ?_)
  refine cq_aload_n F (i := 0) dX4_copyFrom_24 rfl rfl ?_
  refine cq_aload_n F (i := 1) dX4_copyFrom_25 rfl rfl ?_
  refine cq_getI F (C := RX4) (T := TX4) (N := 4) (ci := 5) ho.kind rfl ⟨⟨by decide, by decide⟩, rfl⟩ inX4 3 (by decide) rfl rfl (F.1.2.2.2.2 _ (List.mem_of_getElem? (l := wsX4_copyFrom) (i := 4) (a := .fieldLink RX4 20 "CordClock$Rule" "timesLit" "I") (by decide +kernel))) dX4_copyFrom_26 ?_
  refine cq_put F (C := RX4) (T := TX4) (N := 4) (ci := 5) ha.kind rfl ⟨⟨by decide, by decide⟩, rfl⟩ inX4 tyX4 tyX4_ok nmX4 3 (by decide) rfl rfl (F.1.2.2.2.2 _ (List.mem_of_getElem? (l := wsX4_copyFrom) (i := 4) (a := .fieldLink RX4 20 "CordClock$Rule" "timesLit" "I") (by decide +kernel))) rfl (by rfl) (by rfl) dX4_copyFrom_29 (fun M_29 h_29 => ?_)
  refine cq_vret F hr (by decide) (by decide) dX4_copyFrom_32 ⟨rfl, ?_⟩
  have o9 : o ≠ a := by omega
  intro x j
  subst_vars
  simp only [cq_up_a o9]
  by_cases hx : x = a
  · subst hx
    have h9 : j = 0 ∨ j = 1 ∨ j = 2 ∨ j = 3 ∨ 4 ≤ j := by omega
    rcases h9 with h | h | h | h | h
    · subst h; simp [cq_up]
    · subst h; simp [cq_up]
    · subst h; simp [cq_up]
    · subst h; simp [cq_up]
    · rw [if_neg (by omega)]
      simp only [cq_up]
      repeat rw [if_neg (by omega)]
  · simp only [cq_up_a hx]
    rw [if_neg (fun z => hx z.1)]
theorem hdVX4_copyFrom : yX4_copyFrom.cls = RX4 ∧ yX4_copyFrom.cls ≠ "java/lang/invoke/MethodHandle" ∧ yX4_copyFrom.cls ≠ "java/lang/invoke/VarHandle" ∧ (parseMethodDescriptor yX4_copyFrom.desc).map (fun d => d.parameters.length) = some 1 := by decide +kernel
abbrev rmX0_copyFrom : Room := ({ frames := 0, cells := 0, slots := 0, locals := 0 })
set_option maxHeartbeats 4000000 in
set_option maxRecDepth 100000 in
theorem kX0_copyFrom (l : Launch) (D : va_G) (cA : Nat → ClassId) (X : cq_X) (Bs : Nat) (a o : Nat) (M : cq_M) (ha : cq_isBook X a) (ho : cq_isBook X o) (hd : a + 4 ≤ o ∨ o + 4 ≤ a) : cq_C l yX0_copyFrom wsX0_copyFrom rmX0_copyFrom D cA X Bs [.ref a, .ref o] M (cq_PV (fun M1 => cp_B M M1 o a ∧ cr_fr M M1 a 4)) 0 0 := by
  refine cq_met (cc := cX0_copyFrom) (maxL := 3) (ret := none) (by decide) rfl (Nat.le_of_ble_eq_true rfl) [(0, .ref a), (1, .ref o)] rfl rfl ?_
  intro p9 e9 s9 m9 b9 t9 c9 F hr
  have inX0 : ∀ w ∈ wsX00, w ∈ wsX0_copyFrom := (fun w h => List.mem_cons_of_mem _ (List.mem_append_right _ h))
  have loop_2 : ∀ (n_2 : Nat) (k : Nat) (M2 : cq_M), k ≤ 8 → (∀ x j, M2 x j = if (x = a + 1 ∨ x = a + 2 ∨ x = a + 3) ∧ j < k then M (o + (x - a)) j else M x j) → 8 - k < n_2 → cq_V p9 l e9 rmX0_copyFrom s9 m9 ([.ref a, .ref o] : List Value).toArray b9 t9 c9 D cA X Bs 3 0 0 (MQ b9 (cq_Q D cA X Bs (cq_PV (fun M1 => cp_B M M1 o a ∧ cr_fr M M1 a 4))) ([.ref a, .ref o] : List Value).toArray s9 0 0 (cq_A Bs)) 2 [(0, .ref a), (1, .ref o), (2, .int (nI k))] [] M2 := by
    intro n_2
    induction n_2 with
    | zero =>
      intros
      omega
    | succ n_2 ih_2 =>
      intro k M2 hk h2 hn
      refine cq_iload_n F (i := 2) dX0_copyFrom_2 rfl rfl ?_
      refine cq_bipush F (v := 8) dX0_copyFrom_3 (by decide) ?_
      refine cq_icmp_ge F (tgt := 50) dX0_copyFrom_5 (by decide) (fun c_5 => ?_) (fun c_5 => ?_)
      · have c_5 : 8 ≤ k := (nI_b (a := 8) (b := k) (by omega) (by omega)).1.mp c_5
        refine cq_aload_n F (i := 0) dX0_copyFrom_50 rfl rfl ?_
        refine cq_aload_n F (i := 1) dX0_copyFrom_51 rfl rfl ?_
        refine cq_getI F (C := RX0) (T := TX0) (N := 5) (ci := 1) ho.kind rfl ⟨⟨by decide, by decide⟩, rfl⟩ inX0 3 (by decide) rfl rfl (F.1.2.2.2.2 _ (List.mem_of_getElem? (l := wsX0_copyFrom) (i := 4) (a := .fieldLink RX0 21 "CordClock$Book" "next" "I") (by decide +kernel))) dX0_copyFrom_52 ?_
        refine cq_put F (C := RX0) (T := TX0) (N := 5) (ci := 1) ha.kind rfl ⟨⟨by decide, by decide⟩, rfl⟩ inX0 tyX0 tyX0_ok nmX0 3 (by decide) rfl rfl (F.1.2.2.2.2 _ (List.mem_of_getElem? (l := wsX0_copyFrom) (i := 4) (a := .fieldLink RX0 21 "CordClock$Book" "next" "I") (by decide +kernel))) rfl (by rfl) (by rfl) dX0_copyFrom_55 (fun M_55 h_55 => ?_)
        refine cq_aload_n F (i := 0) dX0_copyFrom_58 rfl rfl ?_
        refine cq_aload_n F (i := 1) dX0_copyFrom_59 rfl rfl ?_
        refine cq_getI F (C := RX0) (T := TX0) (N := 5) (ci := 1) ho.kind rfl ⟨⟨by decide, by decide⟩, rfl⟩ inX0 4 (by decide) rfl rfl (F.1.2.2.2.2 _ (List.mem_of_getElem? (l := wsX0_copyFrom) (i := 5) (a := .fieldLink RX0 25 "CordClock$Book" "known" "I") (by decide +kernel))) dX0_copyFrom_60 ?_
        refine cq_put F (C := RX0) (T := TX0) (N := 5) (ci := 1) ha.kind rfl ⟨⟨by decide, by decide⟩, rfl⟩ inX0 tyX0 tyX0_ok nmX0 4 (by decide) rfl rfl (F.1.2.2.2.2 _ (List.mem_of_getElem? (l := wsX0_copyFrom) (i := 5) (a := .fieldLink RX0 25 "CordClock$Book" "known" "I") (by decide +kernel))) rfl (by rfl) (by rfl) dX0_copyFrom_63 (fun M_63 h_63 => ?_)
        refine cq_vret F hr (by decide) (by decide) dX0_copyFrom_66 ⟨rfl, ?_⟩
        obtain rfl : k = 8 := by omega
        have e3 : M2 o 3 = M o 3 := by rw [h2, if_neg (by omega)]
        have e4 : M_55 o 4 = M o 4 := by rw [h_55, cq_up_a (by omega), h2, if_neg (by omega)]
        refine ⟨⟨?_, ?_, fun j hj => ⟨?_, ?_, ?_⟩⟩, fun x hx => ?_⟩
        · rw [h_63, cq_up_k (by omega), h_55, cq_up_s, e3]
        · rw [h_63, cq_up_s, e4]
        · rw [h_63, cq_up_a (by omega), h_55, cq_up_a (by omega), h2, if_pos (by omega)]; congr 1; omega
        · rw [h_63, cq_up_a (by omega), h_55, cq_up_a (by omega), h2, if_pos (by omega)]; congr 1; omega
        · rw [h_63, cq_up_a (by omega), h_55, cq_up_a (by omega), h2, if_pos (by omega)]; congr 1; omega
        · funext j
          rw [h_63, cq_up_a (by omega), h_55, cq_up_a (by omega), h2, if_neg (by omega)]
      · have c_5 : ¬ 8 ≤ k := fun z => c_5 ((nI_b (a := 8) (b := k) (by omega) (by omega)).1.mpr z)
        refine cq_aload_n F (i := 0) dX0_copyFrom_8 rfl rfl ?_
        refine cq_getT (t := (a + 1)) F (C := RX0) (T := TX0) (N := 5) (ci := 1) ha.kind rfl ⟨⟨by decide, by decide⟩, rfl⟩ inX0 0 (by decide) rfl rfl ha.t0 (F.1.2.2.2.2 _ (List.mem_of_getElem? (l := wsX0_copyFrom) (i := 1) (a := .fieldLink RX0 9 "CordClock$Book" "kinds" "[I") (by decide +kernel))) dX0_copyFrom_9 ?_
        refine cq_iload_n F (i := 2) dX0_copyFrom_12 rfl rfl ?_
        refine cq_aload_n F (i := 1) dX0_copyFrom_13 rfl rfl ?_
        refine cq_getT (t := (o + 1)) F (C := RX0) (T := TX0) (N := 5) (ci := 1) ho.kind rfl ⟨⟨by decide, by decide⟩, rfl⟩ inX0 0 (by decide) rfl rfl ho.t0 (F.1.2.2.2.2 _ (List.mem_of_getElem? (l := wsX0_copyFrom) (i := 1) (a := .fieldLink RX0 9 "CordClock$Book" "kinds" "[I") (by decide +kernel))) dX0_copyFrom_14 ?_
        refine cq_iload_n F (i := 2) dX0_copyFrom_17 rfl rfl ?_
        refine cq_iald_j F (j := k) ho.k1 ho.n1 rfl ⟨(by omega), by decide⟩ dX0_copyFrom_18 ?_
        refine cq_iast_j F (j := k) ha.k1 ha.n1 rfl ⟨(by omega), by decide⟩ dX0_copyFrom_19 (fun M_19 h_19 => ?_)
        refine cq_aload_n F (i := 0) dX0_copyFrom_20 rfl rfl ?_
        refine cq_getT (t := (a + 2)) F (C := RX0) (T := TX0) (N := 5) (ci := 1) ha.kind rfl ⟨⟨by decide, by decide⟩, rfl⟩ inX0 1 (by decide) rfl rfl ha.t1 (F.1.2.2.2.2 _ (List.mem_of_getElem? (l := wsX0_copyFrom) (i := 2) (a := .fieldLink RX0 15 "CordClock$Book" "steps" "[I") (by decide +kernel))) dX0_copyFrom_21 ?_
        refine cq_iload_n F (i := 2) dX0_copyFrom_24 rfl rfl ?_
        refine cq_aload_n F (i := 1) dX0_copyFrom_25 rfl rfl ?_
        refine cq_getT (t := (o + 2)) F (C := RX0) (T := TX0) (N := 5) (ci := 1) ho.kind rfl ⟨⟨by decide, by decide⟩, rfl⟩ inX0 1 (by decide) rfl rfl ho.t1 (F.1.2.2.2.2 _ (List.mem_of_getElem? (l := wsX0_copyFrom) (i := 2) (a := .fieldLink RX0 15 "CordClock$Book" "steps" "[I") (by decide +kernel))) dX0_copyFrom_26 ?_
        refine cq_iload_n F (i := 2) dX0_copyFrom_29 rfl rfl ?_
        refine cq_iald_j F (j := k) ho.k2 ho.n2 rfl ⟨(by omega), by decide⟩ dX0_copyFrom_30 ?_
        refine cq_iast_j F (j := k) ha.k2 ha.n2 rfl ⟨(by omega), by decide⟩ dX0_copyFrom_31 (fun M_31 h_31 => ?_)
        refine cq_aload_n F (i := 0) dX0_copyFrom_32 rfl rfl ?_
        refine cq_getT (t := (a + 3)) F (C := RX0) (T := TX0) (N := 5) (ci := 1) ha.kind rfl ⟨⟨by decide, by decide⟩, rfl⟩ inX0 2 (by decide) rfl rfl ha.t2 (F.1.2.2.2.2 _ (List.mem_of_getElem? (l := wsX0_copyFrom) (i := 3) (a := .fieldLink RX0 18 "CordClock$Book" "cords" "[I") (by decide +kernel))) dX0_copyFrom_33 ?_
        refine cq_iload_n F (i := 2) dX0_copyFrom_36 rfl rfl ?_
        refine cq_aload_n F (i := 1) dX0_copyFrom_37 rfl rfl ?_
        refine cq_getT (t := (o + 3)) F (C := RX0) (T := TX0) (N := 5) (ci := 1) ho.kind rfl ⟨⟨by decide, by decide⟩, rfl⟩ inX0 2 (by decide) rfl rfl ho.t2 (F.1.2.2.2.2 _ (List.mem_of_getElem? (l := wsX0_copyFrom) (i := 3) (a := .fieldLink RX0 18 "CordClock$Book" "cords" "[I") (by decide +kernel))) dX0_copyFrom_38 ?_
        refine cq_iload_n F (i := 2) dX0_copyFrom_41 rfl rfl ?_
        refine cq_iald_j F (j := k) ho.k3 ho.n3 rfl ⟨(by omega), by decide⟩ dX0_copyFrom_42 ?_
        refine cq_iast_j F (j := k) ha.k3 ha.n3 rfl ⟨(by omega), by decide⟩ dX0_copyFrom_43 (fun M_43 h_43 => ?_)
        refine cq_iinc F dX0_copyFrom_44 rfl (by decide) (fun x_44 e_44 => ?_)
        obtain rfl : x_44 = nI (k + 1) := by rw [e_44]; exact nI_1 _
        refine cq_goto F (tgt := 2) dX0_copyFrom_47 (by decide) ?_
        refine cq_loc (L2 := [(0, .ref a), (1, .ref o), (2, .int (nI (k + 1)))]) rfl ?_
        exact ih_2 (k + 1) M_43 (by omega) (fun x j => by
                have f1 : M2 (o + 1) k = M (o + 1) k := by rw [h2, if_neg (by omega)]
                have f2 : M_19 (o + 2) k = M (o + 2) k := by rw [h_19, cq_up_a (by omega), h2, if_neg (by omega)]
                have f3 : M_31 (o + 3) k = M (o + 3) k := by rw [h_31, cq_up_a (by omega), h_19, cq_up_a (by omega), h2, if_neg (by omega)]
                rw [h_43, f3]
                rw [h_31, f2]
                rw [h_19, f1]
                by_cases x1 : x = a + 1
                · subst x1
                  rw [cq_up_a (by omega), cq_up_a (by omega)]
                  by_cases j1 : j = k
                  · subst j1; rw [cq_up_s, if_pos (by omega)]; congr 1; omega
                  · rw [cq_up_k j1, h2]
                    by_cases j2 : j < k
                    · rw [if_pos (by omega), if_pos (by omega)]
                    · rw [if_neg (by omega), if_neg (by omega)]
                · by_cases x2 : x = a + 2
                  · subst x2
                    rw [cq_up_a (by omega)]
                    by_cases j1 : j = k
                    · subst j1; rw [cq_up_s, if_pos (by omega)]; congr 1; omega
                    · rw [cq_up_k j1, cq_up_a (by omega), h2]
                      by_cases j2 : j < k
                      · rw [if_pos (by omega), if_pos (by omega)]
                      · rw [if_neg (by omega), if_neg (by omega)]
                  · by_cases x3 : x = a + 3
                    · subst x3
                      by_cases j1 : j = k
                      · subst j1; rw [cq_up_s, if_pos (by omega)]; congr 1; omega
                      · rw [cq_up_k j1, cq_up_a (by omega), cq_up_a (by omega), h2]
                        by_cases j2 : j < k
                        · rw [if_pos (by omega), if_pos (by omega)]
                        · rw [if_neg (by omega), if_neg (by omega)]
                    · rw [cq_up_a x3, cq_up_a x2, cq_up_a x1, h2, if_neg (by omega), if_neg (by omega)]) (by omega)
  refine cq_iconst F (v := 0) dX0_copyFrom_0 rfl ?_
  refine cq_istore_n F (i := 2) dX0_copyFrom_1 rfl (by decide) ?_
  refine cq_loc (L2 := [(0, .ref a), (1, .ref o), (2, .int (nI 0))]) rfl ?_
  exact loop_2 9 0 M (by omega) (fun x j => by simp) (by omega)
theorem hdVX0_copyFrom : yX0_copyFrom.cls = RX0 ∧ yX0_copyFrom.cls ≠ "java/lang/invoke/MethodHandle" ∧ yX0_copyFrom.cls ≠ "java/lang/invoke/VarHandle" ∧ (parseMethodDescriptor yX0_copyFrom.desc).map (fun d => d.parameters.length) = some 1 := by decide +kernel
abbrev rmX5_copyFrom : Room := ({ frames := 1, cells := 0, slots := 0, locals := 22 })
set_option maxHeartbeats 4000000 in
set_option maxRecDepth 100000 in
theorem kX5_copyFrom (l : Launch) (D : va_G) (cA : Nat → ClassId) (X : cq_X) (Bs : Nat) (b o : Nat) (M : cq_M) (hb : cq_isState X b) (ho : cq_isState X o) (hw : cr_bool M o) (hd : b + 23 ≤ o ∨ o + 23 ≤ b) : cq_C l yX5_copyFrom wsX5_copyFrom rmX5_copyFrom D cA X Bs [.ref b, .ref o] M (cq_PV (fun M1 => cp_C M M1 o b 4 ∧ cp_R M M1 o b 8 ∧ cp_B M M1 (o + 3) (b + 3) ∧ cp_I M M1 o b ∧ cr_fr M M1 b 23)) 0 0 := by
  refine cq_met (cc := cX5_copyFrom) (maxL := 3) (ret := none) (by decide) rfl (Nat.le_of_ble_eq_true rfl) [(0, .ref b), (1, .ref o)] rfl rfl ?_
  intro p9 e9 s9 m9 b9 t9 c9 F hr
  have inX5 : ∀ w ∈ wsX50, w ∈ wsX5_copyFrom := (fun w h => List.mem_cons_of_mem _ (List.mem_append_left _ (List.mem_append_left _ (List.mem_append_left _ (List.mem_append_right _ h)))))
  have loop_38 : ∀ (n_38 : Nat) (k : Nat) (M3 : cq_M), k ≤ 8 → cp_C M M3 o b 4 → cp_R M M3 o b k → M3 b 1 = M o 1 → cr_fr M M3 b 23 → 8 - k < n_38 → cq_V p9 l e9 rmX5_copyFrom s9 m9 ([.ref b, .ref o] : List Value).toArray b9 t9 c9 D cA X Bs 3 0 0 (MQ b9 (cq_Q D cA X Bs (cq_PV (fun M1 => cp_C M M1 o b 4 ∧ cp_R M M1 o b 8 ∧ cp_B M M1 (o + 3) (b + 3) ∧ cp_I M M1 o b ∧ cr_fr M M1 b 23))) ([.ref b, .ref o] : List Value).toArray s9 0 0 (cq_A Bs)) 38 [(0, .ref b), (1, .ref o), (2, .int (nI k))] [] M3 := by
    intro n_38
    induction n_38 with
    | zero =>
      intros
      omega
    | succ n_38 ih_38 =>
      intro k M3 hk hc3 hr3 hi3 hf3 hn
      refine cq_iload_n F (i := 2) dX5_copyFrom_38 rfl rfl ?_
      refine cq_bipush F (v := 8) dX5_copyFrom_39 (by decide) ?_
      refine cq_icmp_ge F (tgt := 65) dX5_copyFrom_41 (by decide) (fun c_41 => ?_) (fun c_41 => ?_)
      · have c_41 : 8 ≤ k := (nI_b (a := 8) (b := k) (by omega) (by omega)).1.mp c_41
        obtain rfl : k = 8 := by omega
        refine cq_aload_n F (i := 0) dX5_copyFrom_65 rfl rfl ?_
        refine cq_aload_n F (i := 1) dX5_copyFrom_66 rfl rfl ?_
        refine cq_getI F (C := RX5) (T := TX5) (N := 11) (ci := 6) ho.kind rfl ⟨⟨by decide, by decide⟩, rfl⟩ inX5 3 (by decide) rfl rfl (F.1.2.2.2.2 _ (List.mem_of_getElem? (l := wsX5_copyFrom) (i := 4) (a := .fieldLink RX5 43 "CordClock$State" "ruleCount" "I") (by decide +kernel))) dX5_copyFrom_67 ?_
        refine cq_put F (C := RX5) (T := TX5) (N := 11) (ci := 6) hb.kind rfl ⟨⟨by decide, by decide⟩, rfl⟩ inX5 tyX5 tyX5_ok nmX5 3 (by decide) rfl rfl (F.1.2.2.2.2 _ (List.mem_of_getElem? (l := wsX5_copyFrom) (i := 4) (a := .fieldLink RX5 43 "CordClock$State" "ruleCount" "I") (by decide +kernel))) rfl (by rfl) (by rfl) dX5_copyFrom_70 (fun M_70 h_70 => ?_)
        refine cq_aload_n F (i := 0) dX5_copyFrom_73 rfl rfl ?_
        refine cq_getT (t := (b + 3)) F (C := RX5) (T := TX5) (N := 11) (ci := 6) hb.kind rfl ⟨⟨by decide, by decide⟩, rfl⟩ inX5 4 (by decide) rfl rfl hb.t4 (F.1.2.2.2.2 _ (List.mem_of_getElem? (l := wsX5_copyFrom) (i := 5) (a := .fieldLink RX5 26 "CordClock$State" "book" "LCordClock$Book;") (by decide +kernel))) dX5_copyFrom_74 ?_
        refine cq_aload_n F (i := 1) dX5_copyFrom_77 rfl rfl ?_
        refine cq_getT (t := (o + 3)) F (C := RX5) (T := TX5) (N := 11) (ci := 6) ho.kind rfl ⟨⟨by decide, by decide⟩, rfl⟩ inX5 4 (by decide) rfl rfl ho.t4 (F.1.2.2.2.2 _ (List.mem_of_getElem? (l := wsX5_copyFrom) (i := 5) (a := .fieldLink RX5 26 "CordClock$State" "book" "LCordClock$Book;") (by decide +kernel))) dX5_copyFrom_78 ?_
        refine cq_callV F (C := RX0) (ci := 1) (kX0_copyFrom l D cA X Bs (b + 3) (o + 3) M_70 hb.book ho.book (by omega)) (cwV 1 F.1.2.2.2.2 gX5_copyFrom_X0_copyFrom rfl rfl rfl hdVX0_copyFrom ⟨Nat.le_of_ble_eq_true rfl, Nat.le_of_ble_eq_true rfl⟩) hb.book.kind ⟨by decide, by decide⟩ rfl rfl rfl (Nat.le_of_ble_eq_true rfl) dX5_copyFrom_81 ⟨Nat.le_of_ble_eq_true rfl, Nat.le_of_ble_eq_true rfl⟩ (cq_kV fun M_81 h_81 => ?_)
        refine cq_aload_n F (i := 0) dX5_copyFrom_84 rfl rfl ?_
        refine cq_aload_n F (i := 1) dX5_copyFrom_85 rfl rfl ?_
        refine cq_getI F (C := RX5) (T := TX5) (N := 11) (ci := 6) ho.kind rfl ⟨⟨by decide, by decide⟩, rfl⟩ inX5 5 (by decide) rfl rfl (F.1.2.2.2.2 _ (List.mem_of_getElem? (l := wsX5_copyFrom) (i := 6) (a := .fieldLink RX5 49 "CordClock$State" "step" "I") (by decide +kernel))) dX5_copyFrom_86 ?_
        refine cq_put F (C := RX5) (T := TX5) (N := 11) (ci := 6) hb.kind rfl ⟨⟨by decide, by decide⟩, rfl⟩ inX5 tyX5 tyX5_ok nmX5 5 (by decide) rfl rfl (F.1.2.2.2.2 _ (List.mem_of_getElem? (l := wsX5_copyFrom) (i := 6) (a := .fieldLink RX5 49 "CordClock$State" "step" "I") (by decide +kernel))) rfl (by rfl) (by rfl) dX5_copyFrom_89 (fun M_89 h_89 => ?_)
        refine cq_aload_n F (i := 0) dX5_copyFrom_92 rfl rfl ?_
        refine cq_aload_n F (i := 1) dX5_copyFrom_93 rfl rfl ?_
        refine cq_getI F (C := RX5) (T := TX5) (N := 11) (ci := 6) ho.kind rfl ⟨⟨by decide, by decide⟩, rfl⟩ inX5 6 (by decide) rfl rfl (F.1.2.2.2.2 _ (List.mem_of_getElem? (l := wsX5_copyFrom) (i := 7) (a := .fieldLink RX5 52 "CordClock$State" "signals" "I") (by decide +kernel))) dX5_copyFrom_94 ?_
        refine cq_put F (C := RX5) (T := TX5) (N := 11) (ci := 6) hb.kind rfl ⟨⟨by decide, by decide⟩, rfl⟩ inX5 tyX5 tyX5_ok nmX5 6 (by decide) rfl rfl (F.1.2.2.2.2 _ (List.mem_of_getElem? (l := wsX5_copyFrom) (i := 7) (a := .fieldLink RX5 52 "CordClock$State" "signals" "I") (by decide +kernel))) rfl (by rfl) (by rfl) dX5_copyFrom_97 (fun M_97 h_97 => ?_)
        refine cq_aload_n F (i := 0) dX5_copyFrom_100 rfl rfl ?_
        refine cq_aload_n F (i := 1) dX5_copyFrom_101 rfl rfl ?_
        refine cq_getI F (C := RX5) (T := TX5) (N := 11) (ci := 6) ho.kind rfl ⟨⟨by decide, by decide⟩, rfl⟩ inX5 7 (by decide) rfl rfl (F.1.2.2.2.2 _ (List.mem_of_getElem? (l := wsX5_copyFrom) (i := 8) (a := .fieldLink RX5 55 "CordClock$State" "lightings" "I") (by decide +kernel))) dX5_copyFrom_102 ?_
        refine cq_put F (C := RX5) (T := TX5) (N := 11) (ci := 6) hb.kind rfl ⟨⟨by decide, by decide⟩, rfl⟩ inX5 tyX5 tyX5_ok nmX5 7 (by decide) rfl rfl (F.1.2.2.2.2 _ (List.mem_of_getElem? (l := wsX5_copyFrom) (i := 8) (a := .fieldLink RX5 55 "CordClock$State" "lightings" "I") (by decide +kernel))) rfl (by rfl) (by rfl) dX5_copyFrom_105 (fun M_105 h_105 => ?_)
        refine cq_aload_n F (i := 0) dX5_copyFrom_108 rfl rfl ?_
        refine cq_aload_n F (i := 1) dX5_copyFrom_109 rfl rfl ?_
        refine cq_getI F (C := RX5) (T := TX5) (N := 11) (ci := 6) ho.kind rfl ⟨⟨by decide, by decide⟩, rfl⟩ inX5 8 (by decide) rfl rfl (F.1.2.2.2.2 _ (List.mem_of_getElem? (l := wsX5_copyFrom) (i := 9) (a := .fieldLink RX5 58 "CordClock$State" "smokySteps" "I") (by decide +kernel))) dX5_copyFrom_110 ?_
        refine cq_put F (C := RX5) (T := TX5) (N := 11) (ci := 6) hb.kind rfl ⟨⟨by decide, by decide⟩, rfl⟩ inX5 tyX5 tyX5_ok nmX5 8 (by decide) rfl rfl (F.1.2.2.2.2 _ (List.mem_of_getElem? (l := wsX5_copyFrom) (i := 9) (a := .fieldLink RX5 58 "CordClock$State" "smokySteps" "I") (by decide +kernel))) rfl (by rfl) (by rfl) dX5_copyFrom_113 (fun M_113 h_113 => ?_)
        refine cq_aload_n F (i := 0) dX5_copyFrom_116 rfl rfl ?_
        refine cq_aload_n F (i := 1) dX5_copyFrom_117 rfl rfl ?_
        refine cq_getI F (C := RX5) (T := TX5) (N := 11) (ci := 6) ho.kind rfl ⟨⟨by decide, by decide⟩, rfl⟩ inX5 9 (by decide) rfl rfl (F.1.2.2.2.2 _ (List.mem_of_getElem? (l := wsX5_copyFrom) (i := 10) (a := .fieldLink RX5 61 "CordClock$State" "gap" "I") (by decide +kernel))) dX5_copyFrom_118 ?_
        refine cq_put F (C := RX5) (T := TX5) (N := 11) (ci := 6) hb.kind rfl ⟨⟨by decide, by decide⟩, rfl⟩ inX5 tyX5 tyX5_ok nmX5 9 (by decide) rfl rfl (F.1.2.2.2.2 _ (List.mem_of_getElem? (l := wsX5_copyFrom) (i := 10) (a := .fieldLink RX5 61 "CordClock$State" "gap" "I") (by decide +kernel))) rfl (by rfl) (by rfl) dX5_copyFrom_121 (fun M_121 h_121 => ?_)
        refine cq_aload_n F (i := 0) dX5_copyFrom_124 rfl rfl ?_
        refine cq_aload_n F (i := 1) dX5_copyFrom_125 rfl rfl ?_
        refine cq_getI F (C := RX5) (T := TX5) (N := 11) (ci := 6) ho.kind rfl ⟨⟨by decide, by decide⟩, rfl⟩ inX5 10 (by decide) rfl rfl (F.1.2.2.2.2 _ (List.mem_of_getElem? (l := wsX5_copyFrom) (i := 11) (a := .fieldLink RX5 64 "CordClock$State" "longestGap" "I") (by decide +kernel))) dX5_copyFrom_126 ?_
        refine cq_put F (C := RX5) (T := TX5) (N := 11) (ci := 6) hb.kind rfl ⟨⟨by decide, by decide⟩, rfl⟩ inX5 tyX5 tyX5_ok nmX5 10 (by decide) rfl rfl (F.1.2.2.2.2 _ (List.mem_of_getElem? (l := wsX5_copyFrom) (i := 11) (a := .fieldLink RX5 64 "CordClock$State" "longestGap" "I") (by decide +kernel))) rfl (by rfl) (by rfl) dX5_copyFrom_129 (fun M_129 h_129 => ?_)
        refine cq_vret F hr (by decide) (by decide) dX5_copyFrom_132 ⟨rfl, ?_⟩
        have f70 : cr_fr M M_70 b 23 := hf3.up h_70 (by omega) (by omega)
        have f81 : cr_fr M M_81 b 23 := f70.trans (h_81.2.wide (by omega) (by omega))
        have k81 : ∀ x, (x < b + 3 ∨ b + 7 ≤ x) → x ≠ b → M_81 x = M3 x := fun x x1 x2 => by rw [h_81.2 x (by omega), h_70, cq_up_row x2]
        have e3 : M3 o 3 = M o 3 := by rw [hf3 _ (by omega)]
        have ob : o ≠ b := by omega
        have eo : ∀ j, M_81 o j = M o j := fun j => by rw [f81 _ (by omega)]
        have i1 : M_81 b 1 = M o 1 := by rw [h_81.2 b (by omega), h_70, cq_up_k (by omega)]; exact hi3
        have i3 : M_81 b 3 = M o 3 := by rw [h_81.2 b (by omega), h_70, cq_up_s, e3]
        have kf : ∀ x, x ≠ b → M_129 x = M_81 x := fun x hx => by rw [h_129, cq_up_row hx, h_121, cq_up_row hx, h_113, cq_up_row hx, h_105, cq_up_row hx, h_97, cq_up_row hx, h_89, cq_up_row hx]
        refine ⟨hc3.keep (by omega) (fun x k1 k2 => by rw [kf x (by omega), k81 x (by omega) (by omega)]), hr3.keep (by omega) (fun x k1 k2 => by rw [kf x (by omega), k81 x (by omega) (by omega)]), ?_, ⟨?_, ?_, ?_, ?_, ?_, ?_, ?_, ?_⟩, fun x hx => by rw [kf x (by omega), f81 x hx]⟩
        · have hB := h_81.1.keep (M2 := M_129) (fun x k1 k2 => kf x (by omega))
          unfold cp_B at hB ⊢
          rw [show M_70 (o + 3) = M (o + 3) from f70 _ (by omega), show M_70 (o + 3 + 1) = M (o + 3 + 1) from f70 _ (by omega), show M_70 (o + 3 + 2) = M (o + 3 + 2) from f70 _ (by omega), show M_70 (o + 3 + 3) = M (o + 3 + 3) from f70 _ (by omega)] at hB
          exact hB
        · rw [h_129, cq_up_k (by omega), h_121, cq_up_k (by omega), h_113, cq_up_k (by omega), h_105, cq_up_k (by omega), h_97, cq_up_k (by omega), h_89, cq_up_k (by omega)]; exact i1
        · rw [h_129, cq_up_k (by omega), h_121, cq_up_k (by omega), h_113, cq_up_k (by omega), h_105, cq_up_k (by omega), h_97, cq_up_k (by omega), h_89, cq_up_k (by omega)]; exact i3
        · rw [h_129, cq_up_k (by omega), h_121, cq_up_k (by omega), h_113, cq_up_k (by omega), h_105, cq_up_k (by omega), h_97, cq_up_k (by omega), h_89, cq_up_s]; exact eo 5
        · rw [h_129, cq_up_k (by omega), h_121, cq_up_k (by omega), h_113, cq_up_k (by omega), h_105, cq_up_k (by omega), h_97, cq_up_s, h_89, cq_up_a ob]; exact eo 6
        · rw [h_129, cq_up_k (by omega), h_121, cq_up_k (by omega), h_113, cq_up_k (by omega), h_105, cq_up_s, h_97, cq_up_a ob, h_89, cq_up_a ob]; exact eo 7
        · rw [h_129, cq_up_k (by omega), h_121, cq_up_k (by omega), h_113, cq_up_s, h_105, cq_up_a ob, h_97, cq_up_a ob, h_89, cq_up_a ob]; exact eo 8
        · rw [h_129, cq_up_k (by omega), h_121, cq_up_s, h_113, cq_up_a ob, h_105, cq_up_a ob, h_97, cq_up_a ob, h_89, cq_up_a ob]; exact eo 9
        · rw [h_129, cq_up_s, h_121, cq_up_a ob, h_113, cq_up_a ob, h_105, cq_up_a ob, h_97, cq_up_a ob, h_89, cq_up_a ob]; exact eo 10
      · have c_41 : ¬ 8 ≤ k := fun z => c_41 ((nI_b (a := 8) (b := k) (by omega) (by omega)).1.mpr z)
        refine cq_aload_n F (i := 0) dX5_copyFrom_44 rfl rfl ?_
        refine cq_getT (t := (b + 2)) F (C := RX5) (T := TX5) (N := 11) (ci := 6) hb.kind rfl ⟨⟨by decide, by decide⟩, rfl⟩ inX5 2 (by decide) rfl rfl hb.t2 (F.1.2.2.2.2 _ (List.mem_of_getElem? (l := wsX5_copyFrom) (i := 3) (a := .fieldLink RX5 19 "CordClock$State" "rules" "[LCordClock$Rule;") (by decide +kernel))) dX5_copyFrom_45 ?_
        refine cq_iload_n F (i := 2) dX5_copyFrom_48 rfl rfl ?_
        have hj_49 : k < 8 := (by omega)
        refine cq_aaldU_j F (j := k) (t := (b + 15 + k)) hb.k2 hb.n2 rfl ⟨hj_49, by decide⟩ (hb.rt _ hj_49) dX5_copyFrom_49 ?_
        refine cq_aload_n F (i := 1) dX5_copyFrom_50 rfl rfl ?_
        refine cq_getT (t := (o + 2)) F (C := RX5) (T := TX5) (N := 11) (ci := 6) ho.kind rfl ⟨⟨by decide, by decide⟩, rfl⟩ inX5 2 (by decide) rfl rfl ho.t2 (F.1.2.2.2.2 _ (List.mem_of_getElem? (l := wsX5_copyFrom) (i := 3) (a := .fieldLink RX5 19 "CordClock$State" "rules" "[LCordClock$Rule;") (by decide +kernel))) dX5_copyFrom_51 ?_
        refine cq_iload_n F (i := 2) dX5_copyFrom_54 rfl rfl ?_
        have hj_55 : k < 8 := (by omega)
        refine cq_aaldU_j F (j := k) (t := (o + 15 + k)) ho.k2 ho.n2 rfl ⟨hj_55, by decide⟩ (ho.rt _ hj_55) dX5_copyFrom_55 ?_
        refine cq_callV F (C := RX4) (ci := 5) (kX4_copyFrom l D cA X Bs (b + 15 + k) (o + 15 + k) M3 (hb.rule _ (by omega)) (ho.rule _ (by omega)) (by rw [hf3 _ (by omega)]; exact hw.2 k (by omega)) (by omega)) (cwV 1 F.1.2.2.2.2 gX5_copyFrom_X4_copyFrom rfl rfl rfl hdVX4_copyFrom ⟨Nat.le_of_ble_eq_true rfl, Nat.le_of_ble_eq_true rfl⟩) (hb.rule _ hj_49).kind ⟨by decide, by decide⟩ rfl rfl rfl (Nat.le_of_ble_eq_true rfl) dX5_copyFrom_56 ⟨Nat.le_of_ble_eq_true rfl, Nat.le_of_ble_eq_true rfl⟩ (cq_kV fun M_56 h_56 => ?_)
        refine cq_iinc F dX5_copyFrom_59 rfl (by decide) (fun x_59 e_59 => ?_)
        obtain rfl : x_59 = nI (k + 1) := by rw [e_59]; exact nI_1 _
        refine cq_goto F (tgt := 38) dX5_copyFrom_62 (by decide) ?_
        refine cq_loc (L2 := [(0, .ref b), (1, .ref o), (2, .int (nI (k + 1)))]) rfl ?_
        exact ih_38 (k + 1) M_56 (by omega) (hc3.keep (by omega) (fun x k1 k2 => by funext j; rw [h_56, if_neg (by omega)])) (fun r hr j hj => by
                rw [h_56]
                by_cases e : r = k
                · subst e; rw [if_pos ⟨rfl, hj⟩, hf3 _ (by omega)]
                · rw [if_neg (by omega)]; exact hr3 r (by omega) j hj) (by rw [h_56, if_neg (by omega)]; exact hi3) (hf3.trans (fun x hx => by funext j; rw [h_56, if_neg (by omega)])) (by omega)
  have loop_2 : ∀ (n_2 : Nat) (k : Nat) (M2 : cq_M), k ≤ 4 → cp_C M M2 o b k → cr_fr M M2 b 23 → 4 - k < n_2 → cq_V p9 l e9 rmX5_copyFrom s9 m9 ([.ref b, .ref o] : List Value).toArray b9 t9 c9 D cA X Bs 3 0 0 (MQ b9 (cq_Q D cA X Bs (cq_PV (fun M1 => cp_C M M1 o b 4 ∧ cp_R M M1 o b 8 ∧ cp_B M M1 (o + 3) (b + 3) ∧ cp_I M M1 o b ∧ cr_fr M M1 b 23))) ([.ref b, .ref o] : List Value).toArray s9 0 0 (cq_A Bs)) 2 [(0, .ref b), (1, .ref o), (2, .int (nI k))] [] M2 := by
    intro n_2
    induction n_2 with
    | zero =>
      intros
      omega
    | succ n_2 ih_2 =>
      intro k M2 hk hc2 hf2 hn
      refine cq_iload_n F (i := 2) dX5_copyFrom_2 rfl rfl ?_
      refine cq_iconst F (v := 4) dX5_copyFrom_3 rfl ?_
      refine cq_icmp_ge F (tgt := 28) dX5_copyFrom_4 (by decide) (fun c_4 => ?_) (fun c_4 => ?_)
      · have c_4 : 4 ≤ k := (nI_b (a := 4) (b := k) (by omega) (by omega)).1.mp c_4
        obtain rfl : k = 4 := by omega
        refine cq_aload_n F (i := 0) dX5_copyFrom_28 rfl rfl ?_
        refine cq_aload_n F (i := 1) dX5_copyFrom_29 rfl rfl ?_
        refine cq_getI F (C := RX5) (T := TX5) (N := 11) (ci := 6) ho.kind rfl ⟨⟨by decide, by decide⟩, rfl⟩ inX5 1 (by decide) rfl rfl (F.1.2.2.2.2 _ (List.mem_of_getElem? (l := wsX5_copyFrom) (i := 2) (a := .fieldLink RX5 36 "CordClock$State" "cordCount" "I") (by decide +kernel))) dX5_copyFrom_30 ?_
        refine cq_put F (C := RX5) (T := TX5) (N := 11) (ci := 6) hb.kind rfl ⟨⟨by decide, by decide⟩, rfl⟩ inX5 tyX5 tyX5_ok nmX5 1 (by decide) rfl rfl (F.1.2.2.2.2 _ (List.mem_of_getElem? (l := wsX5_copyFrom) (i := 2) (a := .fieldLink RX5 36 "CordClock$State" "cordCount" "I") (by decide +kernel))) rfl (by rfl) (by rfl) dX5_copyFrom_33 (fun M_33 h_33 => ?_)
        refine cq_iconst F (v := 0) dX5_copyFrom_36 rfl ?_
        refine cq_istore_n F (i := 2) dX5_copyFrom_37 rfl (by decide) ?_
        refine cq_loc (L2 := [(0, .ref b), (1, .ref o), (2, .int (nI 0))]) rfl ?_
        exact loop_38 9 0 M_33 (by omega) (hc2.keep (by omega) (fun x k1 k2 => by rw [h_33, cq_up_row (by omega)])) (fun r hr => absurd hr (by omega)) (by rw [h_33, cq_up_s, hf2 _ (by omega)]) (hf2.up h_33 (by omega) (by omega)) (by omega)
      · have c_4 : ¬ 4 ≤ k := fun z => c_4 ((nI_b (a := 4) (b := k) (by omega) (by omega)).1.mpr z)
        refine cq_aload_n F (i := 0) dX5_copyFrom_7 rfl rfl ?_
        refine cq_getT (t := (b + 1)) F (C := RX5) (T := TX5) (N := 11) (ci := 6) hb.kind rfl ⟨⟨by decide, by decide⟩, rfl⟩ inX5 0 (by decide) rfl rfl hb.t0 (F.1.2.2.2.2 _ (List.mem_of_getElem? (l := wsX5_copyFrom) (i := 1) (a := .fieldLink RX5 11 "CordClock$State" "cords" "[LCordClock$Cord;") (by decide +kernel))) dX5_copyFrom_8 ?_
        refine cq_iload_n F (i := 2) dX5_copyFrom_11 rfl rfl ?_
        have hj_12 : k < 4 := (by omega)
        refine cq_aaldC_j F (j := k) (t := (b + 7 + 2 * k)) hb.k1 hb.n1 rfl ⟨hj_12, by decide⟩ (hb.ct _ hj_12) dX5_copyFrom_12 ?_
        refine cq_aload_n F (i := 1) dX5_copyFrom_13 rfl rfl ?_
        refine cq_getT (t := (o + 1)) F (C := RX5) (T := TX5) (N := 11) (ci := 6) ho.kind rfl ⟨⟨by decide, by decide⟩, rfl⟩ inX5 0 (by decide) rfl rfl ho.t0 (F.1.2.2.2.2 _ (List.mem_of_getElem? (l := wsX5_copyFrom) (i := 1) (a := .fieldLink RX5 11 "CordClock$State" "cords" "[LCordClock$Cord;") (by decide +kernel))) dX5_copyFrom_14 ?_
        refine cq_iload_n F (i := 2) dX5_copyFrom_17 rfl rfl ?_
        have hj_18 : k < 4 := (by omega)
        refine cq_aaldC_j F (j := k) (t := (o + 7 + 2 * k)) ho.k1 ho.n1 rfl ⟨hj_18, by decide⟩ (ho.ct _ hj_18) dX5_copyFrom_18 ?_
        refine cq_callV F (C := RX1) (ci := 2) (kX1_copyFrom l D cA X Bs (b + 7 + 2 * k) (o + 7 + 2 * k) M2 (hb.cord _ (by omega)) (ho.cord _ (by omega)) (by omega) (by rw [hf2 _ (by omega)]; exact (hw.1 k (by omega)).1) (by rw [hf2 _ (by omega)]; exact (hw.1 k (by omega)).2)) (cwV 1 F.1.2.2.2.2 gX5_copyFrom_X1_copyFrom rfl rfl rfl hdVX1_copyFrom ⟨Nat.le_of_ble_eq_true rfl, Nat.le_of_ble_eq_true rfl⟩) (hb.cord _ hj_12).kind ⟨by decide, by decide⟩ rfl rfl rfl (Nat.le_of_ble_eq_true rfl) dX5_copyFrom_19 ⟨Nat.le_of_ble_eq_true rfl, Nat.le_of_ble_eq_true rfl⟩ (cq_kV fun M_19 h_19 => ?_)
        refine cq_iinc F dX5_copyFrom_22 rfl (by decide) (fun x_22 e_22 => ?_)
        obtain rfl : x_22 = nI (k + 1) := by rw [e_22]; exact nI_1 _
        refine cq_goto F (tgt := 2) dX5_copyFrom_25 (by decide) ?_
        refine cq_loc (L2 := [(0, .ref b), (1, .ref o), (2, .int (nI (k + 1)))]) rfl ?_
        exact ih_2 (k + 1) M_19 (by omega) (fun c hc => by
                by_cases e : c = k
                · subst e
                  refine ⟨fun j j1 j2 => ?_, fun j hj => ?_⟩
                  · rw [h_19, if_neg (by omega), if_pos ⟨rfl, j1, j2⟩, hf2 _ (by omega)]
                  · rw [h_19, if_pos ⟨rfl, hj⟩, hf2 _ (by omega)]
                · obtain ⟨e1, e2⟩ := hc2 c (by omega)
                  refine ⟨fun j j1 j2 => ?_, fun j hj => ?_⟩
                  · rw [h_19, if_neg (by omega), if_neg (by omega)]; exact e1 j j1 j2
                  · rw [h_19, if_neg (by omega), if_neg (by omega)]; exact e2 j hj) (hf2.trans (fun x hx => by funext j; rw [h_19, if_neg (by omega), if_neg (by omega)])) (by omega)
  refine cq_iconst F (v := 0) dX5_copyFrom_0 rfl ?_
  refine cq_istore_n F (i := 2) dX5_copyFrom_1 rfl (by decide) ?_
  refine cq_loc (L2 := [(0, .ref b), (1, .ref o), (2, .int (nI 0))]) rfl ?_
  exact loop_2 5 0 M (by omega) (fun c hc => absurd hc (by omega)) cr_fr.rf (by omega)
theorem hdVX5_copyFrom : yX5_copyFrom.cls = RX5 ∧ yX5_copyFrom.cls ≠ "java/lang/invoke/MethodHandle" ∧ yX5_copyFrom.cls ≠ "java/lang/invoke/VarHandle" ∧ (parseMethodDescriptor yX5_copyFrom.desc).map (fun d => d.parameters.length) = some 1 := by decide +kernel
abbrev rmX5_cordsOut : Room := ({ frames := 1, cells := 0, slots := 0, locals := 20 })
set_option maxHeartbeats 4000000 in
set_option maxRecDepth 100000 in
theorem kX5_cordsOut (l : Launch) (D : va_G) (cA : Nat → ClassId) (X : cq_X) (Bs : Nat) (b B : Nat) (g : Nat → Nat) (M : cq_M) (hb : cq_isState X b) (hs : cr_st M b g) (hk : ns_ok g B) : cq_C l yX5_cordsOut wsX5_cordsOut rmX5_cordsOut D cA X Bs [.ref b] M (cq_PI (fun r M1 => r = nI (ns_oset g (g 6)) ∧ M1 = M)) 0 0 := by
  refine cq_met (cc := cX5_cordsOut) (maxL := 3) (ret := (some .int)) (by decide) rfl (Nat.le_of_ble_eq_true rfl) [(0, .ref b)] rfl rfl ?_
  intro p9 e9 s9 m9 b9 t9 c9 F hr
  have inX5 : ∀ w ∈ wsX50, w ∈ wsX5_cordsOut := (fun w h => List.mem_cons_of_mem _ (List.mem_append_left _ (List.mem_append_right _ h)))
  have hk6 := hk.1
  have loop_4 : ∀ (n_4 : Nat) (k : Nat), k ≤ g 6 → g 6 - k < n_4 → cq_V p9 l e9 rmX5_cordsOut s9 m9 ([.ref b] : List Value).toArray b9 t9 c9 D cA X Bs 3 0 0 (MQ b9 (cq_Q D cA X Bs (cq_PI (fun r M1 => r = nI (ns_oset g (g 6)) ∧ M1 = M))) ([.ref b] : List Value).toArray s9 0 0 (cq_A Bs)) 4 [(0, .ref b), (1, .int (nI (ns_oset g k))), (2, .int (nI k))] [] M := by
    intro n_4
    induction n_4 with
    | zero =>
      intros
      omega
    | succ n_4 ih_4 =>
      intro k hk1 hn
      have hlt := ns_oset_lt (g := g) k
      have hp9 : (2 : Nat) ^ k ≤ 16 := Nat.le_trans (Nat.pow_le_pow_right (by omega) (show k ≤ 4 by omega)) (by decide)
      refine cq_iload_n F (i := 2) dX5_cordsOut_4 rfl rfl ?_
      refine cq_aload_n F (i := 0) dX5_cordsOut_5 rfl rfl ?_
      refine cq_getI F (C := RX5) (T := TX5) (N := 11) (ci := 6) hb.kind rfl ⟨⟨by decide, by decide⟩, rfl⟩ inX5 1 (by decide) rfl rfl (F.1.2.2.2.2 _ (List.mem_of_getElem? (l := wsX5_cordsOut) (i := 1) (a := .fieldLink RX5 36 "CordClock$State" "cordCount" "I") (by decide +kernel))) dX5_cordsOut_6 ?_
      rw [show M b 1 = nI (g 6) from (show M b 1 = nI (g 6) from hs.1.1)]
      refine cq_icmp_ge F (tgt := 36) dX5_cordsOut_9 (by decide) (fun c_9 => ?_) (fun c_9 => ?_)
      · have c_9 : (g 6) ≤ k := (nI_b (a := (g 6)) (b := k) (by omega) (by omega)).1.mp c_9
        refine cq_iload_n F (i := 1) dX5_cordsOut_36 rfl rfl ?_
        exact cq_iret F hr (by decide) (by decide) dX5_cordsOut_37 ⟨_, rfl, ⟨(by rw [show k = g 6 by omega]), rfl⟩⟩
      · have c_9 : ¬ (g 6) ≤ k := fun z => c_9 ((nI_b (a := (g 6)) (b := k) (by omega) (by omega)).1.mpr z)
        refine cq_aload_n F (i := 0) dX5_cordsOut_12 rfl rfl ?_
        refine cq_getT (t := (b + 1)) F (C := RX5) (T := TX5) (N := 11) (ci := 6) hb.kind rfl ⟨⟨by decide, by decide⟩, rfl⟩ inX5 0 (by decide) rfl rfl hb.t0 (F.1.2.2.2.2 _ (List.mem_of_getElem? (l := wsX5_cordsOut) (i := 2) (a := .fieldLink RX5 11 "CordClock$State" "cords" "[LCordClock$Cord;") (by decide +kernel))) dX5_cordsOut_13 ?_
        refine cq_iload_n F (i := 2) dX5_cordsOut_16 rfl rfl ?_
        have hj_17 : k < 4 := (by omega)
        refine cq_aaldC_j F (j := k) (t := (b + 7 + 2 * k)) hb.k1 hb.n1 rfl ⟨hj_17, by decide⟩ (hb.ct _ hj_17) dX5_cordsOut_17 ?_
        refine cq_callV F (C := RX1) (ci := 2) (nX1_isOut (l := l) (D := D) (cA := cA) (Bs := Bs) (hb.cord _ (by omega)) (hs.2.1 k (by omega)) (hk.2.2.2.1 k (by omega))) (cwV 0 F.1.2.2.2.2 gX5_cordsOut_X1_isOut rfl rfl rfl hdVX1_isOut ⟨Nat.le_of_ble_eq_true rfl, Nat.le_of_ble_eq_true rfl⟩) (hb.cord _ hj_17).kind ⟨by decide, by decide⟩ rfl rfl rfl (Nat.le_of_ble_eq_true rfl) dX5_cordsOut_18 ⟨Nat.le_of_ble_eq_true rfl, Nat.le_of_ble_eq_true rfl⟩ (cq_kIp fun r_18 h_18 => ?_)
        refine cq_if_eq F (tgt := 30) dX5_cordsOut_21 (by decide) (fun c_21 => ?_) (fun c_21 => ?_)
        · have c_21 := cq_b0 h_18 c_21
          first | rw [show ns_oset g k + 2 ^ k = ns_oset g (k + 1) from by rw [ns_oset, if_pos c_21]] | rw [show ns_oset g k = ns_oset g (k + 1) from by rw [ns_oset, if_neg c_21, Nat.add_zero]]
          refine cq_iinc F dX5_cordsOut_30 rfl (by decide) (fun x_30 e_30 => ?_)
          obtain rfl : x_30 = nI (k + 1) := by rw [e_30]; exact nI_1 _
          refine cq_goto F (tgt := 4) dX5_cordsOut_33 (by decide) ?_
          refine cq_loc (L2 := [(0, .ref b), (1, .int (nI (ns_oset g (k + 1)))), (2, .int (nI (k + 1)))]) rfl ?_
          exact ih_4 (k + 1) (by omega) (by omega)
        · have c_21 := cq_b1 h_18 c_21
          refine cq_iload_n F (i := 1) dX5_cordsOut_24 rfl rfl ?_
          refine cq_iconst F (v := 1) dX5_cordsOut_25 rfl ?_
          refine cq_iload_n F (i := 2) dX5_cordsOut_26 rfl rfl ?_
          refine cq_ishl F dX5_cordsOut_27 ?_
          refine cq_ior F dX5_cordsOut_28 ?_
          rw [(nI_set k (by omega) (ns_oset g k) (by omega)).1 hlt]
          refine cq_istore_n F (i := 1) dX5_cordsOut_29 rfl (by decide) ?_
          first | rw [show ns_oset g k + 2 ^ k = ns_oset g (k + 1) from by rw [ns_oset, if_pos c_21]] | rw [show ns_oset g k = ns_oset g (k + 1) from by rw [ns_oset, if_neg c_21, Nat.add_zero]]
          refine cq_iinc F dX5_cordsOut_30 rfl (by decide) (fun x_30 e_30 => ?_)
          obtain rfl : x_30 = nI (k + 1) := by rw [e_30]; exact nI_1 _
          refine cq_goto F (tgt := 4) dX5_cordsOut_33 (by decide) ?_
          refine cq_loc (L2 := [(0, .ref b), (1, .int (nI (ns_oset g (k + 1)))), (2, .int (nI (k + 1)))]) rfl ?_
          exact ih_4 (k + 1) (by omega) (by omega)
  refine cq_iconst F (v := 0) dX5_cordsOut_0 rfl ?_
  refine cq_istore_n F (i := 1) dX5_cordsOut_1 rfl (by decide) ?_
  refine cq_iconst F (v := 0) dX5_cordsOut_2 rfl ?_
  refine cq_istore_n F (i := 2) dX5_cordsOut_3 rfl (by decide) ?_
  refine cq_loc (L2 := [(0, .ref b), (1, .int (nI (ns_oset g 0))), (2, .int (nI 0))]) rfl ?_
  exact loop_4 (g 6 + 1) 0 (by omega) (by omega)
theorem hdVX5_cordsOut : yX5_cordsOut.cls = RX5 ∧ yX5_cordsOut.cls ≠ "java/lang/invoke/MethodHandle" ∧ yX5_cordsOut.cls ≠ "java/lang/invoke/VarHandle" ∧ (parseMethodDescriptor yX5_cordsOut.desc).map (fun d => d.parameters.length) = some 0 := by decide +kernel
