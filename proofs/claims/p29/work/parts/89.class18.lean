/-! the class: sets of cords, plans from the beginning, told times -/
abbrev rmX3_clear : Room := ({ frames := 0, cells := 0, slots := 0, locals := 0 })
set_option maxHeartbeats 4000000 in
set_option maxRecDepth 100000 in
theorem kX3_clear (l : Launch) (D : va_G) (cA : Nat → ClassId) (X : cq_X) (Bs : Nat) (p : Nat) (M : cq_M) (hp : cq_isPlans X p) : cq_C l yX3_clear wsX3_clear rmX3_clear D cA X Bs [.ref p] M (cq_PV (fun M1 => pc_F M1 p (fun _ => 0) ∧ (∀ k, k < 3 → M1 (p + 3) k = 0 ∧ M1 (p + 8) k = 0) ∧ M1 p 3 = 0 ∧ ∀ x, x ≠ p → x ≠ p + 1 → x ≠ p + 3 → x ≠ p + 8 → M1 x = M x)) 0 0 := by
  refine cq_met (cc := cX3_clear) (maxL := 2) (ret := none) (by decide) rfl (Nat.le_of_ble_eq_true rfl) [(0, .ref p)] rfl rfl ?_
  intro p9 e9 s9 m9 b9 t9 c9 F hr
  have inX3 : ∀ w ∈ wsX30, w ∈ wsX3_clear := (fun w h => List.mem_cons_of_mem _ (List.mem_append_right _ h))
  have loop_24 : ∀ (n_24 : Nat) (Ma : cq_M) (k : Nat) (M3 : cq_M), (∀ t, t < 1081 → Ma (p + 1) t = -1) → (∀ x, x ≠ p + 1 → Ma x = M x) → k ≤ 3 → (∀ x j, M3 x j = if (x = p + 3 ∨ x = p + 8) ∧ j < k then 0 else Ma x j) → 4 - k < n_24 → cq_V p9 l e9 rmX3_clear s9 m9 ([.ref p] : List Value).toArray b9 t9 c9 D cA X Bs 2 0 0 (MQ b9 (cq_Q D cA X Bs (cq_PV (fun M1 => pc_F M1 p (fun _ => 0) ∧ (∀ k, k < 3 → M1 (p + 3) k = 0 ∧ M1 (p + 8) k = 0) ∧ M1 p 3 = 0 ∧ ∀ x, x ≠ p → x ≠ p + 1 → x ≠ p + 3 → x ≠ p + 8 → M1 x = M x))) ([.ref p] : List Value).toArray s9 0 0 (cq_A Bs)) 24 [(0, .ref p), (1, .int (nI k))] [] M3 := by
    intro n_24
    induction n_24 with
    | zero =>
      intros
      omega
    | succ n_24 ih_24 =>
      intro Ma k M3 hm1 hmf hk3 h3 hn
      refine cq_iload_n F (i := 1) dX3_clear_24 rfl rfl ?_
      refine cq_iconst F (v := 3) dX3_clear_25 rfl ?_
      refine cq_icmp_ge F (tgt := 53) dX3_clear_26 (by decide) (fun c_26 => ?_) (fun c_26 => ?_)
      · have c_26 : 3 ≤ k := (nI_b (a := 3) (b := k) (by omega) (by omega)).1.mp c_26
        obtain rfl : k = 3 := by omega
        refine cq_aload_n F (i := 0) dX3_clear_53 rfl rfl ?_
        refine cq_iconst F (v := 0) dX3_clear_54 rfl ?_
        refine cq_put F (C := RX3) (T := TX3) (N := 4) (ci := 4) hp.kind rfl ⟨⟨by decide, by decide⟩, rfl⟩ inX3 tyX3 tyX3_ok nmX3 3 (by decide) rfl rfl (F.1.2.2.2.2 _ (List.mem_of_getElem? (l := wsX3_clear) (i := 4) (a := .fieldLink RX3 23 "CordClock$Plans" "cordCount" "I") (by decide +kernel))) rfl (by rfl) (by rfl) dX3_clear_55 (fun M_55 h_55 => ?_)
        exact cq_vret F hr (by decide) (by decide) dX3_clear_58 ⟨rfl, ⟨fun t ht => by rw [h_55, cq_up_a (by omega), h3, if_neg (by omega), if_pos rfl]; exact hm1 t (by omega), fun k hk => ⟨by rw [h_55, cq_up_a (by omega), h3, if_pos ⟨Or.inl rfl, hk⟩], by rw [h_55, cq_up_a (by omega), h3, if_pos ⟨Or.inr rfl, hk⟩]⟩, by rw [h_55]; exact cq_up_s _ _ _ _, fun x x0 x1 x3 x8 => by rw [h_55, cq_up_row x0]; funext j; rw [h3, if_neg (fun z => by omega)]; exact congrFun (hmf x x1) j⟩⟩
      · have c_26 : ¬ 3 ≤ k := fun z => c_26 ((nI_b (a := 3) (b := k) (by omega) (by omega)).1.mpr z)
        refine cq_aload_n F (i := 0) dX3_clear_29 rfl rfl ?_
        refine cq_getT (t := (p + 2)) F (C := RX3) (T := TX3) (N := 4) (ci := 4) hp.kind rfl ⟨⟨by decide, by decide⟩, rfl⟩ inX3 1 (by decide) rfl rfl hp.t1 (F.1.2.2.2.2 _ (List.mem_of_getElem? (l := wsX3_clear) (i := 2) (a := .fieldLink RX3 17 "CordClock$Plans" "timeLeft" "[[I") (by decide +kernel))) dX3_clear_30 ?_
        refine cq_iconst F (v := 0) dX3_clear_33 rfl ?_
        have hj_34 : 0 < 4 := (by omega)
        refine cq_aaldA_j F (j := 0) (t := (p + 3 + 0)) hp.k2 hp.n2 rfl ⟨hj_34, by decide⟩ (hp.rt1 _ hj_34) dX3_clear_34 ?_
        refine cq_iload_n F (i := 1) dX3_clear_35 rfl rfl ?_
        refine cq_iconst F (v := 0) dX3_clear_36 rfl ?_
        refine cq_iast_j F (j := k) (hp.r1k _ hj_34) (hp.r1n _ hj_34) rfl ⟨(by omega), by decide⟩ dX3_clear_37 (fun M_37 h_37 => ?_)
        refine cq_aload_n F (i := 0) dX3_clear_38 rfl rfl ?_
        refine cq_getT (t := (p + 7)) F (C := RX3) (T := TX3) (N := 4) (ci := 4) hp.kind rfl ⟨⟨by decide, by decide⟩, rfl⟩ inX3 2 (by decide) rfl rfl hp.t2 (F.1.2.2.2.2 _ (List.mem_of_getElem? (l := wsX3_clear) (i := 3) (a := .fieldLink RX3 20 "CordClock$Plans" "flames" "[[I") (by decide +kernel))) dX3_clear_39 ?_
        refine cq_iconst F (v := 0) dX3_clear_42 rfl ?_
        have hj_43 : 0 < 4 := (by omega)
        refine cq_aaldA_j F (j := 0) (t := (p + 8 + 0)) hp.k7 hp.n7 rfl ⟨hj_43, by decide⟩ (hp.rt2 _ hj_43) dX3_clear_43 ?_
        refine cq_iload_n F (i := 1) dX3_clear_44 rfl rfl ?_
        refine cq_iconst F (v := 0) dX3_clear_45 rfl ?_
        refine cq_iast_j F (j := k) (hp.r2k _ hj_43) (hp.r2n _ hj_43) rfl ⟨(by omega), by decide⟩ dX3_clear_46 (fun M_46 h_46 => ?_)
        refine cq_iinc F dX3_clear_47 rfl (by decide) (fun x_47 e_47 => ?_)
        obtain rfl : x_47 = nI (k + 1) := by rw [e_47]; exact nI_1 _
        refine cq_goto F (tgt := 24) dX3_clear_50 (by decide) ?_
        refine cq_loc (L2 := [(0, .ref p), (1, .int (nI (k + 1)))]) rfl ?_
        exact ih_24 Ma (k + 1) M_46 hm1 hmf (by omega) (fun x j => by
            rw [h_46, h_37]
            by_cases e8 : x = p + 8
            · subst e8
              by_cases ej : j = k
              · subst ej
                rw [show cq_up (cq_up M3 (p + 3 + 0) j 0) (p + 8 + 0) j 0 (p + 8) j = 0 from cq_up_s _ _ _ _, if_pos ⟨Or.inr rfl, by omega⟩]
              · rw [show cq_up (cq_up M3 (p + 3 + 0) k 0) (p + 8 + 0) k 0 (p + 8) j = cq_up M3 (p + 3 + 0) k 0 (p + 8) j from cq_up_k ej, cq_up_a (by omega), h3]
                by_cases e9 : j < k
                · rw [if_pos ⟨Or.inr rfl, e9⟩, if_pos ⟨Or.inr rfl, by omega⟩]
                · rw [if_neg (fun z => e9 z.2), if_neg (fun z => by omega)]
            · rw [cq_up_a (by omega)]
              by_cases e3 : x = p + 3
              · subst e3
                by_cases ej : j = k
                · subst ej
                  rw [show cq_up M3 (p + 3 + 0) j 0 (p + 3) j = 0 from cq_up_s _ _ _ _, if_pos ⟨Or.inl rfl, by omega⟩]
                · rw [show cq_up M3 (p + 3 + 0) k 0 (p + 3) j = M3 (p + 3) j from cq_up_k ej, h3]
                  by_cases e9 : j < k
                  · rw [if_pos ⟨Or.inl rfl, e9⟩, if_pos ⟨Or.inl rfl, by omega⟩]
                  · rw [if_neg (fun z => e9 z.2), if_neg (fun z => by omega)]
              · rw [cq_up_a (by omega), h3, if_neg (fun z => by omega), if_neg (fun z => by omega)]) (by omega)
  have loop_2 : ∀ (n_2 : Nat) (k : Nat) (M2 : cq_M), k ≤ 1081 → (∀ x j, M2 x j = if x = p + 1 ∧ j < k then -1 else M x j) → 1082 - k < n_2 → cq_V p9 l e9 rmX3_clear s9 m9 ([.ref p] : List Value).toArray b9 t9 c9 D cA X Bs 2 0 0 (MQ b9 (cq_Q D cA X Bs (cq_PV (fun M1 => pc_F M1 p (fun _ => 0) ∧ (∀ k, k < 3 → M1 (p + 3) k = 0 ∧ M1 (p + 8) k = 0) ∧ M1 p 3 = 0 ∧ ∀ x, x ≠ p → x ≠ p + 1 → x ≠ p + 3 → x ≠ p + 8 → M1 x = M x))) ([.ref p] : List Value).toArray s9 0 0 (cq_A Bs)) 2 [(0, .ref p), (1, .int (nI k))] [] M2 := by
    intro n_2
    induction n_2 with
    | zero =>
      intros
      omega
    | succ n_2 ih_2 =>
      intro k M2 hk9 h2 hn
      refine cq_iload_n F (i := 1) dX3_clear_2 rfl rfl ?_
      refine cq_sipush F (v := 1080) dX3_clear_3 (by decide) ?_
      refine cq_icmp_gt F (tgt := 22) dX3_clear_6 (by decide) (fun c_6 => ?_) (fun c_6 => ?_)
      · have c_6 : 1080 < k := (nI_b (a := 1080) (b := k) (by omega) (by omega)).2.1.mp c_6
        obtain rfl : k = 1081 := by omega
        refine cq_iconst F (v := 0) dX3_clear_22 rfl ?_
        refine cq_istore_n F (i := 1) dX3_clear_23 rfl (by decide) ?_
        refine cq_loc (L2 := [(0, .ref p), (1, .int (nI 0))]) rfl ?_
        exact loop_24 5 M2 0 M2 (fun t ht => by rw [h2, if_pos ⟨rfl, ht⟩]) (fun x hx => by funext j; rw [h2, if_neg (fun z => hx z.1)]) (by omega) (fun x j => by rw [if_neg (by omega)]) (by omega)
      · have c_6 : ¬ 1080 < k := fun z => c_6 ((nI_b (a := 1080) (b := k) (by omega) (by omega)).2.1.mpr z)
        refine cq_aload_n F (i := 0) dX3_clear_9 rfl rfl ?_
        refine cq_getT (t := (p + 1)) F (C := RX3) (T := TX3) (N := 4) (ci := 4) hp.kind rfl ⟨⟨by decide, by decide⟩, rfl⟩ inX3 0 (by decide) rfl rfl hp.t0 (F.1.2.2.2.2 _ (List.mem_of_getElem? (l := wsX3_clear) (i := 1) (a := .fieldLink RX3 9 "CordClock$Plans" "fewest" "[I") (by decide +kernel))) dX3_clear_10 ?_
        refine cq_iload_n F (i := 1) dX3_clear_13 rfl rfl ?_
        refine cq_iconst F (v := (-1)) dX3_clear_14 rfl ?_
        refine cq_iast_j F (j := k) hp.k1 hp.n1 rfl ⟨(by omega), by decide⟩ dX3_clear_15 (fun M_15 h_15 => ?_)
        refine cq_iinc F dX3_clear_16 rfl (by decide) (fun x_16 e_16 => ?_)
        obtain rfl : x_16 = nI (k + 1) := by rw [e_16]; exact nI_1 _
        refine cq_goto F (tgt := 2) dX3_clear_19 (by decide) ?_
        refine cq_loc (L2 := [(0, .ref p), (1, .int (nI (k + 1)))]) rfl ?_
        exact ih_2 (k + 1) M_15 (by omega) (pm_fill h2 h_15 rfl) (by omega)
  refine cq_iconst F (v := 0) dX3_clear_0 rfl ?_
  refine cq_istore_n F (i := 1) dX3_clear_1 rfl (by decide) ?_
  refine cq_loc (L2 := [(0, .ref p), (1, .int (nI 0))]) rfl ?_
  exact loop_2 1083 0 M (by omega) (fun x j => by rw [if_neg (by omega)]) (by omega)
theorem hdVX3_clear : yX3_clear.cls = RX3 ∧ yX3_clear.cls ≠ "java/lang/invoke/MethodHandle" ∧ yX3_clear.cls ≠ "java/lang/invoke/VarHandle" ∧ (parseMethodDescriptor yX3_clear.desc).map (fun d => d.parameters.length) = some 0 := by decide +kernel
abbrev rmX3_addCord : Room := ({ frames := 0, cells := 0, slots := 0, locals := 0 })
set_option maxHeartbeats 4000000 in
set_option maxRecDepth 100000 in
theorem kX3_addCord (l : Launch) (D : va_G) (cA : Nat → ClassId) (X : cq_X) (Bs : Nat) (p mn t : Nat) (M : cq_M) (hp : cq_isPlans X p) (h3 : M p 3 = nI mn) (hmn : mn ≤ 2) : cq_C l yX3_addCord wsX3_addCord rmX3_addCord D cA X Bs [.ref p, .int (nI t)] M (cq_PV (fun M1 => M1 = cq_up (cq_up M (p + 3) mn (nI t)) p 3 (nI (mn + 1)))) 0 0 := by
  refine cq_met (cc := cX3_addCord) (maxL := 2) (ret := none) (by decide) rfl (Nat.le_of_ble_eq_true rfl) [(0, .ref p), (1, .int (nI t))] rfl rfl ?_
  intro p9 e9 s9 m9 b9 t9 c9 F hr
  have inX3 : ∀ w ∈ wsX30, w ∈ wsX3_addCord := (fun w h => List.mem_cons_of_mem _ (List.mem_append_right _ h))
  refine cq_aload_n F (i := 0) dX3_addCord_0 rfl rfl ?_
  refine cq_getI F (C := RX3) (T := TX3) (N := 4) (ci := 4) hp.kind rfl ⟨⟨by decide, by decide⟩, rfl⟩ inX3 3 (by decide) rfl rfl (F.1.2.2.2.2 _ (List.mem_of_getElem? (l := wsX3_addCord) (i := 1) (a := .fieldLink RX3 23 "CordClock$Plans" "cordCount" "I") (by decide +kernel))) dX3_addCord_1 ?_
  rw [show M p 3 = nI (mn) from (show M p 3 = nI (mn) from h3)]
  refine cq_iconst F (v := 3) dX3_addCord_4 rfl ?_
  refine cq_icmp_ge F (tgt := 30) dX3_addCord_5 (by decide) (fun c_5 => ?_) (fun c_5 => ?_)
  · have c_5 : 3 ≤ mn := (nI_b (a := 3) (b := mn) (by omega) (by omega)).1.mp c_5
    omega
  · have c_5 : ¬ 3 ≤ mn := fun z => c_5 ((nI_b (a := 3) (b := mn) (by omega) (by omega)).1.mpr z)
    refine cq_aload_n F (i := 0) dX3_addCord_8 rfl rfl ?_
    refine cq_getT (t := (p + 2)) F (C := RX3) (T := TX3) (N := 4) (ci := 4) hp.kind rfl ⟨⟨by decide, by decide⟩, rfl⟩ inX3 1 (by decide) rfl rfl hp.t1 (F.1.2.2.2.2 _ (List.mem_of_getElem? (l := wsX3_addCord) (i := 2) (a := .fieldLink RX3 17 "CordClock$Plans" "timeLeft" "[[I") (by decide +kernel))) dX3_addCord_9 ?_
    refine cq_iconst F (v := 0) dX3_addCord_12 rfl ?_
    have hj_13 : 0 < 4 := (by omega)
    refine cq_aaldA_j F (j := 0) (t := (p + 3 + 0)) hp.k2 hp.n2 rfl ⟨hj_13, by decide⟩ (hp.rt1 _ hj_13) dX3_addCord_13 ?_
    refine cq_aload_n F (i := 0) dX3_addCord_14 rfl rfl ?_
    refine cq_getI F (C := RX3) (T := TX3) (N := 4) (ci := 4) hp.kind rfl ⟨⟨by decide, by decide⟩, rfl⟩ inX3 3 (by decide) rfl rfl (F.1.2.2.2.2 _ (List.mem_of_getElem? (l := wsX3_addCord) (i := 1) (a := .fieldLink RX3 23 "CordClock$Plans" "cordCount" "I") (by decide +kernel))) dX3_addCord_15 ?_
    rw [show M p 3 = nI (mn) from (show M p 3 = nI (mn) from h3)]
    refine cq_iload_n F (i := 1) dX3_addCord_18 rfl rfl ?_
    refine cq_iast_j F (j := mn) (hp.r1k _ hj_13) (hp.r1n _ hj_13) rfl ⟨(by omega), by decide⟩ dX3_addCord_19 (fun M_19 h_19 => ?_)
    refine cq_aload_n F (i := 0) dX3_addCord_20 rfl rfl ?_
    refine cq_dup F dX3_addCord_21 rfl ?_
    refine cq_getI F (C := RX3) (T := TX3) (N := 4) (ci := 4) hp.kind rfl ⟨⟨by decide, by decide⟩, rfl⟩ inX3 3 (by decide) rfl rfl (F.1.2.2.2.2 _ (List.mem_of_getElem? (l := wsX3_addCord) (i := 1) (a := .fieldLink RX3 23 "CordClock$Plans" "cordCount" "I") (by decide +kernel))) dX3_addCord_22 ?_
    rw [show M_19 p 3 = nI (mn) from (show M_19 p 3 = nI (mn) from (by rw [h_19, cq_up_a (by omega)]; exact h3))]
    refine cq_iconst F (v := 1) dX3_addCord_25 rfl ?_
    refine cq_iadd F dX3_addCord_26 ?_
    rw [show (nI mn + 1 : Int32) = nI (mn + 1) from nI_add _ _]
    refine cq_put F (C := RX3) (T := TX3) (N := 4) (ci := 4) hp.kind rfl ⟨⟨by decide, by decide⟩, rfl⟩ inX3 tyX3 tyX3_ok nmX3 3 (by decide) rfl rfl (F.1.2.2.2.2 _ (List.mem_of_getElem? (l := wsX3_addCord) (i := 1) (a := .fieldLink RX3 23 "CordClock$Plans" "cordCount" "I") (by decide +kernel))) rfl (by rfl) (by rfl) dX3_addCord_27 (fun M_27 h_27 => ?_)
    exact cq_vret F hr (by decide) (by decide) dX3_addCord_30 ⟨rfl, by rw [h_27, h_19]⟩
theorem hdVX3_addCord : yX3_addCord.cls = RX3 ∧ yX3_addCord.cls ≠ "java/lang/invoke/MethodHandle" ∧ yX3_addCord.cls ≠ "java/lang/invoke/VarHandle" ∧ (parseMethodDescriptor yX3_addCord.desc).map (fun d => d.parameters.length) = some 1 := by decide +kernel
theorem kX3_try_z (l : Launch) (D : va_G) (cA : Nat → ClassId) (X : cq_X) (Bs : Nat) (p : Nat) (g Y : Nat → Nat) (M : cq_M) (hp : cq_isPlans X p) (hst : pc_st M p 0 g) (hbg : pl_beg g) (hF : pc_F M p Y) (hb : ∀ t, Y t ≤ 1080) : cq_C l yX3_tryAll wsX3_tryAll rmX3_try_3 D cA X Bs [.ref p, .int 0, .int 0, .int 0] M (cq_PV (fun M1 => pc_F M1 p (List.foldl pl_note Y (pl_dfs 3 g)) ∧ pc_fr M M1 p 0)) 0 0 := by
  have q := kX3_try_3 l D cA X Bs p 0 g Y M hp rfl hst hbg.ok hF hb
  rw [hbg.1, hbg.2.1] at q
  exact q
abbrev rmX3_tryFromBeginning : Room := ({ frames := 8, cells := 0, slots := 0, locals := 202 })
set_option maxHeartbeats 4000000 in
set_option maxRecDepth 100000 in
theorem kX3_tryFromBeginning (l : Launch) (D : va_G) (cA : Nat → ClassId) (X : cq_X) (Bs : Nat) (p : Nat) (g Y : Nat → Nat) (M : cq_M) (hp : cq_isPlans X p) (hst : pc_st M p 0 g) (hbg : pl_beg g) (hF : pc_F M p Y) (hb : ∀ t, Y t ≤ 1080) : cq_C l yX3_tryFromBeginning wsX3_tryFromBeginning rmX3_tryFromBeginning D cA X Bs [.ref p] M (cq_PV (fun M1 => pc_F M1 p (List.foldl pl_note Y (pl_dfs 3 g)) ∧ pc_fr M M1 p 0)) 0 0 := by
  refine cq_met (cc := cX3_tryFromBeginning) (maxL := 1) (ret := none) (by decide) rfl (Nat.le_of_ble_eq_true rfl) [(0, .ref p)] rfl rfl ?_
  intro p9 e9 s9 m9 b9 t9 c9 F hr
  refine cq_aload_n F (i := 0) dX3_tryFromBeginning_0 rfl rfl ?_
  refine cq_iconst F (v := 0) dX3_tryFromBeginning_1 rfl ?_
  refine cq_iconst F (v := 0) dX3_tryFromBeginning_2 rfl ?_
  refine cq_iconst F (v := 0) dX3_tryFromBeginning_3 rfl ?_
  refine cq_callV F (C := RX3) (ci := 4) (kX3_try_z l D cA X Bs p g Y M hp hst hbg hF hb) (cwV 3 F.1.2.2.2.2 gX3_tryFromBeginning_X3_tryAll rfl rfl rfl hdVX3_tryAll ⟨Nat.le_of_ble_eq_true rfl, Nat.le_of_ble_eq_true rfl⟩) hp.kind ⟨by decide, by decide⟩ rfl rfl rfl (Nat.le_of_ble_eq_true rfl) dX3_tryFromBeginning_4 ⟨Nat.le_of_ble_eq_true rfl, Nat.le_of_ble_eq_true rfl⟩ (cq_kV fun M_4 h_4 => ?_)
  exact cq_vret F hr (by decide) (by decide) dX3_tryFromBeginning_7 ⟨rfl, h_4⟩
theorem hdVX3_tryFromBeginning : yX3_tryFromBeginning.cls = RX3 ∧ yX3_tryFromBeginning.cls ≠ "java/lang/invoke/MethodHandle" ∧ yX3_tryFromBeginning.cls ≠ "java/lang/invoke/VarHandle" ∧ (parseMethodDescriptor yX3_tryFromBeginning.desc).map (fun d => d.parameters.length) = some 0 := by decide +kernel
abbrev rmX3_toldTimes : Room := ({ frames := 0, cells := 0, slots := 0, locals := 0 })
set_option maxHeartbeats 4000000 in
set_option maxRecDepth 100000 in
theorem kX3_toldTimes (l : Launch) (D : va_G) (cA : Nat → ClassId) (X : cq_X) (Bs : Nat) (p : Nat) (Y : Nat → Nat) (M : cq_M) (hp : cq_isPlans X p) (hF : pc_F M p Y) (hb : ∀ t, Y t ≤ 1080) : cq_C l yX3_toldTimes wsX3_toldTimes rmX3_toldTimes D cA X Bs [.ref p] M (cq_PI (fun r M1 => r = nI (pl_cnt Y 1080) ∧ M1 = M)) 0 0 := by
  refine cq_met (cc := cX3_toldTimes) (maxL := 3) (ret := (some .int)) (by decide) rfl (Nat.le_of_ble_eq_true rfl) [(0, .ref p)] rfl rfl ?_
  intro p9 e9 s9 m9 b9 t9 c9 F hr
  have inX3 : ∀ w ∈ wsX30, w ∈ wsX3_toldTimes := (fun w h => List.mem_cons_of_mem _ (List.mem_append_right _ h))
  have loop_4 : ∀ (n_4 : Nat) (mm t : Nat), 1 ≤ t ∧ t ≤ 1081 → mm = pl_cnt Y (t - 1) → 1082 - t < n_4 → cq_V p9 l e9 rmX3_toldTimes s9 m9 ([.ref p] : List Value).toArray b9 t9 c9 D cA X Bs 3 0 0 (MQ b9 (cq_Q D cA X Bs (cq_PI (fun r M1 => r = nI (pl_cnt Y 1080) ∧ M1 = M))) ([.ref p] : List Value).toArray s9 0 0 (cq_A Bs)) 4 [(0, .ref p), (1, .int (nI mm)), (2, .int (nI t))] [] M := by
    intro n_4
    induction n_4 with
    | zero =>
      intros
      omega
    | succ n_4 ih_4 =>
      intro mm t ht hmm hn
      refine cq_iload_n F (i := 2) dX3_toldTimes_4 rfl rfl ?_
      refine cq_sipush F (v := 1080) dX3_toldTimes_5 (by decide) ?_
      refine cq_icmp_gt F (tgt := 30) dX3_toldTimes_8 (by decide) (fun c_8 => ?_) (fun c_8 => ?_)
      · have c_8 : 1080 < t := (nI_b (a := 1080) (b := t) (by omega) (by omega)).2.1.mp c_8
        refine cq_iload_n F (i := 1) dX3_toldTimes_30 rfl rfl ?_
        exact cq_iret F hr (by decide) (by decide) dX3_toldTimes_31 ⟨_, rfl, ⟨by rw [hmm, show t = 1081 by omega], rfl⟩⟩
      · have c_8 : ¬ 1080 < t := fun z => c_8 ((nI_b (a := 1080) (b := t) (by omega) (by omega)).2.1.mpr z)
        refine cq_aload_n F (i := 0) dX3_toldTimes_11 rfl rfl ?_
        refine cq_getT (t := (p + 1)) F (C := RX3) (T := TX3) (N := 4) (ci := 4) hp.kind rfl ⟨⟨by decide, by decide⟩, rfl⟩ inX3 0 (by decide) rfl rfl hp.t0 (F.1.2.2.2.2 _ (List.mem_of_getElem? (l := wsX3_toldTimes) (i := 1) (a := .fieldLink RX3 9 "CordClock$Plans" "fewest" "[I") (by decide +kernel))) dX3_toldTimes_12 ?_
        refine cq_iload_n F (i := 2) dX3_toldTimes_15 rfl rfl ?_
        refine cq_iald_j F (j := t) hp.k1 hp.n1 rfl ⟨(by omega), by decide⟩ dX3_toldTimes_16 ?_
        refine cq_iconst F (v := (-1)) dX3_toldTimes_17 rfl ?_
        refine cq_icmp_eq F (tgt := 24) dX3_toldTimes_18 (by decide) (fun c_18 => ?_) (fun c_18 => ?_)
        · have hi := hF.iff (hb t) (show t ≤ 1080 by omega)
          have hY0 : Y t = 0 := hi.1.mp c_18
          refine cq_iinc F dX3_toldTimes_24 rfl (by decide) (fun x_24 e_24 => ?_)
          obtain rfl : x_24 = nI (t + 1) := by rw [e_24]; exact nI_1 _
          refine cq_goto F (tgt := 4) dX3_toldTimes_27 (by decide) ?_
          refine cq_loc (L2 := [(0, .ref p), (1, .int (nI mm)), (2, .int (nI (t + 1)))]) rfl ?_
          exact ih_4 _ (t + 1) ⟨by omega, by omega⟩ (by rw [hmm]; obtain ⟨v, rfl⟩ : ∃ v, t = v + 1 := ⟨t - 1, by omega⟩; show _ = pl_cnt Y v + (if Y (v + 1) = 0 then 0 else 1); rw [if_pos hY0]; rfl) (by omega)
        · have hi := hF.iff (hb t) (show t ≤ 1080 by omega)
          have hY0 : ¬ Y t = 0 := fun z => c_18 (hi.1.mpr z)
          refine cq_iinc F dX3_toldTimes_21 rfl (by decide) (fun x_21 e_21 => ?_)
          obtain rfl : x_21 = nI (mm + 1) := by rw [e_21]; exact nI_1 _
          refine cq_iinc F dX3_toldTimes_24 rfl (by decide) (fun x_24 e_24 => ?_)
          obtain rfl : x_24 = nI (t + 1) := by rw [e_24]; exact nI_1 _
          refine cq_goto F (tgt := 4) dX3_toldTimes_27 (by decide) ?_
          refine cq_loc (L2 := [(0, .ref p), (1, .int (nI (mm + 1))), (2, .int (nI (t + 1)))]) rfl ?_
          exact ih_4 _ (t + 1) ⟨by omega, by omega⟩ (by rw [hmm]; obtain ⟨v, rfl⟩ : ∃ v, t = v + 1 := ⟨t - 1, by omega⟩; show _ = pl_cnt Y v + (if Y (v + 1) = 0 then 0 else 1); rw [if_neg hY0]; rfl) (by omega)
  refine cq_iconst F (v := 0) dX3_toldTimes_0 rfl ?_
  refine cq_istore_n F (i := 1) dX3_toldTimes_1 rfl (by decide) ?_
  refine cq_iconst F (v := 1) dX3_toldTimes_2 rfl ?_
  refine cq_istore_n F (i := 2) dX3_toldTimes_3 rfl (by decide) ?_
  refine cq_loc (L2 := [(0, .ref p), (1, .int (nI 0)), (2, .int (nI 1))]) rfl ?_
  exact loop_4 1082 0 1 ⟨by omega, by omega⟩ rfl (by omega)
theorem hdVX3_toldTimes : yX3_toldTimes.cls = RX3 ∧ yX3_toldTimes.cls ≠ "java/lang/invoke/MethodHandle" ∧ yX3_toldTimes.cls ≠ "java/lang/invoke/VarHandle" ∧ (parseMethodDescriptor yX3_toldTimes.desc).map (fun d => d.parameters.length) = some 0 := by decide +kernel
abbrev rmX3_toldTime : Room := ({ frames := 0, cells := 0, slots := 0, locals := 0 })
set_option maxHeartbeats 4000000 in
set_option maxRecDepth 100000 in
theorem kX3_toldTime (l : Launch) (D : va_G) (cA : Nat → ClassId) (X : cq_X) (Bs : Nat) (p : Nat) (r : Int32) (Y : Nat → Nat) (M : cq_M) (hp : cq_isPlans X p) (hF : pc_F M p Y) (hb : ∀ t, Y t ≤ 1080) : cq_C l yX3_toldTime wsX3_toldTime rmX3_toldTime D cA X Bs [.ref p, .int r] M (cq_PI (fun r1 M1 => r1 = pl_rank Y r 1080 1 0 ∧ M1 = M)) 0 0 := by
  refine cq_met (cc := cX3_toldTime) (maxL := 4) (ret := (some .int)) (by decide) rfl (Nat.le_of_ble_eq_true rfl) [(0, .ref p), (1, .int r)] rfl rfl ?_
  intro p9 e9 s9 m9 b9 t9 c9 F hr
  have inX3 : ∀ w ∈ wsX30, w ∈ wsX3_toldTime := (fun w h => List.mem_cons_of_mem _ (List.mem_append_right _ h))
  have loop_4 : ∀ (n_4 : Nat) (mm t : Nat), 1 ≤ t ∧ t ≤ 1081 → pl_rank Y r 1080 1 0 = pl_rank Y r (1081 - t) t mm → 1082 - t < n_4 → cq_V p9 l e9 rmX3_toldTime s9 m9 ([.ref p, .int r] : List Value).toArray b9 t9 c9 D cA X Bs 4 0 0 (MQ b9 (cq_Q D cA X Bs (cq_PI (fun r1 M1 => r1 = pl_rank Y r 1080 1 0 ∧ M1 = M))) ([.ref p, .int r] : List Value).toArray s9 0 0 (cq_A Bs)) 4 [(0, .ref p), (1, .int r), (2, .int (nI mm)), (3, .int (nI t))] [] M := by
    intro n_4
    induction n_4 with
    | zero =>
      intros
      omega
    | succ n_4 ih_4 =>
      intro mm t ht hrk hn
      refine cq_iload_n F (i := 3) dX3_toldTime_4 rfl rfl ?_
      refine cq_sipush F (v := 1080) dX3_toldTime_5 (by decide) ?_
      refine cq_icmp_gt F (tgt := 37) dX3_toldTime_8 (by decide) (fun c_8 => ?_) (fun c_8 => ?_)
      · have c_8 : 1080 < t := (nI_b (a := 1080) (b := t) (by omega) (by omega)).2.1.mp c_8
        refine cq_iconst F (v := (-1)) dX3_toldTime_37 rfl ?_
        exact cq_iret F hr (by decide) (by decide) dX3_toldTime_38 ⟨_, rfl, ⟨by rw [hrk, show 1081 - t = 0 by omega]; rfl, rfl⟩⟩
      · have c_8 : ¬ 1080 < t := fun z => c_8 ((nI_b (a := 1080) (b := t) (by omega) (by omega)).2.1.mpr z)
        refine cq_aload_n F (i := 0) dX3_toldTime_11 rfl rfl ?_
        refine cq_getT (t := (p + 1)) F (C := RX3) (T := TX3) (N := 4) (ci := 4) hp.kind rfl ⟨⟨by decide, by decide⟩, rfl⟩ inX3 0 (by decide) rfl rfl hp.t0 (F.1.2.2.2.2 _ (List.mem_of_getElem? (l := wsX3_toldTime) (i := 1) (a := .fieldLink RX3 9 "CordClock$Plans" "fewest" "[I") (by decide +kernel))) dX3_toldTime_12 ?_
        refine cq_iload_n F (i := 3) dX3_toldTime_15 rfl rfl ?_
        refine cq_iald_j F (j := t) hp.k1 hp.n1 rfl ⟨(by omega), by decide⟩ dX3_toldTime_16 ?_
        refine cq_iconst F (v := (-1)) dX3_toldTime_17 rfl ?_
        refine cq_icmp_eq F (tgt := 31) dX3_toldTime_18 (by decide) (fun c_18 => ?_) (fun c_18 => ?_)
        · have hi := hF.iff (hb t) (show t ≤ 1080 by omega)
          have hY0 : Y t = 0 := hi.1.mp c_18
          refine cq_iinc F dX3_toldTime_31 rfl (by decide) (fun x_31 e_31 => ?_)
          obtain rfl : x_31 = nI (t + 1) := by rw [e_31]; exact nI_1 _
          refine cq_goto F (tgt := 4) dX3_toldTime_34 (by decide) ?_
          refine cq_loc (L2 := [(0, .ref p), (1, .int r), (2, .int (nI mm)), (3, .int (nI (t + 1)))]) rfl ?_
          exact ih_4 mm (t + 1) ⟨by omega, by omega⟩ (by rw [hrk, show 1081 - t = (1081 - (t + 1)) + 1 by omega, pl_rank, if_pos hY0]) (by omega)
        · have hi := hF.iff (hb t) (show t ≤ 1080 by omega)
          have hY0 : ¬ Y t = 0 := fun z => c_18 (hi.1.mpr z)
          refine cq_iload_n F (i := 2) dX3_toldTime_21 rfl rfl ?_
          refine cq_iload_n F (i := 1) dX3_toldTime_22 rfl rfl ?_
          refine cq_icmp_ne F (tgt := 28) dX3_toldTime_23 (by decide) (fun c_23 => ?_) (fun c_23 => ?_)
          · refine cq_iinc F dX3_toldTime_28 rfl (by decide) (fun x_28 e_28 => ?_)
            obtain rfl : x_28 = nI (mm + 1) := by rw [e_28]; exact nI_1 _
            refine cq_iinc F dX3_toldTime_31 rfl (by decide) (fun x_31 e_31 => ?_)
            obtain rfl : x_31 = nI (t + 1) := by rw [e_31]; exact nI_1 _
            refine cq_goto F (tgt := 4) dX3_toldTime_34 (by decide) ?_
            refine cq_loc (L2 := [(0, .ref p), (1, .int r), (2, .int (nI (mm + 1))), (3, .int (nI (t + 1)))]) rfl ?_
            exact ih_4 (mm + 1) (t + 1) ⟨by omega, by omega⟩ (by rw [hrk, show 1081 - t = (1081 - (t + 1)) + 1 by omega, pl_rank, if_neg hY0, if_neg c_23]) (by omega)
          · refine cq_iload_n F (i := 3) dX3_toldTime_26 rfl rfl ?_
            exact cq_iret F hr (by decide) (by decide) dX3_toldTime_27 ⟨_, rfl, ⟨by rw [hrk, show 1081 - t = (1080 - t) + 1 by omega, pl_rank, if_neg hY0, if_pos c_23], rfl⟩⟩
  refine cq_iconst F (v := 0) dX3_toldTime_0 rfl ?_
  refine cq_istore_n F (i := 2) dX3_toldTime_1 rfl (by decide) ?_
  refine cq_iconst F (v := 1) dX3_toldTime_2 rfl ?_
  refine cq_istore_n F (i := 3) dX3_toldTime_3 rfl (by decide) ?_
  refine cq_loc (L2 := [(0, .ref p), (1, .int r), (2, .int (nI 0)), (3, .int (nI 1))]) rfl ?_
  exact loop_4 1082 0 1 ⟨by omega, by omega⟩ rfl (by omega)
theorem hdVX3_toldTime : yX3_toldTime.cls = RX3 ∧ yX3_toldTime.cls ≠ "java/lang/invoke/MethodHandle" ∧ yX3_toldTime.cls ≠ "java/lang/invoke/VarHandle" ∧ (parseMethodDescriptor yX3_toldTime.desc).map (fun d => d.parameters.length) = some 1 := by decide +kernel
abbrev rmX6_isPlanSet : Room := ({ frames := 1, cells := 0, slots := 0, locals := 20 })
set_option maxHeartbeats 4000000 in
set_option maxRecDepth 100000 in
theorem kX6_isPlanSet (l : Launch) (D : va_G) (cA : Nat → ClassId) (X : cq_X) (Bs : Nat) (b B : Nat) (g : Nat → Nat) (u : Int32) (M : cq_M) (hb : cq_isClock X b) (hs : cr_st M (b + 1) g) (hk : ns_ok g B) : cq_C l yX6_isPlanSet wsX6_isPlanSet rmX6_isPlanSet D cA X Bs [.ref b, .int u] M (cq_PI (fun r M1 => r = (if op_set g u then 1 else 0) ∧ M1 = M)) 0 0 := by
  refine cq_met (cc := cX6_isPlanSet) (maxL := 2) (ret := (some .boolean)) (by decide) rfl (Nat.le_of_ble_eq_true rfl) [(0, .ref b), (1, .int u)] rfl rfl ?_
  intro p9 e9 s9 m9 b9 t9 c9 F hr
  have inX5 : ∀ w ∈ wsX50, w ∈ wsX6_isPlanSet := (fun w h => List.mem_cons_of_mem _ (List.mem_append_right _ h))
  have inX6 : ∀ w ∈ wsX60, w ∈ wsX6_isPlanSet := (fun w h => List.mem_cons_of_mem _ (List.mem_append_left _ (List.mem_append_right _ h)))
  have h6 := hk.1
  have hp16 : 2 ^ g 6 ≤ 16 := Nat.pow_le_pow_right (n := 2) (by decide) h6
  refine cq_iload_n F (i := 1) dX6_isPlanSet_0 rfl rfl ?_
  refine cq_if_lt F (tgt := 29) dX6_isPlanSet_1 (by decide) (fun c_1 => ?_) (fun c_1 => ?_)
  · refine cq_iconst F (v := 0) dX6_isPlanSet_29 rfl ?_
    exact cq_zret F hr (by rfl) (by decide) (by decide) dX6_isPlanSet_30 ⟨_, rfl, ⟨(if_neg (show ¬ op_set g u from fun z => absurd c_1 (Int32.not_lt.mpr z.1.1))).symm, rfl⟩⟩
  · obtain ⟨w, hw, rfl⟩ := nI_of c_1
    refine cq_iload_n F (i := 1) dX6_isPlanSet_4 rfl rfl ?_
    refine cq_iconst F (v := 1) dX6_isPlanSet_5 rfl ?_
    refine cq_aload_n F (i := 0) dX6_isPlanSet_6 rfl rfl ?_
    refine cq_getT (t := (b + 1)) F (C := RX6) (T := TX6) (N := 9) (ci := 7) hb.kind rfl ⟨⟨by decide, by decide⟩, rfl⟩ inX6 0 (by decide) rfl rfl hb.t0 (F.1.2.2.2.2 _ (List.mem_of_getElem? (l := wsX6_isPlanSet) (i := 1) (a := .fieldLink RX6 10 "CordClock" "now" "LCordClock$State;") (by decide +kernel))) dX6_isPlanSet_7 ?_
    refine cq_getIN F (C := RX5) (T := TX5) (N := 11) (ci := 6) hb.now.kind rfl ⟨⟨by decide, by decide⟩, rfl⟩ inX5 1 (by decide) rfl rfl (cq_nfw F.2.2.2.2 (List.mem_of_getElem? (l := cq_nf) (i := 0) rfl)) dX6_isPlanSet_10 ?_
    rw [show M (b + 1) 1 = nI ((g 6)) from (show M (b + 1) 1 = nI ((g 6)) from hs.1.1)]
    refine cq_ishl F dX6_isPlanSet_13 ?_
    rw [pb_shl _ h6]
    refine cq_icmp_ge F (tgt := 29) dX6_isPlanSet_14 (by decide) (fun c_14 => ?_) (fun c_14 => ?_)
    · have c_14 : (2 ^ g 6) ≤ w := (nI_b (a := (2 ^ g 6)) (b := w) (by omega) (by omega)).1.mp c_14
      refine cq_iconst F (v := 0) dX6_isPlanSet_29 rfl ?_
      exact cq_zret F hr (by rfl) (by decide) (by decide) dX6_isPlanSet_30 ⟨_, rfl, ⟨(if_neg (show ¬ op_set g (nI w) from fun z => absurd ((nI_ltI (by omega) (by omega)).mp z.1.2) (by omega))).symm, rfl⟩⟩
    · have c_14 : ¬ (2 ^ g 6) ≤ w := fun z => c_14 ((nI_b (a := (2 ^ g 6)) (b := w) (by omega) (by omega)).1.mpr z)
      have hw16 : w < 16 := by omega
      have hpb := pb_4 w hw16
      refine cq_iload_n F (i := 1) dX6_isPlanSet_17 rfl rfl ?_
      refine cq_callS F (kJ6_bitCount_0f7a4 l D cA X Bs w 4 M (by omega) (by omega)) (va_cwS 1 F.1.2.2.2.2 gX6_isPlanSet_J6_bitCount_0f7a4 rfl rfl rfl hdVJ6_bitCount_0f7a4.2 ⟨Nat.le_of_ble_eq_true rfl, Nat.le_of_ble_eq_true rfl⟩) rfl (Nat.le_of_ble_eq_true rfl) dX6_isPlanSet_18 ⟨Nat.le_of_ble_eq_true rfl, Nat.le_of_ble_eq_true rfl⟩ (cq_kIp fun r_18 h_18 => ?_)
      rw [show ns_cnt w 4 = pb_m w 4 from rfl] at h_18
      subst h_18
      refine cq_iconst F (v := 3) dX6_isPlanSet_21 rfl ?_
      refine cq_icmp_gt F (tgt := 29) dX6_isPlanSet_22 (by decide) (fun c_22 => ?_) (fun c_22 => ?_)
      · have c_22 : 3 < (pb_m w 4) := (nI_b (a := 3) (b := (pb_m w 4)) (by omega) (by omega)).2.1.mp c_22
        refine cq_iconst F (v := 0) dX6_isPlanSet_29 rfl ?_
        exact cq_zret F hr (by rfl) (by decide) (by decide) dX6_isPlanSet_30 ⟨_, rfl, ⟨(if_neg (show ¬ op_set g (nI w) from fun z => by have z3 := z.2; rw [nI_clamp (by omega)] at z3; omega)).symm, rfl⟩⟩
      · have c_22 : ¬ 3 < (pb_m w 4) := fun z => c_22 ((nI_b (a := 3) (b := (pb_m w 4)) (by omega) (by omega)).2.1.mpr z)
        refine cq_iconst F (v := 1) dX6_isPlanSet_25 rfl ?_
        refine cq_goto F (tgt := 30) dX6_isPlanSet_26 (by decide) ?_
        exact cq_zret F hr (by rfl) (by decide) (by decide) dX6_isPlanSet_30 ⟨_, rfl, ⟨(if_pos (show op_set g (nI w) from ⟨⟨nI_pos' (by omega), nI_lt (by omega) (by omega)⟩, by rw [nI_clamp (by omega)]; omega⟩)).symm, rfl⟩⟩
theorem hdVX6_isPlanSet : yX6_isPlanSet.cls = RX6 ∧ yX6_isPlanSet.cls ≠ "java/lang/invoke/MethodHandle" ∧ yX6_isPlanSet.cls ≠ "java/lang/invoke/VarHandle" ∧ (parseMethodDescriptor yX6_isPlanSet.desc).map (fun d => d.parameters.length) = some 1 := by decide +kernel
abbrev rmX6_makePlans : Room := ({ frames := 9, cells := 0, slots := 0, locals := 222 })
set_option maxHeartbeats 4000000 in
set_option maxRecDepth 100000 in
theorem kX6_makePlans (l : Launch) (D : va_G) (cA : Nat → ClassId) (X : cq_X) (Bs : Nat) (b B : Nat) (g : Nat → Nat) (w : Nat) (M : cq_M) (hb : cq_isClock X b) (hs : cr_st M (b + 1) g) (hk : ns_ok g B) (hw : w < 16) (hm : pb_m w 4 ≤ 3) : cq_C l yX6_makePlans wsX6_makePlans rmX6_makePlans D cA X Bs [.ref b, .int (nI w)] M (cq_PV (fun M1 => pc_F M1 (b + 53) (pl_F (pb g w (g 6))) ∧ (∀ x, x < b + 53 ∨ b + 65 ≤ x → M1 x = M x))) 0 0 := by
  refine cq_met (cc := cX6_makePlans) (maxL := 3) (ret := none) (by decide) rfl (Nat.le_of_ble_eq_true rfl) [(0, .ref b), (1, .int (nI w))] rfl rfl ?_
  intro p9 e9 s9 m9 b9 t9 c9 F hr
  have inX1 : ∀ w ∈ wsX10, w ∈ wsX6_makePlans := (fun w h => List.mem_cons_of_mem _ (List.mem_append_left _ (List.mem_append_right _ h)))
  have inX5 : ∀ w ∈ wsX50, w ∈ wsX6_makePlans := (fun w h => List.mem_cons_of_mem _ (List.mem_append_left _ (List.mem_append_left _ (List.mem_append_right _ h))))
  have inX6 : ∀ w ∈ wsX60, w ∈ wsX6_makePlans := (fun w h => List.mem_cons_of_mem _ (List.mem_append_left _ (List.mem_append_left _ (List.mem_append_left _ (List.mem_append_right _ h)))))
  have h6 := hk.1
  have htm : ∀ c, c < g 6 → ns_time g c ≤ 360 := fun c hc => (hk.2.2.2.1 c hc).time
  have loop_9 : ∀ (n_9 : Nat) (mn i : Nat) (M2 : cq_M), i ≤ g 6 → mn = pb_m w i → M2 (b + 53) 3 = nI mn → pc_st M2 (b + 53) 0 (pb g w i) → pc_F M2 (b + 53) (fun _ => 0) → (∀ x, x < b + 53 ∨ b + 65 ≤ x → M2 x = M x) → g 6 + 1 - i < n_9 → cq_V p9 l e9 rmX6_makePlans s9 m9 ([.ref b, .int (nI w)] : List Value).toArray b9 t9 c9 D cA X Bs 3 0 0 (MQ b9 (cq_Q D cA X Bs (cq_PV (fun M1 => pc_F M1 (b + 53) (pl_F (pb g w (g 6))) ∧ (∀ x, x < b + 53 ∨ b + 65 ≤ x → M1 x = M x)))) ([.ref b, .int (nI w)] : List Value).toArray s9 0 0 (cq_A Bs)) 9 [(0, .ref b), (1, .int (nI w)), (2, .int (nI i))] [] M2 := by
    intro n_9
    induction n_9 with
    | zero =>
      intros
      omega
    | succ n_9 ih_9 =>
      intro mn i M2 hi6 hmn hmn3 hst2 hF2 hf2 hn
      refine cq_iload_n F (i := 2) dX6_makePlans_9 rfl rfl ?_
      refine cq_aload_n F (i := 0) dX6_makePlans_10 rfl rfl ?_
      refine cq_getT (t := (b + 1)) F (C := RX6) (T := TX6) (N := 9) (ci := 7) hb.kind rfl ⟨⟨by decide, by decide⟩, rfl⟩ inX6 0 (by decide) rfl rfl hb.t0 (F.1.2.2.2.2 _ (List.mem_of_getElem? (l := wsX6_makePlans) (i := 2) (a := .fieldLink RX6 10 "CordClock" "now" "LCordClock$State;") (by decide +kernel))) dX6_makePlans_11 ?_
      refine cq_getIN F (C := RX5) (T := TX5) (N := 11) (ci := 6) hb.now.kind rfl ⟨⟨by decide, by decide⟩, rfl⟩ inX5 1 (by decide) rfl rfl (cq_nfw F.2.2.2.2 (List.mem_of_getElem? (l := cq_nf) (i := 0) rfl)) dX6_makePlans_14 ?_
      rw [show M2 (b + 1) 1 = nI ((g 6)) from (show M2 (b + 1) 1 = nI ((g 6)) from (by rw [hf2 _ (by omega)]; exact hs.1.1))]
      refine cq_icmp_ge F (tgt := 53) dX6_makePlans_17 (by decide) (fun c_17 => ?_) (fun c_17 => ?_)
      · have c_17 : (g 6) ≤ i := (nI_b (a := (g 6)) (b := i) (by omega) (by omega)).1.mp c_17
        obtain rfl : i = g 6 := by omega
        have hbg : pl_beg (pb g w (g 6)) := pb_beg htm (Nat.le_trans (pb_m_mono h6) hm)
        refine cq_aload_n F (i := 0) dX6_makePlans_53 rfl rfl ?_
        refine cq_getT (t := (b + 53)) F (C := RX6) (T := TX6) (N := 9) (ci := 7) hb.kind rfl ⟨⟨by decide, by decide⟩, rfl⟩ inX6 8 (by decide) rfl rfl hb.t8 (F.1.2.2.2.2 _ (List.mem_of_getElem? (l := wsX6_makePlans) (i := 1) (a := .fieldLink RX6 40 "CordClock" "plans" "LCordClock$Plans;") (by decide +kernel))) dX6_makePlans_54 ?_
        refine cq_callV F (C := RX3) (ci := 4) (kX3_tryFromBeginning l D cA X Bs (b + 53) (pb g w (g 6)) (fun _ => 0) M2 hb.plans hst2 hbg hF2 (fun _ => Nat.zero_le _)) (cwV 0 F.1.2.2.2.2 gX6_makePlans_X3_tryFromBeginning rfl rfl rfl hdVX3_tryFromBeginning ⟨Nat.le_of_ble_eq_true rfl, Nat.le_of_ble_eq_true rfl⟩) hb.plans.kind ⟨by decide, by decide⟩ rfl rfl rfl (Nat.le_of_ble_eq_true rfl) dX6_makePlans_57 ⟨Nat.le_of_ble_eq_true rfl, Nat.le_of_ble_eq_true rfl⟩ (cq_kV fun M_57 h_57 => ?_)
        refine cq_vret F hr (by decide) (by decide) dX6_makePlans_60 ⟨rfl, ?_⟩
        have q := h_57.1
        rw [pl_dfs_F hbg] at q
        exact ⟨q, fun x hx => by rw [h_57.2 x (by omega) (by omega) (by omega)]; exact hf2 x hx⟩
      · have c_17 : ¬ (g 6) ≤ i := fun z => c_17 ((nI_b (a := (g 6)) (b := i) (by omega) (by omega)).1.mpr z)
        refine cq_iload_n F (i := 1) dX6_makePlans_20 rfl rfl ?_
        refine cq_iload_n F (i := 2) dX6_makePlans_21 rfl rfl ?_
        refine cq_ishr F dX6_makePlans_22 ?_
        refine cq_iconst F (v := 1) dX6_makePlans_23 rfl ?_
        refine cq_iand F dX6_makePlans_24 ?_
        rw [(nI_set i (by omega) w hw).2]
        have hbit : w / 2 ^ i % 2 < 2 := Nat.mod_lt _ (by decide)
        refine cq_if_eq F (tgt := 47) dX6_makePlans_25 (by decide) (fun c_25 => ?_) (fun c_25 => ?_)
        · have c_25 : (w / 2 ^ i % 2) = 0 := (nI_b (a := (w / 2 ^ i % 2)) (b := 0) (by omega) (by omega)).2.2.mp c_25
          refine cq_iinc F dX6_makePlans_47 rfl (by decide) (fun x_47 e_47 => ?_)
          obtain rfl : x_47 = nI (i + 1) := by rw [e_47]; exact nI_1 _
          refine cq_goto F (tgt := 9) dX6_makePlans_50 (by decide) ?_
          refine cq_loc (L2 := [(0, .ref b), (1, .int (nI w)), (2, .int (nI (i + 1)))]) rfl ?_
          exact ih_9 mn (i + 1) M2 (by omega) (by rw [hmn]; show _ = pb_m w i + w / 2 ^ i % 2; omega) hmn3 (by
            have e1 : pb g w (i + 1) = pb g w i := by
              show (if w / 2 ^ i % 2 = 1 then ns_up (pb g w i) (1 + pb_m w i) (ns_time g i) else pb g w i) = _
              rw [if_neg (by omega)]
            rw [e1]
            exact hst2) hF2 hf2 (by omega)
        · have c_25 : ¬ (w / 2 ^ i % 2) = 0 := fun z => c_25 ((nI_b (a := (w / 2 ^ i % 2)) (b := 0) (by omega) (by omega)).2.2.mpr z)
          have hmn9 : mn ≤ 2 := by have z := pb_m_mono (w := w) (show i + 1 ≤ 4 by omega); simp only [pb_m] at z hm; omega
          refine cq_aload_n F (i := 0) dX6_makePlans_28 rfl rfl ?_
          refine cq_getT (t := (b + 53)) F (C := RX6) (T := TX6) (N := 9) (ci := 7) hb.kind rfl ⟨⟨by decide, by decide⟩, rfl⟩ inX6 8 (by decide) rfl rfl hb.t8 (F.1.2.2.2.2 _ (List.mem_of_getElem? (l := wsX6_makePlans) (i := 1) (a := .fieldLink RX6 40 "CordClock" "plans" "LCordClock$Plans;") (by decide +kernel))) dX6_makePlans_29 ?_
          refine cq_aload_n F (i := 0) dX6_makePlans_32 rfl rfl ?_
          refine cq_getT (t := (b + 1)) F (C := RX6) (T := TX6) (N := 9) (ci := 7) hb.kind rfl ⟨⟨by decide, by decide⟩, rfl⟩ inX6 0 (by decide) rfl rfl hb.t0 (F.1.2.2.2.2 _ (List.mem_of_getElem? (l := wsX6_makePlans) (i := 2) (a := .fieldLink RX6 10 "CordClock" "now" "LCordClock$State;") (by decide +kernel))) dX6_makePlans_33 ?_
          refine cq_getTN (t := ((b + 1) + 1)) F (C := RX5) (T := TX5) (N := 11) (ci := 6) hb.now.kind rfl ⟨⟨by decide, by decide⟩, rfl⟩ inX5 0 (by decide) rfl rfl hb.now.t0 (cq_nfw F.2.2.2.2 (List.mem_of_getElem? (l := cq_nf) (i := 1) rfl)) dX6_makePlans_36 ?_
          refine cq_iload_n F (i := 2) dX6_makePlans_39 rfl rfl ?_
          have hj_40 : i < 4 := (by omega)
          refine cq_aaldC_j F (j := i) (t := ((b + 1) + 7 + 2 * i)) hb.now.k1 hb.now.n1 rfl ⟨hj_40, by decide⟩ (hb.now.ct _ hj_40) dX6_makePlans_40 ?_
          refine cq_getIN F (C := RX1) (T := TX1) (N := 8) (ci := 2) (hb.now.cord _ hj_40).kind rfl ⟨⟨by decide, by decide⟩, rfl⟩ inX1 2 (by decide) rfl rfl (cq_nfw F.2.2.2.2 (List.mem_of_getElem? (l := cq_nf) (i := 6) rfl)) dX6_makePlans_41 ?_
          rw [(show M2 (b + 1 + 7 + 2 * i) 2 = nI (ns_time g i) by rw [hf2 _ (by omega)]; exact (hs.2.1 i (by omega)).2.1)]
          refine cq_callV F (C := RX3) (ci := 4) (kX3_addCord l D cA X Bs (b + 53) mn (ns_time g i) M2 hb.plans hmn3 hmn9) (cwV 1 F.1.2.2.2.2 gX6_makePlans_X3_addCord rfl rfl rfl hdVX3_addCord ⟨Nat.le_of_ble_eq_true rfl, Nat.le_of_ble_eq_true rfl⟩) hb.plans.kind ⟨by decide, by decide⟩ rfl rfl rfl (Nat.le_of_ble_eq_true rfl) dX6_makePlans_44 ⟨Nat.le_of_ble_eq_true rfl, Nat.le_of_ble_eq_true rfl⟩ (cq_kV fun M_44 h_44 => ?_)
          refine cq_iinc F dX6_makePlans_47 rfl (by decide) (fun x_47 e_47 => ?_)
          obtain rfl : x_47 = nI (i + 1) := by rw [e_47]; exact nI_1 _
          refine cq_goto F (tgt := 9) dX6_makePlans_50 (by decide) ?_
          refine cq_loc (L2 := [(0, .ref b), (1, .int (nI w)), (2, .int (nI (i + 1)))]) rfl ?_
          exact ih_9 (mn + 1) (i + 1) M_44 (by omega) (by rw [hmn]; show _ = pb_m w i + w / 2 ^ i % 2; omega) (by rw [h_44]; exact cq_up_s _ _ _ _) (fun k hk => by
            have hq := hst2 k hk
            have e1 : pb g w (i + 1) = ns_up (pb g w i) (1 + mn) (ns_time g i) := by
              show (if w / 2 ^ i % 2 = 1 then ns_up (pb g w i) (1 + pb_m w i) (ns_time g i) else pb g w i) = _
              rw [if_pos (by omega), hmn]
            rw [e1, ns_up_n (show 4 + k ≠ 1 + mn by omega), h_44]
            refine ⟨?_, by rw [cq_up_a (by omega), cq_up_a (by omega)]; exact hq.2⟩
            rw [cq_up_a (by omega)]
            by_cases e : k = mn
            · rw [e, ns_up_s]; exact cq_up_s _ _ _ _
            · rw [ns_up_n (by omega)]; rw [show cq_up M2 (b + 53 + 3) mn (nI (ns_time g i)) (b + 53 + 3 + 0) k = M2 (b + 53 + 3) k from cq_up_k e]; exact hq.1) (fun t ht => by rw [h_44, cq_up_a (by omega), cq_up_a (by omega)]; exact hF2 t ht) (fun x hx => by rw [h_44, cq_up_row (by omega), cq_up_row (by omega)]; exact hf2 x hx) (by omega)
  refine cq_aload_n F (i := 0) dX6_makePlans_0 rfl rfl ?_
  refine cq_getT (t := (b + 53)) F (C := RX6) (T := TX6) (N := 9) (ci := 7) hb.kind rfl ⟨⟨by decide, by decide⟩, rfl⟩ inX6 8 (by decide) rfl rfl hb.t8 (F.1.2.2.2.2 _ (List.mem_of_getElem? (l := wsX6_makePlans) (i := 1) (a := .fieldLink RX6 40 "CordClock" "plans" "LCordClock$Plans;") (by decide +kernel))) dX6_makePlans_1 ?_
  refine cq_callV F (C := RX3) (ci := 4) (kX3_clear l D cA X Bs (b + 53) M hb.plans) (cwV 0 F.1.2.2.2.2 gX6_makePlans_X3_clear rfl rfl rfl hdVX3_clear ⟨Nat.le_of_ble_eq_true rfl, Nat.le_of_ble_eq_true rfl⟩) hb.plans.kind ⟨by decide, by decide⟩ rfl rfl rfl (Nat.le_of_ble_eq_true rfl) dX6_makePlans_4 ⟨Nat.le_of_ble_eq_true rfl, Nat.le_of_ble_eq_true rfl⟩ (cq_kV fun M_4 h_4 => ?_)
  refine cq_iconst F (v := 0) dX6_makePlans_7 rfl ?_
  refine cq_istore_n F (i := 2) dX6_makePlans_8 rfl (by decide) ?_
  refine cq_loc (L2 := [(0, .ref b), (1, .int (nI w)), (2, .int (nI 0))]) rfl ?_
  exact loop_9 (g 6 + 2) 0 0 M_4 (Nat.zero_le _) rfl h_4.2.2.1 (fun k hk => ⟨(h_4.2.1 k hk).1, (h_4.2.1 k hk).2⟩) h_4.1 (fun x hx => h_4.2.2.2 x (by omega) (by omega) (by omega) (by omega)) (by omega)
theorem hdVX6_makePlans : yX6_makePlans.cls = RX6 ∧ yX6_makePlans.cls ≠ "java/lang/invoke/MethodHandle" ∧ yX6_makePlans.cls ≠ "java/lang/invoke/VarHandle" ∧ (parseMethodDescriptor yX6_makePlans.desc).map (fun d => d.parameters.length) = some 1 := by decide +kernel
theorem ck.plans {M M1 : cq_M} {b B : Nat} {S : as_T} (h : ck M b S) (hk : as_ok S B) (hf : ∀ x, x < b + 53 ∨ b + 65 ≤ x → M1 x = M x) : ck M1 b S ∧ cr_fr M M1 b 249 :=
  ⟨h.fr hk (fun x k1 k2 k3 k4 k5 => hf x (by omega)) (by rw [hf _ (by omega)]) (h.2.2.1.1.fr (fun x k1 k2 => hf x (by omega))), fun x hx => hf x (by omega)⟩
theorem pl_F_le {g : Nat → Nat} (h : pl_beg g) : ∀ t, pl_F g t ≤ 1080 := pl_fold_le (fun _ => Nat.zero_le _) (fun x hx => by
  rcases List.mem_append.mp hx with hx | hx
  · exact Nat.le_trans (pl_1_ok h hx).1.2.2.1 (by decide)
  · rcases List.mem_append.mp hx with hx | hx
    · exact Nat.le_trans (pl_2_ok h hx).1.2.2.1 (by decide)
    · exact (pl_3_ok h hx).1.2.2.1)
abbrev rmX6_tellable : Room := ({ frames := 10, cells := 1, slots := 6, locals := 244 })
set_option maxHeartbeats 4000000 in
set_option maxRecDepth 100000 in
theorem kX6_tellable (l : Launch) (hl : l.stackTraces = false) (D : va_G) (cA : Nat → ClassId) (X : cq_X) (Bs : Nat) (b B : Nat) (S : as_T) (u v : Int32) (M : cq_M) (hb : cq_isClock X b) (h : ck M b S) (hk : as_ok S B) : cq_T l yX6_tellable wsX6_tellable rmX6_tellable D cA X Bs [.ref b, .int u, .int v] M (cq_PI (fun r M1 => cw (op_tell S u v) r M M1 b)) (fun E M1 => cx (op_tell S u v) S [xA] E M M1) 1 6 := by
  refine cq_met9 (cc := cX6_tellable) (maxL := 3) (ret := (some .int)) (by decide) rfl (Nat.le_of_ble_eq_true rfl) [(0, .ref b), (1, .int u), (2, .int v)] rfl rfl ?_
  intro p9 e9 s9 m9 b9 t9 c9 F hr hex
  have inX6 : ∀ w ∈ wsX60, w ∈ wsX6_tellable := (fun w h => List.mem_cons_of_mem _ (List.mem_append_left _ (List.mem_append_left _ (List.mem_append_left _ (List.mem_append_left _ (List.mem_append_right _ h))))))
  refine cq_aload_n F (i := 0) dX6_tellable_0 rfl rfl ?_
  refine cq_iload_n F (i := 1) dX6_tellable_1 rfl rfl ?_
  refine cq_callV F (C := RX6) (ci := 7) (kX6_isPlanSet l D cA X Bs b B (S_g S) u M hb h.1 hk.1) (cwV 1 F.1.2.2.2.2 gX6_tellable_X6_isPlanSet rfl rfl rfl hdVX6_isPlanSet ⟨Nat.le_of_ble_eq_true rfl, Nat.le_of_ble_eq_true rfl⟩) hb.kind ⟨by decide, by decide⟩ rfl rfl rfl (Nat.le_of_ble_eq_true rfl) dX6_tellable_2 ⟨Nat.le_of_ble_eq_true rfl, Nat.le_of_ble_eq_true rfl⟩ (cq_kIp fun r_2 h_2 => ?_)
  refine cq_if_eq F (tgt := 13) dX6_tellable_5 (by decide) (fun c_5 => ?_) (fun c_5 => ?_)
  · have c_5 := cq_b0 h_2 c_5
    refine cq_throwW F hl hex (by decide +kernel) (F.1.2.2.2.2 _ (List.mem_of_getElem? (l := wsX6_tellable) (i := 1) (a := .classLink RX6 48 "java/lang/IllegalArgumentException") (by decide +kernel))) (F.1.2.2.2.2 _ (List.mem_of_getElem? (l := wsX6_tellable) (i := 2) (a := .initialized "java/lang/IllegalArgumentException") (by decide +kernel))) (List.mem_of_getElem? (l := cq_sr) (i := 15) rfl) (fun w h => F.1.2.2.2.2 w ((fun w h => List.mem_cons_of_mem _ (List.mem_append_right _ h)) w h)) xn_48_52 xg_48_52 dX6_tellable_13 dX6_tellable_16 dX6_tellable_17 dX6_tellable_20 dX6_tellable_23 ⟨by decide, Nat.le_of_ble_eq_true rfl, by decide, by decide⟩ ⟨by decide, by decide⟩ ?_
    exact (cx_of (k := 0) (if_neg (fun z => by first | exact c_5 z.1 | exact c_10 z.2)) rfl rfl)
  · have c_5 := cq_b1 h_2 c_5
    have c_5b := c_5
    obtain ⟨w, hw, rfl, hpm, ew⟩ := op_set_w c_5 hk.1.1
    have hYb : ∀ t, pl_F (pb (S_g S) w (S_g S 6)) t ≤ 1080 := pl_F_le (pb_beg (fun c hc => (hk.1.2.2.2.1 c hc).time) (Nat.le_trans (pb_m_mono hk.1.1) hpm))
    have eb : op_beg (S_g S) (nI w) = pb (S_g S) w (S_g S 6) := by unfold op_beg; rw [ew]
    refine cq_iload_n F (i := 2) dX6_tellable_8 rfl rfl ?_
    refine cq_iconst F (v := (-1)) dX6_tellable_9 rfl ?_
    refine cq_icmp_ge F (tgt := 24) dX6_tellable_10 (by decide) (fun c_10 => ?_) (fun c_10 => ?_)
    · refine cq_aload_n F (i := 0) dX6_tellable_24 rfl rfl ?_
      refine cq_iload_n F (i := 1) dX6_tellable_25 rfl rfl ?_
      refine cq_callV F (C := RX6) (ci := 7) (kX6_makePlans l D cA X Bs b B (S_g S) w M hb h.1 hk.1 hw hpm) (cwV 1 F.1.2.2.2.2 gX6_tellable_X6_makePlans rfl rfl rfl hdVX6_makePlans ⟨Nat.le_of_ble_eq_true rfl, Nat.le_of_ble_eq_true rfl⟩) hb.kind ⟨by decide, by decide⟩ rfl rfl rfl (Nat.le_of_ble_eq_true rfl) dX6_tellable_26 ⟨Nat.le_of_ble_eq_true rfl, Nat.le_of_ble_eq_true rfl⟩ (cq_kV fun M_26 h_26 => ?_)
      refine cq_iload_n F (i := 2) dX6_tellable_29 rfl rfl ?_
      refine cq_iconst F (v := (-1)) dX6_tellable_30 rfl ?_
      refine cq_icmp_ne F (tgt := 44) dX6_tellable_31 (by decide) (fun c_31 => ?_) (fun c_31 => ?_)
      · refine cq_aload_n F (i := 0) dX6_tellable_44 rfl rfl ?_
        refine cq_getT (t := (b + 53)) F (C := RX6) (T := TX6) (N := 9) (ci := 7) hb.kind rfl ⟨⟨by decide, by decide⟩, rfl⟩ inX6 8 (by decide) rfl rfl hb.t8 (F.1.2.2.2.2 _ (List.mem_of_getElem? (l := wsX6_tellable) (i := 3) (a := .fieldLink RX6 40 "CordClock" "plans" "LCordClock$Plans;") (by decide +kernel))) dX6_tellable_45 ?_
        refine cq_iload_n F (i := 2) dX6_tellable_48 rfl rfl ?_
        refine cq_callV F (C := RX3) (ci := 4) (kX3_toldTime l D cA X Bs (b + 53) v (pl_F (pb (S_g S) w (S_g S 6))) M_26 hb.plans h_26.1 hYb) (cwV 1 F.1.2.2.2.2 gX6_tellable_X3_toldTime rfl rfl rfl hdVX3_toldTime ⟨Nat.le_of_ble_eq_true rfl, Nat.le_of_ble_eq_true rfl⟩) hb.plans.kind ⟨by decide, by decide⟩ rfl rfl rfl (Nat.le_of_ble_eq_true rfl) dX6_tellable_49 ⟨Nat.le_of_ble_eq_true rfl, Nat.le_of_ble_eq_true rfl⟩ (cq_kIp fun r_49 h_49 => ?_)
        refine cq_ret9 ?_
        exact cq_iret F hr (by decide) (by decide) dX6_tellable_52 ⟨_, rfl, (cw_of (by unfold op_tell; rw [if_pos ⟨c_5b, c_10⟩, eb]; unfold op_rank; first | rw [if_pos c_31, h_38] | rw [if_neg c_31, h_49]) (h.plans hk h_26.2).1 (h.plans hk h_26.2).2)⟩
      · refine cq_aload_n F (i := 0) dX6_tellable_34 rfl rfl ?_
        refine cq_getT (t := (b + 53)) F (C := RX6) (T := TX6) (N := 9) (ci := 7) hb.kind rfl ⟨⟨by decide, by decide⟩, rfl⟩ inX6 8 (by decide) rfl rfl hb.t8 (F.1.2.2.2.2 _ (List.mem_of_getElem? (l := wsX6_tellable) (i := 3) (a := .fieldLink RX6 40 "CordClock" "plans" "LCordClock$Plans;") (by decide +kernel))) dX6_tellable_35 ?_
        refine cq_callV F (C := RX3) (ci := 4) (kX3_toldTimes l D cA X Bs (b + 53) (pl_F (pb (S_g S) w (S_g S 6))) M_26 hb.plans h_26.1 hYb) (cwV 0 F.1.2.2.2.2 gX6_tellable_X3_toldTimes rfl rfl rfl hdVX3_toldTimes ⟨Nat.le_of_ble_eq_true rfl, Nat.le_of_ble_eq_true rfl⟩) hb.plans.kind ⟨by decide, by decide⟩ rfl rfl rfl (Nat.le_of_ble_eq_true rfl) dX6_tellable_38 ⟨Nat.le_of_ble_eq_true rfl, Nat.le_of_ble_eq_true rfl⟩ (cq_kIp fun r_38 h_38 => ?_)
        refine cq_goto F (tgt := 52) dX6_tellable_41 (by decide) ?_
        refine cq_ret9 ?_
        exact cq_iret F hr (by decide) (by decide) dX6_tellable_52 ⟨_, rfl, (cw_of (by unfold op_tell; rw [if_pos ⟨c_5b, c_10⟩, eb]; unfold op_rank; first | rw [if_pos c_31, h_38] | rw [if_neg c_31, h_49]) (h.plans hk h_26.2).1 (h.plans hk h_26.2).2)⟩
    · refine cq_throwW F hl hex (by decide +kernel) (F.1.2.2.2.2 _ (List.mem_of_getElem? (l := wsX6_tellable) (i := 1) (a := .classLink RX6 48 "java/lang/IllegalArgumentException") (by decide +kernel))) (F.1.2.2.2.2 _ (List.mem_of_getElem? (l := wsX6_tellable) (i := 2) (a := .initialized "java/lang/IllegalArgumentException") (by decide +kernel))) (List.mem_of_getElem? (l := cq_sr) (i := 15) rfl) (fun w h => F.1.2.2.2.2 w ((fun w h => List.mem_cons_of_mem _ (List.mem_append_right _ h)) w h)) xn_48_52 xg_48_52 dX6_tellable_13 dX6_tellable_16 dX6_tellable_17 dX6_tellable_20 dX6_tellable_23 ⟨by decide, Nat.le_of_ble_eq_true rfl, by decide, by decide⟩ ⟨by decide, by decide⟩ ?_
      exact (cx_of (k := 0) (if_neg (fun z => by first | exact c_5 z.1 | exact c_10 z.2)) rfl rfl)
theorem hdVX6_tellable : yX6_tellable.cls = RX6 ∧ yX6_tellable.cls ≠ "java/lang/invoke/MethodHandle" ∧ yX6_tellable.cls ≠ "java/lang/invoke/VarHandle" ∧ (parseMethodDescriptor yX6_tellable.desc).map (fun d => d.parameters.length) = some 2 := by decide +kernel
abbrev rmX6_fewestFlames : Room := ({ frames := 10, cells := 1, slots := 6, locals := 244 })
set_option maxHeartbeats 4000000 in
set_option maxRecDepth 100000 in
theorem kX6_fewestFlames (l : Launch) (hl : l.stackTraces = false) (D : va_G) (cA : Nat → ClassId) (X : cq_X) (Bs : Nat) (b B : Nat) (S : as_T) (u v : Int32) (M : cq_M) (hb : cq_isClock X b) (h : ck M b S) (hk : as_ok S B) : cq_T l yX6_fewestFlames wsX6_fewestFlames rmX6_fewestFlames D cA X Bs [.ref b, .int u, .int v] M (cq_PI (fun r M1 => cw (op_few S u v) r M M1 b)) (fun E M1 => cx (op_few S u v) S [xA] E M M1) 1 6 := by
  refine cq_met9 (cc := cX6_fewestFlames) (maxL := 3) (ret := (some .int)) (by decide) rfl (Nat.le_of_ble_eq_true rfl) [(0, .ref b), (1, .int u), (2, .int v)] rfl rfl ?_
  intro p9 e9 s9 m9 b9 t9 c9 F hr hex
  have inX3 : ∀ w ∈ wsX30, w ∈ wsX6_fewestFlames := (fun w h => List.mem_cons_of_mem _ (List.mem_append_left _ (List.mem_append_left _ (List.mem_append_left _ (List.mem_append_right _ h)))))
  have inX6 : ∀ w ∈ wsX60, w ∈ wsX6_fewestFlames := (fun w h => List.mem_cons_of_mem _ (List.mem_append_left _ (List.mem_append_left _ (List.mem_append_left _ (List.mem_append_left _ (List.mem_append_right _ h))))))
  refine cq_aload_n F (i := 0) dX6_fewestFlames_0 rfl rfl ?_
  refine cq_iload_n F (i := 1) dX6_fewestFlames_1 rfl rfl ?_
  refine cq_callV F (C := RX6) (ci := 7) (kX6_isPlanSet l D cA X Bs b B (S_g S) u M hb h.1 hk.1) (cwV 1 F.1.2.2.2.2 gX6_fewestFlames_X6_isPlanSet rfl rfl rfl hdVX6_isPlanSet ⟨Nat.le_of_ble_eq_true rfl, Nat.le_of_ble_eq_true rfl⟩) hb.kind ⟨by decide, by decide⟩ rfl rfl rfl (Nat.le_of_ble_eq_true rfl) dX6_fewestFlames_2 ⟨Nat.le_of_ble_eq_true rfl, Nat.le_of_ble_eq_true rfl⟩ (cq_kIp fun r_2 h_2 => ?_)
  refine cq_if_eq F (tgt := 20) dX6_fewestFlames_5 (by decide) (fun c_5 => ?_) (fun c_5 => ?_)
  · have c_5 := cq_b0 h_2 c_5
    refine cq_throwW F hl hex (by decide +kernel) (F.1.2.2.2.2 _ (List.mem_of_getElem? (l := wsX6_fewestFlames) (i := 1) (a := .classLink RX6 48 "java/lang/IllegalArgumentException") (by decide +kernel))) (F.1.2.2.2.2 _ (List.mem_of_getElem? (l := wsX6_fewestFlames) (i := 2) (a := .initialized "java/lang/IllegalArgumentException") (by decide +kernel))) (List.mem_of_getElem? (l := cq_sr) (i := 16) rfl) (fun w h => F.1.2.2.2.2 w ((fun w h => List.mem_cons_of_mem _ (List.mem_append_right _ h)) w h)) xn_48_52 xg_48_52 dX6_fewestFlames_20 dX6_fewestFlames_23 dX6_fewestFlames_24 dX6_fewestFlames_27 dX6_fewestFlames_30 ⟨by decide, Nat.le_of_ble_eq_true rfl, by decide, by decide⟩ ⟨by decide, by decide⟩ ?_
    exact (cx_of (k := 0) (if_neg (fun z => by first | exact c_5 z.1 | exact absurd c_10 (Int32.not_lt.mpr z.2.1) | exact c_17 z.2.2)) rfl rfl)
  · have c_5 := cq_b1 h_2 c_5
    have c_5b := c_5
    obtain ⟨w, hw, rfl, hpm, ew⟩ := op_set_w c_5 hk.1.1
    have hYb : ∀ t, pl_F (pb (S_g S) w (S_g S 6)) t ≤ 1080 := pl_F_le (pb_beg (fun c hc => (hk.1.2.2.2.1 c hc).time) (Nat.le_trans (pb_m_mono hk.1.1) hpm))
    have eb : op_beg (S_g S) (nI w) = pb (S_g S) w (S_g S 6) := by unfold op_beg; rw [ew]
    refine cq_iload_n F (i := 2) dX6_fewestFlames_8 rfl rfl ?_
    refine cq_iconst F (v := 1) dX6_fewestFlames_9 rfl ?_
    refine cq_icmp_lt F (tgt := 20) dX6_fewestFlames_10 (by decide) (fun c_10 => ?_) (fun c_10 => ?_)
    · refine cq_throwW F hl hex (by decide +kernel) (F.1.2.2.2.2 _ (List.mem_of_getElem? (l := wsX6_fewestFlames) (i := 1) (a := .classLink RX6 48 "java/lang/IllegalArgumentException") (by decide +kernel))) (F.1.2.2.2.2 _ (List.mem_of_getElem? (l := wsX6_fewestFlames) (i := 2) (a := .initialized "java/lang/IllegalArgumentException") (by decide +kernel))) (List.mem_of_getElem? (l := cq_sr) (i := 16) rfl) (fun w h => F.1.2.2.2.2 w ((fun w h => List.mem_cons_of_mem _ (List.mem_append_right _ h)) w h)) xn_48_52 xg_48_52 dX6_fewestFlames_20 dX6_fewestFlames_23 dX6_fewestFlames_24 dX6_fewestFlames_27 dX6_fewestFlames_30 ⟨by decide, Nat.le_of_ble_eq_true rfl, by decide, by decide⟩ ⟨by decide, by decide⟩ ?_
      exact (cx_of (k := 0) (if_neg (fun z => by first | exact c_5 z.1 | exact absurd c_10 (Int32.not_lt.mpr z.2.1) | exact c_17 z.2.2)) rfl rfl)
    · refine cq_iload_n F (i := 2) dX6_fewestFlames_13 rfl rfl ?_
      refine cq_sipush F (v := 1080) dX6_fewestFlames_14 (by decide) ?_
      refine cq_icmp_le F (tgt := 31) dX6_fewestFlames_17 (by decide) (fun c_17 => ?_) (fun c_17 => ?_)
      · have c_8b : 1 ≤ v ∧ v ≤ 1080 := ⟨Int32.not_lt.mp c_10, c_17⟩
        obtain ⟨x, hx1, hx2, rfl⟩ := nI_ab (a := 1) (b := 1080) (by omega) (by omega) c_8b
        have ex : (nI x).toNatClampNeg = x := nI_clamp (by omega)
        refine cq_aload_n F (i := 0) dX6_fewestFlames_31 rfl rfl ?_
        refine cq_iload_n F (i := 1) dX6_fewestFlames_32 rfl rfl ?_
        refine cq_callV F (C := RX6) (ci := 7) (kX6_makePlans l D cA X Bs b B (S_g S) w M hb h.1 hk.1 hw hpm) (cwV 1 F.1.2.2.2.2 gX6_fewestFlames_X6_makePlans rfl rfl rfl hdVX6_makePlans ⟨Nat.le_of_ble_eq_true rfl, Nat.le_of_ble_eq_true rfl⟩) hb.kind ⟨by decide, by decide⟩ rfl rfl rfl (Nat.le_of_ble_eq_true rfl) dX6_fewestFlames_33 ⟨Nat.le_of_ble_eq_true rfl, Nat.le_of_ble_eq_true rfl⟩ (cq_kV fun M_33 h_33 => ?_)
        refine cq_aload_n F (i := 0) dX6_fewestFlames_36 rfl rfl ?_
        refine cq_getT (t := (b + 53)) F (C := RX6) (T := TX6) (N := 9) (ci := 7) hb.kind rfl ⟨⟨by decide, by decide⟩, rfl⟩ inX6 8 (by decide) rfl rfl hb.t8 (F.1.2.2.2.2 _ (List.mem_of_getElem? (l := wsX6_fewestFlames) (i := 3) (a := .fieldLink RX6 40 "CordClock" "plans" "LCordClock$Plans;") (by decide +kernel))) dX6_fewestFlames_37 ?_
        refine cq_getTN (t := ((b + 53) + 1)) F (C := RX3) (T := TX3) (N := 4) (ci := 4) hb.plans.kind rfl ⟨⟨by decide, by decide⟩, rfl⟩ inX3 0 (by decide) rfl rfl hb.plans.t0 (cq_nfw F.2.2.2.2 (List.mem_of_getElem? (l := cq_nf) (i := 24) rfl)) dX6_fewestFlames_40 ?_
        refine cq_iload_n F (i := 2) dX6_fewestFlames_43 rfl rfl ?_
        refine cq_iald_j F (j := x) hb.plans.k1 hb.plans.n1 rfl ⟨(by omega), by decide⟩ dX6_fewestFlames_44 ?_
        refine cq_ret9 ?_
        exact cq_iret F hr (by decide) (by decide) dX6_fewestFlames_45 ⟨_, rfl, (cw_of (by unfold op_few; rw [if_pos ⟨c_5b, c_8b⟩, eb, ex, show M_33 (b + 53 + 1) x = _ from h_33.1 x (by omega)]) (h.plans hk h_33.2).1 (h.plans hk h_33.2).2)⟩
      · refine cq_throwW F hl hex (by decide +kernel) (F.1.2.2.2.2 _ (List.mem_of_getElem? (l := wsX6_fewestFlames) (i := 1) (a := .classLink RX6 48 "java/lang/IllegalArgumentException") (by decide +kernel))) (F.1.2.2.2.2 _ (List.mem_of_getElem? (l := wsX6_fewestFlames) (i := 2) (a := .initialized "java/lang/IllegalArgumentException") (by decide +kernel))) (List.mem_of_getElem? (l := cq_sr) (i := 16) rfl) (fun w h => F.1.2.2.2.2 w ((fun w h => List.mem_cons_of_mem _ (List.mem_append_right _ h)) w h)) xn_48_52 xg_48_52 dX6_fewestFlames_20 dX6_fewestFlames_23 dX6_fewestFlames_24 dX6_fewestFlames_27 dX6_fewestFlames_30 ⟨by decide, Nat.le_of_ble_eq_true rfl, by decide, by decide⟩ ⟨by decide, by decide⟩ ?_
        exact (cx_of (k := 0) (if_neg (fun z => by first | exact c_5 z.1 | exact absurd c_10 (Int32.not_lt.mpr z.2.1) | exact c_17 z.2.2)) rfl rfl)
theorem hdVX6_fewestFlames : yX6_fewestFlames.cls = RX6 ∧ yX6_fewestFlames.cls ≠ "java/lang/invoke/MethodHandle" ∧ yX6_fewestFlames.cls ≠ "java/lang/invoke/VarHandle" ∧ (parseMethodDescriptor yX6_fewestFlames.desc).map (fun d => d.parameters.length) = some 2 := by decide +kernel
