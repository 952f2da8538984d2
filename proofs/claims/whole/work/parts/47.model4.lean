/-! CordClockModel: saving, undo, snapshots -/
abbrev rmX7_save : Room := ({ frames := 0, cells := 0, slots := 0, locals := 0 })
set_option maxHeartbeats 4000000 in
set_option maxRecDepth 100000 in
theorem kX7_save (l : Launch) (D : va_G) (cA : Nat → ClassId) (X : cq_X) (Bs : Nat) (o B : Nat) (S : as_T) (M : cq_M) (ho : cq_isModel X o) (h : cm M o S) (hk : as_ok S B) : cq_C l yX7_save wsX7_save rmX7_save D cA X Bs [.ref o] M (cq_PV (fun M1 => cm M1 o (so_save S) ∧ cr_fr M M1 o 15 ∧ ∀ j, j ≠ 2 → M1 o j = M o j)) 0 0 := by
  refine cq_met (cc := cX7_save) (maxL := 2) (ret := none) (by decide) rfl (Nat.le_of_ble_eq_true rfl) [(0, .ref o)] rfl rfl ?_
  intro p9 e9 s9 m9 b9 t9 c9 F hr
  have inX7 : ∀ w ∈ wsX70, w ∈ wsX7_save := (fun w h => List.mem_cons_of_mem _ (List.mem_append_right _ h))
  have hn6 := hk.2.2.2.2.1
  have loop_51 : ∀ (n_51 : Nat) (n1 : Nat) (Mb : cq_M) (k : Nat) (M3 : cq_M), ((∀ x, x ≠ o + 2 → x ≠ o → Mb x = M x) ∧ (∀ j, j ≠ 2 → Mb o j = M o j) ∧ Mb o 2 = nI n1 ∧ ((S_n S = 6 ∧ n1 = 5 ∧ ∀ j, j < 545 → Mb (o + 2) j = M (o + 2) (j + 109)) ∨ (S_n S < 6 ∧ n1 = S_n S ∧ Mb (o + 2) = M (o + 2)))) → n1 ≤ 5 → k ≤ 109 → (∀ x j, M3 x j = if x = o + 2 ∧ 109 * n1 ≤ j ∧ j < 109 * n1 + k then Mb (o + 1) (j - 109 * n1) else Mb x j) → 109 - k < n_51 → cq_V p9 l e9 rmX7_save s9 m9 ([.ref o] : List Value).toArray b9 t9 c9 D cA X Bs 2 0 0 (MQ b9 (cq_Q D cA X Bs (cq_PV (fun M1 => cm M1 o (so_save S) ∧ cr_fr M M1 o 15 ∧ ∀ j, j ≠ 2 → M1 o j = M o j))) ([.ref o] : List Value).toArray s9 0 0 (cq_A Bs)) 51 [(0, .ref o), (1, .int (nI k))] [] M3 := by
    intro n_51
    induction n_51 with
    | zero =>
      intros
      omega
    | succ n_51 ih_51 =>
      intro n1 Mb k M3 hpb hn1 hk9 h3 hn
      refine cq_iload_n F (i := 1) dX7_save_51 rfl rfl ?_
      refine cq_bipush F (v := 109) dX7_save_52 (by decide) ?_
      refine cq_icmp_ge F (tgt := 83) dX7_save_54 (by decide) (fun c_54 => ?_) (fun c_54 => ?_)
      · have c_54 : 109 ≤ k := (nI_b (a := 109) (b := k) (by omega) (by omega)).1.mp c_54
        refine cq_aload_n F (i := 0) dX7_save_83 rfl rfl ?_
        refine cq_dup F dX7_save_84 rfl ?_
        refine cq_getI F (C := RX7) (T := TX7) (N := 22) (ci := 8) ho.kind rfl ⟨⟨by decide, by decide⟩, rfl⟩ inX7 2 (by decide) rfl rfl (F.1.2.2.2.2 _ (List.mem_of_getElem? (l := wsX7_save) (i := 1) (a := .fieldLink RX7 61 "CordClockModel" "savedMany" "I") (by decide +kernel))) dX7_save_85 ?_
        rw [show M3 o 2 = nI (n1) from (show M3 o 2 = nI (n1) from (by rw [h3, if_neg (by omega)]; exact hpb.2.2.1))]
        refine cq_iconst F (v := 1) dX7_save_88 rfl ?_
        refine cq_iadd F dX7_save_89 ?_
        rw [show (nI n1 + 1 : Int32) = nI (n1 + 1) from nI_add _ _]
        refine cq_put F (C := RX7) (T := TX7) (N := 22) (ci := 8) ho.kind rfl ⟨⟨by decide, by decide⟩, rfl⟩ inX7 tyX7 tyX7_ok nmX7 2 (by decide) rfl rfl (F.1.2.2.2.2 _ (List.mem_of_getElem? (l := wsX7_save) (i := 1) (a := .fieldLink RX7 61 "CordClockModel" "savedMany" "I") (by decide +kernel))) rfl (by rfl) (by rfl) dX7_save_90 (fun M_90 h_90 => ?_)
        refine cq_vret F hr (by decide) (by decide) dX7_save_93 ⟨rfl, ?_⟩
        obtain rfl : k = 109 := by omega
        obtain ⟨p1, p2, p3, p4⟩ := hpb
        obtain ⟨a1, a2, a3, a4, a5, a6⟩ := h
        have en : S.2.2.1 = S_n S := rfl
        have f1 : ∀ x, x ≠ o + 2 → x ≠ o → M_90 x = M x := fun x x1 x2 => by
          rw [h_90, cq_up_row x2]
          funext j
          rw [h3, if_neg (fun z => x1 z.1), p1 x x1 x2]
        have f2 : ∀ j, j ≠ 2 → M_90 o j = M o j := fun j hj => by rw [h_90, cq_up_k hj, h3, if_neg (by omega), p2 j hj]
        have f3 : ∀ j, M_90 (o + 2) j = if 109 * n1 ≤ j ∧ j < 109 * n1 + 109 then M (o + 1) (j - 109 * n1) else Mb (o + 2) j := fun j => by
          rw [h_90, cq_up_a (by omega), h3, p1 (o + 1) (by omega) (by omega)]
          by_cases j2 : 109 * n1 ≤ j ∧ j < 109 * n1 + 109
          · rw [if_pos ⟨rfl, j2⟩, if_pos j2]
          · rw [if_neg (fun z => j2 z.2), if_neg j2]
        refine ⟨⟨fun k hk8 => by rw [f1 _ (by omega) (by omega)]; exact a1 k hk8, ?_, fun i hi k hk8 => ?_, fun i hi => ⟨by rw [f1 _ (by omega) (by omega)]; exact (a4 i hi).1, fun z k hk8 => by rw [f1 _ (by omega) (by omega)]; exact (a4 i hi).2 z k hk8⟩, by rw [f2 8 (by omega)]; exact a5, fun j hj => by rw [f1 _ (by omega) (by omega)]; exact a6 j hj⟩, fun x hx => f1 x (by omega) (by omega), f2⟩
        · rw [h_90, cq_up_s]
          show nI (n1 + 1) = nI (so_sn (S_n S))
          unfold so_sn
          split <;> congr 1 <;> omega
        · have hi2 : i < so_sn (S_n S) := hi
          unfold so_sn at hi2
          show M_90 (o + 2) (109 * i + k) = nI (so_sv S.1 S.2.1 S.2.2.1 i k)
          unfold so_sv
          rw [f3]
          rcases p4 with ⟨q1, q2, q3⟩ | ⟨q1, q2, q3⟩
          · rw [if_pos q1] at hi2
            rw [if_pos (show S.2.2.1 = 6 from q1)]
            by_cases i5 : i = 5
            · subst i5
              rw [if_pos (by omega), show 109 * 5 + k - 109 * n1 = k by omega]
              simp only [if_true]
              exact a1 k hk8
            · simp only [if_neg i5]
              rw [if_neg (by omega), q3 _ (by omega), show 109 * i + k + 109 = 109 * (i + 1) + k by omega]
              exact a3 (i + 1) (by omega) k hk8
          · rw [if_neg (by omega)] at hi2
            rw [if_neg (show ¬ S.2.2.1 = 6 by omega)]
            by_cases i5 : i = S.2.2.1
            · rw [if_pos (by omega), show 109 * i + k - 109 * n1 = k by omega]
              simp only [if_pos i5]
              exact a1 k hk8
            · simp only [if_neg i5]
              rw [if_neg (by omega), q3]
              exact a3 i (by omega) k hk8
      · have c_54 : ¬ 109 ≤ k := fun z => c_54 ((nI_b (a := 109) (b := k) (by omega) (by omega)).1.mpr z)
        refine cq_aload_n F (i := 0) dX7_save_57 rfl rfl ?_
        refine cq_getT (t := (o + 2)) F (C := RX7) (T := TX7) (N := 22) (ci := 8) ho.kind rfl ⟨⟨by decide, by decide⟩, rfl⟩ inX7 1 (by decide) rfl rfl ho.t1 (F.1.2.2.2.2 _ (List.mem_of_getElem? (l := wsX7_save) (i := 2) (a := .fieldLink RX7 13 "CordClockModel" "saved" "[I") (by decide +kernel))) dX7_save_58 ?_
        refine cq_bipush F (v := 109) dX7_save_61 (by decide) ?_
        refine cq_aload_n F (i := 0) dX7_save_63 rfl rfl ?_
        refine cq_getI F (C := RX7) (T := TX7) (N := 22) (ci := 8) ho.kind rfl ⟨⟨by decide, by decide⟩, rfl⟩ inX7 2 (by decide) rfl rfl (F.1.2.2.2.2 _ (List.mem_of_getElem? (l := wsX7_save) (i := 1) (a := .fieldLink RX7 61 "CordClockModel" "savedMany" "I") (by decide +kernel))) dX7_save_64 ?_
        rw [show M3 o 2 = nI (n1) from (show M3 o 2 = nI (n1) from (by rw [h3, if_neg (by omega)]; exact hpb.2.2.1))]
        refine cq_imul F dX7_save_67 ?_
        rw [show (109 * nI n1 : Int32) = nI (109 * n1) from pk_mul _ _]
        refine cq_iload_n F (i := 1) dX7_save_68 rfl rfl ?_
        refine cq_iadd F dX7_save_69 ?_
        rw [show (nI (109 * n1) + nI k : Int32) = nI (109 * n1 + k) from nI_add _ _]
        refine cq_aload_n F (i := 0) dX7_save_70 rfl rfl ?_
        refine cq_getT (t := (o + 1)) F (C := RX7) (T := TX7) (N := 22) (ci := 8) ho.kind rfl ⟨⟨by decide, by decide⟩, rfl⟩ inX7 0 (by decide) rfl rfl ho.t0 (F.1.2.2.2.2 _ (List.mem_of_getElem? (l := wsX7_save) (i := 3) (a := .fieldLink RX7 7 "CordClockModel" "row" "[I") (by decide +kernel))) dX7_save_71 ?_
        refine cq_iload_n F (i := 1) dX7_save_74 rfl rfl ?_
        refine cq_iald_j F (j := k) ho.k1 ho.n1 rfl ⟨(by omega), by decide⟩ dX7_save_75 ?_
        refine cq_iast_j F (j := (109 * n1 + k)) ho.k2 ho.n2 rfl ⟨(by omega), by decide⟩ dX7_save_76 (fun M_76 h_76 => ?_)
        refine cq_iinc F dX7_save_77 rfl (by decide) (fun x_77 e_77 => ?_)
        obtain rfl : x_77 = nI (k + 1) := by rw [e_77]; exact nI_1 _
        refine cq_goto F (tgt := 51) dX7_save_80 (by decide) ?_
        refine cq_loc (L2 := [(0, .ref o), (1, .int (nI (k + 1)))]) rfl ?_
        exact ih_51 n1 Mb (k + 1) M_76 hpb hn1 (by omega) (fun x j => by
                have e1 : M3 (o + 1) k = Mb (o + 1) k := by rw [h3, if_neg (by omega)]
                rw [h_76, e1]
                by_cases x1 : x = o + 2
                · subst x1
                  by_cases j1 : j = 109 * n1 + k
                  · subst j1; rw [cq_up_s, if_pos (by omega)]; congr 1; omega
                  · rw [cq_up_k j1, h3]
                    by_cases j2 : 109 * n1 ≤ j ∧ j < 109 * n1 + k
                    · rw [if_pos ⟨rfl, j2⟩, if_pos (by omega)]
                    · rw [if_neg (by omega), if_neg (by omega)]
                · rw [cq_up_a x1, h3, if_neg (fun z => x1 z.1), if_neg (fun z => x1 z.1)]) (by omega)
  have loop_11 : ∀ (n_11 : Nat) (k : Nat) (M2 : cq_M), S_n S = 6 → k ≤ 545 → (∀ x j, M2 x j = if x = o + 2 ∧ j < k then M (o + 2) (j + 109) else M x j) → 545 - k < n_11 → cq_V p9 l e9 rmX7_save s9 m9 ([.ref o] : List Value).toArray b9 t9 c9 D cA X Bs 2 0 0 (MQ b9 (cq_Q D cA X Bs (cq_PV (fun M1 => cm M1 o (so_save S) ∧ cr_fr M M1 o 15 ∧ ∀ j, j ≠ 2 → M1 o j = M o j))) ([.ref o] : List Value).toArray s9 0 0 (cq_A Bs)) 11 [(0, .ref o), (1, .int (nI k))] [] M2 := by
    intro n_11
    induction n_11 with
    | zero =>
      intros
      omega
    | succ n_11 ih_11 =>
      intro k M2 n6 hk9 h2 hn
      refine cq_iload_n F (i := 1) dX7_save_11 rfl rfl ?_
      refine cq_sipush F (v := 545) dX7_save_12 (by decide) ?_
      refine cq_icmp_ge F (tgt := 39) dX7_save_15 (by decide) (fun c_15 => ?_) (fun c_15 => ?_)
      · have c_15 : 545 ≤ k := (nI_b (a := 545) (b := k) (by omega) (by omega)).1.mp c_15
        have n5 : S_n S - 1 = 5 := by omega
        refine cq_aload_n F (i := 0) dX7_save_39 rfl rfl ?_
        refine cq_dup F dX7_save_40 rfl ?_
        refine cq_getI F (C := RX7) (T := TX7) (N := 22) (ci := 8) ho.kind rfl ⟨⟨by decide, by decide⟩, rfl⟩ inX7 2 (by decide) rfl rfl (F.1.2.2.2.2 _ (List.mem_of_getElem? (l := wsX7_save) (i := 1) (a := .fieldLink RX7 61 "CordClockModel" "savedMany" "I") (by decide +kernel))) dX7_save_41 ?_
        rw [show M2 o 2 = nI (S_n S) from (show M2 o 2 = nI (S_n S) from (by rw [h2, if_neg (by omega)]; exact h.2.1))]
        refine cq_iconst F (v := 1) dX7_save_44 rfl ?_
        refine cq_isub F dX7_save_45 ?_
        rw [show (nI (S_n S) - 1 : Int32) = nI ((S_n S) - 1) from pk_sub (a := (S_n S)) (b := 1) (by omega)]
        refine cq_put F (C := RX7) (T := TX7) (N := 22) (ci := 8) ho.kind rfl ⟨⟨by decide, by decide⟩, rfl⟩ inX7 tyX7 tyX7_ok nmX7 2 (by decide) rfl rfl (F.1.2.2.2.2 _ (List.mem_of_getElem? (l := wsX7_save) (i := 1) (a := .fieldLink RX7 61 "CordClockModel" "savedMany" "I") (by decide +kernel))) rfl (by rfl) (by rfl) dX7_save_46 (fun M_46 h_46 => ?_)
        obtain rfl : k = 545 := by omega
        refine cq_iconst F (v := 0) dX7_save_49 rfl ?_
        refine cq_istore_n F (i := 1) dX7_save_50 rfl (by decide) ?_
        refine cq_loc (L2 := [(0, .ref o), (1, .int (nI 0))]) rfl ?_
        exact loop_51 110 5 M_46 0 M_46 ⟨fun x x1 x2 => by rw [h_46, cq_up_row x2]; funext j; rw [h2, if_neg (fun z => x1 z.1)], fun j hj => by rw [h_46, cq_up_k hj, h2, if_neg (by omega)], by rw [h_46, cq_up_s, n5], Or.inl ⟨by omega, rfl, fun j hj => by rw [h_46, cq_up_a (by omega), h2, if_pos ⟨rfl, hj⟩]⟩⟩ (by omega) (by omega) (fun x j => by rw [if_neg (by omega)]) (by omega)
      · have c_15 : ¬ 545 ≤ k := fun z => c_15 ((nI_b (a := 545) (b := k) (by omega) (by omega)).1.mpr z)
        refine cq_aload_n F (i := 0) dX7_save_18 rfl rfl ?_
        refine cq_getT (t := (o + 2)) F (C := RX7) (T := TX7) (N := 22) (ci := 8) ho.kind rfl ⟨⟨by decide, by decide⟩, rfl⟩ inX7 1 (by decide) rfl rfl ho.t1 (F.1.2.2.2.2 _ (List.mem_of_getElem? (l := wsX7_save) (i := 2) (a := .fieldLink RX7 13 "CordClockModel" "saved" "[I") (by decide +kernel))) dX7_save_19 ?_
        refine cq_iload_n F (i := 1) dX7_save_22 rfl rfl ?_
        refine cq_aload_n F (i := 0) dX7_save_23 rfl rfl ?_
        refine cq_getT (t := (o + 2)) F (C := RX7) (T := TX7) (N := 22) (ci := 8) ho.kind rfl ⟨⟨by decide, by decide⟩, rfl⟩ inX7 1 (by decide) rfl rfl ho.t1 (F.1.2.2.2.2 _ (List.mem_of_getElem? (l := wsX7_save) (i := 2) (a := .fieldLink RX7 13 "CordClockModel" "saved" "[I") (by decide +kernel))) dX7_save_24 ?_
        refine cq_iload_n F (i := 1) dX7_save_27 rfl rfl ?_
        refine cq_bipush F (v := 109) dX7_save_28 (by decide) ?_
        refine cq_iadd F dX7_save_30 ?_
        rw [show (nI k + 109 : Int32) = nI (k + 109) from nI_add _ _]
        refine cq_iald_j F (j := (k + 109)) ho.k2 ho.n2 rfl ⟨(by omega), by decide⟩ dX7_save_31 ?_
        refine cq_iast_j F (j := k) ho.k2 ho.n2 rfl ⟨(by omega), by decide⟩ dX7_save_32 (fun M_32 h_32 => ?_)
        refine cq_iinc F dX7_save_33 rfl (by decide) (fun x_33 e_33 => ?_)
        obtain rfl : x_33 = nI (k + 1) := by rw [e_33]; exact nI_1 _
        refine cq_goto F (tgt := 11) dX7_save_36 (by decide) ?_
        refine cq_loc (L2 := [(0, .ref o), (1, .int (nI (k + 1)))]) rfl ?_
        exact ih_11 (k + 1) M_32 n6 (by omega) (fun x j => by
                have e1 : M2 (o + 2) (k + 109) = M (o + 2) (k + 109) := by rw [h2, if_neg (by omega)]
                rw [h_32, e1]
                by_cases x1 : x = o + 2
                · subst x1
                  by_cases j1 : j = k
                  · subst j1; rw [cq_up_s, if_pos ⟨rfl, by omega⟩]
                  · rw [cq_up_k j1, h2]
                    by_cases j2 : j < k
                    · rw [if_pos ⟨rfl, j2⟩, if_pos (by omega)]
                    · rw [if_neg (by omega), if_neg (by omega)]
                · rw [cq_up_a x1, h2, if_neg (fun z => x1 z.1), if_neg (fun z => x1 z.1)]) (by omega)
  refine cq_aload_n F (i := 0) dX7_save_0 rfl rfl ?_
  refine cq_getI F (C := RX7) (T := TX7) (N := 22) (ci := 8) ho.kind rfl ⟨⟨by decide, by decide⟩, rfl⟩ inX7 2 (by decide) rfl rfl (F.1.2.2.2.2 _ (List.mem_of_getElem? (l := wsX7_save) (i := 1) (a := .fieldLink RX7 61 "CordClockModel" "savedMany" "I") (by decide +kernel))) dX7_save_1 ?_
  rw [show M o 2 = nI (S_n S) from (show M o 2 = nI (S_n S) from h.2.1)]
  refine cq_bipush F (v := 6) dX7_save_4 (by decide) ?_
  refine cq_icmp_ne F (tgt := 49) dX7_save_6 (by decide) (fun c_6 => ?_) (fun c_6 => ?_)
  · have c_6 : ¬ (S_n S) = 6 := fun z => c_6 ((nI_b (a := (S_n S)) (b := 6) (by omega) (by omega)).2.2.mpr z)
    refine cq_iconst F (v := 0) dX7_save_49 rfl ?_
    refine cq_istore_n F (i := 1) dX7_save_50 rfl (by decide) ?_
    refine cq_loc (L2 := [(0, .ref o), (1, .int (nI 0))]) rfl ?_
    exact loop_51 110 (S_n S) M 0 M ⟨fun _ _ _ => rfl, fun _ _ => rfl, h.2.1, Or.inr ⟨by omega, rfl, rfl⟩⟩ (by omega) (by omega) (fun x j => by rw [if_neg (by omega)]) (by omega)
  · have c_6 : (S_n S) = 6 := (nI_b (a := (S_n S)) (b := 6) (by omega) (by omega)).2.2.mp c_6
    refine cq_iconst F (v := 0) dX7_save_9 rfl ?_
    refine cq_istore_n F (i := 1) dX7_save_10 rfl (by decide) ?_
    refine cq_loc (L2 := [(0, .ref o), (1, .int (nI 0))]) rfl ?_
    exact loop_11 546 0 M (by omega) (by omega) (fun x j => by rw [if_neg (by omega)]) (by omega)
theorem hdVX7_save : yX7_save.cls = RX7 ∧ yX7_save.cls ≠ "java/lang/invoke/MethodHandle" ∧ yX7_save.cls ≠ "java/lang/invoke/VarHandle" ∧ (parseMethodDescriptor yX7_save.desc).map (fun d => d.parameters.length) = some 0 := by decide +kernel
