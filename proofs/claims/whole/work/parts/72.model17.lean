/-! CordClockModel: execute -/
set_option maxHeartbeats 4000000 in
set_option maxRecDepth 100000 in
theorem kX7_save2 (l : Launch) (D : va_G) (cA : Nat → ClassId) (X : cq_X) (Bs : Nat) (o B : Nat) (S : as_T) (M : cq_M) (ho : cq_isModel X o) (h : cm M o S) (hk : as_ok S B) : cq_C l yX7_save wsX7_save rmX7_save D cA X Bs [.ref o] M (cq_PV (fun M1 => (cm M1 o (so_save S) ∧ cr_fr M M1 o 15 ∧ ∀ j, j ≠ 2 → M1 o j = M o j) ∧ ∀ x, x ≠ o + 2 → x ≠ o → M1 x = M x)) 0 0 := by
  refine cq_met (cc := cX7_save) (maxL := 2) (ret := none) (by decide) rfl (Nat.le_of_ble_eq_true rfl) [(0, .ref o)] rfl rfl ?_
  intro p9 e9 s9 m9 b9 t9 c9 F hr
  have inX7 : ∀ w ∈ wsX70, w ∈ wsX7_save := (fun w h => List.mem_cons_of_mem _ (List.mem_append_right _ h))
  have hn6 := hk.2.2.2.2.1
  have loop_51 : ∀ (n_51 : Nat) (n1 : Nat) (Mb : cq_M) (k : Nat) (M3 : cq_M), ((∀ x, x ≠ o + 2 → x ≠ o → Mb x = M x) ∧ (∀ j, j ≠ 2 → Mb o j = M o j) ∧ Mb o 2 = nI n1 ∧ ((S_n S = 6 ∧ n1 = 5 ∧ ∀ j, j < 545 → Mb (o + 2) j = M (o + 2) (j + 109)) ∨ (S_n S < 6 ∧ n1 = S_n S ∧ Mb (o + 2) = M (o + 2)))) → n1 ≤ 5 → k ≤ 109 → (∀ x j, M3 x j = if x = o + 2 ∧ 109 * n1 ≤ j ∧ j < 109 * n1 + k then Mb (o + 1) (j - 109 * n1) else Mb x j) → 109 - k < n_51 → cq_V p9 l e9 rmX7_save s9 m9 ([.ref o] : List Value).toArray b9 t9 c9 D cA X Bs 2 0 0 (MQ b9 (cq_Q D cA X Bs (cq_PV (fun M1 => (cm M1 o (so_save S) ∧ cr_fr M M1 o 15 ∧ ∀ j, j ≠ 2 → M1 o j = M o j) ∧ ∀ x, x ≠ o + 2 → x ≠ o → M1 x = M x))) ([.ref o] : List Value).toArray s9 0 0 (cq_A Bs)) 51 [(0, .ref o), (1, .int (nI k))] [] M3 := by
    intro n_51
    induction n_51 with
    | zero =>
      intros
      omega
    | succ n_51 ih_51 =>
      intro n1 Mb k M3 hpb hn1 hk9 h3 hn
      refine cq_iload_n F (i := 1) dX7_save_51 rfl rfl ?_
      refine cq_bipush F (v := 109) dX7_save_52 (by decide) ?_
      refine cq_icmp_ge F (tgt := 83) dX7_save_54 (by decide) (fun c_54 => ?_) (fun c_54 => ?_)
      · have c_54 : 109 ≤ k := (nI_b (a := 109) (b := k) (by omega) (by omega)).1.mp c_54
        refine cq_aload_n F (i := 0) dX7_save_83 rfl rfl ?_
        refine cq_dup F dX7_save_84 rfl ?_
        refine cq_getI F (C := RX7) (T := TX7) (N := 22) (ci := 8) ho.kind rfl ⟨⟨by decide, by decide⟩, rfl⟩ inX7 2 (by decide) rfl rfl (F.1.2.2.2.2 _ (List.mem_of_getElem? (l := wsX7_save) (i := 1) (a := .fieldLink RX7 61 "CordClockModel" "savedMany" "I") (by decide +kernel))) dX7_save_85 ?_
        rw [show M3 o 2 = nI (n1) from (show M3 o 2 = nI (n1) from (by rw [h3, if_neg (by omega)]; exact hpb.2.2.1))]
        refine cq_iconst F (v := 1) dX7_save_88 rfl ?_
        refine cq_iadd F dX7_save_89 ?_
        rw [show (nI n1 + 1 : Int32) = nI (n1 + 1) from nI_add _ _]
        refine cq_put F (C := RX7) (T := TX7) (N := 22) (ci := 8) ho.kind rfl ⟨⟨by decide, by decide⟩, rfl⟩ inX7 tyX7 tyX7_ok nmX7 2 (by decide) rfl rfl (F.1.2.2.2.2 _ (List.mem_of_getElem? (l := wsX7_save) (i := 1) (a := .fieldLink RX7 61 "CordClockModel" "savedMany" "I") (by decide +kernel))) rfl (by rfl) (by rfl) dX7_save_90 (fun M_90 h_90 => ?_)
        refine cq_vret F hr (by decide) (by decide) dX7_save_93 ⟨rfl, ?_⟩
        obtain rfl : k = 109 := by omega
        obtain ⟨p1, p2, p3, p4⟩ := hpb
        obtain ⟨a1, a2, a3, a4, a5, a6⟩ := h
        have en : S.2.2.1 = S_n S := rfl
        have f1 : ∀ x, x ≠ o + 2 → x ≠ o → M_90 x = M x := fun x x1 x2 => by
          rw [h_90, cq_up_row x2]
          funext j
          rw [h3, if_neg (fun z => x1 z.1), p1 x x1 x2]
        have f2 : ∀ j, j ≠ 2 → M_90 o j = M o j := fun j hj => by rw [h_90, cq_up_k hj, h3, if_neg (by omega), p2 j hj]
        have f3 : ∀ j, M_90 (o + 2) j = if 109 * n1 ≤ j ∧ j < 109 * n1 + 109 then M (o + 1) (j - 109 * n1) else Mb (o + 2) j := fun j => by
          rw [h_90, cq_up_a (by omega), h3, p1 (o + 1) (by omega) (by omega)]
          by_cases j2 : 109 * n1 ≤ j ∧ j < 109 * n1 + 109
          · rw [if_pos ⟨rfl, j2⟩, if_pos j2]
          · rw [if_neg (fun z => j2 z.2), if_neg j2]
        refine ⟨?_, f1⟩
        refine ⟨⟨fun k hk8 => by rw [f1 _ (by omega) (by omega)]; exact a1 k hk8, ?_, fun i hi k hk8 => ?_, fun i hi => ⟨by rw [f1 _ (by omega) (by omega)]; exact (a4 i hi).1, fun z k hk8 => by rw [f1 _ (by omega) (by omega)]; exact (a4 i hi).2 z k hk8⟩, by rw [f2 8 (by omega)]; exact a5, fun j hj => by rw [f1 _ (by omega) (by omega)]; exact a6 j hj⟩, fun x hx => f1 x (by omega) (by omega), f2⟩
        · rw [h_90, cq_up_s]
          show nI (n1 + 1) = nI (so_sn (S_n S))
          unfold so_sn
          split <;> congr 1 <;> omega
        · have hi2 : i < so_sn (S_n S) := hi
          unfold so_sn at hi2
          show M_90 (o + 2) (109 * i + k) = nI (so_sv S.1 S.2.1 S.2.2.1 i k)
          unfold so_sv
          rw [f3]
          rcases p4 with ⟨q1, q2, q3⟩ | ⟨q1, q2, q3⟩
          · rw [if_pos q1] at hi2
            rw [if_pos (show S.2.2.1 = 6 from q1)]
            by_cases i5 : i = 5
            · subst i5
              rw [if_pos (by omega), show 109 * 5 + k - 109 * n1 = k by omega]
              simp only [if_true]
              exact a1 k hk8
            · simp only [if_neg i5]
              rw [if_neg (by omega), q3 _ (by omega), show 109 * i + k + 109 = 109 * (i + 1) + k by omega]
              exact a3 (i + 1) (by omega) k hk8
          · rw [if_neg (by omega)] at hi2
            rw [if_neg (show ¬ S.2.2.1 = 6 by omega)]
            by_cases i5 : i = S.2.2.1
            · rw [if_pos (by omega), show 109 * i + k - 109 * n1 = k by omega]
              simp only [if_pos i5]
              exact a1 k hk8
            · simp only [if_neg i5]
              rw [if_neg (by omega), q3]
              exact a3 i (by omega) k hk8
      · have c_54 : ¬ 109 ≤ k := fun z => c_54 ((nI_b (a := 109) (b := k) (by omega) (by omega)).1.mpr z)
        refine cq_aload_n F (i := 0) dX7_save_57 rfl rfl ?_
        refine cq_getT (t := (o + 2)) F (C := RX7) (T := TX7) (N := 22) (ci := 8) ho.kind rfl ⟨⟨by decide, by decide⟩, rfl⟩ inX7 1 (by decide) rfl rfl ho.t1 (F.1.2.2.2.2 _ (List.mem_of_getElem? (l := wsX7_save) (i := 2) (a := .fieldLink RX7 13 "CordClockModel" "saved" "[I") (by decide +kernel))) dX7_save_58 ?_
        refine cq_bipush F (v := 109) dX7_save_61 (by decide) ?_
        refine cq_aload_n F (i := 0) dX7_save_63 rfl rfl ?_
        refine cq_getI F (C := RX7) (T := TX7) (N := 22) (ci := 8) ho.kind rfl ⟨⟨by decide, by decide⟩, rfl⟩ inX7 2 (by decide) rfl rfl (F.1.2.2.2.2 _ (List.mem_of_getElem? (l := wsX7_save) (i := 1) (a := .fieldLink RX7 61 "CordClockModel" "savedMany" "I") (by decide +kernel))) dX7_save_64 ?_
        rw [show M3 o 2 = nI (n1) from (show M3 o 2 = nI (n1) from (by rw [h3, if_neg (by omega)]; exact hpb.2.2.1))]
        refine cq_imul F dX7_save_67 ?_
        rw [show (109 * nI n1 : Int32) = nI (109 * n1) from pk_mul _ _]
        refine cq_iload_n F (i := 1) dX7_save_68 rfl rfl ?_
        refine cq_iadd F dX7_save_69 ?_
        rw [show (nI (109 * n1) + nI k : Int32) = nI (109 * n1 + k) from nI_add _ _]
        refine cq_aload_n F (i := 0) dX7_save_70 rfl rfl ?_
        refine cq_getT (t := (o + 1)) F (C := RX7) (T := TX7) (N := 22) (ci := 8) ho.kind rfl ⟨⟨by decide, by decide⟩, rfl⟩ inX7 0 (by decide) rfl rfl ho.t0 (F.1.2.2.2.2 _ (List.mem_of_getElem? (l := wsX7_save) (i := 3) (a := .fieldLink RX7 7 "CordClockModel" "row" "[I") (by decide +kernel))) dX7_save_71 ?_
        refine cq_iload_n F (i := 1) dX7_save_74 rfl rfl ?_
        refine cq_iald_j F (j := k) ho.k1 ho.n1 rfl ⟨(by omega), by decide⟩ dX7_save_75 ?_
        refine cq_iast_j F (j := (109 * n1 + k)) ho.k2 ho.n2 rfl ⟨(by omega), by decide⟩ dX7_save_76 (fun M_76 h_76 => ?_)
        refine cq_iinc F dX7_save_77 rfl (by decide) (fun x_77 e_77 => ?_)
        obtain rfl : x_77 = nI (k + 1) := by rw [e_77]; exact nI_1 _
        refine cq_goto F (tgt := 51) dX7_save_80 (by decide) ?_
        refine cq_loc (L2 := [(0, .ref o), (1, .int (nI (k + 1)))]) rfl ?_
        exact ih_51 n1 Mb (k + 1) M_76 hpb hn1 (by omega) (fun x j => by
                have e1 : M3 (o + 1) k = Mb (o + 1) k := by rw [h3, if_neg (by omega)]
                rw [h_76, e1]
                by_cases x1 : x = o + 2
                · subst x1
                  by_cases j1 : j = 109 * n1 + k
                  · subst j1; rw [cq_up_s, if_pos (by omega)]; congr 1; omega
                  · rw [cq_up_k j1, h3]
                    by_cases j2 : 109 * n1 ≤ j ∧ j < 109 * n1 + k
                    · rw [if_pos ⟨rfl, j2⟩, if_pos (by omega)]
                    · rw [if_neg (by omega), if_neg (by omega)]
                · rw [cq_up_a x1, h3, if_neg (fun z => x1 z.1), if_neg (fun z => x1 z.1)]) (by omega)
  have loop_11 : ∀ (n_11 : Nat) (k : Nat) (M2 : cq_M), S_n S = 6 → k ≤ 545 → (∀ x j, M2 x j = if x = o + 2 ∧ j < k then M (o + 2) (j + 109) else M x j) → 545 - k < n_11 → cq_V p9 l e9 rmX7_save s9 m9 ([.ref o] : List Value).toArray b9 t9 c9 D cA X Bs 2 0 0 (MQ b9 (cq_Q D cA X Bs (cq_PV (fun M1 => (cm M1 o (so_save S) ∧ cr_fr M M1 o 15 ∧ ∀ j, j ≠ 2 → M1 o j = M o j) ∧ ∀ x, x ≠ o + 2 → x ≠ o → M1 x = M x))) ([.ref o] : List Value).toArray s9 0 0 (cq_A Bs)) 11 [(0, .ref o), (1, .int (nI k))] [] M2 := by
    intro n_11
    induction n_11 with
    | zero =>
      intros
      omega
    | succ n_11 ih_11 =>
      intro k M2 n6 hk9 h2 hn
      refine cq_iload_n F (i := 1) dX7_save_11 rfl rfl ?_
      refine cq_sipush F (v := 545) dX7_save_12 (by decide) ?_
      refine cq_icmp_ge F (tgt := 39) dX7_save_15 (by decide) (fun c_15 => ?_) (fun c_15 => ?_)
      · have c_15 : 545 ≤ k := (nI_b (a := 545) (b := k) (by omega) (by omega)).1.mp c_15
        have n5 : S_n S - 1 = 5 := by omega
        refine cq_aload_n F (i := 0) dX7_save_39 rfl rfl ?_
        refine cq_dup F dX7_save_40 rfl ?_
        refine cq_getI F (C := RX7) (T := TX7) (N := 22) (ci := 8) ho.kind rfl ⟨⟨by decide, by decide⟩, rfl⟩ inX7 2 (by decide) rfl rfl (F.1.2.2.2.2 _ (List.mem_of_getElem? (l := wsX7_save) (i := 1) (a := .fieldLink RX7 61 "CordClockModel" "savedMany" "I") (by decide +kernel))) dX7_save_41 ?_
        rw [show M2 o 2 = nI (S_n S) from (show M2 o 2 = nI (S_n S) from (by rw [h2, if_neg (by omega)]; exact h.2.1))]
        refine cq_iconst F (v := 1) dX7_save_44 rfl ?_
        refine cq_isub F dX7_save_45 ?_
        rw [show (nI (S_n S) - 1 : Int32) = nI ((S_n S) - 1) from pk_sub (a := (S_n S)) (b := 1) (by omega)]
        refine cq_put F (C := RX7) (T := TX7) (N := 22) (ci := 8) ho.kind rfl ⟨⟨by decide, by decide⟩, rfl⟩ inX7 tyX7 tyX7_ok nmX7 2 (by decide) rfl rfl (F.1.2.2.2.2 _ (List.mem_of_getElem? (l := wsX7_save) (i := 1) (a := .fieldLink RX7 61 "CordClockModel" "savedMany" "I") (by decide +kernel))) rfl (by rfl) (by rfl) dX7_save_46 (fun M_46 h_46 => ?_)
        obtain rfl : k = 545 := by omega
        refine cq_iconst F (v := 0) dX7_save_49 rfl ?_
        refine cq_istore_n F (i := 1) dX7_save_50 rfl (by decide) ?_
        refine cq_loc (L2 := [(0, .ref o), (1, .int (nI 0))]) rfl ?_
        exact loop_51 110 5 M_46 0 M_46 ⟨fun x x1 x2 => by rw [h_46, cq_up_row x2]; funext j; rw [h2, if_neg (fun z => x1 z.1)], fun j hj => by rw [h_46, cq_up_k hj, h2, if_neg (by omega)], by rw [h_46, cq_up_s, n5], Or.inl ⟨by omega, rfl, fun j hj => by rw [h_46, cq_up_a (by omega), h2, if_pos ⟨rfl, hj⟩]⟩⟩ (by omega) (by omega) (fun x j => by rw [if_neg (by omega)]) (by omega)
      · have c_15 : ¬ 545 ≤ k := fun z => c_15 ((nI_b (a := 545) (b := k) (by omega) (by omega)).1.mpr z)
        refine cq_aload_n F (i := 0) dX7_save_18 rfl rfl ?_
        refine cq_getT (t := (o + 2)) F (C := RX7) (T := TX7) (N := 22) (ci := 8) ho.kind rfl ⟨⟨by decide, by decide⟩, rfl⟩ inX7 1 (by decide) rfl rfl ho.t1 (F.1.2.2.2.2 _ (List.mem_of_getElem? (l := wsX7_save) (i := 2) (a := .fieldLink RX7 13 "CordClockModel" "saved" "[I") (by decide +kernel))) dX7_save_19 ?_
        refine cq_iload_n F (i := 1) dX7_save_22 rfl rfl ?_
        refine cq_aload_n F (i := 0) dX7_save_23 rfl rfl ?_
        refine cq_getT (t := (o + 2)) F (C := RX7) (T := TX7) (N := 22) (ci := 8) ho.kind rfl ⟨⟨by decide, by decide⟩, rfl⟩ inX7 1 (by decide) rfl rfl ho.t1 (F.1.2.2.2.2 _ (List.mem_of_getElem? (l := wsX7_save) (i := 2) (a := .fieldLink RX7 13 "CordClockModel" "saved" "[I") (by decide +kernel))) dX7_save_24 ?_
        refine cq_iload_n F (i := 1) dX7_save_27 rfl rfl ?_
        refine cq_bipush F (v := 109) dX7_save_28 (by decide) ?_
        refine cq_iadd F dX7_save_30 ?_
        rw [show (nI k + 109 : Int32) = nI (k + 109) from nI_add _ _]
        refine cq_iald_j F (j := (k + 109)) ho.k2 ho.n2 rfl ⟨(by omega), by decide⟩ dX7_save_31 ?_
        refine cq_iast_j F (j := k) ho.k2 ho.n2 rfl ⟨(by omega), by decide⟩ dX7_save_32 (fun M_32 h_32 => ?_)
        refine cq_iinc F dX7_save_33 rfl (by decide) (fun x_33 e_33 => ?_)
        obtain rfl : x_33 = nI (k + 1) := by rw [e_33]; exact nI_1 _
        refine cq_goto F (tgt := 11) dX7_save_36 (by decide) ?_
        refine cq_loc (L2 := [(0, .ref o), (1, .int (nI (k + 1)))]) rfl ?_
        exact ih_11 (k + 1) M_32 n6 (by omega) (fun x j => by
                have e1 : M2 (o + 2) (k + 109) = M (o + 2) (k + 109) := by rw [h2, if_neg (by omega)]
                rw [h_32, e1]
                by_cases x1 : x = o + 2
                · subst x1
                  by_cases j1 : j = k
                  · subst j1; rw [cq_up_s, if_pos ⟨rfl, by omega⟩]
                  · rw [cq_up_k j1, h2]
                    by_cases j2 : j < k
                    · rw [if_pos ⟨rfl, j2⟩, if_pos (by omega)]
                    · rw [if_neg (by omega), if_neg (by omega)]
                · rw [cq_up_a x1, h2, if_neg (fun z => x1 z.1), if_neg (fun z => x1 z.1)]) (by omega)
  refine cq_aload_n F (i := 0) dX7_save_0 rfl rfl ?_
  refine cq_getI F (C := RX7) (T := TX7) (N := 22) (ci := 8) ho.kind rfl ⟨⟨by decide, by decide⟩, rfl⟩ inX7 2 (by decide) rfl rfl (F.1.2.2.2.2 _ (List.mem_of_getElem? (l := wsX7_save) (i := 1) (a := .fieldLink RX7 61 "CordClockModel" "savedMany" "I") (by decide +kernel))) dX7_save_1 ?_
  rw [show M o 2 = nI (S_n S) from (show M o 2 = nI (S_n S) from h.2.1)]
  refine cq_bipush F (v := 6) dX7_save_4 (by decide) ?_
  refine cq_icmp_ne F (tgt := 49) dX7_save_6 (by decide) (fun c_6 => ?_) (fun c_6 => ?_)
  · have c_6 : ¬ (S_n S) = 6 := fun z => c_6 ((nI_b (a := (S_n S)) (b := 6) (by omega) (by omega)).2.2.mpr z)
    refine cq_iconst F (v := 0) dX7_save_49 rfl ?_
    refine cq_istore_n F (i := 1) dX7_save_50 rfl (by decide) ?_
    refine cq_loc (L2 := [(0, .ref o), (1, .int (nI 0))]) rfl ?_
    exact loop_51 110 (S_n S) M 0 M ⟨fun _ _ _ => rfl, fun _ _ => rfl, h.2.1, Or.inr ⟨by omega, rfl, rfl⟩⟩ (by omega) (by omega) (fun x j => by rw [if_neg (by omega)]) (by omega)
  · have c_6 : (S_n S) = 6 := (nI_b (a := (S_n S)) (b := 6) (by omega) (by omega)).2.2.mp c_6
    refine cq_iconst F (v := 0) dX7_save_9 rfl ?_
    refine cq_istore_n F (i := 1) dX7_save_10 rfl (by decide) ?_
    refine cq_loc (L2 := [(0, .ref o), (1, .int (nI 0))]) rfl ?_
    exact loop_11 546 0 M (by omega) (by omega) (fun x j => by rw [if_neg (by omega)]) (by omega)
theorem tx_all_len {s : Nat → Nat} : ∀ {f p : Nat}, (tx_all s f p).1 = true → p + 6 * (tx_all s f p).2.2.length ≤ (tx_all s f p).2.1 + 1
  | 0, p, h => absurd (show false = true from h) (by decide)
  | f + 1, p, h => by
    by_cases h1 : (tx_ord s p).1 = true
    · have h5 := (tx_ord_ok h1).1
      by_cases h2 : s (tx_ord s p).2.1 = 59
      · rw [tx_all_2 h1 h2] at h ⊢
        have h3 := tx_all_len (f := f) (p := (tx_ord s p).2.1 + 1) h
        rw [List.length_cons]
        show p + 6 * ((tx_all s f ((tx_ord s p).2.1 + 1)).2.2.length + 1) ≤ (tx_all s f ((tx_ord s p).2.1 + 1)).2.1 + 1
        omega
      · rw [tx_all_1 h1 h2]
        show p + 6 * 1 ≤ (tx_ord s p).2.1 + 1
        omega
    · rw [tx_all_0 h1] at h
      exact absurd (show false = true from h) (by decide)
theorem ex_drop {l : List tx_O} {d : Nat} (h : d < l.length) : l.drop d = l.getD d tx_no :: l.drop (d + 1) := by
  rw [List.drop_eq_getElem_cons h, List.getD_eq_getElem?_getD, List.getElem?_eq_getElem h]
  rfl
/-- d orders are carried out -/
def ex_at (g g2 : Nat → Nat) (l : List tx_O) (d : Nat) : Prop := d ≤ l.length ∧ (ex_all g l).1 = (ex_all g2 (l.drop d)).1 ∧ (ex_all g l).2 = (ex_all g2 (l.drop d)).2 + d
theorem ex_at.first {g : Nat → Nat} {l : List tx_O} : ex_at g g l 0 := ⟨Nat.zero_le _, rfl, rfl⟩
theorem ex_at.next {g g2 : Nat → Nat} {l : List tx_O} {d : Nat} (h : ex_at g g2 l d) (hd : d < l.length) (hc : ex_can g2 (l.getD d tx_no)) : ex_at g (ex_do g2 (l.getD d tx_no)) l (d + 1) := by
  obtain ⟨h1, h2, h3⟩ := h
  rw [ex_drop hd, ex_all, if_pos hc] at h2 h3
  exact ⟨hd, h2, by rw [h3]; omega⟩
theorem ex_at.stop {g g2 : Nat → Nat} {l : List tx_O} {d : Nat} (h : ex_at g g2 l d) (hd : d < l.length → ¬ ex_can g2 (l.getD d tx_no)) : (ex_all g l).1 = g2 ∧ (ex_all g l).2 = d := by
  obtain ⟨h1, h2, h3⟩ := h
  by_cases e : d < l.length
  · rw [ex_drop e, ex_all, if_neg (hd e)] at h2 h3
    exact ⟨h2, by rw [h3]; show 0 + d = d; omega⟩
  · rw [List.drop_of_length_le (by omega)] at h2 h3
    exact ⟨h2, by rw [h3]; show 0 + d = d; omega⟩
abbrev rmX7_execute : Room := ({ frames := 8, cells := 0, slots := 0, locals := 182 })
set_option maxHeartbeats 4000000 in
set_option maxRecDepth 100000 in
theorem kX7_execute (l : Launch) (D : va_G) (cA : Nat → ClassId) (X : cq_X) (Bs : Nat) (o B : Nat) (S : as_T) (M : cq_M) (ho : cq_isModel X o) (h : cm M o S) (hk : as_ok S B) (hB : B < 1999980000) : cq_C l yX7_execute wsX7_execute rmX7_execute D cA X Bs [.ref o] M (cq_PI (fun r M1 => mq (op_exec S) r M M1 o)) 0 0 := by
  refine cq_met (cc := cX7_execute) (maxL := 2) (ret := (some .int)) (by decide) rfl (Nat.le_of_ble_eq_true rfl) [(0, .ref o)] rfl rfl ?_
  intro p9 e9 s9 m9 b9 t9 c9 F hr
  have inX7 : ∀ w ∈ wsX70, w ∈ wsX7_execute := (fun w h => List.mem_cons_of_mem _ (List.mem_append_right _ h))
  have ht9 : tm_M M o (S_t S) (S_l S) := ⟨h.2.2.2.2.1, h.2.2.2.2.2, hk.2.2.2.1⟩
  have loop_24 : ∀ (n_24 : Nat) (d : Nat) (Ms M2 : cq_M) (g2 : Nat → Nat), (tx_all (tx_s (S_t S) (S_l S)) 16 0).1 = true ∧ (tx_all (tx_s (S_t S) (S_l S)) 16 0).2.1 = S_l S → cm Ms o (so_save S) → cr_fr M Ms o 15 → Ms o 6 = 0 → Ms o 11 = nI (tx_all (tx_s (S_t S) (S_l S)) 16 0).2.2.length → tm_es Ms o (tx_all (tx_s (S_t S) (S_l S)) 16 0).2.2 → cq_only Ms M2 (o + 1) → cq_nv M2 (o + 1) 109 g2 → ns_ok g2 (B + 200 * d) → ex_at (S_g S) g2 (tx_all (tx_s (S_t S) (S_l S)) 16 0).2.2 d → (tx_all (tx_s (S_t S) (S_l S)) 16 0).2.2.length + 1 - d < n_24 → cq_V p9 l e9 rmX7_execute s9 m9 ([.ref o] : List Value).toArray b9 t9 c9 D cA X Bs 2 0 0 (MQ b9 (cq_Q D cA X Bs (cq_PI (fun r M1 => mq (op_exec S) r M M1 o))) ([.ref o] : List Value).toArray s9 0 0 (cq_A Bs)) 24 [(0, .ref o), (1, .int (nI d))] [] M2 := by
    intro n_24
    induction n_24 with
    | zero =>
      intros
      omega
    | succ n_24 ih_24 =>
      intro d Ms M2 g2 hdone hs19 hfs z6 h11 hes hon hg2 hok2 hat hn
      have hd9 := hat.1
      have hl10 : (tx_all (tx_s (S_t S) (S_l S)) 16 0).2.2.length ≤ 10 := by have := tx_all_len hdone.1; have := hdone.2; have := hk.2.2.2.2.2.1; omega
      refine cq_iload_n F (i := 1) dX7_execute_24 rfl rfl ?_
      refine cq_aload_n F (i := 0) dX7_execute_25 rfl rfl ?_
      refine cq_getI F (C := RX7) (T := TX7) (N := 22) (ci := 8) ho.kind rfl ⟨⟨by decide, by decide⟩, rfl⟩ inX7 11 (by decide) rfl rfl (F.1.2.2.2.2 _ (List.mem_of_getElem? (l := wsX7_execute) (i := 2) (a := .fieldLink RX7 151 "CordClockModel" "orders" "I") (by decide +kernel))) dX7_execute_26 ?_
      rw [show M2 o 11 = nI ((tx_all (tx_s (S_t S) (S_l S)) 16 0).2.2.length) from (show M2 o 11 = nI ((tx_all (tx_s (S_t S) (S_l S)) 16 0).2.2.length) from (by rw [hon o (by omega)]; exact h11))]
      refine cq_icmp_ge F (tgt := 51) dX7_execute_29 (by decide) (fun c_29 => ?_) (fun c_29 => ?_)
      · have c_29 : ((tx_all (tx_s (S_t S) (S_l S)) 16 0).2.2.length) ≤ d := (nI_b (a := ((tx_all (tx_s (S_t S) (S_l S)) 16 0).2.2.length)) (b := d) (by omega) (by omega)).1.mp c_29
        refine cq_aload_n F (i := 0) dX7_execute_51 rfl rfl ?_
        refine cq_iconst F (v := 0) dX7_execute_52 rfl ?_
        refine cq_put F (C := RX7) (T := TX7) (N := 22) (ci := 8) ho.kind rfl ⟨⟨by decide, by decide⟩, rfl⟩ inX7 tyX7 tyX7_ok nmX7 8 (by decide) rfl rfl (F.1.2.2.2.2 _ (List.mem_of_getElem? (l := wsX7_execute) (i := 3) (a := .fieldLink RX7 139 "CordClockModel" "length" "I") (by decide +kernel))) rfl (by rfl) (by rfl) dX7_execute_53 (fun M_53 h_53 => ?_)
        have v_53_o1 := hg2.ne h_53 (by omega)
        refine cq_iload_n F (i := 1) dX7_execute_56 rfl rfl ?_
        refine cq_iret F hr (by decide) (by decide) dX7_execute_57 ⟨_, rfl, ?_⟩
        have hst := hat.stop (fun hd => by first | exact absurd hd (by omega) | exact c_37)
        rw [show op_exec S = (0, nI (ex_all (S_g S) (tx_all (tx_s (S_t S) (S_l S)) 16 0).2.2).2, so_text (so_g (so_save S) (ex_all (S_g S) (tx_all (tx_s (S_t S) (S_l S)) 16 0).2.2).1) (S_t S) 0) from if_pos hdone, hst.1, hst.2]
        have hr : cm M2 o (so_g (so_save S) g2) := hs19.row hg2 hon
        obtain ⟨b1, b2, b3, b4, b5, b6⟩ := hr
        refine ⟨by rw [h_53, cq_up_k (by omega), hon o (by omega)]; exact z6, fun _ => rfl, ⟨fun j hj => by rw [h_53, cq_up_a (by omega)]; exact b1 j hj, by rw [h_53, cq_up_k (by omega)]; exact b2, fun i hi j hj => by rw [h_53, cq_up_a (by omega)]; exact b3 i hi j hj, fun i hi => ⟨by rw [h_53, cq_up_a (by omega)]; exact (b4 i hi).1, fun z j hj => by rw [h_53, cq_up_a (by omega)]; exact (b4 i hi).2 z j hj⟩, by rw [h_53]; exact cq_up_s _ _ _ _, fun j hj => absurd hj (by show ¬ j < 0; omega)⟩, fun x hx => by rw [h_53, cq_up_row (by omega), hon x (by omega), hfs x hx]⟩
      · have c_29 : ¬ ((tx_all (tx_s (S_t S) (S_l S)) 16 0).2.2.length) ≤ d := fun z => c_29 ((nI_b (a := ((tx_all (tx_s (S_t S) (S_l S)) 16 0).2.2.length)) (b := d) (by omega) (by omega)).1.mpr z)
        have hej : tm_ent M2 o d ((tx_all (tx_s (S_t S) (S_l S)) 16 0).2.2.getD d tx_no) ∧ tx_okO ((tx_all (tx_s (S_t S) (S_l S)) 16 0).2.2.getD d tx_no) := by
          obtain ⟨⟨⟨e1, e2, e3, e4⟩, e5⟩, e6⟩ := hes d (by omega)
          exact ⟨⟨⟨by rw [hon _ (by omega)]; exact e1, fun y => by rw [hon _ (by omega)]; exact e2 y, fun y => by rw [hon _ (by omega)]; exact e3 y, fun y => ⟨(e4 y).1, fun i hi => by rw [hon _ (by omega)]; exact (e4 y).2 i hi⟩⟩, by rw [hon _ (by omega)]; exact e5⟩, e6⟩
        refine cq_aload_n F (i := 0) dX7_execute_32 rfl rfl ?_
        refine cq_iload_n F (i := 1) dX7_execute_33 rfl rfl ?_
        refine cq_callV F (C := RX7) (ci := 8) (kX7_canDo l D cA X Bs o d (B + 200 * d) ((tx_all (tx_s (S_t S) (S_l S)) 16 0).2.2.getD d tx_no) g2 M2 ho hg2 hej.1 hej.2 (by omega) hok2) (cwV 1 F.1.2.2.2.2 gX7_execute_X7_canDo rfl rfl rfl hdVX7_canDo ⟨Nat.le_of_ble_eq_true rfl, Nat.le_of_ble_eq_true rfl⟩) ho.kind ⟨by decide, by decide⟩ rfl rfl rfl (Nat.le_of_ble_eq_true rfl) dX7_execute_34 ⟨Nat.le_of_ble_eq_true rfl, Nat.le_of_ble_eq_true rfl⟩ (cq_kIp fun r_34 h_34 => ?_)
        refine cq_if_eq F (tgt := 51) dX7_execute_37 (by decide) (fun c_37 => ?_) (fun c_37 => ?_)
        · have c_37 := cq_b0 h_34 c_37
          refine cq_aload_n F (i := 0) dX7_execute_51 rfl rfl ?_
          refine cq_iconst F (v := 0) dX7_execute_52 rfl ?_
          refine cq_put F (C := RX7) (T := TX7) (N := 22) (ci := 8) ho.kind rfl ⟨⟨by decide, by decide⟩, rfl⟩ inX7 tyX7 tyX7_ok nmX7 8 (by decide) rfl rfl (F.1.2.2.2.2 _ (List.mem_of_getElem? (l := wsX7_execute) (i := 3) (a := .fieldLink RX7 139 "CordClockModel" "length" "I") (by decide +kernel))) rfl (by rfl) (by rfl) dX7_execute_53 (fun M_53 h_53 => ?_)
          have v_53_o1 := hg2.ne h_53 (by omega)
          refine cq_iload_n F (i := 1) dX7_execute_56 rfl rfl ?_
          refine cq_iret F hr (by decide) (by decide) dX7_execute_57 ⟨_, rfl, ?_⟩
          have hst := hat.stop (fun hd => by first | exact absurd hd (by omega) | exact c_37)
          rw [show op_exec S = (0, nI (ex_all (S_g S) (tx_all (tx_s (S_t S) (S_l S)) 16 0).2.2).2, so_text (so_g (so_save S) (ex_all (S_g S) (tx_all (tx_s (S_t S) (S_l S)) 16 0).2.2).1) (S_t S) 0) from if_pos hdone, hst.1, hst.2]
          have hr : cm M2 o (so_g (so_save S) g2) := hs19.row hg2 hon
          obtain ⟨b1, b2, b3, b4, b5, b6⟩ := hr
          refine ⟨by rw [h_53, cq_up_k (by omega), hon o (by omega)]; exact z6, fun _ => rfl, ⟨fun j hj => by rw [h_53, cq_up_a (by omega)]; exact b1 j hj, by rw [h_53, cq_up_k (by omega)]; exact b2, fun i hi j hj => by rw [h_53, cq_up_a (by omega)]; exact b3 i hi j hj, fun i hi => ⟨by rw [h_53, cq_up_a (by omega)]; exact (b4 i hi).1, fun z j hj => by rw [h_53, cq_up_a (by omega)]; exact (b4 i hi).2 z j hj⟩, by rw [h_53]; exact cq_up_s _ _ _ _, fun j hj => absurd hj (by show ¬ j < 0; omega)⟩, fun x hx => by rw [h_53, cq_up_row (by omega), hon x (by omega), hfs x hx]⟩
        · have c_37 := cq_b1 h_34 c_37
          refine cq_aload_n F (i := 0) dX7_execute_40 rfl rfl ?_
          refine cq_iload_n F (i := 1) dX7_execute_41 rfl rfl ?_
          refine cq_callV F (C := RX7) (ci := 8) (kX7_doOrder l D cA X Bs o d (B + 200 * d) ((tx_all (tx_s (S_t S) (S_l S)) 16 0).2.2.getD d tx_no) g2 M2 ho hg2 hej.1 hej.2 (by omega) hok2 c_37 (by omega)) (cwV 1 F.1.2.2.2.2 gX7_execute_X7_doOrder rfl rfl rfl hdVX7_doOrder ⟨Nat.le_of_ble_eq_true rfl, Nat.le_of_ble_eq_true rfl⟩) ho.kind ⟨by decide, by decide⟩ rfl rfl rfl (Nat.le_of_ble_eq_true rfl) dX7_execute_42 ⟨Nat.le_of_ble_eq_true rfl, Nat.le_of_ble_eq_true rfl⟩ (cq_kV fun M_42 h_42 => ?_)
          refine cq_iinc F dX7_execute_45 rfl (by decide) (fun x_45 e_45 => ?_)
          obtain rfl : x_45 = nI (d + 1) := by rw [e_45]; exact nI_1 _
          refine cq_goto F (tgt := 24) dX7_execute_48 (by decide) ?_
          refine cq_loc (L2 := [(0, .ref o), (1, .int (nI (d + 1)))]) rfl ?_
          exact ih_24 (d + 1) Ms M_42 (ex_do g2 ((tx_all (tx_s (S_t S) (S_l S)) 16 0).2.2.getD d tx_no)) hdone hs19 hfs z6 h11 hes (hon.trans h_42.2) h_42.1 ((ex_do_ok hok2 hej.2 c_37).mono (by omega)) (hat.next (by omega) c_37) (by omega)
  refine cq_aload_n F (i := 0) dX7_execute_0 rfl rfl ?_
  refine cq_iconst F (v := 0) dX7_execute_1 rfl ?_
  refine cq_put F (C := RX7) (T := TX7) (N := 22) (ci := 8) ho.kind rfl ⟨⟨by decide, by decide⟩, rfl⟩ inX7 tyX7 tyX7_ok nmX7 6 (by decide) rfl rfl (F.1.2.2.2.2 _ (List.mem_of_getElem? (l := wsX7_execute) (i := 1) (a := .fieldLink RX7 53 "CordClockModel" "thrown" "I") (by decide +kernel))) rfl (by rfl) (by rfl) dX7_execute_2 (fun M_2 h_2 => ?_)
  have v_2_o1 := h.1.ne h_2 (by omega)
  refine cq_aload_n F (i := 0) dX7_execute_5 rfl rfl ?_
  refine cq_callV F (C := RX7) (ci := 8) (kX7_isComplete l D cA X Bs o (S_l S) (S_t S) M_2 ho (ht9.ext (by rw [h_2, cq_up_k (by omega)]) (fun j => by rw [h_2, cq_up_a (by omega)])) hk.2.2.2.2.2.1) (cwV 0 F.1.2.2.2.2 gX7_execute_X7_isComplete rfl rfl rfl hdVX7_isComplete ⟨Nat.le_of_ble_eq_true rfl, Nat.le_of_ble_eq_true rfl⟩) ho.kind ⟨by decide, by decide⟩ rfl rfl rfl (Nat.le_of_ble_eq_true rfl) dX7_execute_6 ⟨Nat.le_of_ble_eq_true rfl, Nat.le_of_ble_eq_true rfl⟩ (cq_kI fun r_6 M_6 h_6 => ?_)
  have q2 : cm M_6 o S := h.ext (fun x k1 k2 k3 => by rw [h_6.2.2.2.1 x (by omega) (by omega), h_2, cq_up_row (by omega)]) (by rw [h_6.2.2.2.2.1 2 (by omega) (by omega) (by omega), h_2, cq_up_k (by omega)]) (by rw [h_6.2.2.2.2.1 8 (by omega) (by omega) (by omega), h_2, cq_up_k (by omega)])
  have f2 : cr_fr M M_6 o 15 := fun x hx => by rw [h_6.2.2.2.1 x (by omega) (by omega), h_2, cq_up_row (by omega)]
  have z6 : M_6 o 6 = 0 := by rw [h_6.2.2.2.2.1 6 (by omega) (by omega) (by omega), h_2]; exact cq_up_s _ _ _ _
  refine cq_if_ne F (tgt := 18) dX7_execute_9 (by decide) (fun c_9 => ?_) (fun c_9 => ?_)
  · have c_9 := cq_b1 h_6.1 c_9
    refine cq_aload_n F (i := 0) dX7_execute_18 rfl rfl ?_
    refine cq_callV F (C := RX7) (ci := 8) (kX7_save2 l D cA X Bs o B S M_6 ho q2 hk) (cwV 0 F.1.2.2.2.2 gX7_execute_X7_save rfl rfl rfl hdVX7_save ⟨Nat.le_of_ble_eq_true rfl, Nat.le_of_ble_eq_true rfl⟩) ho.kind ⟨by decide, by decide⟩ rfl rfl rfl (Nat.le_of_ble_eq_true rfl) dX7_execute_19 ⟨Nat.le_of_ble_eq_true rfl, Nat.le_of_ble_eq_true rfl⟩ (cq_kV fun M_19 h_19 => ?_)
    have hA := h_6.2.2.1 c_9.1
    have hes : tm_es M_19 o (tx_all (tx_s (S_t S) (S_l S)) 16 0).2.2 := fun j hj => by
      obtain ⟨⟨⟨e1, e2, e3, e4⟩, e5⟩, e6⟩ := hA.2 j hj
      exact ⟨⟨⟨by rw [h_19.2 _ (by omega) (by omega)]; exact e1, fun y => by rw [h_19.2 _ (by omega) (by omega)]; exact e2 y, fun y => by rw [h_19.2 _ (by omega) (by omega)]; exact e3 y, fun y => ⟨(e4 y).1, fun i hi => by rw [h_19.2 _ (by omega) (by omega)]; exact (e4 y).2 i hi⟩⟩, by rw [h_19.2 _ (by omega) (by omega)]; exact e5⟩, e6⟩
    refine cq_iconst F (v := 0) dX7_execute_22 rfl ?_
    refine cq_istore_n F (i := 1) dX7_execute_23 rfl (by decide) ?_
    refine cq_loc (L2 := [(0, .ref o), (1, .int (nI 0))]) rfl ?_
    exact loop_24 ((tx_all (tx_s (S_t S) (S_l S)) 16 0).2.2.length + 2) 0 M_19 M_19 (S_g S) c_9 h_19.1.1 (f2.trans h_19.1.2.1) (by rw [h_19.1.2.2 6 (by omega)]; exact z6) (by rw [h_19.1.2.2 11 (by omega)]; exact hA.1) hes cq_only.rf h_19.1.1.1 hk.1 ex_at.first (by omega)
  · have c_9 := cq_b0 h_6.1 c_9
    refine cq_aload_n F (i := 0) dX7_execute_12 rfl rfl ?_
    refine cq_iconst F (v := 1) dX7_execute_13 rfl ?_
    refine cq_callV F (C := RX7) (ci := 8) (kX7_fails l D cA X Bs o 1 M_6 ho) (cwV 1 F.1.2.2.2.2 gX7_execute_X7_fails rfl rfl rfl hdVX7_fails ⟨Nat.le_of_ble_eq_true rfl, Nat.le_of_ble_eq_true rfl⟩) ho.kind ⟨by decide, by decide⟩ rfl rfl rfl (Nat.le_of_ble_eq_true rfl) dX7_execute_14 ⟨Nat.le_of_ble_eq_true rfl, Nat.le_of_ble_eq_true rfl⟩ (cq_kI fun r_14 M_14 h_14 => ?_)
    obtain ⟨hr_14, h_14⟩ := h_14
    subst hr_14
    refine cq_iret F hr (by decide) (by decide) dX7_execute_17 ⟨_, rfl, ?_⟩
    rw [show op_exec S = (1, 0, S) from if_neg c_9]
    exact ⟨by rw [h_14]; exact cq_up_s _ _ _ _, fun z => absurd (show (1 : Nat) = 0 from z) (by decide), q2.o h_14 (by omega) (by omega), f2.up h_14 (by omega) (by omega)⟩
theorem hdVX7_execute : yX7_execute.cls = RX7 ∧ yX7_execute.cls ≠ "java/lang/invoke/MethodHandle" ∧ yX7_execute.cls ≠ "java/lang/invoke/VarHandle" ∧ (parseMethodDescriptor yX7_execute.desc).map (fun d => d.parameters.length) = some 0 := by decide +kernel
