/-! CordClockModel: all plans, from signal to signal -/
theorem pl_go_7 {g x : Nat → Nat} {a b c : Nat} (hok : pl_ok g 720) (hv : pl_v g a b c) (hx : x ∈ pl_go g a b c) : x 7 ≤ 1080 := by
  unfold pl_go at hx
  by_cases e : pl_st g a b c 3 = 0
  · rw [if_pos e] at hx
    exact absurd hx List.not_mem_nil
  · rw [if_neg e] at hx
    rw [List.mem_singleton.mp hx]
    exact (pl_nx_ok hok hv e).2.2.1
abbrev rmX7_choose : Room := ({ frames := 1, cells := 0, slots := 0, locals := 30 })
set_option maxHeartbeats 4000000 in
set_option maxRecDepth 100000 in
theorem kX7_choose (l : Launch) (D : va_G) (cA : Nat → ClassId) (X : cq_X) (Bs : Nat) (o p : Nat) (g Y : Nat → Nat) (acc : List (Nat → Nat)) (M : cq_M) (ho : cq_isModel X o) (hp : p + 8 ≤ 5760) (hfr : ∀ j, j < 8 → M (o + 13) (p + j) = nI (g j)) (hT : pm_T M o acc) (hF : cq_nv M (o + 12) 1081 Y) (hF9 : ∀ t, Y t ≤ 1080) (hok : pl_ok g 720) (hlen : acc.length + (pl_all g).length ≤ 720) : cq_C l yX7_choose wsX7_choose rmX7_choose D cA X Bs [.ref o, .int (nI p)] M (cq_PV (fun M1 => pm_T M1 o (acc ++ pl_all g) ∧ cq_nv M1 (o + 12) 1081 ((pl_all g).foldl pl_note Y) ∧ (∀ t, (pl_all g).foldl pl_note Y t ≤ 1080) ∧ pm_fr M M1 o)) 0 0 := by
  refine cq_met (cc := cX7_choose) (maxL := 5) (ret := none) (by decide) rfl (Nat.le_of_ble_eq_true rfl) [(0, .ref o), (1, .int (nI p))] rfl rfl ?_
  intro p9 e9 s9 m9 b9 t9 c9 F hr
  have inX7 : ∀ w ∈ wsX70, w ∈ wsX7_choose := (fun w h => List.mem_cons_of_mem _ (List.mem_append_right _ h))
  have hg4 : g 4 ≤ 2 := (hok.2.1 0 (by omega)).2.1
  have hg5 : g 5 ≤ 2 := (hok.2.1 1 (by omega)).2.1
  have hg6 : g 6 ≤ 2 := (hok.2.1 2 (by omega)).2.1
  have hg1 : g 1 ≤ 360 := (hok.2.1 0 (by omega)).1
  have hg2 : g 2 ≤ 360 := (hok.2.1 1 (by omega)).1
  have hg3 : g 3 ≤ 360 := (hok.2.1 2 (by omega)).1
  have loop_9 : ∀ (n_9 : Nat) (i : Nat) (M2 : cq_M), i ≤ pl_n g 0 → pm_T M2 o (acc ++ (pl_a g i)) → cq_nv M2 (o + 12) 1081 (List.foldl pl_note Y (pl_a g i)) → (∀ t, List.foldl pl_note Y (pl_a g i) t ≤ 1080) → pm_fr M M2 o → pl_n g 0 + 1 - i < n_9 → cq_V p9 l e9 rmX7_choose s9 m9 ([.ref o, .int (nI p)] : List Value).toArray b9 t9 c9 D cA X Bs 5 0 0 (MQ b9 (cq_Q D cA X Bs (cq_PV (fun M1 => pm_T M1 o (acc ++ pl_all g) ∧ cq_nv M1 (o + 12) 1081 ((pl_all g).foldl pl_note Y) ∧ (∀ t, (pl_all g).foldl pl_note Y t ≤ 1080) ∧ pm_fr M M1 o))) ([.ref o, .int (nI p)] : List Value).toArray s9 0 0 (cq_A Bs)) 9 [(0, .ref o), (1, .int (nI p)), (2, .int (nI (g 4 + i)))] [] M2 := by
    intro n_9
    induction n_9 with
    | zero =>
      intros
      omega
    | succ n_9 ih_9 =>
      intro i M2 hi hTa hFa hba hfa hn
      have hn0 : pl_n g 0 = (if 0 < g 1 then 3 else 1) - g 4 := rfl
      have loop_38 : ∀ (n_38 : Nat) (j : Nat) (M3 : cq_M), i < pl_n g 0 → j ≤ pl_n g 1 → pm_T M3 o (acc ++ (pl_a g i ++ pl_b g (g 4 + i) j)) → cq_nv M3 (o + 12) 1081 (List.foldl pl_note Y (pl_a g i ++ pl_b g (g 4 + i) j)) → (∀ t, List.foldl pl_note Y (pl_a g i ++ pl_b g (g 4 + i) j) t ≤ 1080) → pm_fr M M3 o → pl_n g 1 + 1 - j < n_38 → cq_V p9 l e9 rmX7_choose s9 m9 ([.ref o, .int (nI p)] : List Value).toArray b9 t9 c9 D cA X Bs 5 0 0 (MQ b9 (cq_Q D cA X Bs (cq_PV (fun M1 => pm_T M1 o (acc ++ pl_all g) ∧ cq_nv M1 (o + 12) 1081 ((pl_all g).foldl pl_note Y) ∧ (∀ t, (pl_all g).foldl pl_note Y t ≤ 1080) ∧ pm_fr M M1 o))) ([.ref o, .int (nI p)] : List Value).toArray s9 0 0 (cq_A Bs)) 38 [(0, .ref o), (1, .int (nI p)), (2, .int (nI (g 4 + i))), (3, .int (nI (g 5 + j)))] [] M3 := by
        intro n_38
        induction n_38 with
        | zero =>
          intros
          omega
        | succ n_38 ih_38 =>
          intro j M3 hi0 hj hTb hFb hbb hfb hn
          have hn1 : pl_n g 1 = (if 0 < g 2 then 3 else 1) - g 5 := rfl
          have loop_69 : ∀ (n_69 : Nat) (k : Nat) (M4 : cq_M), j < pl_n g 1 → k ≤ pl_n g 2 → pm_T M4 o (acc ++ (pl_a g i ++ (pl_b g (g 4 + i) j ++ pl_c g (g 4 + i) (g 5 + j) k))) → cq_nv M4 (o + 12) 1081 (List.foldl pl_note Y (pl_a g i ++ (pl_b g (g 4 + i) j ++ pl_c g (g 4 + i) (g 5 + j) k))) → (∀ t, List.foldl pl_note Y (pl_a g i ++ (pl_b g (g 4 + i) j ++ pl_c g (g 4 + i) (g 5 + j) k)) t ≤ 1080) → pm_fr M M4 o → pl_n g 2 + 1 - k < n_69 → cq_V p9 l e9 rmX7_choose s9 m9 ([.ref o, .int (nI p)] : List Value).toArray b9 t9 c9 D cA X Bs 5 0 0 (MQ b9 (cq_Q D cA X Bs (cq_PV (fun M1 => pm_T M1 o (acc ++ pl_all g) ∧ cq_nv M1 (o + 12) 1081 ((pl_all g).foldl pl_note Y) ∧ (∀ t, (pl_all g).foldl pl_note Y t ≤ 1080) ∧ pm_fr M M1 o))) ([.ref o, .int (nI p)] : List Value).toArray s9 0 0 (cq_A Bs)) 69 [(0, .ref o), (1, .int (nI p)), (2, .int (nI (g 4 + i))), (3, .int (nI (g 5 + j))), (4, .int (nI (g 6 + k)))] [] M4 := by
            intro n_69
            induction n_69 with
            | zero =>
              intros
              omega
            | succ n_69 ih_69 =>
              intro k M4 hj1 hk hTc hFc hbc hfc hn
              have hn2 : pl_n g 2 = (if 0 < g 3 then 3 else 1) - g 6 := rfl
              refine cq_iload F dX7_choose_69 rfl ?_
              refine cq_aload_n F (i := 0) dX7_choose_71 rfl rfl ?_
              refine cq_getT (t := (o + 13)) F (C := RX7) (T := TX7) (N := 22) (ci := 8) ho.kind rfl ⟨⟨by decide, by decide⟩, rfl⟩ inX7 18 (by decide) rfl rfl ho.t18 (F.1.2.2.2.2 _ (List.mem_of_getElem? (l := wsX7_choose) (i := 1) (a := .fieldLink RX7 47 "CordClockModel" "from" "[I") (by decide +kernel))) dX7_choose_72 ?_
              refine cq_iload_n F (i := 1) dX7_choose_75 rfl rfl ?_
              refine cq_iconst F (v := 3) dX7_choose_76 rfl ?_
              refine cq_iadd F dX7_choose_77 ?_
              rw [show (nI p + 3 : Int32) = nI (p + 3) from nI_add _ _]
              refine cq_iald_j F (j := (p + 3)) ho.k13 ho.n13 rfl ⟨(by omega), by decide⟩ dX7_choose_78 ?_
              rw [(show M4 (o + 13) (p + 3) = nI (g 3) by rw [hfc.1 _ (by omega) (by omega) (by omega)]; exact hfr 3 (by omega))]
              refine cq_if_le F (tgt := 86) dX7_choose_79 (by decide) (fun c_79 => ?_) (fun c_79 => ?_)
              · have c_79 : (g 3) ≤ 0 := (nI_b (a := (g 3)) (b := 0) (by omega) (by omega)).1.mp c_79
                rw [if_neg (by omega)] at hn2
                refine cq_iconst F (v := 0) dX7_choose_86 rfl ?_
                refine cq_icmp_gt F (tgt := 105) dX7_choose_87 (by decide) (fun c_87 => ?_) (fun c_87 => ?_)
                · have c_87 : 0 < (g 6 + k) := (nI_b (a := 0) (b := (g 6 + k)) (by omega) (by omega)).2.1.mp c_87
                  obtain rfl : k = pl_n g 2 := by omega
                  refine cq_iinc F dX7_choose_105 rfl (by decide) (fun x_105 e_105 => ?_)
                  obtain rfl : x_105 = nI ((g 5 + j) + 1) := by rw [e_105]; exact nI_1 _
                  refine cq_goto F (tgt := 38) dX7_choose_108 (by decide) ?_
                  refine cq_loc (L2 := [(0, .ref o), (1, .int (nI p)), (2, .int (nI (g 4 + i))), (3, .int (nI (g 5 + (j + 1))))]) rfl ?_
                  exact ih_38 (j + 1) M4 hi0 (by omega) hTc hFc hbc hfc (by omega)
                · have c_87 : ¬ 0 < (g 6 + k) := fun z => c_87 ((nI_b (a := 0) (b := (g 6 + k)) (by omega) (by omega)).2.1.mpr z)
                  have hk2 : k < pl_n g 2 := by omega
                  have hv9 := pl_v_of hok hi0 hj1 hk2
                  have hl9 := pl_pre_len hi0 hj1 hk2
                  refine cq_aload_n F (i := 0) dX7_choose_90 rfl rfl ?_
                  refine cq_iload_n F (i := 1) dX7_choose_91 rfl rfl ?_
                  refine cq_iload_n F (i := 2) dX7_choose_92 rfl rfl ?_
                  refine cq_iload_n F (i := 3) dX7_choose_93 rfl rfl ?_
                  refine cq_iload F dX7_choose_94 rfl ?_
                  refine cq_callV F (C := RX7) (ci := 8) (kX7_goOn l D cA X Bs o p (g 4 + i) (g 5 + j) (g 6 + k) g (List.foldl pl_note Y (pl_a g i ++ (pl_b g (g 4 + i) j ++ pl_c g (g 4 + i) (g 5 + j) k))) (acc ++ (pl_a g i ++ (pl_b g (g 4 + i) j ++ pl_c g (g 4 + i) (g 5 + j) k))) M4 ho hp (fun j hj => by rw [hfc.1 _ (by omega) (by omega) (by omega)]; exact hfr j hj) hTc hFc hbc hok hv9 (by simp only [List.length_append]; omega)) (cwV 4 F.1.2.2.2.2 gX7_choose_X7_goOn rfl rfl rfl hdVX7_goOn ⟨Nat.le_of_ble_eq_true rfl, Nat.le_of_ble_eq_true rfl⟩) ho.kind ⟨by decide, by decide⟩ rfl rfl rfl (Nat.le_of_ble_eq_true rfl) dX7_choose_96 ⟨Nat.le_of_ble_eq_true rfl, Nat.le_of_ble_eq_true rfl⟩ (cq_kV fun M_96 h_96 => ?_)
                  refine cq_iinc F dX7_choose_99 rfl (by decide) (fun x_99 e_99 => ?_)
                  obtain rfl : x_99 = nI ((g 6 + k) + 1) := by rw [e_99]; exact nI_1 _
                  refine cq_goto F (tgt := 69) dX7_choose_102 (by decide) ?_
                  refine cq_loc (L2 := [(0, .ref o), (1, .int (nI p)), (2, .int (nI (g 4 + i))), (3, .int (nI (g 5 + j))), (4, .int (nI (g 6 + (k + 1))))]) rfl ?_
                  exact ih_69 (k + 1) M_96 hj1 (by omega) (by
                    have z := h_96.1
                    rw [List.append_assoc, List.append_assoc, List.append_assoc] at z
                    exact z) (by
                    have z := h_96.2.1
                    rw [← List.foldl_append, List.append_assoc, List.append_assoc] at z
                    exact z) (by
                    have z := pl_fold_le (l := pl_go g (g 4 + i) (g 5 + j) (g 6 + k)) hbc (fun x hx => pl_go_7 hok hv9 hx)
                    rw [← List.foldl_append, List.append_assoc, List.append_assoc] at z
                    exact z) (hfc.trans h_96.2.2) (by omega)
              · have c_79 : ¬ (g 3) ≤ 0 := fun z => c_79 ((nI_b (a := (g 3)) (b := 0) (by omega) (by omega)).1.mpr z)
                rw [if_pos (by omega)] at hn2
                refine cq_iconst F (v := 2) dX7_choose_82 rfl ?_
                refine cq_goto F (tgt := 87) dX7_choose_83 (by decide) ?_
                refine cq_icmp_gt F (tgt := 105) dX7_choose_87 (by decide) (fun c_87 => ?_) (fun c_87 => ?_)
                · have c_87 : 2 < (g 6 + k) := (nI_b (a := 2) (b := (g 6 + k)) (by omega) (by omega)).2.1.mp c_87
                  obtain rfl : k = pl_n g 2 := by omega
                  refine cq_iinc F dX7_choose_105 rfl (by decide) (fun x_105 e_105 => ?_)
                  obtain rfl : x_105 = nI ((g 5 + j) + 1) := by rw [e_105]; exact nI_1 _
                  refine cq_goto F (tgt := 38) dX7_choose_108 (by decide) ?_
                  refine cq_loc (L2 := [(0, .ref o), (1, .int (nI p)), (2, .int (nI (g 4 + i))), (3, .int (nI (g 5 + (j + 1))))]) rfl ?_
                  exact ih_38 (j + 1) M4 hi0 (by omega) hTc hFc hbc hfc (by omega)
                · have c_87 : ¬ 2 < (g 6 + k) := fun z => c_87 ((nI_b (a := 2) (b := (g 6 + k)) (by omega) (by omega)).2.1.mpr z)
                  have hk2 : k < pl_n g 2 := by omega
                  have hv9 := pl_v_of hok hi0 hj1 hk2
                  have hl9 := pl_pre_len hi0 hj1 hk2
                  refine cq_aload_n F (i := 0) dX7_choose_90 rfl rfl ?_
                  refine cq_iload_n F (i := 1) dX7_choose_91 rfl rfl ?_
                  refine cq_iload_n F (i := 2) dX7_choose_92 rfl rfl ?_
                  refine cq_iload_n F (i := 3) dX7_choose_93 rfl rfl ?_
                  refine cq_iload F dX7_choose_94 rfl ?_
                  refine cq_callV F (C := RX7) (ci := 8) (kX7_goOn l D cA X Bs o p (g 4 + i) (g 5 + j) (g 6 + k) g (List.foldl pl_note Y (pl_a g i ++ (pl_b g (g 4 + i) j ++ pl_c g (g 4 + i) (g 5 + j) k))) (acc ++ (pl_a g i ++ (pl_b g (g 4 + i) j ++ pl_c g (g 4 + i) (g 5 + j) k))) M4 ho hp (fun j hj => by rw [hfc.1 _ (by omega) (by omega) (by omega)]; exact hfr j hj) hTc hFc hbc hok hv9 (by simp only [List.length_append]; omega)) (cwV 4 F.1.2.2.2.2 gX7_choose_X7_goOn rfl rfl rfl hdVX7_goOn ⟨Nat.le_of_ble_eq_true rfl, Nat.le_of_ble_eq_true rfl⟩) ho.kind ⟨by decide, by decide⟩ rfl rfl rfl (Nat.le_of_ble_eq_true rfl) dX7_choose_96 ⟨Nat.le_of_ble_eq_true rfl, Nat.le_of_ble_eq_true rfl⟩ (cq_kV fun M_96 h_96 => ?_)
                  refine cq_iinc F dX7_choose_99 rfl (by decide) (fun x_99 e_99 => ?_)
                  obtain rfl : x_99 = nI ((g 6 + k) + 1) := by rw [e_99]; exact nI_1 _
                  refine cq_goto F (tgt := 69) dX7_choose_102 (by decide) ?_
                  refine cq_loc (L2 := [(0, .ref o), (1, .int (nI p)), (2, .int (nI (g 4 + i))), (3, .int (nI (g 5 + j))), (4, .int (nI (g 6 + (k + 1))))]) rfl ?_
                  exact ih_69 (k + 1) M_96 hj1 (by omega) (by
                    have z := h_96.1
                    rw [List.append_assoc, List.append_assoc, List.append_assoc] at z
                    exact z) (by
                    have z := h_96.2.1
                    rw [← List.foldl_append, List.append_assoc, List.append_assoc] at z
                    exact z) (by
                    have z := pl_fold_le (l := pl_go g (g 4 + i) (g 5 + j) (g 6 + k)) hbc (fun x hx => pl_go_7 hok hv9 hx)
                    rw [← List.foldl_append, List.append_assoc, List.append_assoc] at z
                    exact z) (hfc.trans h_96.2.2) (by omega)
          refine cq_iload_n F (i := 3) dX7_choose_38 rfl rfl ?_
          refine cq_aload_n F (i := 0) dX7_choose_39 rfl rfl ?_
          refine cq_getT (t := (o + 13)) F (C := RX7) (T := TX7) (N := 22) (ci := 8) ho.kind rfl ⟨⟨by decide, by decide⟩, rfl⟩ inX7 18 (by decide) rfl rfl ho.t18 (F.1.2.2.2.2 _ (List.mem_of_getElem? (l := wsX7_choose) (i := 1) (a := .fieldLink RX7 47 "CordClockModel" "from" "[I") (by decide +kernel))) dX7_choose_40 ?_
          refine cq_iload_n F (i := 1) dX7_choose_43 rfl rfl ?_
          refine cq_iconst F (v := 2) dX7_choose_44 rfl ?_
          refine cq_iadd F dX7_choose_45 ?_
          rw [show (nI p + 2 : Int32) = nI (p + 2) from nI_add _ _]
          refine cq_iald_j F (j := (p + 2)) ho.k13 ho.n13 rfl ⟨(by omega), by decide⟩ dX7_choose_46 ?_
          rw [(show M3 (o + 13) (p + 2) = nI (g 2) by rw [hfb.1 _ (by omega) (by omega) (by omega)]; exact hfr 2 (by omega))]
          refine cq_if_le F (tgt := 54) dX7_choose_47 (by decide) (fun c_47 => ?_) (fun c_47 => ?_)
          · have c_47 : (g 2) ≤ 0 := (nI_b (a := (g 2)) (b := 0) (by omega) (by omega)).1.mp c_47
            rw [if_neg (by omega)] at hn1
            refine cq_iconst F (v := 0) dX7_choose_54 rfl ?_
            refine cq_icmp_gt F (tgt := 111) dX7_choose_55 (by decide) (fun c_55 => ?_) (fun c_55 => ?_)
            · have c_55 : 0 < (g 5 + j) := (nI_b (a := 0) (b := (g 5 + j)) (by omega) (by omega)).2.1.mp c_55
              obtain rfl : j = pl_n g 1 := by omega
              refine cq_iinc F dX7_choose_111 rfl (by decide) (fun x_111 e_111 => ?_)
              obtain rfl : x_111 = nI ((g 4 + i) + 1) := by rw [e_111]; exact nI_1 _
              refine cq_goto F (tgt := 9) dX7_choose_114 (by decide) ?_
              refine cq_loc (L2 := [(0, .ref o), (1, .int (nI p)), (2, .int (nI (g 4 + (i + 1))))]) rfl ?_
              exact ih_9 (i + 1) M3 (by omega) hTb hFb hbb hfb (by omega)
            · have c_55 : ¬ 0 < (g 5 + j) := fun z => c_55 ((nI_b (a := 0) (b := (g 5 + j)) (by omega) (by omega)).2.1.mpr z)
              have hj1 : j < pl_n g 1 := by omega
              refine cq_aload_n F (i := 0) dX7_choose_58 rfl rfl ?_
              refine cq_getT (t := (o + 13)) F (C := RX7) (T := TX7) (N := 22) (ci := 8) ho.kind rfl ⟨⟨by decide, by decide⟩, rfl⟩ inX7 18 (by decide) rfl rfl ho.t18 (F.1.2.2.2.2 _ (List.mem_of_getElem? (l := wsX7_choose) (i := 1) (a := .fieldLink RX7 47 "CordClockModel" "from" "[I") (by decide +kernel))) dX7_choose_59 ?_
              refine cq_iload_n F (i := 1) dX7_choose_62 rfl rfl ?_
              refine cq_bipush F (v := 6) dX7_choose_63 (by decide) ?_
              refine cq_iadd F dX7_choose_65 ?_
              rw [show (nI p + 6 : Int32) = nI (p + 6) from nI_add _ _]
              refine cq_iald_j F (j := (p + 6)) ho.k13 ho.n13 rfl ⟨(by omega), by decide⟩ dX7_choose_66 ?_
              rw [(show M3 (o + 13) (p + 6) = nI (g 6) by rw [hfb.1 _ (by omega) (by omega) (by omega)]; exact hfr 6 (by omega))]
              refine cq_istore F dX7_choose_67 (by decide) ?_
              refine cq_loc (L2 := [(0, .ref o), (1, .int (nI p)), (2, .int (nI (g 4 + i))), (3, .int (nI (g 5 + j))), (4, .int (nI (g 6 + 0)))]) rfl ?_
              exact loop_69 (pl_n g 2 + 2) 0 M3 hj1 (Nat.zero_le _) (by show pm_T M3 o (acc ++ (pl_a g i ++ (pl_b g (g 4 + i) j ++ []))); rw [List.append_nil]; exact hTb) (by show cq_nv M3 (o + 12) 1081 (List.foldl pl_note Y (pl_a g i ++ (pl_b g (g 4 + i) j ++ []))); rw [List.append_nil]; exact hFb) (by show ∀ t, List.foldl pl_note Y (pl_a g i ++ (pl_b g (g 4 + i) j ++ [])) t ≤ 1080; rw [List.append_nil]; exact hbb) hfb (by omega)
          · have c_47 : ¬ (g 2) ≤ 0 := fun z => c_47 ((nI_b (a := (g 2)) (b := 0) (by omega) (by omega)).1.mpr z)
            rw [if_pos (by omega)] at hn1
            refine cq_iconst F (v := 2) dX7_choose_50 rfl ?_
            refine cq_goto F (tgt := 55) dX7_choose_51 (by decide) ?_
            refine cq_icmp_gt F (tgt := 111) dX7_choose_55 (by decide) (fun c_55 => ?_) (fun c_55 => ?_)
            · have c_55 : 2 < (g 5 + j) := (nI_b (a := 2) (b := (g 5 + j)) (by omega) (by omega)).2.1.mp c_55
              obtain rfl : j = pl_n g 1 := by omega
              refine cq_iinc F dX7_choose_111 rfl (by decide) (fun x_111 e_111 => ?_)
              obtain rfl : x_111 = nI ((g 4 + i) + 1) := by rw [e_111]; exact nI_1 _
              refine cq_goto F (tgt := 9) dX7_choose_114 (by decide) ?_
              refine cq_loc (L2 := [(0, .ref o), (1, .int (nI p)), (2, .int (nI (g 4 + (i + 1))))]) rfl ?_
              exact ih_9 (i + 1) M3 (by omega) hTb hFb hbb hfb (by omega)
            · have c_55 : ¬ 2 < (g 5 + j) := fun z => c_55 ((nI_b (a := 2) (b := (g 5 + j)) (by omega) (by omega)).2.1.mpr z)
              have hj1 : j < pl_n g 1 := by omega
              refine cq_aload_n F (i := 0) dX7_choose_58 rfl rfl ?_
              refine cq_getT (t := (o + 13)) F (C := RX7) (T := TX7) (N := 22) (ci := 8) ho.kind rfl ⟨⟨by decide, by decide⟩, rfl⟩ inX7 18 (by decide) rfl rfl ho.t18 (F.1.2.2.2.2 _ (List.mem_of_getElem? (l := wsX7_choose) (i := 1) (a := .fieldLink RX7 47 "CordClockModel" "from" "[I") (by decide +kernel))) dX7_choose_59 ?_
              refine cq_iload_n F (i := 1) dX7_choose_62 rfl rfl ?_
              refine cq_bipush F (v := 6) dX7_choose_63 (by decide) ?_
              refine cq_iadd F dX7_choose_65 ?_
              rw [show (nI p + 6 : Int32) = nI (p + 6) from nI_add _ _]
              refine cq_iald_j F (j := (p + 6)) ho.k13 ho.n13 rfl ⟨(by omega), by decide⟩ dX7_choose_66 ?_
              rw [(show M3 (o + 13) (p + 6) = nI (g 6) by rw [hfb.1 _ (by omega) (by omega) (by omega)]; exact hfr 6 (by omega))]
              refine cq_istore F dX7_choose_67 (by decide) ?_
              refine cq_loc (L2 := [(0, .ref o), (1, .int (nI p)), (2, .int (nI (g 4 + i))), (3, .int (nI (g 5 + j))), (4, .int (nI (g 6 + 0)))]) rfl ?_
              exact loop_69 (pl_n g 2 + 2) 0 M3 hj1 (Nat.zero_le _) (by show pm_T M3 o (acc ++ (pl_a g i ++ (pl_b g (g 4 + i) j ++ []))); rw [List.append_nil]; exact hTb) (by show cq_nv M3 (o + 12) 1081 (List.foldl pl_note Y (pl_a g i ++ (pl_b g (g 4 + i) j ++ []))); rw [List.append_nil]; exact hFb) (by show ∀ t, List.foldl pl_note Y (pl_a g i ++ (pl_b g (g 4 + i) j ++ [])) t ≤ 1080; rw [List.append_nil]; exact hbb) hfb (by omega)
      refine cq_iload_n F (i := 2) dX7_choose_9 rfl rfl ?_
      refine cq_aload_n F (i := 0) dX7_choose_10 rfl rfl ?_
      refine cq_getT (t := (o + 13)) F (C := RX7) (T := TX7) (N := 22) (ci := 8) ho.kind rfl ⟨⟨by decide, by decide⟩, rfl⟩ inX7 18 (by decide) rfl rfl ho.t18 (F.1.2.2.2.2 _ (List.mem_of_getElem? (l := wsX7_choose) (i := 1) (a := .fieldLink RX7 47 "CordClockModel" "from" "[I") (by decide +kernel))) dX7_choose_11 ?_
      refine cq_iload_n F (i := 1) dX7_choose_14 rfl rfl ?_
      refine cq_iconst F (v := 1) dX7_choose_15 rfl ?_
      refine cq_iadd F dX7_choose_16 ?_
      rw [show (nI p + 1 : Int32) = nI (p + 1) from nI_add _ _]
      refine cq_iald_j F (j := (p + 1)) ho.k13 ho.n13 rfl ⟨(by omega), by decide⟩ dX7_choose_17 ?_
      rw [(show M2 (o + 13) (p + 1) = nI (g 1) by rw [hfa.1 _ (by omega) (by omega) (by omega)]; exact hfr 1 (by omega))]
      refine cq_if_le F (tgt := 25) dX7_choose_18 (by decide) (fun c_18 => ?_) (fun c_18 => ?_)
      · have c_18 : (g 1) ≤ 0 := (nI_b (a := (g 1)) (b := 0) (by omega) (by omega)).1.mp c_18
        rw [if_neg (by omega)] at hn0
        refine cq_iconst F (v := 0) dX7_choose_25 rfl ?_
        refine cq_icmp_gt F (tgt := 117) dX7_choose_26 (by decide) (fun c_26 => ?_) (fun c_26 => ?_)
        · have c_26 : 0 < (g 4 + i) := (nI_b (a := 0) (b := (g 4 + i)) (by omega) (by omega)).2.1.mp c_26
          obtain rfl : i = pl_n g 0 := by omega
          exact cq_vret F hr (by decide) (by decide) dX7_choose_117 ⟨rfl, ⟨hTa, hFa, hba, hfa⟩⟩
        · have c_26 : ¬ 0 < (g 4 + i) := fun z => c_26 ((nI_b (a := 0) (b := (g 4 + i)) (by omega) (by omega)).2.1.mpr z)
          have hi0 : i < pl_n g 0 := by omega
          refine cq_aload_n F (i := 0) dX7_choose_29 rfl rfl ?_
          refine cq_getT (t := (o + 13)) F (C := RX7) (T := TX7) (N := 22) (ci := 8) ho.kind rfl ⟨⟨by decide, by decide⟩, rfl⟩ inX7 18 (by decide) rfl rfl ho.t18 (F.1.2.2.2.2 _ (List.mem_of_getElem? (l := wsX7_choose) (i := 1) (a := .fieldLink RX7 47 "CordClockModel" "from" "[I") (by decide +kernel))) dX7_choose_30 ?_
          refine cq_iload_n F (i := 1) dX7_choose_33 rfl rfl ?_
          refine cq_iconst F (v := 5) dX7_choose_34 rfl ?_
          refine cq_iadd F dX7_choose_35 ?_
          rw [show (nI p + 5 : Int32) = nI (p + 5) from nI_add _ _]
          refine cq_iald_j F (j := (p + 5)) ho.k13 ho.n13 rfl ⟨(by omega), by decide⟩ dX7_choose_36 ?_
          rw [(show M2 (o + 13) (p + 5) = nI (g 5) by rw [hfa.1 _ (by omega) (by omega) (by omega)]; exact hfr 5 (by omega))]
          refine cq_istore_n F (i := 3) dX7_choose_37 rfl (by decide) ?_
          refine cq_loc (L2 := [(0, .ref o), (1, .int (nI p)), (2, .int (nI (g 4 + i))), (3, .int (nI (g 5 + 0)))]) rfl ?_
          exact loop_38 (pl_n g 1 + 2) 0 M2 hi0 (Nat.zero_le _) (by show pm_T M2 o (acc ++ (pl_a g i ++ [])); rw [List.append_nil]; exact hTa) (by show cq_nv M2 (o + 12) 1081 (List.foldl pl_note Y (pl_a g i ++ [])); rw [List.append_nil]; exact hFa) (by show ∀ t, List.foldl pl_note Y (pl_a g i ++ []) t ≤ 1080; rw [List.append_nil]; exact hba) hfa (by omega)
      · have c_18 : ¬ (g 1) ≤ 0 := fun z => c_18 ((nI_b (a := (g 1)) (b := 0) (by omega) (by omega)).1.mpr z)
        rw [if_pos (by omega)] at hn0
        refine cq_iconst F (v := 2) dX7_choose_21 rfl ?_
        refine cq_goto F (tgt := 26) dX7_choose_22 (by decide) ?_
        refine cq_icmp_gt F (tgt := 117) dX7_choose_26 (by decide) (fun c_26 => ?_) (fun c_26 => ?_)
        · have c_26 : 2 < (g 4 + i) := (nI_b (a := 2) (b := (g 4 + i)) (by omega) (by omega)).2.1.mp c_26
          obtain rfl : i = pl_n g 0 := by omega
          exact cq_vret F hr (by decide) (by decide) dX7_choose_117 ⟨rfl, ⟨hTa, hFa, hba, hfa⟩⟩
        · have c_26 : ¬ 2 < (g 4 + i) := fun z => c_26 ((nI_b (a := 2) (b := (g 4 + i)) (by omega) (by omega)).2.1.mpr z)
          have hi0 : i < pl_n g 0 := by omega
          refine cq_aload_n F (i := 0) dX7_choose_29 rfl rfl ?_
          refine cq_getT (t := (o + 13)) F (C := RX7) (T := TX7) (N := 22) (ci := 8) ho.kind rfl ⟨⟨by decide, by decide⟩, rfl⟩ inX7 18 (by decide) rfl rfl ho.t18 (F.1.2.2.2.2 _ (List.mem_of_getElem? (l := wsX7_choose) (i := 1) (a := .fieldLink RX7 47 "CordClockModel" "from" "[I") (by decide +kernel))) dX7_choose_30 ?_
          refine cq_iload_n F (i := 1) dX7_choose_33 rfl rfl ?_
          refine cq_iconst F (v := 5) dX7_choose_34 rfl ?_
          refine cq_iadd F dX7_choose_35 ?_
          rw [show (nI p + 5 : Int32) = nI (p + 5) from nI_add _ _]
          refine cq_iald_j F (j := (p + 5)) ho.k13 ho.n13 rfl ⟨(by omega), by decide⟩ dX7_choose_36 ?_
          rw [(show M2 (o + 13) (p + 5) = nI (g 5) by rw [hfa.1 _ (by omega) (by omega) (by omega)]; exact hfr 5 (by omega))]
          refine cq_istore_n F (i := 3) dX7_choose_37 rfl (by decide) ?_
          refine cq_loc (L2 := [(0, .ref o), (1, .int (nI p)), (2, .int (nI (g 4 + i))), (3, .int (nI (g 5 + 0)))]) rfl ?_
          exact loop_38 (pl_n g 1 + 2) 0 M2 hi0 (Nat.zero_le _) (by show pm_T M2 o (acc ++ (pl_a g i ++ [])); rw [List.append_nil]; exact hTa) (by show cq_nv M2 (o + 12) 1081 (List.foldl pl_note Y (pl_a g i ++ [])); rw [List.append_nil]; exact hFa) (by show ∀ t, List.foldl pl_note Y (pl_a g i ++ []) t ≤ 1080; rw [List.append_nil]; exact hba) hfa (by omega)
  refine cq_aload_n F (i := 0) dX7_choose_0 rfl rfl ?_
  refine cq_getT (t := (o + 13)) F (C := RX7) (T := TX7) (N := 22) (ci := 8) ho.kind rfl ⟨⟨by decide, by decide⟩, rfl⟩ inX7 18 (by decide) rfl rfl ho.t18 (F.1.2.2.2.2 _ (List.mem_of_getElem? (l := wsX7_choose) (i := 1) (a := .fieldLink RX7 47 "CordClockModel" "from" "[I") (by decide +kernel))) dX7_choose_1 ?_
  refine cq_iload_n F (i := 1) dX7_choose_4 rfl rfl ?_
  refine cq_iconst F (v := 4) dX7_choose_5 rfl ?_
  refine cq_iadd F dX7_choose_6 ?_
  rw [show (nI p + 4 : Int32) = nI (p + 4) from nI_add _ _]
  refine cq_iald_j F (j := (p + 4)) ho.k13 ho.n13 rfl ⟨(by omega), by decide⟩ dX7_choose_7 ?_
  rw [(show M (o + 13) (p + 4) = nI (g 4) from hfr 4 (by omega))]
  refine cq_istore_n F (i := 2) dX7_choose_8 rfl (by decide) ?_
  refine cq_loc (L2 := [(0, .ref o), (1, .int (nI p)), (2, .int (nI (g 4 + 0)))]) rfl ?_
  exact loop_9 (pl_n g 0 + 2) 0 M (Nat.zero_le _) (by show pm_T M o (acc ++ []); rw [List.append_nil]; exact hT) hF hF9 pm_fr.rf (by omega)
theorem hdVX7_choose : yX7_choose.cls = RX7 ∧ yX7_choose.cls ≠ "java/lang/invoke/MethodHandle" ∧ yX7_choose.cls ≠ "java/lang/invoke/VarHandle" ∧ (parseMethodDescriptor yX7_choose.desc).map (fun d => d.parameters.length) = some 1 := by decide +kernel
theorem pm_fill {M M2 M3 : cq_M} {A k : Nat} {v v' : Int32} (h2 : ∀ x j, M2 x j = if x = A ∧ j < k then v else M x j) (h3 : M3 = cq_up M2 A k v') (hv : v' = v) : ∀ x j, M3 x j = if x = A ∧ j < k + 1 then v else M x j := by
  intro x j
  rw [h3, hv]
  by_cases x1 : x = A
  · subst x1
    by_cases j1 : j = k
    · subst j1; rw [cq_up_s, if_pos ⟨rfl, by omega⟩]
    · rw [cq_up_k j1, h2]
      by_cases j2 : j < k
      · rw [if_pos ⟨rfl, j2⟩, if_pos ⟨rfl, by omega⟩]
      · rw [if_neg (fun z => j2 z.2), if_neg (by omega)]
  · rw [cq_up_a x1, h2, if_neg (fun z => x1 z.1), if_neg (fun z => x1 z.1)]
/-- the row of a beginning with the set w of the first n cords -/
def pb (g : Nat → Nat) (w : Nat) : Nat → (Nat → Nat)
  | 0 => fun _ => 0
  | n + 1 => if w / 2 ^ n % 2 = 1 then ns_up (pb g w n) (1 + pb_m w n) (ns_time g n) else pb g w n
theorem pb_m_mono {w n : Nat} : ∀ {m : Nat}, n ≤ m → pb_m w n ≤ pb_m w m
  | 0, h => by rw [show n = 0 by omega]; exact Nat.le_refl _
  | m + 1, h => by
    by_cases e : n = m + 1
    · rw [e]; exact Nat.le_refl _
    · have := pb_m_mono (w := w) (n := n) (m := m) (by omega)
      simp only [pb_m]
      omega
theorem pb_beg {g : Nat → Nat} {w : Nat} : ∀ {n : Nat}, (∀ c, c < n → ns_time g c ≤ 360) → pb_m w n ≤ 3 → pl_beg (pb g w n)
  | 0, _, _ => ⟨rfl, rfl, fun k _ => ⟨Nat.zero_le _, rfl⟩⟩
  | n + 1, ht, hm => by
    have hm2 : pb_m w n + w / 2 ^ n % 2 ≤ 3 := hm
    have ih := pb_beg (g := g) (w := w) (n := n) (fun c hc => ht c (by omega)) (by omega)
    unfold pb
    by_cases e : w / 2 ^ n % 2 = 1
    · rw [if_pos e]
      obtain ⟨h0, h7, h3⟩ := ih
      have ht9 := ht n (by omega)
      refine ⟨by rw [ns_up_n (by omega)]; exact h0, by rw [ns_up_n (by omega)]; exact h7, fun k hk => ⟨?_, by rw [ns_up_n (by omega)]; exact (h3 k hk).2⟩⟩
      unfold ns_up
      split
      · exact ht9
      · exact (h3 k hk).1
    · rw [if_neg e]
      exact ih
def pl_lv (g : Nat → Nat) : Nat → List (Nat → Nat)
  | 0 => [g]
  | n + 1 => (pl_lv g n).flatMap pl_all
def pl_tot (g : Nat → Nat) : Nat → List (Nat → Nat)
  | 0 => []
  | n + 1 => pl_tot g n ++ pl_lv g (n + 1)
theorem pl_lv_1 {g : Nat → Nat} : pl_lv g 1 = pl_1 g := by
  show [g].flatMap pl_all = pl_all g
  rw [List.flatMap_cons, List.flatMap_nil, List.append_nil]
theorem pl_lv_2 {g : Nat → Nat} : pl_lv g 2 = pl_2 g := by
  show (pl_lv g 1).flatMap pl_all = _
  rw [pl_lv_1]
  rfl
theorem pl_lv_3 {g : Nat → Nat} : pl_lv g 3 = pl_3 g := by
  show (pl_lv g 2).flatMap pl_all = _
  rw [pl_lv_2]
  rfl
theorem pl_tot_3 {g : Nat → Nat} : pl_tot g 3 = pl_1 g ++ (pl_2 g ++ pl_3 g) := by
  show (([] ++ pl_lv g 1) ++ pl_lv g 2) ++ pl_lv g 3 = _
  rw [pl_lv_1, pl_lv_2, pl_lv_3, List.nil_append, List.append_assoc]
theorem pl_lv_ok {g x : Nat → Nat} {s : Nat} (h : pl_beg g) (hs : s < 3) (hx : x ∈ pl_lv g s) : pl_ok x 720 := by
  have mono : ∀ t, t ≤ 720 → pl_ok x t → pl_ok x 720 := fun t ht q => ⟨Nat.le_trans q.1 ht, q.2.1, Nat.le_trans q.2.2.1 ht, q.2.2.2⟩
  have h9 : s = 0 ∨ s = 1 ∨ s = 2 := by omega
  rcases h9 with rfl | rfl | rfl
  · have e : x = g := List.mem_singleton.mp hx
    rw [e] at mono ⊢
    exact mono 0 (by omega) h.ok
  · rw [pl_lv_1] at hx
    exact mono 360 (by omega) (pl_1_ok h hx).1
  · rw [pl_lv_2] at hx
    exact (pl_2_ok h hx).1
theorem pl_lv_len {g : Nat → Nat} {s : Nat} (h : pl_beg g) (hs : s ≤ 3) : (pl_lv g s).length ≤ 702 := by
  have h9 : s = 0 ∨ s = 1 ∨ s = 2 ∨ s = 3 := by omega
  rcases h9 with rfl | rfl | rfl | rfl
  · show 1 ≤ 702
    omega
  · rw [pl_lv_1]
    have := pl_1_len h
    omega
  · rw [pl_lv_2]
    have := pl_2_len h
    omega
  · rw [pl_lv_3]
    exact pl_3_len h
theorem pl_take_len {l : List (Nat → Nat)} {k : Nat} {x : Nat → Nat} (hx : l[k]? = some x) : ((l.take k).flatMap pl_all).length + (pl_all x).length ≤ (l.flatMap pl_all).length := by
  have h1 : l.take (k + 1) = l.take k ++ [x] := by
    rw [List.take_add_one, hx]
    rfl
  have h2 : (l.take (k + 1)).flatMap pl_all = (l.take k).flatMap pl_all ++ pl_all x := by
    rw [h1, List.flatMap_append, List.flatMap_cons, List.flatMap_nil, List.append_nil]
  have h3 : l.flatMap pl_all = (l.take (k + 1)).flatMap pl_all ++ (l.drop (k + 1)).flatMap pl_all := by
    rw [← List.flatMap_append, List.take_append_drop]
  rw [h3, h2]
  simp only [List.length_append]
  omega
theorem pl_take_s {l : List (Nat → Nat)} {k : Nat} {x : Nat → Nat} (hx : l[k]? = some x) : (l.take (k + 1)).flatMap pl_all = (l.take k).flatMap pl_all ++ pl_all x := by
  have h1 : l.take (k + 1) = l.take k ++ [x] := by
    rw [List.take_add_one, hx]
    rfl
  rw [h1, List.flatMap_append, List.flatMap_cons, List.flatMap_nil, List.append_nil]
/-- what a plan changes -/
def pp_fr (M M1 : cq_M) (o : Nat) : Prop := (∀ x, x ≠ o → x ≠ o + 12 → x ≠ o + 13 → x ≠ o + 14 → M1 x = M x) ∧ ∀ j, j ≠ 19 → j ≠ 21 → M1 o j = M o j
theorem pp_fr.trans {M M1 M2 : cq_M} {o : Nat} (h : pp_fr M M1 o) (h2 : pp_fr M1 M2 o) : pp_fr M M2 o := ⟨fun x a b c d => by rw [h2.1 x a b c d, h.1 x a b c d], fun j hj h9 => by rw [h2.2 j hj h9, h.2 j hj h9]⟩
theorem pm_fr.pp {M M1 : cq_M} {o : Nat} (h : pm_fr M M1 o) : pp_fr M M1 o := ⟨fun x a b _ d => h.1 x a b d, fun j _ h9 => h.2 j h9⟩
/-- the row `from` holds the states l -/
def pm_R (M : cq_M) (o : Nat) (l : List (Nat → Nat)) : Prop := M o 19 = nI l.length ∧ ∀ (i : Nat) (x : Nat → Nat), l[i]? = some x → ∀ j, j < 8 → M (o + 13) (8 * i + j) = nI (x j)
theorem pm_T.nil {M : cq_M} {o : Nat} (h : M o 21 = nI 0) : pm_T M o [] := ⟨h, fun i x hx => by cases hx⟩
abbrev rmX7_plan : Room := ({ frames := 2, cells := 0, slots := 0, locals := 54 })
set_option maxHeartbeats 4000000 in
set_option maxRecDepth 100000 in
theorem kX7_plan (l : Launch) (D : va_G) (cA : Nat → ClassId) (X : cq_X) (Bs : Nat) (o B w : Nat) (g : Nat → Nat) (M : cq_M) (ho : cq_isModel X o) (hg : cq_nv M (o + 1) 109 g) (hk : ns_ok g B) (hw : w < 16) (hm : pb_m w 4 ≤ 3) : cq_C l yX7_plan wsX7_plan rmX7_plan D cA X Bs [.ref o, .int (nI w)] M (cq_PV (fun M1 => cq_nv M1 (o + 12) 1081 (pl_F (pb g w (g 6))) ∧ (∀ t, pl_F (pb g w (g 6)) t ≤ 1080) ∧ pp_fr M M1 o)) 0 0 := by
  refine cq_met (cc := cX7_plan) (maxL := 5) (ret := none) (by decide) rfl (Nat.le_of_ble_eq_true rfl) [(0, .ref o), (1, .int (nI w))] rfl rfl ?_
  intro p9 e9 s9 m9 b9 t9 c9 F hr
  have inX7 : ∀ w ∈ wsX70, w ∈ wsX7_plan := (fun w h => List.mem_cons_of_mem _ (List.mem_append_right _ h))
  have h6 := hk.1
  have htm : ∀ c, c < g 6 → ns_time g c ≤ 360 := fun c hc => (hk.2.2.2.1 c hc).time
  have hbg : pl_beg (pb g w (g 6)) := pb_beg htm (Nat.le_trans (pb_m_mono h6) hm)
  have loop_96 : ∀ (n_96 : Nat) (s : Nat) (M5 : cq_M), s ≤ 3 → pm_R M5 o (pl_lv (pb g w (g 6)) s) → cq_nv M5 (o + 12) 1081 (List.foldl pl_note (fun _ => 0) (pl_tot (pb g w (g 6)) s)) → (∀ t, (List.foldl pl_note (fun _ => 0) (pl_tot (pb g w (g 6)) s)) t ≤ 1080) → pp_fr M M5 o → 4 - s < n_96 → cq_V p9 l e9 rmX7_plan s9 m9 ([.ref o, .int (nI w)] : List Value).toArray b9 t9 c9 D cA X Bs 5 0 0 (MQ b9 (cq_Q D cA X Bs (cq_PV (fun M1 => cq_nv M1 (o + 12) 1081 (pl_F (pb g w (g 6))) ∧ (∀ t, pl_F (pb g w (g 6)) t ≤ 1080) ∧ pp_fr M M1 o))) ([.ref o, .int (nI w)] : List Value).toArray s9 0 0 (cq_A Bs)) 96 [(0, .ref o), (1, .int (nI w)), (3, .int (nI s))] [] M5 := by
    intro n_96
    induction n_96 with
    | zero =>
      intros
      omega
    | succ n_96 ih_96 =>
      intro s M5 hs3 hR5 hF5 hb5 hf5 hn
      have loop_136 : ∀ (n_136 : Nat) (Ma : cq_M) (q : Nat) (M7 : cq_M), s < 3 → pm_T Ma o (pl_lv (pb g w (g 6)) (s + 1)) → cq_nv Ma (o + 12) 1081 (List.foldl pl_note (fun _ => 0) (pl_tot (pb g w (g 6)) (s + 1))) → (∀ t, (List.foldl pl_note (fun _ => 0) (pl_tot (pb g w (g 6)) (s + 1))) t ≤ 1080) → pp_fr M Ma o → q ≤ 8 * (pl_lv (pb g w (g 6)) (s + 1)).length → (∀ x j, M7 x j = if x = o + 13 ∧ j < q then Ma (o + 14) j else Ma x j) → 8 * (pl_lv (pb g w (g 6)) (s + 1)).length + 1 - q < n_136 → cq_V p9 l e9 rmX7_plan s9 m9 ([.ref o, .int (nI w)] : List Value).toArray b9 t9 c9 D cA X Bs 5 0 0 (MQ b9 (cq_Q D cA X Bs (cq_PV (fun M1 => cq_nv M1 (o + 12) 1081 (pl_F (pb g w (g 6))) ∧ (∀ t, pl_F (pb g w (g 6)) t ≤ 1080) ∧ pp_fr M M1 o))) ([.ref o, .int (nI w)] : List Value).toArray s9 0 0 (cq_A Bs)) 136 [(0, .ref o), (1, .int (nI w)), (3, .int (nI s)), (4, .int (nI q))] [] M7 := by
        intro n_136
        induction n_136 with
        | zero =>
          intros
          omega
        | succ n_136 ih_136 =>
          intro Ma q M7 hs9 hTa hFa hba hfa hq9 hq hn
          have hl702 := pl_lv_len hbg (show s + 1 ≤ 3 by omega)
          refine cq_iload F dX7_plan_136 rfl ?_
          refine cq_bipush F (v := 8) dX7_plan_138 (by decide) ?_
          refine cq_aload_n F (i := 0) dX7_plan_140 rfl rfl ?_
          refine cq_getI F (C := RX7) (T := TX7) (N := 22) (ci := 8) ho.kind rfl ⟨⟨by decide, by decide⟩, rfl⟩ inX7 21 (by decide) rfl rfl (F.1.2.2.2.2 _ (List.mem_of_getElem? (l := wsX7_plan) (i := 5) (a := .fieldLink RX7 215 "CordClockModel" "toMany" "I") (by decide +kernel))) dX7_plan_141 ?_
          rw [show M7 o 21 = nI ((pl_lv (pb g w (g 6)) (s + 1)).length) from (show M7 o 21 = nI ((pl_lv (pb g w (g 6)) (s + 1)).length) from (by rw [hq, if_neg (by omega)]; exact hTa.1))]
          refine cq_imul F dX7_plan_144 ?_
          rw [show (8 * nI ((pl_lv (pb g w (g 6)) (s + 1)).length) : Int32) = nI (8 * ((pl_lv (pb g w (g 6)) (s + 1)).length)) from pk_mul _ _]
          refine cq_icmp_ge F (tgt := 168) dX7_plan_145 (by decide) (fun c_145 => ?_) (fun c_145 => ?_)
          · have c_145 : 8 * ((pl_lv (pb g w (g 6)) (s + 1)).length) ≤ q := (nI_b (a := 8 * ((pl_lv (pb g w (g 6)) (s + 1)).length)) (b := q) (by omega) (by omega)).1.mp c_145
            obtain rfl : q = 8 * (pl_lv (pb g w (g 6)) (s + 1)).length := by omega
            refine cq_aload_n F (i := 0) dX7_plan_168 rfl rfl ?_
            refine cq_aload_n F (i := 0) dX7_plan_169 rfl rfl ?_
            refine cq_getI F (C := RX7) (T := TX7) (N := 22) (ci := 8) ho.kind rfl ⟨⟨by decide, by decide⟩, rfl⟩ inX7 21 (by decide) rfl rfl (F.1.2.2.2.2 _ (List.mem_of_getElem? (l := wsX7_plan) (i := 5) (a := .fieldLink RX7 215 "CordClockModel" "toMany" "I") (by decide +kernel))) dX7_plan_170 ?_
            rw [show M7 o 21 = nI ((pl_lv (pb g w (g 6)) (s + 1)).length) from (show M7 o 21 = nI ((pl_lv (pb g w (g 6)) (s + 1)).length) from (by rw [hq, if_neg (by omega)]; exact hTa.1))]
            refine cq_put F (C := RX7) (T := TX7) (N := 22) (ci := 8) ho.kind rfl ⟨⟨by decide, by decide⟩, rfl⟩ inX7 tyX7 tyX7_ok nmX7 19 (by decide) rfl rfl (F.1.2.2.2.2 _ (List.mem_of_getElem? (l := wsX7_plan) (i := 3) (a := .fieldLink RX7 222 "CordClockModel" "fromMany" "I") (by decide +kernel))) rfl (by rfl) (by rfl) dX7_plan_173 (fun M_173 h_173 => ?_)
            refine cq_iinc F dX7_plan_176 rfl (by decide) (fun x_176 e_176 => ?_)
            obtain rfl : x_176 = nI (s + 1) := by rw [e_176]; exact nI_1 _
            refine cq_goto F (tgt := 96) dX7_plan_179 (by decide) ?_
            refine cq_loc (L2 := [(0, .ref o), (1, .int (nI w)), (3, .int (nI (s + 1)))]) rfl ?_
            exact ih_96 (s + 1) M_173 (by omega) ⟨by rw [h_173]; exact cq_up_s _ _ _ _, fun i x hx j hj => by
          have hi := (List.getElem?_eq_some_iff.mp hx).1
          rw [h_173, cq_up_a (by omega), hq, if_pos ⟨rfl, by omega⟩]
          exact hTa.2 i x hx j hj⟩ (fun j hj => by rw [h_173, cq_up_a (by omega), hq, if_neg (by omega)]; exact hFa j hj) hba ⟨fun x x1 x2 x3 x4 => by rw [h_173, cq_up_row x1]; funext j; rw [hq, if_neg (fun z => x3 z.1)]; exact congrFun (hfa.1 x x1 x2 x3 x4) j, fun j j1 j2 => by rw [h_173, cq_up_k j1, hq, if_neg (by omega)]; exact hfa.2 j j1 j2⟩ (by omega)
          · have c_145 : ¬ 8 * ((pl_lv (pb g w (g 6)) (s + 1)).length) ≤ q := fun z => c_145 ((nI_b (a := 8 * ((pl_lv (pb g w (g 6)) (s + 1)).length)) (b := q) (by omega) (by omega)).1.mpr z)
            refine cq_aload_n F (i := 0) dX7_plan_148 rfl rfl ?_
            refine cq_getT (t := (o + 13)) F (C := RX7) (T := TX7) (N := 22) (ci := 8) ho.kind rfl ⟨⟨by decide, by decide⟩, rfl⟩ inX7 18 (by decide) rfl rfl ho.t18 (F.1.2.2.2.2 _ (List.mem_of_getElem? (l := wsX7_plan) (i := 2) (a := .fieldLink RX7 47 "CordClockModel" "from" "[I") (by decide +kernel))) dX7_plan_149 ?_
            refine cq_iload F dX7_plan_152 rfl ?_
            refine cq_aload_n F (i := 0) dX7_plan_154 rfl rfl ?_
            refine cq_getT (t := (o + 14)) F (C := RX7) (T := TX7) (N := 22) (ci := 8) ho.kind rfl ⟨⟨by decide, by decide⟩, rfl⟩ inX7 20 (by decide) rfl rfl ho.t20 (F.1.2.2.2.2 _ (List.mem_of_getElem? (l := wsX7_plan) (i := 6) (a := .fieldLink RX7 50 "CordClockModel" "to" "[I") (by decide +kernel))) dX7_plan_155 ?_
            refine cq_iload F dX7_plan_158 rfl ?_
            refine cq_iald_j F (j := q) ho.k14 ho.n14 rfl ⟨(by omega), by decide⟩ dX7_plan_160 ?_
            refine cq_iast_j F (j := q) ho.k13 ho.n13 rfl ⟨(by omega), by decide⟩ dX7_plan_161 (fun M_161 h_161 => ?_)
            refine cq_iinc F dX7_plan_162 rfl (by decide) (fun x_162 e_162 => ?_)
            obtain rfl : x_162 = nI (q + 1) := by rw [e_162]; exact nI_1 _
            refine cq_goto F (tgt := 136) dX7_plan_165 (by decide) ?_
            refine cq_loc (L2 := [(0, .ref o), (1, .int (nI w)), (3, .int (nI s)), (4, .int (nI (q + 1)))]) rfl ?_
            exact ih_136 Ma (q + 1) M_161 hs9 hTa hFa hba hfa (by omega) (fun x j => by
                have e1 : M7 (o + 14) q = Ma (o + 14) q := by rw [hq, if_neg (by omega)]
                rw [h_161, e1]
                by_cases x1 : x = o + 13
                · subst x1
                  by_cases j1 : j = q
                  · subst j1; rw [cq_up_s, if_pos ⟨rfl, by omega⟩]
                  · rw [cq_up_k j1, hq]
                    by_cases j2 : j < q
                    · rw [if_pos ⟨rfl, j2⟩, if_pos ⟨rfl, by omega⟩]
                    · rw [if_neg (fun z => j2 z.2), if_neg (by omega)]
                · rw [cq_up_a x1, hq, if_neg (fun z => x1 z.1), if_neg (fun z => x1 z.1)]) (by omega)
      have loop_109 : ∀ (n_109 : Nat) (k : Nat) (M6 : cq_M), s < 3 → k ≤ (pl_lv (pb g w (g 6)) s).length → pm_R M6 o (pl_lv (pb g w (g 6)) s) → pm_T M6 o (((pl_lv (pb g w (g 6)) s).take k).flatMap pl_all) → cq_nv M6 (o + 12) 1081 (List.foldl pl_note (fun _ => 0) (pl_tot (pb g w (g 6)) s ++ (((pl_lv (pb g w (g 6)) s).take k).flatMap pl_all))) → (∀ t, (List.foldl pl_note (fun _ => 0) (pl_tot (pb g w (g 6)) s ++ (((pl_lv (pb g w (g 6)) s).take k).flatMap pl_all))) t ≤ 1080) → pp_fr M M6 o → (pl_lv (pb g w (g 6)) s).length + 1 - k < n_109 → cq_V p9 l e9 rmX7_plan s9 m9 ([.ref o, .int (nI w)] : List Value).toArray b9 t9 c9 D cA X Bs 5 0 0 (MQ b9 (cq_Q D cA X Bs (cq_PV (fun M1 => cq_nv M1 (o + 12) 1081 (pl_F (pb g w (g 6))) ∧ (∀ t, pl_F (pb g w (g 6)) t ≤ 1080) ∧ pp_fr M M1 o))) ([.ref o, .int (nI w)] : List Value).toArray s9 0 0 (cq_A Bs)) 109 [(0, .ref o), (1, .int (nI w)), (3, .int (nI s)), (4, .int (nI k))] [] M6 := by
        intro n_109
        induction n_109 with
        | zero =>
          intros
          omega
        | succ n_109 ih_109 =>
          intro k M6 hs9 hk9 hR hT hF hb hfk hn
          have hl702 := pl_lv_len hbg (show s ≤ 3 by omega)
          refine cq_iload F dX7_plan_109 rfl ?_
          refine cq_aload_n F (i := 0) dX7_plan_111 rfl rfl ?_
          refine cq_getI F (C := RX7) (T := TX7) (N := 22) (ci := 8) ho.kind rfl ⟨⟨by decide, by decide⟩, rfl⟩ inX7 19 (by decide) rfl rfl (F.1.2.2.2.2 _ (List.mem_of_getElem? (l := wsX7_plan) (i := 3) (a := .fieldLink RX7 222 "CordClockModel" "fromMany" "I") (by decide +kernel))) dX7_plan_112 ?_
          rw [show M6 o 19 = nI ((pl_lv (pb g w (g 6)) s).length) from (show M6 o 19 = nI ((pl_lv (pb g w (g 6)) s).length) from hR.1)]
          refine cq_icmp_ge F (tgt := 133) dX7_plan_115 (by decide) (fun c_115 => ?_) (fun c_115 => ?_)
          · have c_115 : ((pl_lv (pb g w (g 6)) s).length) ≤ k := (nI_b (a := ((pl_lv (pb g w (g 6)) s).length)) (b := k) (by omega) (by omega)).1.mp c_115
            obtain rfl : k = (pl_lv (pb g w (g 6)) s).length := by omega
            rw [List.take_length] at hT hF hb
            refine cq_iconst F (v := 0) dX7_plan_133 rfl ?_
            refine cq_istore F dX7_plan_134 (by decide) ?_
            refine cq_loc (L2 := [(0, .ref o), (1, .int (nI w)), (3, .int (nI s)), (4, .int (nI 0))]) rfl ?_
            exact loop_136 (8 * (pl_lv (pb g w (g 6)) (s + 1)).length + 2) M6 0 M6 hs9 hT hF hb hfk (Nat.zero_le _) (fun x j => by rw [if_neg (by omega)]) (by omega)
          · have c_115 : ¬ ((pl_lv (pb g w (g 6)) s).length) ≤ k := fun z => c_115 ((nI_b (a := ((pl_lv (pb g w (g 6)) s).length)) (b := k) (by omega) (by omega)).1.mpr z)
            obtain ⟨x, hx⟩ : ∃ x, (pl_lv (pb g w (g 6)) s)[k]? = some x := ⟨_, List.getElem?_eq_getElem (by omega)⟩
            have hl702 := pl_lv_len hbg (show s ≤ 3 by omega)
            refine cq_aload_n F (i := 0) dX7_plan_118 rfl rfl ?_
            refine cq_bipush F (v := 8) dX7_plan_119 (by decide) ?_
            refine cq_iload F dX7_plan_121 rfl ?_
            refine cq_imul F dX7_plan_123 ?_
            rw [show (8 * nI k : Int32) = nI (8 * k) from pk_mul _ _]
            refine cq_callV F (C := RX7) (ci := 8) (kX7_choose l D cA X Bs o (8 * k) x (List.foldl pl_note (fun _ => 0) (pl_tot (pb g w (g 6)) s ++ (((pl_lv (pb g w (g 6)) s).take k).flatMap pl_all))) (((pl_lv (pb g w (g 6)) s).take k).flatMap pl_all) M6 ho (by omega) (hR.2 k x hx) hT hF hb (pl_lv_ok hbg hs9 (List.mem_of_getElem? hx)) (by have z := pl_take_len hx; have z2 := pl_lv_len hbg (show s + 1 ≤ 3 by omega); have z3 : (pl_lv (pb g w (g 6)) (s + 1)).length = ((pl_lv (pb g w (g 6)) s).flatMap pl_all).length := rfl; omega)) (cwV 1 F.1.2.2.2.2 gX7_plan_X7_choose rfl rfl rfl hdVX7_choose ⟨Nat.le_of_ble_eq_true rfl, Nat.le_of_ble_eq_true rfl⟩) ho.kind ⟨by decide, by decide⟩ rfl rfl rfl (Nat.le_of_ble_eq_true rfl) dX7_plan_124 ⟨Nat.le_of_ble_eq_true rfl, Nat.le_of_ble_eq_true rfl⟩ (cq_kV fun M_124 h_124 => ?_)
            refine cq_iinc F dX7_plan_127 rfl (by decide) (fun x_127 e_127 => ?_)
            obtain rfl : x_127 = nI (k + 1) := by rw [e_127]; exact nI_1 _
            refine cq_goto F (tgt := 109) dX7_plan_130 (by decide) ?_
            refine cq_loc (L2 := [(0, .ref o), (1, .int (nI w)), (3, .int (nI s)), (4, .int (nI (k + 1)))]) rfl ?_
            exact ih_109 (k + 1) M_124 hs9 (by omega) ⟨by rw [h_124.2.2.2.2 _ (by omega)]; exact hR.1, fun i x hx j hj => by rw [h_124.2.2.2.1 _ (by omega) (by omega) (by omega)]; exact hR.2 i x hx j hj⟩ (by rw [pl_take_s hx]; exact h_124.1) (by rw [pl_take_s hx, ← List.append_assoc, List.foldl_append]; exact h_124.2.1) (by rw [pl_take_s hx, ← List.append_assoc, List.foldl_append]; exact h_124.2.2.1) (hfk.trans h_124.2.2.2.pp) (by omega)
      refine cq_iload_n F (i := 3) dX7_plan_96 rfl rfl ?_
      refine cq_iconst F (v := 3) dX7_plan_97 rfl ?_
      refine cq_icmp_ge F (tgt := 182) dX7_plan_98 (by decide) (fun c_98 => ?_) (fun c_98 => ?_)
      · have c_98 : 3 ≤ s := (nI_b (a := 3) (b := s) (by omega) (by omega)).1.mp c_98
        obtain rfl : s = 3 := by omega
        refine cq_vret F hr (by decide) (by decide) dX7_plan_182 ⟨rfl, ?_⟩
        have e9 : (List.foldl pl_note (fun _ => 0) (pl_tot (pb g w (g 6)) 3)) = pl_F (pb g w (g 6)) := by show _ = List.foldl pl_note (fun _ => 0) _; rw [pl_tot_3]
        rw [← e9]
        exact ⟨hF5, hb5, hf5⟩
      · have c_98 : ¬ 3 ≤ s := fun z => c_98 ((nI_b (a := 3) (b := s) (by omega) (by omega)).1.mpr z)
        refine cq_aload_n F (i := 0) dX7_plan_101 rfl rfl ?_
        refine cq_iconst F (v := 0) dX7_plan_102 rfl ?_
        refine cq_put F (C := RX7) (T := TX7) (N := 22) (ci := 8) ho.kind rfl ⟨⟨by decide, by decide⟩, rfl⟩ inX7 tyX7 tyX7_ok nmX7 21 (by decide) rfl rfl (F.1.2.2.2.2 _ (List.mem_of_getElem? (l := wsX7_plan) (i := 5) (a := .fieldLink RX7 215 "CordClockModel" "toMany" "I") (by decide +kernel))) rfl (by rfl) (by rfl) dX7_plan_103 (fun M_103 h_103 => ?_)
        refine cq_iconst F (v := 0) dX7_plan_106 rfl ?_
        refine cq_istore F dX7_plan_107 (by decide) ?_
        refine cq_loc (L2 := [(0, .ref o), (1, .int (nI w)), (3, .int (nI s)), (4, .int (nI 0))]) rfl ?_
        exact loop_109 ((pl_lv (pb g w (g 6)) s).length + 2) 0 M_103 (by omega) (Nat.zero_le _) ⟨by rw [h_103, cq_up_k (by omega)]; exact hR5.1, fun i x hx j hj => by rw [h_103, cq_up_a (by omega)]; exact hR5.2 i x hx j hj⟩ (pm_T.nil (by rw [h_103]; exact cq_up_s _ _ _ _)) (fun j hj => by rw [h_103, cq_up_a (by omega)]; rw [show (pl_tot (pb g w (g 6)) s ++ ((pl_lv (pb g w (g 6)) s).take 0).flatMap pl_all) = pl_tot (pb g w (g 6)) s from List.append_nil _]; exact hF5 j hj) (by rw [show (pl_tot (pb g w (g 6)) s ++ ((pl_lv (pb g w (g 6)) s).take 0).flatMap pl_all) = pl_tot (pb g w (g 6)) s from List.append_nil _]; exact hb5) (hf5.trans ⟨fun x x1 x2 x3 x4 => by rw [h_103, cq_up_row x1], fun j j1 j2 => by rw [h_103, cq_up_k j2]⟩) (by omega)
  have loop_52 : ∀ (n_52 : Nat) (mn n : Nat) (M4 : cq_M), mn = pb_m w n → n ≤ g 6 → (∀ j, j < 8 → M4 (o + 13) j = nI (pb g w n j)) → cq_nv M4 (o + 12) 1081 (fun _ => 0) → M4 o 19 = nI 1 → pp_fr M M4 o → g 6 + 1 - n < n_52 → cq_V p9 l e9 rmX7_plan s9 m9 ([.ref o, .int (nI w)] : List Value).toArray b9 t9 c9 D cA X Bs 5 0 0 (MQ b9 (cq_Q D cA X Bs (cq_PV (fun M1 => cq_nv M1 (o + 12) 1081 (pl_F (pb g w (g 6))) ∧ (∀ t, pl_F (pb g w (g 6)) t ≤ 1080) ∧ pp_fr M M1 o))) ([.ref o, .int (nI w)] : List Value).toArray s9 0 0 (cq_A Bs)) 52 [(0, .ref o), (1, .int (nI w)), (2, .int (nI mn)), (3, .int (nI n))] [] M4 := by
    intro n_52
    induction n_52 with
    | zero =>
      intros
      omega
    | succ n_52 ih_52 =>
      intro mn n M4 hmn hn6 hpb hF4 h19 hfp hn
      refine cq_iload_n F (i := 3) dX7_plan_52 rfl rfl ?_
      refine cq_aload_n F (i := 0) dX7_plan_53 rfl rfl ?_
      refine cq_getT (t := (o + 1)) F (C := RX7) (T := TX7) (N := 22) (ci := 8) ho.kind rfl ⟨⟨by decide, by decide⟩, rfl⟩ inX7 0 (by decide) rfl rfl ho.t0 (F.1.2.2.2.2 _ (List.mem_of_getElem? (l := wsX7_plan) (i := 4) (a := .fieldLink RX7 7 "CordClockModel" "row" "[I") (by decide +kernel))) dX7_plan_54 ?_
      refine cq_bipush F (v := 6) dX7_plan_57 (by decide) ?_
      refine cq_iald_j F (j := 6) ho.k1 ho.n1 rfl ⟨(by omega), by decide⟩ dX7_plan_59 ?_
      rw [(show M4 (o + 1) 6 = nI (g 6) by rw [hfp.1 _ (by omega) (by omega) (by omega) (by omega)]; exact hg 6 (by omega))]
      refine cq_icmp_ge F (tgt := 94) dX7_plan_60 (by decide) (fun c_60 => ?_) (fun c_60 => ?_)
      · have c_60 : (g 6) ≤ n := (nI_b (a := (g 6)) (b := n) (by omega) (by omega)).1.mp c_60
        obtain rfl : n = g 6 := by omega
        refine cq_iconst F (v := 0) dX7_plan_94 rfl ?_
        refine cq_istore_n F (i := 3) dX7_plan_95 rfl (by decide) ?_
        refine cq_loc (L2 := [(0, .ref o), (1, .int (nI w)), (3, .int (nI 0))]) rfl ?_
        exact loop_96 5 0 M4 (by omega) ⟨h19, fun i x hx j hj => by
          have hi1 : i < 1 := (List.getElem?_eq_some_iff.mp hx).1
          obtain rfl : i = 0 := by omega
          cases hx
          rw [Nat.mul_zero, Nat.zero_add]
          exact hpb j hj⟩ hF4 (fun t => Nat.zero_le _) hfp (by omega)
      · have c_60 : ¬ (g 6) ≤ n := fun z => c_60 ((nI_b (a := (g 6)) (b := n) (by omega) (by omega)).1.mpr z)
        refine cq_iload_n F (i := 1) dX7_plan_63 rfl rfl ?_
        refine cq_iload_n F (i := 3) dX7_plan_64 rfl rfl ?_
        refine cq_ishr F dX7_plan_65 ?_
        refine cq_iconst F (v := 1) dX7_plan_66 rfl ?_
        refine cq_iand F dX7_plan_67 ?_
        rw [(nI_set n (by omega) w hw).2]
        have hbit : w / 2 ^ n % 2 < 2 := Nat.mod_lt _ (by decide)
        refine cq_iconst F (v := 1) dX7_plan_68 rfl ?_
        refine cq_icmp_ne F (tgt := 88) dX7_plan_69 (by decide) (fun c_69 => ?_) (fun c_69 => ?_)
        · have c_69 : ¬ (w / 2 ^ n % 2) = 1 := fun z => c_69 ((nI_b (a := (w / 2 ^ n % 2)) (b := 1) (by omega) (by omega)).2.2.mpr z)
          refine cq_iinc F dX7_plan_88 rfl (by decide) (fun x_88 e_88 => ?_)
          obtain rfl : x_88 = nI (n + 1) := by rw [e_88]; exact nI_1 _
          refine cq_goto F (tgt := 52) dX7_plan_91 (by decide) ?_
          refine cq_loc (L2 := [(0, .ref o), (1, .int (nI w)), (2, .int (nI mn)), (3, .int (nI (n + 1)))]) rfl ?_
          exact ih_52 mn (n + 1) M4 (by rw [hmn]; show _ = pb_m w n + w / 2 ^ n % 2; omega) (by omega) (fun j hj => by
            show _ = nI ((if w / 2 ^ n % 2 = 1 then ns_up (pb g w n) (1 + pb_m w n) (ns_time g n) else pb g w n) j)
            rw [if_neg c_69]
            exact hpb j hj) hF4 h19 hfp (by omega)
        · have c_69 : (w / 2 ^ n % 2) = 1 := (nI_b (a := (w / 2 ^ n % 2)) (b := 1) (by omega) (by omega)).2.2.mp c_69
          have hmn9 : mn ≤ 2 := by have z := pb_m_mono (w := w) (show n + 1 ≤ 4 by omega); simp only [pb_m] at z hm; omega
          refine cq_aload_n F (i := 0) dX7_plan_72 rfl rfl ?_
          refine cq_getT (t := (o + 13)) F (C := RX7) (T := TX7) (N := 22) (ci := 8) ho.kind rfl ⟨⟨by decide, by decide⟩, rfl⟩ inX7 18 (by decide) rfl rfl ho.t18 (F.1.2.2.2.2 _ (List.mem_of_getElem? (l := wsX7_plan) (i := 2) (a := .fieldLink RX7 47 "CordClockModel" "from" "[I") (by decide +kernel))) dX7_plan_73 ?_
          refine cq_iconst F (v := 1) dX7_plan_76 rfl ?_
          refine cq_iload_n F (i := 2) dX7_plan_77 rfl rfl ?_
          refine cq_iadd F dX7_plan_78 ?_
          rw [show (1 + nI mn : Int32) = nI (1 + mn) from nI_add _ _]
          refine cq_aload_n F (i := 0) dX7_plan_79 rfl rfl ?_
          refine cq_iload_n F (i := 3) dX7_plan_80 rfl rfl ?_
          refine cq_callV F (C := RX7) (ci := 8) (kX7_timeOf l D cA X Bs o n g M4 ho (fun j hj => by rw [hfp.1 _ (by omega) (by omega) (by omega) (by omega)]; exact hg j hj) (by omega) (hk.2.2.2.1 n (by omega)).1.2) (cwV 1 F.1.2.2.2.2 gX7_plan_X7_timeOf rfl rfl rfl hdVX7_timeOf ⟨Nat.le_of_ble_eq_true rfl, Nat.le_of_ble_eq_true rfl⟩) ho.kind ⟨by decide, by decide⟩ rfl rfl rfl (Nat.le_of_ble_eq_true rfl) dX7_plan_81 ⟨Nat.le_of_ble_eq_true rfl, Nat.le_of_ble_eq_true rfl⟩ (cq_kIp fun r_81 h_81 => ?_)
          subst h_81
          refine cq_iast_j F (j := (1 + mn)) ho.k13 ho.n13 rfl ⟨(by omega), by decide⟩ dX7_plan_84 (fun M_84 h_84 => ?_)
          refine cq_iinc F dX7_plan_85 rfl (by decide) (fun x_85 e_85 => ?_)
          obtain rfl : x_85 = nI (mn + 1) := by rw [e_85]; exact nI_1 _
          refine cq_iinc F dX7_plan_88 rfl (by decide) (fun x_88 e_88 => ?_)
          obtain rfl : x_88 = nI (n + 1) := by rw [e_88]; exact nI_1 _
          refine cq_goto F (tgt := 52) dX7_plan_91 (by decide) ?_
          refine cq_loc (L2 := [(0, .ref o), (1, .int (nI w)), (2, .int (nI (mn + 1))), (3, .int (nI (n + 1)))]) rfl ?_
          exact ih_52 (mn + 1) (n + 1) M_84 (by rw [hmn]; show _ = pb_m w n + w / 2 ^ n % 2; rw [c_69]) (by omega) (fun j hj => by
            rw [h_84]
            show _ = nI ((if w / 2 ^ n % 2 = 1 then ns_up (pb g w n) (1 + pb_m w n) (ns_time g n) else pb g w n) j)
            rw [if_pos c_69, ← hmn]
            by_cases e : j = 1 + mn
            · rw [e, cq_up_s, ns_up_s]
            · rw [cq_up_k e, ns_up_n e]; exact hpb j hj) (fun j hj => by rw [h_84, cq_up_a (by omega)]; exact hF4 j hj) (by rw [h_84, cq_up_a (by omega)]; exact h19) ⟨fun x x1 x2 x3 x4 => by rw [h_84, cq_up_row x3]; exact hfp.1 x x1 x2 x3 x4, fun j j1 j2 => by rw [h_84, cq_up_a (by omega)]; exact hfp.2 j j1 j2⟩ (by omega)
  have loop_24 : ∀ (n_24 : Nat) (Ma : cq_M) (k : Nat) (M3 : cq_M), cq_nv Ma (o + 12) 1081 (fun _ => 0) → pp_fr M Ma o → k ≤ 8 → (∀ x j, M3 x j = if x = o + 13 ∧ j < k then nI 0 else Ma x j) → 9 - k < n_24 → cq_V p9 l e9 rmX7_plan s9 m9 ([.ref o, .int (nI w)] : List Value).toArray b9 t9 c9 D cA X Bs 5 0 0 (MQ b9 (cq_Q D cA X Bs (cq_PV (fun M1 => cq_nv M1 (o + 12) 1081 (pl_F (pb g w (g 6))) ∧ (∀ t, pl_F (pb g w (g 6)) t ≤ 1080) ∧ pp_fr M M1 o))) ([.ref o, .int (nI w)] : List Value).toArray s9 0 0 (cq_A Bs)) 24 [(0, .ref o), (1, .int (nI w)), (2, .int (nI k))] [] M3 := by
    intro n_24
    induction n_24 with
    | zero =>
      intros
      omega
    | succ n_24 ih_24 =>
      intro Ma k M3 hFa hfa hk8 h3 hn
      refine cq_iload_n F (i := 2) dX7_plan_24 rfl rfl ?_
      refine cq_bipush F (v := 8) dX7_plan_25 (by decide) ?_
      refine cq_icmp_ge F (tgt := 43) dX7_plan_27 (by decide) (fun c_27 => ?_) (fun c_27 => ?_)
      · have c_27 : 8 ≤ k := (nI_b (a := 8) (b := k) (by omega) (by omega)).1.mp c_27
        obtain rfl : k = 8 := by omega
        refine cq_aload_n F (i := 0) dX7_plan_43 rfl rfl ?_
        refine cq_iconst F (v := 1) dX7_plan_44 rfl ?_
        refine cq_put F (C := RX7) (T := TX7) (N := 22) (ci := 8) ho.kind rfl ⟨⟨by decide, by decide⟩, rfl⟩ inX7 tyX7 tyX7_ok nmX7 19 (by decide) rfl rfl (F.1.2.2.2.2 _ (List.mem_of_getElem? (l := wsX7_plan) (i := 3) (a := .fieldLink RX7 222 "CordClockModel" "fromMany" "I") (by decide +kernel))) rfl (by rfl) (by rfl) dX7_plan_45 (fun M_45 h_45 => ?_)
        refine cq_iconst F (v := 0) dX7_plan_48 rfl ?_
        refine cq_istore_n F (i := 2) dX7_plan_49 rfl (by decide) ?_
        refine cq_iconst F (v := 0) dX7_plan_50 rfl ?_
        refine cq_istore_n F (i := 3) dX7_plan_51 rfl (by decide) ?_
        refine cq_loc (L2 := [(0, .ref o), (1, .int (nI w)), (2, .int (nI 0)), (3, .int (nI 0))]) rfl ?_
        exact loop_52 (g 6 + 2) 0 0 M_45 rfl (Nat.zero_le _) (fun j hj => by rw [h_45, cq_up_a (by omega), h3, if_pos ⟨rfl, hj⟩]; rfl) (fun j hj => by rw [h_45, cq_up_a (by omega), h3, if_neg (by omega)]; exact hFa j hj) (by rw [h_45]; exact cq_up_s _ _ _ _) ⟨fun x x1 x2 x3 x4 => by rw [h_45, cq_up_row x1]; funext j; rw [h3, if_neg (fun z => x3 z.1)]; exact congrFun (hfa.1 x x1 x2 x3 x4) j, fun j j1 j2 => by rw [h_45, cq_up_k j1, h3, if_neg (by omega)]; exact hfa.2 j j1 j2⟩ (by omega)
      · have c_27 : ¬ 8 ≤ k := fun z => c_27 ((nI_b (a := 8) (b := k) (by omega) (by omega)).1.mpr z)
        refine cq_aload_n F (i := 0) dX7_plan_30 rfl rfl ?_
        refine cq_getT (t := (o + 13)) F (C := RX7) (T := TX7) (N := 22) (ci := 8) ho.kind rfl ⟨⟨by decide, by decide⟩, rfl⟩ inX7 18 (by decide) rfl rfl ho.t18 (F.1.2.2.2.2 _ (List.mem_of_getElem? (l := wsX7_plan) (i := 2) (a := .fieldLink RX7 47 "CordClockModel" "from" "[I") (by decide +kernel))) dX7_plan_31 ?_
        refine cq_iload_n F (i := 2) dX7_plan_34 rfl rfl ?_
        refine cq_iconst F (v := 0) dX7_plan_35 rfl ?_
        refine cq_iast_j F (j := k) ho.k13 ho.n13 rfl ⟨(by omega), by decide⟩ dX7_plan_36 (fun M_36 h_36 => ?_)
        refine cq_iinc F dX7_plan_37 rfl (by decide) (fun x_37 e_37 => ?_)
        obtain rfl : x_37 = nI (k + 1) := by rw [e_37]; exact nI_1 _
        refine cq_goto F (tgt := 24) dX7_plan_40 (by decide) ?_
        refine cq_loc (L2 := [(0, .ref o), (1, .int (nI w)), (2, .int (nI (k + 1)))]) rfl ?_
        exact ih_24 Ma (k + 1) M_36 hFa hfa (by omega) (pm_fill h3 h_36 rfl) (by omega)
  have loop_2 : ∀ (n_2 : Nat) (k : Nat) (M2 : cq_M), k ≤ 1081 → (∀ x j, M2 x j = if x = o + 12 ∧ j < k then nI 0 else M x j) → 1082 - k < n_2 → cq_V p9 l e9 rmX7_plan s9 m9 ([.ref o, .int (nI w)] : List Value).toArray b9 t9 c9 D cA X Bs 5 0 0 (MQ b9 (cq_Q D cA X Bs (cq_PV (fun M1 => cq_nv M1 (o + 12) 1081 (pl_F (pb g w (g 6))) ∧ (∀ t, pl_F (pb g w (g 6)) t ≤ 1080) ∧ pp_fr M M1 o))) ([.ref o, .int (nI w)] : List Value).toArray s9 0 0 (cq_A Bs)) 2 [(0, .ref o), (1, .int (nI w)), (2, .int (nI k))] [] M2 := by
    intro n_2
    induction n_2 with
    | zero =>
      intros
      omega
    | succ n_2 ih_2 =>
      intro k M2 hk8 h2 hn
      refine cq_iload_n F (i := 2) dX7_plan_2 rfl rfl ?_
      refine cq_sipush F (v := 1080) dX7_plan_3 (by decide) ?_
      refine cq_icmp_gt F (tgt := 22) dX7_plan_6 (by decide) (fun c_6 => ?_) (fun c_6 => ?_)
      · have c_6 : 1080 < k := (nI_b (a := 1080) (b := k) (by omega) (by omega)).2.1.mp c_6
        obtain rfl : k = 1081 := by omega
        refine cq_iconst F (v := 0) dX7_plan_22 rfl ?_
        refine cq_istore_n F (i := 2) dX7_plan_23 rfl (by decide) ?_
        refine cq_loc (L2 := [(0, .ref o), (1, .int (nI w)), (2, .int (nI 0))]) rfl ?_
        exact loop_24 10 M2 0 M2 (fun j hj => by rw [h2, if_pos ⟨rfl, hj⟩]) ⟨fun x x1 x2 x3 x4 => by funext j; rw [h2, if_neg (fun z => x2 z.1)], fun j j1 j2 => by rw [h2, if_neg (by omega)]⟩ (by omega) (fun x j => by rw [if_neg (by omega)]) (by omega)
      · have c_6 : ¬ 1080 < k := fun z => c_6 ((nI_b (a := 1080) (b := k) (by omega) (by omega)).2.1.mpr z)
        refine cq_aload_n F (i := 0) dX7_plan_9 rfl rfl ?_
        refine cq_getT (t := (o + 12)) F (C := RX7) (T := TX7) (N := 22) (ci := 8) ho.kind rfl ⟨⟨by decide, by decide⟩, rfl⟩ inX7 17 (by decide) rfl rfl ho.t17 (F.1.2.2.2.2 _ (List.mem_of_getElem? (l := wsX7_plan) (i := 1) (a := .fieldLink RX7 44 "CordClockModel" "fewest" "[I") (by decide +kernel))) dX7_plan_10 ?_
        refine cq_iload_n F (i := 2) dX7_plan_13 rfl rfl ?_
        refine cq_iconst F (v := 0) dX7_plan_14 rfl ?_
        refine cq_iast_j F (j := k) ho.k12 ho.n12 rfl ⟨(by omega), by decide⟩ dX7_plan_15 (fun M_15 h_15 => ?_)
        refine cq_iinc F dX7_plan_16 rfl (by decide) (fun x_16 e_16 => ?_)
        obtain rfl : x_16 = nI (k + 1) := by rw [e_16]; exact nI_1 _
        refine cq_goto F (tgt := 2) dX7_plan_19 (by decide) ?_
        refine cq_loc (L2 := [(0, .ref o), (1, .int (nI w)), (2, .int (nI (k + 1)))]) rfl ?_
        exact ih_2 (k + 1) M_15 (by omega) (pm_fill h2 h_15 rfl) (by omega)
  refine cq_iconst F (v := 0) dX7_plan_0 rfl ?_
  refine cq_istore_n F (i := 2) dX7_plan_1 rfl (by decide) ?_
  refine cq_loc (L2 := [(0, .ref o), (1, .int (nI w)), (2, .int (nI 0))]) rfl ?_
  exact loop_2 1083 0 M (by omega) (fun x j => by rw [if_neg (by omega)]) (by omega)
theorem hdVX7_plan : yX7_plan.cls = RX7 ∧ yX7_plan.cls ≠ "java/lang/invoke/MethodHandle" ∧ yX7_plan.cls ≠ "java/lang/invoke/VarHandle" ∧ (parseMethodDescriptor yX7_plan.desc).map (fun d => d.parameters.length) = some 1 := by decide +kernel
