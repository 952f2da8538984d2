/-! CordClockModel: signals and steps -/
abbrev rmX7_signal : Room := ({ frames := 4, cells := 0, slots := 0, locals := 88 })
set_option maxHeartbeats 4000000 in
set_option maxRecDepth 100000 in
theorem kX7_signal (l : Launch) (D : va_G) (cA : Nat → ClassId) (X : cq_X) (Bs : Nat) (o c B : Nat) (g : Nat → Nat) (M : cq_M) (ho : cq_isModel X o) (hg : cq_nv M (o + 1) 109 g) (hk : ns_ok g B) (hc : c < g 6) : cq_C l yX7_signal wsX7_signal rmX7_signal D cA X Bs [.ref o, .int (nI c)] M (cq_PV (fun M1 => cq_nv M1 (o + 1) 109 (ns_signal g c) ∧ cq_only M M1 (o + 1))) 0 0 := by
  refine cq_met (cc := cX7_signal) (maxL := 4) (ret := none) (by decide) rfl (Nat.le_of_ble_eq_true rfl) [(0, .ref o), (1, .int (nI c))] rfl rfl ?_
  intro p9 e9 s9 m9 b9 t9 c9 F hr
  have inX7 : ∀ w ∈ wsX70, w ∈ wsX7_signal := (fun w h => List.mem_cons_of_mem _ (List.mem_append_right _ h))
  have hk6 := hk.1
  obtain ⟨hs1, hs2⟩ := ns_sig0_ok hk hc
  have e51 := hs2 51 (by omega) (by omega) (by omega)
  have hk51 := hk.2.1
  have loop_31 : ∀ (n_31 : Nat) (k : Nat) (M2 : cq_M) (g2 : Nat → Nat), k ≤ g 51 → cq_nv M2 (o + 1) 109 g2 → cq_only M M2 (o + 1) → g2 = ns_rules (ns_sig0 g c) c k → g 51 - k < n_31 → cq_V p9 l e9 rmX7_signal s9 m9 ([.ref o, .int (nI c)] : List Value).toArray b9 t9 c9 D cA X Bs 4 0 0 (MQ b9 (cq_Q D cA X Bs (cq_PV (fun M1 => cq_nv M1 (o + 1) 109 (ns_signal g c) ∧ cq_only M M1 (o + 1)))) ([.ref o, .int (nI c)] : List Value).toArray s9 0 0 (cq_A Bs)) 31 [(0, .ref o), (1, .int (nI c)), (2, .int (nI k))] [] M2 := by
    intro n_31
    induction n_31 with
    | zero =>
      intros
      omega
    | succ n_31 ih_31 =>
      intro k M2 g2 hk1 hg2 ho2 he2 hn
      obtain ⟨hr1, hr2⟩ := ns_rules_ok (c := c) hs1 k (by omega)
      rw [← he2] at hr1 hr2
      have f51 := hr2 51 (by omega) (by omega) (by intros; omega) (by intros; omega)
      have hb51 := hr1.2.1
      have hb6 := hr1.1
      refine cq_iload_n F (i := 2) dX7_signal_31 rfl rfl ?_
      refine cq_aload_n F (i := 0) dX7_signal_32 rfl rfl ?_
      refine cq_getT (t := (o + 1)) F (C := RX7) (T := TX7) (N := 22) (ci := 8) ho.kind rfl ⟨⟨by decide, by decide⟩, rfl⟩ inX7 0 (by decide) rfl rfl ho.t0 (F.1.2.2.2.2 _ (List.mem_of_getElem? (l := wsX7_signal) (i := 1) (a := .fieldLink RX7 7 "CordClockModel" "row" "[I") (by decide +kernel))) dX7_signal_33 ?_
      refine cq_bipush F (v := 51) dX7_signal_36 (by decide) ?_
      refine cq_iald_j F (j := 51) ho.k1 ho.n1 rfl ⟨(by omega), by decide⟩ dX7_signal_38 ?_
      rw [hg2 _ (by omega)]
      refine cq_icmp_ge F (tgt := 138) dX7_signal_39 (by decide) (fun c_39 => ?_) (fun c_39 => ?_)
      · have c_39 : (g2 (51)) ≤ k := (nI_b (a := (g2 (51))) (b := k) (by omega) (by omega)).1.mp c_39
        refine cq_vret F hr (by decide) (by decide) dX7_signal_138 ⟨rfl, ?_⟩
        obtain rfl : k = g 51 := by omega
        rw [he2] at hg2
        exact ⟨hg2, ho2⟩
      · have c_39 : ¬ (g2 (51)) ≤ k := fun z => c_39 ((nI_b (a := (g2 (51))) (b := k) (by omega) (by omega)).1.mpr z)
        have hru := hr1.2.2.2.2.1 k (by omega)
        refine cq_bipush F (v := 52) dX7_signal_42 (by decide) ?_
        refine cq_iconst F (v := 4) dX7_signal_44 rfl ?_
        refine cq_iload_n F (i := 2) dX7_signal_45 rfl rfl ?_
        refine cq_imul F dX7_signal_46 ?_
        rw [show (4 * nI k : Int32) = nI (4 * k) from pk_mul _ _]
        refine cq_iadd F dX7_signal_47 ?_
        rw [show (52 + nI (4 * k) : Int32) = nI (52 + 4 * k) from nI_add _ _]
        refine cq_istore_n F (i := 3) dX7_signal_48 rfl (by decide) ?_
        refine cq_aload_n F (i := 0) dX7_signal_49 rfl rfl ?_
        refine cq_getT (t := (o + 1)) F (C := RX7) (T := TX7) (N := 22) (ci := 8) ho.kind rfl ⟨⟨by decide, by decide⟩, rfl⟩ inX7 0 (by decide) rfl rfl ho.t0 (F.1.2.2.2.2 _ (List.mem_of_getElem? (l := wsX7_signal) (i := 1) (a := .fieldLink RX7 7 "CordClockModel" "row" "[I") (by decide +kernel))) dX7_signal_50 ?_
        refine cq_iload_n F (i := 3) dX7_signal_53 rfl rfl ?_
        refine cq_iald_j F (j := (52 + 4 * k)) ho.k1 ho.n1 rfl ⟨(by omega), by decide⟩ dX7_signal_54 ?_
        rw [hg2 _ (by omega)]
        refine cq_iload_n F (i := 1) dX7_signal_55 rfl rfl ?_
        refine cq_icmp_ne F (tgt := 132) dX7_signal_56 (by decide) (fun c_56 => ?_) (fun c_56 => ?_)
        · have c_56 : ¬ (g2 ((52 + 4 * k))) = c := fun z => c_56 ((nI_b (a := (g2 ((52 + 4 * k)))) (b := c) (by omega) (by omega)).2.2.mpr z)
          refine cq_iinc F dX7_signal_132 rfl (by decide) (fun x_132 e_132 => ?_)
          obtain rfl : x_132 = nI (k + 1) := by rw [e_132]; exact nI_1 _
          refine cq_goto F (tgt := 31) dX7_signal_135 (by decide) ?_
          refine cq_loc (L2 := [(0, .ref o), (1, .int (nI c)), (2, .int (nI (k + 1)))]) rfl ?_
          exact ih_31 (k + 1) M2 _ (by omega) hg2 ho2 (by rw [ns_rules, ← he2]; unfold ns_rule1; first | exact (if_neg (fun z => c_56 z.1)).symm | exact (if_neg (fun z => c_88 (by have z2 := z.2; rw [hx9] at z2; exact z2))).symm | (rw [eg_131, if_pos (show g2 (52 + 4 * k) = c ∧ ns_canLight g2 (g2 (53 + 4 * k)) (ns_x g2 k) from ⟨c_56, by rw [hx9]; exact c_88⟩), hx9])) (by omega)
        · have c_56 : (g2 ((52 + 4 * k))) = c := (nI_b (a := (g2 ((52 + 4 * k)))) (b := c) (by omega) (by omega)).2.2.mp c_56
          refine cq_aload_n F (i := 0) dX7_signal_59 rfl rfl ?_
          refine cq_aload_n F (i := 0) dX7_signal_60 rfl rfl ?_
          refine cq_getT (t := (o + 1)) F (C := RX7) (T := TX7) (N := 22) (ci := 8) ho.kind rfl ⟨⟨by decide, by decide⟩, rfl⟩ inX7 0 (by decide) rfl rfl ho.t0 (F.1.2.2.2.2 _ (List.mem_of_getElem? (l := wsX7_signal) (i := 1) (a := .fieldLink RX7 7 "CordClockModel" "row" "[I") (by decide +kernel))) dX7_signal_61 ?_
          refine cq_iload_n F (i := 3) dX7_signal_64 rfl rfl ?_
          refine cq_iconst F (v := 1) dX7_signal_65 rfl ?_
          refine cq_iadd F dX7_signal_66 ?_
          rw [show (nI (52 + 4 * k) + 1 : Int32) = nI ((52 + 4 * k) + 1) from nI_add _ _]
          refine cq_iald_j F (j := 53 + 4 * k) ho.k1 ho.n1 (congrArg nI (by omega)) ⟨(by omega), by decide⟩ dX7_signal_67 ?_
          rw [hg2 _ (by omega)]
          refine cq_aload_n F (i := 0) dX7_signal_68 rfl rfl ?_
          refine cq_getT (t := (o + 1)) F (C := RX7) (T := TX7) (N := 22) (ci := 8) ho.kind rfl ⟨⟨by decide, by decide⟩, rfl⟩ inX7 0 (by decide) rfl rfl ho.t0 (F.1.2.2.2.2 _ (List.mem_of_getElem? (l := wsX7_signal) (i := 1) (a := .fieldLink RX7 7 "CordClockModel" "row" "[I") (by decide +kernel))) dX7_signal_69 ?_
          refine cq_iload_n F (i := 3) dX7_signal_72 rfl rfl ?_
          refine cq_iconst F (v := 2) dX7_signal_73 rfl ?_
          refine cq_iadd F dX7_signal_74 ?_
          rw [show (nI (52 + 4 * k) + 2 : Int32) = nI ((52 + 4 * k) + 2) from nI_add _ _]
          refine cq_iald_j F (j := 54 + 4 * k) ho.k1 ho.n1 (congrArg nI (by omega)) ⟨(by omega), by decide⟩ dX7_signal_75 ?_
          rw [hg2 _ (by omega)]
          refine cq_iconst F (v := 1) dX7_signal_76 rfl ?_
          refine cq_icmp_ne F (tgt := 84) dX7_signal_77 (by decide) (fun c_77 => ?_) (fun c_77 => ?_)
          · have c_77 : ¬ (g2 (54 + 4 * k)) = 1 := fun z => c_77 ((nI_b (a := (g2 (54 + 4 * k))) (b := 1) (by omega) (by omega)).2.2.mpr z)
            have hx9 : ns_x g2 k = 0 := if_neg c_77
            refine cq_iconst F (v := 0) dX7_signal_84 rfl ?_
            refine cq_callV F (C := RX7) (ci := 8) (kX7_canLight l D cA X Bs o (g2 (53 + 4 * k)) 0 g2 M2 ho hg2 (by omega) (hr1.2.2.2.1 _ hru.2.1)) (cwV 2 F.1.2.2.2.2 gX7_signal_X7_canLight rfl rfl rfl hdVX7_canLight ⟨Nat.le_of_ble_eq_true rfl, Nat.le_of_ble_eq_true rfl⟩) ho.kind ⟨by decide, by decide⟩ rfl rfl rfl (Nat.le_of_ble_eq_true rfl) dX7_signal_85 ⟨Nat.le_of_ble_eq_true rfl, Nat.le_of_ble_eq_true rfl⟩ (cq_kIp fun r_85 h_85 => ?_)
            refine cq_if_eq F (tgt := 132) dX7_signal_88 (by decide) (fun c_88 => ?_) (fun c_88 => ?_)
            · have c_88 := cq_b0 h_85 c_88
              refine cq_iinc F dX7_signal_132 rfl (by decide) (fun x_132 e_132 => ?_)
              obtain rfl : x_132 = nI (k + 1) := by rw [e_132]; exact nI_1 _
              refine cq_goto F (tgt := 31) dX7_signal_135 (by decide) ?_
              refine cq_loc (L2 := [(0, .ref o), (1, .int (nI c)), (2, .int (nI (k + 1)))]) rfl ?_
              exact ih_31 (k + 1) M2 _ (by omega) hg2 ho2 (by rw [ns_rules, ← he2]; unfold ns_rule1; first | exact (if_neg (fun z => c_56 z.1)).symm | exact (if_neg (fun z => c_88 (by have z2 := z.2; rw [hx9] at z2; exact z2))).symm | (rw [eg_131, if_pos (show g2 (52 + 4 * k) = c ∧ ns_canLight g2 (g2 (53 + 4 * k)) (ns_x g2 k) from ⟨c_56, by rw [hx9]; exact c_88⟩), hx9])) (by omega)
            · have c_88 := cq_b1 h_85 c_88
              refine cq_aload_n F (i := 0) dX7_signal_91 rfl rfl ?_
              refine cq_aload_n F (i := 0) dX7_signal_92 rfl rfl ?_
              refine cq_getT (t := (o + 1)) F (C := RX7) (T := TX7) (N := 22) (ci := 8) ho.kind rfl ⟨⟨by decide, by decide⟩, rfl⟩ inX7 0 (by decide) rfl rfl ho.t0 (F.1.2.2.2.2 _ (List.mem_of_getElem? (l := wsX7_signal) (i := 1) (a := .fieldLink RX7 7 "CordClockModel" "row" "[I") (by decide +kernel))) dX7_signal_93 ?_
              refine cq_iload_n F (i := 3) dX7_signal_96 rfl rfl ?_
              refine cq_iconst F (v := 1) dX7_signal_97 rfl ?_
              refine cq_iadd F dX7_signal_98 ?_
              rw [show (nI (52 + 4 * k) + 1 : Int32) = nI ((52 + 4 * k) + 1) from nI_add _ _]
              refine cq_iald_j F (j := 53 + 4 * k) ho.k1 ho.n1 (congrArg nI (by omega)) ⟨(by omega), by decide⟩ dX7_signal_99 ?_
              rw [hg2 _ (by omega)]
              refine cq_aload_n F (i := 0) dX7_signal_100 rfl rfl ?_
              refine cq_getT (t := (o + 1)) F (C := RX7) (T := TX7) (N := 22) (ci := 8) ho.kind rfl ⟨⟨by decide, by decide⟩, rfl⟩ inX7 0 (by decide) rfl rfl ho.t0 (F.1.2.2.2.2 _ (List.mem_of_getElem? (l := wsX7_signal) (i := 1) (a := .fieldLink RX7 7 "CordClockModel" "row" "[I") (by decide +kernel))) dX7_signal_101 ?_
              refine cq_iload_n F (i := 3) dX7_signal_104 rfl rfl ?_
              refine cq_iconst F (v := 2) dX7_signal_105 rfl ?_
              refine cq_iadd F dX7_signal_106 ?_
              rw [show (nI (52 + 4 * k) + 2 : Int32) = nI ((52 + 4 * k) + 2) from nI_add _ _]
              refine cq_iald_j F (j := 54 + 4 * k) ho.k1 ho.n1 (congrArg nI (by omega)) ⟨(by omega), by decide⟩ dX7_signal_107 ?_
              rw [hg2 _ (by omega)]
              refine cq_iconst F (v := 1) dX7_signal_108 rfl ?_
              refine cq_icmp_ne F (tgt := 116) dX7_signal_109 (by decide) (fun c_109 => ?_) (fun c_109 => ?_)
              · have c_109 : ¬ (g2 (54 + 4 * k)) = 1 := fun z => c_109 ((nI_b (a := (g2 (54 + 4 * k))) (b := 1) (by omega) (by omega)).2.2.mpr z)
                refine cq_iconst F (v := 0) dX7_signal_116 rfl ?_
                refine cq_callV F (C := RX7) (ci := 8) (kX7_lightNow l D cA X Bs o (g2 (53 + 4 * k)) 0 g2 M2 ho hg2 (by omega) (hr1.2.2.2.1 _ hru.2.1).2.2.2.1 c_88.2 hr1.2.2.1) (cwV 2 F.1.2.2.2.2 gX7_signal_X7_lightNow rfl rfl rfl hdVX7_lightNow ⟨Nat.le_of_ble_eq_true rfl, Nat.le_of_ble_eq_true rfl⟩) ho.kind ⟨by decide, by decide⟩ rfl rfl rfl (Nat.le_of_ble_eq_true rfl) dX7_signal_117 ⟨Nat.le_of_ble_eq_true rfl, Nat.le_of_ble_eq_true rfl⟩ (cq_kV fun M_117 h_117 => ?_)
                refine cq_aload_n F (i := 0) dX7_signal_120 rfl rfl ?_
                refine cq_getT (t := (o + 1)) F (C := RX7) (T := TX7) (N := 22) (ci := 8) ho.kind rfl ⟨⟨by decide, by decide⟩, rfl⟩ inX7 0 (by decide) rfl rfl ho.t0 (F.1.2.2.2.2 _ (List.mem_of_getElem? (l := wsX7_signal) (i := 1) (a := .fieldLink RX7 7 "CordClockModel" "row" "[I") (by decide +kernel))) dX7_signal_121 ?_
                refine cq_iload_n F (i := 3) dX7_signal_124 rfl rfl ?_
                refine cq_iconst F (v := 3) dX7_signal_125 rfl ?_
                refine cq_iadd F dX7_signal_126 ?_
                rw [show (nI (52 + 4 * k) + 3 : Int32) = nI ((52 + 4 * k) + 3) from nI_add _ _]
                refine cq_dup2 F dX7_signal_127 rfl rfl ?_
                refine cq_iald_j F (j := 55 + 4 * k) ho.k1 ho.n1 (congrArg nI (by omega)) ⟨(by omega), by decide⟩ dX7_signal_128 ?_
                rw [h_117.1 _ (by omega)]
                refine cq_iconst F (v := 1) dX7_signal_129 rfl ?_
                refine cq_iadd F dX7_signal_130 ?_
                rw [show (nI ((ns_lightNow g2 (g2 (53 + 4 * k)) 0) (55 + 4 * k)) + 1 : Int32) = nI (((ns_lightNow g2 (g2 (53 + 4 * k)) 0) (55 + 4 * k)) + 1) from nI_add _ _]
                refine cq_iast_j F (j := 55 + 4 * k) ho.k1 ho.n1 (congrArg nI (by omega)) ⟨(by omega), by decide⟩ dX7_signal_131 (fun M_131 h_131 => ?_)
                obtain ⟨g_131, eg_131⟩ : ∃ z, z = ns_up (ns_lightNow g2 (g2 (53 + 4 * k)) 0) (55 + 4 * k) ((((ns_lightNow g2 (g2 (53 + 4 * k)) 0) (55 + 4 * k)) + 1)) := ⟨_, rfl⟩
                have v_131_o1 : cq_nv M_131 (o + 1) 109 g_131 := by rw [eg_131]; exact h_117.1.up h_131
                refine cq_iinc F dX7_signal_132 rfl (by decide) (fun x_132 e_132 => ?_)
                obtain rfl : x_132 = nI (k + 1) := by rw [e_132]; exact nI_1 _
                refine cq_goto F (tgt := 31) dX7_signal_135 (by decide) ?_
                refine cq_loc (L2 := [(0, .ref o), (1, .int (nI c)), (2, .int (nI (k + 1)))]) rfl ?_
                exact ih_31 (k + 1) M_131 _ (by omega) v_131_o1 ((ho2.trans h_117.2).up h_131) (by rw [ns_rules, ← he2]; unfold ns_rule1; first | exact (if_neg (fun z => c_56 z.1)).symm | exact (if_neg (fun z => c_88 (by have z2 := z.2; rw [hx9] at z2; exact z2))).symm | (rw [eg_131, if_pos (show g2 (52 + 4 * k) = c ∧ ns_canLight g2 (g2 (53 + 4 * k)) (ns_x g2 k) from ⟨c_56, by rw [hx9]; exact c_88⟩), hx9])) (by omega)
              · have c_109 : (g2 (54 + 4 * k)) = 1 := (nI_b (a := (g2 (54 + 4 * k))) (b := 1) (by omega) (by omega)).2.2.mp c_109
                omega
          · have c_77 : (g2 (54 + 4 * k)) = 1 := (nI_b (a := (g2 (54 + 4 * k))) (b := 1) (by omega) (by omega)).2.2.mp c_77
            have hx9 : ns_x g2 k = 1 := if_pos c_77
            refine cq_iconst F (v := 1) dX7_signal_80 rfl ?_
            refine cq_goto F (tgt := 85) dX7_signal_81 (by decide) ?_
            refine cq_callV F (C := RX7) (ci := 8) (kX7_canLight l D cA X Bs o (g2 (53 + 4 * k)) 1 g2 M2 ho hg2 (by omega) (hr1.2.2.2.1 _ hru.2.1)) (cwV 2 F.1.2.2.2.2 gX7_signal_X7_canLight rfl rfl rfl hdVX7_canLight ⟨Nat.le_of_ble_eq_true rfl, Nat.le_of_ble_eq_true rfl⟩) ho.kind ⟨by decide, by decide⟩ rfl rfl rfl (Nat.le_of_ble_eq_true rfl) dX7_signal_85 ⟨Nat.le_of_ble_eq_true rfl, Nat.le_of_ble_eq_true rfl⟩ (cq_kIp fun r_85 h_85 => ?_)
            refine cq_if_eq F (tgt := 132) dX7_signal_88 (by decide) (fun c_88 => ?_) (fun c_88 => ?_)
            · have c_88 := cq_b0 h_85 c_88
              refine cq_iinc F dX7_signal_132 rfl (by decide) (fun x_132 e_132 => ?_)
              obtain rfl : x_132 = nI (k + 1) := by rw [e_132]; exact nI_1 _
              refine cq_goto F (tgt := 31) dX7_signal_135 (by decide) ?_
              refine cq_loc (L2 := [(0, .ref o), (1, .int (nI c)), (2, .int (nI (k + 1)))]) rfl ?_
              exact ih_31 (k + 1) M2 _ (by omega) hg2 ho2 (by rw [ns_rules, ← he2]; unfold ns_rule1; first | exact (if_neg (fun z => c_56 z.1)).symm | exact (if_neg (fun z => c_88 (by have z2 := z.2; rw [hx9] at z2; exact z2))).symm | (rw [eg_131, if_pos (show g2 (52 + 4 * k) = c ∧ ns_canLight g2 (g2 (53 + 4 * k)) (ns_x g2 k) from ⟨c_56, by rw [hx9]; exact c_88⟩), hx9])) (by omega)
            · have c_88 := cq_b1 h_85 c_88
              refine cq_aload_n F (i := 0) dX7_signal_91 rfl rfl ?_
              refine cq_aload_n F (i := 0) dX7_signal_92 rfl rfl ?_
              refine cq_getT (t := (o + 1)) F (C := RX7) (T := TX7) (N := 22) (ci := 8) ho.kind rfl ⟨⟨by decide, by decide⟩, rfl⟩ inX7 0 (by decide) rfl rfl ho.t0 (F.1.2.2.2.2 _ (List.mem_of_getElem? (l := wsX7_signal) (i := 1) (a := .fieldLink RX7 7 "CordClockModel" "row" "[I") (by decide +kernel))) dX7_signal_93 ?_
              refine cq_iload_n F (i := 3) dX7_signal_96 rfl rfl ?_
              refine cq_iconst F (v := 1) dX7_signal_97 rfl ?_
              refine cq_iadd F dX7_signal_98 ?_
              rw [show (nI (52 + 4 * k) + 1 : Int32) = nI ((52 + 4 * k) + 1) from nI_add _ _]
              refine cq_iald_j F (j := 53 + 4 * k) ho.k1 ho.n1 (congrArg nI (by omega)) ⟨(by omega), by decide⟩ dX7_signal_99 ?_
              rw [hg2 _ (by omega)]
              refine cq_aload_n F (i := 0) dX7_signal_100 rfl rfl ?_
              refine cq_getT (t := (o + 1)) F (C := RX7) (T := TX7) (N := 22) (ci := 8) ho.kind rfl ⟨⟨by decide, by decide⟩, rfl⟩ inX7 0 (by decide) rfl rfl ho.t0 (F.1.2.2.2.2 _ (List.mem_of_getElem? (l := wsX7_signal) (i := 1) (a := .fieldLink RX7 7 "CordClockModel" "row" "[I") (by decide +kernel))) dX7_signal_101 ?_
              refine cq_iload_n F (i := 3) dX7_signal_104 rfl rfl ?_
              refine cq_iconst F (v := 2) dX7_signal_105 rfl ?_
              refine cq_iadd F dX7_signal_106 ?_
              rw [show (nI (52 + 4 * k) + 2 : Int32) = nI ((52 + 4 * k) + 2) from nI_add _ _]
              refine cq_iald_j F (j := 54 + 4 * k) ho.k1 ho.n1 (congrArg nI (by omega)) ⟨(by omega), by decide⟩ dX7_signal_107 ?_
              rw [hg2 _ (by omega)]
              refine cq_iconst F (v := 1) dX7_signal_108 rfl ?_
              refine cq_icmp_ne F (tgt := 116) dX7_signal_109 (by decide) (fun c_109 => ?_) (fun c_109 => ?_)
              · have c_109 : ¬ (g2 (54 + 4 * k)) = 1 := fun z => c_109 ((nI_b (a := (g2 (54 + 4 * k))) (b := 1) (by omega) (by omega)).2.2.mpr z)
                omega
              · have c_109 : (g2 (54 + 4 * k)) = 1 := (nI_b (a := (g2 (54 + 4 * k))) (b := 1) (by omega) (by omega)).2.2.mp c_109
                refine cq_iconst F (v := 1) dX7_signal_112 rfl ?_
                refine cq_goto F (tgt := 117) dX7_signal_113 (by decide) ?_
                refine cq_callV F (C := RX7) (ci := 8) (kX7_lightNow l D cA X Bs o (g2 (53 + 4 * k)) 1 g2 M2 ho hg2 (by omega) (hr1.2.2.2.1 _ hru.2.1).2.2.2.1 c_88.2 hr1.2.2.1) (cwV 2 F.1.2.2.2.2 gX7_signal_X7_lightNow rfl rfl rfl hdVX7_lightNow ⟨Nat.le_of_ble_eq_true rfl, Nat.le_of_ble_eq_true rfl⟩) ho.kind ⟨by decide, by decide⟩ rfl rfl rfl (Nat.le_of_ble_eq_true rfl) dX7_signal_117 ⟨Nat.le_of_ble_eq_true rfl, Nat.le_of_ble_eq_true rfl⟩ (cq_kV fun M_117 h_117 => ?_)
                refine cq_aload_n F (i := 0) dX7_signal_120 rfl rfl ?_
                refine cq_getT (t := (o + 1)) F (C := RX7) (T := TX7) (N := 22) (ci := 8) ho.kind rfl ⟨⟨by decide, by decide⟩, rfl⟩ inX7 0 (by decide) rfl rfl ho.t0 (F.1.2.2.2.2 _ (List.mem_of_getElem? (l := wsX7_signal) (i := 1) (a := .fieldLink RX7 7 "CordClockModel" "row" "[I") (by decide +kernel))) dX7_signal_121 ?_
                refine cq_iload_n F (i := 3) dX7_signal_124 rfl rfl ?_
                refine cq_iconst F (v := 3) dX7_signal_125 rfl ?_
                refine cq_iadd F dX7_signal_126 ?_
                rw [show (nI (52 + 4 * k) + 3 : Int32) = nI ((52 + 4 * k) + 3) from nI_add _ _]
                refine cq_dup2 F dX7_signal_127 rfl rfl ?_
                refine cq_iald_j F (j := 55 + 4 * k) ho.k1 ho.n1 (congrArg nI (by omega)) ⟨(by omega), by decide⟩ dX7_signal_128 ?_
                rw [h_117.1 _ (by omega)]
                refine cq_iconst F (v := 1) dX7_signal_129 rfl ?_
                refine cq_iadd F dX7_signal_130 ?_
                rw [show (nI ((ns_lightNow g2 (g2 (53 + 4 * k)) 1) (55 + 4 * k)) + 1 : Int32) = nI (((ns_lightNow g2 (g2 (53 + 4 * k)) 1) (55 + 4 * k)) + 1) from nI_add _ _]
                refine cq_iast_j F (j := 55 + 4 * k) ho.k1 ho.n1 (congrArg nI (by omega)) ⟨(by omega), by decide⟩ dX7_signal_131 (fun M_131 h_131 => ?_)
                obtain ⟨g_131, eg_131⟩ : ∃ z, z = ns_up (ns_lightNow g2 (g2 (53 + 4 * k)) 1) (55 + 4 * k) ((((ns_lightNow g2 (g2 (53 + 4 * k)) 1) (55 + 4 * k)) + 1)) := ⟨_, rfl⟩
                have v_131_o1 : cq_nv M_131 (o + 1) 109 g_131 := by rw [eg_131]; exact h_117.1.up h_131
                refine cq_iinc F dX7_signal_132 rfl (by decide) (fun x_132 e_132 => ?_)
                obtain rfl : x_132 = nI (k + 1) := by rw [e_132]; exact nI_1 _
                refine cq_goto F (tgt := 31) dX7_signal_135 (by decide) ?_
                refine cq_loc (L2 := [(0, .ref o), (1, .int (nI c)), (2, .int (nI (k + 1)))]) rfl ?_
                exact ih_31 (k + 1) M_131 _ (by omega) v_131_o1 ((ho2.trans h_117.2).up h_131) (by rw [ns_rules, ← he2]; unfold ns_rule1; first | exact (if_neg (fun z => c_56 z.1)).symm | exact (if_neg (fun z => c_88 (by have z2 := z.2; rw [hx9] at z2; exact z2))).symm | (rw [eg_131, if_pos (show g2 (52 + 4 * k) = c ∧ ns_canLight g2 (g2 (53 + 4 * k)) (ns_x g2 k) from ⟨c_56, by rw [hx9]; exact c_88⟩), hx9])) (by omega)
  refine cq_aload_n F (i := 0) dX7_signal_0 rfl rfl ?_
  refine cq_getT (t := (o + 1)) F (C := RX7) (T := TX7) (N := 22) (ci := 8) ho.kind rfl ⟨⟨by decide, by decide⟩, rfl⟩ inX7 0 (by decide) rfl rfl ho.t0 (F.1.2.2.2.2 _ (List.mem_of_getElem? (l := wsX7_signal) (i := 1) (a := .fieldLink RX7 7 "CordClockModel" "row" "[I") (by decide +kernel))) dX7_signal_1 ?_
  refine cq_iconst F (v := 1) dX7_signal_4 rfl ?_
  refine cq_dup2 F dX7_signal_5 rfl rfl ?_
  refine cq_iald_j F (j := 1) ho.k1 ho.n1 rfl ⟨(by omega), by decide⟩ dX7_signal_6 ?_
  rw [hg _ (by omega)]
  refine cq_iconst F (v := 1) dX7_signal_7 rfl ?_
  refine cq_iadd F dX7_signal_8 ?_
  rw [show (nI (g (1)) + 1 : Int32) = nI ((g (1)) + 1) from nI_add _ _]
  refine cq_iast_j F (j := 1) ho.k1 ho.n1 rfl ⟨(by omega), by decide⟩ dX7_signal_9 (fun M_9 h_9 => ?_)
  obtain ⟨g_9, eg_9⟩ : ∃ z, z = ns_up g (1) (((g (1)) + 1)) := ⟨_, rfl⟩
  have v_9_o1 : cq_nv M_9 (o + 1) 109 g_9 := by rw [eg_9]; exact hg.up h_9
  refine cq_aload_n F (i := 0) dX7_signal_10 rfl rfl ?_
  refine cq_iload_n F (i := 1) dX7_signal_11 rfl rfl ?_
  refine cq_bipush F (v := 10) dX7_signal_12 (by decide) ?_
  refine cq_aload_n F (i := 0) dX7_signal_14 rfl rfl ?_
  refine cq_getT (t := (o + 1)) F (C := RX7) (T := TX7) (N := 22) (ci := 8) ho.kind rfl ⟨⟨by decide, by decide⟩, rfl⟩ inX7 0 (by decide) rfl rfl ho.t0 (F.1.2.2.2.2 _ (List.mem_of_getElem? (l := wsX7_signal) (i := 1) (a := .fieldLink RX7 7 "CordClockModel" "row" "[I") (by decide +kernel))) dX7_signal_15 ?_
  refine cq_iconst F (v := 0) dX7_signal_18 rfl ?_
  refine cq_iald_j F (j := 0) ho.k1 ho.n1 rfl ⟨(by omega), by decide⟩ dX7_signal_19 ?_
  rw [v_9_o1 _ (by omega)]
  refine cq_callV F (C := RX7) (ci := 8) (kX7_put l D cA X Bs o c (10) (17 + 11 * c) (nI (g_9 (0))) M_9 ho (by omega) (by omega)) (cwV 3 F.1.2.2.2.2 gX7_signal_X7_put rfl rfl rfl hdVX7_put ⟨Nat.le_of_ble_eq_true rfl, Nat.le_of_ble_eq_true rfl⟩) ho.kind ⟨by decide, by decide⟩ rfl rfl rfl (Nat.le_of_ble_eq_true rfl) dX7_signal_20 ⟨Nat.le_of_ble_eq_true rfl, Nat.le_of_ble_eq_true rfl⟩ (cq_kV fun M_20 h_20 => ?_)
  refine cq_aload_n F (i := 0) dX7_signal_23 rfl rfl ?_
  refine cq_iconst F (v := 2) dX7_signal_24 rfl ?_
  refine cq_iload_n F (i := 1) dX7_signal_25 rfl rfl ?_
  refine cq_callV F (C := RX7) (ci := 8) (kX7_write l D cA X Bs o 2 c (ns_up g_9 (17 + 11 * c) (g_9 (0))) M_20 ho (v_9_o1.up h_20) (by have := hk.2.2.1; subst_vars; simp [ns_up, show 84 ≠ 17 + 11 * c by omega]; omega)) (cwV 2 F.1.2.2.2.2 gX7_signal_X7_write rfl rfl rfl hdVX7_write ⟨Nat.le_of_ble_eq_true rfl, Nat.le_of_ble_eq_true rfl⟩) ho.kind ⟨by decide, by decide⟩ rfl rfl rfl (Nat.le_of_ble_eq_true rfl) dX7_signal_26 ⟨Nat.le_of_ble_eq_true rfl, Nat.le_of_ble_eq_true rfl⟩ (cq_kV fun M_26 h_26 => ?_)
  have w_29 : cq_nv M_26 (o + 1) 109 (ns_sig0 g c) := by
    unfold ns_sig0
    rw [show g 0 = g_9 0 by rw [eg_9, ns_up_n (by omega)], ← eg_9]
    exact h_26.1
  refine cq_iconst F (v := 0) dX7_signal_29 rfl ?_
  refine cq_istore_n F (i := 2) dX7_signal_30 rfl (by decide) ?_
  refine cq_loc (L2 := [(0, .ref o), (1, .int (nI c)), (2, .int (nI 0))]) rfl ?_
  exact loop_31 (g 51 + 1) 0 M_26 (ns_sig0 g c) (by omega) w_29 (((cq_only.rf.up h_9).up h_20).trans h_26.2) rfl (by omega)
theorem hdVX7_signal : yX7_signal.cls = RX7 ∧ yX7_signal.cls ≠ "java/lang/invoke/MethodHandle" ∧ yX7_signal.cls ≠ "java/lang/invoke/VarHandle" ∧ (parseMethodDescriptor yX7_signal.desc).map (fun d => d.parameters.length) = some 1 := by decide +kernel
abbrev rmX7_step : Room := ({ frames := 5, cells := 0, slots := 0, locals := 111 })
set_option maxHeartbeats 4000000 in
set_option maxRecDepth 100000 in
theorem kX7_step (l : Launch) (D : va_G) (cA : Nat → ClassId) (X : cq_X) (Bs : Nat) (o B : Nat) (g : Nat → Nat) (M : cq_M) (ho : cq_isModel X o) (hg : cq_nv M (o + 1) 109 g) (hk : ns_ok g B) (hB : B < 2000000000) : cq_C l yX7_step wsX7_step rmX7_step D cA X Bs [.ref o] M (cq_PI (fun r M1 => r = nI (ns_sigs g) ∧ cq_nv M1 (o + 1) 109 (ns_step g) ∧ cq_only M M1 (o + 1))) 0 0 := by
  refine cq_met (cc := cX7_step) (maxL := 5) (ret := (some .int)) (by decide) rfl (Nat.le_of_ble_eq_true rfl) [(0, .ref o)] rfl rfl ?_
  intro p9 e9 s9 m9 b9 t9 c9 F hr
  have inX7 : ∀ w ∈ wsX70, w ∈ wsX7_step := (fun w h => List.mem_cons_of_mem _ (List.mem_append_right _ h))
  have hk6 := hk.1
  have hfl : ∀ c, c < g 6 → g (16 + 11 * c) ≤ 3 := fun c hc => (hk.2.2.2.1 c hc).2.2.2.1
  have hfl2 := ns_flames_le (n := g 6) hfl
  have h4 := ns_s4_ok hk
  obtain ⟨a0, a3, a4, a5, b4, b5, e4⟩ := ns_s4_at g
  have e46 := e4 6 (by omega) (by omega) (by omega) (by omega)
  have hT := hk.2.2.2.2.2.2
  have hb4 : ns_s2 g 4 < 2147483648 ∧ ns_s2 g 5 < 2147483648 := by rw [b4, b5]; constructor <;> (try split) <;> omega
  obtain ⟨hA1, hA2, hA3⟩ := ns_bA_ok h4 (g 6) (by omega)
  have hA6 := hA2 6 (by intros; omega)
  have hp4 : (2 : Nat) ^ g 6 ≤ 16 := Nat.le_trans (Nat.pow_le_pow_right (by omega) hk6) (by decide)
  have loop_152 : ∀ (n_152 : Nat) (k : Nat) (M3 : cq_M) (g3 : Nat → Nat), k ≤ g 6 → cq_nv M3 (o + 1) 109 g3 → cq_only M M3 (o + 1) → g3 = ns_sA (ns_bA (ns_s4 g) (g 6)) (ns_bS (ns_s4 g) (g 6)) k → g 6 - k < n_152 → cq_V p9 l e9 rmX7_step s9 m9 ([.ref o] : List Value).toArray b9 t9 c9 D cA X Bs 5 0 0 (MQ b9 (cq_Q D cA X Bs (cq_PI (fun r M1 => r = nI (ns_sigs g) ∧ cq_nv M1 (o + 1) 109 (ns_step g) ∧ cq_only M M1 (o + 1)))) ([.ref o] : List Value).toArray s9 0 0 (cq_A Bs)) 152 [(0, .ref o), (2, .int (nI (ns_bS (ns_s4 g) (g 6)))), (3, .int (nI (ns_bA (ns_s4 g) (g 6) 1))), (4, .int (nI k))] [] M3 := by
    intro n_152
    induction n_152 with
    | zero =>
      intros
      omega
    | succ n_152 ih_152 =>
      intro k M3 g3 hk1 hg3 ho3 he3 hn
      obtain ⟨hS1, hS2, hS3, hS4⟩ := ns_sA_ok (S := ns_bS (ns_s4 g) (g 6)) hA1 k (by omega)
      rw [← he3] at hS1 hS2 hS3 hS4
      have hb6 := hS1.1
      have hcn := ns_cnt_le (S := ns_bS (ns_s4 g) (g 6)) k
      refine cq_iload F dX7_step_152 rfl ?_
      refine cq_aload_n F (i := 0) dX7_step_154 rfl rfl ?_
      refine cq_getT (t := (o + 1)) F (C := RX7) (T := TX7) (N := 22) (ci := 8) ho.kind rfl ⟨⟨by decide, by decide⟩, rfl⟩ inX7 0 (by decide) rfl rfl ho.t0 (F.1.2.2.2.2 _ (List.mem_of_getElem? (l := wsX7_step) (i := 1) (a := .fieldLink RX7 7 "CordClockModel" "row" "[I") (by decide +kernel))) dX7_step_155 ?_
      refine cq_bipush F (v := 6) dX7_step_158 (by decide) ?_
      refine cq_iald_j F (j := 6) ho.k1 ho.n1 rfl ⟨(by omega), by decide⟩ dX7_step_160 ?_
      rw [hg3 _ (by omega)]
      refine cq_icmp_ge F (tgt := 186) dX7_step_161 (by decide) (fun c_161 => ?_) (fun c_161 => ?_)
      · have c_161 : (g3 (6)) ≤ k := (nI_b (a := (g3 (6))) (b := k) (by omega) (by omega)).1.mp c_161
        refine cq_aload_n F (i := 0) dX7_step_186 rfl rfl ?_
        refine cq_getT (t := (o + 1)) F (C := RX7) (T := TX7) (N := 22) (ci := 8) ho.kind rfl ⟨⟨by decide, by decide⟩, rfl⟩ inX7 0 (by decide) rfl rfl ho.t0 (F.1.2.2.2.2 _ (List.mem_of_getElem? (l := wsX7_step) (i := 1) (a := .fieldLink RX7 7 "CordClockModel" "row" "[I") (by decide +kernel))) dX7_step_187 ?_
        refine cq_iconst F (v := 1) dX7_step_190 rfl ?_
        refine cq_iald_j F (j := 1) ho.k1 ho.n1 rfl ⟨(by omega), by decide⟩ dX7_step_191 ?_
        rw [hg3 _ (by omega)]
        refine cq_iload_n F (i := 3) dX7_step_192 rfl rfl ?_
        refine cq_isub F dX7_step_193 ?_
        rw [show (nI (g3 (1)) - nI (ns_bA (ns_s4 g) (g 6) 1) : Int32) = nI ((g3 (1)) - (ns_bA (ns_s4 g) (g 6) 1)) from pk_sub (a := (g3 (1))) (b := (ns_bA (ns_s4 g) (g 6) 1)) (by omega)]
        refine cq_iret F hr (by decide) (by decide) dX7_step_194 ⟨_, rfl, ?_⟩
        obtain rfl : k = g 6 := by omega
        refine ⟨?_, ?_, ho3⟩
        · show nI (g3 1 - ns_bA (ns_s4 g) (g 6) 1) = nI (ns_cnt _ _)
          congr 1
          omega
        · rw [he3] at hg3
          exact hg3
      · have c_161 : ¬ (g3 (6)) ≤ k := fun z => c_161 ((nI_b (a := (g3 (6))) (b := k) (by omega) (by omega)).1.mpr z)
        refine cq_iload_n F (i := 2) dX7_step_164 rfl rfl ?_
        refine cq_iload F dX7_step_165 rfl ?_
        refine cq_ishr F dX7_step_167 ?_
        refine cq_iconst F (v := 1) dX7_step_168 rfl ?_
        refine cq_iand F dX7_step_169 ?_
        rw [(nI_set k (by omega) (ns_bS (ns_s4 g) (g 6)) (by omega)).2]
        refine cq_iconst F (v := 1) dX7_step_170 rfl ?_
        refine cq_icmp_ne F (tgt := 180) dX7_step_171 (by decide) (fun c_171 => ?_) (fun c_171 => ?_)
        · have c_171 : ¬ (ns_bS (ns_s4 g) (g 6) / 2 ^ k % 2) = 1 := fun z => c_171 ((nI_b (a := (ns_bS (ns_s4 g) (g 6) / 2 ^ k % 2)) (b := 1) (by omega) (by omega)).2.2.mpr z)
          refine cq_iinc F dX7_step_180 rfl (by decide) (fun x_180 e_180 => ?_)
          obtain rfl : x_180 = nI (k + 1) := by rw [e_180]; exact nI_1 _
          refine cq_goto F (tgt := 152) dX7_step_183 (by decide) ?_
          refine cq_loc (L2 := [(0, .ref o), (2, .int (nI (ns_bS (ns_s4 g) (g 6)))), (3, .int (nI (ns_bA (ns_s4 g) (g 6) 1))), (4, .int (nI (k + 1)))]) rfl ?_
          exact ih_152 (k + 1) M3 _ (by omega) hg3 ho3 (by rw [ns_sA, ← he3]; first | exact (if_neg c_171).symm | exact (if_pos c_171).symm) (by omega)
        · have c_171 : (ns_bS (ns_s4 g) (g 6) / 2 ^ k % 2) = 1 := (nI_b (a := (ns_bS (ns_s4 g) (g 6) / 2 ^ k % 2)) (b := 1) (by omega) (by omega)).2.2.mp c_171
          refine cq_aload_n F (i := 0) dX7_step_174 rfl rfl ?_
          refine cq_iload F dX7_step_175 rfl ?_
          refine cq_callV F (C := RX7) (ci := 8) (kX7_signal l D cA X Bs o k (B + 1) g3 M3 ho hg3 hS1 (by omega)) (cwV 1 F.1.2.2.2.2 gX7_step_X7_signal rfl rfl rfl hdVX7_signal ⟨Nat.le_of_ble_eq_true rfl, Nat.le_of_ble_eq_true rfl⟩) ho.kind ⟨by decide, by decide⟩ rfl rfl rfl (Nat.le_of_ble_eq_true rfl) dX7_step_177 ⟨Nat.le_of_ble_eq_true rfl, Nat.le_of_ble_eq_true rfl⟩ (cq_kV fun M_177 h_177 => ?_)
          refine cq_iinc F dX7_step_180 rfl (by decide) (fun x_180 e_180 => ?_)
          obtain rfl : x_180 = nI (k + 1) := by rw [e_180]; exact nI_1 _
          refine cq_goto F (tgt := 152) dX7_step_183 (by decide) ?_
          refine cq_loc (L2 := [(0, .ref o), (2, .int (nI (ns_bS (ns_s4 g) (g 6)))), (3, .int (nI (ns_bA (ns_s4 g) (g 6) 1))), (4, .int (nI (k + 1)))]) rfl ?_
          exact ih_152 (k + 1) M_177 _ (by omega) h_177.1 (ho3.trans h_177.2) (by rw [ns_sA, ← he3]; first | exact (if_neg c_171).symm | exact (if_pos c_171).symm) (by omega)
  have loop_103 : ∀ (n_103 : Nat) (k : Nat) (M2 : cq_M) (g2 : Nat → Nat), k ≤ g 6 → cq_nv M2 (o + 1) 109 g2 → cq_only M M2 (o + 1) → g2 = ns_bA (ns_s4 g) k → g 6 - k < n_103 → cq_V p9 l e9 rmX7_step s9 m9 ([.ref o] : List Value).toArray b9 t9 c9 D cA X Bs 5 0 0 (MQ b9 (cq_Q D cA X Bs (cq_PI (fun r M1 => r = nI (ns_sigs g) ∧ cq_nv M1 (o + 1) 109 (ns_step g) ∧ cq_only M M1 (o + 1)))) ([.ref o] : List Value).toArray s9 0 0 (cq_A Bs)) 103 [(0, .ref o), (2, .int (nI (ns_bS (ns_s4 g) k))), (3, .int (nI k))] [] M2 := by
    intro n_103
    induction n_103 with
    | zero =>
      intros
      omega
    | succ n_103 ih_103 =>
      intro k M2 g2 hk1 hg2 ho2 he2 hn
      obtain ⟨hB1, hB2, hB3⟩ := ns_bA_ok h4 k (by omega)
      rw [← he2] at hB1 hB2
      have hB6 := hB2 6 (by intros; omega)
      have hb6 := hB1.1
      have hp9 : (2 : Nat) ^ k ≤ 16 := Nat.le_trans (Nat.pow_le_pow_right (by omega) (show k ≤ 4 by omega)) (by decide)
      refine cq_iload_n F (i := 3) dX7_step_103 rfl rfl ?_
      refine cq_aload_n F (i := 0) dX7_step_104 rfl rfl ?_
      refine cq_getT (t := (o + 1)) F (C := RX7) (T := TX7) (N := 22) (ci := 8) ho.kind rfl ⟨⟨by decide, by decide⟩, rfl⟩ inX7 0 (by decide) rfl rfl ho.t0 (F.1.2.2.2.2 _ (List.mem_of_getElem? (l := wsX7_step) (i := 1) (a := .fieldLink RX7 7 "CordClockModel" "row" "[I") (by decide +kernel))) dX7_step_105 ?_
      refine cq_bipush F (v := 6) dX7_step_108 (by decide) ?_
      refine cq_iald_j F (j := 6) ho.k1 ho.n1 rfl ⟨(by omega), by decide⟩ dX7_step_110 ?_
      rw [hg2 _ (by omega)]
      refine cq_icmp_ge F (tgt := 142) dX7_step_111 (by decide) (fun c_111 => ?_) (fun c_111 => ?_)
      · have c_111 : (g2 (6)) ≤ k := (nI_b (a := (g2 (6))) (b := k) (by omega) (by omega)).1.mp c_111
        obtain rfl : k = g 6 := by omega
        subst he2
        refine cq_aload_n F (i := 0) dX7_step_142 rfl rfl ?_
        refine cq_getT (t := (o + 1)) F (C := RX7) (T := TX7) (N := 22) (ci := 8) ho.kind rfl ⟨⟨by decide, by decide⟩, rfl⟩ inX7 0 (by decide) rfl rfl ho.t0 (F.1.2.2.2.2 _ (List.mem_of_getElem? (l := wsX7_step) (i := 1) (a := .fieldLink RX7 7 "CordClockModel" "row" "[I") (by decide +kernel))) dX7_step_143 ?_
        refine cq_iconst F (v := 1) dX7_step_146 rfl ?_
        refine cq_iald_j F (j := 1) ho.k1 ho.n1 rfl ⟨(by omega), by decide⟩ dX7_step_147 ?_
        rw [hg2 _ (by omega)]
        refine cq_istore_n F (i := 3) dX7_step_148 rfl (by decide) ?_
        refine cq_iconst F (v := 0) dX7_step_149 rfl ?_
        refine cq_istore F dX7_step_150 (by decide) ?_
        refine cq_loc (L2 := [(0, .ref o), (2, .int (nI (ns_bS (ns_s4 g) (g 6)))), (3, .int (nI (ns_bA (ns_s4 g) (g 6) 1))), (4, .int (nI 0))]) rfl ?_
        exact loop_152 (g 6 + 1) 0 M2 _ (by omega) hg2 ho2 rfl (by omega)
      · have c_111 : ¬ (g2 (6)) ≤ k := fun z => c_111 ((nI_b (a := (g2 (6))) (b := k) (by omega) (by omega)).1.mpr z)
        refine cq_aload_n F (i := 0) dX7_step_114 rfl rfl ?_
        refine cq_iload_n F (i := 3) dX7_step_115 rfl rfl ?_
        refine cq_callV F (C := RX7) (ci := 8) (kX7_burns l D cA X Bs o k g2 M2 ho hg2 (by omega) (hB1.2.2.2.1 _ (by omega))) (cwV 1 F.1.2.2.2.2 gX7_step_X7_burns rfl rfl rfl hdVX7_burns ⟨Nat.le_of_ble_eq_true rfl, Nat.le_of_ble_eq_true rfl⟩) ho.kind ⟨by decide, by decide⟩ rfl rfl rfl (Nat.le_of_ble_eq_true rfl) dX7_step_116 ⟨Nat.le_of_ble_eq_true rfl, Nat.le_of_ble_eq_true rfl⟩ (cq_kI fun r_116 M_116 h_116 => ?_)
        refine cq_if_eq F (tgt := 136) dX7_step_119 (by decide) (fun c_119 => ?_) (fun c_119 => ?_)
        · have c_119 := cq_b0 h_116.1 c_119
          first | rw [show ns_bS (ns_s4 g) k + 2 ^ k = ns_bS (ns_s4 g) (k + 1) from by rw [ns_bS, ← he2, if_pos c_119]] | rw [show ns_bS (ns_s4 g) k = ns_bS (ns_s4 g) (k + 1) from by rw [ns_bS, ← he2, if_neg c_119, Nat.add_zero]]
          refine cq_iinc F dX7_step_136 rfl (by decide) (fun x_136 e_136 => ?_)
          obtain rfl : x_136 = nI (k + 1) := by rw [e_136]; exact nI_1 _
          refine cq_goto F (tgt := 103) dX7_step_139 (by decide) ?_
          refine cq_loc (L2 := [(0, .ref o), (2, .int (nI (ns_bS (ns_s4 g) (k + 1)))), (3, .int (nI (k + 1)))]) rfl ?_
          exact ih_103 (k + 1) M_116 _ (by omega) h_116.2.1 (ho2.trans h_116.2.2) (by rw [ns_bA, ← he2]; unfold ns_bstep; first | exact (if_pos c_119).symm | exact (if_neg c_119).symm) (by omega)
        · have c_119 := cq_b1 h_116.1 c_119
          refine cq_aload_n F (i := 0) dX7_step_122 rfl rfl ?_
          refine cq_iload_n F (i := 3) dX7_step_123 rfl rfl ?_
          refine cq_bipush F (v := 9) dX7_step_124 (by decide) ?_
          refine cq_iconst F (v := 0) dX7_step_126 rfl ?_
          refine cq_callV F (C := RX7) (ci := 8) (kX7_put l D cA X Bs o k (9) (16 + 11 * k) (nI (0)) M_116 ho (by omega) (by omega)) (cwV 3 F.1.2.2.2.2 gX7_step_X7_put rfl rfl rfl hdVX7_put ⟨Nat.le_of_ble_eq_true rfl, Nat.le_of_ble_eq_true rfl⟩) ho.kind ⟨by decide, by decide⟩ rfl rfl rfl (Nat.le_of_ble_eq_true rfl) dX7_step_127 ⟨Nat.le_of_ble_eq_true rfl, Nat.le_of_ble_eq_true rfl⟩ (cq_kV fun M_127 h_127 => ?_)
          refine cq_iload_n F (i := 2) dX7_step_130 rfl rfl ?_
          refine cq_iconst F (v := 1) dX7_step_131 rfl ?_
          refine cq_iload_n F (i := 3) dX7_step_132 rfl rfl ?_
          refine cq_ishl F dX7_step_133 ?_
          refine cq_ior F dX7_step_134 ?_
          rw [(nI_set k (by omega) (ns_bS (ns_s4 g) k) (by omega)).1 (by omega)]
          refine cq_istore_n F (i := 2) dX7_step_135 rfl (by decide) ?_
          first | rw [show ns_bS (ns_s4 g) k + 2 ^ k = ns_bS (ns_s4 g) (k + 1) from by rw [ns_bS, ← he2, if_pos c_119]] | rw [show ns_bS (ns_s4 g) k = ns_bS (ns_s4 g) (k + 1) from by rw [ns_bS, ← he2, if_neg c_119, Nat.add_zero]]
          refine cq_iinc F dX7_step_136 rfl (by decide) (fun x_136 e_136 => ?_)
          obtain rfl : x_136 = nI (k + 1) := by rw [e_136]; exact nI_1 _
          refine cq_goto F (tgt := 103) dX7_step_139 (by decide) ?_
          refine cq_loc (L2 := [(0, .ref o), (2, .int (nI (ns_bS (ns_s4 g) (k + 1)))), (3, .int (nI (k + 1)))]) rfl ?_
          exact ih_103 (k + 1) M_127 _ (by omega) (h_116.2.1.up h_127) ((ho2.trans h_116.2.2).up h_127) (by rw [ns_bA, ← he2]; unfold ns_bstep; first | exact (if_pos c_119).symm | exact (if_neg c_119).symm) (by omega)
  refine cq_aload_n F (i := 0) dX7_step_0 rfl rfl ?_
  refine cq_callV F (C := RX7) (ci := 8) (kX7_flames l D cA X Bs o  g M ho hg hk6 hfl) (cwV 0 F.1.2.2.2.2 gX7_step_X7_flames rfl rfl rfl hdVX7_flames ⟨Nat.le_of_ble_eq_true rfl, Nat.le_of_ble_eq_true rfl⟩) ho.kind ⟨by decide, by decide⟩ rfl rfl rfl (Nat.le_of_ble_eq_true rfl) dX7_step_1 ⟨Nat.le_of_ble_eq_true rfl, Nat.le_of_ble_eq_true rfl⟩ (cq_kIp fun r_1 h_1 => ?_)
  subst h_1
  refine cq_if_le F (tgt := 11) dX7_step_4 (by decide) (fun c_4 => ?_) (fun c_4 => ?_)
  · have c_4 : (ns_flames g (g 6)) ≤ 0 := (nI_b (a := (ns_flames g (g 6))) (b := 0) (by omega) (by omega)).1.mp c_4
    refine cq_iconst F (v := 0) dX7_step_11 rfl ?_
    refine cq_istore_n F (i := 1) dX7_step_12 rfl (by decide) ?_
    refine cq_aload_n F (i := 0) dX7_step_13 rfl rfl ?_
    refine cq_getT (t := (o + 1)) F (C := RX7) (T := TX7) (N := 22) (ci := 8) ho.kind rfl ⟨⟨by decide, by decide⟩, rfl⟩ inX7 0 (by decide) rfl rfl ho.t0 (F.1.2.2.2.2 _ (List.mem_of_getElem? (l := wsX7_step) (i := 1) (a := .fieldLink RX7 7 "CordClockModel" "row" "[I") (by decide +kernel))) dX7_step_14 ?_
    refine cq_iconst F (v := 3) dX7_step_17 rfl ?_
    refine cq_dup2 F dX7_step_18 rfl rfl ?_
    refine cq_iald_j F (j := 3) ho.k1 ho.n1 rfl ⟨(by omega), by decide⟩ dX7_step_19 ?_
    rw [hg _ (by omega)]
    refine cq_iload_n F (i := 1) dX7_step_20 rfl rfl ?_
    refine cq_if_eq F (tgt := 28) dX7_step_21 (by decide) (fun c_21 => ?_) (fun c_21 => ?_)
    · have c_21 : 0 = 0 := (nI_b (a := 0) (b := 0) (by omega) (by omega)).2.2.mp c_21
      refine cq_iconst F (v := 0) dX7_step_28 rfl ?_
      refine cq_iadd F dX7_step_29 ?_
      rw [show (nI (g (3)) + 0 : Int32) = nI ((g (3)) + 0) from nI_add _ _]
      refine cq_iast_j F (j := 3) ho.k1 ho.n1 rfl ⟨(by omega), by decide⟩ dX7_step_30 (fun M_30 h_30 => ?_)
      obtain ⟨g_30, eg_30⟩ : ∃ z, z = ns_up g (3) (((g (3)) + 0)) := ⟨_, rfl⟩
      have v_30_o1 : cq_nv M_30 (o + 1) 109 g_30 := by rw [eg_30]; exact hg.up h_30
      have w_31 : cq_nv M_30 (o + 1) 109 (ns_s1 g) := by
        have e := v_30_o1
        rw [eg_30] at e
        unfold ns_s1
        first | exact e | (rw [if_pos (by omega)]; exact e) | (rw [if_neg (by omega)]; exact e)
      refine cq_aload_n F (i := 0) dX7_step_31 rfl rfl ?_
      refine cq_getT (t := (o + 1)) F (C := RX7) (T := TX7) (N := 22) (ci := 8) ho.kind rfl ⟨⟨by decide, by decide⟩, rfl⟩ inX7 0 (by decide) rfl rfl ho.t0 (F.1.2.2.2.2 _ (List.mem_of_getElem? (l := wsX7_step) (i := 1) (a := .fieldLink RX7 7 "CordClockModel" "row" "[I") (by decide +kernel))) dX7_step_32 ?_
      refine cq_iconst F (v := 4) dX7_step_35 rfl ?_
      refine cq_iload_n F (i := 1) dX7_step_36 rfl rfl ?_
      refine cq_if_eq F (tgt := 44) dX7_step_37 (by decide) (fun c_37 => ?_) (fun c_37 => ?_)
      · have c_37 : 0 = 0 := (nI_b (a := 0) (b := 0) (by omega) (by omega)).2.2.mp c_37
        refine cq_aload_n F (i := 0) dX7_step_44 rfl rfl ?_
        refine cq_getT (t := (o + 1)) F (C := RX7) (T := TX7) (N := 22) (ci := 8) ho.kind rfl ⟨⟨by decide, by decide⟩, rfl⟩ inX7 0 (by decide) rfl rfl ho.t0 (F.1.2.2.2.2 _ (List.mem_of_getElem? (l := wsX7_step) (i := 1) (a := .fieldLink RX7 7 "CordClockModel" "row" "[I") (by decide +kernel))) dX7_step_45 ?_
        refine cq_iconst F (v := 4) dX7_step_48 rfl ?_
        refine cq_iald_j F (j := 4) ho.k1 ho.n1 rfl ⟨(by omega), by decide⟩ dX7_step_49 ?_
        rw [w_31 _ (by omega)]
        refine cq_iconst F (v := 1) dX7_step_50 rfl ?_
        refine cq_iadd F dX7_step_51 ?_
        rw [show (nI ((ns_s1 g) (4)) + 1 : Int32) = nI (((ns_s1 g) (4)) + 1) from nI_add _ _]
        refine cq_iast_j F (j := 4) ho.k1 ho.n1 rfl ⟨(by omega), by decide⟩ dX7_step_52 (fun M_52 h_52 => ?_)
        obtain ⟨g_52, eg_52⟩ : ∃ z, z = ns_up (ns_s1 g) (4) ((((ns_s1 g) (4)) + 1)) := ⟨_, rfl⟩
        have v_52_o1 : cq_nv M_52 (o + 1) 109 g_52 := by rw [eg_52]; exact w_31.up h_52
        have w_53 : cq_nv M_52 (o + 1) 109 (ns_s2 g) := by
          have e := v_52_o1
          rw [eg_52] at e
          unfold ns_s2
          first | (rw [if_pos (by omega)]; exact e) | (rw [if_neg (by omega)]; rw [show ns_s1 g 4 = g 4 from ns_up_n (by omega)] at e; exact e)
        refine cq_aload_n F (i := 0) dX7_step_53 rfl rfl ?_
        refine cq_getT (t := (o + 1)) F (C := RX7) (T := TX7) (N := 22) (ci := 8) ho.kind rfl ⟨⟨by decide, by decide⟩, rfl⟩ inX7 0 (by decide) rfl rfl ho.t0 (F.1.2.2.2.2 _ (List.mem_of_getElem? (l := wsX7_step) (i := 1) (a := .fieldLink RX7 7 "CordClockModel" "row" "[I") (by decide +kernel))) dX7_step_54 ?_
        refine cq_iconst F (v := 5) dX7_step_57 rfl ?_
        refine cq_aload_n F (i := 0) dX7_step_58 rfl rfl ?_
        refine cq_getT (t := (o + 1)) F (C := RX7) (T := TX7) (N := 22) (ci := 8) ho.kind rfl ⟨⟨by decide, by decide⟩, rfl⟩ inX7 0 (by decide) rfl rfl ho.t0 (F.1.2.2.2.2 _ (List.mem_of_getElem? (l := wsX7_step) (i := 1) (a := .fieldLink RX7 7 "CordClockModel" "row" "[I") (by decide +kernel))) dX7_step_59 ?_
        refine cq_iconst F (v := 4) dX7_step_62 rfl ?_
        refine cq_iald_j F (j := 4) ho.k1 ho.n1 rfl ⟨(by omega), by decide⟩ dX7_step_63 ?_
        rw [w_53 _ (by omega)]
        refine cq_aload_n F (i := 0) dX7_step_64 rfl rfl ?_
        refine cq_getT (t := (o + 1)) F (C := RX7) (T := TX7) (N := 22) (ci := 8) ho.kind rfl ⟨⟨by decide, by decide⟩, rfl⟩ inX7 0 (by decide) rfl rfl ho.t0 (F.1.2.2.2.2 _ (List.mem_of_getElem? (l := wsX7_step) (i := 1) (a := .fieldLink RX7 7 "CordClockModel" "row" "[I") (by decide +kernel))) dX7_step_65 ?_
        refine cq_iconst F (v := 5) dX7_step_68 rfl ?_
        refine cq_iald_j F (j := 5) ho.k1 ho.n1 rfl ⟨(by omega), by decide⟩ dX7_step_69 ?_
        rw [w_53 _ (by omega)]
        refine cq_icmp_le F (tgt := 82) dX7_step_70 (by decide) (fun c_70 => ?_) (fun c_70 => ?_)
        · have c_70 : ((ns_s2 g) (4)) ≤ ((ns_s2 g) (5)) := (nI_b (a := ((ns_s2 g) (4))) (b := ((ns_s2 g) (5))) (by omega) (by omega)).1.mp c_70
          refine cq_aload_n F (i := 0) dX7_step_82 rfl rfl ?_
          refine cq_getT (t := (o + 1)) F (C := RX7) (T := TX7) (N := 22) (ci := 8) ho.kind rfl ⟨⟨by decide, by decide⟩, rfl⟩ inX7 0 (by decide) rfl rfl ho.t0 (F.1.2.2.2.2 _ (List.mem_of_getElem? (l := wsX7_step) (i := 1) (a := .fieldLink RX7 7 "CordClockModel" "row" "[I") (by decide +kernel))) dX7_step_83 ?_
          refine cq_iconst F (v := 5) dX7_step_86 rfl ?_
          refine cq_iald_j F (j := 5) ho.k1 ho.n1 rfl ⟨(by omega), by decide⟩ dX7_step_87 ?_
          rw [w_53 _ (by omega)]
          refine cq_iast_j F (j := 5) ho.k1 ho.n1 rfl ⟨(by omega), by decide⟩ dX7_step_88 (fun M_88 h_88 => ?_)
          obtain ⟨g_88, eg_88⟩ : ∃ z, z = ns_up (ns_s2 g) (5) (((ns_s2 g) (5))) := ⟨_, rfl⟩
          have v_88_o1 : cq_nv M_88 (o + 1) 109 g_88 := by rw [eg_88]; exact w_53.up h_88
          have w_89 : cq_nv M_88 (o + 1) 109 (ns_s3 g) := by
            have e := v_88_o1
            rw [eg_88] at e
            unfold ns_s3
            first | exact e | (rw [if_pos (by omega)]; exact e) | (rw [if_neg (by omega)]; exact e)
          refine cq_aload_n F (i := 0) dX7_step_89 rfl rfl ?_
          refine cq_getT (t := (o + 1)) F (C := RX7) (T := TX7) (N := 22) (ci := 8) ho.kind rfl ⟨⟨by decide, by decide⟩, rfl⟩ inX7 0 (by decide) rfl rfl ho.t0 (F.1.2.2.2.2 _ (List.mem_of_getElem? (l := wsX7_step) (i := 1) (a := .fieldLink RX7 7 "CordClockModel" "row" "[I") (by decide +kernel))) dX7_step_90 ?_
          refine cq_iconst F (v := 0) dX7_step_93 rfl ?_
          refine cq_dup2 F dX7_step_94 rfl rfl ?_
          refine cq_iald_j F (j := 0) ho.k1 ho.n1 rfl ⟨(by omega), by decide⟩ dX7_step_95 ?_
          rw [w_89 _ (by omega)]
          refine cq_iconst F (v := 1) dX7_step_96 rfl ?_
          refine cq_iadd F dX7_step_97 ?_
          rw [show (nI ((ns_s3 g) (0)) + 1 : Int32) = nI (((ns_s3 g) (0)) + 1) from nI_add _ _]
          refine cq_iast_j F (j := 0) ho.k1 ho.n1 rfl ⟨(by omega), by decide⟩ dX7_step_98 (fun M_98 h_98 => ?_)
          obtain ⟨g_98, eg_98⟩ : ∃ z, z = ns_up (ns_s3 g) (0) ((((ns_s3 g) (0)) + 1)) := ⟨_, rfl⟩
          have v_98_o1 : cq_nv M_98 (o + 1) 109 g_98 := by rw [eg_98]; exact w_89.up h_98
          have w_99 : cq_nv M_98 (o + 1) 109 (ns_s4 g) := by
            have e := v_98_o1
            rw [eg_98, show ns_s3 g 0 = g 0 from by unfold ns_s3 ns_s2 ns_s1; rw [ns_up_n (by omega), ns_up_n (by omega), ns_up_n (by omega)]] at e
            exact e
          refine cq_iconst F (v := 0) dX7_step_99 rfl ?_
          refine cq_istore_n F (i := 2) dX7_step_100 rfl (by decide) ?_
          refine cq_iconst F (v := 0) dX7_step_101 rfl ?_
          refine cq_istore_n F (i := 3) dX7_step_102 rfl (by decide) ?_
          refine cq_loc (L2 := [(0, .ref o), (2, .int (nI (ns_bS (ns_s4 g) 0))), (3, .int (nI 0))]) rfl ?_
          exact loop_103 (g 6 + 1) 0 M_98 _ (by omega) w_99 ((((cq_only.rf.up h_30).up h_52).up h_88).up h_98) rfl (by omega)
        · have c_70 : ¬ ((ns_s2 g) (4)) ≤ ((ns_s2 g) (5)) := fun z => c_70 ((nI_b (a := ((ns_s2 g) (4))) (b := ((ns_s2 g) (5))) (by omega) (by omega)).1.mpr z)
          refine cq_aload_n F (i := 0) dX7_step_73 rfl rfl ?_
          refine cq_getT (t := (o + 1)) F (C := RX7) (T := TX7) (N := 22) (ci := 8) ho.kind rfl ⟨⟨by decide, by decide⟩, rfl⟩ inX7 0 (by decide) rfl rfl ho.t0 (F.1.2.2.2.2 _ (List.mem_of_getElem? (l := wsX7_step) (i := 1) (a := .fieldLink RX7 7 "CordClockModel" "row" "[I") (by decide +kernel))) dX7_step_74 ?_
          refine cq_iconst F (v := 4) dX7_step_77 rfl ?_
          refine cq_iald_j F (j := 4) ho.k1 ho.n1 rfl ⟨(by omega), by decide⟩ dX7_step_78 ?_
          rw [w_53 _ (by omega)]
          refine cq_goto F (tgt := 88) dX7_step_79 (by decide) ?_
          refine cq_iast_j F (j := 5) ho.k1 ho.n1 rfl ⟨(by omega), by decide⟩ dX7_step_88 (fun M_88 h_88 => ?_)
          obtain ⟨g_88, eg_88⟩ : ∃ z, z = ns_up (ns_s2 g) (5) (((ns_s2 g) (4))) := ⟨_, rfl⟩
          have v_88_o1 : cq_nv M_88 (o + 1) 109 g_88 := by rw [eg_88]; exact w_53.up h_88
          have w_89 : cq_nv M_88 (o + 1) 109 (ns_s3 g) := by
            have e := v_88_o1
            rw [eg_88] at e
            unfold ns_s3
            first | exact e | (rw [if_pos (by omega)]; exact e) | (rw [if_neg (by omega)]; exact e)
          refine cq_aload_n F (i := 0) dX7_step_89 rfl rfl ?_
          refine cq_getT (t := (o + 1)) F (C := RX7) (T := TX7) (N := 22) (ci := 8) ho.kind rfl ⟨⟨by decide, by decide⟩, rfl⟩ inX7 0 (by decide) rfl rfl ho.t0 (F.1.2.2.2.2 _ (List.mem_of_getElem? (l := wsX7_step) (i := 1) (a := .fieldLink RX7 7 "CordClockModel" "row" "[I") (by decide +kernel))) dX7_step_90 ?_
          refine cq_iconst F (v := 0) dX7_step_93 rfl ?_
          refine cq_dup2 F dX7_step_94 rfl rfl ?_
          refine cq_iald_j F (j := 0) ho.k1 ho.n1 rfl ⟨(by omega), by decide⟩ dX7_step_95 ?_
          rw [w_89 _ (by omega)]
          refine cq_iconst F (v := 1) dX7_step_96 rfl ?_
          refine cq_iadd F dX7_step_97 ?_
          rw [show (nI ((ns_s3 g) (0)) + 1 : Int32) = nI (((ns_s3 g) (0)) + 1) from nI_add _ _]
          refine cq_iast_j F (j := 0) ho.k1 ho.n1 rfl ⟨(by omega), by decide⟩ dX7_step_98 (fun M_98 h_98 => ?_)
          obtain ⟨g_98, eg_98⟩ : ∃ z, z = ns_up (ns_s3 g) (0) ((((ns_s3 g) (0)) + 1)) := ⟨_, rfl⟩
          have v_98_o1 : cq_nv M_98 (o + 1) 109 g_98 := by rw [eg_98]; exact w_89.up h_98
          have w_99 : cq_nv M_98 (o + 1) 109 (ns_s4 g) := by
            have e := v_98_o1
            rw [eg_98, show ns_s3 g 0 = g 0 from by unfold ns_s3 ns_s2 ns_s1; rw [ns_up_n (by omega), ns_up_n (by omega), ns_up_n (by omega)]] at e
            exact e
          refine cq_iconst F (v := 0) dX7_step_99 rfl ?_
          refine cq_istore_n F (i := 2) dX7_step_100 rfl (by decide) ?_
          refine cq_iconst F (v := 0) dX7_step_101 rfl ?_
          refine cq_istore_n F (i := 3) dX7_step_102 rfl (by decide) ?_
          refine cq_loc (L2 := [(0, .ref o), (2, .int (nI (ns_bS (ns_s4 g) 0))), (3, .int (nI 0))]) rfl ?_
          exact loop_103 (g 6 + 1) 0 M_98 _ (by omega) w_99 ((((cq_only.rf.up h_30).up h_52).up h_88).up h_98) rfl (by omega)
      · have c_37 : ¬ 0 = 0 := fun z => c_37 ((nI_b (a := 0) (b := 0) (by omega) (by omega)).2.2.mpr z)
        omega
    · have c_21 : ¬ 0 = 0 := fun z => c_21 ((nI_b (a := 0) (b := 0) (by omega) (by omega)).2.2.mpr z)
      omega
  · have c_4 : ¬ (ns_flames g (g 6)) ≤ 0 := fun z => c_4 ((nI_b (a := (ns_flames g (g 6))) (b := 0) (by omega) (by omega)).1.mpr z)
    refine cq_iconst F (v := 1) dX7_step_7 rfl ?_
    refine cq_goto F (tgt := 12) dX7_step_8 (by decide) ?_
    refine cq_istore_n F (i := 1) dX7_step_12 rfl (by decide) ?_
    refine cq_aload_n F (i := 0) dX7_step_13 rfl rfl ?_
    refine cq_getT (t := (o + 1)) F (C := RX7) (T := TX7) (N := 22) (ci := 8) ho.kind rfl ⟨⟨by decide, by decide⟩, rfl⟩ inX7 0 (by decide) rfl rfl ho.t0 (F.1.2.2.2.2 _ (List.mem_of_getElem? (l := wsX7_step) (i := 1) (a := .fieldLink RX7 7 "CordClockModel" "row" "[I") (by decide +kernel))) dX7_step_14 ?_
    refine cq_iconst F (v := 3) dX7_step_17 rfl ?_
    refine cq_dup2 F dX7_step_18 rfl rfl ?_
    refine cq_iald_j F (j := 3) ho.k1 ho.n1 rfl ⟨(by omega), by decide⟩ dX7_step_19 ?_
    rw [hg _ (by omega)]
    refine cq_iload_n F (i := 1) dX7_step_20 rfl rfl ?_
    refine cq_if_eq F (tgt := 28) dX7_step_21 (by decide) (fun c_21 => ?_) (fun c_21 => ?_)
    · have c_21 : 1 = 0 := (nI_b (a := 1) (b := 0) (by omega) (by omega)).2.2.mp c_21
      omega
    · have c_21 : ¬ 1 = 0 := fun z => c_21 ((nI_b (a := 1) (b := 0) (by omega) (by omega)).2.2.mpr z)
      refine cq_iconst F (v := 1) dX7_step_24 rfl ?_
      refine cq_goto F (tgt := 29) dX7_step_25 (by decide) ?_
      refine cq_iadd F dX7_step_29 ?_
      rw [show (nI (g (3)) + 1 : Int32) = nI ((g (3)) + 1) from nI_add _ _]
      refine cq_iast_j F (j := 3) ho.k1 ho.n1 rfl ⟨(by omega), by decide⟩ dX7_step_30 (fun M_30 h_30 => ?_)
      obtain ⟨g_30, eg_30⟩ : ∃ z, z = ns_up g (3) (((g (3)) + 1)) := ⟨_, rfl⟩
      have v_30_o1 : cq_nv M_30 (o + 1) 109 g_30 := by rw [eg_30]; exact hg.up h_30
      have w_31 : cq_nv M_30 (o + 1) 109 (ns_s1 g) := by
        have e := v_30_o1
        rw [eg_30] at e
        unfold ns_s1
        first | exact e | (rw [if_pos (by omega)]; exact e) | (rw [if_neg (by omega)]; exact e)
      refine cq_aload_n F (i := 0) dX7_step_31 rfl rfl ?_
      refine cq_getT (t := (o + 1)) F (C := RX7) (T := TX7) (N := 22) (ci := 8) ho.kind rfl ⟨⟨by decide, by decide⟩, rfl⟩ inX7 0 (by decide) rfl rfl ho.t0 (F.1.2.2.2.2 _ (List.mem_of_getElem? (l := wsX7_step) (i := 1) (a := .fieldLink RX7 7 "CordClockModel" "row" "[I") (by decide +kernel))) dX7_step_32 ?_
      refine cq_iconst F (v := 4) dX7_step_35 rfl ?_
      refine cq_iload_n F (i := 1) dX7_step_36 rfl rfl ?_
      refine cq_if_eq F (tgt := 44) dX7_step_37 (by decide) (fun c_37 => ?_) (fun c_37 => ?_)
      · have c_37 : 1 = 0 := (nI_b (a := 1) (b := 0) (by omega) (by omega)).2.2.mp c_37
        omega
      · have c_37 : ¬ 1 = 0 := fun z => c_37 ((nI_b (a := 1) (b := 0) (by omega) (by omega)).2.2.mpr z)
        refine cq_iconst F (v := 0) dX7_step_40 rfl ?_
        refine cq_goto F (tgt := 52) dX7_step_41 (by decide) ?_
        refine cq_iast_j F (j := 4) ho.k1 ho.n1 rfl ⟨(by omega), by decide⟩ dX7_step_52 (fun M_52 h_52 => ?_)
        obtain ⟨g_52, eg_52⟩ : ∃ z, z = ns_up (ns_s1 g) (4) (0) := ⟨_, rfl⟩
        have v_52_o1 : cq_nv M_52 (o + 1) 109 g_52 := by rw [eg_52]; exact w_31.up h_52
        have w_53 : cq_nv M_52 (o + 1) 109 (ns_s2 g) := by
          have e := v_52_o1
          rw [eg_52] at e
          unfold ns_s2
          first | (rw [if_pos (by omega)]; exact e) | (rw [if_neg (by omega)]; rw [show ns_s1 g 4 = g 4 from ns_up_n (by omega)] at e; exact e)
        refine cq_aload_n F (i := 0) dX7_step_53 rfl rfl ?_
        refine cq_getT (t := (o + 1)) F (C := RX7) (T := TX7) (N := 22) (ci := 8) ho.kind rfl ⟨⟨by decide, by decide⟩, rfl⟩ inX7 0 (by decide) rfl rfl ho.t0 (F.1.2.2.2.2 _ (List.mem_of_getElem? (l := wsX7_step) (i := 1) (a := .fieldLink RX7 7 "CordClockModel" "row" "[I") (by decide +kernel))) dX7_step_54 ?_
        refine cq_iconst F (v := 5) dX7_step_57 rfl ?_
        refine cq_aload_n F (i := 0) dX7_step_58 rfl rfl ?_
        refine cq_getT (t := (o + 1)) F (C := RX7) (T := TX7) (N := 22) (ci := 8) ho.kind rfl ⟨⟨by decide, by decide⟩, rfl⟩ inX7 0 (by decide) rfl rfl ho.t0 (F.1.2.2.2.2 _ (List.mem_of_getElem? (l := wsX7_step) (i := 1) (a := .fieldLink RX7 7 "CordClockModel" "row" "[I") (by decide +kernel))) dX7_step_59 ?_
        refine cq_iconst F (v := 4) dX7_step_62 rfl ?_
        refine cq_iald_j F (j := 4) ho.k1 ho.n1 rfl ⟨(by omega), by decide⟩ dX7_step_63 ?_
        rw [w_53 _ (by omega)]
        refine cq_aload_n F (i := 0) dX7_step_64 rfl rfl ?_
        refine cq_getT (t := (o + 1)) F (C := RX7) (T := TX7) (N := 22) (ci := 8) ho.kind rfl ⟨⟨by decide, by decide⟩, rfl⟩ inX7 0 (by decide) rfl rfl ho.t0 (F.1.2.2.2.2 _ (List.mem_of_getElem? (l := wsX7_step) (i := 1) (a := .fieldLink RX7 7 "CordClockModel" "row" "[I") (by decide +kernel))) dX7_step_65 ?_
        refine cq_iconst F (v := 5) dX7_step_68 rfl ?_
        refine cq_iald_j F (j := 5) ho.k1 ho.n1 rfl ⟨(by omega), by decide⟩ dX7_step_69 ?_
        rw [w_53 _ (by omega)]
        refine cq_icmp_le F (tgt := 82) dX7_step_70 (by decide) (fun c_70 => ?_) (fun c_70 => ?_)
        · have c_70 : ((ns_s2 g) (4)) ≤ ((ns_s2 g) (5)) := (nI_b (a := ((ns_s2 g) (4))) (b := ((ns_s2 g) (5))) (by omega) (by omega)).1.mp c_70
          refine cq_aload_n F (i := 0) dX7_step_82 rfl rfl ?_
          refine cq_getT (t := (o + 1)) F (C := RX7) (T := TX7) (N := 22) (ci := 8) ho.kind rfl ⟨⟨by decide, by decide⟩, rfl⟩ inX7 0 (by decide) rfl rfl ho.t0 (F.1.2.2.2.2 _ (List.mem_of_getElem? (l := wsX7_step) (i := 1) (a := .fieldLink RX7 7 "CordClockModel" "row" "[I") (by decide +kernel))) dX7_step_83 ?_
          refine cq_iconst F (v := 5) dX7_step_86 rfl ?_
          refine cq_iald_j F (j := 5) ho.k1 ho.n1 rfl ⟨(by omega), by decide⟩ dX7_step_87 ?_
          rw [w_53 _ (by omega)]
          refine cq_iast_j F (j := 5) ho.k1 ho.n1 rfl ⟨(by omega), by decide⟩ dX7_step_88 (fun M_88 h_88 => ?_)
          obtain ⟨g_88, eg_88⟩ : ∃ z, z = ns_up (ns_s2 g) (5) (((ns_s2 g) (5))) := ⟨_, rfl⟩
          have v_88_o1 : cq_nv M_88 (o + 1) 109 g_88 := by rw [eg_88]; exact w_53.up h_88
          have w_89 : cq_nv M_88 (o + 1) 109 (ns_s3 g) := by
            have e := v_88_o1
            rw [eg_88] at e
            unfold ns_s3
            first | exact e | (rw [if_pos (by omega)]; exact e) | (rw [if_neg (by omega)]; exact e)
          refine cq_aload_n F (i := 0) dX7_step_89 rfl rfl ?_
          refine cq_getT (t := (o + 1)) F (C := RX7) (T := TX7) (N := 22) (ci := 8) ho.kind rfl ⟨⟨by decide, by decide⟩, rfl⟩ inX7 0 (by decide) rfl rfl ho.t0 (F.1.2.2.2.2 _ (List.mem_of_getElem? (l := wsX7_step) (i := 1) (a := .fieldLink RX7 7 "CordClockModel" "row" "[I") (by decide +kernel))) dX7_step_90 ?_
          refine cq_iconst F (v := 0) dX7_step_93 rfl ?_
          refine cq_dup2 F dX7_step_94 rfl rfl ?_
          refine cq_iald_j F (j := 0) ho.k1 ho.n1 rfl ⟨(by omega), by decide⟩ dX7_step_95 ?_
          rw [w_89 _ (by omega)]
          refine cq_iconst F (v := 1) dX7_step_96 rfl ?_
          refine cq_iadd F dX7_step_97 ?_
          rw [show (nI ((ns_s3 g) (0)) + 1 : Int32) = nI (((ns_s3 g) (0)) + 1) from nI_add _ _]
          refine cq_iast_j F (j := 0) ho.k1 ho.n1 rfl ⟨(by omega), by decide⟩ dX7_step_98 (fun M_98 h_98 => ?_)
          obtain ⟨g_98, eg_98⟩ : ∃ z, z = ns_up (ns_s3 g) (0) ((((ns_s3 g) (0)) + 1)) := ⟨_, rfl⟩
          have v_98_o1 : cq_nv M_98 (o + 1) 109 g_98 := by rw [eg_98]; exact w_89.up h_98
          have w_99 : cq_nv M_98 (o + 1) 109 (ns_s4 g) := by
            have e := v_98_o1
            rw [eg_98, show ns_s3 g 0 = g 0 from by unfold ns_s3 ns_s2 ns_s1; rw [ns_up_n (by omega), ns_up_n (by omega), ns_up_n (by omega)]] at e
            exact e
          refine cq_iconst F (v := 0) dX7_step_99 rfl ?_
          refine cq_istore_n F (i := 2) dX7_step_100 rfl (by decide) ?_
          refine cq_iconst F (v := 0) dX7_step_101 rfl ?_
          refine cq_istore_n F (i := 3) dX7_step_102 rfl (by decide) ?_
          refine cq_loc (L2 := [(0, .ref o), (2, .int (nI (ns_bS (ns_s4 g) 0))), (3, .int (nI 0))]) rfl ?_
          exact loop_103 (g 6 + 1) 0 M_98 _ (by omega) w_99 ((((cq_only.rf.up h_30).up h_52).up h_88).up h_98) rfl (by omega)
        · have c_70 : ¬ ((ns_s2 g) (4)) ≤ ((ns_s2 g) (5)) := fun z => c_70 ((nI_b (a := ((ns_s2 g) (4))) (b := ((ns_s2 g) (5))) (by omega) (by omega)).1.mpr z)
          refine cq_aload_n F (i := 0) dX7_step_73 rfl rfl ?_
          refine cq_getT (t := (o + 1)) F (C := RX7) (T := TX7) (N := 22) (ci := 8) ho.kind rfl ⟨⟨by decide, by decide⟩, rfl⟩ inX7 0 (by decide) rfl rfl ho.t0 (F.1.2.2.2.2 _ (List.mem_of_getElem? (l := wsX7_step) (i := 1) (a := .fieldLink RX7 7 "CordClockModel" "row" "[I") (by decide +kernel))) dX7_step_74 ?_
          refine cq_iconst F (v := 4) dX7_step_77 rfl ?_
          refine cq_iald_j F (j := 4) ho.k1 ho.n1 rfl ⟨(by omega), by decide⟩ dX7_step_78 ?_
          rw [w_53 _ (by omega)]
          refine cq_goto F (tgt := 88) dX7_step_79 (by decide) ?_
          refine cq_iast_j F (j := 5) ho.k1 ho.n1 rfl ⟨(by omega), by decide⟩ dX7_step_88 (fun M_88 h_88 => ?_)
          obtain ⟨g_88, eg_88⟩ : ∃ z, z = ns_up (ns_s2 g) (5) (((ns_s2 g) (4))) := ⟨_, rfl⟩
          have v_88_o1 : cq_nv M_88 (o + 1) 109 g_88 := by rw [eg_88]; exact w_53.up h_88
          have w_89 : cq_nv M_88 (o + 1) 109 (ns_s3 g) := by
            have e := v_88_o1
            rw [eg_88] at e
            unfold ns_s3
            first | exact e | (rw [if_pos (by omega)]; exact e) | (rw [if_neg (by omega)]; exact e)
          refine cq_aload_n F (i := 0) dX7_step_89 rfl rfl ?_
          refine cq_getT (t := (o + 1)) F (C := RX7) (T := TX7) (N := 22) (ci := 8) ho.kind rfl ⟨⟨by decide, by decide⟩, rfl⟩ inX7 0 (by decide) rfl rfl ho.t0 (F.1.2.2.2.2 _ (List.mem_of_getElem? (l := wsX7_step) (i := 1) (a := .fieldLink RX7 7 "CordClockModel" "row" "[I") (by decide +kernel))) dX7_step_90 ?_
          refine cq_iconst F (v := 0) dX7_step_93 rfl ?_
          refine cq_dup2 F dX7_step_94 rfl rfl ?_
          refine cq_iald_j F (j := 0) ho.k1 ho.n1 rfl ⟨(by omega), by decide⟩ dX7_step_95 ?_
          rw [w_89 _ (by omega)]
          refine cq_iconst F (v := 1) dX7_step_96 rfl ?_
          refine cq_iadd F dX7_step_97 ?_
          rw [show (nI ((ns_s3 g) (0)) + 1 : Int32) = nI (((ns_s3 g) (0)) + 1) from nI_add _ _]
          refine cq_iast_j F (j := 0) ho.k1 ho.n1 rfl ⟨(by omega), by decide⟩ dX7_step_98 (fun M_98 h_98 => ?_)
          obtain ⟨g_98, eg_98⟩ : ∃ z, z = ns_up (ns_s3 g) (0) ((((ns_s3 g) (0)) + 1)) := ⟨_, rfl⟩
          have v_98_o1 : cq_nv M_98 (o + 1) 109 g_98 := by rw [eg_98]; exact w_89.up h_98
          have w_99 : cq_nv M_98 (o + 1) 109 (ns_s4 g) := by
            have e := v_98_o1
            rw [eg_98, show ns_s3 g 0 = g 0 from by unfold ns_s3 ns_s2 ns_s1; rw [ns_up_n (by omega), ns_up_n (by omega), ns_up_n (by omega)]] at e
            exact e
          refine cq_iconst F (v := 0) dX7_step_99 rfl ?_
          refine cq_istore_n F (i := 2) dX7_step_100 rfl (by decide) ?_
          refine cq_iconst F (v := 0) dX7_step_101 rfl ?_
          refine cq_istore_n F (i := 3) dX7_step_102 rfl (by decide) ?_
          refine cq_loc (L2 := [(0, .ref o), (2, .int (nI (ns_bS (ns_s4 g) 0))), (3, .int (nI 0))]) rfl ?_
          exact loop_103 (g 6 + 1) 0 M_98 _ (by omega) w_99 ((((cq_only.rf.up h_30).up h_52).up h_88).up h_98) rfl (by omega)
theorem hdVX7_step : yX7_step.cls = RX7 ∧ yX7_step.cls ≠ "java/lang/invoke/MethodHandle" ∧ yX7_step.cls ≠ "java/lang/invoke/VarHandle" ∧ (parseMethodDescriptor yX7_step.desc).map (fun d => d.parameters.length) = some 0 := by decide +kernel
abbrev rmX7_runNow : Room := ({ frames := 6, cells := 0, slots := 0, locals := 135 })
set_option maxHeartbeats 4000000 in
set_option maxRecDepth 100000 in
theorem kX7_runNow (l : Launch) (D : va_G) (cA : Nat → ClassId) (X : cq_X) (Bs : Nat) (o n B : Nat) (g : Nat → Nat) (M : cq_M) (ho : cq_isModel X o) (hg : cq_nv M (o + 1) 109 g) (hk : ns_ok g B) (hn9 : n ≤ 2000) (hB : B < 1999990000) : cq_C l yX7_runNow wsX7_runNow rmX7_runNow D cA X Bs [.ref o, .int (nI n)] M (cq_PI (fun r M1 => r = nI (ns_sigsN g n) ∧ cq_nv M1 (o + 1) 109 (ns_steps g n) ∧ cq_only M M1 (o + 1))) 0 0 := by
  refine cq_met (cc := cX7_runNow) (maxL := 4) (ret := (some .int)) (by decide) rfl (Nat.le_of_ble_eq_true rfl) [(0, .ref o), (1, .int (nI n))] rfl rfl ?_
  intro p9 e9 s9 m9 b9 t9 c9 F hr
  have loop_4 : ∀ (n_4 : Nat) (k : Nat) (M2 : cq_M) (g2 : Nat → Nat), k ≤ n → cq_nv M2 (o + 1) 109 g2 → cq_only M M2 (o + 1) → g2 = ns_steps g k → n - k < n_4 → cq_V p9 l e9 rmX7_runNow s9 m9 ([.ref o, .int (nI n)] : List Value).toArray b9 t9 c9 D cA X Bs 4 0 0 (MQ b9 (cq_Q D cA X Bs (cq_PI (fun r M1 => r = nI (ns_sigsN g n) ∧ cq_nv M1 (o + 1) 109 (ns_steps g n) ∧ cq_only M M1 (o + 1)))) ([.ref o, .int (nI n)] : List Value).toArray s9 0 0 (cq_A Bs)) 4 [(0, .ref o), (1, .int (nI n)), (2, .int (nI (ns_sigsN g k))), (3, .int (nI k))] [] M2 := by
    intro n_4
    induction n_4 with
    | zero =>
      intros
      omega
    | succ n_4 ih_4 =>
      intro k M2 g2 hk1 hg2 ho2 he2 hn
      obtain ⟨hs1, hs2, hs3, hs4⟩ := ns_steps_ok hk k
      rw [← he2] at hs1 hs2 hs3
      refine cq_iload_n F (i := 3) dX7_runNow_4 rfl rfl ?_
      refine cq_iload_n F (i := 1) dX7_runNow_5 rfl rfl ?_
      refine cq_icmp_ge F (tgt := 22) dX7_runNow_6 (by decide) (fun c_6 => ?_) (fun c_6 => ?_)
      · have c_6 : n ≤ k := (nI_b (a := n) (b := k) (by omega) (by omega)).1.mp c_6
        refine cq_iload_n F (i := 2) dX7_runNow_22 rfl rfl ?_
        refine cq_iret F hr (by decide) (by decide) dX7_runNow_23 ⟨_, rfl, ?_⟩
        obtain rfl : k = n := by omega
        rw [he2] at hg2
        exact ⟨rfl, hg2, ho2⟩
      · have c_6 : ¬ n ≤ k := fun z => c_6 ((nI_b (a := n) (b := k) (by omega) (by omega)).1.mpr z)
        refine cq_iload_n F (i := 2) dX7_runNow_9 rfl rfl ?_
        refine cq_aload_n F (i := 0) dX7_runNow_10 rfl rfl ?_
        refine cq_callV F (C := RX7) (ci := 8) (kX7_step l D cA X Bs o (B + k) g2 M2 ho hg2 hs1 (by omega)) (cwV 0 F.1.2.2.2.2 gX7_runNow_X7_step rfl rfl rfl hdVX7_step ⟨Nat.le_of_ble_eq_true rfl, Nat.le_of_ble_eq_true rfl⟩) ho.kind ⟨by decide, by decide⟩ rfl rfl rfl (Nat.le_of_ble_eq_true rfl) dX7_runNow_11 ⟨Nat.le_of_ble_eq_true rfl, Nat.le_of_ble_eq_true rfl⟩ (cq_kI fun r_11 M_11 h_11 => ?_)
        obtain ⟨hr_11, h_11⟩ := h_11
        subst hr_11
        refine cq_iadd F dX7_runNow_14 ?_
        rw [show (nI (ns_sigsN g k) + nI (ns_sigs g2) : Int32) = nI ((ns_sigsN g k) + (ns_sigs g2)) from nI_add _ _]
        refine cq_istore_n F (i := 2) dX7_runNow_15 rfl (by decide) ?_
        rw [show ns_sigsN g k + ns_sigs g2 = ns_sigsN g (k + 1) from by rw [ns_sigsN, ← he2]]
        refine cq_iinc F dX7_runNow_16 rfl (by decide) (fun x_16 e_16 => ?_)
        obtain rfl : x_16 = nI (k + 1) := by rw [e_16]; exact nI_1 _
        refine cq_goto F (tgt := 4) dX7_runNow_19 (by decide) ?_
        refine cq_loc (L2 := [(0, .ref o), (1, .int (nI n)), (2, .int (nI (ns_sigsN g (k + 1)))), (3, .int (nI (k + 1)))]) rfl ?_
        exact ih_4 (k + 1) M_11 _ (by omega) h_11.1 (ho2.trans h_11.2) (by rw [ns_steps, ← he2]) (by omega)
  refine cq_iconst F (v := 0) dX7_runNow_0 rfl ?_
  refine cq_istore_n F (i := 2) dX7_runNow_1 rfl (by decide) ?_
  refine cq_iconst F (v := 0) dX7_runNow_2 rfl ?_
  refine cq_istore_n F (i := 3) dX7_runNow_3 rfl (by decide) ?_
  refine cq_loc (L2 := [(0, .ref o), (1, .int (nI n)), (2, .int (nI (ns_sigsN g 0))), (3, .int (nI 0))]) rfl ?_
  exact loop_4 (n + 1) 0 M g (by omega) hg cq_only.rf rfl (by omega)
theorem hdVX7_runNow : yX7_runNow.cls = RX7 ∧ yX7_runNow.cls ≠ "java/lang/invoke/MethodHandle" ∧ yX7_runNow.cls ≠ "java/lang/invoke/VarHandle" ∧ (parseMethodDescriptor yX7_runNow.desc).map (fun d => d.parameters.length) = some 1 := by decide +kernel
