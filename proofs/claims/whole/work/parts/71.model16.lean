/-! CordClockModel: canDo, doOrder, execute -/
abbrev rmX7_canDo : Room := ({ frames := 4, cells := 0, slots := 0, locals := 88 })
set_option maxHeartbeats 4000000 in
set_option maxRecDepth 100000 in
theorem kX7_canDo (l : Launch) (D : va_G) (cA : Nat → ClassId) (X : cq_X) (Bs : Nat) (o k B : Nat) (q : tx_O) (g : Nat → Nat) (M : cq_M) (ho : cq_isModel X o) (hg : cq_nv M (o + 1) 109 g) (he : tm_ent M o k q) (hq : tx_okO q) (hk : k ≤ 10) (hok : ns_ok g B) : cq_C l yX7_canDo wsX7_canDo rmX7_canDo D cA X Bs [.ref o, .int (nI k)] M (cq_PI (fun r M1 => r = (if ex_can g q then 1 else 0) ∧ M1 = M)) 0 0 := by
  refine cq_met (cc := cX7_canDo) (maxL := 2) (ret := (some .boolean)) (by decide) rfl (Nat.le_of_ble_eq_true rfl) [(0, .ref o), (1, .int (nI k))] rfl rfl ?_
  intro p9 e9 s9 m9 b9 t9 c9 F hr
  have inX7 : ∀ w ∈ wsX70, w ∈ wsX7_canDo := (fun w h => List.mem_cons_of_mem _ (List.mem_append_right _ h))
  have hlet : (q.1 = 0 ∧ tx_let q.1 = 110) ∨ (q.1 = 1 ∧ tx_let q.1 = 108) ∨ (q.1 = 2 ∧ tx_let q.1 = 119) ∨ (q.1 = 3 ∧ tx_let q.1 = 114) := by
    have hq2 := hq
    unfold tx_okO at hq2
    have hk4 : q.1 = 0 ∨ q.1 = 1 ∨ q.1 = 2 ∨ q.1 = 3 := by omega
    rcases hk4 with z | z | z | z <;> rw [z] <;> decide
  have hk6 := hok.1
  have hk51 := hok.2.1
  have hb9 : (q.1 ≠ 3 → q.2.1 ≤ 6) ∧ (q.1 = 2 → q.2.2.1 ≤ 3) ∧ (q.1 = 1 ∨ q.1 = 2 → q.2.2.2.1 ≤ 1) ∧ (q.1 = 3 → q.2.1 ≤ 200) := by
    have hq2 := hq
    unfold tx_okO at hq2
    omega
  refine cq_aload_n F (i := 0) dX7_canDo_0 rfl rfl ?_
  refine cq_getT (t := (o + 7)) F (C := RX7) (T := TX7) (N := 22) (ci := 8) ho.kind rfl ⟨⟨by decide, by decide⟩, rfl⟩ inX7 12 (by decide) rfl rfl ho.t12 (F.1.2.2.2.2 _ (List.mem_of_getElem? (l := wsX7_canDo) (i := 1) (a := .fieldLink RX7 29 "CordClockModel" "letter" "[I") (by decide +kernel))) dX7_canDo_1 ?_
  refine cq_iload_n F (i := 1) dX7_canDo_4 rfl rfl ?_
  refine cq_iald_j F (j := k) ho.k7 ho.n7 rfl ⟨(by omega), by decide⟩ dX7_canDo_5 ?_
  rw [he.2]
  have sw_6 : tx_let q.1 = 110 ∨ tx_let q.1 = 108 ∨ tx_let q.1 = 119 ∨ tx_let q.1 = 114 := by omega
  rcases sw_6 with sw_6 | sw_6 | sw_6 | sw_6
  · rw [sw_6]
    refine cq_lookup F (off := 34) (tgt := 40) dX7_canDo_6 (by decide) (by decide) (by decide) ?_
    have hkd : q.1 = 0 := by omega
    refine cq_aload_n F (i := 0) dX7_canDo_40 rfl rfl ?_
    refine cq_getT (t := (o + 1)) F (C := RX7) (T := TX7) (N := 22) (ci := 8) ho.kind rfl ⟨⟨by decide, by decide⟩, rfl⟩ inX7 0 (by decide) rfl rfl ho.t0 (F.1.2.2.2.2 _ (List.mem_of_getElem? (l := wsX7_canDo) (i := 2) (a := .fieldLink RX7 7 "CordClockModel" "row" "[I") (by decide +kernel))) dX7_canDo_41 ?_
    refine cq_bipush F (v := 6) dX7_canDo_44 (by decide) ?_
    refine cq_iald_j F (j := 6) ho.k1 ho.n1 rfl ⟨(by omega), by decide⟩ dX7_canDo_46 ?_
    rw [hg _ (by omega)]
    refine cq_iconst F (v := 4) dX7_canDo_47 rfl ?_
    refine cq_icmp_ge F (tgt := 55) dX7_canDo_48 (by decide) (fun c_48 => ?_) (fun c_48 => ?_)
    · have c_48 : 4 ≤ (g (6)) := (nI_b (a := 4) (b := (g (6))) (by omega) (by omega)).1.mp c_48
      refine cq_iconst F (v := 0) dX7_canDo_55 rfl ?_
      exact cq_zret F hr (by rfl) (by decide) (by decide) dX7_canDo_56 ⟨_, rfl, ⟨by first | exact (if_pos (Or.inl ⟨hkd, by omega⟩)).symm | exact (if_neg (fun z => by rcases z with z | z | z | z <;> omega)).symm, rfl⟩⟩
    · have c_48 : ¬ 4 ≤ (g (6)) := fun z => c_48 ((nI_b (a := 4) (b := (g (6))) (by omega) (by omega)).1.mpr z)
      refine cq_iconst F (v := 1) dX7_canDo_51 rfl ?_
      refine cq_goto F (tgt := 56) dX7_canDo_52 (by decide) ?_
      exact cq_zret F hr (by rfl) (by decide) (by decide) dX7_canDo_56 ⟨_, rfl, ⟨by first | exact (if_pos (Or.inl ⟨hkd, by omega⟩)).symm | exact (if_neg (fun z => by rcases z with z | z | z | z <;> omega)).symm, rfl⟩⟩
  · rw [sw_6]
    refine cq_lookup F (off := 51) (tgt := 57) dX7_canDo_6 (by decide) (by decide) (by decide) ?_
    have hkd : q.1 = 1 := by omega
    refine cq_aload_n F (i := 0) dX7_canDo_57 rfl rfl ?_
    refine cq_aload_n F (i := 0) dX7_canDo_58 rfl rfl ?_
    refine cq_getT (t := (o + 8)) F (C := RX7) (T := TX7) (N := 22) (ci := 8) ho.kind rfl ⟨⟨by decide, by decide⟩, rfl⟩ inX7 13 (by decide) rfl rfl ho.t13 (F.1.2.2.2.2 _ (List.mem_of_getElem? (l := wsX7_canDo) (i := 3) (a := .fieldLink RX7 32 "CordClockModel" "one" "[I") (by decide +kernel))) dX7_canDo_59 ?_
    refine cq_iload_n F (i := 1) dX7_canDo_62 rfl rfl ?_
    refine cq_iald_j F (j := k) ho.k8 ho.n8 rfl ⟨(by omega), by decide⟩ dX7_canDo_63 ?_
    rw [he.1.1]
    refine cq_callV F (C := RX7) (ci := 8) (kX7_isCord l D cA X Bs o (nI q.2.1) g M ho hg hk6) (cwV 1 F.1.2.2.2.2 gX7_canDo_X7_isCord rfl rfl rfl hdVX7_isCord ⟨Nat.le_of_ble_eq_true rfl, Nat.le_of_ble_eq_true rfl⟩) ho.kind ⟨by decide, by decide⟩ rfl rfl rfl (Nat.le_of_ble_eq_true rfl) dX7_canDo_64 ⟨Nat.le_of_ble_eq_true rfl, Nat.le_of_ble_eq_true rfl⟩ (cq_kIp fun r_64 h_64 => ?_)
    refine cq_if_eq F (tgt := 102) dX7_canDo_67 (by decide) (fun c_67 => ?_) (fun c_67 => ?_)
    · have c_67 := cq_b0 h_64 c_67
      have d_67 : ¬ q.2.1 < g 6 := fun z => c_67 (nI_cd2 (by omega) z)
      refine cq_iconst F (v := 0) dX7_canDo_102 rfl ?_
      refine cq_zret F hr (by rfl) (by decide) (by decide) dX7_canDo_103 ⟨_, rfl, ?_⟩
      refine ⟨?_, rfl⟩
      first
      | exact (if_pos (Or.inr (Or.inl ⟨hkd, d_67, by first | (rw [c_84]; exact c_95) | (rw [show q.2.2.2.1 = 0 by omega]; exact c_95)⟩))).symm
      | exact (if_neg (fun z => d_67 (by rcases z with z | z | z | z <;> omega))).symm
      | refine (if_neg (fun z => ?_)).symm
        rcases z with z | z | z | z
        · omega
        · have z2 := z.2.2
          first
          | exact c_95 (by rw [c_84] at z2; exact z2)
          | exact c_95 (by rw [show q.2.2.2.1 = 0 by omega] at z2; exact z2)
        · omega
        · omega
    · have c_67 := cq_b1 h_64 c_67
      have d_67 : q.2.1 < g 6 := (nI_ltI (by omega) (by omega)).mp c_67.2
      refine cq_aload_n F (i := 0) dX7_canDo_70 rfl rfl ?_
      refine cq_aload_n F (i := 0) dX7_canDo_71 rfl rfl ?_
      refine cq_getT (t := (o + 8)) F (C := RX7) (T := TX7) (N := 22) (ci := 8) ho.kind rfl ⟨⟨by decide, by decide⟩, rfl⟩ inX7 13 (by decide) rfl rfl ho.t13 (F.1.2.2.2.2 _ (List.mem_of_getElem? (l := wsX7_canDo) (i := 3) (a := .fieldLink RX7 32 "CordClockModel" "one" "[I") (by decide +kernel))) dX7_canDo_72 ?_
      refine cq_iload_n F (i := 1) dX7_canDo_75 rfl rfl ?_
      refine cq_iald_j F (j := k) ho.k8 ho.n8 rfl ⟨(by omega), by decide⟩ dX7_canDo_76 ?_
      rw [he.1.1]
      refine cq_aload_n F (i := 0) dX7_canDo_77 rfl rfl ?_
      refine cq_getT (t := (o + 10)) F (C := RX7) (T := TX7) (N := 22) (ci := 8) ho.kind rfl ⟨⟨by decide, by decide⟩, rfl⟩ inX7 15 (by decide) rfl rfl ho.t15 (F.1.2.2.2.2 _ (List.mem_of_getElem? (l := wsX7_canDo) (i := 4) (a := .fieldLink RX7 38 "CordClockModel" "left" "[I") (by decide +kernel))) dX7_canDo_78 ?_
      refine cq_iload_n F (i := 1) dX7_canDo_81 rfl rfl ?_
      refine cq_iald_j F (j := k) ho.k10 ho.n10 rfl ⟨(by omega), by decide⟩ dX7_canDo_82 ?_
      rw [(he.1.2.2.1 (Or.inl hkd))]
      refine cq_iconst F (v := 1) dX7_canDo_83 rfl ?_
      refine cq_icmp_ne F (tgt := 91) dX7_canDo_84 (by decide) (fun c_84 => ?_) (fun c_84 => ?_)
      · have c_84 : ¬ q.2.2.2.1 = 1 := fun z => c_84 ((nI_b (a := q.2.2.2.1) (b := 1) (by omega) (by omega)).2.2.mpr z)
        refine cq_iconst F (v := 0) dX7_canDo_91 rfl ?_
        refine cq_callV F (C := RX7) (ci := 8) (kX7_canLight l D cA X Bs o q.2.1 0 g M ho hg (by omega) (hok.2.2.2.1 _ d_67)) (cwV 2 F.1.2.2.2.2 gX7_canDo_X7_canLight rfl rfl rfl hdVX7_canLight ⟨Nat.le_of_ble_eq_true rfl, Nat.le_of_ble_eq_true rfl⟩) ho.kind ⟨by decide, by decide⟩ rfl rfl rfl (Nat.le_of_ble_eq_true rfl) dX7_canDo_92 ⟨Nat.le_of_ble_eq_true rfl, Nat.le_of_ble_eq_true rfl⟩ (cq_kIp fun r_92 h_92 => ?_)
        refine cq_if_eq F (tgt := 102) dX7_canDo_95 (by decide) (fun c_95 => ?_) (fun c_95 => ?_)
        · have c_95 := cq_b0 h_92 c_95
          refine cq_iconst F (v := 0) dX7_canDo_102 rfl ?_
          refine cq_zret F hr (by rfl) (by decide) (by decide) dX7_canDo_103 ⟨_, rfl, ?_⟩
          refine ⟨?_, rfl⟩
          first
          | exact (if_pos (Or.inr (Or.inl ⟨hkd, d_67, by first | (rw [c_84]; exact c_95) | (rw [show q.2.2.2.1 = 0 by omega]; exact c_95)⟩))).symm
          | exact (if_neg (fun z => d_67 (by rcases z with z | z | z | z <;> omega))).symm
          | refine (if_neg (fun z => ?_)).symm
            rcases z with z | z | z | z
            · omega
            · have z2 := z.2.2
              first
              | exact c_95 (by rw [c_84] at z2; exact z2)
              | exact c_95 (by rw [show q.2.2.2.1 = 0 by omega] at z2; exact z2)
            · omega
            · omega
        · have c_95 := cq_b1 h_92 c_95
          refine cq_iconst F (v := 1) dX7_canDo_98 rfl ?_
          refine cq_goto F (tgt := 103) dX7_canDo_99 (by decide) ?_
          refine cq_zret F hr (by rfl) (by decide) (by decide) dX7_canDo_103 ⟨_, rfl, ?_⟩
          refine ⟨?_, rfl⟩
          first
          | exact (if_pos (Or.inr (Or.inl ⟨hkd, d_67, by first | (rw [c_84]; exact c_95) | (rw [show q.2.2.2.1 = 0 by omega]; exact c_95)⟩))).symm
          | exact (if_neg (fun z => d_67 (by rcases z with z | z | z | z <;> omega))).symm
          | refine (if_neg (fun z => ?_)).symm
            rcases z with z | z | z | z
            · omega
            · have z2 := z.2.2
              first
              | exact c_95 (by rw [c_84] at z2; exact z2)
              | exact c_95 (by rw [show q.2.2.2.1 = 0 by omega] at z2; exact z2)
            · omega
            · omega
      · have c_84 : q.2.2.2.1 = 1 := (nI_b (a := q.2.2.2.1) (b := 1) (by omega) (by omega)).2.2.mp c_84
        refine cq_iconst F (v := 1) dX7_canDo_87 rfl ?_
        refine cq_goto F (tgt := 92) dX7_canDo_88 (by decide) ?_
        refine cq_callV F (C := RX7) (ci := 8) (kX7_canLight l D cA X Bs o q.2.1 1 g M ho hg (by omega) (hok.2.2.2.1 _ d_67)) (cwV 2 F.1.2.2.2.2 gX7_canDo_X7_canLight rfl rfl rfl hdVX7_canLight ⟨Nat.le_of_ble_eq_true rfl, Nat.le_of_ble_eq_true rfl⟩) ho.kind ⟨by decide, by decide⟩ rfl rfl rfl (Nat.le_of_ble_eq_true rfl) dX7_canDo_92 ⟨Nat.le_of_ble_eq_true rfl, Nat.le_of_ble_eq_true rfl⟩ (cq_kIp fun r_92 h_92 => ?_)
        refine cq_if_eq F (tgt := 102) dX7_canDo_95 (by decide) (fun c_95 => ?_) (fun c_95 => ?_)
        · have c_95 := cq_b0 h_92 c_95
          refine cq_iconst F (v := 0) dX7_canDo_102 rfl ?_
          refine cq_zret F hr (by rfl) (by decide) (by decide) dX7_canDo_103 ⟨_, rfl, ?_⟩
          refine ⟨?_, rfl⟩
          first
          | exact (if_pos (Or.inr (Or.inl ⟨hkd, d_67, by first | (rw [c_84]; exact c_95) | (rw [show q.2.2.2.1 = 0 by omega]; exact c_95)⟩))).symm
          | exact (if_neg (fun z => d_67 (by rcases z with z | z | z | z <;> omega))).symm
          | refine (if_neg (fun z => ?_)).symm
            rcases z with z | z | z | z
            · omega
            · have z2 := z.2.2
              first
              | exact c_95 (by rw [c_84] at z2; exact z2)
              | exact c_95 (by rw [show q.2.2.2.1 = 0 by omega] at z2; exact z2)
            · omega
            · omega
        · have c_95 := cq_b1 h_92 c_95
          refine cq_iconst F (v := 1) dX7_canDo_98 rfl ?_
          refine cq_goto F (tgt := 103) dX7_canDo_99 (by decide) ?_
          refine cq_zret F hr (by rfl) (by decide) (by decide) dX7_canDo_103 ⟨_, rfl, ?_⟩
          refine ⟨?_, rfl⟩
          first
          | exact (if_pos (Or.inr (Or.inl ⟨hkd, d_67, by first | (rw [c_84]; exact c_95) | (rw [show q.2.2.2.1 = 0 by omega]; exact c_95)⟩))).symm
          | exact (if_neg (fun z => d_67 (by rcases z with z | z | z | z <;> omega))).symm
          | refine (if_neg (fun z => ?_)).symm
            rcases z with z | z | z | z
            · omega
            · have z2 := z.2.2
              first
              | exact c_95 (by rw [c_84] at z2; exact z2)
              | exact c_95 (by rw [show q.2.2.2.1 = 0 by omega] at z2; exact z2)
            · omega
            · omega
  · rw [sw_6]
    refine cq_lookup F (off := 98) (tgt := 104) dX7_canDo_6 (by decide) (by decide) (by decide) ?_
    have hkd : q.1 = 2 := by omega
    refine cq_aload_n F (i := 0) dX7_canDo_104 rfl rfl ?_
    refine cq_aload_n F (i := 0) dX7_canDo_105 rfl rfl ?_
    refine cq_getT (t := (o + 8)) F (C := RX7) (T := TX7) (N := 22) (ci := 8) ho.kind rfl ⟨⟨by decide, by decide⟩, rfl⟩ inX7 13 (by decide) rfl rfl ho.t13 (F.1.2.2.2.2 _ (List.mem_of_getElem? (l := wsX7_canDo) (i := 3) (a := .fieldLink RX7 32 "CordClockModel" "one" "[I") (by decide +kernel))) dX7_canDo_106 ?_
    refine cq_iload_n F (i := 1) dX7_canDo_109 rfl rfl ?_
    refine cq_iald_j F (j := k) ho.k8 ho.n8 rfl ⟨(by omega), by decide⟩ dX7_canDo_110 ?_
    rw [he.1.1]
    refine cq_callV F (C := RX7) (ci := 8) (kX7_isCord l D cA X Bs o (nI q.2.1) g M ho hg hk6) (cwV 1 F.1.2.2.2.2 gX7_canDo_X7_isCord rfl rfl rfl hdVX7_isCord ⟨Nat.le_of_ble_eq_true rfl, Nat.le_of_ble_eq_true rfl⟩) ho.kind ⟨by decide, by decide⟩ rfl rfl rfl (Nat.le_of_ble_eq_true rfl) dX7_canDo_111 ⟨Nat.le_of_ble_eq_true rfl, Nat.le_of_ble_eq_true rfl⟩ (cq_kIp fun r_111 h_111 => ?_)
    refine cq_if_eq F (tgt := 161) dX7_canDo_114 (by decide) (fun c_114 => ?_) (fun c_114 => ?_)
    · have c_114 := cq_b0 h_111 c_114
      have d_114 : ¬ q.2.1 < g 6 := fun z => c_114 (nI_cd2 (by omega) z)
      refine cq_iconst F (v := 0) dX7_canDo_161 rfl ?_
      exact cq_zret F hr (by rfl) (by decide) (by decide) dX7_canDo_162 ⟨_, rfl, ⟨by first | exact (if_pos (Or.inr (Or.inr (Or.inl ⟨hkd, ⟨d_114, d_127⟩, by omega, by omega⟩)))).symm | exact (if_neg (fun z => by rcases z with z | z | z | z <;> omega)).symm, rfl⟩⟩
    · have c_114 := cq_b1 h_111 c_114
      have d_114 : q.2.1 < g 6 := (nI_ltI (by omega) (by omega)).mp c_114.2
      refine cq_aload_n F (i := 0) dX7_canDo_117 rfl rfl ?_
      refine cq_aload_n F (i := 0) dX7_canDo_118 rfl rfl ?_
      refine cq_getT (t := (o + 9)) F (C := RX7) (T := TX7) (N := 22) (ci := 8) ho.kind rfl ⟨⟨by decide, by decide⟩, rfl⟩ inX7 14 (by decide) rfl rfl ho.t14 (F.1.2.2.2.2 _ (List.mem_of_getElem? (l := wsX7_canDo) (i := 5) (a := .fieldLink RX7 35 "CordClockModel" "two" "[I") (by decide +kernel))) dX7_canDo_119 ?_
      refine cq_iload_n F (i := 1) dX7_canDo_122 rfl rfl ?_
      refine cq_iald_j F (j := k) ho.k9 ho.n9 rfl ⟨(by omega), by decide⟩ dX7_canDo_123 ?_
      rw [(he.1.2.1 hkd)]
      refine cq_callV F (C := RX7) (ci := 8) (kX7_isCord l D cA X Bs o (nI q.2.2.1) g M ho hg hk6) (cwV 1 F.1.2.2.2.2 gX7_canDo_X7_isCord rfl rfl rfl hdVX7_isCord ⟨Nat.le_of_ble_eq_true rfl, Nat.le_of_ble_eq_true rfl⟩) ho.kind ⟨by decide, by decide⟩ rfl rfl rfl (Nat.le_of_ble_eq_true rfl) dX7_canDo_124 ⟨Nat.le_of_ble_eq_true rfl, Nat.le_of_ble_eq_true rfl⟩ (cq_kIp fun r_124 h_124 => ?_)
      refine cq_if_eq F (tgt := 161) dX7_canDo_127 (by decide) (fun c_127 => ?_) (fun c_127 => ?_)
      · have c_127 := cq_b0 h_124 c_127
        have d_127 : ¬ q.2.2.1 < g 6 := fun z => c_127 (nI_cd2 (by omega) z)
        refine cq_iconst F (v := 0) dX7_canDo_161 rfl ?_
        exact cq_zret F hr (by rfl) (by decide) (by decide) dX7_canDo_162 ⟨_, rfl, ⟨by first | exact (if_pos (Or.inr (Or.inr (Or.inl ⟨hkd, ⟨d_114, d_127⟩, by omega, by omega⟩)))).symm | exact (if_neg (fun z => by rcases z with z | z | z | z <;> omega)).symm, rfl⟩⟩
      · have c_127 := cq_b1 h_124 c_127
        have d_127 : q.2.2.1 < g 6 := (nI_ltI (by omega) (by omega)).mp c_127.2
        refine cq_aload_n F (i := 0) dX7_canDo_130 rfl rfl ?_
        refine cq_getT (t := (o + 8)) F (C := RX7) (T := TX7) (N := 22) (ci := 8) ho.kind rfl ⟨⟨by decide, by decide⟩, rfl⟩ inX7 13 (by decide) rfl rfl ho.t13 (F.1.2.2.2.2 _ (List.mem_of_getElem? (l := wsX7_canDo) (i := 3) (a := .fieldLink RX7 32 "CordClockModel" "one" "[I") (by decide +kernel))) dX7_canDo_131 ?_
        refine cq_iload_n F (i := 1) dX7_canDo_134 rfl rfl ?_
        refine cq_iald_j F (j := k) ho.k8 ho.n8 rfl ⟨(by omega), by decide⟩ dX7_canDo_135 ?_
        rw [he.1.1]
        refine cq_aload_n F (i := 0) dX7_canDo_136 rfl rfl ?_
        refine cq_getT (t := (o + 9)) F (C := RX7) (T := TX7) (N := 22) (ci := 8) ho.kind rfl ⟨⟨by decide, by decide⟩, rfl⟩ inX7 14 (by decide) rfl rfl ho.t14 (F.1.2.2.2.2 _ (List.mem_of_getElem? (l := wsX7_canDo) (i := 5) (a := .fieldLink RX7 35 "CordClockModel" "two" "[I") (by decide +kernel))) dX7_canDo_137 ?_
        refine cq_iload_n F (i := 1) dX7_canDo_140 rfl rfl ?_
        refine cq_iald_j F (j := k) ho.k9 ho.n9 rfl ⟨(by omega), by decide⟩ dX7_canDo_141 ?_
        rw [(he.1.2.1 hkd)]
        refine cq_icmp_eq F (tgt := 161) dX7_canDo_142 (by decide) (fun c_142 => ?_) (fun c_142 => ?_)
        · have c_142 : q.2.1 = q.2.2.1 := (nI_b (a := q.2.1) (b := q.2.2.1) (by omega) (by omega)).2.2.mp c_142
          refine cq_iconst F (v := 0) dX7_canDo_161 rfl ?_
          exact cq_zret F hr (by rfl) (by decide) (by decide) dX7_canDo_162 ⟨_, rfl, ⟨by first | exact (if_pos (Or.inr (Or.inr (Or.inl ⟨hkd, ⟨d_114, d_127⟩, by omega, by omega⟩)))).symm | exact (if_neg (fun z => by rcases z with z | z | z | z <;> omega)).symm, rfl⟩⟩
        · have c_142 : ¬ q.2.1 = q.2.2.1 := fun z => c_142 ((nI_b (a := q.2.1) (b := q.2.2.1) (by omega) (by omega)).2.2.mpr z)
          refine cq_aload_n F (i := 0) dX7_canDo_145 rfl rfl ?_
          refine cq_getT (t := (o + 1)) F (C := RX7) (T := TX7) (N := 22) (ci := 8) ho.kind rfl ⟨⟨by decide, by decide⟩, rfl⟩ inX7 0 (by decide) rfl rfl ho.t0 (F.1.2.2.2.2 _ (List.mem_of_getElem? (l := wsX7_canDo) (i := 2) (a := .fieldLink RX7 7 "CordClockModel" "row" "[I") (by decide +kernel))) dX7_canDo_146 ?_
          refine cq_bipush F (v := 51) dX7_canDo_149 (by decide) ?_
          refine cq_iald_j F (j := 51) ho.k1 ho.n1 rfl ⟨(by omega), by decide⟩ dX7_canDo_151 ?_
          rw [hg _ (by omega)]
          refine cq_bipush F (v := 8) dX7_canDo_152 (by decide) ?_
          refine cq_icmp_ge F (tgt := 161) dX7_canDo_154 (by decide) (fun c_154 => ?_) (fun c_154 => ?_)
          · have c_154 : 8 ≤ (g (51)) := (nI_b (a := 8) (b := (g (51))) (by omega) (by omega)).1.mp c_154
            refine cq_iconst F (v := 0) dX7_canDo_161 rfl ?_
            exact cq_zret F hr (by rfl) (by decide) (by decide) dX7_canDo_162 ⟨_, rfl, ⟨by first | exact (if_pos (Or.inr (Or.inr (Or.inl ⟨hkd, ⟨d_114, d_127⟩, by omega, by omega⟩)))).symm | exact (if_neg (fun z => by rcases z with z | z | z | z <;> omega)).symm, rfl⟩⟩
          · have c_154 : ¬ 8 ≤ (g (51)) := fun z => c_154 ((nI_b (a := 8) (b := (g (51))) (by omega) (by omega)).1.mpr z)
            refine cq_iconst F (v := 1) dX7_canDo_157 rfl ?_
            refine cq_goto F (tgt := 162) dX7_canDo_158 (by decide) ?_
            exact cq_zret F hr (by rfl) (by decide) (by decide) dX7_canDo_162 ⟨_, rfl, ⟨by first | exact (if_pos (Or.inr (Or.inr (Or.inl ⟨hkd, ⟨d_114, d_127⟩, by omega, by omega⟩)))).symm | exact (if_neg (fun z => by rcases z with z | z | z | z <;> omega)).symm, rfl⟩⟩
  · rw [sw_6]
    refine cq_lookup F (off := 157) (tgt := 163) dX7_canDo_6 (by decide) (by decide) (by decide) ?_
    have hkd : q.1 = 3 := by omega
    refine cq_iconst F (v := 1) dX7_canDo_163 rfl ?_
    exact cq_zret F hr (by rfl) (by decide) (by decide) dX7_canDo_164 ⟨_, rfl, ⟨(if_pos (Or.inr (Or.inr (Or.inr hkd)))).symm, rfl⟩⟩
theorem hdVX7_canDo : yX7_canDo.cls = RX7 ∧ yX7_canDo.cls ≠ "java/lang/invoke/MethodHandle" ∧ yX7_canDo.cls ≠ "java/lang/invoke/VarHandle" ∧ (parseMethodDescriptor yX7_canDo.desc).map (fun d => d.parameters.length) = some 1 := by decide +kernel
