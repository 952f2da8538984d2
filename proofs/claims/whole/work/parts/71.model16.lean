/-! CordClockModel: canDo, doOrder, execute -/
abbrev rmX7_canDo : Room := ({ frames := 4, cells := 0, slots := 0, locals := 88 })
set_option maxHeartbeats 4000000 in
set_option maxRecDepth 100000 in
theorem kX7_canDo (l : Launch) (D : va_G) (cA : Nat → ClassId) (X : cq_X) (Bs : Nat) (o k B : Nat) (q : tx_O) (g : Nat → Nat) (M : cq_M) (ho : cq_isModel X o) (hg : cq_nv M (o + 1) 109 g) (he : tm_ent M o k q) (hq : tx_okO q) (hk : k ≤ 10) (hok : ns_ok g B) : cq_C l yX7_canDo wsX7_canDo rmX7_canDo D cA X Bs [.ref o, .int (nI k)] M (cq_PI (fun r M1 => r = (if ex_can g q then 1 else 0) ∧ M1 = M)) 0 0 := by
  refine cq_met (cc := cX7_canDo) (maxL := 2) (ret := (some .boolean)) (by decide) rfl (Nat.le_of_ble_eq_true rfl) [(0, .ref o), (1, .int (nI k))] rfl rfl ?_
  intro p9 e9 s9 m9 b9 t9 c9 F hr
  have inX7 : ∀ w ∈ wsX70, w ∈ wsX7_canDo := (fun w h => List.mem_cons_of_mem _ (List.mem_append_right _ h))
  have hlet : (q.1 = 0 ∧ tx_let q.1 = 110) ∨ (q.1 = 1 ∧ tx_let q.1 = 108) ∨ (q.1 = 2 ∧ tx_let q.1 = 119) ∨ (q.1 = 3 ∧ tx_let q.1 = 114) := by
    have hq2 := hq
    unfold tx_okO at hq2
    have hk4 : q.1 = 0 ∨ q.1 = 1 ∨ q.1 = 2 ∨ q.1 = 3 := by omega
    rcases hk4 with z | z | z | z <;> rw [z] <;> decide
  have hk6 := hok.1
  have hk51 := hok.2.1
  have hb9 : (q.1 ≠ 3 → q.2.1 ≤ 6) ∧ (q.1 = 2 → q.2.2.1 ≤ 3) ∧ (q.1 = 1 ∨ q.1 = 2 → q.2.2.2.1 ≤ 1) ∧ (q.1 = 3 → q.2.1 ≤ 200) := by
    have hq2 := hq
    unfold tx_okO at hq2
    omega
  refine cq_aload_n F (i := 0) dX7_canDo_0 rfl rfl ?_
  refine cq_getT (t := (o + 7)) F (C := RX7) (T := TX7) (N := 22) (ci := 8) ho.kind rfl ⟨⟨by decide, by decide⟩, rfl⟩ inX7 12 (by decide) rfl rfl ho.t12 (F.1.2.2.2.2 _ (List.mem_of_getElem? (l := wsX7_canDo) (i := 1) (a := .fieldLink RX7 29 "CordClockModel" "letter" "[I") (by decide +kernel))) dX7_canDo_1 ?_
  refine cq_iload_n F (i := 1) dX7_canDo_4 rfl rfl ?_
  refine cq_iald_j F (j := k) ho.k7 ho.n7 rfl ⟨(by omega), by decide⟩ dX7_canDo_5 ?_
  rw [he.2]
  have sw_6 : tx_let q.1 = 110 ∨ tx_let q.1 = 108 ∨ tx_let q.1 = 119 ∨ tx_let q.1 = 114 := by omega
  rcases sw_6 with sw_6 | sw_6 | sw_6 | sw_6
  · rw [sw_6]
    refine cq_lookup F (off := 34) (tgt := 40) dX7_canDo_6 (by decide) (by decide) (by decide) ?_
    have hkd : q.1 = 0 := by omega
    refine cq_aload_n F (i := 0) dX7_canDo_40 rfl rfl ?_
    refine cq_getT (t := (o + 1)) F (C := RX7) (T := TX7) (N := 22) (ci := 8) ho.kind rfl ⟨⟨by decide, by decide⟩, rfl⟩ inX7 0 (by decide) rfl rfl ho.t0 (F.1.2.2.2.2 _ (List.mem_of_getElem? (l := wsX7_canDo) (i := 2) (a := .fieldLink RX7 7 "CordClockModel" "row" "[I") (by decide +kernel))) dX7_canDo_41 ?_
    refine cq_bipush F (v := 6) dX7_canDo_44 (by decide) ?_
    refine cq_iald_j F (j := 6) ho.k1 ho.n1 rfl ⟨(by omega), by decide⟩ dX7_canDo_46 ?_
    rw [hg _ (by omega)]
    refine cq_iconst F (v := 4) dX7_canDo_47 rfl ?_
    refine cq_icmp_ge F (tgt := 55) dX7_canDo_48 (by decide) (fun c_48 => ?_) (fun c_48 => ?_)
    · have c_48 : 4 ≤ (g (6)) := (nI_b (a := 4) (b := (g (6))) (by omega) (by omega)).1.mp c_48
      refine cq_iconst F (v := 0) dX7_canDo_55 rfl ?_
      exact cq_zret F hr (by rfl) (by decide) (by decide) dX7_canDo_56 ⟨_, rfl, ⟨by first | exact (if_pos (Or.inl ⟨hkd, by omega⟩)).symm | exact (if_neg (fun z => by rcases z with z | z | z | z <;> omega)).symm, rfl⟩⟩
    · have c_48 : ¬ 4 ≤ (g (6)) := fun z => c_48 ((nI_b (a := 4) (b := (g (6))) (by omega) (by omega)).1.mpr z)
      refine cq_iconst F (v := 1) dX7_canDo_51 rfl ?_
      refine cq_goto F (tgt := 56) dX7_canDo_52 (by decide) ?_
      exact cq_zret F hr (by rfl) (by decide) (by decide) dX7_canDo_56 ⟨_, rfl, ⟨by first | exact (if_pos (Or.inl ⟨hkd, by omega⟩)).symm | exact (if_neg (fun z => by rcases z with z | z | z | z <;> omega)).symm, rfl⟩⟩
  · rw [sw_6]
    refine cq_lookup F (off := 51) (tgt := 57) dX7_canDo_6 (by decide) (by decide) (by decide) ?_
    have hkd : q.1 = 1 := by omega
    refine cq_aload_n F (i := 0) dX7_canDo_57 rfl rfl ?_
    refine cq_aload_n F (i := 0) dX7_canDo_58 rfl rfl ?_
    refine cq_getT (t := (o + 8)) F (C := RX7) (T := TX7) (N := 22) (ci := 8) ho.kind rfl ⟨⟨by decide, by decide⟩, rfl⟩ inX7 13 (by decide) rfl rfl ho.t13 (F.1.2.2.2.2 _ (List.mem_of_getElem? (l := wsX7_canDo) (i := 3) (a := .fieldLink RX7 32 "CordClockModel" "one" "[I") (by decide +kernel))) dX7_canDo_59 ?_
    refine cq_iload_n F (i := 1) dX7_canDo_62 rfl rfl ?_
    refine cq_iald_j F (j := k) ho.k8 ho.n8 rfl ⟨(by omega), by decide⟩ dX7_canDo_63 ?_
    rw [he.1.1]
    refine cq_callV F (C := RX7) (ci := 8) (kX7_isCord l D cA X Bs o (nI q.2.1) g M ho hg hk6) (cwV 1 F.1.2.2.2.2 gX7_canDo_X7_isCord rfl rfl rfl hdVX7_isCord ⟨Nat.le_of_ble_eq_true rfl, Nat.le_of_ble_eq_true rfl⟩) ho.kind ⟨by decide, by decide⟩ rfl rfl rfl (Nat.le_of_ble_eq_true rfl) dX7_canDo_64 ⟨Nat.le_of_ble_eq_true rfl, Nat.le_of_ble_eq_true rfl⟩ (cq_kIp fun r_64 h_64 => ?_)
    refine cq_if_eq F (tgt := 102) dX7_canDo_67 (by decide) (fun c_67 => ?_) (fun c_67 => ?_)
    · have c_67 := cq_b0 h_64 c_67
      have d_67 : ¬ q.2.1 < g 6 := fun z => c_67 (nI_cd2 (by omega) z)
      refine cq_iconst F (v := 0) dX7_canDo_102 rfl ?_
      refine cq_zret F hr (by rfl) (by decide) (by decide) dX7_canDo_103 ⟨_, rfl, ?_⟩
      refine ⟨?_, rfl⟩
      first
      | exact (if_pos (Or.inr (Or.inl ⟨hkd, d_67, by first | (rw [c_84]; exact c_95) | (rw [show q.2.2.2.1 = 0 by omega]; exact c_95)⟩))).symm
      | exact (if_neg (fun z => d_67 (by rcases z with z | z | z | z <;> omega))).symm
      | refine (if_neg (fun z => ?_)).symm
        rcases z with z | z | z | z
        · omega
        · have z2 := z.2.2
          first
          | exact c_95 (by rw [c_84] at z2; exact z2)
          | exact c_95 (by rw [show q.2.2.2.1 = 0 by omega] at z2; exact z2)
        · omega
        · omega
    · have c_67 := cq_b1 h_64 c_67
      have d_67 : q.2.1 < g 6 := (nI_ltI (by omega) (by omega)).mp c_67.2
      refine cq_aload_n F (i := 0) dX7_canDo_70 rfl rfl ?_
      refine cq_aload_n F (i := 0) dX7_canDo_71 rfl rfl ?_
      refine cq_getT (t := (o + 8)) F (C := RX7) (T := TX7) (N := 22) (ci := 8) ho.kind rfl ⟨⟨by decide, by decide⟩, rfl⟩ inX7 13 (by decide) rfl rfl ho.t13 (F.1.2.2.2.2 _ (List.mem_of_getElem? (l := wsX7_canDo) (i := 3) (a := .fieldLink RX7 32 "CordClockModel" "one" "[I") (by decide +kernel))) dX7_canDo_72 ?_
      refine cq_iload_n F (i := 1) dX7_canDo_75 rfl rfl ?_
      refine cq_iald_j F (j := k) ho.k8 ho.n8 rfl ⟨(by omega), by decide⟩ dX7_canDo_76 ?_
      rw [he.1.1]
      refine cq_aload_n F (i := 0) dX7_canDo_77 rfl rfl ?_
      refine cq_getT (t := (o + 10)) F (C := RX7) (T := TX7) (N := 22) (ci := 8) ho.kind rfl ⟨⟨by decide, by decide⟩, rfl⟩ inX7 15 (by decide) rfl rfl ho.t15 (F.1.2.2.2.2 _ (List.mem_of_getElem? (l := wsX7_canDo) (i := 4) (a := .fieldLink RX7 38 "CordClockModel" "left" "[I") (by decide +kernel))) dX7_canDo_78 ?_
      refine cq_iload_n F (i := 1) dX7_canDo_81 rfl rfl ?_
      refine cq_iald_j F (j := k) ho.k10 ho.n10 rfl ⟨(by omega), by decide⟩ dX7_canDo_82 ?_
      rw [(he.1.2.2.1 (Or.inl hkd))]
      refine cq_iconst F (v := 1) dX7_canDo_83 rfl ?_
      refine cq_icmp_ne F (tgt := 91) dX7_canDo_84 (by decide) (fun c_84 => ?_) (fun c_84 => ?_)
      · have c_84 : ¬ q.2.2.2.1 = 1 := fun z => c_84 ((nI_b (a := q.2.2.2.1) (b := 1) (by omega) (by omega)).2.2.mpr z)
        refine cq_iconst F (v := 0) dX7_canDo_91 rfl ?_
        refine cq_callV F (C := RX7) (ci := 8) (kX7_canLight l D cA X Bs o q.2.1 0 g M ho hg (by omega) (hok.2.2.2.1 _ d_67)) (cwV 2 F.1.2.2.2.2 gX7_canDo_X7_canLight rfl rfl rfl hdVX7_canLight ⟨Nat.le_of_ble_eq_true rfl, Nat.le_of_ble_eq_true rfl⟩) ho.kind ⟨by decide, by decide⟩ rfl rfl rfl (Nat.le_of_ble_eq_true rfl) dX7_canDo_92 ⟨Nat.le_of_ble_eq_true rfl, Nat.le_of_ble_eq_true rfl⟩ (cq_kIp fun r_92 h_92 => ?_)
        refine cq_if_eq F (tgt := 102) dX7_canDo_95 (by decide) (fun c_95 => ?_) (fun c_95 => ?_)
        · have c_95 := cq_b0 h_92 c_95
          refine cq_iconst F (v := 0) dX7_canDo_102 rfl ?_
          refine cq_zret F hr (by rfl) (by decide) (by decide) dX7_canDo_103 ⟨_, rfl, ?_⟩
          refine ⟨?_, rfl⟩
          first
          | exact (if_pos (Or.inr (Or.inl ⟨hkd, d_67, by first | (rw [c_84]; exact c_95) | (rw [show q.2.2.2.1 = 0 by omega]; exact c_95)⟩))).symm
          | exact (if_neg (fun z => d_67 (by rcases z with z | z | z | z <;> omega))).symm
          | refine (if_neg (fun z => ?_)).symm
            rcases z with z | z | z | z
            · omega
            · have z2 := z.2.2
              first
              | exact c_95 (by rw [c_84] at z2; exact z2)
              | exact c_95 (by rw [show q.2.2.2.1 = 0 by omega] at z2; exact z2)
            · omega
            · omega
        · have c_95 := cq_b1 h_92 c_95
          refine cq_iconst F (v := 1) dX7_canDo_98 rfl ?_
          refine cq_goto F (tgt := 103) dX7_canDo_99 (by decide) ?_
          refine cq_zret F hr (by rfl) (by decide) (by decide) dX7_canDo_103 ⟨_, rfl, ?_⟩
          refine ⟨?_, rfl⟩
          first
          | exact (if_pos (Or.inr (Or.inl ⟨hkd, d_67, by first | (rw [c_84]; exact c_95) | (rw [show q.2.2.2.1 = 0 by omega]; exact c_95)⟩))).symm
          | exact (if_neg (fun z => d_67 (by rcases z with z | z | z | z <;> omega))).symm
          | refine (if_neg (fun z => ?_)).symm
            rcases z with z | z | z | z
            · omega
            · have z2 := z.2.2
              first
              | exact c_95 (by rw [c_84] at z2; exact z2)
              | exact c_95 (by rw [show q.2.2.2.1 = 0 by omega] at z2; exact z2)
            · omega
            · omega
      · have c_84 : q.2.2.2.1 = 1 := (nI_b (a := q.2.2.2.1) (b := 1) (by omega) (by omega)).2.2.mp c_84
        refine cq_iconst F (v := 1) dX7_canDo_87 rfl ?_
        refine cq_goto F (tgt := 92) dX7_canDo_88 (by decide) ?_
        refine cq_callV F (C := RX7) (ci := 8) (kX7_canLight l D cA X Bs o q.2.1 1 g M ho hg (by omega) (hok.2.2.2.1 _ d_67)) (cwV 2 F.1.2.2.2.2 gX7_canDo_X7_canLight rfl rfl rfl hdVX7_canLight ⟨Nat.le_of_ble_eq_true rfl, Nat.le_of_ble_eq_true rfl⟩) ho.kind ⟨by decide, by decide⟩ rfl rfl rfl (Nat.le_of_ble_eq_true rfl) dX7_canDo_92 ⟨Nat.le_of_ble_eq_true rfl, Nat.le_of_ble_eq_true rfl⟩ (cq_kIp fun r_92 h_92 => ?_)
        refine cq_if_eq F (tgt := 102) dX7_canDo_95 (by decide) (fun c_95 => ?_) (fun c_95 => ?_)
        · have c_95 := cq_b0 h_92 c_95
          refine cq_iconst F (v := 0) dX7_canDo_102 rfl ?_
          refine cq_zret F hr (by rfl) (by decide) (by decide) dX7_canDo_103 ⟨_, rfl, ?_⟩
          refine ⟨?_, rfl⟩
          first
          | exact (if_pos (Or.inr (Or.inl ⟨hkd, d_67, by first | (rw [c_84]; exact c_95) | (rw [show q.2.2.2.1 = 0 by omega]; exact c_95)⟩))).symm
          | exact (if_neg (fun z => d_67 (by rcases z with z | z | z | z <;> omega))).symm
          | refine (if_neg (fun z => ?_)).symm
            rcases z with z | z | z | z
            · omega
            · have z2 := z.2.2
              first
              | exact c_95 (by rw [c_84] at z2; exact z2)
              | exact c_95 (by rw [show q.2.2.2.1 = 0 by omega] at z2; exact z2)
            · omega
            · omega
        · have c_95 := cq_b1 h_92 c_95
          refine cq_iconst F (v := 1) dX7_canDo_98 rfl ?_
          refine cq_goto F (tgt := 103) dX7_canDo_99 (by decide) ?_
          refine cq_zret F hr (by rfl) (by decide) (by decide) dX7_canDo_103 ⟨_, rfl, ?_⟩
          refine ⟨?_, rfl⟩
          first
          | exact (if_pos (Or.inr (Or.inl ⟨hkd, d_67, by first | (rw [c_84]; exact c_95) | (rw [show q.2.2.2.1 = 0 by omega]; exact c_95)⟩))).symm
          | exact (if_neg (fun z => d_67 (by rcases z with z | z | z | z <;> omega))).symm
          | refine (if_neg (fun z => ?_)).symm
            rcases z with z | z | z | z
            · omega
            · have z2 := z.2.2
              first
              | exact c_95 (by rw [c_84] at z2; exact z2)
              | exact c_95 (by rw [show q.2.2.2.1 = 0 by omega] at z2; exact z2)
            · omega
            · omega
  · rw [sw_6]
    refine cq_lookup F (off := 98) (tgt := 104) dX7_canDo_6 (by decide) (by decide) (by decide) ?_
    have hkd : q.1 = 2 := by omega
    refine cq_aload_n F (i := 0) dX7_canDo_104 rfl rfl ?_
    refine cq_aload_n F (i := 0) dX7_canDo_105 rfl rfl ?_
    refine cq_getT (t := (o + 8)) F (C := RX7) (T := TX7) (N := 22) (ci := 8) ho.kind rfl ⟨⟨by decide, by decide⟩, rfl⟩ inX7 13 (by decide) rfl rfl ho.t13 (F.1.2.2.2.2 _ (List.mem_of_getElem? (l := wsX7_canDo) (i := 3) (a := .fieldLink RX7 32 "CordClockModel" "one" "[I") (by decide +kernel))) dX7_canDo_106 ?_
    refine cq_iload_n F (i := 1) dX7_canDo_109 rfl rfl ?_
    refine cq_iald_j F (j := k) ho.k8 ho.n8 rfl ⟨(by omega), by decide⟩ dX7_canDo_110 ?_
    rw [he.1.1]
    refine cq_callV F (C := RX7) (ci := 8) (kX7_isCord l D cA X Bs o (nI q.2.1) g M ho hg hk6) (cwV 1 F.1.2.2.2.2 gX7_canDo_X7_isCord rfl rfl rfl hdVX7_isCord ⟨Nat.le_of_ble_eq_true rfl, Nat.le_of_ble_eq_true rfl⟩) ho.kind ⟨by decide, by decide⟩ rfl rfl rfl (Nat.le_of_ble_eq_true rfl) dX7_canDo_111 ⟨Nat.le_of_ble_eq_true rfl, Nat.le_of_ble_eq_true rfl⟩ (cq_kIp fun r_111 h_111 => ?_)
    refine cq_if_eq F (tgt := 161) dX7_canDo_114 (by decide) (fun c_114 => ?_) (fun c_114 => ?_)
    · have c_114 := cq_b0 h_111 c_114
      have d_114 : ¬ q.2.1 < g 6 := fun z => c_114 (nI_cd2 (by omega) z)
      refine cq_iconst F (v := 0) dX7_canDo_161 rfl ?_
      exact cq_zret F hr (by rfl) (by decide) (by decide) dX7_canDo_162 ⟨_, rfl, ⟨by first | exact (if_pos (Or.inr (Or.inr (Or.inl ⟨hkd, ⟨d_114, d_127⟩, by omega, by omega⟩)))).symm | exact (if_neg (fun z => by rcases z with z | z | z | z <;> omega)).symm, rfl⟩⟩
    · have c_114 := cq_b1 h_111 c_114
      have d_114 : q.2.1 < g 6 := (nI_ltI (by omega) (by omega)).mp c_114.2
      refine cq_aload_n F (i := 0) dX7_canDo_117 rfl rfl ?_
      refine cq_aload_n F (i := 0) dX7_canDo_118 rfl rfl ?_
      refine cq_getT (t := (o + 9)) F (C := RX7) (T := TX7) (N := 22) (ci := 8) ho.kind rfl ⟨⟨by decide, by decide⟩, rfl⟩ inX7 14 (by decide) rfl rfl ho.t14 (F.1.2.2.2.2 _ (List.mem_of_getElem? (l := wsX7_canDo) (i := 5) (a := .fieldLink RX7 35 "CordClockModel" "two" "[I") (by decide +kernel))) dX7_canDo_119 ?_
      refine cq_iload_n F (i := 1) dX7_canDo_122 rfl rfl ?_
      refine cq_iald_j F (j := k) ho.k9 ho.n9 rfl ⟨(by omega), by decide⟩ dX7_canDo_123 ?_
      rw [(he.1.2.1 hkd)]
      refine cq_callV F (C := RX7) (ci := 8) (kX7_isCord l D cA X Bs o (nI q.2.2.1) g M ho hg hk6) (cwV 1 F.1.2.2.2.2 gX7_canDo_X7_isCord rfl rfl rfl hdVX7_isCord ⟨Nat.le_of_ble_eq_true rfl, Nat.le_of_ble_eq_true rfl⟩) ho.kind ⟨by decide, by decide⟩ rfl rfl rfl (Nat.le_of_ble_eq_true rfl) dX7_canDo_124 ⟨Nat.le_of_ble_eq_true rfl, Nat.le_of_ble_eq_true rfl⟩ (cq_kIp fun r_124 h_124 => ?_)
      refine cq_if_eq F (tgt := 161) dX7_canDo_127 (by decide) (fun c_127 => ?_) (fun c_127 => ?_)
      · have c_127 := cq_b0 h_124 c_127
        have d_127 : ¬ q.2.2.1 < g 6 := fun z => c_127 (nI_cd2 (by omega) z)
        refine cq_iconst F (v := 0) dX7_canDo_161 rfl ?_
        exact cq_zret F hr (by rfl) (by decide) (by decide) dX7_canDo_162 ⟨_, rfl, ⟨by first | exact (if_pos (Or.inr (Or.inr (Or.inl ⟨hkd, ⟨d_114, d_127⟩, by omega, by omega⟩)))).symm | exact (if_neg (fun z => by rcases z with z | z | z | z <;> omega)).symm, rfl⟩⟩
      · have c_127 := cq_b1 h_124 c_127
        have d_127 : q.2.2.1 < g 6 := (nI_ltI (by omega) (by omega)).mp c_127.2
        refine cq_aload_n F (i := 0) dX7_canDo_130 rfl rfl ?_
        refine cq_getT (t := (o + 8)) F (C := RX7) (T := TX7) (N := 22) (ci := 8) ho.kind rfl ⟨⟨by decide, by decide⟩, rfl⟩ inX7 13 (by decide) rfl rfl ho.t13 (F.1.2.2.2.2 _ (List.mem_of_getElem? (l := wsX7_canDo) (i := 3) (a := .fieldLink RX7 32 "CordClockModel" "one" "[I") (by decide +kernel))) dX7_canDo_131 ?_
        refine cq_iload_n F (i := 1) dX7_canDo_134 rfl rfl ?_
        refine cq_iald_j F (j := k) ho.k8 ho.n8 rfl ⟨(by omega), by decide⟩ dX7_canDo_135 ?_
        rw [he.1.1]
        refine cq_aload_n F (i := 0) dX7_canDo_136 rfl rfl ?_
        refine cq_getT (t := (o + 9)) F (C := RX7) (T := TX7) (N := 22) (ci := 8) ho.kind rfl ⟨⟨by decide, by decide⟩, rfl⟩ inX7 14 (by decide) rfl rfl ho.t14 (F.1.2.2.2.2 _ (List.mem_of_getElem? (l := wsX7_canDo) (i := 5) (a := .fieldLink RX7 35 "CordClockModel" "two" "[I") (by decide +kernel))) dX7_canDo_137 ?_
        refine cq_iload_n F (i := 1) dX7_canDo_140 rfl rfl ?_
        refine cq_iald_j F (j := k) ho.k9 ho.n9 rfl ⟨(by omega), by decide⟩ dX7_canDo_141 ?_
        rw [(he.1.2.1 hkd)]
        refine cq_icmp_eq F (tgt := 161) dX7_canDo_142 (by decide) (fun c_142 => ?_) (fun c_142 => ?_)
        · have c_142 : q.2.1 = q.2.2.1 := (nI_b (a := q.2.1) (b := q.2.2.1) (by omega) (by omega)).2.2.mp c_142
          refine cq_iconst F (v := 0) dX7_canDo_161 rfl ?_
          exact cq_zret F hr (by rfl) (by decide) (by decide) dX7_canDo_162 ⟨_, rfl, ⟨by first | exact (if_pos (Or.inr (Or.inr (Or.inl ⟨hkd, ⟨d_114, d_127⟩, by omega, by omega⟩)))).symm | exact (if_neg (fun z => by rcases z with z | z | z | z <;> omega)).symm, rfl⟩⟩
        · have c_142 : ¬ q.2.1 = q.2.2.1 := fun z => c_142 ((nI_b (a := q.2.1) (b := q.2.2.1) (by omega) (by omega)).2.2.mpr z)
          refine cq_aload_n F (i := 0) dX7_canDo_145 rfl rfl ?_
          refine cq_getT (t := (o + 1)) F (C := RX7) (T := TX7) (N := 22) (ci := 8) ho.kind rfl ⟨⟨by decide, by decide⟩, rfl⟩ inX7 0 (by decide) rfl rfl ho.t0 (F.1.2.2.2.2 _ (List.mem_of_getElem? (l := wsX7_canDo) (i := 2) (a := .fieldLink RX7 7 "CordClockModel" "row" "[I") (by decide +kernel))) dX7_canDo_146 ?_
          refine cq_bipush F (v := 51) dX7_canDo_149 (by decide) ?_
          refine cq_iald_j F (j := 51) ho.k1 ho.n1 rfl ⟨(by omega), by decide⟩ dX7_canDo_151 ?_
          rw [hg _ (by omega)]
          refine cq_bipush F (v := 8) dX7_canDo_152 (by decide) ?_
          refine cq_icmp_ge F (tgt := 161) dX7_canDo_154 (by decide) (fun c_154 => ?_) (fun c_154 => ?_)
          · have c_154 : 8 ≤ (g (51)) := (nI_b (a := 8) (b := (g (51))) (by omega) (by omega)).1.mp c_154
            refine cq_iconst F (v := 0) dX7_canDo_161 rfl ?_
            exact cq_zret F hr (by rfl) (by decide) (by decide) dX7_canDo_162 ⟨_, rfl, ⟨by first | exact (if_pos (Or.inr (Or.inr (Or.inl ⟨hkd, ⟨d_114, d_127⟩, by omega, by omega⟩)))).symm | exact (if_neg (fun z => by rcases z with z | z | z | z <;> omega)).symm, rfl⟩⟩
          · have c_154 : ¬ 8 ≤ (g (51)) := fun z => c_154 ((nI_b (a := 8) (b := (g (51))) (by omega) (by omega)).1.mpr z)
            refine cq_iconst F (v := 1) dX7_canDo_157 rfl ?_
            refine cq_goto F (tgt := 162) dX7_canDo_158 (by decide) ?_
            exact cq_zret F hr (by rfl) (by decide) (by decide) dX7_canDo_162 ⟨_, rfl, ⟨by first | exact (if_pos (Or.inr (Or.inr (Or.inl ⟨hkd, ⟨d_114, d_127⟩, by omega, by omega⟩)))).symm | exact (if_neg (fun z => by rcases z with z | z | z | z <;> omega)).symm, rfl⟩⟩
  · rw [sw_6]
    refine cq_lookup F (off := 157) (tgt := 163) dX7_canDo_6 (by decide) (by decide) (by decide) ?_
    have hkd : q.1 = 3 := by omega
    refine cq_iconst F (v := 1) dX7_canDo_163 rfl ?_
    exact cq_zret F hr (by rfl) (by decide) (by decide) dX7_canDo_164 ⟨_, rfl, ⟨(if_pos (Or.inr (Or.inr (Or.inr hkd)))).symm, rfl⟩⟩
theorem hdVX7_canDo : yX7_canDo.cls = RX7 ∧ yX7_canDo.cls ≠ "java/lang/invoke/MethodHandle" ∧ yX7_canDo.cls ≠ "java/lang/invoke/VarHandle" ∧ (parseMethodDescriptor yX7_canDo.desc).map (fun d => d.parameters.length) = some 1 := by decide +kernel
theorem ns_new_put {g : Nat → Nat} {sg k : Nat} {tm : Nat → Nat} (hk : k < sg) (hs : sg ≤ 6) : ns_up (ns_new g sg (fun j => if j < k then tm j else 0)) (8 + 11 * g 6 + k) (tm k) = ns_new g sg (fun j => if j < k + 1 then tm j else 0) := by
  funext j
  unfold ns_new
  by_cases jk : j = 8 + 11 * g 6 + k
  · rw [jk, ns_up_s, if_neg (by omega), if_neg (by omega), if_neg (by omega), if_pos (by omega), show 8 + 11 * g 6 + k - (8 + 11 * g 6) = k by omega]
    exact (if_pos (by omega)).symm
  · rw [ns_up_n jk]
    by_cases j6 : j = 6
    · rw [if_pos j6, if_pos j6]
    · rw [if_neg j6, if_neg j6]
      by_cases jr : j < 7 + 11 * g 6 ∨ 18 + 11 * g 6 ≤ j
      · rw [if_pos jr, if_pos jr]
      · rw [if_neg jr, if_neg jr]
        by_cases j7 : j = 7 + 11 * g 6
        · rw [if_pos j7, if_pos j7]
        · rw [if_neg j7, if_neg j7]
          by_cases j8 : j < 8 + 11 * g 6 + sg
          · rw [if_pos j8, if_pos j8]
            show (if j - (8 + 11 * g 6) < k then tm (j - (8 + 11 * g 6)) else 0) = (if j - (8 + 11 * g 6) < k + 1 then tm (j - (8 + 11 * g 6)) else 0)
            by_cases j9 : j - (8 + 11 * g 6) < k
            · rw [if_pos j9, if_pos (by omega)]
            · rw [if_neg j9, if_neg (by omega)]
          · rw [if_neg j8, if_neg j8]
theorem ns_new_ext {g : Nat → Nat} {sg : Nat} {t1 t2 : Nat → Nat} (h : ∀ i, i < sg → t1 i = t2 i) : ns_new g sg t1 = ns_new g sg t2 := by
  funext j
  unfold ns_new
  by_cases j6 : j = 6
  · rw [if_pos j6, if_pos j6]
  · rw [if_neg j6, if_neg j6]
    by_cases jr : j < 7 + 11 * g 6 ∨ 18 + 11 * g 6 ≤ j
    · rw [if_pos jr, if_pos jr]
    · rw [if_neg jr, if_neg jr]
      by_cases j7 : j = 7 + 11 * g 6
      · rw [if_pos j7, if_pos j7]
      · rw [if_neg j7, if_neg j7]
        by_cases j8 : j < 8 + 11 * g 6 + sg
        · rw [if_pos j8, if_pos j8, h _ (by omega)]
        · rw [if_neg j8, if_neg j8]
theorem ns_new_6 {g : Nat → Nat} {sg : Nat} {tm : Nat → Nat} : ns_new g sg tm 6 = g 6 + 1 := by unfold ns_new; rw [if_pos rfl]
abbrev rmX7_doOrder : Room := ({ frames := 7, cells := 0, slots := 0, locals := 158 })
set_option maxHeartbeats 4000000 in
set_option maxRecDepth 100000 in
theorem kX7_doOrder (l : Launch) (D : va_G) (cA : Nat → ClassId) (X : cq_X) (Bs : Nat) (o k B : Nat) (q : tx_O) (g : Nat → Nat) (M : cq_M) (ho : cq_isModel X o) (hg : cq_nv M (o + 1) 109 g) (he : tm_ent M o k q) (hq : tx_okO q) (hk : k ≤ 10) (hok : ns_ok g B) (hc : ex_can g q) (hB : B < 1999990000) : cq_C l yX7_doOrder wsX7_doOrder rmX7_doOrder D cA X Bs [.ref o, .int (nI k)] M (cq_PV (fun M1 => cq_nv M1 (o + 1) 109 (ex_do g q) ∧ cq_only M M1 (o + 1))) 0 0 := by
  refine cq_met (cc := cX7_doOrder) (maxL := 5) (ret := none) (by decide) rfl (Nat.le_of_ble_eq_true rfl) [(0, .ref o), (1, .int (nI k))] rfl rfl ?_
  intro p9 e9 s9 m9 b9 t9 c9 F hr
  have inX7 : ∀ w ∈ wsX70, w ∈ wsX7_doOrder := (fun w h => List.mem_cons_of_mem _ (List.mem_append_right _ h))
  have hlet : (q.1 = 0 ∧ tx_let q.1 = 110) ∨ (q.1 = 1 ∧ tx_let q.1 = 108) ∨ (q.1 = 2 ∧ tx_let q.1 = 119) ∨ (q.1 = 3 ∧ tx_let q.1 = 114) := by
    have hq2 := hq
    unfold tx_okO at hq2
    have hk4 : q.1 = 0 ∨ q.1 = 1 ∨ q.1 = 2 ∨ q.1 = 3 := by omega
    rcases hk4 with z | z | z | z <;> rw [z] <;> decide
  have hk6 := hok.1
  have hk51 := hok.2.1
  have hb9 : (q.1 ≠ 3 → q.2.1 ≤ 6) ∧ (q.1 = 2 → q.2.2.1 ≤ 3) ∧ (q.1 = 1 ∨ q.1 = 2 → q.2.2.2.1 ≤ 1) ∧ (q.1 = 3 → q.2.1 ≤ 200) := by
    have hq2 := hq
    unfold tx_okO at hq2
    omega
  have loop_53 : ∀ (n_53 : Nat) (i : Nat) (M2 : cq_M) (g2 : Nat → Nat), q.1 = 0 → g 6 < 4 → 1 ≤ q.2.1 ∧ q.2.1 ≤ 6 → i ≤ q.2.1 → cq_nv M2 (o + 1) 109 g2 → cq_only M M2 (o + 1) → g2 = ns_new g q.2.1 (fun j => if j < i then q.2.2.2.2.getD j 0 else 0) → q.2.1 - i < n_53 → cq_V p9 l e9 rmX7_doOrder s9 m9 ([.ref o, .int (nI k)] : List Value).toArray b9 t9 c9 D cA X Bs 5 0 0 (MQ b9 (cq_Q D cA X Bs (cq_PV (fun M1 => cq_nv M1 (o + 1) 109 (ex_do g q) ∧ cq_only M M1 (o + 1)))) ([.ref o, .int (nI k)] : List Value).toArray s9 0 0 (cq_A Bs)) 53 [(0, .ref o), (1, .int (nI k)), (2, .int (nI (g 6))), (3, .int (nI i))] [] M2 := by
    intro n_53
    induction n_53 with
    | zero =>
      intros
      omega
    | succ n_53 ih_53 =>
      intro i M2 g2 hkd hc6 hsg hi9 hg2 hon he2 hn
      refine cq_iload_n F (i := 3) dX7_doOrder_53 rfl rfl ?_
      refine cq_aload_n F (i := 0) dX7_doOrder_54 rfl rfl ?_
      refine cq_getT (t := (o + 8)) F (C := RX7) (T := TX7) (N := 22) (ci := 8) ho.kind rfl ⟨⟨by decide, by decide⟩, rfl⟩ inX7 13 (by decide) rfl rfl ho.t13 (F.1.2.2.2.2 _ (List.mem_of_getElem? (l := wsX7_doOrder) (i := 2) (a := .fieldLink RX7 32 "CordClockModel" "one" "[I") (by decide +kernel))) dX7_doOrder_55 ?_
      refine cq_iload_n F (i := 1) dX7_doOrder_58 rfl rfl ?_
      refine cq_iald_j F (j := k) ho.k8 ho.n8 rfl ⟨(by omega), by decide⟩ dX7_doOrder_59 ?_
      rw [(show M2 (o + 8) k = nI q.2.1 by rw [hon _ (by omega)]; exact he.1.1)]
      refine cq_icmp_ge F (tgt := 88) dX7_doOrder_60 (by decide) (fun c_60 => ?_) (fun c_60 => ?_)
      · have c_60 : q.2.1 ≤ i := (nI_b (a := q.2.1) (b := i) (by omega) (by omega)).1.mp c_60
        refine cq_goto F (tgt := 157) dX7_doOrder_88 (by decide) ?_
        refine cq_vret F hr (by decide) (by decide) dX7_doOrder_157 ⟨rfl, ?_⟩
        have hdo : ex_do g q = ns_new g q.2.1 (fun i => q.2.2.2.2.getD i 0) := if_pos hkd
        rw [hdo]
        refine ⟨?_, hon⟩
        rw [← ns_new_ext (g := g) (sg := q.2.1) (t1 := (fun j => if j < i then q.2.2.2.2.getD j 0 else 0)) (fun j hj => if_pos (by omega))]
        rw [← he2]
        exact hg2
      · have c_60 : ¬ q.2.1 ≤ i := fun z => c_60 ((nI_b (a := q.2.1) (b := i) (by omega) (by omega)).1.mpr z)
        refine cq_aload_n F (i := 0) dX7_doOrder_63 rfl rfl ?_
        refine cq_iload_n F (i := 2) dX7_doOrder_64 rfl rfl ?_
        refine cq_iconst F (v := 1) dX7_doOrder_65 rfl ?_
        refine cq_iload_n F (i := 3) dX7_doOrder_66 rfl rfl ?_
        refine cq_iadd F dX7_doOrder_67 ?_
        rw [show (1 + nI i : Int32) = nI (1 + i) from nI_add _ _]
        refine cq_aload_n F (i := 0) dX7_doOrder_68 rfl rfl ?_
        refine cq_getT (t := (o + 11)) F (C := RX7) (T := TX7) (N := 22) (ci := 8) ho.kind rfl ⟨⟨by decide, by decide⟩, rfl⟩ inX7 16 (by decide) rfl rfl ho.t16 (F.1.2.2.2.2 _ (List.mem_of_getElem? (l := wsX7_doOrder) (i := 3) (a := .fieldLink RX7 41 "CordClockModel" "times" "[I") (by decide +kernel))) dX7_doOrder_69 ?_
        refine cq_bipush F (v := 6) dX7_doOrder_72 (by decide) ?_
        refine cq_iload_n F (i := 1) dX7_doOrder_74 rfl rfl ?_
        refine cq_imul F dX7_doOrder_75 ?_
        rw [show (6 * nI k : Int32) = nI (6 * k) from pk_mul _ _]
        refine cq_iload_n F (i := 3) dX7_doOrder_76 rfl rfl ?_
        refine cq_iadd F dX7_doOrder_77 ?_
        rw [show (nI (6 * k) + nI i : Int32) = nI (6 * k + i) from nI_add _ _]
        refine cq_iald_j F (j := (6 * k + i)) ho.k11 ho.n11 rfl ⟨(by omega), by decide⟩ dX7_doOrder_78 ?_
        rw [(show M2 (o + 11) (6 * k + i) = nI (q.2.2.2.2.getD i 0) by rw [hon _ (by omega)]; exact (he.1.2.2.2 hkd).2 i (by omega))]
        refine cq_callV F (C := RX7) (ci := 8) (kX7_put l D cA X Bs o (g 6) (1 + i) (8 + 11 * g 6 + i) (nI (q.2.2.2.2.getD i 0)) M2 ho (by omega) (by omega)) (cwV 3 F.1.2.2.2.2 gX7_doOrder_X7_put rfl rfl rfl hdVX7_put ⟨Nat.le_of_ble_eq_true rfl, Nat.le_of_ble_eq_true rfl⟩) ho.kind ⟨by decide, by decide⟩ rfl rfl rfl (Nat.le_of_ble_eq_true rfl) dX7_doOrder_79 ⟨Nat.le_of_ble_eq_true rfl, Nat.le_of_ble_eq_true rfl⟩ (cq_kV fun M_79 h_79 => ?_)
        refine cq_iinc F dX7_doOrder_82 rfl (by decide) (fun x_82 e_82 => ?_)
        obtain rfl : x_82 = nI (i + 1) := by rw [e_82]; exact nI_1 _
        refine cq_goto F (tgt := 53) dX7_doOrder_85 (by decide) ?_
        refine cq_loc (L2 := [(0, .ref o), (1, .int (nI k)), (2, .int (nI (g 6))), (3, .int (nI (i + 1)))]) rfl ?_
        exact ih_53 (i + 1) M_79 _ hkd hc6 hsg (by omega) (hg2.up h_79) (hon.up h_79) (by rw [he2]; exact ns_new_put (tm := fun j => q.2.2.2.2.getD j 0) (by omega) hsg.2) (by omega)
  refine cq_aload_n F (i := 0) dX7_doOrder_0 rfl rfl ?_
  refine cq_getT (t := (o + 7)) F (C := RX7) (T := TX7) (N := 22) (ci := 8) ho.kind rfl ⟨⟨by decide, by decide⟩, rfl⟩ inX7 12 (by decide) rfl rfl ho.t12 (F.1.2.2.2.2 _ (List.mem_of_getElem? (l := wsX7_doOrder) (i := 1) (a := .fieldLink RX7 29 "CordClockModel" "letter" "[I") (by decide +kernel))) dX7_doOrder_1 ?_
  refine cq_iload_n F (i := 1) dX7_doOrder_4 rfl rfl ?_
  refine cq_iald_j F (j := k) ho.k7 ho.n7 rfl ⟨(by omega), by decide⟩ dX7_doOrder_5 ?_
  rw [he.2]
  have sw_6 : tx_let q.1 = 110 ∨ tx_let q.1 = 108 ∨ tx_let q.1 = 119 ∨ tx_let q.1 = 114 := by omega
  rcases sw_6 with sw_6 | sw_6 | sw_6 | sw_6
  · rw [sw_6]
    refine cq_lookup F (off := 34) (tgt := 40) dX7_doOrder_6 (by decide) (by decide) (by decide) ?_
    have hkd : q.1 = 0 := by omega
    have hc6 : g 6 < 4 := by rcases hc with z | z | z | z <;> omega
    have hsg : 1 ≤ q.2.1 ∧ q.2.1 ≤ 6 := by have hq2 := hq; unfold tx_okO at hq2; omega
    refine cq_aload_n F (i := 0) dX7_doOrder_40 rfl rfl ?_
    refine cq_aload_n F (i := 0) dX7_doOrder_41 rfl rfl ?_
    refine cq_getT (t := (o + 8)) F (C := RX7) (T := TX7) (N := 22) (ci := 8) ho.kind rfl ⟨⟨by decide, by decide⟩, rfl⟩ inX7 13 (by decide) rfl rfl ho.t13 (F.1.2.2.2.2 _ (List.mem_of_getElem? (l := wsX7_doOrder) (i := 2) (a := .fieldLink RX7 32 "CordClockModel" "one" "[I") (by decide +kernel))) dX7_doOrder_42 ?_
    refine cq_iload_n F (i := 1) dX7_doOrder_45 rfl rfl ?_
    refine cq_iald_j F (j := k) ho.k8 ho.n8 rfl ⟨(by omega), by decide⟩ dX7_doOrder_46 ?_
    rw [he.1.1]
    refine cq_callV F (C := RX7) (ci := 8) (kX7_addCord l D cA X Bs o q.2.1 g M ho hg hc6 hsg.2) (cwV 1 F.1.2.2.2.2 gX7_doOrder_X7_addCord rfl rfl rfl hdVX7_addCord ⟨Nat.le_of_ble_eq_true rfl, Nat.le_of_ble_eq_true rfl⟩) ho.kind ⟨by decide, by decide⟩ rfl rfl rfl (Nat.le_of_ble_eq_true rfl) dX7_doOrder_47 ⟨Nat.le_of_ble_eq_true rfl, Nat.le_of_ble_eq_true rfl⟩ (cq_kI fun r_47 M_47 h_47 => ?_)
    obtain ⟨hr_47, h_47⟩ := h_47
    subst hr_47
    refine cq_istore_n F (i := 2) dX7_doOrder_50 rfl (by decide) ?_
    refine cq_iconst F (v := 0) dX7_doOrder_51 rfl ?_
    refine cq_istore_n F (i := 3) dX7_doOrder_52 rfl (by decide) ?_
    refine cq_loc (L2 := [(0, .ref o), (1, .int (nI k)), (2, .int (nI (g 6))), (3, .int (nI 0))]) rfl ?_
    exact loop_53 (q.2.1 + 1) 0 M_47 _ hkd hc6 hsg (by omega) h_47.1 (cq_only.rf.trans h_47.2) (by simp) (by omega)
  · rw [sw_6]
    refine cq_lookup F (off := 85) (tgt := 91) dX7_doOrder_6 (by decide) (by decide) (by decide) ?_
    have hkd : q.1 = 1 := by omega
    have hc1 : q.2.1 < g 6 ∧ ns_canLight g q.2.1 (nI q.2.2.2.1) := by
      rcases hc with z | z | z | z
      · omega
      · exact z.2
      · omega
      · omega
    have hcq := hok.2.2.2.1 _ hc1.1
    have hs1 : q.2.2.2.1 ≤ 1 := hb9.2.2.1 (Or.inl hkd)
    refine cq_aload_n F (i := 0) dX7_doOrder_91 rfl rfl ?_
    refine cq_aload_n F (i := 0) dX7_doOrder_92 rfl rfl ?_
    refine cq_getT (t := (o + 8)) F (C := RX7) (T := TX7) (N := 22) (ci := 8) ho.kind rfl ⟨⟨by decide, by decide⟩, rfl⟩ inX7 13 (by decide) rfl rfl ho.t13 (F.1.2.2.2.2 _ (List.mem_of_getElem? (l := wsX7_doOrder) (i := 2) (a := .fieldLink RX7 32 "CordClockModel" "one" "[I") (by decide +kernel))) dX7_doOrder_93 ?_
    refine cq_iload_n F (i := 1) dX7_doOrder_96 rfl rfl ?_
    refine cq_iald_j F (j := k) ho.k8 ho.n8 rfl ⟨(by omega), by decide⟩ dX7_doOrder_97 ?_
    rw [he.1.1]
    refine cq_aload_n F (i := 0) dX7_doOrder_98 rfl rfl ?_
    refine cq_getT (t := (o + 10)) F (C := RX7) (T := TX7) (N := 22) (ci := 8) ho.kind rfl ⟨⟨by decide, by decide⟩, rfl⟩ inX7 15 (by decide) rfl rfl ho.t15 (F.1.2.2.2.2 _ (List.mem_of_getElem? (l := wsX7_doOrder) (i := 4) (a := .fieldLink RX7 38 "CordClockModel" "left" "[I") (by decide +kernel))) dX7_doOrder_99 ?_
    refine cq_iload_n F (i := 1) dX7_doOrder_102 rfl rfl ?_
    refine cq_iald_j F (j := k) ho.k10 ho.n10 rfl ⟨(by omega), by decide⟩ dX7_doOrder_103 ?_
    rw [(he.1.2.2.1 (Or.inl hkd))]
    refine cq_iconst F (v := 1) dX7_doOrder_104 rfl ?_
    refine cq_icmp_ne F (tgt := 112) dX7_doOrder_105 (by decide) (fun c_105 => ?_) (fun c_105 => ?_)
    · have c_105 : ¬ q.2.2.2.1 = 1 := fun z => c_105 ((nI_b (a := q.2.2.2.1) (b := 1) (by omega) (by omega)).2.2.mpr z)
      refine cq_iconst F (v := 0) dX7_doOrder_112 rfl ?_
      refine cq_callV F (C := RX7) (ci := 8) (kX7_lightNow l D cA X Bs o q.2.1 0 g M ho hg (by omega) hcq.2.2.2.1 (by have z := hc1.2.2; first | (rw [c_105] at z; exact z) | (rw [show q.2.2.2.1 = 0 by omega] at z; exact z)) hok.2.2.1) (cwV 2 F.1.2.2.2.2 gX7_doOrder_X7_lightNow rfl rfl rfl hdVX7_lightNow ⟨Nat.le_of_ble_eq_true rfl, Nat.le_of_ble_eq_true rfl⟩) ho.kind ⟨by decide, by decide⟩ rfl rfl rfl (Nat.le_of_ble_eq_true rfl) dX7_doOrder_113 ⟨Nat.le_of_ble_eq_true rfl, Nat.le_of_ble_eq_true rfl⟩ (cq_kV fun M_113 h_113 => ?_)
      refine cq_goto F (tgt := 157) dX7_doOrder_116 (by decide) ?_
      refine cq_vret F hr (by decide) (by decide) dX7_doOrder_157 ⟨rfl, ?_⟩
      have hdo : ex_do g q = ns_lightNow g q.2.1 (nI q.2.2.2.1) := (if_neg (by omega)).trans (if_pos hkd)
      rw [hdo]
      first
      | (rw [c_105]; exact h_113)
      | (rw [show q.2.2.2.1 = 0 by omega]; exact h_113)
    · have c_105 : q.2.2.2.1 = 1 := (nI_b (a := q.2.2.2.1) (b := 1) (by omega) (by omega)).2.2.mp c_105
      refine cq_iconst F (v := 1) dX7_doOrder_108 rfl ?_
      refine cq_goto F (tgt := 113) dX7_doOrder_109 (by decide) ?_
      refine cq_callV F (C := RX7) (ci := 8) (kX7_lightNow l D cA X Bs o q.2.1 1 g M ho hg (by omega) hcq.2.2.2.1 (by have z := hc1.2.2; first | (rw [c_105] at z; exact z) | (rw [show q.2.2.2.1 = 0 by omega] at z; exact z)) hok.2.2.1) (cwV 2 F.1.2.2.2.2 gX7_doOrder_X7_lightNow rfl rfl rfl hdVX7_lightNow ⟨Nat.le_of_ble_eq_true rfl, Nat.le_of_ble_eq_true rfl⟩) ho.kind ⟨by decide, by decide⟩ rfl rfl rfl (Nat.le_of_ble_eq_true rfl) dX7_doOrder_113 ⟨Nat.le_of_ble_eq_true rfl, Nat.le_of_ble_eq_true rfl⟩ (cq_kV fun M_113 h_113 => ?_)
      refine cq_goto F (tgt := 157) dX7_doOrder_116 (by decide) ?_
      refine cq_vret F hr (by decide) (by decide) dX7_doOrder_157 ⟨rfl, ?_⟩
      have hdo : ex_do g q = ns_lightNow g q.2.1 (nI q.2.2.2.1) := (if_neg (by omega)).trans (if_pos hkd)
      rw [hdo]
      first
      | (rw [c_105]; exact h_113)
      | (rw [show q.2.2.2.1 = 0 by omega]; exact h_113)
  · rw [sw_6]
    refine cq_lookup F (off := 113) (tgt := 119) dX7_doOrder_6 (by decide) (by decide) (by decide) ?_
    have hkd : q.1 = 2 := by omega
    have hc2 : g 51 < 8 := by rcases hc with z | z | z | z <;> omega
    refine cq_aload_n F (i := 0) dX7_doOrder_119 rfl rfl ?_
    refine cq_aload_n F (i := 0) dX7_doOrder_120 rfl rfl ?_
    refine cq_getT (t := (o + 8)) F (C := RX7) (T := TX7) (N := 22) (ci := 8) ho.kind rfl ⟨⟨by decide, by decide⟩, rfl⟩ inX7 13 (by decide) rfl rfl ho.t13 (F.1.2.2.2.2 _ (List.mem_of_getElem? (l := wsX7_doOrder) (i := 2) (a := .fieldLink RX7 32 "CordClockModel" "one" "[I") (by decide +kernel))) dX7_doOrder_121 ?_
    refine cq_iload_n F (i := 1) dX7_doOrder_124 rfl rfl ?_
    refine cq_iald_j F (j := k) ho.k8 ho.n8 rfl ⟨(by omega), by decide⟩ dX7_doOrder_125 ?_
    rw [he.1.1]
    refine cq_aload_n F (i := 0) dX7_doOrder_126 rfl rfl ?_
    refine cq_getT (t := (o + 9)) F (C := RX7) (T := TX7) (N := 22) (ci := 8) ho.kind rfl ⟨⟨by decide, by decide⟩, rfl⟩ inX7 14 (by decide) rfl rfl ho.t14 (F.1.2.2.2.2 _ (List.mem_of_getElem? (l := wsX7_doOrder) (i := 5) (a := .fieldLink RX7 35 "CordClockModel" "two" "[I") (by decide +kernel))) dX7_doOrder_127 ?_
    refine cq_iload_n F (i := 1) dX7_doOrder_130 rfl rfl ?_
    refine cq_iald_j F (j := k) ho.k9 ho.n9 rfl ⟨(by omega), by decide⟩ dX7_doOrder_131 ?_
    rw [(he.1.2.1 hkd)]
    refine cq_aload_n F (i := 0) dX7_doOrder_132 rfl rfl ?_
    refine cq_getT (t := (o + 10)) F (C := RX7) (T := TX7) (N := 22) (ci := 8) ho.kind rfl ⟨⟨by decide, by decide⟩, rfl⟩ inX7 15 (by decide) rfl rfl ho.t15 (F.1.2.2.2.2 _ (List.mem_of_getElem? (l := wsX7_doOrder) (i := 4) (a := .fieldLink RX7 38 "CordClockModel" "left" "[I") (by decide +kernel))) dX7_doOrder_133 ?_
    refine cq_iload_n F (i := 1) dX7_doOrder_136 rfl rfl ?_
    refine cq_iald_j F (j := k) ho.k10 ho.n10 rfl ⟨(by omega), by decide⟩ dX7_doOrder_137 ?_
    rw [(he.1.2.2.1 (Or.inr hkd))]
    refine cq_callV F (C := RX7) (ci := 8) (kX7_addRule l D cA X Bs o q.2.1 q.2.2.1 q.2.2.2.1 g M ho hg hc2) (cwV 3 F.1.2.2.2.2 gX7_doOrder_X7_addRule rfl rfl rfl hdVX7_addRule ⟨Nat.le_of_ble_eq_true rfl, Nat.le_of_ble_eq_true rfl⟩) ho.kind ⟨by decide, by decide⟩ rfl rfl rfl (Nat.le_of_ble_eq_true rfl) dX7_doOrder_138 ⟨Nat.le_of_ble_eq_true rfl, Nat.le_of_ble_eq_true rfl⟩ (cq_kI fun r_138 M_138 h_138 => ?_)
    obtain ⟨hr_138, h_138⟩ := h_138
    subst hr_138
    refine cq_istore_n F (i := 3) dX7_doOrder_141 rfl (by decide) ?_
    refine cq_goto F (tgt := 157) dX7_doOrder_142 (by decide) ?_
    refine cq_vret F hr (by decide) (by decide) dX7_doOrder_157 ⟨rfl, ?_⟩
    have hdo : ex_do g q = ns_newRule g q.2.1 q.2.2.1 q.2.2.2.1 := (if_neg (by omega)).trans ((if_neg (by omega)).trans (if_pos hkd))
    rw [hdo]
    exact h_138
  · rw [sw_6]
    refine cq_lookup F (off := 139) (tgt := 145) dX7_doOrder_6 (by decide) (by decide) (by decide) ?_
    have hkd : q.1 = 3 := by omega
    have hc3 := hb9.2.2.2 hkd
    refine cq_aload_n F (i := 0) dX7_doOrder_145 rfl rfl ?_
    refine cq_aload_n F (i := 0) dX7_doOrder_146 rfl rfl ?_
    refine cq_getT (t := (o + 8)) F (C := RX7) (T := TX7) (N := 22) (ci := 8) ho.kind rfl ⟨⟨by decide, by decide⟩, rfl⟩ inX7 13 (by decide) rfl rfl ho.t13 (F.1.2.2.2.2 _ (List.mem_of_getElem? (l := wsX7_doOrder) (i := 2) (a := .fieldLink RX7 32 "CordClockModel" "one" "[I") (by decide +kernel))) dX7_doOrder_147 ?_
    refine cq_iload_n F (i := 1) dX7_doOrder_150 rfl rfl ?_
    refine cq_iald_j F (j := k) ho.k8 ho.n8 rfl ⟨(by omega), by decide⟩ dX7_doOrder_151 ?_
    rw [he.1.1]
    refine cq_callV F (C := RX7) (ci := 8) (kX7_runNow l D cA X Bs o q.2.1 B g M ho hg hok (by omega) hB) (cwV 1 F.1.2.2.2.2 gX7_doOrder_X7_runNow rfl rfl rfl hdVX7_runNow ⟨Nat.le_of_ble_eq_true rfl, Nat.le_of_ble_eq_true rfl⟩) ho.kind ⟨by decide, by decide⟩ rfl rfl rfl (Nat.le_of_ble_eq_true rfl) dX7_doOrder_152 ⟨Nat.le_of_ble_eq_true rfl, Nat.le_of_ble_eq_true rfl⟩ (cq_kI fun r_152 M_152 h_152 => ?_)
    obtain ⟨hr_152, h_152⟩ := h_152
    subst hr_152
    refine cq_istore F dX7_doOrder_155 (by decide) ?_
    refine cq_vret F hr (by decide) (by decide) dX7_doOrder_157 ⟨rfl, ?_⟩
    have hdo : ex_do g q = ns_steps g q.2.1 := (if_neg (by omega)).trans ((if_neg (by omega)).trans (if_neg (by omega)))
    rw [hdo]
    exact h_152
theorem hdVX7_doOrder : yX7_doOrder.cls = RX7 ∧ yX7_doOrder.cls ≠ "java/lang/invoke/MethodHandle" ∧ yX7_doOrder.cls ≠ "java/lang/invoke/VarHandle" ∧ (parseMethodDescriptor yX7_doOrder.desc).map (fun d => d.parameters.length) = some 1 := by decide +kernel
