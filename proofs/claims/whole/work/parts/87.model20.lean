/-! CordClockModel: which times can be told, the fewest lightings -/
/-- the beginning for the set u -/
def op_beg (g : Nat → Nat) (u : Int32) : Nat → Nat := pb g u.toNatClampNeg (g 6)
def op_rank (Y : Nat → Nat) (r : Int32) : Int32 := if r = -1 then nI (pl_cnt Y 1080) else pl_rank Y r 1080 1 0
def op_tell (S : as_T) (u r : Int32) : op_T := if op_set (S_g S) u ∧ -1 ≤ r then (0, op_rank (pl_F (op_beg (S_g S) u)) r, S) else (1, 0, S)
def op_few (S : as_T) (u x : Int32) : op_T := if op_set (S_g S) u ∧ 1 ≤ x ∧ x ≤ 1080 then (0, (if pl_F (op_beg (S_g S) u) x.toNatClampNeg = 0 then -1 else nI (pl_F (op_beg (S_g S) u) x.toNatClampNeg)), S) else (1, 0, S)
theorem nI_m1 {n : Nat} (h : n < 2147483648) : ¬ nI n = -1 := fun z => by
  have z3 := congrArg Int32.toInt z
  rw [nI_toInt (by omega)] at z3
  have z4 : (-1 : Int32).toInt = -1 := by decide
  omega
theorem pl_cnt_le {Y : Nat → Nat} : ∀ n, pl_cnt Y n ≤ n
  | 0 => Nat.le_refl _
  | n + 1 => by
    have := pl_cnt_le (Y := Y) n
    simp only [pl_cnt]
    split <;> omega
theorem op_set_w {g : Nat → Nat} {u : Int32} (h : op_set g u) (h6 : g 6 ≤ 4) : ∃ w, w < 16 ∧ u = nI w ∧ pb_m w 4 ≤ 3 ∧ u.toNatClampNeg = w := by
  obtain ⟨w, hw, rfl⟩ := nI_of (Int32.not_lt.mpr h.1.1)
  have hp16 : 2 ^ g 6 ≤ 16 := Nat.pow_le_pow_right (n := 2) (by decide) h6
  have h1 := (nI_ltI (by omega) (by omega)).mp h.1.2
  have h2 := h.2
  rw [nI_clamp (by omega)] at h2
  exact ⟨w, by omega, rfl, h2, nI_clamp (by omega)⟩
theorem cm.pp {M M1 : cq_M} {o : Nat} {S : as_T} (h : cm M o S) (hf : pp_fr M M1 o) : cm M1 o S ∧ cr_fr M M1 o 15 ∧ M1 o 6 = M o 6 := by
  obtain ⟨a1, a2, a3, a4, a5, a6⟩ := h
  have f : ∀ i, 1 ≤ i → i ≤ 11 → M1 (o + i) = M (o + i) := fun i h1 h2 => hf.1 _ (by omega) (by omega) (by omega) (by omega)
  refine ⟨⟨fun j hj => by rw [f 1 (by omega) (by omega)]; exact a1 j hj, by rw [hf.2 2 (by omega) (by omega)]; exact a2, fun i hi j hj => by rw [f 2 (by omega) (by omega)]; exact a3 i hi j hj, fun i hi => ⟨by rw [f 4 (by omega) (by omega)]; exact (a4 i hi).1, fun z j hj => by rw [f 3 (by omega) (by omega)]; exact (a4 i hi).2 z j hj⟩, by rw [hf.2 8 (by omega) (by omega)]; exact a5, fun j hj => by rw [f 6 (by omega) (by omega)]; exact a6 j hj⟩, fun x hx => hf.1 x (by omega) (by omega) (by omega) (by omega), hf.2 6 (by omega) (by omega)⟩
abbrev rmX7_timeOfRank : Room := ({ frames := 0, cells := 0, slots := 0, locals := 0 })
set_option maxHeartbeats 4000000 in
set_option maxRecDepth 100000 in
theorem kX7_timeOfRank (l : Launch) (D : va_G) (cA : Nat → ClassId) (X : cq_X) (Bs : Nat) (o : Nat) (r : Int32) (Y : Nat → Nat) (M : cq_M) (ho : cq_isModel X o) (hF : cq_nv M (o + 12) 1081 Y) (hb : ∀ t, Y t ≤ 1080) : cq_C l yX7_timeOfRank wsX7_timeOfRank rmX7_timeOfRank D cA X Bs [.ref o, .int r] M (cq_PI (fun r1 M1 => r1 = op_rank Y r ∧ M1 = M)) 0 0 := by
  refine cq_met (cc := cX7_timeOfRank) (maxL := 4) (ret := (some .int)) (by decide) rfl (Nat.le_of_ble_eq_true rfl) [(0, .ref o), (1, .int r)] rfl rfl ?_
  intro p9 e9 s9 m9 b9 t9 c9 F hr
  have inX7 : ∀ w ∈ wsX70, w ∈ wsX7_timeOfRank := (fun w h => List.mem_cons_of_mem _ (List.mem_append_right _ h))
  have loop_4 : ∀ (n_4 : Nat) (mm t : Nat), 1 ≤ t ∧ t ≤ 1081 → mm = pl_cnt Y (t - 1) → (¬ r = -1 → pl_rank Y r 1080 1 0 = pl_rank Y r (1081 - t) t mm) → 1082 - t < n_4 → cq_V p9 l e9 rmX7_timeOfRank s9 m9 ([.ref o, .int r] : List Value).toArray b9 t9 c9 D cA X Bs 4 0 0 (MQ b9 (cq_Q D cA X Bs (cq_PI (fun r1 M1 => r1 = op_rank Y r ∧ M1 = M))) ([.ref o, .int r] : List Value).toArray s9 0 0 (cq_A Bs)) 4 [(0, .ref o), (1, .int r), (2, .int (nI mm)), (3, .int (nI t))] [] M := by
    intro n_4
    induction n_4 with
    | zero =>
      intros
      omega
    | succ n_4 ih_4 =>
      intro mm t ht hmm hrk hn
      have hYt := hb t
      have hmb := pl_cnt_le (Y := Y) (t - 1)
      refine cq_iload_n F (i := 3) dX7_timeOfRank_4 rfl rfl ?_
      refine cq_sipush F (v := 1080) dX7_timeOfRank_5 (by decide) ?_
      refine cq_icmp_gt F (tgt := 36) dX7_timeOfRank_8 (by decide) (fun c_8 => ?_) (fun c_8 => ?_)
      · have c_8 : 1080 < t := (nI_b (a := 1080) (b := t) (by omega) (by omega)).2.1.mp c_8
        refine cq_iload_n F (i := 1) dX7_timeOfRank_36 rfl rfl ?_
        refine cq_iconst F (v := (-1)) dX7_timeOfRank_37 rfl ?_
        refine cq_icmp_ne F (tgt := 45) dX7_timeOfRank_38 (by decide) (fun c_38 => ?_) (fun c_38 => ?_)
        · refine cq_iconst F (v := (-1)) dX7_timeOfRank_45 rfl ?_
          refine cq_iret F hr (by decide) (by decide) dX7_timeOfRank_46 ⟨_, rfl, ?_⟩
          refine ⟨?_, rfl⟩
          unfold op_rank
          rw [if_neg c_38, hrk c_38, show 1081 - t = 0 by omega]
          rfl
        · refine cq_iload_n F (i := 2) dX7_timeOfRank_41 rfl rfl ?_
          refine cq_goto F (tgt := 46) dX7_timeOfRank_42 (by decide) ?_
          refine cq_iret F hr (by decide) (by decide) dX7_timeOfRank_46 ⟨_, rfl, ?_⟩
          refine ⟨?_, rfl⟩
          unfold op_rank
          rw [if_pos c_38, hmm]
          obtain rfl : t = 1081 := by omega
          rfl
      · have c_8 : ¬ 1080 < t := fun z => c_8 ((nI_b (a := 1080) (b := t) (by omega) (by omega)).2.1.mpr z)
        refine cq_aload_n F (i := 0) dX7_timeOfRank_11 rfl rfl ?_
        refine cq_getT (t := (o + 12)) F (C := RX7) (T := TX7) (N := 22) (ci := 8) ho.kind rfl ⟨⟨by decide, by decide⟩, rfl⟩ inX7 17 (by decide) rfl rfl ho.t17 (F.1.2.2.2.2 _ (List.mem_of_getElem? (l := wsX7_timeOfRank) (i := 1) (a := .fieldLink RX7 44 "CordClockModel" "fewest" "[I") (by decide +kernel))) dX7_timeOfRank_12 ?_
        refine cq_iload_n F (i := 3) dX7_timeOfRank_15 rfl rfl ?_
        refine cq_iald_j F (j := t) ho.k12 ho.n12 rfl ⟨(by omega), by decide⟩ dX7_timeOfRank_16 ?_
        rw [hF _ (by omega)]
        refine cq_if_le F (tgt := 30) dX7_timeOfRank_17 (by decide) (fun c_17 => ?_) (fun c_17 => ?_)
        · have c_17 : (Y (t)) ≤ 0 := (nI_b (a := (Y (t))) (b := 0) (by omega) (by omega)).1.mp c_17
          refine cq_iinc F dX7_timeOfRank_30 rfl (by decide) (fun x_30 e_30 => ?_)
          obtain rfl : x_30 = nI (t + 1) := by rw [e_30]; exact nI_1 _
          refine cq_goto F (tgt := 4) dX7_timeOfRank_33 (by decide) ?_
          refine cq_loc (L2 := [(0, .ref o), (1, .int r), (2, .int (nI mm)), (3, .int (nI (t + 1)))]) rfl ?_
          exact ih_4 mm (t + 1) ⟨by omega, by omega⟩ (by rw [hmm]; obtain ⟨v, rfl⟩ : ∃ v, t = v + 1 := ⟨t - 1, by omega⟩; show _ = pl_cnt Y v + (if Y (v + 1) = 0 then 0 else 1); rw [if_pos (by omega)]; rfl) (fun z => by rw [hrk z, show 1081 - t = (1081 - (t + 1)) + 1 by omega, pl_rank, if_pos (by omega)]) (by omega)
        · have c_17 : ¬ (Y (t)) ≤ 0 := fun z => c_17 ((nI_b (a := (Y (t))) (b := 0) (by omega) (by omega)).1.mpr z)
          refine cq_iload_n F (i := 2) dX7_timeOfRank_20 rfl rfl ?_
          refine cq_iload_n F (i := 1) dX7_timeOfRank_21 rfl rfl ?_
          refine cq_icmp_ne F (tgt := 27) dX7_timeOfRank_22 (by decide) (fun c_22 => ?_) (fun c_22 => ?_)
          · refine cq_iinc F dX7_timeOfRank_27 rfl (by decide) (fun x_27 e_27 => ?_)
            obtain rfl : x_27 = nI (mm + 1) := by rw [e_27]; exact nI_1 _
            refine cq_iinc F dX7_timeOfRank_30 rfl (by decide) (fun x_30 e_30 => ?_)
            obtain rfl : x_30 = nI (t + 1) := by rw [e_30]; exact nI_1 _
            refine cq_goto F (tgt := 4) dX7_timeOfRank_33 (by decide) ?_
            refine cq_loc (L2 := [(0, .ref o), (1, .int r), (2, .int (nI (mm + 1))), (3, .int (nI (t + 1)))]) rfl ?_
            exact ih_4 (mm + 1) (t + 1) ⟨by omega, by omega⟩ (by rw [hmm]; obtain ⟨v, rfl⟩ : ∃ v, t = v + 1 := ⟨t - 1, by omega⟩; show _ = pl_cnt Y v + (if Y (v + 1) = 0 then 0 else 1); rw [if_neg (by omega)]; rfl) (fun z => by rw [hrk z, show 1081 - t = (1081 - (t + 1)) + 1 by omega, pl_rank, if_neg (by omega), if_neg c_22]) (by omega)
          · refine cq_iload_n F (i := 3) dX7_timeOfRank_25 rfl rfl ?_
            refine cq_iret F hr (by decide) (by decide) dX7_timeOfRank_26 ⟨_, rfl, ?_⟩
            have er : ¬ r = -1 := fun z => absurd (c_22.symm.symm.trans z) (nI_m1 (by omega))
            refine ⟨?_, rfl⟩
            unfold op_rank
            rw [if_neg er, hrk er, show 1081 - t = (1080 - t) + 1 by omega, pl_rank, if_neg (by omega), if_pos c_22]
  refine cq_iconst F (v := 0) dX7_timeOfRank_0 rfl ?_
  refine cq_istore_n F (i := 2) dX7_timeOfRank_1 rfl (by decide) ?_
  refine cq_iconst F (v := 1) dX7_timeOfRank_2 rfl ?_
  refine cq_istore_n F (i := 3) dX7_timeOfRank_3 rfl (by decide) ?_
  refine cq_loc (L2 := [(0, .ref o), (1, .int r), (2, .int (nI 0)), (3, .int (nI 1))]) rfl ?_
  exact loop_4 1082 0 1 ⟨by omega, by omega⟩ rfl (fun _ => rfl) (by omega)
theorem hdVX7_timeOfRank : yX7_timeOfRank.cls = RX7 ∧ yX7_timeOfRank.cls ≠ "java/lang/invoke/MethodHandle" ∧ yX7_timeOfRank.cls ≠ "java/lang/invoke/VarHandle" ∧ (parseMethodDescriptor yX7_timeOfRank.desc).map (fun d => d.parameters.length) = some 1 := by decide +kernel
abbrev rmX7_tellable : Room := ({ frames := 3, cells := 0, slots := 0, locals := 78 })
set_option maxHeartbeats 4000000 in
set_option maxRecDepth 100000 in
theorem kX7_tellable (l : Launch) (D : va_G) (cA : Nat → ClassId) (X : cq_X) (Bs : Nat) (o B : Nat) (S : as_T) (u v : Int32) (M : cq_M) (ho : cq_isModel X o) (h : cm M o S) (hk : as_ok S B) : cq_C l yX7_tellable wsX7_tellable rmX7_tellable D cA X Bs [.ref o, .int u, .int v] M (cq_PI (fun r M1 => mq (op_tell S u v) r M M1 o)) 0 0 := by
  refine cq_met (cc := cX7_tellable) (maxL := 3) (ret := (some .int)) (by decide) rfl (Nat.le_of_ble_eq_true rfl) [(0, .ref o), (1, .int u), (2, .int v)] rfl rfl ?_
  intro p9 e9 s9 m9 b9 t9 c9 F hr
  have inX7 : ∀ w ∈ wsX70, w ∈ wsX7_tellable := (fun w h => List.mem_cons_of_mem _ (List.mem_append_right _ h))
  have hk6 := hk.1.1
  refine cq_aload_n F (i := 0) dX7_tellable_0 rfl rfl ?_
  refine cq_iconst F (v := 0) dX7_tellable_1 rfl ?_
  refine cq_put F (C := RX7) (T := TX7) (N := 22) (ci := 8) ho.kind rfl ⟨⟨by decide, by decide⟩, rfl⟩ inX7 tyX7 tyX7_ok nmX7 6 (by decide) rfl rfl (F.1.2.2.2.2 _ (List.mem_of_getElem? (l := wsX7_tellable) (i := 1) (a := .fieldLink RX7 53 "CordClockModel" "thrown" "I") (by decide +kernel))) rfl (by rfl) (by rfl) dX7_tellable_2 (fun M_2 h_2 => ?_)
  have v_2_o1 := h.1.ne h_2 (by omega)
  have q2 := h.o h_2 (by omega) (by omega)
  have f2 : cr_fr M M_2 o 15 := cr_fr.rf.up h_2 (by omega) (by omega)
  refine cq_aload_n F (i := 0) dX7_tellable_5 rfl rfl ?_
  refine cq_iload_n F (i := 1) dX7_tellable_6 rfl rfl ?_
  refine cq_callV F (C := RX7) (ci := 8) (kX7_isSet l D cA X Bs o u (S_g S) M_2 ho v_2_o1 hk.1.1) (cwV 1 F.1.2.2.2.2 gX7_tellable_X7_isSet rfl rfl rfl hdVX7_isSet ⟨Nat.le_of_ble_eq_true rfl, Nat.le_of_ble_eq_true rfl⟩) ho.kind ⟨by decide, by decide⟩ rfl rfl rfl (Nat.le_of_ble_eq_true rfl) dX7_tellable_7 ⟨Nat.le_of_ble_eq_true rfl, Nat.le_of_ble_eq_true rfl⟩ (cq_kIp fun r_7 h_7 => ?_)
  refine cq_if_eq F (tgt := 18) dX7_tellable_10 (by decide) (fun c_10 => ?_) (fun c_10 => ?_)
  · have c_10 := cq_b0 h_7 c_10
    refine cq_aload_n F (i := 0) dX7_tellable_18 rfl rfl ?_
    refine cq_iconst F (v := 1) dX7_tellable_19 rfl ?_
    refine cq_callV F (C := RX7) (ci := 8) (kX7_fails l D cA X Bs o 1 M_2 ho) (cwV 1 F.1.2.2.2.2 gX7_tellable_X7_fails rfl rfl rfl hdVX7_fails ⟨Nat.le_of_ble_eq_true rfl, Nat.le_of_ble_eq_true rfl⟩) ho.kind ⟨by decide, by decide⟩ rfl rfl rfl (Nat.le_of_ble_eq_true rfl) dX7_tellable_20 ⟨Nat.le_of_ble_eq_true rfl, Nat.le_of_ble_eq_true rfl⟩ (cq_kI fun r_20 M_20 h_20 => ?_)
    obtain ⟨hr_20, h_20⟩ := h_20
    subst hr_20
    refine cq_iret F hr (by decide) (by decide) dX7_tellable_23 ⟨_, rfl, ?_⟩
    have e : op_tell S u v = (1, 0, S) := if_neg (fun z => c_10 z.1)
    rw [e]
    exact ⟨by rw [h_20]; exact cq_up_s _ _ _ _, fun z => absurd (show (1 : Nat) = 0 from z) (by decide), q2.o h_20 (by omega) (by omega), f2.up h_20 (by omega) (by omega)⟩
  · have c_10 := cq_b1 h_7 c_10
    have c_10b := c_10
    obtain ⟨w, hw, rfl, hpm, ew⟩ := op_set_w c_10 hk.1.1
    refine cq_iload_n F (i := 2) dX7_tellable_13 rfl rfl ?_
    refine cq_iconst F (v := (-1)) dX7_tellable_14 rfl ?_
    refine cq_icmp_ge F (tgt := 24) dX7_tellable_15 (by decide) (fun c_15 => ?_) (fun c_15 => ?_)
    · refine cq_aload_n F (i := 0) dX7_tellable_24 rfl rfl ?_
      refine cq_iload_n F (i := 1) dX7_tellable_25 rfl rfl ?_
      refine cq_callV F (C := RX7) (ci := 8) (kX7_plan l D cA X Bs o B w (S_g S) M_2 ho v_2_o1 hk.1 hw hpm) (cwV 1 F.1.2.2.2.2 gX7_tellable_X7_plan rfl rfl rfl hdVX7_plan ⟨Nat.le_of_ble_eq_true rfl, Nat.le_of_ble_eq_true rfl⟩) ho.kind ⟨by decide, by decide⟩ rfl rfl rfl (Nat.le_of_ble_eq_true rfl) dX7_tellable_26 ⟨Nat.le_of_ble_eq_true rfl, Nat.le_of_ble_eq_true rfl⟩ (cq_kV fun M_26 h_26 => ?_)
      refine cq_aload_n F (i := 0) dX7_tellable_29 rfl rfl ?_
      refine cq_iload_n F (i := 2) dX7_tellable_30 rfl rfl ?_
      refine cq_callV F (C := RX7) (ci := 8) (kX7_timeOfRank l D cA X Bs o v (pl_F (pb (S_g S) w (S_g S 6))) M_26 ho h_26.1 h_26.2.1) (cwV 1 F.1.2.2.2.2 gX7_tellable_X7_timeOfRank rfl rfl rfl hdVX7_timeOfRank ⟨Nat.le_of_ble_eq_true rfl, Nat.le_of_ble_eq_true rfl⟩) ho.kind ⟨by decide, by decide⟩ rfl rfl rfl (Nat.le_of_ble_eq_true rfl) dX7_tellable_31 ⟨Nat.le_of_ble_eq_true rfl, Nat.le_of_ble_eq_true rfl⟩ (cq_kIp fun r_31 h_31 => ?_)
      refine cq_iret F hr (by decide) (by decide) dX7_tellable_34 ⟨_, rfl, ?_⟩
      have eb : op_beg (S_g S) (nI w) = pb (S_g S) w (S_g S 6) := by unfold op_beg; rw [ew]
      have q9 := q2.pp h_26.2.2
      refine mq_q (r' := op_rank (pl_F (op_beg (S_g S) (nI w))) v) (by unfold op_tell; rw [if_pos ⟨c_10b, c_15⟩]) (by rw [h_31, eb]) (by rw [q9.2.2, h_2]; exact cq_up_s _ _ _ _) q9.1 (f2.trans q9.2.1)
    · refine cq_aload_n F (i := 0) dX7_tellable_18 rfl rfl ?_
      refine cq_iconst F (v := 1) dX7_tellable_19 rfl ?_
      refine cq_callV F (C := RX7) (ci := 8) (kX7_fails l D cA X Bs o 1 M_2 ho) (cwV 1 F.1.2.2.2.2 gX7_tellable_X7_fails rfl rfl rfl hdVX7_fails ⟨Nat.le_of_ble_eq_true rfl, Nat.le_of_ble_eq_true rfl⟩) ho.kind ⟨by decide, by decide⟩ rfl rfl rfl (Nat.le_of_ble_eq_true rfl) dX7_tellable_20 ⟨Nat.le_of_ble_eq_true rfl, Nat.le_of_ble_eq_true rfl⟩ (cq_kI fun r_20 M_20 h_20 => ?_)
      obtain ⟨hr_20, h_20⟩ := h_20
      subst hr_20
      refine cq_iret F hr (by decide) (by decide) dX7_tellable_23 ⟨_, rfl, ?_⟩
      have e : op_tell S (nI w) v = (1, 0, S) := if_neg (fun z => c_15 z.2)
      rw [e]
      exact ⟨by rw [h_20]; exact cq_up_s _ _ _ _, fun z => absurd (show (1 : Nat) = 0 from z) (by decide), q2.o h_20 (by omega) (by omega), f2.up h_20 (by omega) (by omega)⟩
theorem hdVX7_tellable : yX7_tellable.cls = RX7 ∧ yX7_tellable.cls ≠ "java/lang/invoke/MethodHandle" ∧ yX7_tellable.cls ≠ "java/lang/invoke/VarHandle" ∧ (parseMethodDescriptor yX7_tellable.desc).map (fun d => d.parameters.length) = some 2 := by decide +kernel
abbrev rmX7_fewestFlames : Room := ({ frames := 3, cells := 0, slots := 0, locals := 78 })
set_option maxHeartbeats 4000000 in
set_option maxRecDepth 100000 in
theorem kX7_fewestFlames (l : Launch) (D : va_G) (cA : Nat → ClassId) (X : cq_X) (Bs : Nat) (o B : Nat) (S : as_T) (u v : Int32) (M : cq_M) (ho : cq_isModel X o) (h : cm M o S) (hk : as_ok S B) : cq_C l yX7_fewestFlames wsX7_fewestFlames rmX7_fewestFlames D cA X Bs [.ref o, .int u, .int v] M (cq_PI (fun r M1 => mq (op_few S u v) r M M1 o)) 0 0 := by
  refine cq_met (cc := cX7_fewestFlames) (maxL := 3) (ret := (some .int)) (by decide) rfl (Nat.le_of_ble_eq_true rfl) [(0, .ref o), (1, .int u), (2, .int v)] rfl rfl ?_
  intro p9 e9 s9 m9 b9 t9 c9 F hr
  have inX7 : ∀ w ∈ wsX70, w ∈ wsX7_fewestFlames := (fun w h => List.mem_cons_of_mem _ (List.mem_append_right _ h))
  have hk6 := hk.1.1
  refine cq_aload_n F (i := 0) dX7_fewestFlames_0 rfl rfl ?_
  refine cq_iconst F (v := 0) dX7_fewestFlames_1 rfl ?_
  refine cq_put F (C := RX7) (T := TX7) (N := 22) (ci := 8) ho.kind rfl ⟨⟨by decide, by decide⟩, rfl⟩ inX7 tyX7 tyX7_ok nmX7 6 (by decide) rfl rfl (F.1.2.2.2.2 _ (List.mem_of_getElem? (l := wsX7_fewestFlames) (i := 1) (a := .fieldLink RX7 53 "CordClockModel" "thrown" "I") (by decide +kernel))) rfl (by rfl) (by rfl) dX7_fewestFlames_2 (fun M_2 h_2 => ?_)
  have v_2_o1 := h.1.ne h_2 (by omega)
  have q2 := h.o h_2 (by omega) (by omega)
  have f2 : cr_fr M M_2 o 15 := cr_fr.rf.up h_2 (by omega) (by omega)
  refine cq_aload_n F (i := 0) dX7_fewestFlames_5 rfl rfl ?_
  refine cq_iload_n F (i := 1) dX7_fewestFlames_6 rfl rfl ?_
  refine cq_callV F (C := RX7) (ci := 8) (kX7_isSet l D cA X Bs o u (S_g S) M_2 ho v_2_o1 hk.1.1) (cwV 1 F.1.2.2.2.2 gX7_fewestFlames_X7_isSet rfl rfl rfl hdVX7_isSet ⟨Nat.le_of_ble_eq_true rfl, Nat.le_of_ble_eq_true rfl⟩) ho.kind ⟨by decide, by decide⟩ rfl rfl rfl (Nat.le_of_ble_eq_true rfl) dX7_fewestFlames_7 ⟨Nat.le_of_ble_eq_true rfl, Nat.le_of_ble_eq_true rfl⟩ (cq_kIp fun r_7 h_7 => ?_)
  refine cq_if_eq F (tgt := 24) dX7_fewestFlames_10 (by decide) (fun c_10 => ?_) (fun c_10 => ?_)
  · have c_10 := cq_b0 h_7 c_10
    refine cq_aload_n F (i := 0) dX7_fewestFlames_24 rfl rfl ?_
    refine cq_iconst F (v := 1) dX7_fewestFlames_25 rfl ?_
    refine cq_callV F (C := RX7) (ci := 8) (kX7_fails l D cA X Bs o 1 M_2 ho) (cwV 1 F.1.2.2.2.2 gX7_fewestFlames_X7_fails rfl rfl rfl hdVX7_fails ⟨Nat.le_of_ble_eq_true rfl, Nat.le_of_ble_eq_true rfl⟩) ho.kind ⟨by decide, by decide⟩ rfl rfl rfl (Nat.le_of_ble_eq_true rfl) dX7_fewestFlames_26 ⟨Nat.le_of_ble_eq_true rfl, Nat.le_of_ble_eq_true rfl⟩ (cq_kI fun r_26 M_26 h_26 => ?_)
    obtain ⟨hr_26, h_26⟩ := h_26
    subst hr_26
    refine cq_iret F hr (by decide) (by decide) dX7_fewestFlames_29 ⟨_, rfl, ?_⟩
    have e : op_few S u v = (1, 0, S) := if_neg (fun z => c_10 z.1)
    rw [e]
    exact ⟨by rw [h_26]; exact cq_up_s _ _ _ _, fun z => absurd (show (1 : Nat) = 0 from z) (by decide), q2.o h_26 (by omega) (by omega), f2.up h_26 (by omega) (by omega)⟩
  · have c_10 := cq_b1 h_7 c_10
    have c_10b := c_10
    obtain ⟨w, hw, rfl, hpm, ew⟩ := op_set_w c_10 hk.1.1
    refine cq_iload_n F (i := 2) dX7_fewestFlames_13 rfl rfl ?_
    refine cq_iconst F (v := 1) dX7_fewestFlames_14 rfl ?_
    refine cq_sipush F (v := 1080) dX7_fewestFlames_15 (by decide) ?_
    refine cq_callS F (kX7_in l D cA X Bs v 1 1080 M_2) (va_cwS 3 F.1.2.2.2.2 gX7_fewestFlames_X7_in rfl rfl rfl hdVX7_in.2 ⟨Nat.le_of_ble_eq_true rfl, Nat.le_of_ble_eq_true rfl⟩) rfl (Nat.le_of_ble_eq_true rfl) dX7_fewestFlames_18 ⟨Nat.le_of_ble_eq_true rfl, Nat.le_of_ble_eq_true rfl⟩ (cq_kIp fun r_18 h_18 => ?_)
    refine cq_if_ne F (tgt := 30) dX7_fewestFlames_21 (by decide) (fun c_21 => ?_) (fun c_21 => ?_)
    · have c_21 := cq_b1 h_18 c_21
      have c_21b := c_21
      obtain ⟨x, hx1, hx2, rfl⟩ := nI_ab (a := 1) (b := 1080) (by omega) (by omega) c_21
      have ex : (nI x).toNatClampNeg = x := nI_clamp (by omega)
      refine cq_aload_n F (i := 0) dX7_fewestFlames_30 rfl rfl ?_
      refine cq_iload_n F (i := 1) dX7_fewestFlames_31 rfl rfl ?_
      refine cq_callV F (C := RX7) (ci := 8) (kX7_plan l D cA X Bs o B w (S_g S) M_2 ho v_2_o1 hk.1 hw hpm) (cwV 1 F.1.2.2.2.2 gX7_fewestFlames_X7_plan rfl rfl rfl hdVX7_plan ⟨Nat.le_of_ble_eq_true rfl, Nat.le_of_ble_eq_true rfl⟩) ho.kind ⟨by decide, by decide⟩ rfl rfl rfl (Nat.le_of_ble_eq_true rfl) dX7_fewestFlames_32 ⟨Nat.le_of_ble_eq_true rfl, Nat.le_of_ble_eq_true rfl⟩ (cq_kV fun M_32 h_32 => ?_)
      refine cq_aload_n F (i := 0) dX7_fewestFlames_35 rfl rfl ?_
      refine cq_getT (t := (o + 12)) F (C := RX7) (T := TX7) (N := 22) (ci := 8) ho.kind rfl ⟨⟨by decide, by decide⟩, rfl⟩ inX7 17 (by decide) rfl rfl ho.t17 (F.1.2.2.2.2 _ (List.mem_of_getElem? (l := wsX7_fewestFlames) (i := 2) (a := .fieldLink RX7 44 "CordClockModel" "fewest" "[I") (by decide +kernel))) dX7_fewestFlames_36 ?_
      refine cq_iload_n F (i := 2) dX7_fewestFlames_39 rfl rfl ?_
      have hbx := h_32.2.1 x
      refine cq_iald_j F (j := x) ho.k12 ho.n12 rfl ⟨(by omega), by decide⟩ dX7_fewestFlames_40 ?_
      rw [(show M_32 (o + 12) x = nI (pl_F (pb (S_g S) w (S_g S 6)) x) from h_32.1 x (by omega))]
      refine cq_if_ne F (tgt := 48) dX7_fewestFlames_41 (by decide) (fun c_41 => ?_) (fun c_41 => ?_)
      · have c_41 : ¬ (pl_F (pb (S_g S) w (S_g S 6)) x) = 0 := fun z => c_41 ((nI_b (a := (pl_F (pb (S_g S) w (S_g S 6)) x)) (b := 0) (by omega) (by omega)).2.2.mpr z)
        refine cq_aload_n F (i := 0) dX7_fewestFlames_48 rfl rfl ?_
        refine cq_getT (t := (o + 12)) F (C := RX7) (T := TX7) (N := 22) (ci := 8) ho.kind rfl ⟨⟨by decide, by decide⟩, rfl⟩ inX7 17 (by decide) rfl rfl ho.t17 (F.1.2.2.2.2 _ (List.mem_of_getElem? (l := wsX7_fewestFlames) (i := 2) (a := .fieldLink RX7 44 "CordClockModel" "fewest" "[I") (by decide +kernel))) dX7_fewestFlames_49 ?_
        refine cq_iload_n F (i := 2) dX7_fewestFlames_52 rfl rfl ?_
        refine cq_iald_j F (j := x) ho.k12 ho.n12 rfl ⟨(by omega), by decide⟩ dX7_fewestFlames_53 ?_
        rw [(show M_32 (o + 12) x = nI (pl_F (pb (S_g S) w (S_g S 6)) x) from h_32.1 x (by omega))]
        refine cq_iret F hr (by decide) (by decide) dX7_fewestFlames_54 ⟨_, rfl, ?_⟩
        have eb : op_beg (S_g S) (nI w) = pb (S_g S) w (S_g S 6) := by unfold op_beg; rw [ew]
        have q9 := q2.pp h_32.2.2
        refine mq_q (r' := (if pl_F (op_beg (S_g S) (nI w)) x = 0 then -1 else nI (pl_F (op_beg (S_g S) (nI w)) x))) (by unfold op_few; rw [if_pos ⟨c_10b, c_21b⟩, ex]) (by rw [eb]; first | exact (if_pos c_41).symm | exact (if_neg c_41).symm) (by rw [q9.2.2, h_2]; exact cq_up_s _ _ _ _) q9.1 (f2.trans q9.2.1)
      · have c_41 : (pl_F (pb (S_g S) w (S_g S 6)) x) = 0 := (nI_b (a := (pl_F (pb (S_g S) w (S_g S 6)) x)) (b := 0) (by omega) (by omega)).2.2.mp c_41
        refine cq_iconst F (v := (-1)) dX7_fewestFlames_44 rfl ?_
        refine cq_goto F (tgt := 54) dX7_fewestFlames_45 (by decide) ?_
        refine cq_iret F hr (by decide) (by decide) dX7_fewestFlames_54 ⟨_, rfl, ?_⟩
        have eb : op_beg (S_g S) (nI w) = pb (S_g S) w (S_g S 6) := by unfold op_beg; rw [ew]
        have q9 := q2.pp h_32.2.2
        refine mq_q (r' := (if pl_F (op_beg (S_g S) (nI w)) x = 0 then -1 else nI (pl_F (op_beg (S_g S) (nI w)) x))) (by unfold op_few; rw [if_pos ⟨c_10b, c_21b⟩, ex]) (by rw [eb]; first | exact (if_pos c_41).symm | exact (if_neg c_41).symm) (by rw [q9.2.2, h_2]; exact cq_up_s _ _ _ _) q9.1 (f2.trans q9.2.1)
    · have c_21 := cq_b0 h_18 c_21
      refine cq_aload_n F (i := 0) dX7_fewestFlames_24 rfl rfl ?_
      refine cq_iconst F (v := 1) dX7_fewestFlames_25 rfl ?_
      refine cq_callV F (C := RX7) (ci := 8) (kX7_fails l D cA X Bs o 1 M_2 ho) (cwV 1 F.1.2.2.2.2 gX7_fewestFlames_X7_fails rfl rfl rfl hdVX7_fails ⟨Nat.le_of_ble_eq_true rfl, Nat.le_of_ble_eq_true rfl⟩) ho.kind ⟨by decide, by decide⟩ rfl rfl rfl (Nat.le_of_ble_eq_true rfl) dX7_fewestFlames_26 ⟨Nat.le_of_ble_eq_true rfl, Nat.le_of_ble_eq_true rfl⟩ (cq_kI fun r_26 M_26 h_26 => ?_)
      obtain ⟨hr_26, h_26⟩ := h_26
      subst hr_26
      refine cq_iret F hr (by decide) (by decide) dX7_fewestFlames_29 ⟨_, rfl, ?_⟩
      have e : op_few S (nI w) v = (1, 0, S) := if_neg (fun z => c_21 z.2)
      rw [e]
      exact ⟨by rw [h_26]; exact cq_up_s _ _ _ _, fun z => absurd (show (1 : Nat) = 0 from z) (by decide), q2.o h_26 (by omega) (by omega), f2.up h_26 (by omega) (by omega)⟩
theorem hdVX7_fewestFlames : yX7_fewestFlames.cls = RX7 ∧ yX7_fewestFlames.cls ≠ "java/lang/invoke/MethodHandle" ∧ yX7_fewestFlames.cls ≠ "java/lang/invoke/VarHandle" ∧ (parseMethodDescriptor yX7_fewestFlames.desc).map (fun d => d.parameters.length) = some 2 := by decide +kernel
