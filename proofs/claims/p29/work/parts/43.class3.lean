/-! the class's State: its steps -/
abbrev rmX5_noteSmoke : Room := ({ frames := 2, cells := 0, slots := 0, locals := 42 })
set_option maxHeartbeats 4000000 in
set_option maxRecDepth 100000 in
theorem kX5_noteSmoke (l : Launch) (D : va_G) (cA : Nat → ClassId) (X : cq_X) (Bs : Nat) (b B : Nat) (g : Nat → Nat) (M : cq_M) (hb : cq_isState X b) (hs : cr_st M b g) (hk : ns_ok g B) (hB : B < 2000000000) : cq_C l yX5_noteSmoke wsX5_noteSmoke rmX5_noteSmoke D cA X Bs [.ref b] M (cq_PV (fun M1 => cr_st M1 b (ns_s3 g) ∧ cr_fr M M1 b 23)) 0 0 := by
  refine cq_met (cc := cX5_noteSmoke) (maxL := 1) (ret := none) (by decide) rfl (Nat.le_of_ble_eq_true rfl) [(0, .ref b)] rfl rfl ?_
  intro p9 e9 s9 m9 b9 t9 c9 F hr
  have inX5 : ∀ w ∈ wsX50, w ∈ wsX5_noteSmoke := (fun w h => List.mem_cons_of_mem _ (List.mem_append_left _ (List.mem_append_right _ h)))
  have hk6 := hk.1
  have hT := hk.2.2.2.2.2.2
  obtain ⟨e3, e4, e5, en⟩ := ns_s3_at g
  have hfl2 := ns_flames_le (n := g 6) (fun c hc => (hk.2.2.2.1 c hc).2.2.2.1)
  refine cq_aload_n F (i := 0) dX5_noteSmoke_0 rfl rfl ?_
  refine cq_callV F (C := RX5) (ci := 6) (kX5_flameCount l D cA X Bs b B g M hb hs hk) (cwV 0 F.1.2.2.2.2 gX5_noteSmoke_X5_flameCount rfl rfl rfl hdVX5_flameCount ⟨Nat.le_of_ble_eq_true rfl, Nat.le_of_ble_eq_true rfl⟩) hb.kind ⟨by decide, by decide⟩ rfl rfl rfl (Nat.le_of_ble_eq_true rfl) dX5_noteSmoke_1 ⟨Nat.le_of_ble_eq_true rfl, Nat.le_of_ble_eq_true rfl⟩ (cq_kIp fun r_1 h_1 => ?_)
  subst h_1
  refine cq_if_le F (tgt := 25) dX5_noteSmoke_4 (by decide) (fun c_4 => ?_) (fun c_4 => ?_)
  · have c_4 : (ns_flames g (g 6)) ≤ 0 := (nI_b (a := (ns_flames g (g 6))) (b := 0) (by omega) (by omega)).1.mp c_4
    refine cq_aload_n F (i := 0) dX5_noteSmoke_25 rfl rfl ?_
    refine cq_dup F dX5_noteSmoke_26 rfl ?_
    refine cq_getI F (C := RX5) (T := TX5) (N := 11) (ci := 6) hb.kind rfl ⟨⟨by decide, by decide⟩, rfl⟩ inX5 9 (by decide) rfl rfl (F.1.2.2.2.2 _ (List.mem_of_getElem? (l := wsX5_noteSmoke) (i := 2) (a := .fieldLink RX5 61 "CordClock$State" "gap" "I") (by decide +kernel))) dX5_noteSmoke_27 ?_
    rw [show M b 9 = nI (g 4) from (show M b 9 = nI (g 4) from hs.1.2.2.2.2.2.2.1)]
    refine cq_iconst F (v := 1) dX5_noteSmoke_30 rfl ?_
    refine cq_iadd F dX5_noteSmoke_31 ?_
    rw [show (nI (g 4) + 1 : Int32) = nI ((g 4) + 1) from nI_add _ _]
    refine cq_put F (C := RX5) (T := TX5) (N := 11) (ci := 6) hb.kind rfl ⟨⟨by decide, by decide⟩, rfl⟩ inX5 tyX5 tyX5_ok nmX5 9 (by decide) rfl rfl (F.1.2.2.2.2 _ (List.mem_of_getElem? (l := wsX5_noteSmoke) (i := 2) (a := .fieldLink RX5 61 "CordClock$State" "gap" "I") (by decide +kernel))) rfl (by rfl) (by rfl) dX5_noteSmoke_32 (fun M_32 h_32 => ?_)
    refine cq_aload_n F (i := 0) dX5_noteSmoke_35 rfl rfl ?_
    refine cq_aload_n F (i := 0) dX5_noteSmoke_36 rfl rfl ?_
    refine cq_getI F (C := RX5) (T := TX5) (N := 11) (ci := 6) hb.kind rfl ⟨⟨by decide, by decide⟩, rfl⟩ inX5 10 (by decide) rfl rfl (F.1.2.2.2.2 _ (List.mem_of_getElem? (l := wsX5_noteSmoke) (i := 3) (a := .fieldLink RX5 64 "CordClock$State" "longestGap" "I") (by decide +kernel))) dX5_noteSmoke_37 ?_
    rw [show M_32 b 10 = nI (g 5) from (show M_32 b 10 = nI (g 5) from (by rw [h_32, cq_up_k (by omega)]; exact hs.1.2.2.2.2.2.2.2))]
    refine cq_aload_n F (i := 0) dX5_noteSmoke_40 rfl rfl ?_
    refine cq_getI F (C := RX5) (T := TX5) (N := 11) (ci := 6) hb.kind rfl ⟨⟨by decide, by decide⟩, rfl⟩ inX5 9 (by decide) rfl rfl (F.1.2.2.2.2 _ (List.mem_of_getElem? (l := wsX5_noteSmoke) (i := 2) (a := .fieldLink RX5 61 "CordClock$State" "gap" "I") (by decide +kernel))) dX5_noteSmoke_41 ?_
    rw [show M_32 b 9 = nI (((g 4) + 1)) from (show M_32 b 9 = nI (((g 4) + 1)) from (by rw [h_32]; exact cq_up_s _ _ _ _))]
    refine cq_mmax F (F.1.2.2.2.2 _ (List.mem_of_getElem? (l := wsX5_noteSmoke) (i := 4) (a := .methodLink RX5 119 Lib.Math.max.name) (by decide +kernel))) (F.1.2.2.2.2 _ (List.mem_of_getElem? (l := wsX5_noteSmoke) (i := 5) (a := .static Lib.Math.max.name) (by decide +kernel))) (F.1.2.2.2.2 _ (List.mem_of_getElem? (l := wsX5_noteSmoke) (i := 6) (a := .initialized "java/lang/Math") (by decide +kernel))) (F.1.2.2.2.2 _ (List.mem_of_getElem? (l := wsX5_noteSmoke) (i := 7) (a := .code Lib.Math.max.name Lib.Math.max.code 2 (some .int)) (by decide +kernel))) ⟨by decide, Nat.le_of_ble_eq_true rfl, by decide, by decide⟩ dX5_noteSmoke_44 ?_
    rw [show (if nI (g 5) < nI ((g 4) + 1) then nI ((g 4) + 1) else nI (g 5) : Int32) = nI (if (g 5) < ((g 4) + 1) then ((g 4) + 1) else (g 5)) from nI_max (by omega) (by omega)]
    refine cq_put F (C := RX5) (T := TX5) (N := 11) (ci := 6) hb.kind rfl ⟨⟨by decide, by decide⟩, rfl⟩ inX5 tyX5 tyX5_ok nmX5 10 (by decide) rfl rfl (F.1.2.2.2.2 _ (List.mem_of_getElem? (l := wsX5_noteSmoke) (i := 3) (a := .fieldLink RX5 64 "CordClock$State" "longestGap" "I") (by decide +kernel))) rfl (by rfl) (by rfl) dX5_noteSmoke_47 (fun M_47 h_47 => ?_)
    refine cq_vret F hr (by decide) (by decide) dX5_noteSmoke_50 ⟨rfl, ?_⟩
    exact ⟨hs.ints hk ((cq_only.rf.up h_32).up h_47) ⟨((show M_47 b 1 = nI (g 6) from (by rw [h_47, cq_up_k (by omega), h_32, cq_up_k (by omega)]; exact hs.1.1)).trans (congrArg nI (by rw [en _ (by omega) (by omega) (by omega)]))), ((show M_47 b 3 = nI (g 51) from (by rw [h_47, cq_up_k (by omega), h_32, cq_up_k (by omega)]; exact hs.1.2.1)).trans (congrArg nI (by rw [en _ (by omega) (by omega) (by omega)]))), ((show M_47 b 5 = nI (g 0) from (by rw [h_47, cq_up_k (by omega), h_32, cq_up_k (by omega)]; exact hs.1.2.2.1)).trans (congrArg nI (by rw [en _ (by omega) (by omega) (by omega)]))), ((show M_47 b 6 = nI (g 1) from (by rw [h_47, cq_up_k (by omega), h_32, cq_up_k (by omega)]; exact hs.1.2.2.2.1)).trans (congrArg nI (by rw [en _ (by omega) (by omega) (by omega)]))), ((show M_47 b 7 = nI (g 2) from (by rw [h_47, cq_up_k (by omega), h_32, cq_up_k (by omega)]; exact hs.1.2.2.2.2.1)).trans (congrArg nI (by rw [en _ (by omega) (by omega) (by omega)]))), ((show M_47 b 8 = nI (g 3) from (by rw [h_47, cq_up_k (by omega), h_32, cq_up_k (by omega)]; exact hs.1.2.2.2.2.2.1)).trans (congrArg nI (by rw [e3]; split <;> omega))), ((show M_47 b 9 = nI (((g 4) + 1)) from (by rw [h_47, cq_up_k (by omega), h_32]; exact cq_up_s _ _ _ _)).trans (congrArg nI (by rw [e4]; split <;> omega))), ((show M_47 b 10 = nI ((if (g 5) < ((g 4) + 1) then ((g 4) + 1) else (g 5))) from (by rw [h_47]; exact cq_up_s _ _ _ _)).trans (congrArg nI (by rw [e5]; (repeat' split) <;> omega)))⟩ (fun k hk9 => (en k (by omega) (by omega) (by omega)).symm), fun x hx => (show cq_only M M_47 b from ((cq_only.rf.up h_32).up h_47)) x (by omega)⟩
  · have c_4 : ¬ (ns_flames g (g 6)) ≤ 0 := fun z => c_4 ((nI_b (a := (ns_flames g (g 6))) (b := 0) (by omega) (by omega)).1.mpr z)
    refine cq_aload_n F (i := 0) dX5_noteSmoke_7 rfl rfl ?_
    refine cq_dup F dX5_noteSmoke_8 rfl ?_
    refine cq_getI F (C := RX5) (T := TX5) (N := 11) (ci := 6) hb.kind rfl ⟨⟨by decide, by decide⟩, rfl⟩ inX5 8 (by decide) rfl rfl (F.1.2.2.2.2 _ (List.mem_of_getElem? (l := wsX5_noteSmoke) (i := 1) (a := .fieldLink RX5 58 "CordClock$State" "smokySteps" "I") (by decide +kernel))) dX5_noteSmoke_9 ?_
    rw [show M b 8 = nI (g 3) from (show M b 8 = nI (g 3) from hs.1.2.2.2.2.2.1)]
    refine cq_iconst F (v := 1) dX5_noteSmoke_12 rfl ?_
    refine cq_iadd F dX5_noteSmoke_13 ?_
    rw [show (nI (g 3) + 1 : Int32) = nI ((g 3) + 1) from nI_add _ _]
    refine cq_put F (C := RX5) (T := TX5) (N := 11) (ci := 6) hb.kind rfl ⟨⟨by decide, by decide⟩, rfl⟩ inX5 tyX5 tyX5_ok nmX5 8 (by decide) rfl rfl (F.1.2.2.2.2 _ (List.mem_of_getElem? (l := wsX5_noteSmoke) (i := 1) (a := .fieldLink RX5 58 "CordClock$State" "smokySteps" "I") (by decide +kernel))) rfl (by rfl) (by rfl) dX5_noteSmoke_14 (fun M_14 h_14 => ?_)
    refine cq_aload_n F (i := 0) dX5_noteSmoke_17 rfl rfl ?_
    refine cq_iconst F (v := 0) dX5_noteSmoke_18 rfl ?_
    refine cq_put F (C := RX5) (T := TX5) (N := 11) (ci := 6) hb.kind rfl ⟨⟨by decide, by decide⟩, rfl⟩ inX5 tyX5 tyX5_ok nmX5 9 (by decide) rfl rfl (F.1.2.2.2.2 _ (List.mem_of_getElem? (l := wsX5_noteSmoke) (i := 2) (a := .fieldLink RX5 61 "CordClock$State" "gap" "I") (by decide +kernel))) rfl (by rfl) (by rfl) dX5_noteSmoke_19 (fun M_19 h_19 => ?_)
    refine cq_goto F (tgt := 50) dX5_noteSmoke_22 (by decide) ?_
    refine cq_vret F hr (by decide) (by decide) dX5_noteSmoke_50 ⟨rfl, ?_⟩
    exact ⟨hs.ints hk ((cq_only.rf.up h_14).up h_19) ⟨((show M_19 b 1 = nI (g 6) from (by rw [h_19, cq_up_k (by omega), h_14, cq_up_k (by omega)]; exact hs.1.1)).trans (congrArg nI (by rw [en _ (by omega) (by omega) (by omega)]))), ((show M_19 b 3 = nI (g 51) from (by rw [h_19, cq_up_k (by omega), h_14, cq_up_k (by omega)]; exact hs.1.2.1)).trans (congrArg nI (by rw [en _ (by omega) (by omega) (by omega)]))), ((show M_19 b 5 = nI (g 0) from (by rw [h_19, cq_up_k (by omega), h_14, cq_up_k (by omega)]; exact hs.1.2.2.1)).trans (congrArg nI (by rw [en _ (by omega) (by omega) (by omega)]))), ((show M_19 b 6 = nI (g 1) from (by rw [h_19, cq_up_k (by omega), h_14, cq_up_k (by omega)]; exact hs.1.2.2.2.1)).trans (congrArg nI (by rw [en _ (by omega) (by omega) (by omega)]))), ((show M_19 b 7 = nI (g 2) from (by rw [h_19, cq_up_k (by omega), h_14, cq_up_k (by omega)]; exact hs.1.2.2.2.2.1)).trans (congrArg nI (by rw [en _ (by omega) (by omega) (by omega)]))), ((show M_19 b 8 = nI (((g 3) + 1)) from (by rw [h_19, cq_up_k (by omega), h_14]; exact cq_up_s _ _ _ _)).trans (congrArg nI (by rw [e3]; split <;> omega))), ((show M_19 b 9 = nI (0) from (by rw [h_19]; exact cq_up_s _ _ _ _)).trans (congrArg nI (by rw [e4]; split <;> omega))), ((show M_19 b 10 = nI (g 5) from (by rw [h_19, cq_up_k (by omega), h_14, cq_up_k (by omega)]; exact hs.1.2.2.2.2.2.2.2)).trans (congrArg nI (by rw [e5]; (repeat' split) <;> omega)))⟩ (fun k hk9 => (en k (by omega) (by omega) (by omega)).symm), fun x hx => (show cq_only M M_19 b from ((cq_only.rf.up h_14).up h_19)) x (by omega)⟩
theorem hdVX5_noteSmoke : yX5_noteSmoke.cls = RX5 ∧ yX5_noteSmoke.cls ≠ "java/lang/invoke/MethodHandle" ∧ yX5_noteSmoke.cls ≠ "java/lang/invoke/VarHandle" ∧ (parseMethodDescriptor yX5_noteSmoke.desc).map (fun d => d.parameters.length) = some 0 := by decide +kernel
abbrev rmX5_burnCords : Room := ({ frames := 2, cells := 0, slots := 0, locals := 40 })
set_option maxHeartbeats 4000000 in
set_option maxRecDepth 100000 in
theorem kX5_burnCords (l : Launch) (D : va_G) (cA : Nat → ClassId) (X : cq_X) (Bs : Nat) (b B : Nat) (g : Nat → Nat) (M : cq_M) (hb : cq_isState X b) (hs : cr_st M b g) (hk : ns_ok g B) : cq_C l yX5_burnCords wsX5_burnCords rmX5_burnCords D cA X Bs [.ref b] M (cq_PI (fun r M1 => r = nI (ns_bS g (g 6)) ∧ cr_st M1 b (ns_bA g (g 6)) ∧ cr_fr M M1 b 23)) 0 0 := by
  refine cq_met (cc := cX5_burnCords) (maxL := 3) (ret := (some .int)) (by decide) rfl (Nat.le_of_ble_eq_true rfl) [(0, .ref b)] rfl rfl ?_
  intro p9 e9 s9 m9 b9 t9 c9 F hr
  have inX5 : ∀ w ∈ wsX50, w ∈ wsX5_burnCords := (fun w h => List.mem_cons_of_mem _ (List.mem_append_left _ (List.mem_append_right _ h)))
  have hk6 := hk.1
  have loop_4 : ∀ (n_4 : Nat) (k : Nat) (M2 : cq_M) (g2 : Nat → Nat), k ≤ g 6 → cr_st M2 b g2 → cr_fr M M2 b 23 → g2 = ns_bA g k → g 6 - k < n_4 → cq_V p9 l e9 rmX5_burnCords s9 m9 ([.ref b] : List Value).toArray b9 t9 c9 D cA X Bs 3 0 0 (MQ b9 (cq_Q D cA X Bs (cq_PI (fun r M1 => r = nI (ns_bS g (g 6)) ∧ cr_st M1 b (ns_bA g (g 6)) ∧ cr_fr M M1 b 23))) ([.ref b] : List Value).toArray s9 0 0 (cq_A Bs)) 4 [(0, .ref b), (1, .int (nI (ns_bS g k))), (2, .int (nI k))] [] M2 := by
    intro n_4
    induction n_4 with
    | zero =>
      intros
      omega
    | succ n_4 ih_4 =>
      intro k M2 g2 hk1 hs2 hf2 he2 hn
      obtain ⟨hB1, hB2, hB3⟩ := ns_bA_ok hk k (by omega)
      rw [← he2] at hB1 hB2
      have hB6 := hB2 6 (by intros; omega)
      have hp9 : (2 : Nat) ^ k ≤ 16 := Nat.le_trans (Nat.pow_le_pow_right (by omega) (show k ≤ 4 by omega)) (by decide)
      refine cq_iload_n F (i := 2) dX5_burnCords_4 rfl rfl ?_
      refine cq_aload_n F (i := 0) dX5_burnCords_5 rfl rfl ?_
      refine cq_getI F (C := RX5) (T := TX5) (N := 11) (ci := 6) hb.kind rfl ⟨⟨by decide, by decide⟩, rfl⟩ inX5 1 (by decide) rfl rfl (F.1.2.2.2.2 _ (List.mem_of_getElem? (l := wsX5_burnCords) (i := 1) (a := .fieldLink RX5 36 "CordClock$State" "cordCount" "I") (by decide +kernel))) dX5_burnCords_6 ?_
      rw [show M2 b 1 = nI (g2 6) from (show M2 b 1 = nI (g2 6) from hs2.1.1)]
      refine cq_icmp_ge F (tgt := 36) dX5_burnCords_9 (by decide) (fun c_9 => ?_) (fun c_9 => ?_)
      · have c_9 : (g2 6) ≤ k := (nI_b (a := (g2 6)) (b := k) (by omega) (by omega)).1.mp c_9
        refine cq_iload_n F (i := 1) dX5_burnCords_36 rfl rfl ?_
        refine cq_iret F hr (by decide) (by decide) dX5_burnCords_37 ⟨_, rfl, ?_⟩
        obtain rfl : k = g 6 := by omega
        rw [he2] at hs2
        exact ⟨rfl, hs2, hf2⟩
      · have c_9 : ¬ (g2 6) ≤ k := fun z => c_9 ((nI_b (a := (g2 6)) (b := k) (by omega) (by omega)).1.mpr z)
        refine cq_aload_n F (i := 0) dX5_burnCords_12 rfl rfl ?_
        refine cq_getT (t := (b + 1)) F (C := RX5) (T := TX5) (N := 11) (ci := 6) hb.kind rfl ⟨⟨by decide, by decide⟩, rfl⟩ inX5 0 (by decide) rfl rfl hb.t0 (F.1.2.2.2.2 _ (List.mem_of_getElem? (l := wsX5_burnCords) (i := 2) (a := .fieldLink RX5 11 "CordClock$State" "cords" "[LCordClock$Cord;") (by decide +kernel))) dX5_burnCords_13 ?_
        refine cq_iload_n F (i := 2) dX5_burnCords_16 rfl rfl ?_
        have hj_17 : k < 4 := (by omega)
        refine cq_aaldC_j F (j := k) (t := (b + 7 + 2 * k)) hb.k1 hb.n1 rfl ⟨hj_17, by decide⟩ (hb.ct _ hj_17) dX5_burnCords_17 ?_
        refine cq_callV F (C := RX1) (ci := 2) (kX1_burnsOut l D cA X Bs (b + 7 + 2 * k) k g2 M2 (hb.cord _ (by omega)) (hs2.2.1 k (by omega)) (hB1.2.2.2.1 k (by omega))) (cwV 0 F.1.2.2.2.2 gX5_burnCords_X1_burnsOut rfl rfl rfl hdVX1_burnsOut ⟨Nat.le_of_ble_eq_true rfl, Nat.le_of_ble_eq_true rfl⟩) (hb.cord _ hj_17).kind ⟨by decide, by decide⟩ rfl rfl rfl (Nat.le_of_ble_eq_true rfl) dX5_burnCords_18 ⟨Nat.le_of_ble_eq_true rfl, Nat.le_of_ble_eq_true rfl⟩ (cq_kI fun r_18 M_18 h_18 => ?_)
        have s18 := hs2.burn hB1 (c := k) (by omega) h_18.2.1 h_18.2.2
        refine cq_if_eq F (tgt := 30) dX5_burnCords_21 (by decide) (fun c_21 => ?_) (fun c_21 => ?_)
        · have c_21 := cq_b0 h_18.1 c_21
          first | rw [show ns_bS g k + 2 ^ k = ns_bS g (k + 1) from by rw [ns_bS, ← he2, if_pos c_21]] | rw [show ns_bS g k = ns_bS g (k + 1) from by rw [ns_bS, ← he2, if_neg c_21, Nat.add_zero]]
          refine cq_iinc F dX5_burnCords_30 rfl (by decide) (fun x_30 e_30 => ?_)
          obtain rfl : x_30 = nI (k + 1) := by rw [e_30]; exact nI_1 _
          refine cq_goto F (tgt := 4) dX5_burnCords_33 (by decide) ?_
          refine cq_loc (L2 := [(0, .ref b), (1, .int (nI (ns_bS g (k + 1)))), (2, .int (nI (k + 1)))]) rfl ?_
          exact ih_4 (k + 1) M_18 _ (by omega) s18.1 (hf2.trans s18.2) (by rw [ns_bA, ← he2]) (by omega)
        · have c_21 := cq_b1 h_18.1 c_21
          refine cq_iload_n F (i := 1) dX5_burnCords_24 rfl rfl ?_
          refine cq_iconst F (v := 1) dX5_burnCords_25 rfl ?_
          refine cq_iload_n F (i := 2) dX5_burnCords_26 rfl rfl ?_
          refine cq_ishl F dX5_burnCords_27 ?_
          refine cq_ior F dX5_burnCords_28 ?_
          rw [(nI_set k (by omega) (ns_bS g k) (by omega)).1 (by omega)]
          refine cq_istore_n F (i := 1) dX5_burnCords_29 rfl (by decide) ?_
          first | rw [show ns_bS g k + 2 ^ k = ns_bS g (k + 1) from by rw [ns_bS, ← he2, if_pos c_21]] | rw [show ns_bS g k = ns_bS g (k + 1) from by rw [ns_bS, ← he2, if_neg c_21, Nat.add_zero]]
          refine cq_iinc F dX5_burnCords_30 rfl (by decide) (fun x_30 e_30 => ?_)
          obtain rfl : x_30 = nI (k + 1) := by rw [e_30]; exact nI_1 _
          refine cq_goto F (tgt := 4) dX5_burnCords_33 (by decide) ?_
          refine cq_loc (L2 := [(0, .ref b), (1, .int (nI (ns_bS g (k + 1)))), (2, .int (nI (k + 1)))]) rfl ?_
          exact ih_4 (k + 1) M_18 _ (by omega) s18.1 (hf2.trans s18.2) (by rw [ns_bA, ← he2]) (by omega)
  refine cq_iconst F (v := 0) dX5_burnCords_0 rfl ?_
  refine cq_istore_n F (i := 1) dX5_burnCords_1 rfl (by decide) ?_
  refine cq_iconst F (v := 0) dX5_burnCords_2 rfl ?_
  refine cq_istore_n F (i := 2) dX5_burnCords_3 rfl (by decide) ?_
  refine cq_loc (L2 := [(0, .ref b), (1, .int (nI (ns_bS g 0))), (2, .int (nI 0))]) rfl ?_
  exact loop_4 (g 6 + 1) 0 M g (by omega) hs cr_fr.rf rfl (by omega)
theorem hdVX5_burnCords : yX5_burnCords.cls = RX5 ∧ yX5_burnCords.cls ≠ "java/lang/invoke/MethodHandle" ∧ yX5_burnCords.cls ≠ "java/lang/invoke/VarHandle" ∧ (parseMethodDescriptor yX5_burnCords.desc).map (fun d => d.parameters.length) = some 0 := by decide +kernel
abbrev rmX5_giveSignal : Room := ({ frames := 2, cells := 0, slots := 0, locals := 45 })
set_option maxHeartbeats 4000000 in
set_option maxRecDepth 100000 in
theorem kX5_giveSignal (l : Launch) (D : va_G) (cA : Nat → ClassId) (X : cq_X) (Bs : Nat) (b B c : Nat) (g : Nat → Nat) (M : cq_M) (hb : cq_isState X b) (hs : cr_st M b g) (hk : ns_ok g B) (hc : c < g 6) : cq_C l yX5_giveSignal wsX5_giveSignal rmX5_giveSignal D cA X Bs [.ref b, .int (nI c)] M (cq_PV (fun M1 => cr_st M1 b (ns_signal g c) ∧ cr_fr M M1 b 23)) 0 0 := by
  refine cq_met (cc := cX5_giveSignal) (maxL := 4) (ret := none) (by decide) rfl (Nat.le_of_ble_eq_true rfl) [(0, .ref b), (1, .int (nI c))] rfl rfl ?_
  intro p9 e9 s9 m9 b9 t9 c9 F hr
  have inX1 : ∀ w ∈ wsX10, w ∈ wsX5_giveSignal := (fun w h => List.mem_cons_of_mem _ (List.mem_append_left _ (List.mem_append_left _ (List.mem_append_right _ h))))
  have inX4 : ∀ w ∈ wsX40, w ∈ wsX5_giveSignal := (fun w h => List.mem_cons_of_mem _ (List.mem_append_left _ (List.mem_append_right _ h)))
  have inX5 : ∀ w ∈ wsX50, w ∈ wsX5_giveSignal := (fun w h => List.mem_cons_of_mem _ (List.mem_append_left _ (List.mem_append_left _ (List.mem_append_left _ (List.mem_append_right _ h)))))
  have hk6 := hk.1
  have hk7 : ns_ok (ns_up g 1 (g 1 + 1)) B := hk.free (Or.inl rfl)
  have hk20 : ns_ok (ns_up (ns_up g 1 (g 1 + 1)) (17 + 11 * c) ((ns_up g 1 (g 1 + 1)) 0)) B := hk7.free (Or.inr (Or.inr (Or.inr (Or.inl ⟨c, by omega, rfl⟩))))
  obtain ⟨hs1, hs2⟩ := ns_sig0_ok hk hc
  have e51 := hs2 51 (by omega) (by omega) (by omega)
  have hk51 := hk.2.1
  have e33 : ns_write (ns_up (ns_up g 1 (g 1 + 1)) (17 + 11 * c) ((ns_up g 1 (g 1 + 1)) 0)) 2 c = ns_sig0 g c := by unfold ns_sig0; rw [ns_up_n (g := g) (show 0 ≠ 1 by omega)]
  have loop_38 : ∀ (n_38 : Nat) (k : Nat) (M2 : cq_M) (g2 : Nat → Nat), k ≤ g 51 → cr_st M2 b g2 → cr_fr M M2 b 23 → g2 = ns_rules (ns_sig0 g c) c k → g 51 - k < n_38 → cq_V p9 l e9 rmX5_giveSignal s9 m9 ([.ref b, .int (nI c)] : List Value).toArray b9 t9 c9 D cA X Bs 4 0 0 (MQ b9 (cq_Q D cA X Bs (cq_PV (fun M1 => cr_st M1 b (ns_signal g c) ∧ cr_fr M M1 b 23))) ([.ref b, .int (nI c)] : List Value).toArray s9 0 0 (cq_A Bs)) 38 [(0, .ref b), (1, .int (nI c)), (2, .int (nI k))] [] M2 := by
    intro n_38
    induction n_38 with
    | zero =>
      intros
      omega
    | succ n_38 ih_38 =>
      intro k M2 g2 hk1 hs2 hf2 he2 hn
      obtain ⟨hr1, hr2⟩ := ns_rules_ok (c := c) hs1 k (by omega)
      rw [← he2] at hr1 hr2
      have f51 := hr2 51 (by omega) (by omega) (by intros; omega) (by intros; omega)
      have hb51 := hr1.2.1
      have hb6 := hr1.1
      refine cq_iload_n F (i := 2) dX5_giveSignal_38 rfl rfl ?_
      refine cq_aload_n F (i := 0) dX5_giveSignal_39 rfl rfl ?_
      refine cq_getI F (C := RX5) (T := TX5) (N := 11) (ci := 6) hb.kind rfl ⟨⟨by decide, by decide⟩, rfl⟩ inX5 3 (by decide) rfl rfl (F.1.2.2.2.2 _ (List.mem_of_getElem? (l := wsX5_giveSignal) (i := 5) (a := .fieldLink RX5 43 "CordClock$State" "ruleCount" "I") (by decide +kernel))) dX5_giveSignal_40 ?_
      rw [show M2 b 3 = nI (g2 51) from (show M2 b 3 = nI (g2 51) from hs2.1.2.1)]
      refine cq_icmp_ge F (tgt := 119) dX5_giveSignal_43 (by decide) (fun c_43 => ?_) (fun c_43 => ?_)
      · have c_43 : (g2 51) ≤ k := (nI_b (a := (g2 51)) (b := k) (by omega) (by omega)).1.mp c_43
        refine cq_vret F hr (by decide) (by decide) dX5_giveSignal_119 ⟨rfl, ?_⟩
        obtain rfl : k = g 51 := by omega
        rw [he2] at hs2
        exact ⟨hs2, hf2⟩
      · have c_43 : ¬ (g2 51) ≤ k := fun z => c_43 ((nI_b (a := (g2 51)) (b := k) (by omega) (by omega)).1.mpr z)
        have hru := hr1.2.2.2.2.1 k (by omega)
        refine cq_aload_n F (i := 0) dX5_giveSignal_46 rfl rfl ?_
        refine cq_getT (t := (b + 2)) F (C := RX5) (T := TX5) (N := 11) (ci := 6) hb.kind rfl ⟨⟨by decide, by decide⟩, rfl⟩ inX5 2 (by decide) rfl rfl hb.t2 (F.1.2.2.2.2 _ (List.mem_of_getElem? (l := wsX5_giveSignal) (i := 6) (a := .fieldLink RX5 19 "CordClock$State" "rules" "[LCordClock$Rule;") (by decide +kernel))) dX5_giveSignal_47 ?_
        refine cq_iload_n F (i := 2) dX5_giveSignal_50 rfl rfl ?_
        have hj_51 : k < 8 := (by omega)
        refine cq_aaldU_j F (j := k) (t := (b + 15 + k)) hb.k2 hb.n2 rfl ⟨hj_51, by decide⟩ (hb.rt _ hj_51) dX5_giveSignal_51 ?_
        refine cq_astore_n F (i := 3) dX5_giveSignal_52 rfl (by decide) ?_
        refine cq_aload_n F (i := 3) dX5_giveSignal_53 rfl rfl ?_
        refine cq_getIN F (C := RX4) (T := TX4) (N := 4) (ci := 5) (hb.rule _ hj_51).kind rfl ⟨⟨by decide, by decide⟩, rfl⟩ inX4 0 (by decide) rfl rfl (cq_nfw F.2.2.2.2 (List.mem_of_getElem? (l := cq_nf) (i := 25) rfl)) dX5_giveSignal_54 ?_
        rw [show M2 (b + 15 + k) 0 = nI (g2 (52 + 4 * k)) from (show M2 (b + 15 + k) 0 = nI (g2 (52 + 4 * k)) from (hs2.2.2.1 k (by omega)).1)]
        refine cq_iload_n F (i := 1) dX5_giveSignal_57 rfl rfl ?_
        refine cq_icmp_ne F (tgt := 113) dX5_giveSignal_58 (by decide) (fun c_58 => ?_) (fun c_58 => ?_)
        · have c_58 : ¬ (g2 (52 + 4 * k)) = c := fun z => c_58 ((nI_b (a := (g2 (52 + 4 * k))) (b := c) (by omega) (by omega)).2.2.mpr z)
          refine cq_iinc F dX5_giveSignal_113 rfl (by decide) (fun x_113 e_113 => ?_)
          obtain rfl : x_113 = nI (k + 1) := by rw [e_113]; exact nI_1 _
          refine cq_goto F (tgt := 38) dX5_giveSignal_116 (by decide) ?_
          refine cq_loc (L2 := [(0, .ref b), (1, .int (nI c)), (2, .int (nI (k + 1)))]) rfl ?_
          exact ih_38 (k + 1) M2 _ (by omega) hs2 hf2 (by rw [ns_rules, ← he2]; unfold ns_rule1; first | exact (if_neg (fun z => c_58 z.1)).symm | exact (if_neg (fun z => c_88 (by have z2 := z.2; rw [← ns_x_eq hru.2.2] at z2; exact z2))).symm | (rw [if_pos (show g2 (52 + 4 * k) = c ∧ ns_canLight g2 (g2 (53 + 4 * k)) (ns_x g2 k) from ⟨c_58, by rw [← ns_x_eq hru.2.2]; exact c_88⟩), ns_x_eq hru.2.2])) (by omega)
        · have c_58 : (g2 (52 + 4 * k)) = c := (nI_b (a := (g2 (52 + 4 * k))) (b := c) (by omega) (by omega)).2.2.mp c_58
          refine cq_aload_n F (i := 0) dX5_giveSignal_61 rfl rfl ?_
          refine cq_aload_n F (i := 3) dX5_giveSignal_62 rfl rfl ?_
          refine cq_getIN F (C := RX4) (T := TX4) (N := 4) (ci := 5) (hb.rule _ hj_51).kind rfl ⟨⟨by decide, by decide⟩, rfl⟩ inX4 1 (by decide) rfl rfl (cq_nfw F.2.2.2.2 (List.mem_of_getElem? (l := cq_nf) (i := 26) rfl)) dX5_giveSignal_63 ?_
          rw [show M2 (b + 15 + k) 1 = nI (g2 (53 + 4 * k)) from (show M2 (b + 15 + k) 1 = nI (g2 (53 + 4 * k)) from (hs2.2.2.1 k (by omega)).2.1)]
          refine cq_callV F (C := RX5) (ci := 6) (kX5_hasCord l D cA X Bs b B (nI (g2 (53 + 4 * k))) g2 M2 hb hs2 hr1) (cwV 1 F.1.2.2.2.2 gX5_giveSignal_X5_hasCord rfl rfl rfl hdVX5_hasCord ⟨Nat.le_of_ble_eq_true rfl, Nat.le_of_ble_eq_true rfl⟩) hb.kind ⟨by decide, by decide⟩ rfl rfl rfl (Nat.le_of_ble_eq_true rfl) dX5_giveSignal_66 ⟨Nat.le_of_ble_eq_true rfl, Nat.le_of_ble_eq_true rfl⟩ (cq_kIp fun r_66 h_66 => ?_)
          refine cq_if_eq F (tgt := 113) dX5_giveSignal_69 (by decide) (fun c_69 => ?_) (fun c_69 => ?_)
          · have c_69 := cq_b0 h_66 c_69
            exact absurd ⟨nI_pos' (by omega), nI_lt (by omega) (by omega)⟩ c_69
          · have c_69 := cq_b1 h_66 c_69
            refine cq_aload_n F (i := 0) dX5_giveSignal_72 rfl rfl ?_
            refine cq_getT (t := (b + 1)) F (C := RX5) (T := TX5) (N := 11) (ci := 6) hb.kind rfl ⟨⟨by decide, by decide⟩, rfl⟩ inX5 0 (by decide) rfl rfl hb.t0 (F.1.2.2.2.2 _ (List.mem_of_getElem? (l := wsX5_giveSignal) (i := 2) (a := .fieldLink RX5 11 "CordClock$State" "cords" "[LCordClock$Cord;") (by decide +kernel))) dX5_giveSignal_73 ?_
            refine cq_aload_n F (i := 3) dX5_giveSignal_76 rfl rfl ?_
            refine cq_getIN F (C := RX4) (T := TX4) (N := 4) (ci := 5) (hb.rule _ hj_51).kind rfl ⟨⟨by decide, by decide⟩, rfl⟩ inX4 1 (by decide) rfl rfl (cq_nfw F.2.2.2.2 (List.mem_of_getElem? (l := cq_nf) (i := 26) rfl)) dX5_giveSignal_77 ?_
            rw [show M2 (b + 15 + k) 1 = nI (g2 (53 + 4 * k)) from (show M2 (b + 15 + k) 1 = nI (g2 (53 + 4 * k)) from (hs2.2.2.1 k (by omega)).2.1)]
            have hj_80 : (g2 (53 + 4 * k)) < 4 := (by omega)
            refine cq_aaldC_j F (j := (g2 (53 + 4 * k))) (t := (b + 7 + 2 * (g2 (53 + 4 * k)))) hb.k1 hb.n1 rfl ⟨hj_80, by decide⟩ (hb.ct _ hj_80) dX5_giveSignal_80 ?_
            refine cq_aload_n F (i := 3) dX5_giveSignal_81 rfl rfl ?_
            refine cq_getIN F (C := RX4) (T := TX4) (N := 4) (ci := 5) (hb.rule _ hj_51).kind rfl ⟨⟨by decide, by decide⟩, rfl⟩ inX4 2 (by decide) rfl rfl (cq_nfw F.2.2.2.2 (List.mem_of_getElem? (l := cq_nf) (i := 27) rfl)) dX5_giveSignal_82 ?_
            rw [show M2 (b + 15 + k) 2 = nI (g2 (54 + 4 * k)) from (show M2 (b + 15 + k) 2 = nI (g2 (54 + 4 * k)) from (hs2.2.2.1 k (by omega)).2.2.1)]
            refine cq_callV F (C := RX1) (ci := 2) (nX1_canBeLit (l := l) (D := D) (cA := cA) (Bs := Bs) (nI (g2 (54 + 4 * k))) (hb.cord _ (by omega)) (hs2.2.1 _ hru.2.1) (hr1.2.2.2.1 _ hru.2.1)) (cwV 1 F.1.2.2.2.2 gX5_giveSignal_X1_canBeLit rfl rfl rfl hdVX1_canBeLit ⟨Nat.le_of_ble_eq_true rfl, Nat.le_of_ble_eq_true rfl⟩) (hb.cord _ hj_80).kind ⟨by decide, by decide⟩ rfl rfl rfl (Nat.le_of_ble_eq_true rfl) dX5_giveSignal_85 ⟨Nat.le_of_ble_eq_true rfl, Nat.le_of_ble_eq_true rfl⟩ (cq_kIp fun r_85 h_85 => ?_)
            refine cq_if_eq F (tgt := 113) dX5_giveSignal_88 (by decide) (fun c_88 => ?_) (fun c_88 => ?_)
            · have c_88 := cq_b0 h_85 c_88
              refine cq_iinc F dX5_giveSignal_113 rfl (by decide) (fun x_113 e_113 => ?_)
              obtain rfl : x_113 = nI (k + 1) := by rw [e_113]; exact nI_1 _
              refine cq_goto F (tgt := 38) dX5_giveSignal_116 (by decide) ?_
              refine cq_loc (L2 := [(0, .ref b), (1, .int (nI c)), (2, .int (nI (k + 1)))]) rfl ?_
              exact ih_38 (k + 1) M2 _ (by omega) hs2 hf2 (by rw [ns_rules, ← he2]; unfold ns_rule1; first | exact (if_neg (fun z => c_58 z.1)).symm | exact (if_neg (fun z => c_88 (by have z2 := z.2; rw [← ns_x_eq hru.2.2] at z2; exact z2))).symm | (rw [if_pos (show g2 (52 + 4 * k) = c ∧ ns_canLight g2 (g2 (53 + 4 * k)) (ns_x g2 k) from ⟨c_58, by rw [← ns_x_eq hru.2.2]; exact c_88⟩), ns_x_eq hru.2.2])) (by omega)
            · have c_88 := cq_b1 h_85 c_88
              refine cq_aload_n F (i := 0) dX5_giveSignal_91 rfl rfl ?_
              refine cq_aload_n F (i := 3) dX5_giveSignal_92 rfl rfl ?_
              refine cq_getIN F (C := RX4) (T := TX4) (N := 4) (ci := 5) (hb.rule _ hj_51).kind rfl ⟨⟨by decide, by decide⟩, rfl⟩ inX4 1 (by decide) rfl rfl (cq_nfw F.2.2.2.2 (List.mem_of_getElem? (l := cq_nf) (i := 26) rfl)) dX5_giveSignal_93 ?_
              rw [show M2 (b + 15 + k) 1 = nI (g2 (53 + 4 * k)) from (show M2 (b + 15 + k) 1 = nI (g2 (53 + 4 * k)) from (hs2.2.2.1 k (by omega)).2.1)]
              refine cq_aload_n F (i := 3) dX5_giveSignal_96 rfl rfl ?_
              refine cq_getIN F (C := RX4) (T := TX4) (N := 4) (ci := 5) (hb.rule _ hj_51).kind rfl ⟨⟨by decide, by decide⟩, rfl⟩ inX4 2 (by decide) rfl rfl (cq_nfw F.2.2.2.2 (List.mem_of_getElem? (l := cq_nf) (i := 27) rfl)) dX5_giveSignal_97 ?_
              rw [show M2 (b + 15 + k) 2 = nI (g2 (54 + 4 * k)) from (show M2 (b + 15 + k) 2 = nI (g2 (54 + 4 * k)) from (hs2.2.2.1 k (by omega)).2.2.1)]
              refine cq_callV F (C := RX5) (ci := 6) (kX5_lightEnd l D cA X Bs b B (g2 (53 + 4 * k)) (nI (g2 (54 + 4 * k))) g2 M2 hb hs2 hr1 hru.2.1 c_88) (cwV 2 F.1.2.2.2.2 gX5_giveSignal_X5_lightEnd rfl rfl rfl hdVX5_lightEnd ⟨Nat.le_of_ble_eq_true rfl, Nat.le_of_ble_eq_true rfl⟩) hb.kind ⟨by decide, by decide⟩ rfl rfl rfl (Nat.le_of_ble_eq_true rfl) dX5_giveSignal_100 ⟨Nat.le_of_ble_eq_true rfl, Nat.le_of_ble_eq_true rfl⟩ (cq_kV fun M_100 h_100 => ?_)
              have hkG := hr1.light hru.2.1 c_88
              have hG51 : (ns_lightNow g2 (g2 (53 + 4 * k)) (nI (g2 (54 + 4 * k)))) 51 = g2 51 := ns_light_n (by omega) (by omega) (by omega)
              refine cq_aload_n F (i := 3) dX5_giveSignal_103 rfl rfl ?_
              refine cq_dup F dX5_giveSignal_104 rfl ?_
              refine cq_getIN F (C := RX4) (T := TX4) (N := 4) (ci := 5) (hb.rule _ hj_51).kind rfl ⟨⟨by decide, by decide⟩, rfl⟩ inX4 3 (by decide) rfl rfl (cq_nfw F.2.2.2.2 (List.mem_of_getElem? (l := cq_nf) (i := 28) rfl)) dX5_giveSignal_105 ?_
              rw [show M_100 (b + 15 + k) 3 = nI ((ns_lightNow g2 (g2 (53 + 4 * k)) (nI (g2 (54 + 4 * k)))) (55 + 4 * k)) from (show M_100 (b + 15 + k) 3 = nI ((ns_lightNow g2 (g2 (53 + 4 * k)) (nI (g2 (54 + 4 * k)))) (55 + 4 * k)) from (h_100.1.2.2.1 k (by omega)).2.2.2)]
              refine cq_iconst F (v := 1) dX5_giveSignal_108 rfl ?_
              refine cq_iadd F dX5_giveSignal_109 ?_
              rw [show (nI ((ns_lightNow g2 (g2 (53 + 4 * k)) (nI (g2 (54 + 4 * k)))) (55 + 4 * k)) + 1 : Int32) = nI (((ns_lightNow g2 (g2 (53 + 4 * k)) (nI (g2 (54 + 4 * k)))) (55 + 4 * k)) + 1) from nI_add _ _]
              refine cq_putN F (C := RX4) (T := TX4) (N := 4) (ci := 5) (hb.rule _ hj_51).kind rfl ⟨⟨by decide, by decide⟩, rfl⟩ inX4 tyX4 tyX4_ok nmX4 3 (by decide) rfl rfl (cq_nfw F.2.2.2.2 (List.mem_of_getElem? (l := cq_nf) (i := 28) rfl)) rfl (by rfl) (by rfl) dX5_giveSignal_110 (fun M_110 h_110 => ?_)
              have s110 := h_100.1.timesLit hkG (r := k) (by omega) h_110
              refine cq_iinc F dX5_giveSignal_113 rfl (by decide) (fun x_113 e_113 => ?_)
              obtain rfl : x_113 = nI (k + 1) := by rw [e_113]; exact nI_1 _
              refine cq_goto F (tgt := 38) dX5_giveSignal_116 (by decide) ?_
              refine cq_loc (L2 := [(0, .ref b), (1, .int (nI c)), (2, .int (nI (k + 1)))]) rfl ?_
              exact ih_38 (k + 1) M_110 _ (by omega) s110.1 ((hf2.trans h_100.2).trans s110.2) (by rw [ns_rules, ← he2]; unfold ns_rule1; first | exact (if_neg (fun z => c_58 z.1)).symm | exact (if_neg (fun z => c_88 (by have z2 := z.2; rw [← ns_x_eq hru.2.2] at z2; exact z2))).symm | (rw [if_pos (show g2 (52 + 4 * k) = c ∧ ns_canLight g2 (g2 (53 + 4 * k)) (ns_x g2 k) from ⟨c_58, by rw [← ns_x_eq hru.2.2]; exact c_88⟩), ns_x_eq hru.2.2])) (by omega)
  refine cq_aload_n F (i := 0) dX5_giveSignal_0 rfl rfl ?_
  refine cq_dup F dX5_giveSignal_1 rfl ?_
  refine cq_getI F (C := RX5) (T := TX5) (N := 11) (ci := 6) hb.kind rfl ⟨⟨by decide, by decide⟩, rfl⟩ inX5 6 (by decide) rfl rfl (F.1.2.2.2.2 _ (List.mem_of_getElem? (l := wsX5_giveSignal) (i := 1) (a := .fieldLink RX5 52 "CordClock$State" "signals" "I") (by decide +kernel))) dX5_giveSignal_2 ?_
  rw [show M b 6 = nI (g 1) from (show M b 6 = nI (g 1) from hs.1.2.2.2.1)]
  refine cq_iconst F (v := 1) dX5_giveSignal_5 rfl ?_
  refine cq_iadd F dX5_giveSignal_6 ?_
  rw [show (nI (g 1) + 1 : Int32) = nI ((g 1) + 1) from nI_add _ _]
  refine cq_put F (C := RX5) (T := TX5) (N := 11) (ci := 6) hb.kind rfl ⟨⟨by decide, by decide⟩, rfl⟩ inX5 tyX5 tyX5_ok nmX5 6 (by decide) rfl rfl (F.1.2.2.2.2 _ (List.mem_of_getElem? (l := wsX5_giveSignal) (i := 1) (a := .fieldLink RX5 52 "CordClock$State" "signals" "I") (by decide +kernel))) rfl (by rfl) (by rfl) dX5_giveSignal_7 (fun M_7 h_7 => ?_)
  have s7 := hs.set (gi := 1) hk (by decide) h_7
  refine cq_aload_n F (i := 0) dX5_giveSignal_10 rfl rfl ?_
  refine cq_getT (t := (b + 1)) F (C := RX5) (T := TX5) (N := 11) (ci := 6) hb.kind rfl ⟨⟨by decide, by decide⟩, rfl⟩ inX5 0 (by decide) rfl rfl hb.t0 (F.1.2.2.2.2 _ (List.mem_of_getElem? (l := wsX5_giveSignal) (i := 2) (a := .fieldLink RX5 11 "CordClock$State" "cords" "[LCordClock$Cord;") (by decide +kernel))) dX5_giveSignal_11 ?_
  refine cq_iload_n F (i := 1) dX5_giveSignal_14 rfl rfl ?_
  have hj_15 : c < 4 := (by omega)
  refine cq_aaldC_j F (j := c) (t := (b + 7 + 2 * c)) hb.k1 hb.n1 rfl ⟨hj_15, by decide⟩ (hb.ct _ hj_15) dX5_giveSignal_15 ?_
  refine cq_aload_n F (i := 0) dX5_giveSignal_16 rfl rfl ?_
  refine cq_getI F (C := RX5) (T := TX5) (N := 11) (ci := 6) hb.kind rfl ⟨⟨by decide, by decide⟩, rfl⟩ inX5 5 (by decide) rfl rfl (F.1.2.2.2.2 _ (List.mem_of_getElem? (l := wsX5_giveSignal) (i := 3) (a := .fieldLink RX5 49 "CordClock$State" "step" "I") (by decide +kernel))) dX5_giveSignal_17 ?_
  rw [show M_7 b 5 = nI ((ns_up g 1 (g 1 + 1)) 0) from (show M_7 b 5 = nI ((ns_up g 1 (g 1 + 1)) 0) from s7.1.1.2.2.1)]
  refine cq_putN F (C := RX1) (T := TX1) (N := 8) (ci := 2) (hb.cord _ hj_15).kind rfl ⟨⟨by decide, by decide⟩, rfl⟩ inX1 tyX1 tyX1_ok nmX1 7 (by decide) rfl rfl (cq_nfw F.2.2.2.2 (List.mem_of_getElem? (l := cq_nf) (i := 29) rfl)) rfl (by rfl) (by rfl) dX5_giveSignal_20 (fun M_20 h_20 => ?_)
  have s20 := s7.1.lastOut hk7 (c := c) (by rw [ns_up_n (by omega)]; exact hc) h_20
  refine cq_aload_n F (i := 0) dX5_giveSignal_23 rfl rfl ?_
  refine cq_getT (t := (b + 3)) F (C := RX5) (T := TX5) (N := 11) (ci := 6) hb.kind rfl ⟨⟨by decide, by decide⟩, rfl⟩ inX5 4 (by decide) rfl rfl hb.t4 (F.1.2.2.2.2 _ (List.mem_of_getElem? (l := wsX5_giveSignal) (i := 4) (a := .fieldLink RX5 26 "CordClock$State" "book" "LCordClock$Book;") (by decide +kernel))) dX5_giveSignal_24 ?_
  refine cq_iconst F (v := 2) dX5_giveSignal_27 rfl ?_
  refine cq_aload_n F (i := 0) dX5_giveSignal_28 rfl rfl ?_
  refine cq_getI F (C := RX5) (T := TX5) (N := 11) (ci := 6) hb.kind rfl ⟨⟨by decide, by decide⟩, rfl⟩ inX5 5 (by decide) rfl rfl (F.1.2.2.2.2 _ (List.mem_of_getElem? (l := wsX5_giveSignal) (i := 3) (a := .fieldLink RX5 49 "CordClock$State" "step" "I") (by decide +kernel))) dX5_giveSignal_29 ?_
  rw [show M_20 b 5 = nI ((ns_up (ns_up g 1 (g 1 + 1)) (17 + 11 * c) ((ns_up g 1 (g 1 + 1)) 0)) 0) from (show M_20 b 5 = nI ((ns_up (ns_up g 1 (g 1 + 1)) (17 + 11 * c) ((ns_up g 1 (g 1 + 1)) 0)) 0) from s20.1.1.2.2.1)]
  refine cq_iload_n F (i := 1) dX5_giveSignal_32 rfl rfl ?_
  refine cq_callV F (C := RX0) (ci := 1) (kX0_write l D cA X Bs (b + 3) 2 c (ns_up (ns_up g 1 (g 1 + 1)) (17 + 11 * c) ((ns_up g 1 (g 1 + 1)) 0)) M_20 hb.book s20.1.2.2.2.1 hk20.2.2.1) (cwV 3 F.1.2.2.2.2 gX5_giveSignal_X0_write rfl rfl rfl hdVX0_write ⟨Nat.le_of_ble_eq_true rfl, Nat.le_of_ble_eq_true rfl⟩) hb.book.kind ⟨by decide, by decide⟩ rfl rfl rfl (Nat.le_of_ble_eq_true rfl) dX5_giveSignal_33 ⟨Nat.le_of_ble_eq_true rfl, Nat.le_of_ble_eq_true rfl⟩ (cq_kV fun M_33 h_33 => ?_)
  have s33 := s20.1.book hk20 h_33.2 h_33.1 (fun k hk9 => (ns_write_n (Or.inl hk9)).symm)
  rw [e33] at s33
  have f33 : cr_fr M M_33 b 23 := (s7.2.trans s20.2).trans (h_33.2.wide (by omega) (by omega))
  refine cq_iconst F (v := 0) dX5_giveSignal_36 rfl ?_
  refine cq_istore_n F (i := 2) dX5_giveSignal_37 rfl (by decide) ?_
  refine cq_loc (L2 := [(0, .ref b), (1, .int (nI c)), (2, .int (nI 0))]) rfl ?_
  exact loop_38 (g 51 + 1) 0 M_33 _ (by omega) s33 f33 rfl (by omega)
theorem hdVX5_giveSignal : yX5_giveSignal.cls = RX5 ∧ yX5_giveSignal.cls ≠ "java/lang/invoke/MethodHandle" ∧ yX5_giveSignal.cls ≠ "java/lang/invoke/VarHandle" ∧ (parseMethodDescriptor yX5_giveSignal.desc).map (fun d => d.parameters.length) = some 1 := by decide +kernel
abbrev rmX5_passStep : Room := ({ frames := 3, cells := 0, slots := 0, locals := 68 })
set_option maxHeartbeats 4000000 in
set_option maxRecDepth 100000 in
theorem kX5_passStep (l : Launch) (D : va_G) (cA : Nat → ClassId) (X : cq_X) (Bs : Nat) (b B : Nat) (g : Nat → Nat) (M : cq_M) (hb : cq_isState X b) (hs : cr_st M b g) (hk : ns_ok g B) (hB : B < 2000000000) : cq_C l yX5_passStep wsX5_passStep rmX5_passStep D cA X Bs [.ref b] M (cq_PI (fun r M1 => r = nI (ns_sigs g) ∧ cr_st M1 b (ns_step g) ∧ cr_fr M M1 b 23)) 0 0 := by
  refine cq_met (cc := cX5_passStep) (maxL := 3) (ret := (some .int)) (by decide) rfl (Nat.le_of_ble_eq_true rfl) [(0, .ref b)] rfl rfl ?_
  intro p9 e9 s9 m9 b9 t9 c9 F hr
  have inX5 : ∀ w ∈ wsX50, w ∈ wsX5_passStep := (fun w h => List.mem_cons_of_mem _ (List.mem_append_left _ (List.mem_append_left _ (List.mem_append_left _ (List.mem_append_right _ h)))))
  have hk6 := hk.1
  have h3 := ns_s3_ok hk
  obtain ⟨z3, z4, z5, zn⟩ := ns_s3_at g
  have z6 := zn 6 (by omega) (by omega) (by omega)
  have z0 := zn 0 (by omega) (by omega) (by omega)
  obtain ⟨hkA, hA2, hA3⟩ := ns_bA_ok h3 (g 6) (by omega)
  have hA0 := hA2 0 (by intros; omega)
  have h4 := ns_s4_ok hk
  obtain ⟨hA1, hA5, hA4⟩ := ns_bA_ok h4 (g 6) (by rw [show ns_s4 g 6 = g 6 from ns_up_n (by omega) |>.trans z6]; omega)
  have hA6 := hA5 6 (by intros; omega)
  have e46 : ns_s4 g 6 = g 6 := (ns_up_n (by omega)).trans z6
  have e16 : ns_up (ns_bA (ns_s3 g) (g 6)) 0 (ns_bA (ns_s3 g) (g 6) 0 + 1) = (ns_bA (ns_s4 g) (g 6)) := by rw [hA0, z0]; exact (ns_bA_0 (g := ns_s3 g) (v := g 0 + 1) (g 6)).symm
  have eS : ns_bS (ns_s3 g) (g 6) = (ns_bS (ns_s4 g) (g 6)) := (ns_bS_0 (g := ns_s3 g) (v := g 0 + 1) (g 6)).symm
  have hp4 : (2 : Nat) ^ g 6 ≤ 16 := Nat.le_trans (Nat.pow_le_pow_right (by omega) hk6) (by decide)
  have hT := hk.2.2.2.2.2.2
  have loop_21 : ∀ (n_21 : Nat) (k : Nat) (M3 : cq_M) (g3 : Nat → Nat), k ≤ g 6 → cr_st M3 b g3 → cr_fr M M3 b 23 → g3 = ns_sA (ns_bA (ns_s4 g) (g 6)) (ns_bS (ns_s4 g) (g 6)) k → g 6 - k < n_21 → cq_V p9 l e9 rmX5_passStep s9 m9 ([.ref b] : List Value).toArray b9 t9 c9 D cA X Bs 3 0 0 (MQ b9 (cq_Q D cA X Bs (cq_PI (fun r M1 => r = nI (ns_sigs g) ∧ cr_st M1 b (ns_step g) ∧ cr_fr M M1 b 23))) ([.ref b] : List Value).toArray s9 0 0 (cq_A Bs)) 21 [(0, .ref b), (1, .int (nI (ns_bS (ns_s4 g) (g 6)))), (2, .int (nI k))] [] M3 := by
    intro n_21
    induction n_21 with
    | zero =>
      intros
      omega
    | succ n_21 ih_21 =>
      intro k M3 g3 hk1 hs3 hf3 he3 hn
      obtain ⟨hS1, hS2, hS3, hS4⟩ := ns_sA_ok (S := (ns_bS (ns_s4 g) (g 6))) hA1 k (by omega)
      rw [← he3] at hS1 hS2 hS3 hS4
      have hb6 := hS1.1
      refine cq_iload_n F (i := 2) dX5_passStep_21 rfl rfl ?_
      refine cq_aload_n F (i := 0) dX5_passStep_22 rfl rfl ?_
      refine cq_getI F (C := RX5) (T := TX5) (N := 11) (ci := 6) hb.kind rfl ⟨⟨by decide, by decide⟩, rfl⟩ inX5 1 (by decide) rfl rfl (F.1.2.2.2.2 _ (List.mem_of_getElem? (l := wsX5_passStep) (i := 2) (a := .fieldLink RX5 36 "CordClock$State" "cordCount" "I") (by decide +kernel))) dX5_passStep_23 ?_
      rw [show M3 b 1 = nI (g3 6) from (show M3 b 1 = nI (g3 6) from hs3.1.1)]
      refine cq_icmp_ge F (tgt := 48) dX5_passStep_26 (by decide) (fun c_26 => ?_) (fun c_26 => ?_)
      · have c_26 : (g3 6) ≤ k := (nI_b (a := (g3 6)) (b := k) (by omega) (by omega)).1.mp c_26
        refine cq_iload_n F (i := 1) dX5_passStep_48 rfl rfl ?_
        refine cq_callS F (kJ6_bitCount_0f7a4 l D cA X Bs (ns_bS (ns_s4 g) (g 6)) (g 6) M3 hk6 (by omega)) (va_cwS 1 F.1.2.2.2.2 gX5_passStep_J6_bitCount_0f7a4 rfl rfl rfl hdVJ6_bitCount_0f7a4.2 ⟨Nat.le_of_ble_eq_true rfl, Nat.le_of_ble_eq_true rfl⟩) rfl (Nat.le_of_ble_eq_true rfl) dX5_passStep_49 ⟨Nat.le_of_ble_eq_true rfl, Nat.le_of_ble_eq_true rfl⟩ (cq_kIp fun r_49 h_49 => ?_)
        subst h_49
        refine cq_iret F hr (by decide) (by decide) dX5_passStep_52 ⟨_, rfl, ?_⟩
        obtain rfl : k = g 6 := by omega
        rw [he3] at hs3
        exact ⟨rfl, hs3, hf3⟩
      · have c_26 : ¬ (g3 6) ≤ k := fun z => c_26 ((nI_b (a := (g3 6)) (b := k) (by omega) (by omega)).1.mpr z)
        refine cq_iload_n F (i := 1) dX5_passStep_29 rfl rfl ?_
        refine cq_iload_n F (i := 2) dX5_passStep_30 rfl rfl ?_
        refine cq_ishr F dX5_passStep_31 ?_
        refine cq_iconst F (v := 1) dX5_passStep_32 rfl ?_
        refine cq_iand F dX5_passStep_33 ?_
        rw [(nI_set k (by omega) (ns_bS (ns_s4 g) (g 6)) (by omega)).2]
        refine cq_if_eq F (tgt := 42) dX5_passStep_34 (by decide) (fun c_34 => ?_) (fun c_34 => ?_)
        · have c_34 : ((ns_bS (ns_s4 g) (g 6)) / 2 ^ k % 2) = 0 := (nI_b (a := ((ns_bS (ns_s4 g) (g 6)) / 2 ^ k % 2)) (b := 0) (by omega) (by omega)).2.2.mp c_34
          refine cq_iinc F dX5_passStep_42 rfl (by decide) (fun x_42 e_42 => ?_)
          obtain rfl : x_42 = nI (k + 1) := by rw [e_42]; exact nI_1 _
          refine cq_goto F (tgt := 21) dX5_passStep_45 (by decide) ?_
          refine cq_loc (L2 := [(0, .ref b), (1, .int (nI (ns_bS (ns_s4 g) (g 6)))), (2, .int (nI (k + 1)))]) rfl ?_
          exact ih_21 (k + 1) M3 _ (by omega) hs3 hf3 (by rw [ns_sA, ← he3]; first | exact (if_neg (by omega)).symm | exact (if_pos (by omega)).symm) (by omega)
        · have c_34 : ¬ ((ns_bS (ns_s4 g) (g 6)) / 2 ^ k % 2) = 0 := fun z => c_34 ((nI_b (a := ((ns_bS (ns_s4 g) (g 6)) / 2 ^ k % 2)) (b := 0) (by omega) (by omega)).2.2.mpr z)
          refine cq_aload_n F (i := 0) dX5_passStep_37 rfl rfl ?_
          refine cq_iload_n F (i := 2) dX5_passStep_38 rfl rfl ?_
          refine cq_callV F (C := RX5) (ci := 6) (kX5_giveSignal l D cA X Bs b (B + 1) k g3 M3 hb hs3 hS1 (by omega)) (cwV 1 F.1.2.2.2.2 gX5_passStep_X5_giveSignal rfl rfl rfl hdVX5_giveSignal ⟨Nat.le_of_ble_eq_true rfl, Nat.le_of_ble_eq_true rfl⟩) hb.kind ⟨by decide, by decide⟩ rfl rfl rfl (Nat.le_of_ble_eq_true rfl) dX5_passStep_39 ⟨Nat.le_of_ble_eq_true rfl, Nat.le_of_ble_eq_true rfl⟩ (cq_kV fun M_39 h_39 => ?_)
          refine cq_iinc F dX5_passStep_42 rfl (by decide) (fun x_42 e_42 => ?_)
          obtain rfl : x_42 = nI (k + 1) := by rw [e_42]; exact nI_1 _
          refine cq_goto F (tgt := 21) dX5_passStep_45 (by decide) ?_
          refine cq_loc (L2 := [(0, .ref b), (1, .int (nI (ns_bS (ns_s4 g) (g 6)))), (2, .int (nI (k + 1)))]) rfl ?_
          exact ih_21 (k + 1) M_39 _ (by omega) h_39.1 (hf3.trans h_39.2) (by rw [ns_sA, ← he3]; first | exact (if_neg (by omega)).symm | exact (if_pos (by omega)).symm) (by omega)
  refine cq_aload_n F (i := 0) dX5_passStep_0 rfl rfl ?_
  refine cq_callV F (C := RX5) (ci := 6) (kX5_noteSmoke l D cA X Bs b B g M hb hs hk hB) (cwV 0 F.1.2.2.2.2 gX5_passStep_X5_noteSmoke rfl rfl rfl hdVX5_noteSmoke ⟨Nat.le_of_ble_eq_true rfl, Nat.le_of_ble_eq_true rfl⟩) hb.kind ⟨by decide, by decide⟩ rfl rfl rfl (Nat.le_of_ble_eq_true rfl) dX5_passStep_1 ⟨Nat.le_of_ble_eq_true rfl, Nat.le_of_ble_eq_true rfl⟩ (cq_kV fun M_1 h_1 => ?_)
  refine cq_aload_n F (i := 0) dX5_passStep_4 rfl rfl ?_
  refine cq_callV F (C := RX5) (ci := 6) (kX5_burnCords l D cA X Bs b (B + 1) (ns_s3 g) M_1 hb h_1.1 h3) (cwV 0 F.1.2.2.2.2 gX5_passStep_X5_burnCords rfl rfl rfl hdVX5_burnCords ⟨Nat.le_of_ble_eq_true rfl, Nat.le_of_ble_eq_true rfl⟩) hb.kind ⟨by decide, by decide⟩ rfl rfl rfl (Nat.le_of_ble_eq_true rfl) dX5_passStep_5 ⟨Nat.le_of_ble_eq_true rfl, Nat.le_of_ble_eq_true rfl⟩ (cq_kI fun r_5 M_5 h_5 => ?_)
  obtain ⟨hr_5, s5, f5⟩ := h_5
  rw [z6] at hr_5 s5
  subst hr_5
  refine cq_istore_n F (i := 1) dX5_passStep_8 rfl (by decide) ?_
  refine cq_aload_n F (i := 0) dX5_passStep_9 rfl rfl ?_
  refine cq_dup F dX5_passStep_10 rfl ?_
  refine cq_getI F (C := RX5) (T := TX5) (N := 11) (ci := 6) hb.kind rfl ⟨⟨by decide, by decide⟩, rfl⟩ inX5 5 (by decide) rfl rfl (F.1.2.2.2.2 _ (List.mem_of_getElem? (l := wsX5_passStep) (i := 1) (a := .fieldLink RX5 49 "CordClock$State" "step" "I") (by decide +kernel))) dX5_passStep_11 ?_
  rw [show M_5 b 5 = nI ((ns_bA (ns_s3 g) (g 6)) 0) from (show M_5 b 5 = nI ((ns_bA (ns_s3 g) (g 6)) 0) from s5.1.2.2.1)]
  refine cq_iconst F (v := 1) dX5_passStep_14 rfl ?_
  refine cq_iadd F dX5_passStep_15 ?_
  rw [show (nI ((ns_bA (ns_s3 g) (g 6)) 0) + 1 : Int32) = nI (((ns_bA (ns_s3 g) (g 6)) 0) + 1) from nI_add _ _]
  refine cq_put F (C := RX5) (T := TX5) (N := 11) (ci := 6) hb.kind rfl ⟨⟨by decide, by decide⟩, rfl⟩ inX5 tyX5 tyX5_ok nmX5 5 (by decide) rfl rfl (F.1.2.2.2.2 _ (List.mem_of_getElem? (l := wsX5_passStep) (i := 1) (a := .fieldLink RX5 49 "CordClock$State" "step" "I") (by decide +kernel))) rfl (by rfl) (by rfl) dX5_passStep_16 (fun M_16 h_16 => ?_)
  have s16 := s5.set (gi := 0) hkA (by decide) h_16
  rw [e16] at s16
  rw [eS]
  refine cq_iconst F (v := 0) dX5_passStep_19 rfl ?_
  refine cq_istore_n F (i := 2) dX5_passStep_20 rfl (by decide) ?_
  refine cq_loc (L2 := [(0, .ref b), (1, .int (nI (ns_bS (ns_s4 g) (g 6)))), (2, .int (nI 0))]) rfl ?_
  exact loop_21 (g 6 + 1) 0 M_16 _ (by omega) s16.1 ((h_1.2.trans f5).trans s16.2) rfl (by omega)
theorem hdVX5_passStep : yX5_passStep.cls = RX5 ∧ yX5_passStep.cls ≠ "java/lang/invoke/MethodHandle" ∧ yX5_passStep.cls ≠ "java/lang/invoke/VarHandle" ∧ (parseMethodDescriptor yX5_passStep.desc).map (fun d => d.parameters.length) = some 0 := by decide +kernel
abbrev rmX5_passSteps : Room := ({ frames := 4, cells := 0, slots := 0, locals := 90 })
set_option maxHeartbeats 4000000 in
set_option maxRecDepth 100000 in
theorem kX5_passSteps (l : Launch) (D : va_G) (cA : Nat → ClassId) (X : cq_X) (Bs : Nat) (b n B : Nat) (g : Nat → Nat) (M : cq_M) (hb : cq_isState X b) (hs : cr_st M b g) (hk : ns_ok g B) (hn9 : n ≤ 2000) (hB : B < 1999990000) : cq_C l yX5_passSteps wsX5_passSteps rmX5_passSteps D cA X Bs [.ref b, .int (nI n)] M (cq_PI (fun r M1 => r = nI (ns_sigsN g n) ∧ cr_st M1 b (ns_steps g n) ∧ cr_fr M M1 b 23)) 0 0 := by
  refine cq_met (cc := cX5_passSteps) (maxL := 4) (ret := (some .int)) (by decide) rfl (Nat.le_of_ble_eq_true rfl) [(0, .ref b), (1, .int (nI n))] rfl rfl ?_
  intro p9 e9 s9 m9 b9 t9 c9 F hr
  have loop_4 : ∀ (n_4 : Nat) (k : Nat) (M2 : cq_M) (g2 : Nat → Nat), k ≤ n → cr_st M2 b g2 → cr_fr M M2 b 23 → g2 = ns_steps g k → n - k < n_4 → cq_V p9 l e9 rmX5_passSteps s9 m9 ([.ref b, .int (nI n)] : List Value).toArray b9 t9 c9 D cA X Bs 4 0 0 (MQ b9 (cq_Q D cA X Bs (cq_PI (fun r M1 => r = nI (ns_sigsN g n) ∧ cr_st M1 b (ns_steps g n) ∧ cr_fr M M1 b 23))) ([.ref b, .int (nI n)] : List Value).toArray s9 0 0 (cq_A Bs)) 4 [(0, .ref b), (1, .int (nI n)), (2, .int (nI (ns_sigsN g k))), (3, .int (nI k))] [] M2 := by
    intro n_4
    induction n_4 with
    | zero =>
      intros
      omega
    | succ n_4 ih_4 =>
      intro k M2 g2 hk1 hs2 hf2 he2 hn
      obtain ⟨hs1, hx2, hx3, hx4⟩ := ns_steps_ok hk k
      rw [← he2] at hs1
      refine cq_iload_n F (i := 3) dX5_passSteps_4 rfl rfl ?_
      refine cq_iload_n F (i := 1) dX5_passSteps_5 rfl rfl ?_
      refine cq_icmp_ge F (tgt := 22) dX5_passSteps_6 (by decide) (fun c_6 => ?_) (fun c_6 => ?_)
      · have c_6 : n ≤ k := (nI_b (a := n) (b := k) (by omega) (by omega)).1.mp c_6
        refine cq_iload_n F (i := 2) dX5_passSteps_22 rfl rfl ?_
        refine cq_iret F hr (by decide) (by decide) dX5_passSteps_23 ⟨_, rfl, ?_⟩
        obtain rfl : k = n := by omega
        rw [he2] at hs2
        exact ⟨rfl, hs2, hf2⟩
      · have c_6 : ¬ n ≤ k := fun z => c_6 ((nI_b (a := n) (b := k) (by omega) (by omega)).1.mpr z)
        refine cq_iload_n F (i := 2) dX5_passSteps_9 rfl rfl ?_
        refine cq_aload_n F (i := 0) dX5_passSteps_10 rfl rfl ?_
        refine cq_callV F (C := RX5) (ci := 6) (kX5_passStep l D cA X Bs b (B + k) g2 M2 hb hs2 hs1 (by omega)) (cwV 0 F.1.2.2.2.2 gX5_passSteps_X5_passStep rfl rfl rfl hdVX5_passStep ⟨Nat.le_of_ble_eq_true rfl, Nat.le_of_ble_eq_true rfl⟩) hb.kind ⟨by decide, by decide⟩ rfl rfl rfl (Nat.le_of_ble_eq_true rfl) dX5_passSteps_11 ⟨Nat.le_of_ble_eq_true rfl, Nat.le_of_ble_eq_true rfl⟩ (cq_kI fun r_11 M_11 h_11 => ?_)
        obtain ⟨hr_11, s11, f11⟩ := h_11
        subst hr_11
        refine cq_iadd F dX5_passSteps_14 ?_
        rw [show (nI (ns_sigsN g k) + nI (ns_sigs g2) : Int32) = nI ((ns_sigsN g k) + (ns_sigs g2)) from nI_add _ _]
        refine cq_istore_n F (i := 2) dX5_passSteps_15 rfl (by decide) ?_
        rw [show ns_sigsN g k + ns_sigs g2 = ns_sigsN g (k + 1) from by rw [ns_sigsN, ← he2]]
        refine cq_iinc F dX5_passSteps_16 rfl (by decide) (fun x_16 e_16 => ?_)
        obtain rfl : x_16 = nI (k + 1) := by rw [e_16]; exact nI_1 _
        refine cq_goto F (tgt := 4) dX5_passSteps_19 (by decide) ?_
        refine cq_loc (L2 := [(0, .ref b), (1, .int (nI n)), (2, .int (nI (ns_sigsN g (k + 1)))), (3, .int (nI (k + 1)))]) rfl ?_
        exact ih_4 (k + 1) M_11 _ (by omega) s11 (hf2.trans f11) (by rw [ns_steps, ← he2]) (by omega)
  refine cq_iconst F (v := 0) dX5_passSteps_0 rfl ?_
  refine cq_istore_n F (i := 2) dX5_passSteps_1 rfl (by decide) ?_
  refine cq_iconst F (v := 0) dX5_passSteps_2 rfl ?_
  refine cq_istore_n F (i := 3) dX5_passSteps_3 rfl (by decide) ?_
  refine cq_loc (L2 := [(0, .ref b), (1, .int (nI n)), (2, .int (nI (ns_sigsN g 0))), (3, .int (nI 0))]) rfl ?_
  exact loop_4 (n + 1) 0 M g (by omega) hs cr_fr.rf rfl (by omega)
theorem hdVX5_passSteps : yX5_passSteps.cls = RX5 ∧ yX5_passSteps.cls ≠ "java/lang/invoke/MethodHandle" ∧ yX5_passSteps.cls ≠ "java/lang/invoke/VarHandle" ∧ (parseMethodDescriptor yX5_passSteps.desc).map (fun d => d.parameters.length) = some 1 := by decide +kernel
