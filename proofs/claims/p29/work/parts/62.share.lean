/-! the share, on both sides -/
abbrev rmX6_burned : Room := ({ frames := 1, cells := 0, slots := 0, locals := 20 })
set_option maxHeartbeats 4000000 in
set_option maxRecDepth 100000 in
theorem kX6_burned (l : Launch) (D : va_G) (cA : Nat → ClassId) (X : cq_X) (Bs : Nat) (b B : Nat) (S : as_T) (M : cq_M) (hb : cq_isClock X b) (h : ck M b S) (hk : as_ok S B) : cq_C l yX6_burned wsX6_burned rmX6_burned D cA X Bs [.ref b] M (cq_PF (fun r M1 => r = ns_share (S_g S) ∧ M1 = M)) 0 0 := by
  refine cq_met (cc := cX6_burned) (maxL := 4) (ret := (some .float)) (by decide) rfl (Nat.le_of_ble_eq_true rfl) [(0, .ref b)] rfl rfl ?_
  intro p9 e9 s9 m9 b9 t9 c9 F hr
  have inX1 : ∀ w ∈ wsX10, w ∈ wsX6_burned := (fun w h => List.mem_cons_of_mem _ (List.mem_append_right _ h))
  have inX5 : ∀ w ∈ wsX50, w ∈ wsX6_burned := (fun w h => List.mem_cons_of_mem _ (List.mem_append_left _ (List.mem_append_right _ h)))
  have inX6 : ∀ w ∈ wsX60, w ∈ wsX6_burned := (fun w h => List.mem_cons_of_mem _ (List.mem_append_left _ (List.mem_append_left _ (List.mem_append_right _ h))))
  have hk6 := hk.1.1
  have loop_6 : ∀ (n_6 : Nat) (k : Nat), k ≤ S_g S 6 → S_g S 6 - k < n_6 → cq_V p9 l e9 rmX6_burned s9 m9 ([.ref b] : List Value).toArray b9 t9 c9 D cA X Bs 4 0 0 (MQ b9 (cq_Q D cA X Bs (cq_PF (fun r M1 => r = ns_share (S_g S) ∧ M1 = M))) ([.ref b] : List Value).toArray s9 0 0 (cq_A Bs)) 6 [(0, .ref b), (1, .int (nI (ns_bsum (S_g S) k))), (2, .int (nI (ns_tsum (S_g S) k))), (3, .int (nI k))] [] M := by
    intro n_6
    induction n_6 with
    | zero =>
      intros
      omega
    | succ n_6 ih_6 =>
      intro k hk1 hn
      refine cq_iload_n F (i := 3) dX6_burned_6 rfl rfl ?_
      refine cq_aload_n F (i := 0) dX6_burned_7 rfl rfl ?_
      refine cq_getT (t := (b + 1)) F (C := RX6) (T := TX6) (N := 9) (ci := 7) hb.kind rfl ⟨⟨by decide, by decide⟩, rfl⟩ inX6 0 (by decide) rfl rfl hb.t0 (F.1.2.2.2.2 _ (List.mem_of_getElem? (l := wsX6_burned) (i := 1) (a := .fieldLink RX6 10 "CordClock" "now" "LCordClock$State;") (by decide +kernel))) dX6_burned_8 ?_
      refine cq_getIN F (C := RX5) (T := TX5) (N := 11) (ci := 6) hb.now.kind rfl ⟨⟨by decide, by decide⟩, rfl⟩ inX5 1 (by decide) rfl rfl (cq_nfw F.2.2.2.2 (List.mem_of_getElem? (l := cq_nf) (i := 0) rfl)) dX6_burned_11 ?_
      rw [show M (b + 1) 1 = nI ((S_g S) 6) from (show M (b + 1) 1 = nI ((S_g S) 6) from h.1.1.1)]
      refine cq_icmp_ge F (tgt := 53) dX6_burned_14 (by decide) (fun c_14 => ?_) (fun c_14 => ?_)
      · have c_14 : ((S_g S) 6) ≤ k := (nI_b (a := ((S_g S) 6)) (b := k) (by omega) (by omega)).1.mp c_14
        obtain rfl : k = S_g S 6 := by omega
        have hsm := ns_sums (fun c hc => hk.1.2.2.2.1 c hc)
        refine cq_iload_n F (i := 2) dX6_burned_53 rfl rfl ?_
        refine cq_if_le F (tgt := 65) dX6_burned_54 (by decide) (fun c_54 => ?_) (fun c_54 => ?_)
        · have c_54 : (ns_tsum (S_g S) (S_g S 6)) ≤ 0 := (nI_b (a := (ns_tsum (S_g S) (S_g S 6))) (b := 0) (by omega) (by omega)).1.mp c_54
          refine cq_fconst0 F dX6_burned_65 ?_
          exact cq_fret F hr (by decide) (by decide) dX6_burned_66 ⟨_, rfl, ⟨by unfold ns_share; first | exact (if_pos (by omega)).symm | exact (if_neg (by omega)).symm, rfl⟩⟩
        · have c_54 : ¬ (ns_tsum (S_g S) (S_g S 6)) ≤ 0 := fun z => c_54 ((nI_b (a := (ns_tsum (S_g S) (S_g S 6))) (b := 0) (by omega) (by omega)).1.mpr z)
          refine cq_iload_n F (i := 1) dX6_burned_57 rfl rfl ?_
          refine cq_i2f F dX6_burned_58 ?_
          refine cq_iload_n F (i := 2) dX6_burned_59 rfl rfl ?_
          refine cq_i2f F dX6_burned_60 ?_
          refine cq_fdiv F dX6_burned_61 (ns_share_n hk.1 (by omega)) ?_
          refine cq_goto F (tgt := 66) dX6_burned_62 (by decide) ?_
          exact cq_fret F hr (by decide) (by decide) dX6_burned_66 ⟨_, rfl, ⟨by unfold ns_share; first | exact (if_pos (by omega)).symm | exact (if_neg (by omega)).symm, rfl⟩⟩
      · have c_14 : ¬ ((S_g S) 6) ≤ k := fun z => c_14 ((nI_b (a := ((S_g S) 6)) (b := k) (by omega) (by omega)).1.mpr z)
        refine cq_iload_n F (i := 1) dX6_burned_17 rfl rfl ?_
        refine cq_aload_n F (i := 0) dX6_burned_18 rfl rfl ?_
        refine cq_getT (t := (b + 1)) F (C := RX6) (T := TX6) (N := 9) (ci := 7) hb.kind rfl ⟨⟨by decide, by decide⟩, rfl⟩ inX6 0 (by decide) rfl rfl hb.t0 (F.1.2.2.2.2 _ (List.mem_of_getElem? (l := wsX6_burned) (i := 1) (a := .fieldLink RX6 10 "CordClock" "now" "LCordClock$State;") (by decide +kernel))) dX6_burned_19 ?_
        refine cq_getTN (t := ((b + 1) + 1)) F (C := RX5) (T := TX5) (N := 11) (ci := 6) hb.now.kind rfl ⟨⟨by decide, by decide⟩, rfl⟩ inX5 0 (by decide) rfl rfl hb.now.t0 (cq_nfw F.2.2.2.2 (List.mem_of_getElem? (l := cq_nf) (i := 1) rfl)) dX6_burned_22 ?_
        refine cq_iload_n F (i := 3) dX6_burned_25 rfl rfl ?_
        have hj_26 : k < 4 := (by omega)
        refine cq_aaldC_j F (j := k) (t := ((b + 1) + 7 + 2 * k)) hb.now.k1 hb.now.n1 rfl ⟨hj_26, by decide⟩ (hb.now.ct _ hj_26) dX6_burned_26 ?_
        refine cq_callV F (C := RX1) (ci := 2) (nX1_burnedTime (l := l) (D := D) (cA := cA) (Bs := Bs) (hb.now.cord _ (by omega)) (h.1.2.1 k (by omega))) (cwV 0 F.1.2.2.2.2 gX6_burned_X1_burnedTime rfl rfl rfl hdVX1_burnedTime ⟨Nat.le_of_ble_eq_true rfl, Nat.le_of_ble_eq_true rfl⟩) (hb.now.cord _ hj_26).kind ⟨by decide, by decide⟩ rfl rfl rfl (Nat.le_of_ble_eq_true rfl) dX6_burned_27 ⟨Nat.le_of_ble_eq_true rfl, Nat.le_of_ble_eq_true rfl⟩ (cq_kIp fun r_27 h_27 => ?_)
        subst h_27
        refine cq_iadd F dX6_burned_30 ?_
        rw [show (nI (ns_bsum (S_g S) k) + nI (ns_burned (S_g S) k) : Int32) = nI ((ns_bsum (S_g S) k) + (ns_burned (S_g S) k)) from nI_add _ _]
        refine cq_istore_n F (i := 1) dX6_burned_31 rfl (by decide) ?_
        refine cq_iload_n F (i := 2) dX6_burned_32 rfl rfl ?_
        refine cq_aload_n F (i := 0) dX6_burned_33 rfl rfl ?_
        refine cq_getT (t := (b + 1)) F (C := RX6) (T := TX6) (N := 9) (ci := 7) hb.kind rfl ⟨⟨by decide, by decide⟩, rfl⟩ inX6 0 (by decide) rfl rfl hb.t0 (F.1.2.2.2.2 _ (List.mem_of_getElem? (l := wsX6_burned) (i := 1) (a := .fieldLink RX6 10 "CordClock" "now" "LCordClock$State;") (by decide +kernel))) dX6_burned_34 ?_
        refine cq_getTN (t := ((b + 1) + 1)) F (C := RX5) (T := TX5) (N := 11) (ci := 6) hb.now.kind rfl ⟨⟨by decide, by decide⟩, rfl⟩ inX5 0 (by decide) rfl rfl hb.now.t0 (cq_nfw F.2.2.2.2 (List.mem_of_getElem? (l := cq_nf) (i := 1) rfl)) dX6_burned_37 ?_
        refine cq_iload_n F (i := 3) dX6_burned_40 rfl rfl ?_
        have hj_41 : k < 4 := (by omega)
        refine cq_aaldC_j F (j := k) (t := ((b + 1) + 7 + 2 * k)) hb.now.k1 hb.now.n1 rfl ⟨hj_41, by decide⟩ (hb.now.ct _ hj_41) dX6_burned_41 ?_
        refine cq_getIN F (C := RX1) (T := TX1) (N := 8) (ci := 2) (hb.now.cord _ hj_41).kind rfl ⟨⟨by decide, by decide⟩, rfl⟩ inX1 2 (by decide) rfl rfl (cq_nfw F.2.2.2.2 (List.mem_of_getElem? (l := cq_nf) (i := 6) rfl)) dX6_burned_42 ?_
        rw [(h.1.2.1 k (by omega)).2.1]
        refine cq_iadd F dX6_burned_45 ?_
        rw [show (nI (ns_tsum (S_g S) k) + nI (ns_time (S_g S) k) : Int32) = nI ((ns_tsum (S_g S) k) + (ns_time (S_g S) k)) from nI_add _ _]
        refine cq_istore_n F (i := 2) dX6_burned_46 rfl (by decide) ?_
        refine cq_iinc F dX6_burned_47 rfl (by decide) (fun x_47 e_47 => ?_)
        obtain rfl : x_47 = nI (k + 1) := by rw [e_47]; exact nI_1 _
        refine cq_goto F (tgt := 6) dX6_burned_50 (by decide) ?_
        refine cq_loc (L2 := [(0, .ref b), (1, .int (nI (ns_bsum (S_g S) (k + 1)))), (2, .int (nI (ns_tsum (S_g S) (k + 1)))), (3, .int (nI (k + 1)))]) rfl ?_
        exact ih_6 (k + 1) (by omega) (by omega)
  refine cq_iconst F (v := 0) dX6_burned_0 rfl ?_
  refine cq_istore_n F (i := 1) dX6_burned_1 rfl (by decide) ?_
  refine cq_iconst F (v := 0) dX6_burned_2 rfl ?_
  refine cq_istore_n F (i := 2) dX6_burned_3 rfl (by decide) ?_
  refine cq_iconst F (v := 0) dX6_burned_4 rfl ?_
  refine cq_istore_n F (i := 3) dX6_burned_5 rfl (by decide) ?_
  refine cq_loc (L2 := [(0, .ref b), (1, .int (nI (ns_bsum (S_g S) 0))), (2, .int (nI (ns_tsum (S_g S) 0))), (3, .int (nI 0))]) rfl ?_
  exact loop_6 (S_g S 6 + 1) 0 (by omega) (by omega)
theorem hdVX6_burned : yX6_burned.cls = RX6 ∧ yX6_burned.cls ≠ "java/lang/invoke/MethodHandle" ∧ yX6_burned.cls ≠ "java/lang/invoke/VarHandle" ∧ (parseMethodDescriptor yX6_burned.desc).map (fun d => d.parameters.length) = some 0 := by decide +kernel
