/-! the class: new cords out of orders -/
theorem ad_L.of {Ms M2 : cq_M} {b n : Nat} {tm : Nat → Nat} (h : ad_R Ms M2 b n 0 0) : ad_L Ms M2 b n 0 tm := by
  obtain ⟨a1, a2, a3, a4, a5, a6, a7, a8, a9, a10⟩ := h
  exact ⟨a1, a2, a3, a4, a5, a6, a7, a8, a9, fun j hj => absurd hj (by omega)⟩
abbrev rmX6_carryOutNew : Room := ({ frames := 3, cells := 0, slots := 0, locals := 61 })
set_option maxHeartbeats 4000000 in
set_option maxRecDepth 100000 in
theorem kX6_carryOutNew (l : Launch) (D : va_G) (cA : Nat → ClassId) (X : cq_X) (Bs : Nat) (b B : Nat) (g : Nat → Nat) (n : Nat) (tm : Nat → Nat) (M : cq_M) (hb : cq_isClock X b) (hs : cr_st M (b + 1) g) (hk : ns_ok g B) (h5 : M (b + 50) 5 = nI n) (hrw : ∀ j, j < n → M (b + 52) j = nI (tm j)) (hn9 : 1 ≤ n ∧ n ≤ 6) : cq_C l yX6_carryOutNew wsX6_carryOutNew rmX6_carryOutNew D cA X Bs [.ref b] M (cq_PI (fun r M1 => r = (if g 6 < 4 then 1 else 0) ∧ (g 6 < 4 → cr_st M1 (b + 1) (ns_new g n tm) ∧ cr_fr M M1 (b + 1) 23) ∧ (¬ g 6 < 4 → M1 = M))) 0 0 := by
  refine cq_met (cc := cX6_carryOutNew) (maxL := 3) (ret := (some .boolean)) (by decide) rfl (Nat.le_of_ble_eq_true rfl) [(0, .ref b)] rfl rfl ?_
  intro p9 e9 s9 m9 b9 t9 c9 F hr
  have inX2 : ∀ w ∈ wsX20, w ∈ wsX6_carryOutNew := (fun w h => List.mem_cons_of_mem _ (List.mem_append_left _ (List.mem_append_left _ (List.mem_append_right _ h))))
  have inX6 : ∀ w ∈ wsX60, w ∈ wsX6_carryOutNew := (fun w h => List.mem_cons_of_mem _ (List.mem_append_left _ (List.mem_append_left _ (List.mem_append_left _ (List.mem_append_right _ h)))))
  have hk6 := hk.1
  have loop_22 : ∀ (n_22 : Nat) (k : Nat) (M2 : cq_M), g 6 < 4 → k ≤ n → ad_L M M2 (b + 1) (g 6) k tm → n - k < n_22 → cq_V p9 l e9 rmX6_carryOutNew s9 m9 ([.ref b] : List Value).toArray b9 t9 c9 D cA X Bs 3 0 0 (MQ b9 (cq_Q D cA X Bs (cq_PI (fun r M1 => r = (if g 6 < 4 then 1 else 0) ∧ (g 6 < 4 → cr_st M1 (b + 1) (ns_new g n tm) ∧ cr_fr M M1 (b + 1) 23) ∧ (¬ g 6 < 4 → M1 = M)))) ([.ref b] : List Value).toArray s9 0 0 (cq_A Bs)) 22 [(0, .ref b), (1, .ref (b + 1 + 7 + 2 * g 6)), (2, .int (nI k))] [] M2 := by
    intro n_22
    induction n_22 with
    | zero =>
      intros
      omega
    | succ n_22 ih_22 =>
      intro k M2 h4 hk9 hR hn
      refine cq_iload_n F (i := 2) dX6_carryOutNew_22 rfl rfl ?_
      refine cq_aload_n F (i := 0) dX6_carryOutNew_23 rfl rfl ?_
      refine cq_getT (t := (b + 50)) F (C := RX6) (T := TX6) (N := 9) (ci := 7) hb.kind rfl ⟨⟨by decide, by decide⟩, rfl⟩ inX6 7 (by decide) rfl rfl hb.t7 (F.1.2.2.2.2 _ (List.mem_of_getElem? (l := wsX6_carryOutNew) (i := 2) (a := .fieldLink RX6 33 "CordClock" "text" "LCordClock$OrderText;") (by decide +kernel))) dX6_carryOutNew_24 ?_
      refine cq_getIN F (C := RX2) (T := TX2) (N := 10) (ci := 3) hb.text.kind rfl ⟨⟨by decide, by decide⟩, rfl⟩ inX2 5 (by decide) rfl rfl (cq_nfw F.2.2.2.2 (List.mem_of_getElem? (l := cq_nf) (i := 28) rfl)) dX6_carryOutNew_27 ?_
      rw [(show M2 (b + 50) 5 = nI n by rw [hR.1 _ (by omega) (by omega) (by omega)]; exact h5)]
      refine cq_icmp_ge F (tgt := 52) dX6_carryOutNew_30 (by decide) (fun c_30 => ?_) (fun c_30 => ?_)
      · have c_30 : n ≤ k := (nI_b (a := n) (b := k) (by omega) (by omega)).1.mp c_30
        refine cq_iconst F (v := 1) dX6_carryOutNew_52 rfl ?_
        refine cq_zret F hr (by rfl) (by decide) (by decide) dX6_carryOutNew_53 ⟨_, rfl, ?_⟩
        obtain rfl : k = n := by omega
        exact ⟨(if_pos h4).symm, fun _ => hR.fin hs hk h4 hn9.1 hn9.2, fun z => absurd h4 z⟩
      · have c_30 : ¬ n ≤ k := fun z => c_30 ((nI_b (a := n) (b := k) (by omega) (by omega)).1.mpr z)
        refine cq_aload_n F (i := 1) dX6_carryOutNew_33 rfl rfl ?_
        refine cq_aload_n F (i := 0) dX6_carryOutNew_34 rfl rfl ?_
        refine cq_getT (t := (b + 50)) F (C := RX6) (T := TX6) (N := 9) (ci := 7) hb.kind rfl ⟨⟨by decide, by decide⟩, rfl⟩ inX6 7 (by decide) rfl rfl hb.t7 (F.1.2.2.2.2 _ (List.mem_of_getElem? (l := wsX6_carryOutNew) (i := 2) (a := .fieldLink RX6 33 "CordClock" "text" "LCordClock$OrderText;") (by decide +kernel))) dX6_carryOutNew_35 ?_
        refine cq_getTN (t := ((b + 50) + 2)) F (C := RX2) (T := TX2) (N := 10) (ci := 3) hb.text.kind rfl ⟨⟨by decide, by decide⟩, rfl⟩ inX2 4 (by decide) rfl rfl hb.text.t4 (cq_nfw F.2.2.2.2 (List.mem_of_getElem? (l := cq_nf) (i := 29) rfl)) dX6_carryOutNew_38 ?_
        refine cq_iload_n F (i := 2) dX6_carryOutNew_41 rfl rfl ?_
        refine cq_iald_j F (j := k) hb.text.k2 hb.text.n2 rfl ⟨(by omega), by decide⟩ dX6_carryOutNew_42 ?_
        rw [(show M2 (b + 50 + 2) k = nI (tm k) by rw [hR.1 _ (by omega) (by omega) (by omega)]; exact hrw k (by omega))]
        refine cq_callV F (C := RX1) (ci := 2) (kX1_addSegment l D cA X Bs (b + 1 + 7 + 2 * g 6) k (nI (tm k)) M2 (hb.now.cord _ (by omega)) (by omega) hR.2.2.1) (cwV 1 F.1.2.2.2.2 gX6_carryOutNew_X1_addSegment rfl rfl rfl hdVX1_addSegment ⟨Nat.le_of_ble_eq_true rfl, Nat.le_of_ble_eq_true rfl⟩) (hb.now.cord _ (by omega)).kind ⟨by decide, by decide⟩ rfl rfl rfl (Nat.le_of_ble_eq_true rfl) dX6_carryOutNew_43 ⟨Nat.le_of_ble_eq_true rfl, Nat.le_of_ble_eq_true rfl⟩ (cq_kV fun M_43 h_43 => ?_)
        refine cq_iinc F dX6_carryOutNew_46 rfl (by decide) (fun x_46 e_46 => ?_)
        obtain rfl : x_46 = nI (k + 1) := by rw [e_46]; exact nI_1 _
        refine cq_goto F (tgt := 22) dX6_carryOutNew_49 (by decide) ?_
        refine cq_loc (L2 := [(0, .ref b), (1, .ref (b + 1 + 7 + 2 * g 6)), (2, .int (nI (k + 1)))]) rfl ?_
        exact ih_22 (k + 1) M_43 h4 (by omega) (hR.next h_43) (by omega)
  refine cq_aload_n F (i := 0) dX6_carryOutNew_0 rfl rfl ?_
  refine cq_getT (t := (b + 1)) F (C := RX6) (T := TX6) (N := 9) (ci := 7) hb.kind rfl ⟨⟨by decide, by decide⟩, rfl⟩ inX6 0 (by decide) rfl rfl hb.t0 (F.1.2.2.2.2 _ (List.mem_of_getElem? (l := wsX6_carryOutNew) (i := 1) (a := .fieldLink RX6 10 "CordClock" "now" "LCordClock$State;") (by decide +kernel))) dX6_carryOutNew_1 ?_
  refine cq_callV F (C := RX5) (ci := 6) (kX5_hasRoomForCord l D cA X Bs (b + 1) B g M hb.now hs hk) (cwV 0 F.1.2.2.2.2 gX6_carryOutNew_X5_hasRoomForCord rfl rfl rfl hdVX5_hasRoomForCord ⟨Nat.le_of_ble_eq_true rfl, Nat.le_of_ble_eq_true rfl⟩) hb.now.kind ⟨by decide, by decide⟩ rfl rfl rfl (Nat.le_of_ble_eq_true rfl) dX6_carryOutNew_4 ⟨Nat.le_of_ble_eq_true rfl, Nat.le_of_ble_eq_true rfl⟩ (cq_kIp fun r_4 h_4 => ?_)
  refine cq_if_ne F (tgt := 12) dX6_carryOutNew_7 (by decide) (fun c_7 => ?_) (fun c_7 => ?_)
  · have c_7 := cq_b1 h_4 c_7
    refine cq_aload_n F (i := 0) dX6_carryOutNew_12 rfl rfl ?_
    refine cq_getT (t := (b + 1)) F (C := RX6) (T := TX6) (N := 9) (ci := 7) hb.kind rfl ⟨⟨by decide, by decide⟩, rfl⟩ inX6 0 (by decide) rfl rfl hb.t0 (F.1.2.2.2.2 _ (List.mem_of_getElem? (l := wsX6_carryOutNew) (i := 1) (a := .fieldLink RX6 10 "CordClock" "now" "LCordClock$State;") (by decide +kernel))) dX6_carryOutNew_13 ?_
    refine cq_callV F (C := RX5) (ci := 6) (kX5_addCord l D cA X Bs (b + 1) B g M hb.now hs hk c_7) (cwV 0 F.1.2.2.2.2 gX6_carryOutNew_X5_addCord rfl rfl rfl hdVX5_addCord ⟨Nat.le_of_ble_eq_true rfl, Nat.le_of_ble_eq_true rfl⟩) hb.now.kind ⟨by decide, by decide⟩ rfl rfl rfl (Nat.le_of_ble_eq_true rfl) dX6_carryOutNew_16 ⟨Nat.le_of_ble_eq_true rfl, Nat.le_of_ble_eq_true rfl⟩ (cq_kR fun a_16 M_16 h_16 => ?_)
    obtain ⟨ha_16, h_16⟩ := h_16
    subst ha_16
    refine cq_astore_n F (i := 1) dX6_carryOutNew_19 rfl (by decide) ?_
    refine cq_iconst F (v := 0) dX6_carryOutNew_20 rfl ?_
    refine cq_istore_n F (i := 2) dX6_carryOutNew_21 rfl (by decide) ?_
    refine cq_loc (L2 := [(0, .ref b), (1, .ref (b + 1 + 7 + 2 * g 6)), (2, .int (nI 0))]) rfl ?_
    exact loop_22 (n + 1) 0 M_16 c_7 (by omega) (ad_L.of (h_16 0)) (by omega)
  · have c_7 := cq_b0 h_4 c_7
    refine cq_iconst F (v := 0) dX6_carryOutNew_10 rfl ?_
    exact cq_zret F hr (by rfl) (by decide) (by decide) dX6_carryOutNew_11 ⟨_, rfl, ⟨(if_neg c_7).symm, fun z => absurd z c_7, fun _ => rfl⟩⟩
theorem hdVX6_carryOutNew : yX6_carryOutNew.cls = RX6 ∧ yX6_carryOutNew.cls ≠ "java/lang/invoke/MethodHandle" ∧ yX6_carryOutNew.cls ≠ "java/lang/invoke/VarHandle" ∧ (parseMethodDescriptor yX6_carryOutNew.desc).map (fun d => d.parameters.length) = some 0 := by decide +kernel
/-- the order that the reader holds -/
def tc_rec (M : cq_M) (b : Nat) (q : tx_O) : Prop := M (b + 50) 3 = nI q.1 ∧ (q.1 = 0 → M (b + 50) 5 = nI q.2.1 ∧ ∀ j, j < q.2.1 → M (b + 52) j = nI (q.2.2.2.2.getD j 0)) ∧ (q.1 = 1 → M (b + 50) 7 = nI q.2.1 ∧ M (b + 50) 8 = nI q.2.2.2.1) ∧ (q.1 = 2 → M (b + 50) 6 = nI q.2.1 ∧ M (b + 50) 7 = nI q.2.2.1 ∧ M (b + 50) 8 = nI q.2.2.2.1) ∧ (q.1 = 3 → M (b + 50) 9 = nI q.2.1)
abbrev rmX6_carryOut : Room := ({ frames := 5, cells := 0, slots := 0, locals := 113 })
set_option maxHeartbeats 4000000 in
set_option maxRecDepth 100000 in
theorem kX6_carryOut (l : Launch) (D : va_G) (cA : Nat → ClassId) (X : cq_X) (Bs : Nat) (b B : Nat) (g : Nat → Nat) (q : tx_O) (M : cq_M) (hb : cq_isClock X b) (hs : cr_st M (b + 1) g) (hk : ns_ok g B) (hrec : tc_rec M b q) (hq : tx_okO q) (hB : B < 1999990000) : cq_C l yX6_carryOut wsX6_carryOut rmX6_carryOut D cA X Bs [.ref b] M (cq_PI (fun r M1 => r = (if ex_can g q then 1 else 0) ∧ (ex_can g q → cr_st M1 (b + 1) (ex_do g q) ∧ cr_fr M M1 (b + 1) 23) ∧ (¬ ex_can g q → M1 = M))) 0 0 := by
  refine cq_met (cc := cX6_carryOut) (maxL := 1) (ret := (some .boolean)) (by decide) rfl (Nat.le_of_ble_eq_true rfl) [(0, .ref b)] rfl rfl ?_
  intro p9 e9 s9 m9 b9 t9 c9 F hr
  have inX2 : ∀ w ∈ wsX20, w ∈ wsX6_carryOut := (fun w h => List.mem_cons_of_mem _ (List.mem_append_left _ (List.mem_append_left _ (List.mem_append_left _ (List.mem_append_left _ (List.mem_append_right _ h))))))
  have inX6 : ∀ w ∈ wsX60, w ∈ wsX6_carryOut := (fun w h => List.mem_cons_of_mem _ (List.mem_append_left _ (List.mem_append_left _ (List.mem_append_left _ (List.mem_append_left _ (List.mem_append_left _ (List.mem_append_right _ h)))))))
  have hk4 : q.1 = 0 ∨ q.1 = 1 ∨ q.1 = 2 ∨ q.1 = 3 := by have hq2 := hq; unfold tx_okO at hq2; omega
  refine cq_aload_n F (i := 0) dX6_carryOut_0 rfl rfl ?_
  refine cq_getT (t := (b + 50)) F (C := RX6) (T := TX6) (N := 9) (ci := 7) hb.kind rfl ⟨⟨by decide, by decide⟩, rfl⟩ inX6 7 (by decide) rfl rfl hb.t7 (F.1.2.2.2.2 _ (List.mem_of_getElem? (l := wsX6_carryOut) (i := 1) (a := .fieldLink RX6 33 "CordClock" "text" "LCordClock$OrderText;") (by decide +kernel))) dX6_carryOut_1 ?_
  refine cq_getIN F (C := RX2) (T := TX2) (N := 10) (ci := 3) hb.text.kind rfl ⟨⟨by decide, by decide⟩, rfl⟩ inX2 3 (by decide) rfl rfl (cq_nfw F.2.2.2.2 (List.mem_of_getElem? (l := cq_nf) (i := 26) rfl)) dX6_carryOut_4 ?_
  rw [hrec.1]
  have sw_7 : q.1 = 0 ∨ q.1 = 1 ∨ q.1 = 2 ∨ q.1 = 3 := by omega
  rcases sw_7 with sw_7 | sw_7 | sw_7 | sw_7
  · rw [show nI (q.1) = nI 0 from by rw [sw_7]]
    refine cq_tableIn F (off := 25) (tgt := 32) dX6_carryOut_7 (by decide) (by decide) (by decide) (by decide) ?_
    have hkd : q.1 = 0 := by omega
    have hq2 := hq
    unfold tx_okO at hq2
    refine cq_aload_n F (i := 0) dX6_carryOut_32 rfl rfl ?_
    refine cq_callV F (C := RX6) (ci := 7) (kX6_carryOutNew l D cA X Bs b B g q.2.1 (fun j => q.2.2.2.2.getD j 0) M hb hs hk (hrec.2.1 hkd).1 (hrec.2.1 hkd).2 (by omega)) (cwV 0 F.1.2.2.2.2 gX6_carryOut_X6_carryOutNew rfl rfl rfl hdVX6_carryOutNew ⟨Nat.le_of_ble_eq_true rfl, Nat.le_of_ble_eq_true rfl⟩) hb.kind ⟨by decide, by decide⟩ rfl rfl rfl (Nat.le_of_ble_eq_true rfl) dX6_carryOut_33 ⟨Nat.le_of_ble_eq_true rfl, Nat.le_of_ble_eq_true rfl⟩ (cq_kI fun r_33 M_33 h_33 => ?_)
    refine cq_zret F hr (cq_zn (by rw [h_33.1]; split <;> simp)) (by decide) (by decide) dX6_carryOut_36 ⟨_, rfl, ?_⟩
    have hdo := (show ex_do g q = _ from if_pos hkd)
    have hcn : ex_can g q ↔ g 6 < 4 := by
      refine ⟨fun z => ?_, fun z => Or.inl ⟨hkd, z⟩⟩
      rcases z with z | z | z | z
      · exact z.2
      · omega
      · omega
      · omega
    rw [hdo]
    exact ⟨by rw [h_33.1]; exact cq_ifc hcn.symm, fun z => h_33.2.1 (hcn.mp z), fun z => h_33.2.2 (fun y => z (hcn.mpr y))⟩
  · rw [show nI (q.1) = nI 1 from by rw [sw_7]]
    refine cq_tableIn F (off := 30) (tgt := 37) dX6_carryOut_7 (by decide) (by decide) (by decide) (by decide) ?_
    have hkd : q.1 = 1 := by omega
    have hq2 := hq
    unfold tx_okO at hq2
    refine cq_aload_n F (i := 0) dX6_carryOut_37 rfl rfl ?_
    refine cq_callV F (C := RX6) (ci := 7) (kX6_carryOutLit l D cA X Bs b B g q.2.1 q.2.2.2.1 M hb hs hk (hrec.2.2.1 hkd).1 (hrec.2.2.1 hkd).2 (by omega)) (cwV 0 F.1.2.2.2.2 gX6_carryOut_X6_carryOutLit rfl rfl rfl hdVX6_carryOutLit ⟨Nat.le_of_ble_eq_true rfl, Nat.le_of_ble_eq_true rfl⟩) hb.kind ⟨by decide, by decide⟩ rfl rfl rfl (Nat.le_of_ble_eq_true rfl) dX6_carryOut_38 ⟨Nat.le_of_ble_eq_true rfl, Nat.le_of_ble_eq_true rfl⟩ (cq_kI fun r_38 M_38 h_38 => ?_)
    refine cq_zret F hr (cq_zn (by rw [h_38.1]; split <;> simp)) (by decide) (by decide) dX6_carryOut_41 ⟨_, rfl, ?_⟩
    have hdo := (show ex_do g q = _ from (if_neg (by omega)).trans (if_pos hkd))
    have hcn : ex_can g q ↔ (q.2.1 < g 6 ∧ ns_canLight g q.2.1 (nI q.2.2.2.1)) := by
      refine ⟨fun z => ?_, fun z => Or.inr (Or.inl ⟨hkd, z⟩)⟩
      rcases z with z | z | z | z
      · omega
      · exact z.2
      · omega
      · omega
    rw [hdo]
    exact ⟨by rw [h_38.1]; exact cq_ifc hcn.symm, fun z => h_38.2.1 (hcn.mp z), fun z => h_38.2.2 (fun y => z (hcn.mpr y))⟩
  · rw [show nI (q.1) = nI 2 from by rw [sw_7]]
    refine cq_tableIn F (off := 35) (tgt := 42) dX6_carryOut_7 (by decide) (by decide) (by decide) (by decide) ?_
    have hkd : q.1 = 2 := by omega
    have hq2 := hq
    unfold tx_okO at hq2
    refine cq_aload_n F (i := 0) dX6_carryOut_42 rfl rfl ?_
    refine cq_callV F (C := RX6) (ci := 7) (kX6_carryOutWhen l D cA X Bs b B g q.2.1 q.2.2.1 q.2.2.2.1 M hb hs hk (hrec.2.2.2.1 hkd).1 (hrec.2.2.2.1 hkd).2.1 (hrec.2.2.2.1 hkd).2.2 (by omega)) (cwV 0 F.1.2.2.2.2 gX6_carryOut_X6_carryOutWhen rfl rfl rfl hdVX6_carryOutWhen ⟨Nat.le_of_ble_eq_true rfl, Nat.le_of_ble_eq_true rfl⟩) hb.kind ⟨by decide, by decide⟩ rfl rfl rfl (Nat.le_of_ble_eq_true rfl) dX6_carryOut_43 ⟨Nat.le_of_ble_eq_true rfl, Nat.le_of_ble_eq_true rfl⟩ (cq_kI fun r_43 M_43 h_43 => ?_)
    refine cq_zret F hr (cq_zn (by rw [h_43.1]; split <;> simp)) (by decide) (by decide) dX6_carryOut_46 ⟨_, rfl, ?_⟩
    have hdo := (show ex_do g q = _ from (if_neg (by omega)).trans ((if_neg (by omega)).trans (if_pos hkd)))
    have hcn : ex_can g q ↔ ((q.2.1 < g 6 ∧ q.2.2.1 < g 6) ∧ q.2.1 ≠ q.2.2.1 ∧ g 51 < 8) := by
      refine ⟨fun z => ?_, fun z => Or.inr (Or.inr (Or.inl ⟨hkd, z⟩))⟩
      rcases z with z | z | z | z
      · omega
      · omega
      · exact z.2
      · omega
    rw [hdo]
    exact ⟨by rw [h_43.1]; exact cq_ifc hcn.symm, fun z => h_43.2.1 (hcn.mp z), fun z => h_43.2.2 (fun y => z (hcn.mpr y))⟩
  · rw [show nI (q.1) = nI 3 from by rw [sw_7]]
    refine cq_tableOut F (tgt := 47) dX6_carryOut_7 (by decide) (by decide) ?_
    have hkd : q.1 = 3 := by omega
    have hq2 := hq
    unfold tx_okO at hq2
    refine cq_aload_n F (i := 0) dX6_carryOut_47 rfl rfl ?_
    refine cq_getT (t := (b + 1)) F (C := RX6) (T := TX6) (N := 9) (ci := 7) hb.kind rfl ⟨⟨by decide, by decide⟩, rfl⟩ inX6 0 (by decide) rfl rfl hb.t0 (F.1.2.2.2.2 _ (List.mem_of_getElem? (l := wsX6_carryOut) (i := 2) (a := .fieldLink RX6 10 "CordClock" "now" "LCordClock$State;") (by decide +kernel))) dX6_carryOut_48 ?_
    refine cq_aload_n F (i := 0) dX6_carryOut_51 rfl rfl ?_
    refine cq_getT (t := (b + 50)) F (C := RX6) (T := TX6) (N := 9) (ci := 7) hb.kind rfl ⟨⟨by decide, by decide⟩, rfl⟩ inX6 7 (by decide) rfl rfl hb.t7 (F.1.2.2.2.2 _ (List.mem_of_getElem? (l := wsX6_carryOut) (i := 1) (a := .fieldLink RX6 33 "CordClock" "text" "LCordClock$OrderText;") (by decide +kernel))) dX6_carryOut_52 ?_
    refine cq_getIN F (C := RX2) (T := TX2) (N := 10) (ci := 3) hb.text.kind rfl ⟨⟨by decide, by decide⟩, rfl⟩ inX2 9 (by decide) rfl rfl (cq_nfw F.2.2.2.2 (List.mem_of_getElem? (l := cq_nf) (i := 27) rfl)) dX6_carryOut_55 ?_
    rw [(hrec.2.2.2.2 hkd)]
    refine cq_callV F (C := RX5) (ci := 6) (kX5_passSteps l D cA X Bs (b + 1) q.2.1 B g M hb.now hs hk (by omega) hB) (cwV 1 F.1.2.2.2.2 gX6_carryOut_X5_passSteps rfl rfl rfl hdVX5_passSteps ⟨Nat.le_of_ble_eq_true rfl, Nat.le_of_ble_eq_true rfl⟩) hb.now.kind ⟨by decide, by decide⟩ rfl rfl rfl (Nat.le_of_ble_eq_true rfl) dX6_carryOut_58 ⟨Nat.le_of_ble_eq_true rfl, Nat.le_of_ble_eq_true rfl⟩ (cq_kI fun r_58 M_58 h_58 => ?_)
    refine cq_pop F dX6_carryOut_61 rfl ?_
    refine cq_iconst F (v := 1) dX6_carryOut_62 rfl ?_
    refine cq_zret F hr (by rfl) (by decide) (by decide) dX6_carryOut_63 ⟨_, rfl, ?_⟩
    have hdo : ex_do g q = ns_steps g q.2.1 := (if_neg (by omega)).trans ((if_neg (by omega)).trans (if_neg (by omega)))
    have hcn : ex_can g q := Or.inr (Or.inr (Or.inr hkd))
    rw [hdo]
    exact ⟨(if_pos hcn).symm, fun _ => h_58.2, fun z => absurd hcn z⟩
theorem hdVX6_carryOut : yX6_carryOut.cls = RX6 ∧ yX6_carryOut.cls ≠ "java/lang/invoke/MethodHandle" ∧ yX6_carryOut.cls ≠ "java/lang/invoke/VarHandle" ∧ (parseMethodDescriptor yX6_carryOut.desc).map (fun d => d.parameters.length) = some 0 := by decide +kernel
