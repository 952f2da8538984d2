/-! the law's calls: one of them -/
abbrev rmL_acts : Room := ({ frames := 9, cells := 10, slots := 60, locals := 158 })
set_option maxHeartbeats 4000000 in
set_option maxRecDepth 100000 in
theorem kL_acts (l : Launch) (D : va_G) (cA : Nat → ClassId) (X : cq_X) (Bs : Nat) (hl : l.stackTraces = false) (o ta ca ra na ba B kd : Nat) (x : Int32) (t c r n b : Nat → Nat) (S : as_T) (M : cq_M) (ha : la X ta ca ra na ba) (hm : lm M ta ca ra na ba t c r n b) (hb : cq_isClock X o) (h : ck M o S) (hk : as_ok S B) (hrel : lr t c r n b (S_g S 1) (S_g S)) (hB : B ≤ 9999) (ho : o + 249 ≤ ta) (h61 : 1 ≤ S_g S 6) (hkd : kd ≤ 16) : cq_C l yL_acts wsL_acts rmL_acts D cA X Bs [.ref o, .ref ta, .ref ca, .ref ra, .ref na, .ref ba, .int (nI kd), .int x] M (cq_PI (fun rv M1 => rv = 1 ∧ la_P M1 o ta ca ra na ba B)) 10 60 := by
  refine cq_met (cc := cL_acts) (maxL := 19) (ret := (some .boolean)) (by decide) rfl (Nat.le_of_ble_eq_true rfl) [(0, .ref o), (1, .ref ta), (2, .ref ca), (3, .ref ra), (4, .ref na), (5, .ref ba), (6, .int (nI kd)), (7, .int x)] rfl rfl ?_
  intro p9 e9 s9 m9 b9 t9 c9 F hr
  obtain ⟨ht, hc, hr0, hn0, hb0, hd1, hd2, hd3, hd4⟩ := id ha
  have h6 := hk.1.1
  have h51 := hk.1.2.1
  obtain ⟨n0, n1, n2, n3, n4, n5, n6, n7, n8⟩ := id hrel.1
  have hvn9 := hm.2.2.2.1
  have loop_249 : ∀ (n_249 : Nat) (i bd k : Nat) (c3 : Nat → Nat) (M2 : cq_M), i < S_g S 6 → bd = ns_burned (S_g S) i → k ≤ 4 → cq_nv M2 ca 20 c3 → (∀ j, c3 j = if 5 * i ≤ j ∧ j < 5 * i + k then 0 else c j) → (∀ x, x ≠ ca → M2 x = M x) → 4 - k < n_249 → cq_V p9 l e9 rmL_acts s9 m9 ([.ref o, .ref ta, .ref ca, .ref ra, .ref na, .ref ba, .int (nI kd), .int x] : List Value).toArray b9 t9 c9 D cA X Bs 19 (0) (0) (MQ b9 (cq_Q D cA X Bs (cq_PI (fun rv M1 => rv = 1 ∧ la_P M1 o ta ca ra na ba B))) ([.ref o, .ref ta, .ref ca, .ref ra, .ref na, .ref ba, .int (nI kd), .int x] : List Value).toArray s9 10 60 (cq_A Bs)) 249 [(0, .ref o), (2, .ref ca), (8, .int (nI i)), (13, .int (nI bd)), (14, .int (nI k))] [] M2 := by
    intro n_249
    induction n_249 with
    | zero =>
      intros
      omega
    | succ n_249 ih_249 =>
      intro i bd k c3 M2 hi hbd9 hk4 hv3 h3 hf2 hn249
      obtain ⟨hc0, hc1, hc2, hc3, hc4⟩ := hrel.2.2.1 i hi
      have hq := hk.1.2.2.2.1 i hi
      have hTt := hq.time
      have hbt := hq.2.2.1
      have hbd : ns_burned (S_g S) i = S_g S (14 + 11 * i) + S_g S (15 + 11 * i) := rfl
      have h7 := hq.1
      have hff := hq.2.2.2.1
      refine cq_iload F dL_acts_249 rfl ?_
      refine cq_iconst F (v := 4) dL_acts_251 rfl ?_
      refine cq_icmp_ge F (tgt := 271) dL_acts_252 (by decide) (fun c_252 => ?_) (fun c_252 => ?_)
      · have c_252 : 4 ≤ k := (nI_b (a := 4) (b := k) (by omega) (by omega)).1.mp c_252
        obtain rfl : k = 4 := by omega
        refine cq_aload_n F (i := 0) dL_acts_271 rfl rfl ?_
        refine cq_iload F dL_acts_272 rfl ?_
        refine cq_callV F (C := RX6) (ci := 7) (nq_renew (l := l) (D := D) (cA := cA) (Bs := Bs) hl hb (ck.far h hk (fun x x1 x2 => hf2 x (by omega))) hk i hi) (cwV 1 F.1.2.2.2.2 gL_acts_X6_renew rfl rfl rfl hdVX6_renew ⟨Nat.le_of_ble_eq_true rfl, Nat.le_of_ble_eq_true rfl⟩) hb.kind ⟨by decide, by decide⟩ rfl rfl rfl (Nat.le_of_ble_eq_true rfl) dL_acts_274 ⟨by show _ ≤ 10; omega, by show _ ≤ 60; omega⟩ (cq_kI fun r_274 M_274 h_274 => ?_)
        obtain rfl : r_274 = nI (ns_burned (S_g S) i) := h_274.1
        refine cq_iload F dL_acts_277 rfl ?_
        refine cq_icmp_ne F (tgt := 286) dL_acts_279 (by decide) (fun c_279 => ?_) (fun c_279 => ?_)
        · have c_279 : ¬ (ns_burned (S_g S) i) = bd := fun z => c_279 ((nI_b (a := (ns_burned (S_g S) i)) (b := bd) (by omega) (by omega)).2.2.mpr z)
          omega
        · have c_279 : (ns_burned (S_g S) i) = bd := (nI_b (a := (ns_burned (S_g S) i)) (b := bd) (by omega) (by omega)).2.2.mp c_279
          refine cq_iconst F (v := 1) dL_acts_282 rfl ?_
          refine cq_goto F (tgt := 287) dL_acts_283 (by decide) ?_
          refine cq_zret F hr (by rfl) (by omega) (by omega) dL_acts_287 ⟨_, rfl, ?_⟩
          have hfr : ∀ x, x ≠ ca → (x < o ∨ o + 249 ≤ x) → M_274 x = M x := fun x x1 x2 => by rw [h_274.2.2 x x2]; exact hf2 x x1
          refine ⟨rfl, _, h_274.2.1, (as_sv hk (ao_renew hk.1 hi) (by omega)).mono (by omega), ⟨t, c3, r, n, b, ⟨hm.1.same (fun j => congrFun (hfr _ (by omega) (by omega)) j), hv3.same (fun j => congrFun (h_274.2.2 _ (by omega)) j), hm.2.2.1.same (fun j => congrFun (hfr _ (by omega) (by omega)) j), hm.2.2.2.1.same (fun j => congrFun (hfr _ (by omega) (by omega)) j), hm.2.2.2.2.same (fun j => congrFun (hfr _ (by omega) (by omega)) j)⟩, ?_⟩, ?_⟩
          · show lr _ _ _ _ _ (ns_up (ns_up (ns_up (S_g S) (14 + 11 * i) 0) (15 + 11 * i) 0) (16 + 11 * i) 0 1) _
            rw [ns_up_n (by omega), ns_up_n (by omega), ns_up_n (by omega)]
            exact hrel.renew hk.1 hi h3
          · show 1 ≤ ns_up (ns_up (ns_up (S_g S) (14 + 11 * i) 0) (15 + 11 * i) 0) (16 + 11 * i) 0 6
            rw [ns_up_n (by omega), ns_up_n (by omega), ns_up_n (by omega)]
            omega
      · have c_252 : ¬ 4 ≤ k := fun z => c_252 ((nI_b (a := 4) (b := k) (by omega) (by omega)).1.mpr z)
        refine cq_aload_n F (i := 2) dL_acts_255 rfl rfl ?_
        refine cq_iconst F (v := 5) dL_acts_256 rfl ?_
        refine cq_iload F dL_acts_257 rfl ?_
        refine cq_imul F dL_acts_259 ?_
        rw [show (5 * nI i : Int32) = nI (5 * i) from pk_mul _ _]
        refine cq_iload F dL_acts_260 rfl ?_
        refine cq_iadd F dL_acts_262 ?_
        rw [show (nI (5 * i) + nI k : Int32) = nI (5 * i + k) from nI_add _ _]
        refine cq_iconst F (v := 0) dL_acts_263 rfl ?_
        refine cq_iast_j F (j := (5 * i + k)) hc.1 hc.2 rfl ⟨(by omega), by decide⟩ dL_acts_264 (fun M_264 h_264 => ?_)
        obtain ⟨g_264, eg_264⟩ : ∃ z, z = ns_up c3 ((5 * i + k)) (0) := ⟨_, rfl⟩
        have v_264_ca : cq_nv M_264 ca 20 g_264 := by rw [eg_264]; exact hv3.up h_264
        refine cq_iinc F dL_acts_265 rfl (by decide) (fun x_265 e_265 => ?_)
        obtain rfl : x_265 = nI (k + 1) := by rw [e_265]; exact nI_1 _
        refine cq_goto F (tgt := 249) dL_acts_268 (by decide) ?_
        refine cq_loc (L2 := [(0, .ref o), (2, .ref ca), (8, .int (nI i)), (13, .int (nI bd)), (14, .int (nI (k + 1)))]) rfl ?_
        exact ih_249 i bd (k + 1) g_264 M_264 hi hbd9 (by omega) v_264_ca (fun j => by rw [eg_264]; exact lw_fill (a := 5 * i) (f := fun _ => 0) rfl h3 j) (fun x hx => by rw [h_264, cq_up_row hx]; exact hf2 x hx) (by omega)
  have loop_666 : ∀ (n_666 : Nat) (mm k sq : Nat) (t2 c2 r2 n2 b2 : Nat → Nat) (M2 : cq_M), 1 ≤ mm → mm ≤ 200 → k ≤ mm → sq = ns_sigsN (S_g S) k → lm M2 ta ca ra na ba t2 c2 r2 n2 b2 → lr t2 c2 r2 n2 b2 (ns_steps (S_g S) k 1) (ns_steps (S_g S) k) → lf M M2 ca ra na ba → mm - k < n_666 → cq_V p9 l e9 rmL_acts s9 m9 ([.ref o, .ref ta, .ref ca, .ref ra, .ref na, .ref ba, .int (nI kd), .int x] : List Value).toArray b9 t9 c9 D cA X Bs 19 (0) (0) (MQ b9 (cq_Q D cA X Bs (cq_PI (fun rv M1 => rv = 1 ∧ la_P M1 o ta ca ra na ba B))) ([.ref o, .ref ta, .ref ca, .ref ra, .ref na, .ref ba, .int (nI kd), .int x] : List Value).toArray s9 10 60 (cq_A Bs)) 666 [(0, .ref o), (1, .ref ta), (2, .ref ca), (3, .ref ra), (4, .ref na), (5, .ref ba), (16, .int (nI mm)), (17, .int (nI sq)), (18, .int (nI k))] [] M2 := by
    intro n_666
    induction n_666 with
    | zero =>
      intros
      omega
    | succ n_666 ih_666 =>
      intro mm k sq t2 c2 r2 n2 b2 M2 hm1 hm2b hkm hsq hm2 h2 hf2 hn666
      obtain ⟨hks, e6k, -, hs4⟩ := ns_steps_ok hk.1 k
      refine cq_iload F dL_acts_666 rfl ?_
      refine cq_iload F dL_acts_668 rfl ?_
      refine cq_icmp_ge F (tgt := 694) dL_acts_670 (by decide) (fun c_670 => ?_) (fun c_670 => ?_)
      · have c_670 : mm ≤ k := (nI_b (a := mm) (b := k) (by omega) (by omega)).1.mp c_670
        obtain rfl : mm = k := by omega
        refine cq_aload_n F (i := 0) dL_acts_694 rfl rfl ?_
        refine cq_iload F dL_acts_695 rfl ?_
        refine cq_callV F (C := RX6) (ci := 7) (nq_run (l := l) (D := D) (cA := cA) (Bs := Bs) hl hb (ck.far h hk (fun x x1 x2 => hf2 x (by omega) (by omega) (by omega) (by omega))) hk (by omega) mm ⟨hm1, hm2b⟩) (cwV 1 F.1.2.2.2.2 gL_acts_X6_run rfl rfl rfl hdVX6_run ⟨Nat.le_of_ble_eq_true rfl, Nat.le_of_ble_eq_true rfl⟩) hb.kind ⟨by decide, by decide⟩ rfl rfl rfl (Nat.le_of_ble_eq_true rfl) dL_acts_697 ⟨by show _ ≤ 10; omega, by show _ ≤ 60; omega⟩ (cq_kI fun r_697 M_697 h_697 => ?_)
        obtain rfl : r_697 = nI (ns_sigsN (S_g S) mm) := h_697.1
        refine cq_iload F dL_acts_700 rfl ?_
        refine cq_icmp_ne F (tgt := 709) dL_acts_702 (by decide) (fun c_702 => ?_) (fun c_702 => ?_)
        · have c_702 : ¬ (ns_sigsN (S_g S) mm) = sq := fun z => c_702 ((nI_b (a := (ns_sigsN (S_g S) mm)) (b := sq) (by omega) (by omega)).2.2.mpr z)
          omega
        · have c_702 : (ns_sigsN (S_g S) mm) = sq := (nI_b (a := (ns_sigsN (S_g S) mm)) (b := sq) (by omega) (by omega)).2.2.mp c_702
          refine cq_iconst F (v := 1) dL_acts_705 rfl ?_
          refine cq_goto F (tgt := 710) dL_acts_706 (by decide) ?_
          refine cq_zret F hr (by rfl) (by omega) (by omega) dL_acts_710 ⟨_, rfl, ?_⟩
          refine ⟨rfl, _, h_697.2.1, (as_sv hk hks (by omega)).mono (by omega), ⟨t2, c2, r2, n2, b2, ⟨hm2.1.same (fun j => congrFun (h_697.2.2 _ (by omega)) j), hm2.2.1.same (fun j => congrFun (h_697.2.2 _ (by omega)) j), hm2.2.2.1.same (fun j => congrFun (h_697.2.2 _ (by omega)) j), hm2.2.2.2.1.same (fun j => congrFun (h_697.2.2 _ (by omega)) j), hm2.2.2.2.2.same (fun j => congrFun (h_697.2.2 _ (by omega)) j)⟩, h2⟩, ?_⟩
          show 1 ≤ ns_steps (S_g S) mm 6
          rw [e6k]
          omega
      · have c_670 : ¬ mm ≤ k := fun z => c_670 ((nI_b (a := mm) (b := k) (by omega) (by omega)).1.mpr z)
        refine cq_iload F dL_acts_673 rfl ?_
        refine cq_aload_n F (i := 1) dL_acts_675 rfl rfl ?_
        refine cq_aload_n F (i := 2) dL_acts_676 rfl rfl ?_
        refine cq_aload_n F (i := 3) dL_acts_677 rfl rfl ?_
        refine cq_aload F dL_acts_678 rfl ?_
        refine cq_aload F dL_acts_680 rfl ?_
        refine cq_callS F (kL_steps l D cA X Bs ta ca ra na ba (B + k) t2 c2 r2 n2 b2 (ns_steps (S_g S) k) M2 ha hm2 h2 hks (by omega)) (va_cwS 5 F.1.2.2.2.2 gL_acts_L_steps rfl rfl rfl hdVL_steps.2 ⟨Nat.le_of_ble_eq_true rfl, Nat.le_of_ble_eq_true rfl⟩) rfl (Nat.le_of_ble_eq_true rfl) dL_acts_682 ⟨by show _ ≤ 10; omega, by show _ ≤ 60; omega⟩ (cq_kI fun r_682 M_682 h_682 => ?_)
        obtain rfl : r_682 = nI (ns_sigs (ns_steps (S_g S) k)) := h_682.1
        obtain ⟨t4, c4, r4, n4, b4, hm4, h4⟩ := h_682.2.1
        refine cq_iadd F dL_acts_685 ?_
        rw [show (nI sq + nI (ns_sigs (ns_steps (S_g S) k)) : Int32) = nI (sq + (ns_sigs (ns_steps (S_g S) k))) from nI_add _ _]
        refine cq_istore F dL_acts_686 (by decide) ?_
        refine cq_iinc F dL_acts_688 rfl (by decide) (fun x_688 e_688 => ?_)
        obtain rfl : x_688 = nI (k + 1) := by rw [e_688]; exact nI_1 _
        refine cq_goto F (tgt := 666) dL_acts_691 (by decide) ?_
        refine cq_loc (L2 := [(0, .ref o), (1, .ref ta), (2, .ref ca), (3, .ref ra), (4, .ref na), (5, .ref ba), (16, .int (nI mm)), (17, .int (nI (sq + (ns_sigs (ns_steps (S_g S) k))))), (18, .int (nI (k + 1)))]) rfl ?_
        exact ih_666 mm (k + 1) _ t4 c4 r4 n4 b4 M_682 hm1 hm2b (by omega) (by rw [hsq]; rfl) hm4 h4 (hf2.trans h_682.2.2) (by omega)
  refine cq_iload F dL_acts_0 rfl ?_
  refine cq_aload F dL_acts_2 rfl ?_
  refine cq_bipush F (v := 6) dL_acts_4 (by decide) ?_
  refine cq_iald_j F (j := 6) hn0.1 hn0.2 rfl ⟨(by omega), by decide⟩ dL_acts_6 ?_
  rw [(show M na 6 = nI (S_g S 6) by rw [hvn9 _ (by omega), n6])]
  refine cq_callS F (kL_low l D cA X Bs x (S_g S 6) M (by omega) (by omega)) (va_cwS 2 F.1.2.2.2.2 gL_acts_L_low rfl rfl rfl hdVL_low.2 ⟨Nat.le_of_ble_eq_true rfl, Nat.le_of_ble_eq_true rfl⟩) rfl (Nat.le_of_ble_eq_true rfl) dL_acts_7 ⟨by show _ ≤ 10; omega, by show _ ≤ 60; omega⟩ (cq_kIp fun r_7 h_7 => ?_)
  obtain ⟨i, hi, rfl⟩ := h_7
  refine cq_istore F dL_acts_10 (by decide) ?_
  refine cq_iload F dL_acts_12 rfl ?_
  refine cq_iconst F (v := 3) dL_acts_14 rfl ?_
  refine cq_ishr F dL_acts_15 ?_
  refine cq_iconst F (v := 2) dL_acts_16 rfl ?_
  refine cq_callS F (kL_low l D cA X Bs _ 2 M (by omega) (by omega)) (va_cwS 2 F.1.2.2.2.2 gL_acts_L_low rfl rfl rfl hdVL_low.2 ⟨Nat.le_of_ble_eq_true rfl, Nat.le_of_ble_eq_true rfl⟩) rfl (Nat.le_of_ble_eq_true rfl) dL_acts_17 ⟨by show _ ≤ 10; omega, by show _ ≤ 60; omega⟩ (cq_kIp fun r_17 h_17 => ?_)
  obtain ⟨s, hs, rfl⟩ := h_17
  refine cq_istore F dL_acts_20 (by decide) ?_
  refine cq_iload F dL_acts_22 rfl ?_
  have sw_24 : kd = 0 ∨ kd = 1 ∨ kd = 2 ∨ kd = 3 ∨ kd = 4 ∨ kd = 5 ∨ kd = 6 ∨ kd = 7 ∨ kd = 8 ∨ kd = 9 ∨ kd = 10 ∨ kd = 11 ∨ kd = 12 ∨ kd = 13 ∨ kd = 14 ∨ kd = 15 ∨ kd = 16 := by omega
  rcases sw_24 with sw_24 | sw_24 | sw_24 | sw_24 | sw_24 | sw_24 | sw_24 | sw_24 | sw_24 | sw_24 | sw_24 | sw_24 | sw_24 | sw_24 | sw_24 | sw_24 | sw_24
  · subst sw_24
    refine cq_tableIn F (off := 64) (tgt := 88) dL_acts_24 (by decide) (by decide) (by decide) (by decide) ?_
    refine cq_aload_n F (i := 0) dL_acts_88 rfl rfl ?_
    refine cq_aload_n F (i := 1) dL_acts_89 rfl rfl ?_
    refine cq_aload_n F (i := 2) dL_acts_90 rfl rfl ?_
    refine cq_aload F dL_acts_91 rfl ?_
    refine cq_iload F dL_acts_93 rfl ?_
    refine cq_callS F (kL_adds l D cA X Bs hl o ta ca ra na ba B x t c r n b S M ha hm hb h hk hrel hB ho) (va_cwS 5 F.1.2.2.2.2 gL_acts_L_adds rfl rfl rfl hdVL_adds.2 ⟨Nat.le_of_ble_eq_true rfl, Nat.le_of_ble_eq_true rfl⟩) rfl (Nat.le_of_ble_eq_true rfl) dL_acts_95 ⟨by show _ ≤ 10; omega, by show _ ≤ 60; omega⟩ (cq_kI fun r_95 M_95 h_95 => ?_)
    obtain rfl : r_95 = 1 := h_95.1
    exact cq_zret F hr (by rfl) (by omega) (by omega) dL_acts_98 ⟨_, rfl, ⟨rfl, h_95.2⟩⟩
  · subst sw_24
    refine cq_tableIn F (off := 75) (tgt := 99) dL_acts_24 (by decide) (by decide) (by decide) (by decide) ?_
    obtain ⟨hc0, hc1, hc2, hc3, hc4⟩ := hrel.2.2.1 i hi
    have hq := hk.1.2.2.2.1 i hi
    have hTt := hq.time
    have hbt := hq.2.2.1
    have hbd : ns_burned (S_g S) i = S_g S (14 + 11 * i) + S_g S (15 + 11 * i) := rfl
    have h7 := hq.1
    have hff := hq.2.2.2.1
    refine cq_iload F dL_acts_99 rfl ?_
    refine cq_iconst F (v := 4) dL_acts_101 rfl ?_
    refine cq_ishr F dL_acts_102 ?_
    refine cq_aload_n F (i := 0) dL_acts_103 rfl rfl ?_
    refine cq_iload F dL_acts_104 rfl ?_
    refine cq_iconst F (v := 1) dL_acts_106 rfl ?_
    refine cq_callV F (C := RX6) (ci := 7) (nq_cordOf (l := l) (D := D) (cA := cA) (Bs := Bs) hl hb h hk i 1 hi (by omega)) (cwV 2 F.1.2.2.2.2 gL_acts_X6_cordOf rfl rfl rfl hdVX6_cordOf ⟨Nat.le_of_ble_eq_true rfl, Nat.le_of_ble_eq_true rfl⟩) hb.kind ⟨by decide, by decide⟩ rfl rfl rfl (Nat.le_of_ble_eq_true rfl) dL_acts_107 ⟨by show _ ≤ 10; omega, by show _ ≤ 60; omega⟩ (cq_kIp fun r_107 h_107 => ?_)
    obtain rfl : r_107 = nI (S_g S (7 + 11 * i)) := h_107
    refine cq_callS F (kL_low l D cA X Bs _ (S_g S (7 + 11 * i)) M (by omega) (by omega)) (va_cwS 2 F.1.2.2.2.2 gL_acts_L_low rfl rfl rfl hdVL_low.2 ⟨Nat.le_of_ble_eq_true rfl, Nat.le_of_ble_eq_true rfl⟩) rfl (Nat.le_of_ble_eq_true rfl) dL_acts_110 ⟨by show _ ≤ 10; omega, by show _ ≤ 60; omega⟩ (cq_kIp fun r_110 h_110 => ?_)
    obtain ⟨sg, hsg, rfl⟩ := h_110
    refine cq_istore F dL_acts_113 (by decide) ?_
    refine cq_iconst F (v := 1) dL_acts_115 rfl ?_
    refine cq_iload F dL_acts_116 rfl ?_
    refine cq_bipush F (v := 7) dL_acts_118 (by decide) ?_
    refine cq_ishr F dL_acts_120 ?_
    refine cq_bipush F (v := 30) dL_acts_121 (by decide) ?_
    refine cq_callS F (kL_low l D cA X Bs _ 30 M (by omega) (by omega)) (va_cwS 2 F.1.2.2.2.2 gL_acts_L_low rfl rfl rfl hdVL_low.2 ⟨Nat.le_of_ble_eq_true rfl, Nat.le_of_ble_eq_true rfl⟩) rfl (Nat.le_of_ble_eq_true rfl) dL_acts_123 ⟨by show _ ≤ 10; omega, by show _ ≤ 60; omega⟩ (cq_kIp fun r_123 h_123 => ?_)
    obtain ⟨tq, htq, rfl⟩ := h_123
    refine cq_iadd F dL_acts_126 ?_
    rw [show (1 + nI tq : Int32) = nI (1 + tq) from nI_add _ _]
    refine cq_istore F dL_acts_127 (by decide) ?_
    refine cq_aload_n F (i := 1) dL_acts_129 rfl rfl ?_
    refine cq_bipush F (v := 6) dL_acts_130 (by decide) ?_
    refine cq_iload F dL_acts_132 rfl ?_
    refine cq_imul F dL_acts_134 ?_
    rw [show (6 * nI i : Int32) = nI (6 * i) from pk_mul _ _]
    refine cq_iload F dL_acts_135 rfl ?_
    refine cq_iadd F dL_acts_137 ?_
    rw [show (nI (6 * i) + nI sg : Int32) = nI (6 * i + sg) from nI_add _ _]
    refine cq_iald_j F (j := (6 * i + sg)) ht.1 ht.2 rfl ⟨(by omega), by decide⟩ dL_acts_138 ?_
    rw [hm.1 _ (by omega)]
    refine cq_istore F dL_acts_139 (by decide) ?_
    have hs60a := (hq.2.1 sg hsg).2
    refine cq_aload_n F (i := 2) dL_acts_141 rfl rfl ?_
    refine cq_iconst F (v := 5) dL_acts_142 rfl ?_
    refine cq_iload F dL_acts_143 rfl ?_
    refine cq_imul F dL_acts_145 ?_
    rw [show (5 * nI i : Int32) = nI (5 * i) from pk_mul _ _]
    refine cq_iald_j F (j := 5 * i) hc.1 hc.2 rfl ⟨(by omega), by decide⟩ dL_acts_146 ?_
    rw [hm.2.1 _ (by omega)]
    refine cq_aload_n F (i := 2) dL_acts_147 rfl rfl ?_
    refine cq_iconst F (v := 5) dL_acts_148 rfl ?_
    refine cq_iload F dL_acts_149 rfl ?_
    refine cq_imul F dL_acts_151 ?_
    rw [show (5 * nI i : Int32) = nI (5 * i) from pk_mul _ _]
    refine cq_iconst F (v := 1) dL_acts_152 rfl ?_
    refine cq_iadd F dL_acts_153 ?_
    rw [show (nI (5 * i) + 1 : Int32) = nI (5 * i + 1) from nI_add _ _]
    refine cq_iald_j F (j := (5 * i + 1)) hc.1 hc.2 rfl ⟨(by omega), by decide⟩ dL_acts_154 ?_
    rw [hm.2.1 _ (by omega)]
    refine cq_iadd F dL_acts_155 ?_
    rw [show (nI (c (5 * i)) + nI (c ((5 * i + 1))) : Int32) = nI ((c (5 * i)) + (c ((5 * i + 1)))) from nI_add _ _]
    refine cq_aload_n F (i := 2) dL_acts_156 rfl rfl ?_
    refine cq_iconst F (v := 5) dL_acts_157 rfl ?_
    refine cq_iload F dL_acts_158 rfl ?_
    refine cq_imul F dL_acts_160 ?_
    rw [show (5 * nI i : Int32) = nI (5 * i) from pk_mul _ _]
    refine cq_iconst F (v := 2) dL_acts_161 rfl ?_
    refine cq_iadd F dL_acts_162 ?_
    rw [show (nI (5 * i) + 2 : Int32) = nI (5 * i + 2) from nI_add _ _]
    refine cq_iald_j F (j := (5 * i + 2)) hc.1 hc.2 rfl ⟨(by omega), by decide⟩ dL_acts_163 ?_
    rw [hm.2.1 _ (by omega)]
    refine cq_iadd F dL_acts_164 ?_
    rw [show (nI ((c (5 * i)) + (c ((5 * i + 1)))) + nI (c ((5 * i + 2))) : Int32) = nI (((c (5 * i)) + (c ((5 * i + 1)))) + (c ((5 * i + 2)))) from nI_add _ _]
    refine cq_aload_n F (i := 2) dL_acts_165 rfl rfl ?_
    refine cq_iconst F (v := 5) dL_acts_166 rfl ?_
    refine cq_iload F dL_acts_167 rfl ?_
    refine cq_imul F dL_acts_169 ?_
    rw [show (5 * nI i : Int32) = nI (5 * i) from pk_mul _ _]
    refine cq_iconst F (v := 3) dL_acts_170 rfl ?_
    refine cq_iadd F dL_acts_171 ?_
    rw [show (nI (5 * i) + 3 : Int32) = nI (5 * i + 3) from nI_add _ _]
    refine cq_iald_j F (j := (5 * i + 3)) hc.1 hc.2 rfl ⟨(by omega), by decide⟩ dL_acts_172 ?_
    rw [hm.2.1 _ (by omega)]
    refine cq_iadd F dL_acts_173 ?_
    rw [show (nI (((c (5 * i)) + (c ((5 * i + 1)))) + (c ((5 * i + 2)))) + nI (c ((5 * i + 3))) : Int32) = nI ((((c (5 * i)) + (c ((5 * i + 1)))) + (c ((5 * i + 2)))) + (c ((5 * i + 3)))) from nI_add _ _]
    refine cq_if_le F (tgt := 196) dL_acts_174 (by decide) (fun c_174 => ?_) (fun c_174 => ?_)
    · have c_174 : ((((c (5 * i)) + (c ((5 * i + 1)))) + (c ((5 * i + 2)))) + (c ((5 * i + 3)))) ≤ 0 := (nI_b (a := ((((c (5 * i)) + (c ((5 * i + 1)))) + (c ((5 * i + 2)))) + (c ((5 * i + 3))))) (b := 0) (by omega) (by omega)).1.mp c_174
      have htk := hrel.2.1 i hi sg (by omega)
      rw [if_pos hsg] at htk
      have hbu0 : ns_burned (S_g S) i = 0 := by omega
      have hfl0 : S_g S (16 + 11 * i) = 0 := by omega
      have hs60 := (hq.2.1 sg hsg).2
      refine cq_aload_n F (i := 1) dL_acts_196 rfl rfl ?_
      refine cq_bipush F (v := 6) dL_acts_197 (by decide) ?_
      refine cq_iload F dL_acts_199 rfl ?_
      refine cq_imul F dL_acts_201 ?_
      rw [show (6 * nI i : Int32) = nI (6 * i) from pk_mul _ _]
      refine cq_iload F dL_acts_202 rfl ?_
      refine cq_iadd F dL_acts_204 ?_
      rw [show (nI (6 * i) + nI sg : Int32) = nI (6 * i + sg) from nI_add _ _]
      refine cq_iload F dL_acts_205 rfl ?_
      refine cq_iast_j F (j := (6 * i + sg)) ht.1 ht.2 rfl ⟨(by omega), by decide⟩ dL_acts_207 (fun M_207 h_207 => ?_)
      obtain ⟨g_207, eg_207⟩ : ∃ z, z = ns_up t ((6 * i + sg)) ((1 + tq)) := ⟨_, rfl⟩
      have v_207_ta : cq_nv M_207 ta 24 g_207 := by rw [eg_207]; exact hm.1.up h_207
      have v_207_ca := hm.2.1.ne h_207 (by omega)
      have v_207_ra := hm.2.2.1.ne h_207 (by omega)
      have v_207_na := hm.2.2.2.1.ne h_207 (by omega)
      have v_207_ba := hm.2.2.2.2.ne h_207 (by omega)
      refine cq_aload_n F (i := 0) dL_acts_208 rfl rfl ?_
      refine cq_iload F dL_acts_209 rfl ?_
      refine cq_iload F dL_acts_211 rfl ?_
      refine cq_iload F dL_acts_213 rfl ?_
      refine cq_callV F (C := RX6) (ci := 7) (nq_uneven (l := l) (D := D) (cA := cA) (Bs := Bs) hl hb (ck.far h hk (fun x x1 x2 => by rw [h_207, cq_up_row (by omega)])) hk i sg (1 + tq) hi hsg ⟨by omega, by omega⟩ hbu0 hfl0) (cwV 3 F.1.2.2.2.2 gL_acts_X6_uneven rfl rfl rfl hdVX6_uneven ⟨Nat.le_of_ble_eq_true rfl, Nat.le_of_ble_eq_true rfl⟩) hb.kind ⟨by decide, by decide⟩ rfl rfl rfl (Nat.le_of_ble_eq_true rfl) dL_acts_215 ⟨by show _ ≤ 10; omega, by show _ ≤ 60; omega⟩ (cq_kI fun r_215 M_215 h_215 => ?_)
      obtain rfl : r_215 = nI (S_g S (8 + 11 * i + sg)) := h_215.1
      refine cq_iload F dL_acts_218 rfl ?_
      refine cq_icmp_ne F (tgt := 227) dL_acts_220 (by decide) (fun c_220 => ?_) (fun c_220 => ?_)
      · have c_220 : ¬ (S_g S (8 + 11 * i + sg)) = (t ((6 * i + sg))) := fun z => c_220 ((nI_b (a := (S_g S (8 + 11 * i + sg))) (b := (t ((6 * i + sg)))) (by omega) (by omega)).2.2.mpr z)
        omega
      · have c_220 : (S_g S (8 + 11 * i + sg)) = (t ((6 * i + sg))) := (nI_b (a := (S_g S (8 + 11 * i + sg))) (b := (t ((6 * i + sg)))) (by omega) (by omega)).2.2.mp c_220
        refine cq_iconst F (v := 1) dL_acts_223 rfl ?_
        refine cq_goto F (tgt := 228) dL_acts_224 (by decide) ?_
        refine cq_zret F hr (by rfl) (by omega) (by omega) dL_acts_228 ⟨_, rfl, ?_⟩
        refine ⟨rfl, _, h_215.2.1, (as_sv hk (ao_up hk.1 hi hsg ⟨by omega, by omega⟩ hbu0 hfl0) (by omega)).mono (by omega), ⟨g_207, c, r, n, b, ⟨v_207_ta.same (fun j => congrFun (h_215.2.2 _ (by omega)) j), v_207_ca.same (fun j => congrFun (h_215.2.2 _ (by omega)) j), v_207_ra.same (fun j => congrFun (h_215.2.2 _ (by omega)) j), v_207_na.same (fun j => congrFun (h_215.2.2 _ (by omega)) j), v_207_ba.same (fun j => congrFun (h_215.2.2 _ (by omega)) j)⟩, ?_⟩, ?_⟩
        · rw [eg_207]
          show lr _ _ _ _ _ (ns_up (S_g S) (8 + 11 * i + sg) (1 + tq) 1) _
          rw [ns_up_n (by omega)]
          exact hrel.uneven hk.1 hi hsg
        · show 1 ≤ ns_up (S_g S) (8 + 11 * i + sg) (1 + tq) 6
          rw [ns_up_n (by omega)]
          omega
    · have c_174 : ¬ ((((c (5 * i)) + (c ((5 * i + 1)))) + (c ((5 * i + 2)))) + (c ((5 * i + 3)))) ≤ 0 := fun z => c_174 ((nI_b (a := ((((c (5 * i)) + (c ((5 * i + 1)))) + (c ((5 * i + 2)))) + (c ((5 * i + 3))))) (b := 0) (by omega) (by omega)).1.mpr z)
      have htk := hrel.2.1 i hi sg (by omega)
      rw [if_pos hsg] at htk
      refine cq_aload_n F (i := 0) dL_acts_177 rfl rfl ?_
      refine cq_iload F dL_acts_178 rfl ?_
      refine cq_iload F dL_acts_180 rfl ?_
      refine cq_callV F (C := RX6) (ci := 7) (nq_segment (l := l) (D := D) (cA := cA) (Bs := Bs) hl hb h hk i sg hi hsg) (cwV 2 F.1.2.2.2.2 gL_acts_X6_segment rfl rfl rfl hdVX6_segment ⟨Nat.le_of_ble_eq_true rfl, Nat.le_of_ble_eq_true rfl⟩) hb.kind ⟨by decide, by decide⟩ rfl rfl rfl (Nat.le_of_ble_eq_true rfl) dL_acts_182 ⟨by show _ ≤ 10; omega, by show _ ≤ 60; omega⟩ (cq_kIp fun r_182 h_182 => ?_)
      obtain rfl : r_182 = nI (S_g S (8 + 11 * i + sg)) := h_182
      refine cq_iload F dL_acts_185 rfl ?_
      refine cq_icmp_ne F (tgt := 194) dL_acts_187 (by decide) (fun c_187 => ?_) (fun c_187 => ?_)
      · have c_187 : ¬ (S_g S (8 + 11 * i + sg)) = (t ((6 * i + sg))) := fun z => c_187 ((nI_b (a := (S_g S (8 + 11 * i + sg))) (b := (t ((6 * i + sg)))) (by omega) (by omega)).2.2.mpr z)
        omega
      · have c_187 : (S_g S (8 + 11 * i + sg)) = (t ((6 * i + sg))) := (nI_b (a := (S_g S (8 + 11 * i + sg))) (b := (t ((6 * i + sg)))) (by omega) (by omega)).2.2.mp c_187
        refine cq_iconst F (v := 1) dL_acts_190 rfl ?_
        refine cq_goto F (tgt := 195) dL_acts_191 (by decide) ?_
        exact cq_zret F hr (by rfl) (by omega) (by omega) dL_acts_195 ⟨_, rfl, ⟨rfl, S, h, hk.mono (by omega), ⟨t, c, r, n, b, hm, hrel⟩, by omega⟩⟩
  · subst sw_24
    refine cq_tableIn F (off := 75) (tgt := 99) dL_acts_24 (by decide) (by decide) (by decide) (by decide) ?_
    obtain ⟨hc0, hc1, hc2, hc3, hc4⟩ := hrel.2.2.1 i hi
    have hq := hk.1.2.2.2.1 i hi
    have hTt := hq.time
    have hbt := hq.2.2.1
    have hbd : ns_burned (S_g S) i = S_g S (14 + 11 * i) + S_g S (15 + 11 * i) := rfl
    have h7 := hq.1
    have hff := hq.2.2.2.1
    refine cq_iload F dL_acts_99 rfl ?_
    refine cq_iconst F (v := 4) dL_acts_101 rfl ?_
    refine cq_ishr F dL_acts_102 ?_
    refine cq_aload_n F (i := 0) dL_acts_103 rfl rfl ?_
    refine cq_iload F dL_acts_104 rfl ?_
    refine cq_iconst F (v := 1) dL_acts_106 rfl ?_
    refine cq_callV F (C := RX6) (ci := 7) (nq_cordOf (l := l) (D := D) (cA := cA) (Bs := Bs) hl hb h hk i 1 hi (by omega)) (cwV 2 F.1.2.2.2.2 gL_acts_X6_cordOf rfl rfl rfl hdVX6_cordOf ⟨Nat.le_of_ble_eq_true rfl, Nat.le_of_ble_eq_true rfl⟩) hb.kind ⟨by decide, by decide⟩ rfl rfl rfl (Nat.le_of_ble_eq_true rfl) dL_acts_107 ⟨by show _ ≤ 10; omega, by show _ ≤ 60; omega⟩ (cq_kIp fun r_107 h_107 => ?_)
    obtain rfl : r_107 = nI (S_g S (7 + 11 * i)) := h_107
    refine cq_callS F (kL_low l D cA X Bs _ (S_g S (7 + 11 * i)) M (by omega) (by omega)) (va_cwS 2 F.1.2.2.2.2 gL_acts_L_low rfl rfl rfl hdVL_low.2 ⟨Nat.le_of_ble_eq_true rfl, Nat.le_of_ble_eq_true rfl⟩) rfl (Nat.le_of_ble_eq_true rfl) dL_acts_110 ⟨by show _ ≤ 10; omega, by show _ ≤ 60; omega⟩ (cq_kIp fun r_110 h_110 => ?_)
    obtain ⟨sg, hsg, rfl⟩ := h_110
    refine cq_istore F dL_acts_113 (by decide) ?_
    refine cq_iconst F (v := 1) dL_acts_115 rfl ?_
    refine cq_iload F dL_acts_116 rfl ?_
    refine cq_bipush F (v := 7) dL_acts_118 (by decide) ?_
    refine cq_ishr F dL_acts_120 ?_
    refine cq_bipush F (v := 30) dL_acts_121 (by decide) ?_
    refine cq_callS F (kL_low l D cA X Bs _ 30 M (by omega) (by omega)) (va_cwS 2 F.1.2.2.2.2 gL_acts_L_low rfl rfl rfl hdVL_low.2 ⟨Nat.le_of_ble_eq_true rfl, Nat.le_of_ble_eq_true rfl⟩) rfl (Nat.le_of_ble_eq_true rfl) dL_acts_123 ⟨by show _ ≤ 10; omega, by show _ ≤ 60; omega⟩ (cq_kIp fun r_123 h_123 => ?_)
    obtain ⟨tq, htq, rfl⟩ := h_123
    refine cq_iadd F dL_acts_126 ?_
    rw [show (1 + nI tq : Int32) = nI (1 + tq) from nI_add _ _]
    refine cq_istore F dL_acts_127 (by decide) ?_
    refine cq_aload_n F (i := 1) dL_acts_129 rfl rfl ?_
    refine cq_bipush F (v := 6) dL_acts_130 (by decide) ?_
    refine cq_iload F dL_acts_132 rfl ?_
    refine cq_imul F dL_acts_134 ?_
    rw [show (6 * nI i : Int32) = nI (6 * i) from pk_mul _ _]
    refine cq_iload F dL_acts_135 rfl ?_
    refine cq_iadd F dL_acts_137 ?_
    rw [show (nI (6 * i) + nI sg : Int32) = nI (6 * i + sg) from nI_add _ _]
    refine cq_iald_j F (j := (6 * i + sg)) ht.1 ht.2 rfl ⟨(by omega), by decide⟩ dL_acts_138 ?_
    rw [hm.1 _ (by omega)]
    refine cq_istore F dL_acts_139 (by decide) ?_
    have hs60a := (hq.2.1 sg hsg).2
    refine cq_aload_n F (i := 2) dL_acts_141 rfl rfl ?_
    refine cq_iconst F (v := 5) dL_acts_142 rfl ?_
    refine cq_iload F dL_acts_143 rfl ?_
    refine cq_imul F dL_acts_145 ?_
    rw [show (5 * nI i : Int32) = nI (5 * i) from pk_mul _ _]
    refine cq_iald_j F (j := 5 * i) hc.1 hc.2 rfl ⟨(by omega), by decide⟩ dL_acts_146 ?_
    rw [hm.2.1 _ (by omega)]
    refine cq_aload_n F (i := 2) dL_acts_147 rfl rfl ?_
    refine cq_iconst F (v := 5) dL_acts_148 rfl ?_
    refine cq_iload F dL_acts_149 rfl ?_
    refine cq_imul F dL_acts_151 ?_
    rw [show (5 * nI i : Int32) = nI (5 * i) from pk_mul _ _]
    refine cq_iconst F (v := 1) dL_acts_152 rfl ?_
    refine cq_iadd F dL_acts_153 ?_
    rw [show (nI (5 * i) + 1 : Int32) = nI (5 * i + 1) from nI_add _ _]
    refine cq_iald_j F (j := (5 * i + 1)) hc.1 hc.2 rfl ⟨(by omega), by decide⟩ dL_acts_154 ?_
    rw [hm.2.1 _ (by omega)]
    refine cq_iadd F dL_acts_155 ?_
    rw [show (nI (c (5 * i)) + nI (c ((5 * i + 1))) : Int32) = nI ((c (5 * i)) + (c ((5 * i + 1)))) from nI_add _ _]
    refine cq_aload_n F (i := 2) dL_acts_156 rfl rfl ?_
    refine cq_iconst F (v := 5) dL_acts_157 rfl ?_
    refine cq_iload F dL_acts_158 rfl ?_
    refine cq_imul F dL_acts_160 ?_
    rw [show (5 * nI i : Int32) = nI (5 * i) from pk_mul _ _]
    refine cq_iconst F (v := 2) dL_acts_161 rfl ?_
    refine cq_iadd F dL_acts_162 ?_
    rw [show (nI (5 * i) + 2 : Int32) = nI (5 * i + 2) from nI_add _ _]
    refine cq_iald_j F (j := (5 * i + 2)) hc.1 hc.2 rfl ⟨(by omega), by decide⟩ dL_acts_163 ?_
    rw [hm.2.1 _ (by omega)]
    refine cq_iadd F dL_acts_164 ?_
    rw [show (nI ((c (5 * i)) + (c ((5 * i + 1)))) + nI (c ((5 * i + 2))) : Int32) = nI (((c (5 * i)) + (c ((5 * i + 1)))) + (c ((5 * i + 2)))) from nI_add _ _]
    refine cq_aload_n F (i := 2) dL_acts_165 rfl rfl ?_
    refine cq_iconst F (v := 5) dL_acts_166 rfl ?_
    refine cq_iload F dL_acts_167 rfl ?_
    refine cq_imul F dL_acts_169 ?_
    rw [show (5 * nI i : Int32) = nI (5 * i) from pk_mul _ _]
    refine cq_iconst F (v := 3) dL_acts_170 rfl ?_
    refine cq_iadd F dL_acts_171 ?_
    rw [show (nI (5 * i) + 3 : Int32) = nI (5 * i + 3) from nI_add _ _]
    refine cq_iald_j F (j := (5 * i + 3)) hc.1 hc.2 rfl ⟨(by omega), by decide⟩ dL_acts_172 ?_
    rw [hm.2.1 _ (by omega)]
    refine cq_iadd F dL_acts_173 ?_
    rw [show (nI (((c (5 * i)) + (c ((5 * i + 1)))) + (c ((5 * i + 2)))) + nI (c ((5 * i + 3))) : Int32) = nI ((((c (5 * i)) + (c ((5 * i + 1)))) + (c ((5 * i + 2)))) + (c ((5 * i + 3)))) from nI_add _ _]
    refine cq_if_le F (tgt := 196) dL_acts_174 (by decide) (fun c_174 => ?_) (fun c_174 => ?_)
    · have c_174 : ((((c (5 * i)) + (c ((5 * i + 1)))) + (c ((5 * i + 2)))) + (c ((5 * i + 3)))) ≤ 0 := (nI_b (a := ((((c (5 * i)) + (c ((5 * i + 1)))) + (c ((5 * i + 2)))) + (c ((5 * i + 3))))) (b := 0) (by omega) (by omega)).1.mp c_174
      have htk := hrel.2.1 i hi sg (by omega)
      rw [if_pos hsg] at htk
      have hbu0 : ns_burned (S_g S) i = 0 := by omega
      have hfl0 : S_g S (16 + 11 * i) = 0 := by omega
      have hs60 := (hq.2.1 sg hsg).2
      refine cq_aload_n F (i := 1) dL_acts_196 rfl rfl ?_
      refine cq_bipush F (v := 6) dL_acts_197 (by decide) ?_
      refine cq_iload F dL_acts_199 rfl ?_
      refine cq_imul F dL_acts_201 ?_
      rw [show (6 * nI i : Int32) = nI (6 * i) from pk_mul _ _]
      refine cq_iload F dL_acts_202 rfl ?_
      refine cq_iadd F dL_acts_204 ?_
      rw [show (nI (6 * i) + nI sg : Int32) = nI (6 * i + sg) from nI_add _ _]
      refine cq_iload F dL_acts_205 rfl ?_
      refine cq_iast_j F (j := (6 * i + sg)) ht.1 ht.2 rfl ⟨(by omega), by decide⟩ dL_acts_207 (fun M_207 h_207 => ?_)
      obtain ⟨g_207, eg_207⟩ : ∃ z, z = ns_up t ((6 * i + sg)) ((1 + tq)) := ⟨_, rfl⟩
      have v_207_ta : cq_nv M_207 ta 24 g_207 := by rw [eg_207]; exact hm.1.up h_207
      have v_207_ca := hm.2.1.ne h_207 (by omega)
      have v_207_ra := hm.2.2.1.ne h_207 (by omega)
      have v_207_na := hm.2.2.2.1.ne h_207 (by omega)
      have v_207_ba := hm.2.2.2.2.ne h_207 (by omega)
      refine cq_aload_n F (i := 0) dL_acts_208 rfl rfl ?_
      refine cq_iload F dL_acts_209 rfl ?_
      refine cq_iload F dL_acts_211 rfl ?_
      refine cq_iload F dL_acts_213 rfl ?_
      refine cq_callV F (C := RX6) (ci := 7) (nq_uneven (l := l) (D := D) (cA := cA) (Bs := Bs) hl hb (ck.far h hk (fun x x1 x2 => by rw [h_207, cq_up_row (by omega)])) hk i sg (1 + tq) hi hsg ⟨by omega, by omega⟩ hbu0 hfl0) (cwV 3 F.1.2.2.2.2 gL_acts_X6_uneven rfl rfl rfl hdVX6_uneven ⟨Nat.le_of_ble_eq_true rfl, Nat.le_of_ble_eq_true rfl⟩) hb.kind ⟨by decide, by decide⟩ rfl rfl rfl (Nat.le_of_ble_eq_true rfl) dL_acts_215 ⟨by show _ ≤ 10; omega, by show _ ≤ 60; omega⟩ (cq_kI fun r_215 M_215 h_215 => ?_)
      obtain rfl : r_215 = nI (S_g S (8 + 11 * i + sg)) := h_215.1
      refine cq_iload F dL_acts_218 rfl ?_
      refine cq_icmp_ne F (tgt := 227) dL_acts_220 (by decide) (fun c_220 => ?_) (fun c_220 => ?_)
      · have c_220 : ¬ (S_g S (8 + 11 * i + sg)) = (t ((6 * i + sg))) := fun z => c_220 ((nI_b (a := (S_g S (8 + 11 * i + sg))) (b := (t ((6 * i + sg)))) (by omega) (by omega)).2.2.mpr z)
        omega
      · have c_220 : (S_g S (8 + 11 * i + sg)) = (t ((6 * i + sg))) := (nI_b (a := (S_g S (8 + 11 * i + sg))) (b := (t ((6 * i + sg)))) (by omega) (by omega)).2.2.mp c_220
        refine cq_iconst F (v := 1) dL_acts_223 rfl ?_
        refine cq_goto F (tgt := 228) dL_acts_224 (by decide) ?_
        refine cq_zret F hr (by rfl) (by omega) (by omega) dL_acts_228 ⟨_, rfl, ?_⟩
        refine ⟨rfl, _, h_215.2.1, (as_sv hk (ao_up hk.1 hi hsg ⟨by omega, by omega⟩ hbu0 hfl0) (by omega)).mono (by omega), ⟨g_207, c, r, n, b, ⟨v_207_ta.same (fun j => congrFun (h_215.2.2 _ (by omega)) j), v_207_ca.same (fun j => congrFun (h_215.2.2 _ (by omega)) j), v_207_ra.same (fun j => congrFun (h_215.2.2 _ (by omega)) j), v_207_na.same (fun j => congrFun (h_215.2.2 _ (by omega)) j), v_207_ba.same (fun j => congrFun (h_215.2.2 _ (by omega)) j)⟩, ?_⟩, ?_⟩
        · rw [eg_207]
          show lr _ _ _ _ _ (ns_up (S_g S) (8 + 11 * i + sg) (1 + tq) 1) _
          rw [ns_up_n (by omega)]
          exact hrel.uneven hk.1 hi hsg
        · show 1 ≤ ns_up (S_g S) (8 + 11 * i + sg) (1 + tq) 6
          rw [ns_up_n (by omega)]
          omega
    · have c_174 : ¬ ((((c (5 * i)) + (c ((5 * i + 1)))) + (c ((5 * i + 2)))) + (c ((5 * i + 3)))) ≤ 0 := fun z => c_174 ((nI_b (a := ((((c (5 * i)) + (c ((5 * i + 1)))) + (c ((5 * i + 2)))) + (c ((5 * i + 3))))) (b := 0) (by omega) (by omega)).1.mpr z)
      have htk := hrel.2.1 i hi sg (by omega)
      rw [if_pos hsg] at htk
      refine cq_aload_n F (i := 0) dL_acts_177 rfl rfl ?_
      refine cq_iload F dL_acts_178 rfl ?_
      refine cq_iload F dL_acts_180 rfl ?_
      refine cq_callV F (C := RX6) (ci := 7) (nq_segment (l := l) (D := D) (cA := cA) (Bs := Bs) hl hb h hk i sg hi hsg) (cwV 2 F.1.2.2.2.2 gL_acts_X6_segment rfl rfl rfl hdVX6_segment ⟨Nat.le_of_ble_eq_true rfl, Nat.le_of_ble_eq_true rfl⟩) hb.kind ⟨by decide, by decide⟩ rfl rfl rfl (Nat.le_of_ble_eq_true rfl) dL_acts_182 ⟨by show _ ≤ 10; omega, by show _ ≤ 60; omega⟩ (cq_kIp fun r_182 h_182 => ?_)
      obtain rfl : r_182 = nI (S_g S (8 + 11 * i + sg)) := h_182
      refine cq_iload F dL_acts_185 rfl ?_
      refine cq_icmp_ne F (tgt := 194) dL_acts_187 (by decide) (fun c_187 => ?_) (fun c_187 => ?_)
      · have c_187 : ¬ (S_g S (8 + 11 * i + sg)) = (t ((6 * i + sg))) := fun z => c_187 ((nI_b (a := (S_g S (8 + 11 * i + sg))) (b := (t ((6 * i + sg)))) (by omega) (by omega)).2.2.mpr z)
        omega
      · have c_187 : (S_g S (8 + 11 * i + sg)) = (t ((6 * i + sg))) := (nI_b (a := (S_g S (8 + 11 * i + sg))) (b := (t ((6 * i + sg)))) (by omega) (by omega)).2.2.mp c_187
        refine cq_iconst F (v := 1) dL_acts_190 rfl ?_
        refine cq_goto F (tgt := 195) dL_acts_191 (by decide) ?_
        exact cq_zret F hr (by rfl) (by omega) (by omega) dL_acts_195 ⟨_, rfl, ⟨rfl, S, h, hk.mono (by omega), ⟨t, c, r, n, b, hm, hrel⟩, by omega⟩⟩
  · subst sw_24
    refine cq_tableIn F (off := 205) (tgt := 229) dL_acts_24 (by decide) (by decide) (by decide) (by decide) ?_
    obtain ⟨hc0, hc1, hc2, hc3, hc4⟩ := hrel.2.2.1 i hi
    have hq := hk.1.2.2.2.1 i hi
    have hTt := hq.time
    have hbt := hq.2.2.1
    have hbd : ns_burned (S_g S) i = S_g S (14 + 11 * i) + S_g S (15 + 11 * i) := rfl
    have h7 := hq.1
    have hff := hq.2.2.2.1
    refine cq_aload_n F (i := 2) dL_acts_229 rfl rfl ?_
    refine cq_iconst F (v := 5) dL_acts_230 rfl ?_
    refine cq_iload F dL_acts_231 rfl ?_
    refine cq_imul F dL_acts_233 ?_
    rw [show (5 * nI i : Int32) = nI (5 * i) from pk_mul _ _]
    refine cq_iald_j F (j := 5 * i) hc.1 hc.2 rfl ⟨(by omega), by decide⟩ dL_acts_234 ?_
    rw [hm.2.1 _ (by omega)]
    refine cq_aload_n F (i := 2) dL_acts_235 rfl rfl ?_
    refine cq_iconst F (v := 5) dL_acts_236 rfl ?_
    refine cq_iload F dL_acts_237 rfl ?_
    refine cq_imul F dL_acts_239 ?_
    rw [show (5 * nI i : Int32) = nI (5 * i) from pk_mul _ _]
    refine cq_iconst F (v := 1) dL_acts_240 rfl ?_
    refine cq_iadd F dL_acts_241 ?_
    rw [show (nI (5 * i) + 1 : Int32) = nI (5 * i + 1) from nI_add _ _]
    refine cq_iald_j F (j := (5 * i + 1)) hc.1 hc.2 rfl ⟨(by omega), by decide⟩ dL_acts_242 ?_
    rw [hm.2.1 _ (by omega)]
    refine cq_iadd F dL_acts_243 ?_
    rw [show (nI (c (5 * i)) + nI (c ((5 * i + 1))) : Int32) = nI ((c (5 * i)) + (c ((5 * i + 1)))) from nI_add _ _]
    refine cq_istore F dL_acts_244 (by decide) ?_
    refine cq_iconst F (v := 0) dL_acts_246 rfl ?_
    refine cq_istore F dL_acts_247 (by decide) ?_
    refine cq_loc (L2 := [(0, .ref o), (2, .ref ca), (8, .int (nI i)), (13, .int (nI ((c (5 * i)) + (c ((5 * i + 1)))))), (14, .int (nI 0))]) rfl ?_
    exact loop_249 5 i _ 0 c M hi (by show _ + _ = S_g S (14 + 11 * i) + S_g S (15 + 11 * i); rw [hc0, hc1]) (by omega) hm.2.1 (fun j => (if_neg (by omega)).symm) (fun _ _ => rfl) (by omega)
  · subst sw_24
    refine cq_tableIn F (off := 264) (tgt := 288) dL_acts_24 (by decide) (by decide) (by decide) (by decide) ?_
    obtain ⟨hc0, hc1, hc2, hc3, hc4⟩ := hrel.2.2.1 i hi
    have hq := hk.1.2.2.2.1 i hi
    have hTt := hq.time
    have hbt := hq.2.2.1
    have hbd : ns_burned (S_g S) i = S_g S (14 + 11 * i) + S_g S (15 + 11 * i) := rfl
    have h7 := hq.1
    have hff := hq.2.2.2.1
    refine cq_aload_n F (i := 2) dL_acts_288 rfl rfl ?_
    refine cq_iconst F (v := 5) dL_acts_289 rfl ?_
    refine cq_iload F dL_acts_290 rfl ?_
    refine cq_imul F dL_acts_292 ?_
    rw [show (5 * nI i : Int32) = nI (5 * i) from pk_mul _ _]
    refine cq_iconst F (v := 2) dL_acts_293 rfl ?_
    refine cq_iadd F dL_acts_294 ?_
    rw [show (nI (5 * i) + 2 : Int32) = nI (5 * i + 2) from nI_add _ _]
    refine cq_iload F dL_acts_295 rfl ?_
    refine cq_iadd F dL_acts_297 ?_
    rw [show (nI (5 * i + 2) + nI s : Int32) = nI ((5 * i + 2) + s) from nI_add _ _]
    refine cq_iald_j F (j := ((5 * i + 2) + s)) hc.1 hc.2 rfl ⟨(by omega), by decide⟩ dL_acts_298 ?_
    rw [hm.2.1 _ (by omega)]
    have hb9 : c (5 * i + 2 + s) ≤ 3 := by rw [hrel.bit hi (by omega)]; unfold ns_bit; split <;> omega
    refine cq_if_ne F (tgt := 322) dL_acts_299 (by decide) (fun c_299 => ?_) (fun c_299 => ?_)
    · have c_299 : ¬ (c (((5 * i + 2) + s))) = 0 := fun z => c_299 ((nI_b (a := (c (((5 * i + 2) + s)))) (b := 0) (by omega) (by omega)).2.2.mpr z)
      refine cq_aload_n F (i := 2) dL_acts_322 rfl rfl ?_
      refine cq_iconst F (v := 5) dL_acts_323 rfl ?_
      refine cq_iload F dL_acts_324 rfl ?_
      refine cq_imul F dL_acts_326 ?_
      rw [show (5 * nI i : Int32) = nI (5 * i) from pk_mul _ _]
      refine cq_iconst F (v := 2) dL_acts_327 rfl ?_
      refine cq_iadd F dL_acts_328 ?_
      rw [show (nI (5 * i) + 2 : Int32) = nI (5 * i + 2) from nI_add _ _]
      refine cq_iload F dL_acts_329 rfl ?_
      refine cq_iadd F dL_acts_331 ?_
      rw [show (nI (5 * i + 2) + nI s : Int32) = nI ((5 * i + 2) + s) from nI_add _ _]
      refine cq_iconst F (v := 0) dL_acts_332 rfl ?_
      refine cq_iast_j F (j := ((5 * i + 2) + s)) hc.1 hc.2 rfl ⟨(by omega), by decide⟩ dL_acts_333 (fun M_333 h_333 => ?_)
      have v_333_ta := hm.1.ne h_333 (by omega)
      obtain ⟨g_333, eg_333⟩ : ∃ z, z = ns_up c (((5 * i + 2) + s)) (0) := ⟨_, rfl⟩
      have v_333_ca : cq_nv M_333 ca 20 g_333 := by rw [eg_333]; exact hm.2.1.up h_333
      have v_333_ra := hm.2.2.1.ne h_333 (by omega)
      have v_333_na := hm.2.2.2.1.ne h_333 (by omega)
      have v_333_ba := hm.2.2.2.2.ne h_333 (by omega)
      have hput := hrel.put hk.1 hi (show s ≤ 1 by omega) c_299
      refine cq_aload_n F (i := 0) dL_acts_334 rfl rfl ?_
      refine cq_iload F dL_acts_335 rfl ?_
      refine cq_iload F dL_acts_337 rfl ?_
      refine cq_if_ne F (tgt := 346) dL_acts_339 (by decide) (fun c_339 => ?_) (fun c_339 => ?_)
      · have c_339 : ¬ s = 0 := fun z => c_339 ((nI_b (a := s) (b := 0) (by omega) (by omega)).2.2.mpr z)
        refine cq_iconst F (v := 0) dL_acts_346 rfl ?_
        refine cq_callV F (C := RX6) (ci := 7) (nq_putOut (l := l) (D := D) (cA := cA) (Bs := Bs) hl hb (ck.far h hk (fun x x1 x2 => by rw [h_333, cq_up_row (by omega)])) hk i s _ (by unfold ls_x; exact (if_neg c_339).symm) hi hput.2.2) (cwV 2 F.1.2.2.2.2 gL_acts_X6_putOut rfl rfl rfl hdVX6_putOut ⟨Nat.le_of_ble_eq_true rfl, Nat.le_of_ble_eq_true rfl⟩) hb.kind ⟨by decide, by decide⟩ rfl rfl rfl (Nat.le_of_ble_eq_true rfl) dL_acts_347 ⟨by show _ ≤ 10; omega, by show _ ≤ 60; omega⟩ (cq_kI fun r_347 M_347 h_347 => ?_)
        obtain rfl : r_347 = nI (ns_flames (ns_put (S_g S) i (ls_x s)) (S_g S 6)) := h_347.1
        refine cq_aload_n F (i := 2) dL_acts_350 rfl rfl ?_
        refine cq_aload F dL_acts_351 rfl ?_
        refine cq_callS F (kL_flames l D cA X Bs ca na (S_g S 1) B t g_333 r n b (ns_put (S_g S) i (ls_x s)) M_347 hc hn0 (v_333_ca.same (fun j => congrFun (h_347.2.2 _ (by omega)) j)) (v_333_na.same (fun j => congrFun (h_347.2.2 _ (by omega)) j)) (by rw [eg_333]; exact hput.1) hput.2.1) (va_cwS 2 F.1.2.2.2.2 gL_acts_L_flames rfl rfl rfl hdVL_flames.2 ⟨Nat.le_of_ble_eq_true rfl, Nat.le_of_ble_eq_true rfl⟩) rfl (Nat.le_of_ble_eq_true rfl) dL_acts_353 ⟨by show _ ≤ 10; omega, by show _ ≤ 60; omega⟩ (cq_kIp fun r_353 h_353 => ?_)
        rw [show ns_put (S_g S) i (ls_x s) 6 = S_g S 6 from ns_up_n (by omega)] at h_353
        subst h_353
        refine cq_icmp_ne F (tgt := 363) dL_acts_356 (by decide) (fun c_356 => ?_) (fun c_356 => ?_)
        · exact absurd rfl c_356
        · refine cq_iconst F (v := 1) dL_acts_359 rfl ?_
          refine cq_goto F (tgt := 364) dL_acts_360 (by decide) ?_
          refine cq_zret F hr (by rfl) (by omega) (by omega) dL_acts_364 ⟨_, rfl, ?_⟩
          refine ⟨rfl, _, h_347.2.1, (as_sv hk hput.2.1 (by omega)).mono (by omega), ⟨t, g_333, r, n, b, ⟨v_333_ta.same (fun j => congrFun (h_347.2.2 _ (by omega)) j), v_333_ca.same (fun j => congrFun (h_347.2.2 _ (by omega)) j), v_333_ra.same (fun j => congrFun (h_347.2.2 _ (by omega)) j), v_333_na.same (fun j => congrFun (h_347.2.2 _ (by omega)) j), v_333_ba.same (fun j => congrFun (h_347.2.2 _ (by omega)) j)⟩, ?_⟩, ?_⟩
          · rw [eg_333]
            show lr _ _ _ _ _ (ns_put (S_g S) i (ls_x s) 1) _
            rw [show ns_put (S_g S) i (ls_x s) 1 = S_g S 1 from ns_up_n (by omega)]
            exact hput.1
          · show 1 ≤ ns_put (S_g S) i (ls_x s) 6
            rw [show ns_put (S_g S) i (ls_x s) 6 = S_g S 6 from ns_up_n (by omega)]
            omega
      · have c_339 : s = 0 := (nI_b (a := s) (b := 0) (by omega) (by omega)).2.2.mp c_339
        refine cq_iconst F (v := 1) dL_acts_342 rfl ?_
        refine cq_goto F (tgt := 347) dL_acts_343 (by decide) ?_
        refine cq_callV F (C := RX6) (ci := 7) (nq_putOut (l := l) (D := D) (cA := cA) (Bs := Bs) hl hb (ck.far h hk (fun x x1 x2 => by rw [h_333, cq_up_row (by omega)])) hk i s _ (by rw [c_339]; rfl) hi hput.2.2) (cwV 2 F.1.2.2.2.2 gL_acts_X6_putOut rfl rfl rfl hdVX6_putOut ⟨Nat.le_of_ble_eq_true rfl, Nat.le_of_ble_eq_true rfl⟩) hb.kind ⟨by decide, by decide⟩ rfl rfl rfl (Nat.le_of_ble_eq_true rfl) dL_acts_347 ⟨by show _ ≤ 10; omega, by show _ ≤ 60; omega⟩ (cq_kI fun r_347 M_347 h_347 => ?_)
        obtain rfl : r_347 = nI (ns_flames (ns_put (S_g S) i (ls_x s)) (S_g S 6)) := h_347.1
        refine cq_aload_n F (i := 2) dL_acts_350 rfl rfl ?_
        refine cq_aload F dL_acts_351 rfl ?_
        refine cq_callS F (kL_flames l D cA X Bs ca na (S_g S 1) B t g_333 r n b (ns_put (S_g S) i (ls_x s)) M_347 hc hn0 (v_333_ca.same (fun j => congrFun (h_347.2.2 _ (by omega)) j)) (v_333_na.same (fun j => congrFun (h_347.2.2 _ (by omega)) j)) (by rw [eg_333]; exact hput.1) hput.2.1) (va_cwS 2 F.1.2.2.2.2 gL_acts_L_flames rfl rfl rfl hdVL_flames.2 ⟨Nat.le_of_ble_eq_true rfl, Nat.le_of_ble_eq_true rfl⟩) rfl (Nat.le_of_ble_eq_true rfl) dL_acts_353 ⟨by show _ ≤ 10; omega, by show _ ≤ 60; omega⟩ (cq_kIp fun r_353 h_353 => ?_)
        rw [show ns_put (S_g S) i (ls_x s) 6 = S_g S 6 from ns_up_n (by omega)] at h_353
        subst h_353
        refine cq_icmp_ne F (tgt := 363) dL_acts_356 (by decide) (fun c_356 => ?_) (fun c_356 => ?_)
        · exact absurd rfl c_356
        · refine cq_iconst F (v := 1) dL_acts_359 rfl ?_
          refine cq_goto F (tgt := 364) dL_acts_360 (by decide) ?_
          refine cq_zret F hr (by rfl) (by omega) (by omega) dL_acts_364 ⟨_, rfl, ?_⟩
          refine ⟨rfl, _, h_347.2.1, (as_sv hk hput.2.1 (by omega)).mono (by omega), ⟨t, g_333, r, n, b, ⟨v_333_ta.same (fun j => congrFun (h_347.2.2 _ (by omega)) j), v_333_ca.same (fun j => congrFun (h_347.2.2 _ (by omega)) j), v_333_ra.same (fun j => congrFun (h_347.2.2 _ (by omega)) j), v_333_na.same (fun j => congrFun (h_347.2.2 _ (by omega)) j), v_333_ba.same (fun j => congrFun (h_347.2.2 _ (by omega)) j)⟩, ?_⟩, ?_⟩
          · rw [eg_333]
            show lr _ _ _ _ _ (ns_put (S_g S) i (ls_x s) 1) _
            rw [show ns_put (S_g S) i (ls_x s) 1 = S_g S 1 from ns_up_n (by omega)]
            exact hput.1
          · show 1 ≤ ns_put (S_g S) i (ls_x s) 6
            rw [show ns_put (S_g S) i (ls_x s) 6 = S_g S 6 from ns_up_n (by omega)]
            omega
    · have c_299 : (c (((5 * i + 2) + s))) = 0 := (nI_b (a := (c (((5 * i + 2) + s)))) (b := 0) (by omega) (by omega)).2.2.mp c_299
      refine cq_aload_n F (i := 0) dL_acts_302 rfl rfl ?_
      refine cq_iconst F (v := 3) dL_acts_303 rfl ?_
      refine cq_callV F (C := RX6) (ci := 7) (nq_count (l := l) (D := D) (cA := cA) (Bs := Bs) hl hb h hk 3 (by omega)) (cwV 1 F.1.2.2.2.2 gL_acts_X6_count rfl rfl rfl hdVX6_count ⟨Nat.le_of_ble_eq_true rfl, Nat.le_of_ble_eq_true rfl⟩) hb.kind ⟨by decide, by decide⟩ rfl rfl rfl (Nat.le_of_ble_eq_true rfl) dL_acts_304 ⟨by show _ ≤ 10; omega, by show _ ≤ 60; omega⟩ (cq_kIp fun r_304 h_304 => ?_)
      obtain rfl : r_304 = nI (ns_flames (S_g S) (S_g S 6)) := h_304
      refine cq_aload_n F (i := 2) dL_acts_307 rfl rfl ?_
      refine cq_aload F dL_acts_308 rfl ?_
      refine cq_callS F (kL_flames l D cA X Bs ca na (S_g S 1) B t c r n b (S_g S) M hc hn0 hm.2.1 hm.2.2.2.1 hrel hk.1) (va_cwS 2 F.1.2.2.2.2 gL_acts_L_flames rfl rfl rfl hdVL_flames.2 ⟨Nat.le_of_ble_eq_true rfl, Nat.le_of_ble_eq_true rfl⟩) rfl (Nat.le_of_ble_eq_true rfl) dL_acts_310 ⟨by show _ ≤ 10; omega, by show _ ≤ 60; omega⟩ (cq_kIp fun r_310 h_310 => ?_)
      subst h_310
      refine cq_icmp_ne F (tgt := 320) dL_acts_313 (by decide) (fun c_313 => ?_) (fun c_313 => ?_)
      · exact absurd rfl c_313
      · refine cq_iconst F (v := 1) dL_acts_316 rfl ?_
        refine cq_goto F (tgt := 321) dL_acts_317 (by decide) ?_
        exact cq_zret F hr (by rfl) (by omega) (by omega) dL_acts_321 ⟨_, rfl, ⟨rfl, S, h, hk.mono (by omega), ⟨t, c, r, n, b, hm, hrel⟩, by omega⟩⟩
  · subst sw_24
    refine cq_tableIn F (off := 341) (tgt := 365) dL_acts_24 (by decide) (by decide) (by decide) (by decide) ?_
    refine cq_iload F dL_acts_365 rfl ?_
    refine cq_iconst F (v := 4) dL_acts_367 rfl ?_
    refine cq_ishr F dL_acts_368 ?_
    refine cq_aload F dL_acts_369 rfl ?_
    refine cq_bipush F (v := 6) dL_acts_371 (by decide) ?_
    refine cq_iald_j F (j := 6) hn0.1 hn0.2 rfl ⟨(by omega), by decide⟩ dL_acts_373 ?_
    rw [(show M na 6 = nI (S_g S 6) by rw [hvn9 _ (by omega), n6])]
    refine cq_callS F (kL_low l D cA X Bs _ (S_g S 6) M (by omega) (by omega)) (va_cwS 2 F.1.2.2.2.2 gL_acts_L_low rfl rfl rfl hdVL_low.2 ⟨Nat.le_of_ble_eq_true rfl, Nat.le_of_ble_eq_true rfl⟩) rfl (Nat.le_of_ble_eq_true rfl) dL_acts_374 ⟨by show _ ≤ 10; omega, by show _ ≤ 60; omega⟩ (cq_kIp fun r_374 h_374 => ?_)
    obtain ⟨ot, hot, rfl⟩ := h_374
    refine cq_istore F dL_acts_377 (by decide) ?_
    refine cq_iload F dL_acts_379 rfl ?_
    refine cq_iload F dL_acts_381 rfl ?_
    refine cq_icmp_eq F (tgt := 396) dL_acts_383 (by decide) (fun c_383 => ?_) (fun c_383 => ?_)
    · have c_383 : ot = i := (nI_b (a := ot) (b := i) (by omega) (by omega)).2.2.mp c_383
      refine cq_aload_n F (i := 0) dL_acts_396 rfl rfl ?_
      refine cq_iconst F (v := 2) dL_acts_397 rfl ?_
      refine cq_callV F (C := RX6) (ci := 7) (nq_count (l := l) (D := D) (cA := cA) (Bs := Bs) hl hb h hk 2 (by omega)) (cwV 1 F.1.2.2.2.2 gL_acts_X6_count rfl rfl rfl hdVX6_count ⟨Nat.le_of_ble_eq_true rfl, Nat.le_of_ble_eq_true rfl⟩) hb.kind ⟨by decide, by decide⟩ rfl rfl rfl (Nat.le_of_ble_eq_true rfl) dL_acts_398 ⟨by show _ ≤ 10; omega, by show _ ≤ 60; omega⟩ (cq_kIp fun r_398 h_398 => ?_)
      obtain rfl : r_398 = nI (S_g S 51) := h_398
      refine cq_aload F dL_acts_401 rfl ?_
      refine cq_bipush F (v := 7) dL_acts_403 (by decide) ?_
      refine cq_iald_j F (j := 7) hn0.1 hn0.2 rfl ⟨(by omega), by decide⟩ dL_acts_405 ?_
      rw [(show M na 7 = nI (S_g S 51) by rw [hvn9 _ (by omega), n7])]
      refine cq_icmp_ne F (tgt := 413) dL_acts_406 (by decide) (fun c_406 => ?_) (fun c_406 => ?_)
      · exact absurd rfl c_406
      · refine cq_iconst F (v := 1) dL_acts_409 rfl ?_
        refine cq_goto F (tgt := 414) dL_acts_410 (by decide) ?_
        exact cq_zret F hr (by rfl) (by omega) (by omega) dL_acts_414 ⟨_, rfl, ⟨rfl, S, h, hk.mono (by omega), ⟨t, c, r, n, b, hm, hrel⟩, by omega⟩⟩
    · have c_383 : ¬ ot = i := fun z => c_383 ((nI_b (a := ot) (b := i) (by omega) (by omega)).2.2.mpr z)
      refine cq_aload F dL_acts_386 rfl ?_
      refine cq_bipush F (v := 7) dL_acts_388 (by decide) ?_
      refine cq_iald_j F (j := 7) hn0.1 hn0.2 rfl ⟨(by omega), by decide⟩ dL_acts_390 ?_
      rw [(show M na 7 = nI (S_g S 51) by rw [hvn9 _ (by omega), n7])]
      refine cq_bipush F (v := 8) dL_acts_391 (by decide) ?_
      refine cq_icmp_ne F (tgt := 415) dL_acts_393 (by decide) (fun c_393 => ?_) (fun c_393 => ?_)
      · have c_393 : ¬ (S_g S 51) = 8 := fun z => c_393 ((nI_b (a := (S_g S 51)) (b := 8) (by omega) (by omega)).2.2.mpr z)
        have hn8 : S_g S 51 < 8 := by omega
        refine cq_aload_n F (i := 3) dL_acts_415 rfl rfl ?_
        refine cq_iconst F (v := 4) dL_acts_416 rfl ?_
        refine cq_aload F dL_acts_417 rfl ?_
        refine cq_bipush F (v := 7) dL_acts_419 (by decide) ?_
        refine cq_iald_j F (j := 7) hn0.1 hn0.2 rfl ⟨(by omega), by decide⟩ dL_acts_421 ?_
        rw [(show M na 7 = nI (S_g S 51) by rw [hvn9 _ (by omega), n7])]
        refine cq_imul F dL_acts_422 ?_
        rw [show (4 * nI (S_g S 51) : Int32) = nI (4 * (S_g S 51)) from pk_mul _ _]
        refine cq_iload F dL_acts_423 rfl ?_
        refine cq_iast_j F (j := 4 * (S_g S 51)) hr0.1 hr0.2 rfl ⟨(by omega), by decide⟩ dL_acts_425 (fun M_425 h_425 => ?_)
        have v_425_ta := hm.1.ne h_425 (by omega)
        have v_425_ca := hm.2.1.ne h_425 (by omega)
        obtain ⟨g_425, eg_425⟩ : ∃ z, z = ns_up r (4 * (S_g S 51)) (i) := ⟨_, rfl⟩
        have v_425_ra : cq_nv M_425 ra 32 g_425 := by rw [eg_425]; exact hm.2.2.1.up h_425
        have v_425_na := hm.2.2.2.1.ne h_425 (by omega)
        have v_425_ba := hm.2.2.2.2.ne h_425 (by omega)
        refine cq_aload_n F (i := 3) dL_acts_426 rfl rfl ?_
        refine cq_iconst F (v := 4) dL_acts_427 rfl ?_
        refine cq_aload F dL_acts_428 rfl ?_
        refine cq_bipush F (v := 7) dL_acts_430 (by decide) ?_
        refine cq_iald_j F (j := 7) hn0.1 hn0.2 rfl ⟨(by omega), by decide⟩ dL_acts_432 ?_
        rw [(show M_425 na 7 = nI (S_g S 51) by rw [h_425, cq_up_a (by omega), hvn9 _ (by omega), n7])]
        refine cq_imul F dL_acts_433 ?_
        rw [show (4 * nI (S_g S 51) : Int32) = nI (4 * (S_g S 51)) from pk_mul _ _]
        refine cq_iconst F (v := 1) dL_acts_434 rfl ?_
        refine cq_iadd F dL_acts_435 ?_
        rw [show (nI (4 * (S_g S 51)) + 1 : Int32) = nI (4 * (S_g S 51) + 1) from nI_add _ _]
        refine cq_iload F dL_acts_436 rfl ?_
        refine cq_iast_j F (j := (4 * (S_g S 51) + 1)) hr0.1 hr0.2 rfl ⟨(by omega), by decide⟩ dL_acts_438 (fun M_438 h_438 => ?_)
        have v_438_ta := v_425_ta.ne h_438 (by omega)
        have v_438_ca := v_425_ca.ne h_438 (by omega)
        obtain ⟨g_438, eg_438⟩ : ∃ z, z = ns_up g_425 ((4 * (S_g S 51) + 1)) (ot) := ⟨_, rfl⟩
        have v_438_ra : cq_nv M_438 ra 32 g_438 := by rw [eg_438]; exact v_425_ra.up h_438
        have v_438_na := v_425_na.ne h_438 (by omega)
        have v_438_ba := v_425_ba.ne h_438 (by omega)
        refine cq_aload_n F (i := 3) dL_acts_439 rfl rfl ?_
        refine cq_iconst F (v := 4) dL_acts_440 rfl ?_
        refine cq_aload F dL_acts_441 rfl ?_
        refine cq_bipush F (v := 7) dL_acts_443 (by decide) ?_
        refine cq_iald_j F (j := 7) hn0.1 hn0.2 rfl ⟨(by omega), by decide⟩ dL_acts_445 ?_
        rw [(show M_438 na 7 = nI (S_g S 51) by rw [h_438, cq_up_a (by omega), h_425, cq_up_a (by omega), hvn9 _ (by omega), n7])]
        refine cq_imul F dL_acts_446 ?_
        rw [show (4 * nI (S_g S 51) : Int32) = nI (4 * (S_g S 51)) from pk_mul _ _]
        refine cq_iconst F (v := 2) dL_acts_447 rfl ?_
        refine cq_iadd F dL_acts_448 ?_
        rw [show (nI (4 * (S_g S 51)) + 2 : Int32) = nI (4 * (S_g S 51) + 2) from nI_add _ _]
        refine cq_iload F dL_acts_449 rfl ?_
        refine cq_iast_j F (j := (4 * (S_g S 51) + 2)) hr0.1 hr0.2 rfl ⟨(by omega), by decide⟩ dL_acts_451 (fun M_451 h_451 => ?_)
        have v_451_ta := v_438_ta.ne h_451 (by omega)
        have v_451_ca := v_438_ca.ne h_451 (by omega)
        obtain ⟨g_451, eg_451⟩ : ∃ z, z = ns_up g_438 ((4 * (S_g S 51) + 2)) (s) := ⟨_, rfl⟩
        have v_451_ra : cq_nv M_451 ra 32 g_451 := by rw [eg_451]; exact v_438_ra.up h_451
        have v_451_na := v_438_na.ne h_451 (by omega)
        have v_451_ba := v_438_ba.ne h_451 (by omega)
        refine cq_aload_n F (i := 3) dL_acts_452 rfl rfl ?_
        refine cq_iconst F (v := 4) dL_acts_453 rfl ?_
        refine cq_aload F dL_acts_454 rfl ?_
        refine cq_bipush F (v := 7) dL_acts_456 (by decide) ?_
        refine cq_iald_j F (j := 7) hn0.1 hn0.2 rfl ⟨(by omega), by decide⟩ dL_acts_458 ?_
        rw [(show M_451 na 7 = nI (S_g S 51) by rw [h_451, cq_up_a (by omega), h_438, cq_up_a (by omega), h_425, cq_up_a (by omega), hvn9 _ (by omega), n7])]
        refine cq_imul F dL_acts_459 ?_
        rw [show (4 * nI (S_g S 51) : Int32) = nI (4 * (S_g S 51)) from pk_mul _ _]
        refine cq_iconst F (v := 3) dL_acts_460 rfl ?_
        refine cq_iadd F dL_acts_461 ?_
        rw [show (nI (4 * (S_g S 51)) + 3 : Int32) = nI (4 * (S_g S 51) + 3) from nI_add _ _]
        refine cq_iconst F (v := 0) dL_acts_462 rfl ?_
        refine cq_iast_j F (j := (4 * (S_g S 51) + 3)) hr0.1 hr0.2 rfl ⟨(by omega), by decide⟩ dL_acts_463 (fun M_463 h_463 => ?_)
        have v_463_ta := v_451_ta.ne h_463 (by omega)
        have v_463_ca := v_451_ca.ne h_463 (by omega)
        obtain ⟨g_463, eg_463⟩ : ∃ z, z = ns_up g_451 ((4 * (S_g S 51) + 3)) (0) := ⟨_, rfl⟩
        have v_463_ra : cq_nv M_463 ra 32 g_463 := by rw [eg_463]; exact v_451_ra.up h_463
        have v_463_na := v_451_na.ne h_463 (by omega)
        have v_463_ba := v_451_ba.ne h_463 (by omega)
        refine cq_aload F dL_acts_464 rfl ?_
        refine cq_bipush F (v := 7) dL_acts_466 (by decide) ?_
        refine cq_dup2 F dL_acts_468 rfl rfl ?_
        refine cq_iald_j F (j := 7) hn0.1 hn0.2 rfl ⟨(by omega), by decide⟩ dL_acts_469 ?_
        rw [(show M_463 na 7 = nI (S_g S 51) by rw [h_463, cq_up_a (by omega), h_451, cq_up_a (by omega), h_438, cq_up_a (by omega), h_425, cq_up_a (by omega), hvn9 _ (by omega), n7])]
        refine cq_iconst F (v := 1) dL_acts_470 rfl ?_
        refine cq_iadd F dL_acts_471 ?_
        rw [show (nI (S_g S 51) + 1 : Int32) = nI ((S_g S 51) + 1) from nI_add _ _]
        refine cq_iast_j F (j := 7) hn0.1 hn0.2 rfl ⟨(by omega), by decide⟩ dL_acts_472 (fun M_472 h_472 => ?_)
        have v_472_ta := v_463_ta.ne h_472 (by omega)
        have v_472_ca := v_463_ca.ne h_472 (by omega)
        have v_472_ra := v_463_ra.ne h_472 (by omega)
        obtain ⟨g_472, eg_472⟩ : ∃ z, z = ns_up n (7) (((S_g S 51) + 1)) := ⟨_, rfl⟩
        have v_472_na : cq_nv M_472 na 9 g_472 := by rw [eg_472]; exact v_463_na.up h_472
        have v_472_ba := v_463_ba.ne h_472 (by omega)
        have e472 : g_472 7 = S_g S 51 + 1 := by rw [eg_472, ns_up_s]
        refine cq_aload_n F (i := 0) dL_acts_473 rfl rfl ?_
        refine cq_iload F dL_acts_474 rfl ?_
        refine cq_iload F dL_acts_476 rfl ?_
        refine cq_iload F dL_acts_478 rfl ?_
        refine cq_if_ne F (tgt := 487) dL_acts_480 (by decide) (fun c_480 => ?_) (fun c_480 => ?_)
        · have c_480 : ¬ s = 0 := fun z => c_480 ((nI_b (a := s) (b := 0) (by omega) (by omega)).2.2.mpr z)
          refine cq_iconst F (v := 0) dL_acts_487 rfl ?_
          refine cq_callV F (C := RX6) (ci := 7) (nq_rule (l := l) (D := D) (cA := cA) (Bs := Bs) hl hb (ck.far h hk (fun x x1 x2 => by rw [h_472, cq_up_row (by omega), h_463, cq_up_row (by omega), h_451, cq_up_row (by omega), h_438, cq_up_row (by omega), h_425, cq_up_row (by omega)])) hk i ot 0 hi hot c_383 (by omega) hn8) (cwV 3 F.1.2.2.2.2 gL_acts_X6_rule rfl rfl rfl hdVX6_rule ⟨Nat.le_of_ble_eq_true rfl, Nat.le_of_ble_eq_true rfl⟩) hb.kind ⟨by decide, by decide⟩ rfl rfl rfl (Nat.le_of_ble_eq_true rfl) dL_acts_488 ⟨by show _ ≤ 10; omega, by show _ ≤ 60; omega⟩ (cq_kI fun r_488 M_488 h_488 => ?_)
          obtain rfl : r_488 = nI (S_g S 51) := h_488.1
          refine cq_aload F dL_acts_491 rfl ?_
          refine cq_bipush F (v := 7) dL_acts_493 (by decide) ?_
          refine cq_iald_j F (j := 7) hn0.1 hn0.2 rfl ⟨(by omega), by decide⟩ dL_acts_495 ?_
          rw [(v_472_na.same (fun j => congrFun (h_488.2.2 _ (by omega)) j)) _ (by omega)]
          refine cq_iconst F (v := 1) dL_acts_496 rfl ?_
          refine cq_isub F dL_acts_497 ?_
          rw [show (nI (g_472 (7)) - 1 : Int32) = nI ((g_472 (7)) - 1) from pk_sub (a := (g_472 (7))) (b := 1) (by omega)]
          refine cq_icmp_ne F (tgt := 505) dL_acts_498 (by decide) (fun c_498 => ?_) (fun c_498 => ?_)
          · have c_498 : ¬ (S_g S 51) = ((g_472 (7)) - 1) := fun z => c_498 ((nI_b (a := (S_g S 51)) (b := ((g_472 (7)) - 1)) (by omega) (by omega)).2.2.mpr z)
            omega
          · have c_498 : (S_g S 51) = ((g_472 (7)) - 1) := (nI_b (a := (S_g S 51)) (b := ((g_472 (7)) - 1)) (by omega) (by omega)).2.2.mp c_498
            refine cq_iconst F (v := 1) dL_acts_501 rfl ?_
            refine cq_goto F (tgt := 506) dL_acts_502 (by decide) ?_
            refine cq_zret F hr (by rfl) (by omega) (by omega) dL_acts_506 ⟨_, rfl, ?_⟩
            refine ⟨rfl, _, h_488.2.1, (as_sv hk (hk.1.newRule hn8 hi hot (by omega)) (by omega)).mono (by omega), ⟨t, c, g_463, g_472, b, ⟨v_472_ta.same (fun j => congrFun (h_488.2.2 _ (by omega)) j), v_472_ca.same (fun j => congrFun (h_488.2.2 _ (by omega)) j), v_472_ra.same (fun j => congrFun (h_488.2.2 _ (by omega)) j), v_472_na.same (fun j => congrFun (h_488.2.2 _ (by omega)) j), v_472_ba.same (fun j => congrFun (h_488.2.2 _ (by omega)) j)⟩, ?_⟩, ?_⟩
            · rw [eg_472]
              show lr _ _ _ _ _ (ns_newRule (S_g S) i ot 0 1) _
              rw [show ns_newRule (S_g S) i ot 0 1 = S_g S 1 from by unfold ns_newRule; rw [ns_up_n (by omega), ns_up_n (by omega), ns_up_n (by omega), ns_up_n (by omega), ns_up_n (by omega)]]
              have q := hrel.newRule (r' := g_463) (a := i) (x := ot) (s := s) hk.1 hn8 (by omega) (fun j hj => by rw [eg_463, ns_up_n (by omega), eg_451, ns_up_n (by omega), eg_438, ns_up_n (by omega), eg_425, ns_up_n (by omega)]) (by rw [eg_463, ns_up_n (by omega), eg_451, ns_up_n (by omega), eg_438, ns_up_n (by omega), eg_425, ns_up_s]) (by rw [eg_463, ns_up_n (by omega), eg_451, ns_up_n (by omega), eg_438, ns_up_s]) (by rw [eg_463, ns_up_n (by omega), eg_451, ns_up_s]) (by rw [eg_463, ns_up_s])
              rw [show 1 - s = 0 by omega] at q
              exact q
            · show 1 ≤ ns_newRule (S_g S) i ot 0 6
              rw [show ns_newRule (S_g S) i ot 0 6 = S_g S 6 from by unfold ns_newRule; rw [ns_up_n (by omega), ns_up_n (by omega), ns_up_n (by omega), ns_up_n (by omega), ns_up_n (by omega)]]
              omega
        · have c_480 : s = 0 := (nI_b (a := s) (b := 0) (by omega) (by omega)).2.2.mp c_480
          refine cq_iconst F (v := 1) dL_acts_483 rfl ?_
          refine cq_goto F (tgt := 488) dL_acts_484 (by decide) ?_
          refine cq_callV F (C := RX6) (ci := 7) (nq_rule (l := l) (D := D) (cA := cA) (Bs := Bs) hl hb (ck.far h hk (fun x x1 x2 => by rw [h_472, cq_up_row (by omega), h_463, cq_up_row (by omega), h_451, cq_up_row (by omega), h_438, cq_up_row (by omega), h_425, cq_up_row (by omega)])) hk i ot 1 hi hot c_383 (by omega) hn8) (cwV 3 F.1.2.2.2.2 gL_acts_X6_rule rfl rfl rfl hdVX6_rule ⟨Nat.le_of_ble_eq_true rfl, Nat.le_of_ble_eq_true rfl⟩) hb.kind ⟨by decide, by decide⟩ rfl rfl rfl (Nat.le_of_ble_eq_true rfl) dL_acts_488 ⟨by show _ ≤ 10; omega, by show _ ≤ 60; omega⟩ (cq_kI fun r_488 M_488 h_488 => ?_)
          obtain rfl : r_488 = nI (S_g S 51) := h_488.1
          refine cq_aload F dL_acts_491 rfl ?_
          refine cq_bipush F (v := 7) dL_acts_493 (by decide) ?_
          refine cq_iald_j F (j := 7) hn0.1 hn0.2 rfl ⟨(by omega), by decide⟩ dL_acts_495 ?_
          rw [(v_472_na.same (fun j => congrFun (h_488.2.2 _ (by omega)) j)) _ (by omega)]
          refine cq_iconst F (v := 1) dL_acts_496 rfl ?_
          refine cq_isub F dL_acts_497 ?_
          rw [show (nI (g_472 (7)) - 1 : Int32) = nI ((g_472 (7)) - 1) from pk_sub (a := (g_472 (7))) (b := 1) (by omega)]
          refine cq_icmp_ne F (tgt := 505) dL_acts_498 (by decide) (fun c_498 => ?_) (fun c_498 => ?_)
          · have c_498 : ¬ (S_g S 51) = ((g_472 (7)) - 1) := fun z => c_498 ((nI_b (a := (S_g S 51)) (b := ((g_472 (7)) - 1)) (by omega) (by omega)).2.2.mpr z)
            omega
          · have c_498 : (S_g S 51) = ((g_472 (7)) - 1) := (nI_b (a := (S_g S 51)) (b := ((g_472 (7)) - 1)) (by omega) (by omega)).2.2.mp c_498
            refine cq_iconst F (v := 1) dL_acts_501 rfl ?_
            refine cq_goto F (tgt := 506) dL_acts_502 (by decide) ?_
            refine cq_zret F hr (by rfl) (by omega) (by omega) dL_acts_506 ⟨_, rfl, ?_⟩
            refine ⟨rfl, _, h_488.2.1, (as_sv hk (hk.1.newRule hn8 hi hot (by omega)) (by omega)).mono (by omega), ⟨t, c, g_463, g_472, b, ⟨v_472_ta.same (fun j => congrFun (h_488.2.2 _ (by omega)) j), v_472_ca.same (fun j => congrFun (h_488.2.2 _ (by omega)) j), v_472_ra.same (fun j => congrFun (h_488.2.2 _ (by omega)) j), v_472_na.same (fun j => congrFun (h_488.2.2 _ (by omega)) j), v_472_ba.same (fun j => congrFun (h_488.2.2 _ (by omega)) j)⟩, ?_⟩, ?_⟩
            · rw [eg_472]
              show lr _ _ _ _ _ (ns_newRule (S_g S) i ot 1 1) _
              rw [show ns_newRule (S_g S) i ot 1 1 = S_g S 1 from by unfold ns_newRule; rw [ns_up_n (by omega), ns_up_n (by omega), ns_up_n (by omega), ns_up_n (by omega), ns_up_n (by omega)]]
              have q := hrel.newRule (r' := g_463) (a := i) (x := ot) (s := s) hk.1 hn8 (by omega) (fun j hj => by rw [eg_463, ns_up_n (by omega), eg_451, ns_up_n (by omega), eg_438, ns_up_n (by omega), eg_425, ns_up_n (by omega)]) (by rw [eg_463, ns_up_n (by omega), eg_451, ns_up_n (by omega), eg_438, ns_up_n (by omega), eg_425, ns_up_s]) (by rw [eg_463, ns_up_n (by omega), eg_451, ns_up_n (by omega), eg_438, ns_up_s]) (by rw [eg_463, ns_up_n (by omega), eg_451, ns_up_s]) (by rw [eg_463, ns_up_s])
              rw [show 1 - s = 1 by omega] at q
              exact q
            · show 1 ≤ ns_newRule (S_g S) i ot 1 6
              rw [show ns_newRule (S_g S) i ot 1 6 = S_g S 6 from by unfold ns_newRule; rw [ns_up_n (by omega), ns_up_n (by omega), ns_up_n (by omega), ns_up_n (by omega), ns_up_n (by omega)]]
              omega
      · have c_393 : (S_g S 51) = 8 := (nI_b (a := (S_g S 51)) (b := 8) (by omega) (by omega)).2.2.mp c_393
        refine cq_aload_n F (i := 0) dL_acts_396 rfl rfl ?_
        refine cq_iconst F (v := 2) dL_acts_397 rfl ?_
        refine cq_callV F (C := RX6) (ci := 7) (nq_count (l := l) (D := D) (cA := cA) (Bs := Bs) hl hb h hk 2 (by omega)) (cwV 1 F.1.2.2.2.2 gL_acts_X6_count rfl rfl rfl hdVX6_count ⟨Nat.le_of_ble_eq_true rfl, Nat.le_of_ble_eq_true rfl⟩) hb.kind ⟨by decide, by decide⟩ rfl rfl rfl (Nat.le_of_ble_eq_true rfl) dL_acts_398 ⟨by show _ ≤ 10; omega, by show _ ≤ 60; omega⟩ (cq_kIp fun r_398 h_398 => ?_)
        obtain rfl : r_398 = nI (S_g S 51) := h_398
        refine cq_aload F dL_acts_401 rfl ?_
        refine cq_bipush F (v := 7) dL_acts_403 (by decide) ?_
        refine cq_iald_j F (j := 7) hn0.1 hn0.2 rfl ⟨(by omega), by decide⟩ dL_acts_405 ?_
        rw [(show M na 7 = nI (S_g S 51) by rw [hvn9 _ (by omega), n7])]
        refine cq_icmp_ne F (tgt := 413) dL_acts_406 (by decide) (fun c_406 => ?_) (fun c_406 => ?_)
        · exact absurd rfl c_406
        · refine cq_iconst F (v := 1) dL_acts_409 rfl ?_
          refine cq_goto F (tgt := 414) dL_acts_410 (by decide) ?_
          exact cq_zret F hr (by rfl) (by omega) (by omega) dL_acts_414 ⟨_, rfl, ⟨rfl, S, h, hk.mono (by omega), ⟨t, c, r, n, b, hm, hrel⟩, by omega⟩⟩
  · subst sw_24
    refine cq_tableIn F (off := 341) (tgt := 365) dL_acts_24 (by decide) (by decide) (by decide) (by decide) ?_
    refine cq_iload F dL_acts_365 rfl ?_
    refine cq_iconst F (v := 4) dL_acts_367 rfl ?_
    refine cq_ishr F dL_acts_368 ?_
    refine cq_aload F dL_acts_369 rfl ?_
    refine cq_bipush F (v := 6) dL_acts_371 (by decide) ?_
    refine cq_iald_j F (j := 6) hn0.1 hn0.2 rfl ⟨(by omega), by decide⟩ dL_acts_373 ?_
    rw [(show M na 6 = nI (S_g S 6) by rw [hvn9 _ (by omega), n6])]
    refine cq_callS F (kL_low l D cA X Bs _ (S_g S 6) M (by omega) (by omega)) (va_cwS 2 F.1.2.2.2.2 gL_acts_L_low rfl rfl rfl hdVL_low.2 ⟨Nat.le_of_ble_eq_true rfl, Nat.le_of_ble_eq_true rfl⟩) rfl (Nat.le_of_ble_eq_true rfl) dL_acts_374 ⟨by show _ ≤ 10; omega, by show _ ≤ 60; omega⟩ (cq_kIp fun r_374 h_374 => ?_)
    obtain ⟨ot, hot, rfl⟩ := h_374
    refine cq_istore F dL_acts_377 (by decide) ?_
    refine cq_iload F dL_acts_379 rfl ?_
    refine cq_iload F dL_acts_381 rfl ?_
    refine cq_icmp_eq F (tgt := 396) dL_acts_383 (by decide) (fun c_383 => ?_) (fun c_383 => ?_)
    · have c_383 : ot = i := (nI_b (a := ot) (b := i) (by omega) (by omega)).2.2.mp c_383
      refine cq_aload_n F (i := 0) dL_acts_396 rfl rfl ?_
      refine cq_iconst F (v := 2) dL_acts_397 rfl ?_
      refine cq_callV F (C := RX6) (ci := 7) (nq_count (l := l) (D := D) (cA := cA) (Bs := Bs) hl hb h hk 2 (by omega)) (cwV 1 F.1.2.2.2.2 gL_acts_X6_count rfl rfl rfl hdVX6_count ⟨Nat.le_of_ble_eq_true rfl, Nat.le_of_ble_eq_true rfl⟩) hb.kind ⟨by decide, by decide⟩ rfl rfl rfl (Nat.le_of_ble_eq_true rfl) dL_acts_398 ⟨by show _ ≤ 10; omega, by show _ ≤ 60; omega⟩ (cq_kIp fun r_398 h_398 => ?_)
      obtain rfl : r_398 = nI (S_g S 51) := h_398
      refine cq_aload F dL_acts_401 rfl ?_
      refine cq_bipush F (v := 7) dL_acts_403 (by decide) ?_
      refine cq_iald_j F (j := 7) hn0.1 hn0.2 rfl ⟨(by omega), by decide⟩ dL_acts_405 ?_
      rw [(show M na 7 = nI (S_g S 51) by rw [hvn9 _ (by omega), n7])]
      refine cq_icmp_ne F (tgt := 413) dL_acts_406 (by decide) (fun c_406 => ?_) (fun c_406 => ?_)
      · exact absurd rfl c_406
      · refine cq_iconst F (v := 1) dL_acts_409 rfl ?_
        refine cq_goto F (tgt := 414) dL_acts_410 (by decide) ?_
        exact cq_zret F hr (by rfl) (by omega) (by omega) dL_acts_414 ⟨_, rfl, ⟨rfl, S, h, hk.mono (by omega), ⟨t, c, r, n, b, hm, hrel⟩, by omega⟩⟩
    · have c_383 : ¬ ot = i := fun z => c_383 ((nI_b (a := ot) (b := i) (by omega) (by omega)).2.2.mpr z)
      refine cq_aload F dL_acts_386 rfl ?_
      refine cq_bipush F (v := 7) dL_acts_388 (by decide) ?_
      refine cq_iald_j F (j := 7) hn0.1 hn0.2 rfl ⟨(by omega), by decide⟩ dL_acts_390 ?_
      rw [(show M na 7 = nI (S_g S 51) by rw [hvn9 _ (by omega), n7])]
      refine cq_bipush F (v := 8) dL_acts_391 (by decide) ?_
      refine cq_icmp_ne F (tgt := 415) dL_acts_393 (by decide) (fun c_393 => ?_) (fun c_393 => ?_)
      · have c_393 : ¬ (S_g S 51) = 8 := fun z => c_393 ((nI_b (a := (S_g S 51)) (b := 8) (by omega) (by omega)).2.2.mpr z)
        have hn8 : S_g S 51 < 8 := by omega
        refine cq_aload_n F (i := 3) dL_acts_415 rfl rfl ?_
        refine cq_iconst F (v := 4) dL_acts_416 rfl ?_
        refine cq_aload F dL_acts_417 rfl ?_
        refine cq_bipush F (v := 7) dL_acts_419 (by decide) ?_
        refine cq_iald_j F (j := 7) hn0.1 hn0.2 rfl ⟨(by omega), by decide⟩ dL_acts_421 ?_
        rw [(show M na 7 = nI (S_g S 51) by rw [hvn9 _ (by omega), n7])]
        refine cq_imul F dL_acts_422 ?_
        rw [show (4 * nI (S_g S 51) : Int32) = nI (4 * (S_g S 51)) from pk_mul _ _]
        refine cq_iload F dL_acts_423 rfl ?_
        refine cq_iast_j F (j := 4 * (S_g S 51)) hr0.1 hr0.2 rfl ⟨(by omega), by decide⟩ dL_acts_425 (fun M_425 h_425 => ?_)
        have v_425_ta := hm.1.ne h_425 (by omega)
        have v_425_ca := hm.2.1.ne h_425 (by omega)
        obtain ⟨g_425, eg_425⟩ : ∃ z, z = ns_up r (4 * (S_g S 51)) (i) := ⟨_, rfl⟩
        have v_425_ra : cq_nv M_425 ra 32 g_425 := by rw [eg_425]; exact hm.2.2.1.up h_425
        have v_425_na := hm.2.2.2.1.ne h_425 (by omega)
        have v_425_ba := hm.2.2.2.2.ne h_425 (by omega)
        refine cq_aload_n F (i := 3) dL_acts_426 rfl rfl ?_
        refine cq_iconst F (v := 4) dL_acts_427 rfl ?_
        refine cq_aload F dL_acts_428 rfl ?_
        refine cq_bipush F (v := 7) dL_acts_430 (by decide) ?_
        refine cq_iald_j F (j := 7) hn0.1 hn0.2 rfl ⟨(by omega), by decide⟩ dL_acts_432 ?_
        rw [(show M_425 na 7 = nI (S_g S 51) by rw [h_425, cq_up_a (by omega), hvn9 _ (by omega), n7])]
        refine cq_imul F dL_acts_433 ?_
        rw [show (4 * nI (S_g S 51) : Int32) = nI (4 * (S_g S 51)) from pk_mul _ _]
        refine cq_iconst F (v := 1) dL_acts_434 rfl ?_
        refine cq_iadd F dL_acts_435 ?_
        rw [show (nI (4 * (S_g S 51)) + 1 : Int32) = nI (4 * (S_g S 51) + 1) from nI_add _ _]
        refine cq_iload F dL_acts_436 rfl ?_
        refine cq_iast_j F (j := (4 * (S_g S 51) + 1)) hr0.1 hr0.2 rfl ⟨(by omega), by decide⟩ dL_acts_438 (fun M_438 h_438 => ?_)
        have v_438_ta := v_425_ta.ne h_438 (by omega)
        have v_438_ca := v_425_ca.ne h_438 (by omega)
        obtain ⟨g_438, eg_438⟩ : ∃ z, z = ns_up g_425 ((4 * (S_g S 51) + 1)) (ot) := ⟨_, rfl⟩
        have v_438_ra : cq_nv M_438 ra 32 g_438 := by rw [eg_438]; exact v_425_ra.up h_438
        have v_438_na := v_425_na.ne h_438 (by omega)
        have v_438_ba := v_425_ba.ne h_438 (by omega)
        refine cq_aload_n F (i := 3) dL_acts_439 rfl rfl ?_
        refine cq_iconst F (v := 4) dL_acts_440 rfl ?_
        refine cq_aload F dL_acts_441 rfl ?_
        refine cq_bipush F (v := 7) dL_acts_443 (by decide) ?_
        refine cq_iald_j F (j := 7) hn0.1 hn0.2 rfl ⟨(by omega), by decide⟩ dL_acts_445 ?_
        rw [(show M_438 na 7 = nI (S_g S 51) by rw [h_438, cq_up_a (by omega), h_425, cq_up_a (by omega), hvn9 _ (by omega), n7])]
        refine cq_imul F dL_acts_446 ?_
        rw [show (4 * nI (S_g S 51) : Int32) = nI (4 * (S_g S 51)) from pk_mul _ _]
        refine cq_iconst F (v := 2) dL_acts_447 rfl ?_
        refine cq_iadd F dL_acts_448 ?_
        rw [show (nI (4 * (S_g S 51)) + 2 : Int32) = nI (4 * (S_g S 51) + 2) from nI_add _ _]
        refine cq_iload F dL_acts_449 rfl ?_
        refine cq_iast_j F (j := (4 * (S_g S 51) + 2)) hr0.1 hr0.2 rfl ⟨(by omega), by decide⟩ dL_acts_451 (fun M_451 h_451 => ?_)
        have v_451_ta := v_438_ta.ne h_451 (by omega)
        have v_451_ca := v_438_ca.ne h_451 (by omega)
        obtain ⟨g_451, eg_451⟩ : ∃ z, z = ns_up g_438 ((4 * (S_g S 51) + 2)) (s) := ⟨_, rfl⟩
        have v_451_ra : cq_nv M_451 ra 32 g_451 := by rw [eg_451]; exact v_438_ra.up h_451
        have v_451_na := v_438_na.ne h_451 (by omega)
        have v_451_ba := v_438_ba.ne h_451 (by omega)
        refine cq_aload_n F (i := 3) dL_acts_452 rfl rfl ?_
        refine cq_iconst F (v := 4) dL_acts_453 rfl ?_
        refine cq_aload F dL_acts_454 rfl ?_
        refine cq_bipush F (v := 7) dL_acts_456 (by decide) ?_
        refine cq_iald_j F (j := 7) hn0.1 hn0.2 rfl ⟨(by omega), by decide⟩ dL_acts_458 ?_
        rw [(show M_451 na 7 = nI (S_g S 51) by rw [h_451, cq_up_a (by omega), h_438, cq_up_a (by omega), h_425, cq_up_a (by omega), hvn9 _ (by omega), n7])]
        refine cq_imul F dL_acts_459 ?_
        rw [show (4 * nI (S_g S 51) : Int32) = nI (4 * (S_g S 51)) from pk_mul _ _]
        refine cq_iconst F (v := 3) dL_acts_460 rfl ?_
        refine cq_iadd F dL_acts_461 ?_
        rw [show (nI (4 * (S_g S 51)) + 3 : Int32) = nI (4 * (S_g S 51) + 3) from nI_add _ _]
        refine cq_iconst F (v := 0) dL_acts_462 rfl ?_
        refine cq_iast_j F (j := (4 * (S_g S 51) + 3)) hr0.1 hr0.2 rfl ⟨(by omega), by decide⟩ dL_acts_463 (fun M_463 h_463 => ?_)
        have v_463_ta := v_451_ta.ne h_463 (by omega)
        have v_463_ca := v_451_ca.ne h_463 (by omega)
        obtain ⟨g_463, eg_463⟩ : ∃ z, z = ns_up g_451 ((4 * (S_g S 51) + 3)) (0) := ⟨_, rfl⟩
        have v_463_ra : cq_nv M_463 ra 32 g_463 := by rw [eg_463]; exact v_451_ra.up h_463
        have v_463_na := v_451_na.ne h_463 (by omega)
        have v_463_ba := v_451_ba.ne h_463 (by omega)
        refine cq_aload F dL_acts_464 rfl ?_
        refine cq_bipush F (v := 7) dL_acts_466 (by decide) ?_
        refine cq_dup2 F dL_acts_468 rfl rfl ?_
        refine cq_iald_j F (j := 7) hn0.1 hn0.2 rfl ⟨(by omega), by decide⟩ dL_acts_469 ?_
        rw [(show M_463 na 7 = nI (S_g S 51) by rw [h_463, cq_up_a (by omega), h_451, cq_up_a (by omega), h_438, cq_up_a (by omega), h_425, cq_up_a (by omega), hvn9 _ (by omega), n7])]
        refine cq_iconst F (v := 1) dL_acts_470 rfl ?_
        refine cq_iadd F dL_acts_471 ?_
        rw [show (nI (S_g S 51) + 1 : Int32) = nI ((S_g S 51) + 1) from nI_add _ _]
        refine cq_iast_j F (j := 7) hn0.1 hn0.2 rfl ⟨(by omega), by decide⟩ dL_acts_472 (fun M_472 h_472 => ?_)
        have v_472_ta := v_463_ta.ne h_472 (by omega)
        have v_472_ca := v_463_ca.ne h_472 (by omega)
        have v_472_ra := v_463_ra.ne h_472 (by omega)
        obtain ⟨g_472, eg_472⟩ : ∃ z, z = ns_up n (7) (((S_g S 51) + 1)) := ⟨_, rfl⟩
        have v_472_na : cq_nv M_472 na 9 g_472 := by rw [eg_472]; exact v_463_na.up h_472
        have v_472_ba := v_463_ba.ne h_472 (by omega)
        have e472 : g_472 7 = S_g S 51 + 1 := by rw [eg_472, ns_up_s]
        refine cq_aload_n F (i := 0) dL_acts_473 rfl rfl ?_
        refine cq_iload F dL_acts_474 rfl ?_
        refine cq_iload F dL_acts_476 rfl ?_
        refine cq_iload F dL_acts_478 rfl ?_
        refine cq_if_ne F (tgt := 487) dL_acts_480 (by decide) (fun c_480 => ?_) (fun c_480 => ?_)
        · have c_480 : ¬ s = 0 := fun z => c_480 ((nI_b (a := s) (b := 0) (by omega) (by omega)).2.2.mpr z)
          refine cq_iconst F (v := 0) dL_acts_487 rfl ?_
          refine cq_callV F (C := RX6) (ci := 7) (nq_rule (l := l) (D := D) (cA := cA) (Bs := Bs) hl hb (ck.far h hk (fun x x1 x2 => by rw [h_472, cq_up_row (by omega), h_463, cq_up_row (by omega), h_451, cq_up_row (by omega), h_438, cq_up_row (by omega), h_425, cq_up_row (by omega)])) hk i ot 0 hi hot c_383 (by omega) hn8) (cwV 3 F.1.2.2.2.2 gL_acts_X6_rule rfl rfl rfl hdVX6_rule ⟨Nat.le_of_ble_eq_true rfl, Nat.le_of_ble_eq_true rfl⟩) hb.kind ⟨by decide, by decide⟩ rfl rfl rfl (Nat.le_of_ble_eq_true rfl) dL_acts_488 ⟨by show _ ≤ 10; omega, by show _ ≤ 60; omega⟩ (cq_kI fun r_488 M_488 h_488 => ?_)
          obtain rfl : r_488 = nI (S_g S 51) := h_488.1
          refine cq_aload F dL_acts_491 rfl ?_
          refine cq_bipush F (v := 7) dL_acts_493 (by decide) ?_
          refine cq_iald_j F (j := 7) hn0.1 hn0.2 rfl ⟨(by omega), by decide⟩ dL_acts_495 ?_
          rw [(v_472_na.same (fun j => congrFun (h_488.2.2 _ (by omega)) j)) _ (by omega)]
          refine cq_iconst F (v := 1) dL_acts_496 rfl ?_
          refine cq_isub F dL_acts_497 ?_
          rw [show (nI (g_472 (7)) - 1 : Int32) = nI ((g_472 (7)) - 1) from pk_sub (a := (g_472 (7))) (b := 1) (by omega)]
          refine cq_icmp_ne F (tgt := 505) dL_acts_498 (by decide) (fun c_498 => ?_) (fun c_498 => ?_)
          · have c_498 : ¬ (S_g S 51) = ((g_472 (7)) - 1) := fun z => c_498 ((nI_b (a := (S_g S 51)) (b := ((g_472 (7)) - 1)) (by omega) (by omega)).2.2.mpr z)
            omega
          · have c_498 : (S_g S 51) = ((g_472 (7)) - 1) := (nI_b (a := (S_g S 51)) (b := ((g_472 (7)) - 1)) (by omega) (by omega)).2.2.mp c_498
            refine cq_iconst F (v := 1) dL_acts_501 rfl ?_
            refine cq_goto F (tgt := 506) dL_acts_502 (by decide) ?_
            refine cq_zret F hr (by rfl) (by omega) (by omega) dL_acts_506 ⟨_, rfl, ?_⟩
            refine ⟨rfl, _, h_488.2.1, (as_sv hk (hk.1.newRule hn8 hi hot (by omega)) (by omega)).mono (by omega), ⟨t, c, g_463, g_472, b, ⟨v_472_ta.same (fun j => congrFun (h_488.2.2 _ (by omega)) j), v_472_ca.same (fun j => congrFun (h_488.2.2 _ (by omega)) j), v_472_ra.same (fun j => congrFun (h_488.2.2 _ (by omega)) j), v_472_na.same (fun j => congrFun (h_488.2.2 _ (by omega)) j), v_472_ba.same (fun j => congrFun (h_488.2.2 _ (by omega)) j)⟩, ?_⟩, ?_⟩
            · rw [eg_472]
              show lr _ _ _ _ _ (ns_newRule (S_g S) i ot 0 1) _
              rw [show ns_newRule (S_g S) i ot 0 1 = S_g S 1 from by unfold ns_newRule; rw [ns_up_n (by omega), ns_up_n (by omega), ns_up_n (by omega), ns_up_n (by omega), ns_up_n (by omega)]]
              have q := hrel.newRule (r' := g_463) (a := i) (x := ot) (s := s) hk.1 hn8 (by omega) (fun j hj => by rw [eg_463, ns_up_n (by omega), eg_451, ns_up_n (by omega), eg_438, ns_up_n (by omega), eg_425, ns_up_n (by omega)]) (by rw [eg_463, ns_up_n (by omega), eg_451, ns_up_n (by omega), eg_438, ns_up_n (by omega), eg_425, ns_up_s]) (by rw [eg_463, ns_up_n (by omega), eg_451, ns_up_n (by omega), eg_438, ns_up_s]) (by rw [eg_463, ns_up_n (by omega), eg_451, ns_up_s]) (by rw [eg_463, ns_up_s])
              rw [show 1 - s = 0 by omega] at q
              exact q
            · show 1 ≤ ns_newRule (S_g S) i ot 0 6
              rw [show ns_newRule (S_g S) i ot 0 6 = S_g S 6 from by unfold ns_newRule; rw [ns_up_n (by omega), ns_up_n (by omega), ns_up_n (by omega), ns_up_n (by omega), ns_up_n (by omega)]]
              omega
        · have c_480 : s = 0 := (nI_b (a := s) (b := 0) (by omega) (by omega)).2.2.mp c_480
          refine cq_iconst F (v := 1) dL_acts_483 rfl ?_
          refine cq_goto F (tgt := 488) dL_acts_484 (by decide) ?_
          refine cq_callV F (C := RX6) (ci := 7) (nq_rule (l := l) (D := D) (cA := cA) (Bs := Bs) hl hb (ck.far h hk (fun x x1 x2 => by rw [h_472, cq_up_row (by omega), h_463, cq_up_row (by omega), h_451, cq_up_row (by omega), h_438, cq_up_row (by omega), h_425, cq_up_row (by omega)])) hk i ot 1 hi hot c_383 (by omega) hn8) (cwV 3 F.1.2.2.2.2 gL_acts_X6_rule rfl rfl rfl hdVX6_rule ⟨Nat.le_of_ble_eq_true rfl, Nat.le_of_ble_eq_true rfl⟩) hb.kind ⟨by decide, by decide⟩ rfl rfl rfl (Nat.le_of_ble_eq_true rfl) dL_acts_488 ⟨by show _ ≤ 10; omega, by show _ ≤ 60; omega⟩ (cq_kI fun r_488 M_488 h_488 => ?_)
          obtain rfl : r_488 = nI (S_g S 51) := h_488.1
          refine cq_aload F dL_acts_491 rfl ?_
          refine cq_bipush F (v := 7) dL_acts_493 (by decide) ?_
          refine cq_iald_j F (j := 7) hn0.1 hn0.2 rfl ⟨(by omega), by decide⟩ dL_acts_495 ?_
          rw [(v_472_na.same (fun j => congrFun (h_488.2.2 _ (by omega)) j)) _ (by omega)]
          refine cq_iconst F (v := 1) dL_acts_496 rfl ?_
          refine cq_isub F dL_acts_497 ?_
          rw [show (nI (g_472 (7)) - 1 : Int32) = nI ((g_472 (7)) - 1) from pk_sub (a := (g_472 (7))) (b := 1) (by omega)]
          refine cq_icmp_ne F (tgt := 505) dL_acts_498 (by decide) (fun c_498 => ?_) (fun c_498 => ?_)
          · have c_498 : ¬ (S_g S 51) = ((g_472 (7)) - 1) := fun z => c_498 ((nI_b (a := (S_g S 51)) (b := ((g_472 (7)) - 1)) (by omega) (by omega)).2.2.mpr z)
            omega
          · have c_498 : (S_g S 51) = ((g_472 (7)) - 1) := (nI_b (a := (S_g S 51)) (b := ((g_472 (7)) - 1)) (by omega) (by omega)).2.2.mp c_498
            refine cq_iconst F (v := 1) dL_acts_501 rfl ?_
            refine cq_goto F (tgt := 506) dL_acts_502 (by decide) ?_
            refine cq_zret F hr (by rfl) (by omega) (by omega) dL_acts_506 ⟨_, rfl, ?_⟩
            refine ⟨rfl, _, h_488.2.1, (as_sv hk (hk.1.newRule hn8 hi hot (by omega)) (by omega)).mono (by omega), ⟨t, c, g_463, g_472, b, ⟨v_472_ta.same (fun j => congrFun (h_488.2.2 _ (by omega)) j), v_472_ca.same (fun j => congrFun (h_488.2.2 _ (by omega)) j), v_472_ra.same (fun j => congrFun (h_488.2.2 _ (by omega)) j), v_472_na.same (fun j => congrFun (h_488.2.2 _ (by omega)) j), v_472_ba.same (fun j => congrFun (h_488.2.2 _ (by omega)) j)⟩, ?_⟩, ?_⟩
            · rw [eg_472]
              show lr _ _ _ _ _ (ns_newRule (S_g S) i ot 1 1) _
              rw [show ns_newRule (S_g S) i ot 1 1 = S_g S 1 from by unfold ns_newRule; rw [ns_up_n (by omega), ns_up_n (by omega), ns_up_n (by omega), ns_up_n (by omega), ns_up_n (by omega)]]
              have q := hrel.newRule (r' := g_463) (a := i) (x := ot) (s := s) hk.1 hn8 (by omega) (fun j hj => by rw [eg_463, ns_up_n (by omega), eg_451, ns_up_n (by omega), eg_438, ns_up_n (by omega), eg_425, ns_up_n (by omega)]) (by rw [eg_463, ns_up_n (by omega), eg_451, ns_up_n (by omega), eg_438, ns_up_n (by omega), eg_425, ns_up_s]) (by rw [eg_463, ns_up_n (by omega), eg_451, ns_up_n (by omega), eg_438, ns_up_s]) (by rw [eg_463, ns_up_n (by omega), eg_451, ns_up_s]) (by rw [eg_463, ns_up_s])
              rw [show 1 - s = 1 by omega] at q
              exact q
            · show 1 ≤ ns_newRule (S_g S) i ot 1 6
              rw [show ns_newRule (S_g S) i ot 1 6 = S_g S 6 from by unfold ns_newRule; rw [ns_up_n (by omega), ns_up_n (by omega), ns_up_n (by omega), ns_up_n (by omega), ns_up_n (by omega)]]
              omega
      · have c_393 : (S_g S 51) = 8 := (nI_b (a := (S_g S 51)) (b := 8) (by omega) (by omega)).2.2.mp c_393
        refine cq_aload_n F (i := 0) dL_acts_396 rfl rfl ?_
        refine cq_iconst F (v := 2) dL_acts_397 rfl ?_
        refine cq_callV F (C := RX6) (ci := 7) (nq_count (l := l) (D := D) (cA := cA) (Bs := Bs) hl hb h hk 2 (by omega)) (cwV 1 F.1.2.2.2.2 gL_acts_X6_count rfl rfl rfl hdVX6_count ⟨Nat.le_of_ble_eq_true rfl, Nat.le_of_ble_eq_true rfl⟩) hb.kind ⟨by decide, by decide⟩ rfl rfl rfl (Nat.le_of_ble_eq_true rfl) dL_acts_398 ⟨by show _ ≤ 10; omega, by show _ ≤ 60; omega⟩ (cq_kIp fun r_398 h_398 => ?_)
        obtain rfl : r_398 = nI (S_g S 51) := h_398
        refine cq_aload F dL_acts_401 rfl ?_
        refine cq_bipush F (v := 7) dL_acts_403 (by decide) ?_
        refine cq_iald_j F (j := 7) hn0.1 hn0.2 rfl ⟨(by omega), by decide⟩ dL_acts_405 ?_
        rw [(show M na 7 = nI (S_g S 51) by rw [hvn9 _ (by omega), n7])]
        refine cq_icmp_ne F (tgt := 413) dL_acts_406 (by decide) (fun c_406 => ?_) (fun c_406 => ?_)
        · exact absurd rfl c_406
        · refine cq_iconst F (v := 1) dL_acts_409 rfl ?_
          refine cq_goto F (tgt := 414) dL_acts_410 (by decide) ?_
          exact cq_zret F hr (by rfl) (by omega) (by omega) dL_acts_414 ⟨_, rfl, ⟨rfl, S, h, hk.mono (by omega), ⟨t, c, r, n, b, hm, hrel⟩, by omega⟩⟩
  · subst sw_24
    refine cq_tableIn F (off := 483) (tgt := 507) dL_acts_24 (by decide) (by decide) (by decide) (by decide) ?_
    refine cq_aload F dL_acts_507 rfl ?_
    refine cq_bipush F (v := 7) dL_acts_509 (by decide) ?_
    refine cq_iald_j F (j := 7) hn0.1 hn0.2 rfl ⟨(by omega), by decide⟩ dL_acts_511 ?_
    rw [(show M na 7 = nI (S_g S 51) by rw [hvn9 _ (by omega), n7])]
    refine cq_istore F dL_acts_512 (by decide) ?_
    refine cq_iload F dL_acts_514 rfl ?_
    refine cq_iconst F (v := 4) dL_acts_516 rfl ?_
    refine cq_ishr F dL_acts_517 ?_
    refine cq_iconst F (v := 4) dL_acts_518 rfl ?_
    refine cq_callS F (kL_low l D cA X Bs _ 4 M (by omega) (by omega)) (va_cwS 2 F.1.2.2.2.2 gL_acts_L_low rfl rfl rfl hdVL_low.2 ⟨Nat.le_of_ble_eq_true rfl, Nat.le_of_ble_eq_true rfl⟩) rfl (Nat.le_of_ble_eq_true rfl) dL_acts_519 ⟨by show _ ≤ 10; omega, by show _ ≤ 60; omega⟩ (cq_kIp fun r_519 h_519 => ?_)
    obtain ⟨q4, hq4, rfl⟩ := h_519
    refine cq_if_le F (tgt := 541) dL_acts_522 (by decide) (fun c_522 => ?_) (fun c_522 => ?_)
    · have c_522 : q4 ≤ 0 := (nI_b (a := q4) (b := 0) (by omega) (by omega)).1.mp c_522
      refine cq_aload F dL_acts_541 rfl ?_
      refine cq_bipush F (v := 7) dL_acts_543 (by decide) ?_
      refine cq_iconst F (v := 0) dL_acts_545 rfl ?_
      refine cq_iast_j F (j := 7) hn0.1 hn0.2 rfl ⟨(by omega), by decide⟩ dL_acts_546 (fun M_546 h_546 => ?_)
      have v_546_ta := hm.1.ne h_546 (by omega)
      have v_546_ca := hm.2.1.ne h_546 (by omega)
      have v_546_ra := hm.2.2.1.ne h_546 (by omega)
      obtain ⟨g_546, eg_546⟩ : ∃ z, z = ns_up n (7) (0) := ⟨_, rfl⟩
      have v_546_na : cq_nv M_546 na 9 g_546 := by rw [eg_546]; exact hm.2.2.2.1.up h_546
      have v_546_ba := hm.2.2.2.2.ne h_546 (by omega)
      refine cq_aload_n F (i := 0) dL_acts_547 rfl rfl ?_
      refine cq_callV F (C := RX6) (ci := 7) (nq_drop hb (ck.far h hk (fun x x1 x2 => by rw [h_546, cq_up_row (by omega)])) hk) (cwV 0 F.1.2.2.2.2 gL_acts_X6_dropRules rfl rfl rfl hdVX6_dropRules ⟨Nat.le_of_ble_eq_true rfl, Nat.le_of_ble_eq_true rfl⟩) hb.kind ⟨by decide, by decide⟩ rfl rfl rfl (Nat.le_of_ble_eq_true rfl) dL_acts_548 ⟨by show _ ≤ 10; omega, by show _ ≤ 60; omega⟩ (cq_kI fun r_548 M_548 h_548 => ?_)
      obtain rfl : r_548 = nI (S_g S 51) := h_548.1
      refine cq_iload F dL_acts_551 rfl ?_
      refine cq_icmp_ne F (tgt := 560) dL_acts_553 (by decide) (fun c_553 => ?_) (fun c_553 => ?_)
      · exact absurd rfl c_553
      · refine cq_iconst F (v := 1) dL_acts_556 rfl ?_
        refine cq_goto F (tgt := 561) dL_acts_557 (by decide) ?_
        refine cq_zret F hr (by rfl) (by omega) (by omega) dL_acts_561 ⟨_, rfl, ?_⟩
        refine ⟨rfl, _, h_548.2.1, (as_sv hk (ao_drop hk.1) (by omega)).mono (by omega), ⟨t, c, r, g_546, b, ⟨v_546_ta.same (fun j => congrFun (h_548.2.2 _ (by omega)) j), v_546_ca.same (fun j => congrFun (h_548.2.2 _ (by omega)) j), v_546_ra.same (fun j => congrFun (h_548.2.2 _ (by omega)) j), v_546_na.same (fun j => congrFun (h_548.2.2 _ (by omega)) j), v_546_ba.same (fun j => congrFun (h_548.2.2 _ (by omega)) j)⟩, ?_⟩, ?_⟩
        · rw [eg_546]
          show lr _ _ _ _ _ (ns_drop (S_g S) 1) _
          rw [show ns_drop (S_g S) 1 = S_g S 1 from if_neg (by omega)]
          exact hrel.drop hk.1
        · show 1 ≤ ns_drop (S_g S) 6
          rw [show ns_drop (S_g S) 6 = S_g S 6 from if_neg (by omega)]
          omega
    · have c_522 : ¬ q4 ≤ 0 := fun z => c_522 ((nI_b (a := q4) (b := 0) (by omega) (by omega)).1.mpr z)
      refine cq_aload_n F (i := 0) dL_acts_525 rfl rfl ?_
      refine cq_iconst F (v := 2) dL_acts_526 rfl ?_
      refine cq_callV F (C := RX6) (ci := 7) (nq_count (l := l) (D := D) (cA := cA) (Bs := Bs) hl hb h hk 2 (by omega)) (cwV 1 F.1.2.2.2.2 gL_acts_X6_count rfl rfl rfl hdVX6_count ⟨Nat.le_of_ble_eq_true rfl, Nat.le_of_ble_eq_true rfl⟩) hb.kind ⟨by decide, by decide⟩ rfl rfl rfl (Nat.le_of_ble_eq_true rfl) dL_acts_527 ⟨by show _ ≤ 10; omega, by show _ ≤ 60; omega⟩ (cq_kIp fun r_527 h_527 => ?_)
      obtain rfl : r_527 = nI (S_g S 51) := h_527
      refine cq_iload F dL_acts_530 rfl ?_
      refine cq_icmp_ne F (tgt := 539) dL_acts_532 (by decide) (fun c_532 => ?_) (fun c_532 => ?_)
      · exact absurd rfl c_532
      · refine cq_iconst F (v := 1) dL_acts_535 rfl ?_
        refine cq_goto F (tgt := 540) dL_acts_536 (by decide) ?_
        exact cq_zret F hr (by rfl) (by omega) (by omega) dL_acts_540 ⟨_, rfl, ⟨rfl, S, h, hk.mono (by omega), ⟨t, c, r, n, b, hm, hrel⟩, by omega⟩⟩
  · subst sw_24
    refine cq_tableIn F (off := 538) (tgt := 562) dL_acts_24 (by decide) (by decide) (by decide) (by decide) ?_
    obtain ⟨hc0, hc1, hc2, hc3, hc4⟩ := hrel.2.2.1 i hi
    have hq := hk.1.2.2.2.1 i hi
    have hTt := hq.time
    have hbt := hq.2.2.1
    have hbd : ns_burned (S_g S) i = S_g S (14 + 11 * i) + S_g S (15 + 11 * i) := rfl
    have h7 := hq.1
    have hff := hq.2.2.2.1
    refine cq_aload_n F (i := 1) dL_acts_562 rfl rfl ?_
    refine cq_aload_n F (i := 2) dL_acts_563 rfl rfl ?_
    refine cq_aload F dL_acts_564 rfl ?_
    refine cq_aload F dL_acts_566 rfl ?_
    refine cq_iload F dL_acts_568 rfl ?_
    refine cq_iload F dL_acts_570 rfl ?_
    refine cq_callS F (kL_lights l D cA X Bs ta ca ra na ba i s (S_g S 1) B t c r n b (S_g S) M ha hm hrel hk.1 hi (by omega)) (va_cwS 6 F.1.2.2.2.2 gL_acts_L_lights rfl rfl rfl hdVL_lights.2 ⟨Nat.le_of_ble_eq_true rfl, Nat.le_of_ble_eq_true rfl⟩) rfl (Nat.le_of_ble_eq_true rfl) dL_acts_572 ⟨by show _ ≤ 10; omega, by show _ ≤ 60; omega⟩ (cq_kI fun r_572 M_572 h_572 => ?_)
    obtain ⟨t4, c4, r4, n4, b4, hm4, h4⟩ := h_572.2.1
    refine cq_if_eq F (tgt := 611) dL_acts_575 (by decide) (fun c_575 => ?_) (fun c_575 => ?_)
    · have c_575 := cq_b0 h_572.1 c_575
      rw [if_neg c_575] at h4
      refine cq_aload_n F (i := 0) dL_acts_611 rfl rfl ?_
      refine cq_iconst F (v := 3) dL_acts_612 rfl ?_
      refine cq_callV F (C := RX6) (ci := 7) (nq_count (l := l) (D := D) (cA := cA) (Bs := Bs) hl hb (ck.far h hk (fun x x1 x2 => h_572.2.2 x (by omega) (by omega) (by omega) (by omega))) hk 3 (by omega)) (cwV 1 F.1.2.2.2.2 gL_acts_X6_count rfl rfl rfl hdVX6_count ⟨Nat.le_of_ble_eq_true rfl, Nat.le_of_ble_eq_true rfl⟩) hb.kind ⟨by decide, by decide⟩ rfl rfl rfl (Nat.le_of_ble_eq_true rfl) dL_acts_613 ⟨by show _ ≤ 10; omega, by show _ ≤ 60; omega⟩ (cq_kIp fun r_613 h_613 => ?_)
      obtain rfl : r_613 = nI (ns_flames (S_g S) (S_g S 6)) := h_613
      refine cq_aload_n F (i := 2) dL_acts_616 rfl rfl ?_
      refine cq_aload F dL_acts_617 rfl ?_
      refine cq_callS F (kL_flames l D cA X Bs ca na (S_g S 1) B t4 c4 r4 n4 b4 (S_g S) M_572 hc hn0 hm4.2.1 hm4.2.2.2.1 h4 hk.1) (va_cwS 2 F.1.2.2.2.2 gL_acts_L_flames rfl rfl rfl hdVL_flames.2 ⟨Nat.le_of_ble_eq_true rfl, Nat.le_of_ble_eq_true rfl⟩) rfl (Nat.le_of_ble_eq_true rfl) dL_acts_619 ⟨by show _ ≤ 10; omega, by show _ ≤ 60; omega⟩ (cq_kIp fun r_619 h_619 => ?_)
      subst h_619
      refine cq_icmp_ne F (tgt := 629) dL_acts_622 (by decide) (fun c_622 => ?_) (fun c_622 => ?_)
      · exact absurd rfl c_622
      · refine cq_iconst F (v := 1) dL_acts_625 rfl ?_
        refine cq_goto F (tgt := 630) dL_acts_626 (by decide) ?_
        exact cq_zret F hr (by rfl) (by omega) (by omega) dL_acts_630 ⟨_, rfl, ⟨rfl, S, ck.far h hk (fun x x1 x2 => h_572.2.2 x (by omega) (by omega) (by omega) (by omega)), hk.mono (by omega), ⟨t4, c4, r4, n4, b4, hm4, h4⟩, by omega⟩⟩
    · have c_575 := cq_b1 h_572.1 c_575
      rw [if_pos c_575] at h4
      refine cq_aload_n F (i := 0) dL_acts_578 rfl rfl ?_
      refine cq_iload F dL_acts_579 rfl ?_
      refine cq_iload F dL_acts_581 rfl ?_
      refine cq_if_ne F (tgt := 590) dL_acts_583 (by decide) (fun c_583 => ?_) (fun c_583 => ?_)
      · have c_583 : ¬ s = 0 := fun z => c_583 ((nI_b (a := s) (b := 0) (by omega) (by omega)).2.2.mpr z)
        refine cq_iconst F (v := 0) dL_acts_590 rfl ?_
        refine cq_callV F (C := RX6) (ci := 7) (nq_light (l := l) (D := D) (cA := cA) (Bs := Bs) hl hb (ck.far h hk (fun x x1 x2 => h_572.2.2 x (by omega) (by omega) (by omega) (by omega))) hk i s _ (by unfold ls_x; exact (if_neg c_583).symm) hi c_575) (cwV 2 F.1.2.2.2.2 gL_acts_X6_light rfl rfl rfl hdVX6_light ⟨Nat.le_of_ble_eq_true rfl, Nat.le_of_ble_eq_true rfl⟩) hb.kind ⟨by decide, by decide⟩ rfl rfl rfl (Nat.le_of_ble_eq_true rfl) dL_acts_591 ⟨by show _ ≤ 10; omega, by show _ ≤ 60; omega⟩ (cq_kI fun r_591 M_591 h_591 => ?_)
        obtain rfl : r_591 = nI (ns_flames (ns_lightNow (S_g S) i (ls_x s)) (S_g S 6)) := h_591.1
        refine cq_aload_n F (i := 2) dL_acts_594 rfl rfl ?_
        refine cq_aload F dL_acts_595 rfl ?_
        refine cq_callS F (kL_flames l D cA X Bs ca na (S_g S 1) B t4 c4 r4 n4 b4 (ns_lightNow (S_g S) i (ls_x s)) M_591 hc hn0 (hm4.2.1.same (fun j => congrFun (h_591.2.2 _ (by omega)) j)) (hm4.2.2.2.1.same (fun j => congrFun (h_591.2.2 _ (by omega)) j)) h4 (hk.1.light hi c_575)) (va_cwS 2 F.1.2.2.2.2 gL_acts_L_flames rfl rfl rfl hdVL_flames.2 ⟨Nat.le_of_ble_eq_true rfl, Nat.le_of_ble_eq_true rfl⟩) rfl (Nat.le_of_ble_eq_true rfl) dL_acts_597 ⟨by show _ ≤ 10; omega, by show _ ≤ 60; omega⟩ (cq_kIp fun r_597 h_597 => ?_)
        rw [show ns_lightNow (S_g S) i (ls_x s) 6 = S_g S 6 from ns_light_n (by omega) (by omega) (by omega)] at h_597
        subst h_597
        refine cq_icmp_ne F (tgt := 607) dL_acts_600 (by decide) (fun c_600 => ?_) (fun c_600 => ?_)
        · exact absurd rfl c_600
        · refine cq_iconst F (v := 1) dL_acts_603 rfl ?_
          refine cq_goto F (tgt := 630) dL_acts_604 (by decide) ?_
          refine cq_zret F hr (by rfl) (by omega) (by omega) dL_acts_630 ⟨_, rfl, ?_⟩
          refine ⟨rfl, _, h_591.2.1, (as_sv hk (hk.1.light hi c_575) (by omega)).mono (by omega), ⟨t4, c4, r4, n4, b4, ⟨hm4.1.same (fun j => congrFun (h_591.2.2 _ (by omega)) j), hm4.2.1.same (fun j => congrFun (h_591.2.2 _ (by omega)) j), hm4.2.2.1.same (fun j => congrFun (h_591.2.2 _ (by omega)) j), hm4.2.2.2.1.same (fun j => congrFun (h_591.2.2 _ (by omega)) j), hm4.2.2.2.2.same (fun j => congrFun (h_591.2.2 _ (by omega)) j)⟩, ?_⟩, ?_⟩
          · show lr _ _ _ _ _ (ns_lightNow (S_g S) i (ls_x s) 1) _
            rw [show ns_lightNow (S_g S) i (ls_x s) 1 = S_g S 1 from ns_light_n (by omega) (by omega) (by omega)]
            exact h4
          · show 1 ≤ ns_lightNow (S_g S) i (ls_x s) 6
            rw [show ns_lightNow (S_g S) i (ls_x s) 6 = S_g S 6 from ns_light_n (by omega) (by omega) (by omega)]
            omega
      · have c_583 : s = 0 := (nI_b (a := s) (b := 0) (by omega) (by omega)).2.2.mp c_583
        refine cq_iconst F (v := 1) dL_acts_586 rfl ?_
        refine cq_goto F (tgt := 591) dL_acts_587 (by decide) ?_
        refine cq_callV F (C := RX6) (ci := 7) (nq_light (l := l) (D := D) (cA := cA) (Bs := Bs) hl hb (ck.far h hk (fun x x1 x2 => h_572.2.2 x (by omega) (by omega) (by omega) (by omega))) hk i s _ (by rw [c_583]; rfl) hi c_575) (cwV 2 F.1.2.2.2.2 gL_acts_X6_light rfl rfl rfl hdVX6_light ⟨Nat.le_of_ble_eq_true rfl, Nat.le_of_ble_eq_true rfl⟩) hb.kind ⟨by decide, by decide⟩ rfl rfl rfl (Nat.le_of_ble_eq_true rfl) dL_acts_591 ⟨by show _ ≤ 10; omega, by show _ ≤ 60; omega⟩ (cq_kI fun r_591 M_591 h_591 => ?_)
        obtain rfl : r_591 = nI (ns_flames (ns_lightNow (S_g S) i (ls_x s)) (S_g S 6)) := h_591.1
        refine cq_aload_n F (i := 2) dL_acts_594 rfl rfl ?_
        refine cq_aload F dL_acts_595 rfl ?_
        refine cq_callS F (kL_flames l D cA X Bs ca na (S_g S 1) B t4 c4 r4 n4 b4 (ns_lightNow (S_g S) i (ls_x s)) M_591 hc hn0 (hm4.2.1.same (fun j => congrFun (h_591.2.2 _ (by omega)) j)) (hm4.2.2.2.1.same (fun j => congrFun (h_591.2.2 _ (by omega)) j)) h4 (hk.1.light hi c_575)) (va_cwS 2 F.1.2.2.2.2 gL_acts_L_flames rfl rfl rfl hdVL_flames.2 ⟨Nat.le_of_ble_eq_true rfl, Nat.le_of_ble_eq_true rfl⟩) rfl (Nat.le_of_ble_eq_true rfl) dL_acts_597 ⟨by show _ ≤ 10; omega, by show _ ≤ 60; omega⟩ (cq_kIp fun r_597 h_597 => ?_)
        rw [show ns_lightNow (S_g S) i (ls_x s) 6 = S_g S 6 from ns_light_n (by omega) (by omega) (by omega)] at h_597
        subst h_597
        refine cq_icmp_ne F (tgt := 607) dL_acts_600 (by decide) (fun c_600 => ?_) (fun c_600 => ?_)
        · exact absurd rfl c_600
        · refine cq_iconst F (v := 1) dL_acts_603 rfl ?_
          refine cq_goto F (tgt := 630) dL_acts_604 (by decide) ?_
          refine cq_zret F hr (by rfl) (by omega) (by omega) dL_acts_630 ⟨_, rfl, ?_⟩
          refine ⟨rfl, _, h_591.2.1, (as_sv hk (hk.1.light hi c_575) (by omega)).mono (by omega), ⟨t4, c4, r4, n4, b4, ⟨hm4.1.same (fun j => congrFun (h_591.2.2 _ (by omega)) j), hm4.2.1.same (fun j => congrFun (h_591.2.2 _ (by omega)) j), hm4.2.2.1.same (fun j => congrFun (h_591.2.2 _ (by omega)) j), hm4.2.2.2.1.same (fun j => congrFun (h_591.2.2 _ (by omega)) j), hm4.2.2.2.2.same (fun j => congrFun (h_591.2.2 _ (by omega)) j)⟩, ?_⟩, ?_⟩
          · show lr _ _ _ _ _ (ns_lightNow (S_g S) i (ls_x s) 1) _
            rw [show ns_lightNow (S_g S) i (ls_x s) 1 = S_g S 1 from ns_light_n (by omega) (by omega) (by omega)]
            exact h4
          · show 1 ≤ ns_lightNow (S_g S) i (ls_x s) 6
            rw [show ns_lightNow (S_g S) i (ls_x s) 6 = S_g S 6 from ns_light_n (by omega) (by omega) (by omega)]
            omega
  · subst sw_24
    refine cq_tableIn F (off := 538) (tgt := 562) dL_acts_24 (by decide) (by decide) (by decide) (by decide) ?_
    obtain ⟨hc0, hc1, hc2, hc3, hc4⟩ := hrel.2.2.1 i hi
    have hq := hk.1.2.2.2.1 i hi
    have hTt := hq.time
    have hbt := hq.2.2.1
    have hbd : ns_burned (S_g S) i = S_g S (14 + 11 * i) + S_g S (15 + 11 * i) := rfl
    have h7 := hq.1
    have hff := hq.2.2.2.1
    refine cq_aload_n F (i := 1) dL_acts_562 rfl rfl ?_
    refine cq_aload_n F (i := 2) dL_acts_563 rfl rfl ?_
    refine cq_aload F dL_acts_564 rfl ?_
    refine cq_aload F dL_acts_566 rfl ?_
    refine cq_iload F dL_acts_568 rfl ?_
    refine cq_iload F dL_acts_570 rfl ?_
    refine cq_callS F (kL_lights l D cA X Bs ta ca ra na ba i s (S_g S 1) B t c r n b (S_g S) M ha hm hrel hk.1 hi (by omega)) (va_cwS 6 F.1.2.2.2.2 gL_acts_L_lights rfl rfl rfl hdVL_lights.2 ⟨Nat.le_of_ble_eq_true rfl, Nat.le_of_ble_eq_true rfl⟩) rfl (Nat.le_of_ble_eq_true rfl) dL_acts_572 ⟨by show _ ≤ 10; omega, by show _ ≤ 60; omega⟩ (cq_kI fun r_572 M_572 h_572 => ?_)
    obtain ⟨t4, c4, r4, n4, b4, hm4, h4⟩ := h_572.2.1
    refine cq_if_eq F (tgt := 611) dL_acts_575 (by decide) (fun c_575 => ?_) (fun c_575 => ?_)
    · have c_575 := cq_b0 h_572.1 c_575
      rw [if_neg c_575] at h4
      refine cq_aload_n F (i := 0) dL_acts_611 rfl rfl ?_
      refine cq_iconst F (v := 3) dL_acts_612 rfl ?_
      refine cq_callV F (C := RX6) (ci := 7) (nq_count (l := l) (D := D) (cA := cA) (Bs := Bs) hl hb (ck.far h hk (fun x x1 x2 => h_572.2.2 x (by omega) (by omega) (by omega) (by omega))) hk 3 (by omega)) (cwV 1 F.1.2.2.2.2 gL_acts_X6_count rfl rfl rfl hdVX6_count ⟨Nat.le_of_ble_eq_true rfl, Nat.le_of_ble_eq_true rfl⟩) hb.kind ⟨by decide, by decide⟩ rfl rfl rfl (Nat.le_of_ble_eq_true rfl) dL_acts_613 ⟨by show _ ≤ 10; omega, by show _ ≤ 60; omega⟩ (cq_kIp fun r_613 h_613 => ?_)
      obtain rfl : r_613 = nI (ns_flames (S_g S) (S_g S 6)) := h_613
      refine cq_aload_n F (i := 2) dL_acts_616 rfl rfl ?_
      refine cq_aload F dL_acts_617 rfl ?_
      refine cq_callS F (kL_flames l D cA X Bs ca na (S_g S 1) B t4 c4 r4 n4 b4 (S_g S) M_572 hc hn0 hm4.2.1 hm4.2.2.2.1 h4 hk.1) (va_cwS 2 F.1.2.2.2.2 gL_acts_L_flames rfl rfl rfl hdVL_flames.2 ⟨Nat.le_of_ble_eq_true rfl, Nat.le_of_ble_eq_true rfl⟩) rfl (Nat.le_of_ble_eq_true rfl) dL_acts_619 ⟨by show _ ≤ 10; omega, by show _ ≤ 60; omega⟩ (cq_kIp fun r_619 h_619 => ?_)
      subst h_619
      refine cq_icmp_ne F (tgt := 629) dL_acts_622 (by decide) (fun c_622 => ?_) (fun c_622 => ?_)
      · exact absurd rfl c_622
      · refine cq_iconst F (v := 1) dL_acts_625 rfl ?_
        refine cq_goto F (tgt := 630) dL_acts_626 (by decide) ?_
        exact cq_zret F hr (by rfl) (by omega) (by omega) dL_acts_630 ⟨_, rfl, ⟨rfl, S, ck.far h hk (fun x x1 x2 => h_572.2.2 x (by omega) (by omega) (by omega) (by omega)), hk.mono (by omega), ⟨t4, c4, r4, n4, b4, hm4, h4⟩, by omega⟩⟩
    · have c_575 := cq_b1 h_572.1 c_575
      rw [if_pos c_575] at h4
      refine cq_aload_n F (i := 0) dL_acts_578 rfl rfl ?_
      refine cq_iload F dL_acts_579 rfl ?_
      refine cq_iload F dL_acts_581 rfl ?_
      refine cq_if_ne F (tgt := 590) dL_acts_583 (by decide) (fun c_583 => ?_) (fun c_583 => ?_)
      · have c_583 : ¬ s = 0 := fun z => c_583 ((nI_b (a := s) (b := 0) (by omega) (by omega)).2.2.mpr z)
        refine cq_iconst F (v := 0) dL_acts_590 rfl ?_
        refine cq_callV F (C := RX6) (ci := 7) (nq_light (l := l) (D := D) (cA := cA) (Bs := Bs) hl hb (ck.far h hk (fun x x1 x2 => h_572.2.2 x (by omega) (by omega) (by omega) (by omega))) hk i s _ (by unfold ls_x; exact (if_neg c_583).symm) hi c_575) (cwV 2 F.1.2.2.2.2 gL_acts_X6_light rfl rfl rfl hdVX6_light ⟨Nat.le_of_ble_eq_true rfl, Nat.le_of_ble_eq_true rfl⟩) hb.kind ⟨by decide, by decide⟩ rfl rfl rfl (Nat.le_of_ble_eq_true rfl) dL_acts_591 ⟨by show _ ≤ 10; omega, by show _ ≤ 60; omega⟩ (cq_kI fun r_591 M_591 h_591 => ?_)
        obtain rfl : r_591 = nI (ns_flames (ns_lightNow (S_g S) i (ls_x s)) (S_g S 6)) := h_591.1
        refine cq_aload_n F (i := 2) dL_acts_594 rfl rfl ?_
        refine cq_aload F dL_acts_595 rfl ?_
        refine cq_callS F (kL_flames l D cA X Bs ca na (S_g S 1) B t4 c4 r4 n4 b4 (ns_lightNow (S_g S) i (ls_x s)) M_591 hc hn0 (hm4.2.1.same (fun j => congrFun (h_591.2.2 _ (by omega)) j)) (hm4.2.2.2.1.same (fun j => congrFun (h_591.2.2 _ (by omega)) j)) h4 (hk.1.light hi c_575)) (va_cwS 2 F.1.2.2.2.2 gL_acts_L_flames rfl rfl rfl hdVL_flames.2 ⟨Nat.le_of_ble_eq_true rfl, Nat.le_of_ble_eq_true rfl⟩) rfl (Nat.le_of_ble_eq_true rfl) dL_acts_597 ⟨by show _ ≤ 10; omega, by show _ ≤ 60; omega⟩ (cq_kIp fun r_597 h_597 => ?_)
        rw [show ns_lightNow (S_g S) i (ls_x s) 6 = S_g S 6 from ns_light_n (by omega) (by omega) (by omega)] at h_597
        subst h_597
        refine cq_icmp_ne F (tgt := 607) dL_acts_600 (by decide) (fun c_600 => ?_) (fun c_600 => ?_)
        · exact absurd rfl c_600
        · refine cq_iconst F (v := 1) dL_acts_603 rfl ?_
          refine cq_goto F (tgt := 630) dL_acts_604 (by decide) ?_
          refine cq_zret F hr (by rfl) (by omega) (by omega) dL_acts_630 ⟨_, rfl, ?_⟩
          refine ⟨rfl, _, h_591.2.1, (as_sv hk (hk.1.light hi c_575) (by omega)).mono (by omega), ⟨t4, c4, r4, n4, b4, ⟨hm4.1.same (fun j => congrFun (h_591.2.2 _ (by omega)) j), hm4.2.1.same (fun j => congrFun (h_591.2.2 _ (by omega)) j), hm4.2.2.1.same (fun j => congrFun (h_591.2.2 _ (by omega)) j), hm4.2.2.2.1.same (fun j => congrFun (h_591.2.2 _ (by omega)) j), hm4.2.2.2.2.same (fun j => congrFun (h_591.2.2 _ (by omega)) j)⟩, ?_⟩, ?_⟩
          · show lr _ _ _ _ _ (ns_lightNow (S_g S) i (ls_x s) 1) _
            rw [show ns_lightNow (S_g S) i (ls_x s) 1 = S_g S 1 from ns_light_n (by omega) (by omega) (by omega)]
            exact h4
          · show 1 ≤ ns_lightNow (S_g S) i (ls_x s) 6
            rw [show ns_lightNow (S_g S) i (ls_x s) 6 = S_g S 6 from ns_light_n (by omega) (by omega) (by omega)]
            omega
      · have c_583 : s = 0 := (nI_b (a := s) (b := 0) (by omega) (by omega)).2.2.mp c_583
        refine cq_iconst F (v := 1) dL_acts_586 rfl ?_
        refine cq_goto F (tgt := 591) dL_acts_587 (by decide) ?_
        refine cq_callV F (C := RX6) (ci := 7) (nq_light (l := l) (D := D) (cA := cA) (Bs := Bs) hl hb (ck.far h hk (fun x x1 x2 => h_572.2.2 x (by omega) (by omega) (by omega) (by omega))) hk i s _ (by rw [c_583]; rfl) hi c_575) (cwV 2 F.1.2.2.2.2 gL_acts_X6_light rfl rfl rfl hdVX6_light ⟨Nat.le_of_ble_eq_true rfl, Nat.le_of_ble_eq_true rfl⟩) hb.kind ⟨by decide, by decide⟩ rfl rfl rfl (Nat.le_of_ble_eq_true rfl) dL_acts_591 ⟨by show _ ≤ 10; omega, by show _ ≤ 60; omega⟩ (cq_kI fun r_591 M_591 h_591 => ?_)
        obtain rfl : r_591 = nI (ns_flames (ns_lightNow (S_g S) i (ls_x s)) (S_g S 6)) := h_591.1
        refine cq_aload_n F (i := 2) dL_acts_594 rfl rfl ?_
        refine cq_aload F dL_acts_595 rfl ?_
        refine cq_callS F (kL_flames l D cA X Bs ca na (S_g S 1) B t4 c4 r4 n4 b4 (ns_lightNow (S_g S) i (ls_x s)) M_591 hc hn0 (hm4.2.1.same (fun j => congrFun (h_591.2.2 _ (by omega)) j)) (hm4.2.2.2.1.same (fun j => congrFun (h_591.2.2 _ (by omega)) j)) h4 (hk.1.light hi c_575)) (va_cwS 2 F.1.2.2.2.2 gL_acts_L_flames rfl rfl rfl hdVL_flames.2 ⟨Nat.le_of_ble_eq_true rfl, Nat.le_of_ble_eq_true rfl⟩) rfl (Nat.le_of_ble_eq_true rfl) dL_acts_597 ⟨by show _ ≤ 10; omega, by show _ ≤ 60; omega⟩ (cq_kIp fun r_597 h_597 => ?_)
        rw [show ns_lightNow (S_g S) i (ls_x s) 6 = S_g S 6 from ns_light_n (by omega) (by omega) (by omega)] at h_597
        subst h_597
        refine cq_icmp_ne F (tgt := 607) dL_acts_600 (by decide) (fun c_600 => ?_) (fun c_600 => ?_)
        · exact absurd rfl c_600
        · refine cq_iconst F (v := 1) dL_acts_603 rfl ?_
          refine cq_goto F (tgt := 630) dL_acts_604 (by decide) ?_
          refine cq_zret F hr (by rfl) (by omega) (by omega) dL_acts_630 ⟨_, rfl, ?_⟩
          refine ⟨rfl, _, h_591.2.1, (as_sv hk (hk.1.light hi c_575) (by omega)).mono (by omega), ⟨t4, c4, r4, n4, b4, ⟨hm4.1.same (fun j => congrFun (h_591.2.2 _ (by omega)) j), hm4.2.1.same (fun j => congrFun (h_591.2.2 _ (by omega)) j), hm4.2.2.1.same (fun j => congrFun (h_591.2.2 _ (by omega)) j), hm4.2.2.2.1.same (fun j => congrFun (h_591.2.2 _ (by omega)) j), hm4.2.2.2.2.same (fun j => congrFun (h_591.2.2 _ (by omega)) j)⟩, ?_⟩, ?_⟩
          · show lr _ _ _ _ _ (ns_lightNow (S_g S) i (ls_x s) 1) _
            rw [show ns_lightNow (S_g S) i (ls_x s) 1 = S_g S 1 from ns_light_n (by omega) (by omega) (by omega)]
            exact h4
          · show 1 ≤ ns_lightNow (S_g S) i (ls_x s) 6
            rw [show ns_lightNow (S_g S) i (ls_x s) 6 = S_g S 6 from ns_light_n (by omega) (by omega) (by omega)]
            omega
  · subst sw_24
    refine cq_tableIn F (off := 538) (tgt := 562) dL_acts_24 (by decide) (by decide) (by decide) (by decide) ?_
    obtain ⟨hc0, hc1, hc2, hc3, hc4⟩ := hrel.2.2.1 i hi
    have hq := hk.1.2.2.2.1 i hi
    have hTt := hq.time
    have hbt := hq.2.2.1
    have hbd : ns_burned (S_g S) i = S_g S (14 + 11 * i) + S_g S (15 + 11 * i) := rfl
    have h7 := hq.1
    have hff := hq.2.2.2.1
    refine cq_aload_n F (i := 1) dL_acts_562 rfl rfl ?_
    refine cq_aload_n F (i := 2) dL_acts_563 rfl rfl ?_
    refine cq_aload F dL_acts_564 rfl ?_
    refine cq_aload F dL_acts_566 rfl ?_
    refine cq_iload F dL_acts_568 rfl ?_
    refine cq_iload F dL_acts_570 rfl ?_
    refine cq_callS F (kL_lights l D cA X Bs ta ca ra na ba i s (S_g S 1) B t c r n b (S_g S) M ha hm hrel hk.1 hi (by omega)) (va_cwS 6 F.1.2.2.2.2 gL_acts_L_lights rfl rfl rfl hdVL_lights.2 ⟨Nat.le_of_ble_eq_true rfl, Nat.le_of_ble_eq_true rfl⟩) rfl (Nat.le_of_ble_eq_true rfl) dL_acts_572 ⟨by show _ ≤ 10; omega, by show _ ≤ 60; omega⟩ (cq_kI fun r_572 M_572 h_572 => ?_)
    obtain ⟨t4, c4, r4, n4, b4, hm4, h4⟩ := h_572.2.1
    refine cq_if_eq F (tgt := 611) dL_acts_575 (by decide) (fun c_575 => ?_) (fun c_575 => ?_)
    · have c_575 := cq_b0 h_572.1 c_575
      rw [if_neg c_575] at h4
      refine cq_aload_n F (i := 0) dL_acts_611 rfl rfl ?_
      refine cq_iconst F (v := 3) dL_acts_612 rfl ?_
      refine cq_callV F (C := RX6) (ci := 7) (nq_count (l := l) (D := D) (cA := cA) (Bs := Bs) hl hb (ck.far h hk (fun x x1 x2 => h_572.2.2 x (by omega) (by omega) (by omega) (by omega))) hk 3 (by omega)) (cwV 1 F.1.2.2.2.2 gL_acts_X6_count rfl rfl rfl hdVX6_count ⟨Nat.le_of_ble_eq_true rfl, Nat.le_of_ble_eq_true rfl⟩) hb.kind ⟨by decide, by decide⟩ rfl rfl rfl (Nat.le_of_ble_eq_true rfl) dL_acts_613 ⟨by show _ ≤ 10; omega, by show _ ≤ 60; omega⟩ (cq_kIp fun r_613 h_613 => ?_)
      obtain rfl : r_613 = nI (ns_flames (S_g S) (S_g S 6)) := h_613
      refine cq_aload_n F (i := 2) dL_acts_616 rfl rfl ?_
      refine cq_aload F dL_acts_617 rfl ?_
      refine cq_callS F (kL_flames l D cA X Bs ca na (S_g S 1) B t4 c4 r4 n4 b4 (S_g S) M_572 hc hn0 hm4.2.1 hm4.2.2.2.1 h4 hk.1) (va_cwS 2 F.1.2.2.2.2 gL_acts_L_flames rfl rfl rfl hdVL_flames.2 ⟨Nat.le_of_ble_eq_true rfl, Nat.le_of_ble_eq_true rfl⟩) rfl (Nat.le_of_ble_eq_true rfl) dL_acts_619 ⟨by show _ ≤ 10; omega, by show _ ≤ 60; omega⟩ (cq_kIp fun r_619 h_619 => ?_)
      subst h_619
      refine cq_icmp_ne F (tgt := 629) dL_acts_622 (by decide) (fun c_622 => ?_) (fun c_622 => ?_)
      · exact absurd rfl c_622
      · refine cq_iconst F (v := 1) dL_acts_625 rfl ?_
        refine cq_goto F (tgt := 630) dL_acts_626 (by decide) ?_
        exact cq_zret F hr (by rfl) (by omega) (by omega) dL_acts_630 ⟨_, rfl, ⟨rfl, S, ck.far h hk (fun x x1 x2 => h_572.2.2 x (by omega) (by omega) (by omega) (by omega)), hk.mono (by omega), ⟨t4, c4, r4, n4, b4, hm4, h4⟩, by omega⟩⟩
    · have c_575 := cq_b1 h_572.1 c_575
      rw [if_pos c_575] at h4
      refine cq_aload_n F (i := 0) dL_acts_578 rfl rfl ?_
      refine cq_iload F dL_acts_579 rfl ?_
      refine cq_iload F dL_acts_581 rfl ?_
      refine cq_if_ne F (tgt := 590) dL_acts_583 (by decide) (fun c_583 => ?_) (fun c_583 => ?_)
      · have c_583 : ¬ s = 0 := fun z => c_583 ((nI_b (a := s) (b := 0) (by omega) (by omega)).2.2.mpr z)
        refine cq_iconst F (v := 0) dL_acts_590 rfl ?_
        refine cq_callV F (C := RX6) (ci := 7) (nq_light (l := l) (D := D) (cA := cA) (Bs := Bs) hl hb (ck.far h hk (fun x x1 x2 => h_572.2.2 x (by omega) (by omega) (by omega) (by omega))) hk i s _ (by unfold ls_x; exact (if_neg c_583).symm) hi c_575) (cwV 2 F.1.2.2.2.2 gL_acts_X6_light rfl rfl rfl hdVX6_light ⟨Nat.le_of_ble_eq_true rfl, Nat.le_of_ble_eq_true rfl⟩) hb.kind ⟨by decide, by decide⟩ rfl rfl rfl (Nat.le_of_ble_eq_true rfl) dL_acts_591 ⟨by show _ ≤ 10; omega, by show _ ≤ 60; omega⟩ (cq_kI fun r_591 M_591 h_591 => ?_)
        obtain rfl : r_591 = nI (ns_flames (ns_lightNow (S_g S) i (ls_x s)) (S_g S 6)) := h_591.1
        refine cq_aload_n F (i := 2) dL_acts_594 rfl rfl ?_
        refine cq_aload F dL_acts_595 rfl ?_
        refine cq_callS F (kL_flames l D cA X Bs ca na (S_g S 1) B t4 c4 r4 n4 b4 (ns_lightNow (S_g S) i (ls_x s)) M_591 hc hn0 (hm4.2.1.same (fun j => congrFun (h_591.2.2 _ (by omega)) j)) (hm4.2.2.2.1.same (fun j => congrFun (h_591.2.2 _ (by omega)) j)) h4 (hk.1.light hi c_575)) (va_cwS 2 F.1.2.2.2.2 gL_acts_L_flames rfl rfl rfl hdVL_flames.2 ⟨Nat.le_of_ble_eq_true rfl, Nat.le_of_ble_eq_true rfl⟩) rfl (Nat.le_of_ble_eq_true rfl) dL_acts_597 ⟨by show _ ≤ 10; omega, by show _ ≤ 60; omega⟩ (cq_kIp fun r_597 h_597 => ?_)
        rw [show ns_lightNow (S_g S) i (ls_x s) 6 = S_g S 6 from ns_light_n (by omega) (by omega) (by omega)] at h_597
        subst h_597
        refine cq_icmp_ne F (tgt := 607) dL_acts_600 (by decide) (fun c_600 => ?_) (fun c_600 => ?_)
        · exact absurd rfl c_600
        · refine cq_iconst F (v := 1) dL_acts_603 rfl ?_
          refine cq_goto F (tgt := 630) dL_acts_604 (by decide) ?_
          refine cq_zret F hr (by rfl) (by omega) (by omega) dL_acts_630 ⟨_, rfl, ?_⟩
          refine ⟨rfl, _, h_591.2.1, (as_sv hk (hk.1.light hi c_575) (by omega)).mono (by omega), ⟨t4, c4, r4, n4, b4, ⟨hm4.1.same (fun j => congrFun (h_591.2.2 _ (by omega)) j), hm4.2.1.same (fun j => congrFun (h_591.2.2 _ (by omega)) j), hm4.2.2.1.same (fun j => congrFun (h_591.2.2 _ (by omega)) j), hm4.2.2.2.1.same (fun j => congrFun (h_591.2.2 _ (by omega)) j), hm4.2.2.2.2.same (fun j => congrFun (h_591.2.2 _ (by omega)) j)⟩, ?_⟩, ?_⟩
          · show lr _ _ _ _ _ (ns_lightNow (S_g S) i (ls_x s) 1) _
            rw [show ns_lightNow (S_g S) i (ls_x s) 1 = S_g S 1 from ns_light_n (by omega) (by omega) (by omega)]
            exact h4
          · show 1 ≤ ns_lightNow (S_g S) i (ls_x s) 6
            rw [show ns_lightNow (S_g S) i (ls_x s) 6 = S_g S 6 from ns_light_n (by omega) (by omega) (by omega)]
            omega
      · have c_583 : s = 0 := (nI_b (a := s) (b := 0) (by omega) (by omega)).2.2.mp c_583
        refine cq_iconst F (v := 1) dL_acts_586 rfl ?_
        refine cq_goto F (tgt := 591) dL_acts_587 (by decide) ?_
        refine cq_callV F (C := RX6) (ci := 7) (nq_light (l := l) (D := D) (cA := cA) (Bs := Bs) hl hb (ck.far h hk (fun x x1 x2 => h_572.2.2 x (by omega) (by omega) (by omega) (by omega))) hk i s _ (by rw [c_583]; rfl) hi c_575) (cwV 2 F.1.2.2.2.2 gL_acts_X6_light rfl rfl rfl hdVX6_light ⟨Nat.le_of_ble_eq_true rfl, Nat.le_of_ble_eq_true rfl⟩) hb.kind ⟨by decide, by decide⟩ rfl rfl rfl (Nat.le_of_ble_eq_true rfl) dL_acts_591 ⟨by show _ ≤ 10; omega, by show _ ≤ 60; omega⟩ (cq_kI fun r_591 M_591 h_591 => ?_)
        obtain rfl : r_591 = nI (ns_flames (ns_lightNow (S_g S) i (ls_x s)) (S_g S 6)) := h_591.1
        refine cq_aload_n F (i := 2) dL_acts_594 rfl rfl ?_
        refine cq_aload F dL_acts_595 rfl ?_
        refine cq_callS F (kL_flames l D cA X Bs ca na (S_g S 1) B t4 c4 r4 n4 b4 (ns_lightNow (S_g S) i (ls_x s)) M_591 hc hn0 (hm4.2.1.same (fun j => congrFun (h_591.2.2 _ (by omega)) j)) (hm4.2.2.2.1.same (fun j => congrFun (h_591.2.2 _ (by omega)) j)) h4 (hk.1.light hi c_575)) (va_cwS 2 F.1.2.2.2.2 gL_acts_L_flames rfl rfl rfl hdVL_flames.2 ⟨Nat.le_of_ble_eq_true rfl, Nat.le_of_ble_eq_true rfl⟩) rfl (Nat.le_of_ble_eq_true rfl) dL_acts_597 ⟨by show _ ≤ 10; omega, by show _ ≤ 60; omega⟩ (cq_kIp fun r_597 h_597 => ?_)
        rw [show ns_lightNow (S_g S) i (ls_x s) 6 = S_g S 6 from ns_light_n (by omega) (by omega) (by omega)] at h_597
        subst h_597
        refine cq_icmp_ne F (tgt := 607) dL_acts_600 (by decide) (fun c_600 => ?_) (fun c_600 => ?_)
        · exact absurd rfl c_600
        · refine cq_iconst F (v := 1) dL_acts_603 rfl ?_
          refine cq_goto F (tgt := 630) dL_acts_604 (by decide) ?_
          refine cq_zret F hr (by rfl) (by omega) (by omega) dL_acts_630 ⟨_, rfl, ?_⟩
          refine ⟨rfl, _, h_591.2.1, (as_sv hk (hk.1.light hi c_575) (by omega)).mono (by omega), ⟨t4, c4, r4, n4, b4, ⟨hm4.1.same (fun j => congrFun (h_591.2.2 _ (by omega)) j), hm4.2.1.same (fun j => congrFun (h_591.2.2 _ (by omega)) j), hm4.2.2.1.same (fun j => congrFun (h_591.2.2 _ (by omega)) j), hm4.2.2.2.1.same (fun j => congrFun (h_591.2.2 _ (by omega)) j), hm4.2.2.2.2.same (fun j => congrFun (h_591.2.2 _ (by omega)) j)⟩, ?_⟩, ?_⟩
          · show lr _ _ _ _ _ (ns_lightNow (S_g S) i (ls_x s) 1) _
            rw [show ns_lightNow (S_g S) i (ls_x s) 1 = S_g S 1 from ns_light_n (by omega) (by omega) (by omega)]
            exact h4
          · show 1 ≤ ns_lightNow (S_g S) i (ls_x s) 6
            rw [show ns_lightNow (S_g S) i (ls_x s) 6 = S_g S 6 from ns_light_n (by omega) (by omega) (by omega)]
            omega
  · subst sw_24
    refine cq_tableIn F (off := 538) (tgt := 562) dL_acts_24 (by decide) (by decide) (by decide) (by decide) ?_
    obtain ⟨hc0, hc1, hc2, hc3, hc4⟩ := hrel.2.2.1 i hi
    have hq := hk.1.2.2.2.1 i hi
    have hTt := hq.time
    have hbt := hq.2.2.1
    have hbd : ns_burned (S_g S) i = S_g S (14 + 11 * i) + S_g S (15 + 11 * i) := rfl
    have h7 := hq.1
    have hff := hq.2.2.2.1
    refine cq_aload_n F (i := 1) dL_acts_562 rfl rfl ?_
    refine cq_aload_n F (i := 2) dL_acts_563 rfl rfl ?_
    refine cq_aload F dL_acts_564 rfl ?_
    refine cq_aload F dL_acts_566 rfl ?_
    refine cq_iload F dL_acts_568 rfl ?_
    refine cq_iload F dL_acts_570 rfl ?_
    refine cq_callS F (kL_lights l D cA X Bs ta ca ra na ba i s (S_g S 1) B t c r n b (S_g S) M ha hm hrel hk.1 hi (by omega)) (va_cwS 6 F.1.2.2.2.2 gL_acts_L_lights rfl rfl rfl hdVL_lights.2 ⟨Nat.le_of_ble_eq_true rfl, Nat.le_of_ble_eq_true rfl⟩) rfl (Nat.le_of_ble_eq_true rfl) dL_acts_572 ⟨by show _ ≤ 10; omega, by show _ ≤ 60; omega⟩ (cq_kI fun r_572 M_572 h_572 => ?_)
    obtain ⟨t4, c4, r4, n4, b4, hm4, h4⟩ := h_572.2.1
    refine cq_if_eq F (tgt := 611) dL_acts_575 (by decide) (fun c_575 => ?_) (fun c_575 => ?_)
    · have c_575 := cq_b0 h_572.1 c_575
      rw [if_neg c_575] at h4
      refine cq_aload_n F (i := 0) dL_acts_611 rfl rfl ?_
      refine cq_iconst F (v := 3) dL_acts_612 rfl ?_
      refine cq_callV F (C := RX6) (ci := 7) (nq_count (l := l) (D := D) (cA := cA) (Bs := Bs) hl hb (ck.far h hk (fun x x1 x2 => h_572.2.2 x (by omega) (by omega) (by omega) (by omega))) hk 3 (by omega)) (cwV 1 F.1.2.2.2.2 gL_acts_X6_count rfl rfl rfl hdVX6_count ⟨Nat.le_of_ble_eq_true rfl, Nat.le_of_ble_eq_true rfl⟩) hb.kind ⟨by decide, by decide⟩ rfl rfl rfl (Nat.le_of_ble_eq_true rfl) dL_acts_613 ⟨by show _ ≤ 10; omega, by show _ ≤ 60; omega⟩ (cq_kIp fun r_613 h_613 => ?_)
      obtain rfl : r_613 = nI (ns_flames (S_g S) (S_g S 6)) := h_613
      refine cq_aload_n F (i := 2) dL_acts_616 rfl rfl ?_
      refine cq_aload F dL_acts_617 rfl ?_
      refine cq_callS F (kL_flames l D cA X Bs ca na (S_g S 1) B t4 c4 r4 n4 b4 (S_g S) M_572 hc hn0 hm4.2.1 hm4.2.2.2.1 h4 hk.1) (va_cwS 2 F.1.2.2.2.2 gL_acts_L_flames rfl rfl rfl hdVL_flames.2 ⟨Nat.le_of_ble_eq_true rfl, Nat.le_of_ble_eq_true rfl⟩) rfl (Nat.le_of_ble_eq_true rfl) dL_acts_619 ⟨by show _ ≤ 10; omega, by show _ ≤ 60; omega⟩ (cq_kIp fun r_619 h_619 => ?_)
      subst h_619
      refine cq_icmp_ne F (tgt := 629) dL_acts_622 (by decide) (fun c_622 => ?_) (fun c_622 => ?_)
      · exact absurd rfl c_622
      · refine cq_iconst F (v := 1) dL_acts_625 rfl ?_
        refine cq_goto F (tgt := 630) dL_acts_626 (by decide) ?_
        exact cq_zret F hr (by rfl) (by omega) (by omega) dL_acts_630 ⟨_, rfl, ⟨rfl, S, ck.far h hk (fun x x1 x2 => h_572.2.2 x (by omega) (by omega) (by omega) (by omega)), hk.mono (by omega), ⟨t4, c4, r4, n4, b4, hm4, h4⟩, by omega⟩⟩
    · have c_575 := cq_b1 h_572.1 c_575
      rw [if_pos c_575] at h4
      refine cq_aload_n F (i := 0) dL_acts_578 rfl rfl ?_
      refine cq_iload F dL_acts_579 rfl ?_
      refine cq_iload F dL_acts_581 rfl ?_
      refine cq_if_ne F (tgt := 590) dL_acts_583 (by decide) (fun c_583 => ?_) (fun c_583 => ?_)
      · have c_583 : ¬ s = 0 := fun z => c_583 ((nI_b (a := s) (b := 0) (by omega) (by omega)).2.2.mpr z)
        refine cq_iconst F (v := 0) dL_acts_590 rfl ?_
        refine cq_callV F (C := RX6) (ci := 7) (nq_light (l := l) (D := D) (cA := cA) (Bs := Bs) hl hb (ck.far h hk (fun x x1 x2 => h_572.2.2 x (by omega) (by omega) (by omega) (by omega))) hk i s _ (by unfold ls_x; exact (if_neg c_583).symm) hi c_575) (cwV 2 F.1.2.2.2.2 gL_acts_X6_light rfl rfl rfl hdVX6_light ⟨Nat.le_of_ble_eq_true rfl, Nat.le_of_ble_eq_true rfl⟩) hb.kind ⟨by decide, by decide⟩ rfl rfl rfl (Nat.le_of_ble_eq_true rfl) dL_acts_591 ⟨by show _ ≤ 10; omega, by show _ ≤ 60; omega⟩ (cq_kI fun r_591 M_591 h_591 => ?_)
        obtain rfl : r_591 = nI (ns_flames (ns_lightNow (S_g S) i (ls_x s)) (S_g S 6)) := h_591.1
        refine cq_aload_n F (i := 2) dL_acts_594 rfl rfl ?_
        refine cq_aload F dL_acts_595 rfl ?_
        refine cq_callS F (kL_flames l D cA X Bs ca na (S_g S 1) B t4 c4 r4 n4 b4 (ns_lightNow (S_g S) i (ls_x s)) M_591 hc hn0 (hm4.2.1.same (fun j => congrFun (h_591.2.2 _ (by omega)) j)) (hm4.2.2.2.1.same (fun j => congrFun (h_591.2.2 _ (by omega)) j)) h4 (hk.1.light hi c_575)) (va_cwS 2 F.1.2.2.2.2 gL_acts_L_flames rfl rfl rfl hdVL_flames.2 ⟨Nat.le_of_ble_eq_true rfl, Nat.le_of_ble_eq_true rfl⟩) rfl (Nat.le_of_ble_eq_true rfl) dL_acts_597 ⟨by show _ ≤ 10; omega, by show _ ≤ 60; omega⟩ (cq_kIp fun r_597 h_597 => ?_)
        rw [show ns_lightNow (S_g S) i (ls_x s) 6 = S_g S 6 from ns_light_n (by omega) (by omega) (by omega)] at h_597
        subst h_597
        refine cq_icmp_ne F (tgt := 607) dL_acts_600 (by decide) (fun c_600 => ?_) (fun c_600 => ?_)
        · exact absurd rfl c_600
        · refine cq_iconst F (v := 1) dL_acts_603 rfl ?_
          refine cq_goto F (tgt := 630) dL_acts_604 (by decide) ?_
          refine cq_zret F hr (by rfl) (by omega) (by omega) dL_acts_630 ⟨_, rfl, ?_⟩
          refine ⟨rfl, _, h_591.2.1, (as_sv hk (hk.1.light hi c_575) (by omega)).mono (by omega), ⟨t4, c4, r4, n4, b4, ⟨hm4.1.same (fun j => congrFun (h_591.2.2 _ (by omega)) j), hm4.2.1.same (fun j => congrFun (h_591.2.2 _ (by omega)) j), hm4.2.2.1.same (fun j => congrFun (h_591.2.2 _ (by omega)) j), hm4.2.2.2.1.same (fun j => congrFun (h_591.2.2 _ (by omega)) j), hm4.2.2.2.2.same (fun j => congrFun (h_591.2.2 _ (by omega)) j)⟩, ?_⟩, ?_⟩
          · show lr _ _ _ _ _ (ns_lightNow (S_g S) i (ls_x s) 1) _
            rw [show ns_lightNow (S_g S) i (ls_x s) 1 = S_g S 1 from ns_light_n (by omega) (by omega) (by omega)]
            exact h4
          · show 1 ≤ ns_lightNow (S_g S) i (ls_x s) 6
            rw [show ns_lightNow (S_g S) i (ls_x s) 6 = S_g S 6 from ns_light_n (by omega) (by omega) (by omega)]
            omega
      · have c_583 : s = 0 := (nI_b (a := s) (b := 0) (by omega) (by omega)).2.2.mp c_583
        refine cq_iconst F (v := 1) dL_acts_586 rfl ?_
        refine cq_goto F (tgt := 591) dL_acts_587 (by decide) ?_
        refine cq_callV F (C := RX6) (ci := 7) (nq_light (l := l) (D := D) (cA := cA) (Bs := Bs) hl hb (ck.far h hk (fun x x1 x2 => h_572.2.2 x (by omega) (by omega) (by omega) (by omega))) hk i s _ (by rw [c_583]; rfl) hi c_575) (cwV 2 F.1.2.2.2.2 gL_acts_X6_light rfl rfl rfl hdVX6_light ⟨Nat.le_of_ble_eq_true rfl, Nat.le_of_ble_eq_true rfl⟩) hb.kind ⟨by decide, by decide⟩ rfl rfl rfl (Nat.le_of_ble_eq_true rfl) dL_acts_591 ⟨by show _ ≤ 10; omega, by show _ ≤ 60; omega⟩ (cq_kI fun r_591 M_591 h_591 => ?_)
        obtain rfl : r_591 = nI (ns_flames (ns_lightNow (S_g S) i (ls_x s)) (S_g S 6)) := h_591.1
        refine cq_aload_n F (i := 2) dL_acts_594 rfl rfl ?_
        refine cq_aload F dL_acts_595 rfl ?_
        refine cq_callS F (kL_flames l D cA X Bs ca na (S_g S 1) B t4 c4 r4 n4 b4 (ns_lightNow (S_g S) i (ls_x s)) M_591 hc hn0 (hm4.2.1.same (fun j => congrFun (h_591.2.2 _ (by omega)) j)) (hm4.2.2.2.1.same (fun j => congrFun (h_591.2.2 _ (by omega)) j)) h4 (hk.1.light hi c_575)) (va_cwS 2 F.1.2.2.2.2 gL_acts_L_flames rfl rfl rfl hdVL_flames.2 ⟨Nat.le_of_ble_eq_true rfl, Nat.le_of_ble_eq_true rfl⟩) rfl (Nat.le_of_ble_eq_true rfl) dL_acts_597 ⟨by show _ ≤ 10; omega, by show _ ≤ 60; omega⟩ (cq_kIp fun r_597 h_597 => ?_)
        rw [show ns_lightNow (S_g S) i (ls_x s) 6 = S_g S 6 from ns_light_n (by omega) (by omega) (by omega)] at h_597
        subst h_597
        refine cq_icmp_ne F (tgt := 607) dL_acts_600 (by decide) (fun c_600 => ?_) (fun c_600 => ?_)
        · exact absurd rfl c_600
        · refine cq_iconst F (v := 1) dL_acts_603 rfl ?_
          refine cq_goto F (tgt := 630) dL_acts_604 (by decide) ?_
          refine cq_zret F hr (by rfl) (by omega) (by omega) dL_acts_630 ⟨_, rfl, ?_⟩
          refine ⟨rfl, _, h_591.2.1, (as_sv hk (hk.1.light hi c_575) (by omega)).mono (by omega), ⟨t4, c4, r4, n4, b4, ⟨hm4.1.same (fun j => congrFun (h_591.2.2 _ (by omega)) j), hm4.2.1.same (fun j => congrFun (h_591.2.2 _ (by omega)) j), hm4.2.2.1.same (fun j => congrFun (h_591.2.2 _ (by omega)) j), hm4.2.2.2.1.same (fun j => congrFun (h_591.2.2 _ (by omega)) j), hm4.2.2.2.2.same (fun j => congrFun (h_591.2.2 _ (by omega)) j)⟩, ?_⟩, ?_⟩
          · show lr _ _ _ _ _ (ns_lightNow (S_g S) i (ls_x s) 1) _
            rw [show ns_lightNow (S_g S) i (ls_x s) 1 = S_g S 1 from ns_light_n (by omega) (by omega) (by omega)]
            exact h4
          · show 1 ≤ ns_lightNow (S_g S) i (ls_x s) 6
            rw [show ns_lightNow (S_g S) i (ls_x s) 6 = S_g S 6 from ns_light_n (by omega) (by omega) (by omega)]
            omega
  · subst sw_24
    refine cq_tableOut F (tgt := 631) dL_acts_24 (by decide) (by decide) ?_
    refine cq_iconst F (v := 1) dL_acts_631 rfl ?_
    refine cq_iload F dL_acts_632 rfl ?_
    refine cq_iload F dL_acts_634 rfl ?_
    refine cq_bipush F (v := 8) dL_acts_636 (by decide) ?_
    refine cq_ishr F dL_acts_638 ?_
    refine cq_iconst F (v := 4) dL_acts_639 rfl ?_
    refine cq_callS F (kL_low l D cA X Bs _ 4 M (by omega) (by omega)) (va_cwS 2 F.1.2.2.2.2 gL_acts_L_low rfl rfl rfl hdVL_low.2 ⟨Nat.le_of_ble_eq_true rfl, Nat.le_of_ble_eq_true rfl⟩) rfl (Nat.le_of_ble_eq_true rfl) dL_acts_640 ⟨by show _ ≤ 10; omega, by show _ ≤ 60; omega⟩ (cq_kIp fun r_640 h_640 => ?_)
    obtain ⟨q9, hq9, rfl⟩ := h_640
    refine cq_if_ne F (tgt := 652) dL_acts_643 (by decide) (fun c_643 => ?_) (fun c_643 => ?_)
    · have c_643 : ¬ q9 = 0 := fun z => c_643 ((nI_b (a := q9) (b := 0) (by omega) (by omega)).2.2.mpr z)
      refine cq_bipush F (v := 20) dL_acts_652 (by decide) ?_
      refine cq_callS F (kL_low l D cA X Bs _ 20 M (by omega) (by omega)) (va_cwS 2 F.1.2.2.2.2 gL_acts_L_low rfl rfl rfl hdVL_low.2 ⟨Nat.le_of_ble_eq_true rfl, Nat.le_of_ble_eq_true rfl⟩) rfl (Nat.le_of_ble_eq_true rfl) dL_acts_654 ⟨by show _ ≤ 10; omega, by show _ ≤ 60; omega⟩ (cq_kIp fun r_654 h_654 => ?_)
      obtain ⟨m0, hm0, rfl⟩ := h_654
      refine cq_iadd F dL_acts_657 ?_
      rw [show (1 + nI m0 : Int32) = nI (1 + m0) from nI_add _ _]
      refine cq_istore F dL_acts_658 (by decide) ?_
      refine cq_iconst F (v := 0) dL_acts_660 rfl ?_
      refine cq_istore F dL_acts_661 (by decide) ?_
      refine cq_iconst F (v := 0) dL_acts_663 rfl ?_
      refine cq_istore F dL_acts_664 (by decide) ?_
      refine cq_loc (L2 := [(0, .ref o), (1, .ref ta), (2, .ref ca), (3, .ref ra), (4, .ref na), (5, .ref ba), (16, .int (nI (1 + m0))), (17, .int (nI 0)), (18, .int (nI 0))]) rfl ?_
      exact loop_666 201 (1 + m0) 0 0 t c r n b M (by omega) (by omega) (by omega) rfl hm hrel lf.rf (by omega)
    · have c_643 : q9 = 0 := (nI_b (a := q9) (b := 0) (by omega) (by omega)).2.2.mp c_643
      refine cq_sipush F (v := 200) dL_acts_646 (by decide) ?_
      refine cq_goto F (tgt := 654) dL_acts_649 (by decide) ?_
      refine cq_callS F (kL_low l D cA X Bs _ 200 M (by omega) (by omega)) (va_cwS 2 F.1.2.2.2.2 gL_acts_L_low rfl rfl rfl hdVL_low.2 ⟨Nat.le_of_ble_eq_true rfl, Nat.le_of_ble_eq_true rfl⟩) rfl (Nat.le_of_ble_eq_true rfl) dL_acts_654 ⟨by show _ ≤ 10; omega, by show _ ≤ 60; omega⟩ (cq_kIp fun r_654 h_654 => ?_)
      obtain ⟨m0, hm0, rfl⟩ := h_654
      refine cq_iadd F dL_acts_657 ?_
      rw [show (1 + nI m0 : Int32) = nI (1 + m0) from nI_add _ _]
      refine cq_istore F dL_acts_658 (by decide) ?_
      refine cq_iconst F (v := 0) dL_acts_660 rfl ?_
      refine cq_istore F dL_acts_661 (by decide) ?_
      refine cq_iconst F (v := 0) dL_acts_663 rfl ?_
      refine cq_istore F dL_acts_664 (by decide) ?_
      refine cq_loc (L2 := [(0, .ref o), (1, .ref ta), (2, .ref ca), (3, .ref ra), (4, .ref na), (5, .ref ba), (16, .int (nI (1 + m0))), (17, .int (nI 0)), (18, .int (nI 0))]) rfl ?_
      exact loop_666 201 (1 + m0) 0 0 t c r n b M (by omega) (by omega) (by omega) rfl hm hrel lf.rf (by omega)
  · subst sw_24
    refine cq_tableOut F (tgt := 631) dL_acts_24 (by decide) (by decide) ?_
    refine cq_iconst F (v := 1) dL_acts_631 rfl ?_
    refine cq_iload F dL_acts_632 rfl ?_
    refine cq_iload F dL_acts_634 rfl ?_
    refine cq_bipush F (v := 8) dL_acts_636 (by decide) ?_
    refine cq_ishr F dL_acts_638 ?_
    refine cq_iconst F (v := 4) dL_acts_639 rfl ?_
    refine cq_callS F (kL_low l D cA X Bs _ 4 M (by omega) (by omega)) (va_cwS 2 F.1.2.2.2.2 gL_acts_L_low rfl rfl rfl hdVL_low.2 ⟨Nat.le_of_ble_eq_true rfl, Nat.le_of_ble_eq_true rfl⟩) rfl (Nat.le_of_ble_eq_true rfl) dL_acts_640 ⟨by show _ ≤ 10; omega, by show _ ≤ 60; omega⟩ (cq_kIp fun r_640 h_640 => ?_)
    obtain ⟨q9, hq9, rfl⟩ := h_640
    refine cq_if_ne F (tgt := 652) dL_acts_643 (by decide) (fun c_643 => ?_) (fun c_643 => ?_)
    · have c_643 : ¬ q9 = 0 := fun z => c_643 ((nI_b (a := q9) (b := 0) (by omega) (by omega)).2.2.mpr z)
      refine cq_bipush F (v := 20) dL_acts_652 (by decide) ?_
      refine cq_callS F (kL_low l D cA X Bs _ 20 M (by omega) (by omega)) (va_cwS 2 F.1.2.2.2.2 gL_acts_L_low rfl rfl rfl hdVL_low.2 ⟨Nat.le_of_ble_eq_true rfl, Nat.le_of_ble_eq_true rfl⟩) rfl (Nat.le_of_ble_eq_true rfl) dL_acts_654 ⟨by show _ ≤ 10; omega, by show _ ≤ 60; omega⟩ (cq_kIp fun r_654 h_654 => ?_)
      obtain ⟨m0, hm0, rfl⟩ := h_654
      refine cq_iadd F dL_acts_657 ?_
      rw [show (1 + nI m0 : Int32) = nI (1 + m0) from nI_add _ _]
      refine cq_istore F dL_acts_658 (by decide) ?_
      refine cq_iconst F (v := 0) dL_acts_660 rfl ?_
      refine cq_istore F dL_acts_661 (by decide) ?_
      refine cq_iconst F (v := 0) dL_acts_663 rfl ?_
      refine cq_istore F dL_acts_664 (by decide) ?_
      refine cq_loc (L2 := [(0, .ref o), (1, .ref ta), (2, .ref ca), (3, .ref ra), (4, .ref na), (5, .ref ba), (16, .int (nI (1 + m0))), (17, .int (nI 0)), (18, .int (nI 0))]) rfl ?_
      exact loop_666 201 (1 + m0) 0 0 t c r n b M (by omega) (by omega) (by omega) rfl hm hrel lf.rf (by omega)
    · have c_643 : q9 = 0 := (nI_b (a := q9) (b := 0) (by omega) (by omega)).2.2.mp c_643
      refine cq_sipush F (v := 200) dL_acts_646 (by decide) ?_
      refine cq_goto F (tgt := 654) dL_acts_649 (by decide) ?_
      refine cq_callS F (kL_low l D cA X Bs _ 200 M (by omega) (by omega)) (va_cwS 2 F.1.2.2.2.2 gL_acts_L_low rfl rfl rfl hdVL_low.2 ⟨Nat.le_of_ble_eq_true rfl, Nat.le_of_ble_eq_true rfl⟩) rfl (Nat.le_of_ble_eq_true rfl) dL_acts_654 ⟨by show _ ≤ 10; omega, by show _ ≤ 60; omega⟩ (cq_kIp fun r_654 h_654 => ?_)
      obtain ⟨m0, hm0, rfl⟩ := h_654
      refine cq_iadd F dL_acts_657 ?_
      rw [show (1 + nI m0 : Int32) = nI (1 + m0) from nI_add _ _]
      refine cq_istore F dL_acts_658 (by decide) ?_
      refine cq_iconst F (v := 0) dL_acts_660 rfl ?_
      refine cq_istore F dL_acts_661 (by decide) ?_
      refine cq_iconst F (v := 0) dL_acts_663 rfl ?_
      refine cq_istore F dL_acts_664 (by decide) ?_
      refine cq_loc (L2 := [(0, .ref o), (1, .ref ta), (2, .ref ca), (3, .ref ra), (4, .ref na), (5, .ref ba), (16, .int (nI (1 + m0))), (17, .int (nI 0)), (18, .int (nI 0))]) rfl ?_
      exact loop_666 201 (1 + m0) 0 0 t c r n b M (by omega) (by omega) (by omega) rfl hm hrel lf.rf (by omega)
  · subst sw_24
    refine cq_tableOut F (tgt := 631) dL_acts_24 (by decide) (by decide) ?_
    refine cq_iconst F (v := 1) dL_acts_631 rfl ?_
    refine cq_iload F dL_acts_632 rfl ?_
    refine cq_iload F dL_acts_634 rfl ?_
    refine cq_bipush F (v := 8) dL_acts_636 (by decide) ?_
    refine cq_ishr F dL_acts_638 ?_
    refine cq_iconst F (v := 4) dL_acts_639 rfl ?_
    refine cq_callS F (kL_low l D cA X Bs _ 4 M (by omega) (by omega)) (va_cwS 2 F.1.2.2.2.2 gL_acts_L_low rfl rfl rfl hdVL_low.2 ⟨Nat.le_of_ble_eq_true rfl, Nat.le_of_ble_eq_true rfl⟩) rfl (Nat.le_of_ble_eq_true rfl) dL_acts_640 ⟨by show _ ≤ 10; omega, by show _ ≤ 60; omega⟩ (cq_kIp fun r_640 h_640 => ?_)
    obtain ⟨q9, hq9, rfl⟩ := h_640
    refine cq_if_ne F (tgt := 652) dL_acts_643 (by decide) (fun c_643 => ?_) (fun c_643 => ?_)
    · have c_643 : ¬ q9 = 0 := fun z => c_643 ((nI_b (a := q9) (b := 0) (by omega) (by omega)).2.2.mpr z)
      refine cq_bipush F (v := 20) dL_acts_652 (by decide) ?_
      refine cq_callS F (kL_low l D cA X Bs _ 20 M (by omega) (by omega)) (va_cwS 2 F.1.2.2.2.2 gL_acts_L_low rfl rfl rfl hdVL_low.2 ⟨Nat.le_of_ble_eq_true rfl, Nat.le_of_ble_eq_true rfl⟩) rfl (Nat.le_of_ble_eq_true rfl) dL_acts_654 ⟨by show _ ≤ 10; omega, by show _ ≤ 60; omega⟩ (cq_kIp fun r_654 h_654 => ?_)
      obtain ⟨m0, hm0, rfl⟩ := h_654
      refine cq_iadd F dL_acts_657 ?_
      rw [show (1 + nI m0 : Int32) = nI (1 + m0) from nI_add _ _]
      refine cq_istore F dL_acts_658 (by decide) ?_
      refine cq_iconst F (v := 0) dL_acts_660 rfl ?_
      refine cq_istore F dL_acts_661 (by decide) ?_
      refine cq_iconst F (v := 0) dL_acts_663 rfl ?_
      refine cq_istore F dL_acts_664 (by decide) ?_
      refine cq_loc (L2 := [(0, .ref o), (1, .ref ta), (2, .ref ca), (3, .ref ra), (4, .ref na), (5, .ref ba), (16, .int (nI (1 + m0))), (17, .int (nI 0)), (18, .int (nI 0))]) rfl ?_
      exact loop_666 201 (1 + m0) 0 0 t c r n b M (by omega) (by omega) (by omega) rfl hm hrel lf.rf (by omega)
    · have c_643 : q9 = 0 := (nI_b (a := q9) (b := 0) (by omega) (by omega)).2.2.mp c_643
      refine cq_sipush F (v := 200) dL_acts_646 (by decide) ?_
      refine cq_goto F (tgt := 654) dL_acts_649 (by decide) ?_
      refine cq_callS F (kL_low l D cA X Bs _ 200 M (by omega) (by omega)) (va_cwS 2 F.1.2.2.2.2 gL_acts_L_low rfl rfl rfl hdVL_low.2 ⟨Nat.le_of_ble_eq_true rfl, Nat.le_of_ble_eq_true rfl⟩) rfl (Nat.le_of_ble_eq_true rfl) dL_acts_654 ⟨by show _ ≤ 10; omega, by show _ ≤ 60; omega⟩ (cq_kIp fun r_654 h_654 => ?_)
      obtain ⟨m0, hm0, rfl⟩ := h_654
      refine cq_iadd F dL_acts_657 ?_
      rw [show (1 + nI m0 : Int32) = nI (1 + m0) from nI_add _ _]
      refine cq_istore F dL_acts_658 (by decide) ?_
      refine cq_iconst F (v := 0) dL_acts_660 rfl ?_
      refine cq_istore F dL_acts_661 (by decide) ?_
      refine cq_iconst F (v := 0) dL_acts_663 rfl ?_
      refine cq_istore F dL_acts_664 (by decide) ?_
      refine cq_loc (L2 := [(0, .ref o), (1, .ref ta), (2, .ref ca), (3, .ref ra), (4, .ref na), (5, .ref ba), (16, .int (nI (1 + m0))), (17, .int (nI 0)), (18, .int (nI 0))]) rfl ?_
      exact loop_666 201 (1 + m0) 0 0 t c r n b M (by omega) (by omega) (by omega) rfl hm hrel lf.rf (by omega)
  · subst sw_24
    refine cq_tableOut F (tgt := 631) dL_acts_24 (by decide) (by decide) ?_
    refine cq_iconst F (v := 1) dL_acts_631 rfl ?_
    refine cq_iload F dL_acts_632 rfl ?_
    refine cq_iload F dL_acts_634 rfl ?_
    refine cq_bipush F (v := 8) dL_acts_636 (by decide) ?_
    refine cq_ishr F dL_acts_638 ?_
    refine cq_iconst F (v := 4) dL_acts_639 rfl ?_
    refine cq_callS F (kL_low l D cA X Bs _ 4 M (by omega) (by omega)) (va_cwS 2 F.1.2.2.2.2 gL_acts_L_low rfl rfl rfl hdVL_low.2 ⟨Nat.le_of_ble_eq_true rfl, Nat.le_of_ble_eq_true rfl⟩) rfl (Nat.le_of_ble_eq_true rfl) dL_acts_640 ⟨by show _ ≤ 10; omega, by show _ ≤ 60; omega⟩ (cq_kIp fun r_640 h_640 => ?_)
    obtain ⟨q9, hq9, rfl⟩ := h_640
    refine cq_if_ne F (tgt := 652) dL_acts_643 (by decide) (fun c_643 => ?_) (fun c_643 => ?_)
    · have c_643 : ¬ q9 = 0 := fun z => c_643 ((nI_b (a := q9) (b := 0) (by omega) (by omega)).2.2.mpr z)
      refine cq_bipush F (v := 20) dL_acts_652 (by decide) ?_
      refine cq_callS F (kL_low l D cA X Bs _ 20 M (by omega) (by omega)) (va_cwS 2 F.1.2.2.2.2 gL_acts_L_low rfl rfl rfl hdVL_low.2 ⟨Nat.le_of_ble_eq_true rfl, Nat.le_of_ble_eq_true rfl⟩) rfl (Nat.le_of_ble_eq_true rfl) dL_acts_654 ⟨by show _ ≤ 10; omega, by show _ ≤ 60; omega⟩ (cq_kIp fun r_654 h_654 => ?_)
      obtain ⟨m0, hm0, rfl⟩ := h_654
      refine cq_iadd F dL_acts_657 ?_
      rw [show (1 + nI m0 : Int32) = nI (1 + m0) from nI_add _ _]
      refine cq_istore F dL_acts_658 (by decide) ?_
      refine cq_iconst F (v := 0) dL_acts_660 rfl ?_
      refine cq_istore F dL_acts_661 (by decide) ?_
      refine cq_iconst F (v := 0) dL_acts_663 rfl ?_
      refine cq_istore F dL_acts_664 (by decide) ?_
      refine cq_loc (L2 := [(0, .ref o), (1, .ref ta), (2, .ref ca), (3, .ref ra), (4, .ref na), (5, .ref ba), (16, .int (nI (1 + m0))), (17, .int (nI 0)), (18, .int (nI 0))]) rfl ?_
      exact loop_666 201 (1 + m0) 0 0 t c r n b M (by omega) (by omega) (by omega) rfl hm hrel lf.rf (by omega)
    · have c_643 : q9 = 0 := (nI_b (a := q9) (b := 0) (by omega) (by omega)).2.2.mp c_643
      refine cq_sipush F (v := 200) dL_acts_646 (by decide) ?_
      refine cq_goto F (tgt := 654) dL_acts_649 (by decide) ?_
      refine cq_callS F (kL_low l D cA X Bs _ 200 M (by omega) (by omega)) (va_cwS 2 F.1.2.2.2.2 gL_acts_L_low rfl rfl rfl hdVL_low.2 ⟨Nat.le_of_ble_eq_true rfl, Nat.le_of_ble_eq_true rfl⟩) rfl (Nat.le_of_ble_eq_true rfl) dL_acts_654 ⟨by show _ ≤ 10; omega, by show _ ≤ 60; omega⟩ (cq_kIp fun r_654 h_654 => ?_)
      obtain ⟨m0, hm0, rfl⟩ := h_654
      refine cq_iadd F dL_acts_657 ?_
      rw [show (1 + nI m0 : Int32) = nI (1 + m0) from nI_add _ _]
      refine cq_istore F dL_acts_658 (by decide) ?_
      refine cq_iconst F (v := 0) dL_acts_660 rfl ?_
      refine cq_istore F dL_acts_661 (by decide) ?_
      refine cq_iconst F (v := 0) dL_acts_663 rfl ?_
      refine cq_istore F dL_acts_664 (by decide) ?_
      refine cq_loc (L2 := [(0, .ref o), (1, .ref ta), (2, .ref ca), (3, .ref ra), (4, .ref na), (5, .ref ba), (16, .int (nI (1 + m0))), (17, .int (nI 0)), (18, .int (nI 0))]) rfl ?_
      exact loop_666 201 (1 + m0) 0 0 t c r n b M (by omega) (by omega) (by omega) rfl hm hrel lf.rf (by omega)
  · subst sw_24
    refine cq_tableOut F (tgt := 631) dL_acts_24 (by decide) (by decide) ?_
    refine cq_iconst F (v := 1) dL_acts_631 rfl ?_
    refine cq_iload F dL_acts_632 rfl ?_
    refine cq_iload F dL_acts_634 rfl ?_
    refine cq_bipush F (v := 8) dL_acts_636 (by decide) ?_
    refine cq_ishr F dL_acts_638 ?_
    refine cq_iconst F (v := 4) dL_acts_639 rfl ?_
    refine cq_callS F (kL_low l D cA X Bs _ 4 M (by omega) (by omega)) (va_cwS 2 F.1.2.2.2.2 gL_acts_L_low rfl rfl rfl hdVL_low.2 ⟨Nat.le_of_ble_eq_true rfl, Nat.le_of_ble_eq_true rfl⟩) rfl (Nat.le_of_ble_eq_true rfl) dL_acts_640 ⟨by show _ ≤ 10; omega, by show _ ≤ 60; omega⟩ (cq_kIp fun r_640 h_640 => ?_)
    obtain ⟨q9, hq9, rfl⟩ := h_640
    refine cq_if_ne F (tgt := 652) dL_acts_643 (by decide) (fun c_643 => ?_) (fun c_643 => ?_)
    · have c_643 : ¬ q9 = 0 := fun z => c_643 ((nI_b (a := q9) (b := 0) (by omega) (by omega)).2.2.mpr z)
      refine cq_bipush F (v := 20) dL_acts_652 (by decide) ?_
      refine cq_callS F (kL_low l D cA X Bs _ 20 M (by omega) (by omega)) (va_cwS 2 F.1.2.2.2.2 gL_acts_L_low rfl rfl rfl hdVL_low.2 ⟨Nat.le_of_ble_eq_true rfl, Nat.le_of_ble_eq_true rfl⟩) rfl (Nat.le_of_ble_eq_true rfl) dL_acts_654 ⟨by show _ ≤ 10; omega, by show _ ≤ 60; omega⟩ (cq_kIp fun r_654 h_654 => ?_)
      obtain ⟨m0, hm0, rfl⟩ := h_654
      refine cq_iadd F dL_acts_657 ?_
      rw [show (1 + nI m0 : Int32) = nI (1 + m0) from nI_add _ _]
      refine cq_istore F dL_acts_658 (by decide) ?_
      refine cq_iconst F (v := 0) dL_acts_660 rfl ?_
      refine cq_istore F dL_acts_661 (by decide) ?_
      refine cq_iconst F (v := 0) dL_acts_663 rfl ?_
      refine cq_istore F dL_acts_664 (by decide) ?_
      refine cq_loc (L2 := [(0, .ref o), (1, .ref ta), (2, .ref ca), (3, .ref ra), (4, .ref na), (5, .ref ba), (16, .int (nI (1 + m0))), (17, .int (nI 0)), (18, .int (nI 0))]) rfl ?_
      exact loop_666 201 (1 + m0) 0 0 t c r n b M (by omega) (by omega) (by omega) rfl hm hrel lf.rf (by omega)
    · have c_643 : q9 = 0 := (nI_b (a := q9) (b := 0) (by omega) (by omega)).2.2.mp c_643
      refine cq_sipush F (v := 200) dL_acts_646 (by decide) ?_
      refine cq_goto F (tgt := 654) dL_acts_649 (by decide) ?_
      refine cq_callS F (kL_low l D cA X Bs _ 200 M (by omega) (by omega)) (va_cwS 2 F.1.2.2.2.2 gL_acts_L_low rfl rfl rfl hdVL_low.2 ⟨Nat.le_of_ble_eq_true rfl, Nat.le_of_ble_eq_true rfl⟩) rfl (Nat.le_of_ble_eq_true rfl) dL_acts_654 ⟨by show _ ≤ 10; omega, by show _ ≤ 60; omega⟩ (cq_kIp fun r_654 h_654 => ?_)
      obtain ⟨m0, hm0, rfl⟩ := h_654
      refine cq_iadd F dL_acts_657 ?_
      rw [show (1 + nI m0 : Int32) = nI (1 + m0) from nI_add _ _]
      refine cq_istore F dL_acts_658 (by decide) ?_
      refine cq_iconst F (v := 0) dL_acts_660 rfl ?_
      refine cq_istore F dL_acts_661 (by decide) ?_
      refine cq_iconst F (v := 0) dL_acts_663 rfl ?_
      refine cq_istore F dL_acts_664 (by decide) ?_
      refine cq_loc (L2 := [(0, .ref o), (1, .ref ta), (2, .ref ca), (3, .ref ra), (4, .ref na), (5, .ref ba), (16, .int (nI (1 + m0))), (17, .int (nI 0)), (18, .int (nI 0))]) rfl ?_
      exact loop_666 201 (1 + m0) 0 0 t c r n b M (by omega) (by omega) (by omega) rfl hm hrel lf.rf (by omega)
theorem hdVL_acts : yL_acts.cls = RL ∧ yL_acts.cls ≠ "java/lang/invoke/MethodHandle" ∧ yL_acts.cls ≠ "java/lang/invoke/VarHandle" ∧ (parseMethodDescriptor yL_acts.desc).map (fun d => d.parameters.length) = some 8 := by decide +kernel
