/-! CordClockModel: orders -/
theorem tx_w_no {s : Nat → Nat} {cs : List Nat} {f : (Nat → Nat) → Nat → tx_R} {p q : Nat} (h : tx_l s cs p = (false, q)) : tx_w s cs f p = (false, q, tx_no) := by
  unfold tx_w
  rw [h]
  exact if_neg (show ¬ false = true by decide)
theorem tx_w_yes {s : Nat → Nat} {cs : List Nat} {f : (Nat → Nat) → Nat → tx_R} {p q : Nat} (h : tx_l s cs p = (true, q)) : tx_w s cs f p = f s q := by
  unfold tx_w
  rw [h]
  exact if_pos rfl
theorem tm_P.no {M M1 : cq_M} {o k q : Nat} {R : tx_R} (h : R = (false, q, tx_no)) (h9 : M1 o 9 = nI q) (hq : q ≤ 60) (hG : tm_G M M1 o k) : tm_P M M1 o k R 0 := by
  rw [h]
  exact ⟨rfl, ⟨h9, hq⟩, hG, fun z => absurd (show false = true from z) (by decide)⟩
theorem tm_P.yes {M M1 : cq_M} {o k q : Nat} {R : tx_R} {x : tx_O} (h : R = (true, q, x)) (h9 : M1 o 9 = nI q) (hq : q ≤ 60) (hG : tm_G M M1 o k) (hr : tm_rec M1 o k x) : tm_P M M1 o k R 1 := by
  rw [h]
  exact ⟨rfl, ⟨h9, hq⟩, hG, fun _ => hr⟩
theorem tx_new_1 {s : Nat → Nat} {p : Nat} (h : (tx_mg s 6 p).1 = true) : tx_new s p = (true, (tx_mg s 6 p).2.1, (0, (tx_mg s 6 p).2.2.length, 0, 0, (tx_mg s 6 p).2.2)) := by
  unfold tx_new
  rw [h]
theorem tx_new_0 {s : Nat → Nat} {p : Nat} (h : ¬ (tx_mg s 6 p).1 = true) : tx_new s p = (false, (tx_mg s 6 p).2.1, tx_no) := by
  unfold tx_new
  rw [Bool.not_eq_true] at h
  rw [h]
theorem tx_lit_1 {s : Nat → Nat} {p : Nat} (h : tx_cd s p) : tx_lit s p = ((tx_side s (p + 1)).1, (tx_side s (p + 1)).2.1, (1, s p - 48, 0, (tx_side s (p + 1)).2.2, [])) := if_pos h
theorem tx_lit_0 {s : Nat → Nat} {p : Nat} (h : ¬ tx_cd s p) : tx_lit s p = (false, p, tx_no) := if_neg h
theorem tm_P.side {M M1 : cq_M} {o k : Nat} {R : tx_R} {sd : Bool × Nat × Nat} {q : tx_O} {r : Int32} (h : R = (sd.1, sd.2.1, q)) (hr : r = (if sd.1 = true then 1 else 0)) (h9 : M1 o 9 = nI sd.2.1 ∧ sd.2.1 ≤ 60) (hG : tm_G M M1 o k) (hq : tm_rec M1 o k q) : tm_P M M1 o k R r := by
  rw [h]
  exact ⟨hr, h9, hG, fun _ => hq⟩
abbrev rmX7_readsNew : Room := ({ frames := 3, cells := 0, slots := 0, locals := 65 })
set_option maxHeartbeats 4000000 in
set_option maxRecDepth 100000 in
theorem kX7_readsNew (l : Launch) (D : va_G) (cA : Nat → ClassId) (X : cq_X) (Bs : Nat) (o len p k : Nat) (t : Nat → Nat) (M : cq_M) (ho : cq_isModel X o) (hm : tm_M M o t len) (hlen : len ≤ 60) (hp : M o 9 = nI p) (hp9 : p ≤ 60) (h11 : M o 11 = nI k) (hk : k ≤ 10) : cq_C l yX7_readsNew wsX7_readsNew rmX7_readsNew D cA X Bs [.ref o] M (cq_PI (fun r M1 => tm_P M M1 o k (tx_w (tx_s t len) [110, 101, 119, 58] tx_new p) r)) 0 0 := by
  refine cq_met (cc := cX7_readsNew) (maxL := 1) (ret := (some .boolean)) (by decide) rfl (Nat.le_of_ble_eq_true rfl) [(0, .ref o)] rfl rfl ?_
  intro p9 e9 s9 m9 b9 t9 c9 F hr
  have hs_0 := hm.s (p)
  have hs_1 := hm.s (p + 1)
  have hs_2 := hm.s (p + 1 + 1)
  have hs_3 := hm.s (p + 1 + 1 + 1)
  have hs_4 := hm.s (p + 1 + 1 + 1 + 1)
  have hs_5 := hm.s (p + 1 + 1 + 1 + 1 + 1)
  have hs_6 := hm.s (p + 1 + 1 + 1 + 1 + 1 + 1)
  refine cq_aload_n F (i := 0) dX7_readsNew_0 rfl rfl ?_
  refine cq_bipush F (v := 110) dX7_readsNew_1 (by decide) ?_
  refine cq_callV F (C := RX7) (ci := 8) (kX7_takes l D cA X Bs o len (p) t 110 M ho hm hlen hp hp9 (by decide)) (cwV 1 F.1.2.2.2.2 gX7_readsNew_X7_takes rfl rfl rfl hdVX7_takes ⟨Nat.le_of_ble_eq_true rfl, Nat.le_of_ble_eq_true rfl⟩) ho.kind ⟨by decide, by decide⟩ rfl rfl rfl (Nat.le_of_ble_eq_true rfl) dX7_readsNew_3 ⟨Nat.le_of_ble_eq_true rfl, Nat.le_of_ble_eq_true rfl⟩ (cq_kI fun r_3 M_3 h_3 => ?_)
  have hF_3 : tm_F M M_3 o := h_3.2.2
  refine cq_if_eq F (tgt := 47) dX7_readsNew_6 (by decide) (fun c_6 => ?_) (fun c_6 => ?_)
  · have c_6 := cq_b0 h_3.1 c_6
    have hp_3 : M_3 o 9 = nI (p) := by have z := h_3.2.1.1; rwa [tx_t, if_neg c_6] at z
    refine cq_iconst F (v := 0) dX7_readsNew_47 rfl ?_
    exact cq_zret F hr (by rfl) (by decide) (by decide) dX7_readsNew_48 ⟨_, rfl, tm_P.no (tx_w_no (by rw [tx_l, if_neg c_6])) hp_3 (by omega) (hF_3.G k)⟩
  · have c_6 := cq_b1 h_3.1 c_6
    have hp_3 : M_3 o 9 = nI (p + 1) := by have z := h_3.2.1.1; rwa [tx_t, if_pos c_6] at z
    refine cq_aload_n F (i := 0) dX7_readsNew_9 rfl rfl ?_
    refine cq_bipush F (v := 101) dX7_readsNew_10 (by decide) ?_
    refine cq_callV F (C := RX7) (ci := 8) (kX7_takes l D cA X Bs o len (p + 1) t 101 M_3 ho (hF_3.m hm) hlen hp_3 (by omega) (by decide)) (cwV 1 F.1.2.2.2.2 gX7_readsNew_X7_takes rfl rfl rfl hdVX7_takes ⟨Nat.le_of_ble_eq_true rfl, Nat.le_of_ble_eq_true rfl⟩) ho.kind ⟨by decide, by decide⟩ rfl rfl rfl (Nat.le_of_ble_eq_true rfl) dX7_readsNew_12 ⟨Nat.le_of_ble_eq_true rfl, Nat.le_of_ble_eq_true rfl⟩ (cq_kI fun r_12 M_12 h_12 => ?_)
    have hF_12 : tm_F M M_12 o := hF_3.trans h_12.2.2
    refine cq_if_eq F (tgt := 47) dX7_readsNew_15 (by decide) (fun c_15 => ?_) (fun c_15 => ?_)
    · have c_15 := cq_b0 h_12.1 c_15
      have hp_12 : M_12 o 9 = nI (p + 1) := by have z := h_12.2.1.1; rwa [tx_t, if_neg c_15] at z
      refine cq_iconst F (v := 0) dX7_readsNew_47 rfl ?_
      exact cq_zret F hr (by rfl) (by decide) (by decide) dX7_readsNew_48 ⟨_, rfl, tm_P.no (tx_w_no (by rw [tx_l, if_pos c_6]; rw [tx_l, if_neg c_15])) hp_12 (by omega) (hF_12.G k)⟩
    · have c_15 := cq_b1 h_12.1 c_15
      have hp_12 : M_12 o 9 = nI (p + 1 + 1) := by have z := h_12.2.1.1; rwa [tx_t, if_pos c_15] at z
      refine cq_aload_n F (i := 0) dX7_readsNew_18 rfl rfl ?_
      refine cq_bipush F (v := 119) dX7_readsNew_19 (by decide) ?_
      refine cq_callV F (C := RX7) (ci := 8) (kX7_takes l D cA X Bs o len (p + 1 + 1) t 119 M_12 ho (hF_12.m hm) hlen hp_12 (by omega) (by decide)) (cwV 1 F.1.2.2.2.2 gX7_readsNew_X7_takes rfl rfl rfl hdVX7_takes ⟨Nat.le_of_ble_eq_true rfl, Nat.le_of_ble_eq_true rfl⟩) ho.kind ⟨by decide, by decide⟩ rfl rfl rfl (Nat.le_of_ble_eq_true rfl) dX7_readsNew_21 ⟨Nat.le_of_ble_eq_true rfl, Nat.le_of_ble_eq_true rfl⟩ (cq_kI fun r_21 M_21 h_21 => ?_)
      have hF_21 : tm_F M M_21 o := hF_12.trans h_21.2.2
      refine cq_if_eq F (tgt := 47) dX7_readsNew_24 (by decide) (fun c_24 => ?_) (fun c_24 => ?_)
      · have c_24 := cq_b0 h_21.1 c_24
        have hp_21 : M_21 o 9 = nI (p + 1 + 1) := by have z := h_21.2.1.1; rwa [tx_t, if_neg c_24] at z
        refine cq_iconst F (v := 0) dX7_readsNew_47 rfl ?_
        exact cq_zret F hr (by rfl) (by decide) (by decide) dX7_readsNew_48 ⟨_, rfl, tm_P.no (tx_w_no (by rw [tx_l, if_pos c_6]; rw [tx_l, if_pos c_15]; rw [tx_l, if_neg c_24])) hp_21 (by omega) (hF_21.G k)⟩
      · have c_24 := cq_b1 h_21.1 c_24
        have hp_21 : M_21 o 9 = nI (p + 1 + 1 + 1) := by have z := h_21.2.1.1; rwa [tx_t, if_pos c_24] at z
        refine cq_aload_n F (i := 0) dX7_readsNew_27 rfl rfl ?_
        refine cq_bipush F (v := 58) dX7_readsNew_28 (by decide) ?_
        refine cq_callV F (C := RX7) (ci := 8) (kX7_takes l D cA X Bs o len (p + 1 + 1 + 1) t 58 M_21 ho (hF_21.m hm) hlen hp_21 (by omega) (by decide)) (cwV 1 F.1.2.2.2.2 gX7_readsNew_X7_takes rfl rfl rfl hdVX7_takes ⟨Nat.le_of_ble_eq_true rfl, Nat.le_of_ble_eq_true rfl⟩) ho.kind ⟨by decide, by decide⟩ rfl rfl rfl (Nat.le_of_ble_eq_true rfl) dX7_readsNew_30 ⟨Nat.le_of_ble_eq_true rfl, Nat.le_of_ble_eq_true rfl⟩ (cq_kI fun r_30 M_30 h_30 => ?_)
        have hF_30 : tm_F M M_30 o := hF_21.trans h_30.2.2
        refine cq_if_eq F (tgt := 47) dX7_readsNew_33 (by decide) (fun c_33 => ?_) (fun c_33 => ?_)
        · have c_33 := cq_b0 h_30.1 c_33
          have hp_30 : M_30 o 9 = nI (p + 1 + 1 + 1) := by have z := h_30.2.1.1; rwa [tx_t, if_neg c_33] at z
          refine cq_iconst F (v := 0) dX7_readsNew_47 rfl ?_
          exact cq_zret F hr (by rfl) (by decide) (by decide) dX7_readsNew_48 ⟨_, rfl, tm_P.no (tx_w_no (by rw [tx_l, if_pos c_6]; rw [tx_l, if_pos c_15]; rw [tx_l, if_pos c_24]; rw [tx_l, if_neg c_33])) hp_30 (by omega) (hF_30.G k)⟩
        · have c_33 := cq_b1 h_30.1 c_33
          have hp_30 : M_30 o 9 = nI (p + 1 + 1 + 1 + 1) := by have z := h_30.2.1.1; rwa [tx_t, if_pos c_33] at z
          refine cq_aload_n F (i := 0) dX7_readsNew_36 rfl rfl ?_
          refine cq_callV F (C := RX7) (ci := 8) (kX7_readsTimes l D cA X Bs o len (p + 1 + 1 + 1 + 1) k t M_30 ho (hF_30.m hm) hlen hp_30 (by omega) (hF_30.o11 h11) hk) (cwV 0 F.1.2.2.2.2 gX7_readsNew_X7_readsTimes rfl rfl rfl hdVX7_readsTimes ⟨Nat.le_of_ble_eq_true rfl, Nat.le_of_ble_eq_true rfl⟩) ho.kind ⟨by decide, by decide⟩ rfl rfl rfl (Nat.le_of_ble_eq_true rfl) dX7_readsNew_37 ⟨Nat.le_of_ble_eq_true rfl, Nat.le_of_ble_eq_true rfl⟩ (cq_kI fun r_37 M_37 h_37 => ?_)
          refine cq_if_eq F (tgt := 47) dX7_readsNew_40 (by decide) (fun c_40 => ?_) (fun c_40 => ?_)
          · have c_40 := cq_b0 h_37.1.1 c_40
            refine cq_iconst F (v := 0) dX7_readsNew_47 rfl ?_
            exact cq_zret F hr (by rfl) (by decide) (by decide) dX7_readsNew_48 ⟨_, rfl, by first | exact tm_P.yes ((tx_w_yes (by rw [tx_l, if_pos c_6]; rw [tx_l, if_pos c_15]; rw [tx_l, if_pos c_24]; rw [tx_l, if_pos c_33]; rfl)).trans (tx_new_1 c_40)) h_37.1.2.1.1 h_37.1.2.1.2 ((hF_30.G k).trans h_37.2) ⟨(h_37.1.2.2 c_40).1, fun z => absurd (show 0 = 2 from z) (by decide), fun z => absurd (show 0 = 1 ∨ 0 = 2 from z) (by decide), fun _ => ⟨rfl, (h_37.1.2.2 c_40).2⟩⟩ | exact tm_P.no ((tx_w_yes (by rw [tx_l, if_pos c_6]; rw [tx_l, if_pos c_15]; rw [tx_l, if_pos c_24]; rw [tx_l, if_pos c_33]; rfl)).trans (tx_new_0 c_40)) h_37.1.2.1.1 h_37.1.2.1.2 ((hF_30.G k).trans h_37.2)⟩
          · have c_40 := cq_b1 h_37.1.1 c_40
            refine cq_iconst F (v := 1) dX7_readsNew_43 rfl ?_
            refine cq_goto F (tgt := 48) dX7_readsNew_44 (by decide) ?_
            exact cq_zret F hr (by rfl) (by decide) (by decide) dX7_readsNew_48 ⟨_, rfl, by first | exact tm_P.yes ((tx_w_yes (by rw [tx_l, if_pos c_6]; rw [tx_l, if_pos c_15]; rw [tx_l, if_pos c_24]; rw [tx_l, if_pos c_33]; rfl)).trans (tx_new_1 c_40)) h_37.1.2.1.1 h_37.1.2.1.2 ((hF_30.G k).trans h_37.2) ⟨(h_37.1.2.2 c_40).1, fun z => absurd (show 0 = 2 from z) (by decide), fun z => absurd (show 0 = 1 ∨ 0 = 2 from z) (by decide), fun _ => ⟨rfl, (h_37.1.2.2 c_40).2⟩⟩ | exact tm_P.no ((tx_w_yes (by rw [tx_l, if_pos c_6]; rw [tx_l, if_pos c_15]; rw [tx_l, if_pos c_24]; rw [tx_l, if_pos c_33]; rfl)).trans (tx_new_0 c_40)) h_37.1.2.1.1 h_37.1.2.1.2 ((hF_30.G k).trans h_37.2)⟩
theorem hdVX7_readsNew : yX7_readsNew.cls = RX7 ∧ yX7_readsNew.cls ≠ "java/lang/invoke/MethodHandle" ∧ yX7_readsNew.cls ≠ "java/lang/invoke/VarHandle" ∧ (parseMethodDescriptor yX7_readsNew.desc).map (fun d => d.parameters.length) = some 0 := by decide +kernel
abbrev rmX7_readsLit : Room := ({ frames := 3, cells := 0, slots := 0, locals := 62 })
set_option maxHeartbeats 4000000 in
set_option maxRecDepth 100000 in
theorem kX7_readsLit (l : Launch) (D : va_G) (cA : Nat → ClassId) (X : cq_X) (Bs : Nat) (o len p k : Nat) (t : Nat → Nat) (M : cq_M) (ho : cq_isModel X o) (hm : tm_M M o t len) (hlen : len ≤ 60) (hp : M o 9 = nI p) (hp9 : p ≤ 60) (h11 : M o 11 = nI k) (hk : k ≤ 10) : cq_C l yX7_readsLit wsX7_readsLit rmX7_readsLit D cA X Bs [.ref o] M (cq_PI (fun r M1 => tm_P M M1 o k (tx_w (tx_s t len) [108, 105, 116, 58] tx_lit p) r)) 0 0 := by
  refine cq_met (cc := cX7_readsLit) (maxL := 1) (ret := (some .boolean)) (by decide) rfl (Nat.le_of_ble_eq_true rfl) [(0, .ref o)] rfl rfl ?_
  intro p9 e9 s9 m9 b9 t9 c9 F hr
  have inX7 : ∀ w ∈ wsX70, w ∈ wsX7_readsLit := (fun w h => List.mem_cons_of_mem _ (List.mem_append_right _ h))
  have hs_0 := hm.s (p)
  have hs_1 := hm.s (p + 1)
  have hs_2 := hm.s (p + 1 + 1)
  have hs_3 := hm.s (p + 1 + 1 + 1)
  have hs_4 := hm.s (p + 1 + 1 + 1 + 1)
  have hs_5 := hm.s (p + 1 + 1 + 1 + 1 + 1)
  have hs_6 := hm.s (p + 1 + 1 + 1 + 1 + 1 + 1)
  refine cq_aload_n F (i := 0) dX7_readsLit_0 rfl rfl ?_
  refine cq_bipush F (v := 108) dX7_readsLit_1 (by decide) ?_
  refine cq_callV F (C := RX7) (ci := 8) (kX7_takes l D cA X Bs o len (p) t 108 M ho hm hlen hp hp9 (by decide)) (cwV 1 F.1.2.2.2.2 gX7_readsLit_X7_takes rfl rfl rfl hdVX7_takes ⟨Nat.le_of_ble_eq_true rfl, Nat.le_of_ble_eq_true rfl⟩) ho.kind ⟨by decide, by decide⟩ rfl rfl rfl (Nat.le_of_ble_eq_true rfl) dX7_readsLit_3 ⟨Nat.le_of_ble_eq_true rfl, Nat.le_of_ble_eq_true rfl⟩ (cq_kI fun r_3 M_3 h_3 => ?_)
  have hF_3 : tm_F M M_3 o := h_3.2.2
  refine cq_if_eq F (tgt := 43) dX7_readsLit_6 (by decide) (fun c_6 => ?_) (fun c_6 => ?_)
  · have c_6 := cq_b0 h_3.1 c_6
    have hp_3 : M_3 o 9 = nI (p) := by have z := h_3.2.1.1; rwa [tx_t, if_neg c_6] at z
    refine cq_iconst F (v := 0) dX7_readsLit_43 rfl ?_
    exact cq_zret F hr (by rfl) (by decide) (by decide) dX7_readsLit_44 ⟨_, rfl, tm_P.no (tx_w_no (by rw [tx_l, if_neg c_6])) hp_3 (by omega) (hF_3.G k)⟩
  · have c_6 := cq_b1 h_3.1 c_6
    have hp_3 : M_3 o 9 = nI (p + 1) := by have z := h_3.2.1.1; rwa [tx_t, if_pos c_6] at z
    refine cq_aload_n F (i := 0) dX7_readsLit_9 rfl rfl ?_
    refine cq_bipush F (v := 105) dX7_readsLit_10 (by decide) ?_
    refine cq_callV F (C := RX7) (ci := 8) (kX7_takes l D cA X Bs o len (p + 1) t 105 M_3 ho (hF_3.m hm) hlen hp_3 (by omega) (by decide)) (cwV 1 F.1.2.2.2.2 gX7_readsLit_X7_takes rfl rfl rfl hdVX7_takes ⟨Nat.le_of_ble_eq_true rfl, Nat.le_of_ble_eq_true rfl⟩) ho.kind ⟨by decide, by decide⟩ rfl rfl rfl (Nat.le_of_ble_eq_true rfl) dX7_readsLit_12 ⟨Nat.le_of_ble_eq_true rfl, Nat.le_of_ble_eq_true rfl⟩ (cq_kI fun r_12 M_12 h_12 => ?_)
    have hF_12 : tm_F M M_12 o := hF_3.trans h_12.2.2
    refine cq_if_eq F (tgt := 43) dX7_readsLit_15 (by decide) (fun c_15 => ?_) (fun c_15 => ?_)
    · have c_15 := cq_b0 h_12.1 c_15
      have hp_12 : M_12 o 9 = nI (p + 1) := by have z := h_12.2.1.1; rwa [tx_t, if_neg c_15] at z
      refine cq_iconst F (v := 0) dX7_readsLit_43 rfl ?_
      exact cq_zret F hr (by rfl) (by decide) (by decide) dX7_readsLit_44 ⟨_, rfl, tm_P.no (tx_w_no (by rw [tx_l, if_pos c_6]; rw [tx_l, if_neg c_15])) hp_12 (by omega) (hF_12.G k)⟩
    · have c_15 := cq_b1 h_12.1 c_15
      have hp_12 : M_12 o 9 = nI (p + 1 + 1) := by have z := h_12.2.1.1; rwa [tx_t, if_pos c_15] at z
      refine cq_aload_n F (i := 0) dX7_readsLit_18 rfl rfl ?_
      refine cq_bipush F (v := 116) dX7_readsLit_19 (by decide) ?_
      refine cq_callV F (C := RX7) (ci := 8) (kX7_takes l D cA X Bs o len (p + 1 + 1) t 116 M_12 ho (hF_12.m hm) hlen hp_12 (by omega) (by decide)) (cwV 1 F.1.2.2.2.2 gX7_readsLit_X7_takes rfl rfl rfl hdVX7_takes ⟨Nat.le_of_ble_eq_true rfl, Nat.le_of_ble_eq_true rfl⟩) ho.kind ⟨by decide, by decide⟩ rfl rfl rfl (Nat.le_of_ble_eq_true rfl) dX7_readsLit_21 ⟨Nat.le_of_ble_eq_true rfl, Nat.le_of_ble_eq_true rfl⟩ (cq_kI fun r_21 M_21 h_21 => ?_)
      have hF_21 : tm_F M M_21 o := hF_12.trans h_21.2.2
      refine cq_if_eq F (tgt := 43) dX7_readsLit_24 (by decide) (fun c_24 => ?_) (fun c_24 => ?_)
      · have c_24 := cq_b0 h_21.1 c_24
        have hp_21 : M_21 o 9 = nI (p + 1 + 1) := by have z := h_21.2.1.1; rwa [tx_t, if_neg c_24] at z
        refine cq_iconst F (v := 0) dX7_readsLit_43 rfl ?_
        exact cq_zret F hr (by rfl) (by decide) (by decide) dX7_readsLit_44 ⟨_, rfl, tm_P.no (tx_w_no (by rw [tx_l, if_pos c_6]; rw [tx_l, if_pos c_15]; rw [tx_l, if_neg c_24])) hp_21 (by omega) (hF_21.G k)⟩
      · have c_24 := cq_b1 h_21.1 c_24
        have hp_21 : M_21 o 9 = nI (p + 1 + 1 + 1) := by have z := h_21.2.1.1; rwa [tx_t, if_pos c_24] at z
        refine cq_aload_n F (i := 0) dX7_readsLit_27 rfl rfl ?_
        refine cq_bipush F (v := 58) dX7_readsLit_28 (by decide) ?_
        refine cq_callV F (C := RX7) (ci := 8) (kX7_takes l D cA X Bs o len (p + 1 + 1 + 1) t 58 M_21 ho (hF_21.m hm) hlen hp_21 (by omega) (by decide)) (cwV 1 F.1.2.2.2.2 gX7_readsLit_X7_takes rfl rfl rfl hdVX7_takes ⟨Nat.le_of_ble_eq_true rfl, Nat.le_of_ble_eq_true rfl⟩) ho.kind ⟨by decide, by decide⟩ rfl rfl rfl (Nat.le_of_ble_eq_true rfl) dX7_readsLit_30 ⟨Nat.le_of_ble_eq_true rfl, Nat.le_of_ble_eq_true rfl⟩ (cq_kI fun r_30 M_30 h_30 => ?_)
        have hF_30 : tm_F M M_30 o := hF_21.trans h_30.2.2
        refine cq_if_eq F (tgt := 43) dX7_readsLit_33 (by decide) (fun c_33 => ?_) (fun c_33 => ?_)
        · have c_33 := cq_b0 h_30.1 c_33
          have hp_30 : M_30 o 9 = nI (p + 1 + 1 + 1) := by have z := h_30.2.1.1; rwa [tx_t, if_neg c_33] at z
          refine cq_iconst F (v := 0) dX7_readsLit_43 rfl ?_
          exact cq_zret F hr (by rfl) (by decide) (by decide) dX7_readsLit_44 ⟨_, rfl, tm_P.no (tx_w_no (by rw [tx_l, if_pos c_6]; rw [tx_l, if_pos c_15]; rw [tx_l, if_pos c_24]; rw [tx_l, if_neg c_33])) hp_30 (by omega) (hF_30.G k)⟩
        · have c_33 := cq_b1 h_30.1 c_33
          have hp_30 : M_30 o 9 = nI (p + 1 + 1 + 1 + 1) := by have z := h_30.2.1.1; rwa [tx_t, if_pos c_33] at z
          refine cq_aload_n F (i := 0) dX7_readsLit_36 rfl rfl ?_
          refine cq_callV F (C := RX7) (ci := 8) (kX7_readsCord l D cA X Bs o len (p + 1 + 1 + 1 + 1) t M_30 ho (hF_30.m hm) hlen hp_30 (by omega)) (cwV 0 F.1.2.2.2.2 gX7_readsLit_X7_readsCord rfl rfl rfl hdVX7_readsCord ⟨Nat.le_of_ble_eq_true rfl, Nat.le_of_ble_eq_true rfl⟩) ho.kind ⟨by decide, by decide⟩ rfl rfl rfl (Nat.le_of_ble_eq_true rfl) dX7_readsLit_37 ⟨Nat.le_of_ble_eq_true rfl, Nat.le_of_ble_eq_true rfl⟩ (cq_kI fun r_37 M_37 h_37 => ?_)
          refine cq_if_ne F (tgt := 45) dX7_readsLit_40 (by decide) (fun c_40 => ?_) (fun c_40 => ?_)
          · have c_40 := cq_b1 h_37.1 c_40
            have hp_37 : M_37 o 9 = nI (p + 1 + 1 + 1 + 1 + 1) := by have z := h_37.2.1.1; rwa [if_pos c_40] at z
            have hcd := h_37.2.1.2 c_40
            have hG_37 := (hF_30.trans h_37.2.2).G k
            refine cq_aload_n F (i := 0) dX7_readsLit_45 rfl rfl ?_
            refine cq_getT (t := (o + 8)) F (C := RX7) (T := TX7) (N := 22) (ci := 8) ho.kind rfl ⟨⟨by decide, by decide⟩, rfl⟩ inX7 13 (by decide) rfl rfl ho.t13 (F.1.2.2.2.2 _ (List.mem_of_getElem? (l := wsX7_readsLit) (i := 1) (a := .fieldLink RX7 32 "CordClockModel" "one" "[I") (by decide +kernel))) dX7_readsLit_46 ?_
            refine cq_aload_n F (i := 0) dX7_readsLit_49 rfl rfl ?_
            refine cq_getI F (C := RX7) (T := TX7) (N := 22) (ci := 8) ho.kind rfl ⟨⟨by decide, by decide⟩, rfl⟩ inX7 11 (by decide) rfl rfl (F.1.2.2.2.2 _ (List.mem_of_getElem? (l := wsX7_readsLit) (i := 2) (a := .fieldLink RX7 151 "CordClockModel" "orders" "I") (by decide +kernel))) dX7_readsLit_50 ?_
            rw [show M_37 o 11 = nI (k) from (show M_37 o 11 = nI (k) from ((hF_30.trans h_37.2.2).o11 h11))]
            refine cq_aload_n F (i := 0) dX7_readsLit_53 rfl rfl ?_
            refine cq_getI F (C := RX7) (T := TX7) (N := 22) (ci := 8) ho.kind rfl ⟨⟨by decide, by decide⟩, rfl⟩ inX7 10 (by decide) rfl rfl (F.1.2.2.2.2 _ (List.mem_of_getElem? (l := wsX7_readsLit) (i := 3) (a := .fieldLink RX7 148 "CordClockModel" "number" "I") (by decide +kernel))) dX7_readsLit_54 ?_
            rw [hcd.2]
            refine cq_iast_j F (j := k) ho.k8 ho.n8 rfl ⟨(by omega), by decide⟩ dX7_readsLit_57 (fun M_57 h_57 => ?_)
            have hG_57 : tm_G M M_57 o k := hG_37.up h_57 (Or.inl ⟨by omega, by omega, Nat.le_refl _⟩)
            refine cq_aload_n F (i := 0) dX7_readsLit_58 rfl rfl ?_
            refine cq_callV F (C := RX7) (ci := 8) (kX7_readsSide l D cA X Bs o len (p + 1 + 1 + 1 + 1 + 1) k t M_57 ho (hG_57.m hm) hlen (by rw [h_57, cq_up_a (by omega)]; exact hp_37) (by omega) (hG_57.o11 h11) hk) (cwV 0 F.1.2.2.2.2 gX7_readsLit_X7_readsSide rfl rfl rfl hdVX7_readsSide ⟨Nat.le_of_ble_eq_true rfl, Nat.le_of_ble_eq_true rfl⟩) ho.kind ⟨by decide, by decide⟩ rfl rfl rfl (Nat.le_of_ble_eq_true rfl) dX7_readsLit_59 ⟨Nat.le_of_ble_eq_true rfl, Nat.le_of_ble_eq_true rfl⟩ (cq_kI fun r_59 M_59 h_59 => ?_)
            exact cq_zret F hr (cq_zn (by rw [h_59.1]; split <;> simp)) (by decide) (by decide) dX7_readsLit_62 ⟨_, rfl, tm_P.side ((tx_w_yes (by rw [tx_l, if_pos c_6]; rw [tx_l, if_pos c_15]; rw [tx_l, if_pos c_24]; rw [tx_l, if_pos c_33]; rfl)).trans (tx_lit_1 c_40)) h_59.1 h_59.2.1 (hG_57.trans h_59.2.2.2.1) ⟨by rw [h_59.2.2.2.2 _ (by omega) (by omega), h_57]; exact cq_up_s _ _ _ _, fun z => absurd (show 1 = 2 from z) (by decide), fun _ => h_59.2.2.1, fun z => absurd (show 1 = 0 from z) (by decide)⟩⟩
          · have c_40 := cq_b0 h_37.1 c_40
            have hp_37 : M_37 o 9 = nI (p + 1 + 1 + 1 + 1) := by have z := h_37.2.1.1; rwa [if_neg c_40] at z
            refine cq_iconst F (v := 0) dX7_readsLit_43 rfl ?_
            exact cq_zret F hr (by rfl) (by decide) (by decide) dX7_readsLit_44 ⟨_, rfl, tm_P.no ((tx_w_yes (by rw [tx_l, if_pos c_6]; rw [tx_l, if_pos c_15]; rw [tx_l, if_pos c_24]; rw [tx_l, if_pos c_33]; rfl)).trans (tx_lit_0 c_40)) hp_37 (by omega) ((hF_30.trans h_37.2.2).G k)⟩
theorem hdVX7_readsLit : yX7_readsLit.cls = RX7 ∧ yX7_readsLit.cls ≠ "java/lang/invoke/MethodHandle" ∧ yX7_readsLit.cls ≠ "java/lang/invoke/VarHandle" ∧ (parseMethodDescriptor yX7_readsLit.desc).map (fun d => d.parameters.length) = some 0 := by decide +kernel
abbrev rmX7_readsWhen : Room := ({ frames := 3, cells := 0, slots := 0, locals := 62 })
set_option maxHeartbeats 4000000 in
set_option maxRecDepth 100000 in
theorem kX7_readsWhen (l : Launch) (D : va_G) (cA : Nat → ClassId) (X : cq_X) (Bs : Nat) (o len p k : Nat) (t : Nat → Nat) (M : cq_M) (ho : cq_isModel X o) (hm : tm_M M o t len) (hlen : len ≤ 60) (hp : M o 9 = nI p) (hp9 : p ≤ 60) (h11 : M o 11 = nI k) (hk : k ≤ 10) : cq_C l yX7_readsWhen wsX7_readsWhen rmX7_readsWhen D cA X Bs [.ref o] M (cq_PI (fun r M1 => tm_P M M1 o k (tx_w (tx_s t len) [119, 104, 101, 110, 58] tx_when p) r)) 0 0 := by
  refine cq_met (cc := cX7_readsWhen) (maxL := 1) (ret := (some .boolean)) (by decide) rfl (Nat.le_of_ble_eq_true rfl) [(0, .ref o)] rfl rfl ?_
  intro p9 e9 s9 m9 b9 t9 c9 F hr
  have inX7 : ∀ w ∈ wsX70, w ∈ wsX7_readsWhen := (fun w h => List.mem_cons_of_mem _ (List.mem_append_right _ h))
  have hs_0 := hm.s (p)
  have hs_1 := hm.s (p + 1)
  have hs_2 := hm.s (p + 1 + 1)
  have hs_3 := hm.s (p + 1 + 1 + 1)
  have hs_4 := hm.s (p + 1 + 1 + 1 + 1)
  have hs_5 := hm.s (p + 1 + 1 + 1 + 1 + 1)
  have hs_6 := hm.s (p + 1 + 1 + 1 + 1 + 1 + 1)
  have hs_7 := hm.s (p + 1 + 1 + 1 + 1 + 1 + 1 + 1)
  have hs_8 := hm.s (p + 1 + 1 + 1 + 1 + 1 + 1 + 1 + 1)
  refine cq_aload_n F (i := 0) dX7_readsWhen_0 rfl rfl ?_
  refine cq_bipush F (v := 119) dX7_readsWhen_1 (by decide) ?_
  refine cq_callV F (C := RX7) (ci := 8) (kX7_takes l D cA X Bs o len (p) t 119 M ho hm hlen hp hp9 (by decide)) (cwV 1 F.1.2.2.2.2 gX7_readsWhen_X7_takes rfl rfl rfl hdVX7_takes ⟨Nat.le_of_ble_eq_true rfl, Nat.le_of_ble_eq_true rfl⟩) ho.kind ⟨by decide, by decide⟩ rfl rfl rfl (Nat.le_of_ble_eq_true rfl) dX7_readsWhen_3 ⟨Nat.le_of_ble_eq_true rfl, Nat.le_of_ble_eq_true rfl⟩ (cq_kI fun r_3 M_3 h_3 => ?_)
  have hF_3 : tm_F M M_3 o := h_3.2.2
  refine cq_if_eq F (tgt := 52) dX7_readsWhen_6 (by decide) (fun c_6 => ?_) (fun c_6 => ?_)
  · have c_6 := cq_b0 h_3.1 c_6
    have hp_3 : M_3 o 9 = nI (p) := by have z := h_3.2.1.1; rwa [tx_t, if_neg c_6] at z
    refine cq_iconst F (v := 0) dX7_readsWhen_52 rfl ?_
    exact cq_zret F hr (by rfl) (by decide) (by decide) dX7_readsWhen_53 ⟨_, rfl, tm_P.no (tx_w_no (by rw [tx_l, if_neg c_6])) hp_3 (by omega) (hF_3.G k)⟩
  · have c_6 := cq_b1 h_3.1 c_6
    have hp_3 : M_3 o 9 = nI (p + 1) := by have z := h_3.2.1.1; rwa [tx_t, if_pos c_6] at z
    refine cq_aload_n F (i := 0) dX7_readsWhen_9 rfl rfl ?_
    refine cq_bipush F (v := 104) dX7_readsWhen_10 (by decide) ?_
    refine cq_callV F (C := RX7) (ci := 8) (kX7_takes l D cA X Bs o len (p + 1) t 104 M_3 ho (hF_3.m hm) hlen hp_3 (by omega) (by decide)) (cwV 1 F.1.2.2.2.2 gX7_readsWhen_X7_takes rfl rfl rfl hdVX7_takes ⟨Nat.le_of_ble_eq_true rfl, Nat.le_of_ble_eq_true rfl⟩) ho.kind ⟨by decide, by decide⟩ rfl rfl rfl (Nat.le_of_ble_eq_true rfl) dX7_readsWhen_12 ⟨Nat.le_of_ble_eq_true rfl, Nat.le_of_ble_eq_true rfl⟩ (cq_kI fun r_12 M_12 h_12 => ?_)
    have hF_12 : tm_F M M_12 o := hF_3.trans h_12.2.2
    refine cq_if_eq F (tgt := 52) dX7_readsWhen_15 (by decide) (fun c_15 => ?_) (fun c_15 => ?_)
    · have c_15 := cq_b0 h_12.1 c_15
      have hp_12 : M_12 o 9 = nI (p + 1) := by have z := h_12.2.1.1; rwa [tx_t, if_neg c_15] at z
      refine cq_iconst F (v := 0) dX7_readsWhen_52 rfl ?_
      exact cq_zret F hr (by rfl) (by decide) (by decide) dX7_readsWhen_53 ⟨_, rfl, tm_P.no (tx_w_no (by rw [tx_l, if_pos c_6]; rw [tx_l, if_neg c_15])) hp_12 (by omega) (hF_12.G k)⟩
    · have c_15 := cq_b1 h_12.1 c_15
      have hp_12 : M_12 o 9 = nI (p + 1 + 1) := by have z := h_12.2.1.1; rwa [tx_t, if_pos c_15] at z
      refine cq_aload_n F (i := 0) dX7_readsWhen_18 rfl rfl ?_
      refine cq_bipush F (v := 101) dX7_readsWhen_19 (by decide) ?_
      refine cq_callV F (C := RX7) (ci := 8) (kX7_takes l D cA X Bs o len (p + 1 + 1) t 101 M_12 ho (hF_12.m hm) hlen hp_12 (by omega) (by decide)) (cwV 1 F.1.2.2.2.2 gX7_readsWhen_X7_takes rfl rfl rfl hdVX7_takes ⟨Nat.le_of_ble_eq_true rfl, Nat.le_of_ble_eq_true rfl⟩) ho.kind ⟨by decide, by decide⟩ rfl rfl rfl (Nat.le_of_ble_eq_true rfl) dX7_readsWhen_21 ⟨Nat.le_of_ble_eq_true rfl, Nat.le_of_ble_eq_true rfl⟩ (cq_kI fun r_21 M_21 h_21 => ?_)
      have hF_21 : tm_F M M_21 o := hF_12.trans h_21.2.2
      refine cq_if_eq F (tgt := 52) dX7_readsWhen_24 (by decide) (fun c_24 => ?_) (fun c_24 => ?_)
      · have c_24 := cq_b0 h_21.1 c_24
        have hp_21 : M_21 o 9 = nI (p + 1 + 1) := by have z := h_21.2.1.1; rwa [tx_t, if_neg c_24] at z
        refine cq_iconst F (v := 0) dX7_readsWhen_52 rfl ?_
        exact cq_zret F hr (by rfl) (by decide) (by decide) dX7_readsWhen_53 ⟨_, rfl, tm_P.no (tx_w_no (by rw [tx_l, if_pos c_6]; rw [tx_l, if_pos c_15]; rw [tx_l, if_neg c_24])) hp_21 (by omega) (hF_21.G k)⟩
      · have c_24 := cq_b1 h_21.1 c_24
        have hp_21 : M_21 o 9 = nI (p + 1 + 1 + 1) := by have z := h_21.2.1.1; rwa [tx_t, if_pos c_24] at z
        refine cq_aload_n F (i := 0) dX7_readsWhen_27 rfl rfl ?_
        refine cq_bipush F (v := 110) dX7_readsWhen_28 (by decide) ?_
        refine cq_callV F (C := RX7) (ci := 8) (kX7_takes l D cA X Bs o len (p + 1 + 1 + 1) t 110 M_21 ho (hF_21.m hm) hlen hp_21 (by omega) (by decide)) (cwV 1 F.1.2.2.2.2 gX7_readsWhen_X7_takes rfl rfl rfl hdVX7_takes ⟨Nat.le_of_ble_eq_true rfl, Nat.le_of_ble_eq_true rfl⟩) ho.kind ⟨by decide, by decide⟩ rfl rfl rfl (Nat.le_of_ble_eq_true rfl) dX7_readsWhen_30 ⟨Nat.le_of_ble_eq_true rfl, Nat.le_of_ble_eq_true rfl⟩ (cq_kI fun r_30 M_30 h_30 => ?_)
        have hF_30 : tm_F M M_30 o := hF_21.trans h_30.2.2
        refine cq_if_eq F (tgt := 52) dX7_readsWhen_33 (by decide) (fun c_33 => ?_) (fun c_33 => ?_)
        · have c_33 := cq_b0 h_30.1 c_33
          have hp_30 : M_30 o 9 = nI (p + 1 + 1 + 1) := by have z := h_30.2.1.1; rwa [tx_t, if_neg c_33] at z
          refine cq_iconst F (v := 0) dX7_readsWhen_52 rfl ?_
          exact cq_zret F hr (by rfl) (by decide) (by decide) dX7_readsWhen_53 ⟨_, rfl, tm_P.no (tx_w_no (by rw [tx_l, if_pos c_6]; rw [tx_l, if_pos c_15]; rw [tx_l, if_pos c_24]; rw [tx_l, if_neg c_33])) hp_30 (by omega) (hF_30.G k)⟩
        · have c_33 := cq_b1 h_30.1 c_33
          have hp_30 : M_30 o 9 = nI (p + 1 + 1 + 1 + 1) := by have z := h_30.2.1.1; rwa [tx_t, if_pos c_33] at z
          refine cq_aload_n F (i := 0) dX7_readsWhen_36 rfl rfl ?_
          refine cq_bipush F (v := 58) dX7_readsWhen_37 (by decide) ?_
          refine cq_callV F (C := RX7) (ci := 8) (kX7_takes l D cA X Bs o len (p + 1 + 1 + 1 + 1) t 58 M_30 ho (hF_30.m hm) hlen hp_30 (by omega) (by decide)) (cwV 1 F.1.2.2.2.2 gX7_readsWhen_X7_takes rfl rfl rfl hdVX7_takes ⟨Nat.le_of_ble_eq_true rfl, Nat.le_of_ble_eq_true rfl⟩) ho.kind ⟨by decide, by decide⟩ rfl rfl rfl (Nat.le_of_ble_eq_true rfl) dX7_readsWhen_39 ⟨Nat.le_of_ble_eq_true rfl, Nat.le_of_ble_eq_true rfl⟩ (cq_kI fun r_39 M_39 h_39 => ?_)
          have hF_39 : tm_F M M_39 o := hF_30.trans h_39.2.2
          refine cq_if_eq F (tgt := 52) dX7_readsWhen_42 (by decide) (fun c_42 => ?_) (fun c_42 => ?_)
          · have c_42 := cq_b0 h_39.1 c_42
            have hp_39 : M_39 o 9 = nI (p + 1 + 1 + 1 + 1) := by have z := h_39.2.1.1; rwa [tx_t, if_neg c_42] at z
            refine cq_iconst F (v := 0) dX7_readsWhen_52 rfl ?_
            exact cq_zret F hr (by rfl) (by decide) (by decide) dX7_readsWhen_53 ⟨_, rfl, tm_P.no (tx_w_no (by rw [tx_l, if_pos c_6]; rw [tx_l, if_pos c_15]; rw [tx_l, if_pos c_24]; rw [tx_l, if_pos c_33]; rw [tx_l, if_neg c_42])) hp_39 (by omega) (hF_39.G k)⟩
          · have c_42 := cq_b1 h_39.1 c_42
            have hp_39 : M_39 o 9 = nI (p + 1 + 1 + 1 + 1 + 1) := by have z := h_39.2.1.1; rwa [tx_t, if_pos c_42] at z
            refine cq_aload_n F (i := 0) dX7_readsWhen_45 rfl rfl ?_
            refine cq_callV F (C := RX7) (ci := 8) (kX7_readsCord l D cA X Bs o len (p + 1 + 1 + 1 + 1 + 1) t M_39 ho (hF_39.m hm) hlen hp_39 (by omega)) (cwV 0 F.1.2.2.2.2 gX7_readsWhen_X7_readsCord rfl rfl rfl hdVX7_readsCord ⟨Nat.le_of_ble_eq_true rfl, Nat.le_of_ble_eq_true rfl⟩) ho.kind ⟨by decide, by decide⟩ rfl rfl rfl (Nat.le_of_ble_eq_true rfl) dX7_readsWhen_46 ⟨Nat.le_of_ble_eq_true rfl, Nat.le_of_ble_eq_true rfl⟩ (cq_kI fun r_46 M_46 h_46 => ?_)
            refine cq_if_ne F (tgt := 54) dX7_readsWhen_49 (by decide) (fun c_49 => ?_) (fun c_49 => ?_)
            · have c_49 := cq_b1 h_46.1 c_49
              have hp_46 : M_46 o 9 = nI (p + 1 + 1 + 1 + 1 + 1 + 1) := by have z := h_46.2.1.1; rwa [if_pos c_49] at z
              have hcd := h_46.2.1.2 c_49
              have hG_46 := (hF_39.trans h_46.2.2).G k
              refine cq_aload_n F (i := 0) dX7_readsWhen_54 rfl rfl ?_
              refine cq_getT (t := (o + 8)) F (C := RX7) (T := TX7) (N := 22) (ci := 8) ho.kind rfl ⟨⟨by decide, by decide⟩, rfl⟩ inX7 13 (by decide) rfl rfl ho.t13 (F.1.2.2.2.2 _ (List.mem_of_getElem? (l := wsX7_readsWhen) (i := 1) (a := .fieldLink RX7 32 "CordClockModel" "one" "[I") (by decide +kernel))) dX7_readsWhen_55 ?_
              refine cq_aload_n F (i := 0) dX7_readsWhen_58 rfl rfl ?_
              refine cq_getI F (C := RX7) (T := TX7) (N := 22) (ci := 8) ho.kind rfl ⟨⟨by decide, by decide⟩, rfl⟩ inX7 11 (by decide) rfl rfl (F.1.2.2.2.2 _ (List.mem_of_getElem? (l := wsX7_readsWhen) (i := 2) (a := .fieldLink RX7 151 "CordClockModel" "orders" "I") (by decide +kernel))) dX7_readsWhen_59 ?_
              rw [show M_46 o 11 = nI (k) from (show M_46 o 11 = nI (k) from ((hF_39.trans h_46.2.2).o11 h11))]
              refine cq_aload_n F (i := 0) dX7_readsWhen_62 rfl rfl ?_
              refine cq_getI F (C := RX7) (T := TX7) (N := 22) (ci := 8) ho.kind rfl ⟨⟨by decide, by decide⟩, rfl⟩ inX7 10 (by decide) rfl rfl (F.1.2.2.2.2 _ (List.mem_of_getElem? (l := wsX7_readsWhen) (i := 3) (a := .fieldLink RX7 148 "CordClockModel" "number" "I") (by decide +kernel))) dX7_readsWhen_63 ?_
              rw [hcd.2]
              refine cq_iast_j F (j := k) ho.k8 ho.n8 rfl ⟨(by omega), by decide⟩ dX7_readsWhen_66 (fun M_66 h_66 => ?_)
              have hG_66 : tm_G M M_66 o k := hG_46.up h_66 (Or.inl ⟨by omega, by omega, Nat.le_refl _⟩)
              refine cq_aload_n F (i := 0) dX7_readsWhen_67 rfl rfl ?_
              refine cq_bipush F (v := 44) dX7_readsWhen_68 (by decide) ?_
              refine cq_callV F (C := RX7) (ci := 8) (kX7_takes l D cA X Bs o len (p + 1 + 1 + 1 + 1 + 1 + 1) t 44 M_66 ho (hG_66.m hm) hlen (by rw [h_66, cq_up_a (by omega)]; exact hp_46) (by omega) (by decide)) (cwV 1 F.1.2.2.2.2 gX7_readsWhen_X7_takes rfl rfl rfl hdVX7_takes ⟨Nat.le_of_ble_eq_true rfl, Nat.le_of_ble_eq_true rfl⟩) ho.kind ⟨by decide, by decide⟩ rfl rfl rfl (Nat.le_of_ble_eq_true rfl) dX7_readsWhen_70 ⟨Nat.le_of_ble_eq_true rfl, Nat.le_of_ble_eq_true rfl⟩ (cq_kI fun r_70 M_70 h_70 => ?_)
              have hG_70 := hG_66.trans (h_70.2.2.G k)
              refine cq_if_eq F (tgt := 83) dX7_readsWhen_73 (by decide) (fun c_73 => ?_) (fun c_73 => ?_)
              · have c_73 := cq_b0 h_70.1 c_73
                have hp_70 : M_70 o 9 = nI (p + 1 + 1 + 1 + 1 + 1 + 1) := by have z := h_70.2.1.1; rwa [tx_t, if_neg c_73] at z
                refine cq_iconst F (v := 0) dX7_readsWhen_83 rfl ?_
                exact cq_zret F hr (by rfl) (by decide) (by decide) dX7_readsWhen_84 ⟨_, rfl, tm_P.no ((tx_w_yes (by rw [tx_l, if_pos c_6]; rw [tx_l, if_pos c_15]; rw [tx_l, if_pos c_24]; rw [tx_l, if_pos c_33]; rw [tx_l, if_pos c_42]; rfl)).trans ((if_pos c_49).trans (if_neg c_73))) hp_70 (by omega) hG_70⟩
              · have c_73 := cq_b1 h_70.1 c_73
                have hp_70 : M_70 o 9 = nI (p + 1 + 1 + 1 + 1 + 1 + 1 + 1) := by have z := h_70.2.1.1; rwa [tx_t, if_pos c_73] at z
                refine cq_aload_n F (i := 0) dX7_readsWhen_76 rfl rfl ?_
                refine cq_callV F (C := RX7) (ci := 8) (kX7_readsCord l D cA X Bs o len (p + 1 + 1 + 1 + 1 + 1 + 1 + 1) t M_70 ho (hG_70.m hm) hlen hp_70 (by omega)) (cwV 0 F.1.2.2.2.2 gX7_readsWhen_X7_readsCord rfl rfl rfl hdVX7_readsCord ⟨Nat.le_of_ble_eq_true rfl, Nat.le_of_ble_eq_true rfl⟩) ho.kind ⟨by decide, by decide⟩ rfl rfl rfl (Nat.le_of_ble_eq_true rfl) dX7_readsWhen_77 ⟨Nat.le_of_ble_eq_true rfl, Nat.le_of_ble_eq_true rfl⟩ (cq_kI fun r_77 M_77 h_77 => ?_)
                refine cq_if_ne F (tgt := 85) dX7_readsWhen_80 (by decide) (fun c_80 => ?_) (fun c_80 => ?_)
                · have c_80 := cq_b1 h_77.1 c_80
                  have hp_77 : M_77 o 9 = nI (p + 1 + 1 + 1 + 1 + 1 + 1 + 1 + 1) := by have z := h_77.2.1.1; rwa [if_pos c_80] at z
                  have hcd2 := h_77.2.1.2 c_80
                  have hG_77 := hG_70.trans (h_77.2.2.G k)
                  refine cq_aload_n F (i := 0) dX7_readsWhen_85 rfl rfl ?_
                  refine cq_getT (t := (o + 9)) F (C := RX7) (T := TX7) (N := 22) (ci := 8) ho.kind rfl ⟨⟨by decide, by decide⟩, rfl⟩ inX7 14 (by decide) rfl rfl ho.t14 (F.1.2.2.2.2 _ (List.mem_of_getElem? (l := wsX7_readsWhen) (i := 4) (a := .fieldLink RX7 35 "CordClockModel" "two" "[I") (by decide +kernel))) dX7_readsWhen_86 ?_
                  refine cq_aload_n F (i := 0) dX7_readsWhen_89 rfl rfl ?_
                  refine cq_getI F (C := RX7) (T := TX7) (N := 22) (ci := 8) ho.kind rfl ⟨⟨by decide, by decide⟩, rfl⟩ inX7 11 (by decide) rfl rfl (F.1.2.2.2.2 _ (List.mem_of_getElem? (l := wsX7_readsWhen) (i := 2) (a := .fieldLink RX7 151 "CordClockModel" "orders" "I") (by decide +kernel))) dX7_readsWhen_90 ?_
                  rw [show M_77 o 11 = nI (k) from (show M_77 o 11 = nI (k) from ((hG_70.trans (h_77.2.2.G k)).o11 h11))]
                  refine cq_aload_n F (i := 0) dX7_readsWhen_93 rfl rfl ?_
                  refine cq_getI F (C := RX7) (T := TX7) (N := 22) (ci := 8) ho.kind rfl ⟨⟨by decide, by decide⟩, rfl⟩ inX7 10 (by decide) rfl rfl (F.1.2.2.2.2 _ (List.mem_of_getElem? (l := wsX7_readsWhen) (i := 3) (a := .fieldLink RX7 148 "CordClockModel" "number" "I") (by decide +kernel))) dX7_readsWhen_94 ?_
                  rw [hcd2.2]
                  refine cq_iast_j F (j := k) ho.k9 ho.n9 rfl ⟨(by omega), by decide⟩ dX7_readsWhen_97 (fun M_97 h_97 => ?_)
                  have hG_97 : tm_G M M_97 o k := hG_77.up h_97 (Or.inl ⟨by omega, by omega, Nat.le_refl _⟩)
                  refine cq_aload_n F (i := 0) dX7_readsWhen_98 rfl rfl ?_
                  refine cq_callV F (C := RX7) (ci := 8) (kX7_readsSide l D cA X Bs o len (p + 1 + 1 + 1 + 1 + 1 + 1 + 1 + 1) k t M_97 ho (hG_97.m hm) hlen (by rw [h_97, cq_up_a (by omega)]; exact hp_77) (by omega) (hG_97.o11 h11) hk) (cwV 0 F.1.2.2.2.2 gX7_readsWhen_X7_readsSide rfl rfl rfl hdVX7_readsSide ⟨Nat.le_of_ble_eq_true rfl, Nat.le_of_ble_eq_true rfl⟩) ho.kind ⟨by decide, by decide⟩ rfl rfl rfl (Nat.le_of_ble_eq_true rfl) dX7_readsWhen_99 ⟨Nat.le_of_ble_eq_true rfl, Nat.le_of_ble_eq_true rfl⟩ (cq_kI fun r_99 M_99 h_99 => ?_)
                  exact cq_zret F hr (cq_zn (by rw [h_99.1]; split <;> simp)) (by decide) (by decide) dX7_readsWhen_102 ⟨_, rfl, tm_P.side ((tx_w_yes (by rw [tx_l, if_pos c_6]; rw [tx_l, if_pos c_15]; rw [tx_l, if_pos c_24]; rw [tx_l, if_pos c_33]; rw [tx_l, if_pos c_42]; rfl)).trans ((if_pos c_49).trans ((if_pos c_73).trans (if_pos c_80)))) h_99.1 h_99.2.1 (hG_97.trans h_99.2.2.2.1) ⟨by rw [h_99.2.2.2.2 _ (by omega) (by omega), h_97, cq_up_a (by omega), h_77.2.2.1 _ (by omega), h_70.2.2.1 _ (by omega), h_66]; exact cq_up_s _ _ _ _, fun _ => by rw [h_99.2.2.2.2 _ (by omega) (by omega), h_97]; exact cq_up_s _ _ _ _, fun _ => h_99.2.2.1, fun z => absurd (show 2 = 0 from z) (by decide)⟩⟩
                · have c_80 := cq_b0 h_77.1 c_80
                  have hp_77 : M_77 o 9 = nI (p + 1 + 1 + 1 + 1 + 1 + 1 + 1) := by have z := h_77.2.1.1; rwa [if_neg c_80] at z
                  refine cq_iconst F (v := 0) dX7_readsWhen_83 rfl ?_
                  exact cq_zret F hr (by rfl) (by decide) (by decide) dX7_readsWhen_84 ⟨_, rfl, tm_P.no ((tx_w_yes (by rw [tx_l, if_pos c_6]; rw [tx_l, if_pos c_15]; rw [tx_l, if_pos c_24]; rw [tx_l, if_pos c_33]; rw [tx_l, if_pos c_42]; rfl)).trans ((if_pos c_49).trans ((if_pos c_73).trans (if_neg c_80)))) hp_77 (by omega) (hG_70.trans (h_77.2.2.G k))⟩
            · have c_49 := cq_b0 h_46.1 c_49
              have hp_46 : M_46 o 9 = nI (p + 1 + 1 + 1 + 1 + 1) := by have z := h_46.2.1.1; rwa [if_neg c_49] at z
              refine cq_iconst F (v := 0) dX7_readsWhen_52 rfl ?_
              exact cq_zret F hr (by rfl) (by decide) (by decide) dX7_readsWhen_53 ⟨_, rfl, tm_P.no ((tx_w_yes (by rw [tx_l, if_pos c_6]; rw [tx_l, if_pos c_15]; rw [tx_l, if_pos c_24]; rw [tx_l, if_pos c_33]; rw [tx_l, if_pos c_42]; rfl)).trans (if_neg c_49)) hp_46 (by omega) ((hF_39.trans h_46.2.2).G k)⟩
theorem hdVX7_readsWhen : yX7_readsWhen.cls = RX7 ∧ yX7_readsWhen.cls ≠ "java/lang/invoke/MethodHandle" ∧ yX7_readsWhen.cls ≠ "java/lang/invoke/VarHandle" ∧ (parseMethodDescriptor yX7_readsWhen.desc).map (fun d => d.parameters.length) = some 0 := by decide +kernel
abbrev rmX7_readsRun : Room := ({ frames := 2, cells := 0, slots := 0, locals := 43 })
set_option maxHeartbeats 4000000 in
set_option maxRecDepth 100000 in
theorem kX7_readsRun (l : Launch) (D : va_G) (cA : Nat → ClassId) (X : cq_X) (Bs : Nat) (o len p k : Nat) (t : Nat → Nat) (M : cq_M) (ho : cq_isModel X o) (hm : tm_M M o t len) (hlen : len ≤ 60) (hp : M o 9 = nI p) (hp9 : p ≤ 60) (h11 : M o 11 = nI k) (hk : k ≤ 10) : cq_C l yX7_readsRun wsX7_readsRun rmX7_readsRun D cA X Bs [.ref o] M (cq_PI (fun r M1 => tm_P M M1 o k (tx_w (tx_s t len) [114, 117, 110, 58] tx_run p) r)) 0 0 := by
  refine cq_met (cc := cX7_readsRun) (maxL := 2) (ret := (some .boolean)) (by decide) rfl (Nat.le_of_ble_eq_true rfl) [(0, .ref o)] rfl rfl ?_
  intro p9 e9 s9 m9 b9 t9 c9 F hr
  have inX7 : ∀ w ∈ wsX70, w ∈ wsX7_readsRun := (fun w h => List.mem_cons_of_mem _ (List.mem_append_right _ h))
  have hs_0 := hm.s (p)
  have hs_1 := hm.s (p + 1)
  have hs_2 := hm.s (p + 1 + 1)
  have hs_3 := hm.s (p + 1 + 1 + 1)
  have hs_4 := hm.s (p + 1 + 1 + 1 + 1)
  have hs_5 := hm.s (p + 1 + 1 + 1 + 1 + 1)
  have hs_6 := hm.s (p + 1 + 1 + 1 + 1 + 1 + 1)
  refine cq_aload_n F (i := 0) dX7_readsRun_0 rfl rfl ?_
  refine cq_bipush F (v := 114) dX7_readsRun_1 (by decide) ?_
  refine cq_callV F (C := RX7) (ci := 8) (kX7_takes l D cA X Bs o len (p) t 114 M ho hm hlen hp hp9 (by decide)) (cwV 1 F.1.2.2.2.2 gX7_readsRun_X7_takes rfl rfl rfl hdVX7_takes ⟨Nat.le_of_ble_eq_true rfl, Nat.le_of_ble_eq_true rfl⟩) ho.kind ⟨by decide, by decide⟩ rfl rfl rfl (Nat.le_of_ble_eq_true rfl) dX7_readsRun_3 ⟨Nat.le_of_ble_eq_true rfl, Nat.le_of_ble_eq_true rfl⟩ (cq_kI fun r_3 M_3 h_3 => ?_)
  have hF_3 : tm_F M M_3 o := h_3.2.2
  refine cq_if_eq F (tgt := 50) dX7_readsRun_6 (by decide) (fun c_6 => ?_) (fun c_6 => ?_)
  · have c_6 := cq_b0 h_3.1 c_6
    have hp_3 : M_3 o 9 = nI (p) := by have z := h_3.2.1.1; rwa [tx_t, if_neg c_6] at z
    refine cq_iconst F (v := 0) dX7_readsRun_50 rfl ?_
    refine cq_istore_n F (i := 1) dX7_readsRun_51 rfl (by decide) ?_
    refine cq_aload_n F (i := 0) dX7_readsRun_52 rfl rfl ?_
    refine cq_getT (t := (o + 8)) F (C := RX7) (T := TX7) (N := 22) (ci := 8) ho.kind rfl ⟨⟨by decide, by decide⟩, rfl⟩ inX7 13 (by decide) rfl rfl ho.t13 (F.1.2.2.2.2 _ (List.mem_of_getElem? (l := wsX7_readsRun) (i := 1) (a := .fieldLink RX7 32 "CordClockModel" "one" "[I") (by decide +kernel))) dX7_readsRun_53 ?_
    refine cq_aload_n F (i := 0) dX7_readsRun_56 rfl rfl ?_
    refine cq_getI F (C := RX7) (T := TX7) (N := 22) (ci := 8) ho.kind rfl ⟨⟨by decide, by decide⟩, rfl⟩ inX7 11 (by decide) rfl rfl (F.1.2.2.2.2 _ (List.mem_of_getElem? (l := wsX7_readsRun) (i := 2) (a := .fieldLink RX7 151 "CordClockModel" "orders" "I") (by decide +kernel))) dX7_readsRun_57 ?_
    rw [show M_3 o 11 = nI (k) from (show M_3 o 11 = nI (k) from (hF_3.o11 h11))]
    refine cq_aload_n F (i := 0) dX7_readsRun_60 rfl rfl ?_
    refine cq_getI F (C := RX7) (T := TX7) (N := 22) (ci := 8) ho.kind rfl ⟨⟨by decide, by decide⟩, rfl⟩ inX7 10 (by decide) rfl rfl (F.1.2.2.2.2 _ (List.mem_of_getElem? (l := wsX7_readsRun) (i := 3) (a := .fieldLink RX7 148 "CordClockModel" "number" "I") (by decide +kernel))) dX7_readsRun_61 ?_
    refine cq_iast_j F (j := k) ho.k8 ho.n8 rfl ⟨(by omega), by decide⟩ dX7_readsRun_64 (fun M_64 h_64 => ?_)
    refine cq_iload_n F (i := 1) dX7_readsRun_65 rfl rfl ?_
    exact cq_zret F hr (by rfl) (by decide) (by decide) dX7_readsRun_66 ⟨_, rfl, tm_P.no (tx_w_no (by rw [tx_l, if_neg c_6])) (by rw [h_64, cq_up_a (by omega)]; exact hp_3) (by omega) ((hF_3.G k).up h_64 (Or.inl ⟨by omega, by omega, Nat.le_refl _⟩))⟩
  · have c_6 := cq_b1 h_3.1 c_6
    have hp_3 : M_3 o 9 = nI (p + 1) := by have z := h_3.2.1.1; rwa [tx_t, if_pos c_6] at z
    refine cq_aload_n F (i := 0) dX7_readsRun_9 rfl rfl ?_
    refine cq_bipush F (v := 117) dX7_readsRun_10 (by decide) ?_
    refine cq_callV F (C := RX7) (ci := 8) (kX7_takes l D cA X Bs o len (p + 1) t 117 M_3 ho (hF_3.m hm) hlen hp_3 (by omega) (by decide)) (cwV 1 F.1.2.2.2.2 gX7_readsRun_X7_takes rfl rfl rfl hdVX7_takes ⟨Nat.le_of_ble_eq_true rfl, Nat.le_of_ble_eq_true rfl⟩) ho.kind ⟨by decide, by decide⟩ rfl rfl rfl (Nat.le_of_ble_eq_true rfl) dX7_readsRun_12 ⟨Nat.le_of_ble_eq_true rfl, Nat.le_of_ble_eq_true rfl⟩ (cq_kI fun r_12 M_12 h_12 => ?_)
    have hF_12 : tm_F M M_12 o := hF_3.trans h_12.2.2
    refine cq_if_eq F (tgt := 50) dX7_readsRun_15 (by decide) (fun c_15 => ?_) (fun c_15 => ?_)
    · have c_15 := cq_b0 h_12.1 c_15
      have hp_12 : M_12 o 9 = nI (p + 1) := by have z := h_12.2.1.1; rwa [tx_t, if_neg c_15] at z
      refine cq_iconst F (v := 0) dX7_readsRun_50 rfl ?_
      refine cq_istore_n F (i := 1) dX7_readsRun_51 rfl (by decide) ?_
      refine cq_aload_n F (i := 0) dX7_readsRun_52 rfl rfl ?_
      refine cq_getT (t := (o + 8)) F (C := RX7) (T := TX7) (N := 22) (ci := 8) ho.kind rfl ⟨⟨by decide, by decide⟩, rfl⟩ inX7 13 (by decide) rfl rfl ho.t13 (F.1.2.2.2.2 _ (List.mem_of_getElem? (l := wsX7_readsRun) (i := 1) (a := .fieldLink RX7 32 "CordClockModel" "one" "[I") (by decide +kernel))) dX7_readsRun_53 ?_
      refine cq_aload_n F (i := 0) dX7_readsRun_56 rfl rfl ?_
      refine cq_getI F (C := RX7) (T := TX7) (N := 22) (ci := 8) ho.kind rfl ⟨⟨by decide, by decide⟩, rfl⟩ inX7 11 (by decide) rfl rfl (F.1.2.2.2.2 _ (List.mem_of_getElem? (l := wsX7_readsRun) (i := 2) (a := .fieldLink RX7 151 "CordClockModel" "orders" "I") (by decide +kernel))) dX7_readsRun_57 ?_
      rw [show M_12 o 11 = nI (k) from (show M_12 o 11 = nI (k) from (hF_12.o11 h11))]
      refine cq_aload_n F (i := 0) dX7_readsRun_60 rfl rfl ?_
      refine cq_getI F (C := RX7) (T := TX7) (N := 22) (ci := 8) ho.kind rfl ⟨⟨by decide, by decide⟩, rfl⟩ inX7 10 (by decide) rfl rfl (F.1.2.2.2.2 _ (List.mem_of_getElem? (l := wsX7_readsRun) (i := 3) (a := .fieldLink RX7 148 "CordClockModel" "number" "I") (by decide +kernel))) dX7_readsRun_61 ?_
      refine cq_iast_j F (j := k) ho.k8 ho.n8 rfl ⟨(by omega), by decide⟩ dX7_readsRun_64 (fun M_64 h_64 => ?_)
      refine cq_iload_n F (i := 1) dX7_readsRun_65 rfl rfl ?_
      exact cq_zret F hr (by rfl) (by decide) (by decide) dX7_readsRun_66 ⟨_, rfl, tm_P.no (tx_w_no (by rw [tx_l, if_pos c_6]; rw [tx_l, if_neg c_15])) (by rw [h_64, cq_up_a (by omega)]; exact hp_12) (by omega) ((hF_12.G k).up h_64 (Or.inl ⟨by omega, by omega, Nat.le_refl _⟩))⟩
    · have c_15 := cq_b1 h_12.1 c_15
      have hp_12 : M_12 o 9 = nI (p + 1 + 1) := by have z := h_12.2.1.1; rwa [tx_t, if_pos c_15] at z
      refine cq_aload_n F (i := 0) dX7_readsRun_18 rfl rfl ?_
      refine cq_bipush F (v := 110) dX7_readsRun_19 (by decide) ?_
      refine cq_callV F (C := RX7) (ci := 8) (kX7_takes l D cA X Bs o len (p + 1 + 1) t 110 M_12 ho (hF_12.m hm) hlen hp_12 (by omega) (by decide)) (cwV 1 F.1.2.2.2.2 gX7_readsRun_X7_takes rfl rfl rfl hdVX7_takes ⟨Nat.le_of_ble_eq_true rfl, Nat.le_of_ble_eq_true rfl⟩) ho.kind ⟨by decide, by decide⟩ rfl rfl rfl (Nat.le_of_ble_eq_true rfl) dX7_readsRun_21 ⟨Nat.le_of_ble_eq_true rfl, Nat.le_of_ble_eq_true rfl⟩ (cq_kI fun r_21 M_21 h_21 => ?_)
      have hF_21 : tm_F M M_21 o := hF_12.trans h_21.2.2
      refine cq_if_eq F (tgt := 50) dX7_readsRun_24 (by decide) (fun c_24 => ?_) (fun c_24 => ?_)
      · have c_24 := cq_b0 h_21.1 c_24
        have hp_21 : M_21 o 9 = nI (p + 1 + 1) := by have z := h_21.2.1.1; rwa [tx_t, if_neg c_24] at z
        refine cq_iconst F (v := 0) dX7_readsRun_50 rfl ?_
        refine cq_istore_n F (i := 1) dX7_readsRun_51 rfl (by decide) ?_
        refine cq_aload_n F (i := 0) dX7_readsRun_52 rfl rfl ?_
        refine cq_getT (t := (o + 8)) F (C := RX7) (T := TX7) (N := 22) (ci := 8) ho.kind rfl ⟨⟨by decide, by decide⟩, rfl⟩ inX7 13 (by decide) rfl rfl ho.t13 (F.1.2.2.2.2 _ (List.mem_of_getElem? (l := wsX7_readsRun) (i := 1) (a := .fieldLink RX7 32 "CordClockModel" "one" "[I") (by decide +kernel))) dX7_readsRun_53 ?_
        refine cq_aload_n F (i := 0) dX7_readsRun_56 rfl rfl ?_
        refine cq_getI F (C := RX7) (T := TX7) (N := 22) (ci := 8) ho.kind rfl ⟨⟨by decide, by decide⟩, rfl⟩ inX7 11 (by decide) rfl rfl (F.1.2.2.2.2 _ (List.mem_of_getElem? (l := wsX7_readsRun) (i := 2) (a := .fieldLink RX7 151 "CordClockModel" "orders" "I") (by decide +kernel))) dX7_readsRun_57 ?_
        rw [show M_21 o 11 = nI (k) from (show M_21 o 11 = nI (k) from (hF_21.o11 h11))]
        refine cq_aload_n F (i := 0) dX7_readsRun_60 rfl rfl ?_
        refine cq_getI F (C := RX7) (T := TX7) (N := 22) (ci := 8) ho.kind rfl ⟨⟨by decide, by decide⟩, rfl⟩ inX7 10 (by decide) rfl rfl (F.1.2.2.2.2 _ (List.mem_of_getElem? (l := wsX7_readsRun) (i := 3) (a := .fieldLink RX7 148 "CordClockModel" "number" "I") (by decide +kernel))) dX7_readsRun_61 ?_
        refine cq_iast_j F (j := k) ho.k8 ho.n8 rfl ⟨(by omega), by decide⟩ dX7_readsRun_64 (fun M_64 h_64 => ?_)
        refine cq_iload_n F (i := 1) dX7_readsRun_65 rfl rfl ?_
        exact cq_zret F hr (by rfl) (by decide) (by decide) dX7_readsRun_66 ⟨_, rfl, tm_P.no (tx_w_no (by rw [tx_l, if_pos c_6]; rw [tx_l, if_pos c_15]; rw [tx_l, if_neg c_24])) (by rw [h_64, cq_up_a (by omega)]; exact hp_21) (by omega) ((hF_21.G k).up h_64 (Or.inl ⟨by omega, by omega, Nat.le_refl _⟩))⟩
      · have c_24 := cq_b1 h_21.1 c_24
        have hp_21 : M_21 o 9 = nI (p + 1 + 1 + 1) := by have z := h_21.2.1.1; rwa [tx_t, if_pos c_24] at z
        refine cq_aload_n F (i := 0) dX7_readsRun_27 rfl rfl ?_
        refine cq_bipush F (v := 58) dX7_readsRun_28 (by decide) ?_
        refine cq_callV F (C := RX7) (ci := 8) (kX7_takes l D cA X Bs o len (p + 1 + 1 + 1) t 58 M_21 ho (hF_21.m hm) hlen hp_21 (by omega) (by decide)) (cwV 1 F.1.2.2.2.2 gX7_readsRun_X7_takes rfl rfl rfl hdVX7_takes ⟨Nat.le_of_ble_eq_true rfl, Nat.le_of_ble_eq_true rfl⟩) ho.kind ⟨by decide, by decide⟩ rfl rfl rfl (Nat.le_of_ble_eq_true rfl) dX7_readsRun_30 ⟨Nat.le_of_ble_eq_true rfl, Nat.le_of_ble_eq_true rfl⟩ (cq_kI fun r_30 M_30 h_30 => ?_)
        have hF_30 : tm_F M M_30 o := hF_21.trans h_30.2.2
        refine cq_if_eq F (tgt := 50) dX7_readsRun_33 (by decide) (fun c_33 => ?_) (fun c_33 => ?_)
        · have c_33 := cq_b0 h_30.1 c_33
          have hp_30 : M_30 o 9 = nI (p + 1 + 1 + 1) := by have z := h_30.2.1.1; rwa [tx_t, if_neg c_33] at z
          refine cq_iconst F (v := 0) dX7_readsRun_50 rfl ?_
          refine cq_istore_n F (i := 1) dX7_readsRun_51 rfl (by decide) ?_
          refine cq_aload_n F (i := 0) dX7_readsRun_52 rfl rfl ?_
          refine cq_getT (t := (o + 8)) F (C := RX7) (T := TX7) (N := 22) (ci := 8) ho.kind rfl ⟨⟨by decide, by decide⟩, rfl⟩ inX7 13 (by decide) rfl rfl ho.t13 (F.1.2.2.2.2 _ (List.mem_of_getElem? (l := wsX7_readsRun) (i := 1) (a := .fieldLink RX7 32 "CordClockModel" "one" "[I") (by decide +kernel))) dX7_readsRun_53 ?_
          refine cq_aload_n F (i := 0) dX7_readsRun_56 rfl rfl ?_
          refine cq_getI F (C := RX7) (T := TX7) (N := 22) (ci := 8) ho.kind rfl ⟨⟨by decide, by decide⟩, rfl⟩ inX7 11 (by decide) rfl rfl (F.1.2.2.2.2 _ (List.mem_of_getElem? (l := wsX7_readsRun) (i := 2) (a := .fieldLink RX7 151 "CordClockModel" "orders" "I") (by decide +kernel))) dX7_readsRun_57 ?_
          rw [show M_30 o 11 = nI (k) from (show M_30 o 11 = nI (k) from (hF_30.o11 h11))]
          refine cq_aload_n F (i := 0) dX7_readsRun_60 rfl rfl ?_
          refine cq_getI F (C := RX7) (T := TX7) (N := 22) (ci := 8) ho.kind rfl ⟨⟨by decide, by decide⟩, rfl⟩ inX7 10 (by decide) rfl rfl (F.1.2.2.2.2 _ (List.mem_of_getElem? (l := wsX7_readsRun) (i := 3) (a := .fieldLink RX7 148 "CordClockModel" "number" "I") (by decide +kernel))) dX7_readsRun_61 ?_
          refine cq_iast_j F (j := k) ho.k8 ho.n8 rfl ⟨(by omega), by decide⟩ dX7_readsRun_64 (fun M_64 h_64 => ?_)
          refine cq_iload_n F (i := 1) dX7_readsRun_65 rfl rfl ?_
          exact cq_zret F hr (by rfl) (by decide) (by decide) dX7_readsRun_66 ⟨_, rfl, tm_P.no (tx_w_no (by rw [tx_l, if_pos c_6]; rw [tx_l, if_pos c_15]; rw [tx_l, if_pos c_24]; rw [tx_l, if_neg c_33])) (by rw [h_64, cq_up_a (by omega)]; exact hp_30) (by omega) ((hF_30.G k).up h_64 (Or.inl ⟨by omega, by omega, Nat.le_refl _⟩))⟩
        · have c_33 := cq_b1 h_30.1 c_33
          have hp_30 : M_30 o 9 = nI (p + 1 + 1 + 1 + 1) := by have z := h_30.2.1.1; rwa [tx_t, if_pos c_33] at z
          refine cq_aload_n F (i := 0) dX7_readsRun_36 rfl rfl ?_
          refine cq_sipush F (v := 200) dX7_readsRun_37 (by decide) ?_
          refine cq_callV F (C := RX7) (ci := 8) (kX7_readsNumber l D cA X Bs o len (p + 1 + 1 + 1 + 1) 200 t M_30 ho (hF_30.m hm) hlen hp_30 (by omega) (by omega)) (cwV 1 F.1.2.2.2.2 gX7_readsRun_X7_readsNumber rfl rfl rfl hdVX7_readsNumber ⟨Nat.le_of_ble_eq_true rfl, Nat.le_of_ble_eq_true rfl⟩) ho.kind ⟨by decide, by decide⟩ rfl rfl rfl (Nat.le_of_ble_eq_true rfl) dX7_readsRun_40 ⟨Nat.le_of_ble_eq_true rfl, Nat.le_of_ble_eq_true rfl⟩ (cq_kI fun r_40 M_40 h_40 => ?_)
          have hF_40 := hF_30.trans h_40.2.2.2
          refine cq_if_eq F (tgt := 50) dX7_readsRun_43 (by decide) (fun c_43 => ?_) (fun c_43 => ?_)
          · have c_43 := cq_b0 h_40.1 c_43
            refine cq_iconst F (v := 0) dX7_readsRun_50 rfl ?_
            refine cq_istore_n F (i := 1) dX7_readsRun_51 rfl (by decide) ?_
            refine cq_aload_n F (i := 0) dX7_readsRun_52 rfl rfl ?_
            refine cq_getT (t := (o + 8)) F (C := RX7) (T := TX7) (N := 22) (ci := 8) ho.kind rfl ⟨⟨by decide, by decide⟩, rfl⟩ inX7 13 (by decide) rfl rfl ho.t13 (F.1.2.2.2.2 _ (List.mem_of_getElem? (l := wsX7_readsRun) (i := 1) (a := .fieldLink RX7 32 "CordClockModel" "one" "[I") (by decide +kernel))) dX7_readsRun_53 ?_
            refine cq_aload_n F (i := 0) dX7_readsRun_56 rfl rfl ?_
            refine cq_getI F (C := RX7) (T := TX7) (N := 22) (ci := 8) ho.kind rfl ⟨⟨by decide, by decide⟩, rfl⟩ inX7 11 (by decide) rfl rfl (F.1.2.2.2.2 _ (List.mem_of_getElem? (l := wsX7_readsRun) (i := 2) (a := .fieldLink RX7 151 "CordClockModel" "orders" "I") (by decide +kernel))) dX7_readsRun_57 ?_
            rw [show M_40 o 11 = nI (k) from (show M_40 o 11 = nI (k) from (hF_40.o11 h11))]
            refine cq_aload_n F (i := 0) dX7_readsRun_60 rfl rfl ?_
            refine cq_getI F (C := RX7) (T := TX7) (N := 22) (ci := 8) ho.kind rfl ⟨⟨by decide, by decide⟩, rfl⟩ inX7 10 (by decide) rfl rfl (F.1.2.2.2.2 _ (List.mem_of_getElem? (l := wsX7_readsRun) (i := 3) (a := .fieldLink RX7 148 "CordClockModel" "number" "I") (by decide +kernel))) dX7_readsRun_61 ?_
            rw [show M_40 o 10 = nI ((tx_n (tx_s t len) 200 (p + 1 + 1 + 1 + 1)).1) from (show M_40 o 10 = nI ((tx_n (tx_s t len) 200 (p + 1 + 1 + 1 + 1)).1) from h_40.2.2.1.1)]
            refine cq_iast_j F (j := k) ho.k8 ho.n8 rfl ⟨(by omega), by decide⟩ dX7_readsRun_64 (fun M_64 h_64 => ?_)
            refine cq_iload_n F (i := 1) dX7_readsRun_65 rfl rfl ?_
            exact cq_zret F hr (by rfl) (by decide) (by decide) dX7_readsRun_66 ⟨_, rfl, by first | exact tm_P.yes ((tx_w_yes (by rw [tx_l, if_pos c_6]; rw [tx_l, if_pos c_15]; rw [tx_l, if_pos c_24]; rw [tx_l, if_pos c_33]; rfl)).trans (show tx_run _ _ = _ from if_neg (by omega))) (by rw [h_64, cq_up_a (by omega)]; exact h_40.2.1.1) h_40.2.1.2 ((hF_40.G k).up h_64 (Or.inl ⟨by omega, by omega, Nat.le_refl _⟩)) ⟨by rw [h_64]; exact cq_up_s _ _ _ _, fun z => absurd (show 3 = 2 from z) (by decide), fun z => absurd (show 3 = 1 ∨ 3 = 2 from z) (by decide), fun z => absurd (show 3 = 0 from z) (by decide)⟩ | exact tm_P.no ((tx_w_yes (by rw [tx_l, if_pos c_6]; rw [tx_l, if_pos c_15]; rw [tx_l, if_pos c_24]; rw [tx_l, if_pos c_33]; rfl)).trans (show tx_run _ _ = _ from if_pos (by omega))) (by rw [h_64, cq_up_a (by omega)]; exact h_40.2.1.1) h_40.2.1.2 ((hF_40.G k).up h_64 (Or.inl ⟨by omega, by omega, Nat.le_refl _⟩))⟩
          · have c_43 := cq_b1 h_40.1 c_43
            refine cq_iconst F (v := 1) dX7_readsRun_46 rfl ?_
            refine cq_goto F (tgt := 51) dX7_readsRun_47 (by decide) ?_
            refine cq_istore_n F (i := 1) dX7_readsRun_51 rfl (by decide) ?_
            refine cq_aload_n F (i := 0) dX7_readsRun_52 rfl rfl ?_
            refine cq_getT (t := (o + 8)) F (C := RX7) (T := TX7) (N := 22) (ci := 8) ho.kind rfl ⟨⟨by decide, by decide⟩, rfl⟩ inX7 13 (by decide) rfl rfl ho.t13 (F.1.2.2.2.2 _ (List.mem_of_getElem? (l := wsX7_readsRun) (i := 1) (a := .fieldLink RX7 32 "CordClockModel" "one" "[I") (by decide +kernel))) dX7_readsRun_53 ?_
            refine cq_aload_n F (i := 0) dX7_readsRun_56 rfl rfl ?_
            refine cq_getI F (C := RX7) (T := TX7) (N := 22) (ci := 8) ho.kind rfl ⟨⟨by decide, by decide⟩, rfl⟩ inX7 11 (by decide) rfl rfl (F.1.2.2.2.2 _ (List.mem_of_getElem? (l := wsX7_readsRun) (i := 2) (a := .fieldLink RX7 151 "CordClockModel" "orders" "I") (by decide +kernel))) dX7_readsRun_57 ?_
            rw [show M_40 o 11 = nI (k) from (show M_40 o 11 = nI (k) from (hF_40.o11 h11))]
            refine cq_aload_n F (i := 0) dX7_readsRun_60 rfl rfl ?_
            refine cq_getI F (C := RX7) (T := TX7) (N := 22) (ci := 8) ho.kind rfl ⟨⟨by decide, by decide⟩, rfl⟩ inX7 10 (by decide) rfl rfl (F.1.2.2.2.2 _ (List.mem_of_getElem? (l := wsX7_readsRun) (i := 3) (a := .fieldLink RX7 148 "CordClockModel" "number" "I") (by decide +kernel))) dX7_readsRun_61 ?_
            rw [show M_40 o 10 = nI ((tx_n (tx_s t len) 200 (p + 1 + 1 + 1 + 1)).1) from (show M_40 o 10 = nI ((tx_n (tx_s t len) 200 (p + 1 + 1 + 1 + 1)).1) from h_40.2.2.1.1)]
            refine cq_iast_j F (j := k) ho.k8 ho.n8 rfl ⟨(by omega), by decide⟩ dX7_readsRun_64 (fun M_64 h_64 => ?_)
            refine cq_iload_n F (i := 1) dX7_readsRun_65 rfl rfl ?_
            exact cq_zret F hr (by rfl) (by decide) (by decide) dX7_readsRun_66 ⟨_, rfl, by first | exact tm_P.yes ((tx_w_yes (by rw [tx_l, if_pos c_6]; rw [tx_l, if_pos c_15]; rw [tx_l, if_pos c_24]; rw [tx_l, if_pos c_33]; rfl)).trans (show tx_run _ _ = _ from if_neg (by omega))) (by rw [h_64, cq_up_a (by omega)]; exact h_40.2.1.1) h_40.2.1.2 ((hF_40.G k).up h_64 (Or.inl ⟨by omega, by omega, Nat.le_refl _⟩)) ⟨by rw [h_64]; exact cq_up_s _ _ _ _, fun z => absurd (show 3 = 2 from z) (by decide), fun z => absurd (show 3 = 1 ∨ 3 = 2 from z) (by decide), fun z => absurd (show 3 = 0 from z) (by decide)⟩ | exact tm_P.no ((tx_w_yes (by rw [tx_l, if_pos c_6]; rw [tx_l, if_pos c_15]; rw [tx_l, if_pos c_24]; rw [tx_l, if_pos c_33]; rfl)).trans (show tx_run _ _ = _ from if_pos (by omega))) (by rw [h_64, cq_up_a (by omega)]; exact h_40.2.1.1) h_40.2.1.2 ((hF_40.G k).up h_64 (Or.inl ⟨by omega, by omega, Nat.le_refl _⟩))⟩
theorem hdVX7_readsRun : yX7_readsRun.cls = RX7 ∧ yX7_readsRun.cls ≠ "java/lang/invoke/MethodHandle" ∧ yX7_readsRun.cls ≠ "java/lang/invoke/VarHandle" ∧ (parseMethodDescriptor yX7_readsRun.desc).map (fun d => d.parameters.length) = some 0 := by decide +kernel
