/-! CordClockModel: isComplete, firstError -/
theorem tx_all_0 {s : Nat → Nat} {f p : Nat} (h : ¬ (tx_ord s p).1 = true) : tx_all s (f + 1) p = (false, (tx_ord s p).2.1, []) := by rw [tx_all, if_neg h]
theorem tx_all_1 {s : Nat → Nat} {f p : Nat} (h : (tx_ord s p).1 = true) (h2 : ¬ s (tx_ord s p).2.1 = 59) : tx_all s (f + 1) p = (true, (tx_ord s p).2.1, [(tx_ord s p).2.2]) := by rw [tx_all, if_pos h, if_neg h2]
theorem tx_all_2 {s : Nat → Nat} {f p : Nat} (h : (tx_ord s p).1 = true) (h2 : s (tx_ord s p).2.1 = 59) : tx_all s (f + 1) p = ((tx_all s f ((tx_ord s p).2.1 + 1)).1, (tx_all s f ((tx_ord s p).2.1 + 1)).2.1, (tx_ord s p).2.2 :: (tx_all s f ((tx_ord s p).2.1 + 1)).2.2) := by rw [tx_all, if_pos h, if_pos h2]
/-- the orders that lie in the rows -/
def tm_es (M : cq_M) (o : Nat) (l : List tx_O) : Prop := ∀ j, j < l.length → tm_ent M o j (l.getD j tx_no) ∧ tx_okO (l.getD j tx_no)
theorem tx_okO.few {q : tx_O} (h : tx_okO q) : q.2.1 ≤ 6 ∨ q.1 ≠ 0 := by
  unfold tx_okO at h
  omega
theorem tm_es.H {M M1 : cq_M} {o k : Nat} {l : List tx_O} (h : tm_es M o l) (hH : tm_H M M1 o k) (hk : l.length ≤ k) : tm_es M1 o l := fun j hj => ⟨hH.ent (by omega) (h j hj).2.few (h j hj).1, (h j hj).2⟩
theorem tm_es.push {M : cq_M} {o : Nat} {l : List tx_O} {q : tx_O} (h : tm_es M o l) (h1 : tm_ent M o l.length q) (h2 : tx_okO q) : tm_es M o (l ++ [q]) := fun j hj => by
  rw [List.length_append, List.length_singleton] at hj
  by_cases e : j < l.length
  · rw [List.getD_eq_getElem?_getD, List.getElem?_append_left e, ← List.getD_eq_getElem?_getD]
    exact h j e
  · obtain rfl : j = l.length := by omega
    rw [List.getD_eq_getElem?_getD, List.getElem?_append_right (Nat.le_refl _), Nat.sub_self]
    exact ⟨h1, h2⟩
theorem tm_F.H {M M1 : cq_M} {o : Nat} (h : tm_F M M1 o) (k : Nat) : tm_H M M1 o k := (h.G k).H
/-- an order has been read, k stand before it -/
def tm_A (M : cq_M) (o : Nat) (s : Nat → Nat) (k p : Nat) (pre : List tx_O) (w : Int32) : Prop := (6 * k ≤ p ∧ p ≤ 60 ∧ pre.length = k) ∧ tx_all s 16 0 = ((tx_all s (16 - k) p).1, (tx_all s (16 - k) p).2.1, pre ++ (tx_all s (16 - k) p).2.2) ∧ tm_es M o pre ∧ w = (if (tx_ord s p).1 = true then 1 else 0) ∧ (M o 9 = nI (tx_ord s p).2.1 ∧ (tx_ord s p).2.1 ≤ 60) ∧ M o 11 = nI (if (tx_ord s p).1 = true then k + 1 else k) ∧ ((tx_ord s p).1 = true → tm_ent M o k (tx_ord s p).2.2)
def tm_Z (M M1 : cq_M) (o : Nat) (s : Nat → Nat) (len : Nat) (r : Int32) : Prop := r = (if (tx_all s 16 0).1 = true ∧ (tx_all s 16 0).2.1 = len then 1 else 0) ∧ (M1 o 9 = nI (tx_all s 16 0).2.1 ∧ (tx_all s 16 0).2.1 ≤ 60) ∧ ((tx_all s 16 0).1 = true → M1 o 11 = nI (tx_all s 16 0).2.2.length ∧ tm_es M1 o (tx_all s 16 0).2.2) ∧ tm_H M M1 o 0
theorem tm_A.fail {M M2 : cq_M} {o k p len : Nat} {s : Nat → Nat} {pre : List tx_O} {w r : Int32} (h : tm_A M2 o s k p pre w) (hH : tm_H M M2 o 0) (hw : ¬ (tx_ord s p).1 = true) (hr : r = 0) : tm_Z M M2 o s len r := by
  obtain ⟨⟨a1, a2, a3⟩, a4, a5, a6, a7, a8, a9⟩ := h
  rw [show 16 - k = 16 - (k + 1) + 1 by omega, tx_all_0 hw] at a4
  unfold tm_Z
  rw [a4]
  exact ⟨by rw [if_neg (fun z => absurd (show false = true from z.1) (by decide))]; exact hr, a7, fun z => absurd (show false = true from z) (by decide), hH⟩
theorem tm_A.stop {M M2 M3 : cq_M} {o k p len : Nat} {s : Nat → Nat} {pre : List tx_O} {w r : Int32} (h : tm_A M2 o s k p pre w) (hH : tm_H M M2 o 0) (hw : (tx_ord s p).1 = true) (h59 : ¬ s (tx_ord s p).2.1 = 59) (hF : tm_F M2 M3 o) (h9 : M3 o 9 = nI (tx_ord s p).2.1) (hr : r = (if (tx_ord s p).2.1 = len then 1 else 0)) : tm_Z M M3 o s len r := by
  obtain ⟨⟨a1, a2, a3⟩, a4, a5, a6, a7, a8, a9⟩ := h
  rw [show 16 - k = 16 - (k + 1) + 1 by omega, tx_all_1 hw h59] at a4
  unfold tm_Z
  rw [a4]
  rw [if_pos hw] at a8
  subst a3
  refine ⟨by rw [hr]; exact cq_ifc ⟨fun z => ⟨rfl, z⟩, fun z => z.2⟩, ⟨h9, a7.2⟩, fun _ => ⟨?_, ?_⟩, hH.trans (hF.H 0)⟩
  · show M3 o 11 = nI (pre ++ [(tx_ord s p).2.2]).length
    rw [List.length_append, List.length_singleton]
    exact hF.o11 a8
  · exact (a5.push (a9 hw) (tx_ord_ok hw).2.1).H (hF.H (pre.length + 1)) (by show (pre ++ [(tx_ord s p).2.2]).length ≤ _; rw [List.length_append, List.length_singleton]; exact Nat.le_refl _)
theorem tm_A.next {M2 M3 M4 : cq_M} {o k p : Nat} {s : Nat → Nat} {pre : List tx_O} {w r : Int32} (h : tm_A M2 o s k p pre w) (hw : (tx_ord s p).1 = true) (h59 : s (tx_ord s p).2.1 = 59) (hF : tm_F M2 M3 o) (h60 : (tx_ord s p).2.1 + 1 ≤ 60) (hQ : tm_Q M3 M4 o (k + 1) (tx_ord s ((tx_ord s p).2.1 + 1)) r) : tm_A M4 o s (k + 1) ((tx_ord s p).2.1 + 1) (pre ++ [(tx_ord s p).2.2]) r := by
  obtain ⟨⟨a1, a2, a3⟩, a4, a5, a6, a7, a8, a9⟩ := h
  obtain ⟨q1, q2, q3, q4, q5⟩ := hQ
  have hl := (tx_ord_ok hw).1
  rw [show 16 - k = 16 - (k + 1) + 1 by omega, tx_all_2 hw h59] at a4
  have hl2 : (pre ++ [(tx_ord s p).2.2]).length = k + 1 := by rw [List.length_append, List.length_singleton, a3]
  refine ⟨⟨by omega, h60, hl2⟩, ?_, ?_, q1, q2, q4, q5⟩
  · rw [a4, List.append_assoc]; rfl
  · subst a3
    exact ((a5.push (a9 hw) (tx_ord_ok hw).2.1).H (hF.H (pre.length + 1)) (by rw [hl2]; exact Nat.le_refl _)).H q3 (by rw [hl2]; exact Nat.le_refl _)
theorem tm_Q.first {M M1 : cq_M} {o : Nat} {s : Nat → Nat} {r : Int32} (h : tm_Q M M1 o 0 (tx_ord s 0) r) : tm_A M1 o s 0 0 [] r := ⟨⟨Nat.le_refl _, Nat.zero_le _, rfl⟩, rfl, fun j hj => absurd hj (by show ¬ j < 0; omega), h.1, h.2.1, h.2.2.2.1, h.2.2.2.2⟩
abbrev rmX7_isComplete : Room := ({ frames := 5, cells := 0, slots := 0, locals := 107 })
set_option maxHeartbeats 4000000 in
set_option maxRecDepth 100000 in
theorem kX7_isComplete (l : Launch) (D : va_G) (cA : Nat → ClassId) (X : cq_X) (Bs : Nat) (o len : Nat) (t : Nat → Nat) (M : cq_M) (ho : cq_isModel X o) (hm : tm_M M o t len) (hlen : len ≤ 60) : cq_C l yX7_isComplete wsX7_isComplete rmX7_isComplete D cA X Bs [.ref o] M (cq_PI (fun r M1 => tm_Z M M1 o (tx_s t len) len r)) 0 0 := by
  refine cq_met (cc := cX7_isComplete) (maxL := 2) (ret := (some .boolean)) (by decide) rfl (Nat.le_of_ble_eq_true rfl) [(0, .ref o)] rfl rfl ?_
  intro p9 e9 s9 m9 b9 t9 c9 F hr
  have inX7 : ∀ w ∈ wsX70, w ∈ wsX7_isComplete := (fun w h => List.mem_cons_of_mem _ (List.mem_append_right _ h))
  have loop_15 : ∀ (n_15 : Nat) (k p : Nat) (pre : List tx_O) (w : Int32) (M2 : cq_M), tm_A M2 o (tx_s t len) k p pre w → tm_H M M2 o 0 → 61 - p < n_15 → cq_V p9 l e9 rmX7_isComplete s9 m9 ([.ref o] : List Value).toArray b9 t9 c9 D cA X Bs 2 0 0 (MQ b9 (cq_Q D cA X Bs (cq_PI (fun r M1 => tm_Z M M1 o (tx_s t len) len r))) ([.ref o] : List Value).toArray s9 0 0 (cq_A Bs)) 15 [(0, .ref o), (1, .int w)] [] M2 := by
    intro n_15
    induction n_15 with
    | zero =>
      intros
      omega
    | succ n_15 ih_15 =>
      intro k p pre w M2 hA hH hn
      refine cq_iload_n F (i := 1) dX7_isComplete_15 rfl rfl ?_
      refine cq_if_eq F (tgt := 36) dX7_isComplete_16 (by decide) (fun c_16 => ?_) (fun c_16 => ?_)
      · refine cq_iload_n F (i := 1) dX7_isComplete_36 rfl rfl ?_
        refine cq_if_eq F (tgt := 55) dX7_isComplete_37 (by decide) (fun c_37 => ?_) (fun c_37 => ?_)
        · refine cq_iconst F (v := 0) dX7_isComplete_55 rfl ?_
          exact cq_zret F hr (by rfl) (by decide) (by decide) dX7_isComplete_56 ⟨_, rfl, (hA.fail hH (by have z := c_16; rw [hA.2.2.2.1] at z; exact cq_b0 (P := (tx_ord (tx_s t len) p).1 = true) rfl z) (by first | rfl | exact absurd c_37 (by rw [c_16]; decide) | exact c_16))⟩
        · have hq60 := hA.2.2.2.2.1.2
          refine cq_aload_n F (i := 0) dX7_isComplete_40 rfl rfl ?_
          refine cq_getI F (C := RX7) (T := TX7) (N := 22) (ci := 8) ho.kind rfl ⟨⟨by decide, by decide⟩, rfl⟩ inX7 9 (by decide) rfl rfl (F.1.2.2.2.2 _ (List.mem_of_getElem? (l := wsX7_isComplete) (i := 1) (a := .fieldLink RX7 142 "CordClockModel" "spot" "I") (by decide +kernel))) dX7_isComplete_41 ?_
          refine cq_aload_n F (i := 0) dX7_isComplete_44 rfl rfl ?_
          refine cq_getI F (C := RX7) (T := TX7) (N := 22) (ci := 8) ho.kind rfl ⟨⟨by decide, by decide⟩, rfl⟩ inX7 8 (by decide) rfl rfl (F.1.2.2.2.2 _ (List.mem_of_getElem? (l := wsX7_isComplete) (i := 3) (a := .fieldLink RX7 139 "CordClockModel" "length" "I") (by decide +kernel))) dX7_isComplete_45 ?_
          refine cq_icmp_ne F (tgt := 55) dX7_isComplete_48 (by decide) (fun c_48 => ?_) (fun c_48 => ?_)
          · refine cq_iconst F (v := 0) dX7_isComplete_55 rfl ?_
            exact cq_zret F hr (by rfl) (by decide) (by decide) dX7_isComplete_56 ⟨_, rfl, (hA.fail hH (by have z := c_16; rw [hA.2.2.2.1] at z; exact cq_b0 (P := (tx_ord (tx_s t len) p).1 = true) rfl z) (by first | rfl | exact absurd c_37 (by rw [c_16]; decide) | exact c_16))⟩
          · refine cq_iconst F (v := 1) dX7_isComplete_51 rfl ?_
            refine cq_goto F (tgt := 56) dX7_isComplete_52 (by decide) ?_
            exact cq_zret F hr (by rfl) (by decide) (by decide) dX7_isComplete_56 ⟨_, rfl, (hA.fail hH (by have z := c_16; rw [hA.2.2.2.1] at z; exact cq_b0 (P := (tx_ord (tx_s t len) p).1 = true) rfl z) (by first | rfl | exact absurd c_37 (by rw [c_16]; decide) | exact c_16))⟩
      · have hw9 : (tx_ord (tx_s t len) p).1 = true := by have z := c_16; rw [hA.2.2.2.1] at z; exact cq_b1 (P := (tx_ord (tx_s t len) p).1 = true) rfl z
        have h11k : M2 o 11 = nI (k + 1) := by have z := hA.2.2.2.2.2.1; rwa [if_pos hw9] at z
        have hl9 := (tx_ord_ok hw9).1
        have hs9 := hm.s (tx_ord (tx_s t len) p).2.1
        refine cq_aload_n F (i := 0) dX7_isComplete_19 rfl rfl ?_
        refine cq_bipush F (v := 59) dX7_isComplete_20 (by decide) ?_
        refine cq_callV F (C := RX7) (ci := 8) (kX7_takes l D cA X Bs o len ((tx_ord (tx_s t len) p).2.1) t 59 M2 ho (hH.m hm) hlen hA.2.2.2.2.1.1 hA.2.2.2.2.1.2 (by decide)) (cwV 1 F.1.2.2.2.2 gX7_isComplete_X7_takes rfl rfl rfl hdVX7_takes ⟨Nat.le_of_ble_eq_true rfl, Nat.le_of_ble_eq_true rfl⟩) ho.kind ⟨by decide, by decide⟩ rfl rfl rfl (Nat.le_of_ble_eq_true rfl) dX7_isComplete_22 ⟨Nat.le_of_ble_eq_true rfl, Nat.le_of_ble_eq_true rfl⟩ (cq_kI fun r_22 M_22 h_22 => ?_)
        have hm_22 := (h_22.2.2.H 0).m (hH.m hm)
        refine cq_if_eq F (tgt := 36) dX7_isComplete_25 (by decide) (fun c_25 => ?_) (fun c_25 => ?_)
        · have c_25 := cq_b0 h_22.1 c_25
          have hp_22 : M_22 o 9 = nI ((tx_ord (tx_s t len) p).2.1) := by have z := h_22.2.1.1; rwa [tx_t, if_neg c_25] at z
          refine cq_iload_n F (i := 1) dX7_isComplete_36 rfl rfl ?_
          refine cq_if_eq F (tgt := 55) dX7_isComplete_37 (by decide) (fun c_37 => ?_) (fun c_37 => ?_)
          · refine cq_iconst F (v := 0) dX7_isComplete_55 rfl ?_
            exact cq_zret F hr (by rfl) (by decide) (by decide) dX7_isComplete_56 ⟨_, rfl, (hA.stop hH hw9 c_25 h_22.2.2 hp_22 (by first | exact (if_pos c_48).symm | exact (if_neg c_48).symm | exact absurd c_37 c_16))⟩
          · have hq60 := hA.2.2.2.2.1.2
            refine cq_aload_n F (i := 0) dX7_isComplete_40 rfl rfl ?_
            refine cq_getI F (C := RX7) (T := TX7) (N := 22) (ci := 8) ho.kind rfl ⟨⟨by decide, by decide⟩, rfl⟩ inX7 9 (by decide) rfl rfl (F.1.2.2.2.2 _ (List.mem_of_getElem? (l := wsX7_isComplete) (i := 1) (a := .fieldLink RX7 142 "CordClockModel" "spot" "I") (by decide +kernel))) dX7_isComplete_41 ?_
            rw [show M_22 o 9 = nI ((tx_ord (tx_s t len) p).2.1) from (show M_22 o 9 = nI ((tx_ord (tx_s t len) p).2.1) from hp_22)]
            refine cq_aload_n F (i := 0) dX7_isComplete_44 rfl rfl ?_
            refine cq_getI F (C := RX7) (T := TX7) (N := 22) (ci := 8) ho.kind rfl ⟨⟨by decide, by decide⟩, rfl⟩ inX7 8 (by decide) rfl rfl (F.1.2.2.2.2 _ (List.mem_of_getElem? (l := wsX7_isComplete) (i := 3) (a := .fieldLink RX7 139 "CordClockModel" "length" "I") (by decide +kernel))) dX7_isComplete_45 ?_
            rw [show M_22 o 8 = nI (len) from (show M_22 o 8 = nI (len) from hm_22.1)]
            refine cq_icmp_ne F (tgt := 55) dX7_isComplete_48 (by decide) (fun c_48 => ?_) (fun c_48 => ?_)
            · have c_48 : ¬ ((tx_ord (tx_s t len) p).2.1) = len := fun z => c_48 ((nI_b (a := ((tx_ord (tx_s t len) p).2.1)) (b := len) (by omega) (by omega)).2.2.mpr z)
              refine cq_iconst F (v := 0) dX7_isComplete_55 rfl ?_
              exact cq_zret F hr (by rfl) (by decide) (by decide) dX7_isComplete_56 ⟨_, rfl, (hA.stop hH hw9 c_25 h_22.2.2 hp_22 (by first | exact (if_pos c_48).symm | exact (if_neg c_48).symm | exact absurd c_37 c_16))⟩
            · have c_48 : ((tx_ord (tx_s t len) p).2.1) = len := (nI_b (a := ((tx_ord (tx_s t len) p).2.1)) (b := len) (by omega) (by omega)).2.2.mp c_48
              refine cq_iconst F (v := 1) dX7_isComplete_51 rfl ?_
              refine cq_goto F (tgt := 56) dX7_isComplete_52 (by decide) ?_
              exact cq_zret F hr (by rfl) (by decide) (by decide) dX7_isComplete_56 ⟨_, rfl, (hA.stop hH hw9 c_25 h_22.2.2 hp_22 (by first | exact (if_pos c_48).symm | exact (if_neg c_48).symm | exact absurd c_37 c_16))⟩
        · have c_25 := cq_b1 h_22.1 c_25
          have hp_22 : M_22 o 9 = nI ((tx_ord (tx_s t len) p).2.1 + 1) := by have z := h_22.2.1.1; rwa [tx_t, if_pos c_25] at z
          have h60 : (tx_ord (tx_s t len) p).2.1 + 1 ≤ 60 := by omega
          have hk10 : k + 1 ≤ 10 := by have := hA.1.1; omega
          refine cq_aload_n F (i := 0) dX7_isComplete_28 rfl rfl ?_
          refine cq_callV F (C := RX7) (ci := 8) (kX7_readsOrder l D cA X Bs o len ((tx_ord (tx_s t len) p).2.1 + 1) (k + 1) t M_22 ho hm_22 hlen hp_22 h60 (h_22.2.2.o11 h11k) hk10) (cwV 0 F.1.2.2.2.2 gX7_isComplete_X7_readsOrder rfl rfl rfl hdVX7_readsOrder ⟨Nat.le_of_ble_eq_true rfl, Nat.le_of_ble_eq_true rfl⟩) ho.kind ⟨by decide, by decide⟩ rfl rfl rfl (Nat.le_of_ble_eq_true rfl) dX7_isComplete_29 ⟨Nat.le_of_ble_eq_true rfl, Nat.le_of_ble_eq_true rfl⟩ (cq_kI fun r_29 M_29 h_29 => ?_)
          refine cq_istore_n F (i := 1) dX7_isComplete_32 rfl (by decide) ?_
          refine cq_goto F (tgt := 15) dX7_isComplete_33 (by decide) ?_
          refine cq_loc (L2 := [(0, .ref o), (1, .int r_29)]) rfl ?_
          exact ih_15 (k + 1) ((tx_ord (tx_s t len) p).2.1 + 1) (pre ++ [(tx_ord (tx_s t len) p).2.2]) r_29 M_29 (hA.next hw9 c_25 h_22.2.2 h60 h_29) ((hH.trans (h_22.2.2.H 0)).trans (h_29.2.2.1.less (Nat.zero_le _))) (by omega)
  refine cq_aload_n F (i := 0) dX7_isComplete_0 rfl rfl ?_
  refine cq_iconst F (v := 0) dX7_isComplete_1 rfl ?_
  refine cq_put F (C := RX7) (T := TX7) (N := 22) (ci := 8) ho.kind rfl ⟨⟨by decide, by decide⟩, rfl⟩ inX7 tyX7 tyX7_ok nmX7 9 (by decide) rfl rfl (F.1.2.2.2.2 _ (List.mem_of_getElem? (l := wsX7_isComplete) (i := 1) (a := .fieldLink RX7 142 "CordClockModel" "spot" "I") (by decide +kernel))) rfl (by rfl) (by rfl) dX7_isComplete_2 (fun M_2 h_2 => ?_)
  refine cq_aload_n F (i := 0) dX7_isComplete_5 rfl rfl ?_
  refine cq_iconst F (v := 0) dX7_isComplete_6 rfl ?_
  refine cq_put F (C := RX7) (T := TX7) (N := 22) (ci := 8) ho.kind rfl ⟨⟨by decide, by decide⟩, rfl⟩ inX7 tyX7 tyX7_ok nmX7 11 (by decide) rfl rfl (F.1.2.2.2.2 _ (List.mem_of_getElem? (l := wsX7_isComplete) (i := 2) (a := .fieldLink RX7 151 "CordClockModel" "orders" "I") (by decide +kernel))) rfl (by rfl) (by rfl) dX7_isComplete_7 (fun M_7 h_7 => ?_)
  refine cq_aload_n F (i := 0) dX7_isComplete_10 rfl rfl ?_
  refine cq_callV F (C := RX7) (ci := 8) (kX7_readsOrder l D cA X Bs o len 0 0 t M_7 ho (hm.ext (by rw [h_7, cq_up_k (by omega), h_2, cq_up_k (by omega)]) (fun j => by rw [h_7, cq_up_a (by omega), h_2, cq_up_a (by omega)])) hlen (by rw [h_7, cq_up_k (by omega), h_2]; exact cq_up_s _ _ _ _) (by omega) (by rw [h_7]; exact cq_up_s _ _ _ _) (by omega)) (cwV 0 F.1.2.2.2.2 gX7_isComplete_X7_readsOrder rfl rfl rfl hdVX7_readsOrder ⟨Nat.le_of_ble_eq_true rfl, Nat.le_of_ble_eq_true rfl⟩) ho.kind ⟨by decide, by decide⟩ rfl rfl rfl (Nat.le_of_ble_eq_true rfl) dX7_isComplete_11 ⟨Nat.le_of_ble_eq_true rfl, Nat.le_of_ble_eq_true rfl⟩ (cq_kI fun r_11 M_11 h_11 => ?_)
  refine cq_istore_n F (i := 1) dX7_isComplete_14 rfl (by decide) ?_
  refine cq_loc (L2 := [(0, .ref o), (1, .int r_11)]) rfl ?_
  exact loop_15 62 0 0 [] r_11 M_11 h_11.first ((show tm_H M M_7 o 0 from ⟨fun x x1 _ => by rw [h_7, cq_up_row x1, h_2, cq_up_row x1], fun j j1 _ j3 => by rw [h_7, cq_up_k j3, h_2, cq_up_k j1], fun x x1 _ j _ => by rw [h_7, cq_up_a (by omega), h_2, cq_up_a (by omega)], fun j _ => by rw [h_7, cq_up_a (by omega), h_2, cq_up_a (by omega)]⟩).trans h_11.2.2.1) (by omega)
theorem hdVX7_isComplete : yX7_isComplete.cls = RX7 ∧ yX7_isComplete.cls ≠ "java/lang/invoke/MethodHandle" ∧ yX7_isComplete.cls ≠ "java/lang/invoke/VarHandle" ∧ (parseMethodDescriptor yX7_isComplete.desc).map (fun d => d.parameters.length) = some 0 := by decide +kernel
abbrev rmX7_firstError : Room := ({ frames := 6, cells := 0, slots := 0, locals := 128 })
set_option maxHeartbeats 4000000 in
set_option maxRecDepth 100000 in
theorem kX7_firstError (l : Launch) (D : va_G) (cA : Nat → ClassId) (X : cq_X) (Bs : Nat) (o B : Nat) (S : as_T) (M : cq_M) (ho : cq_isModel X o) (h : cm M o S) (hk : as_ok S B) : cq_C l yX7_firstError wsX7_firstError rmX7_firstError D cA X Bs [.ref o] M (cq_PI (fun r M1 => mq (op_error S) r M M1 o)) 0 0 := by
  refine cq_met (cc := cX7_firstError) (maxL := 1) (ret := (some .int)) (by decide) rfl (Nat.le_of_ble_eq_true rfl) [(0, .ref o)] rfl rfl ?_
  intro p9 e9 s9 m9 b9 t9 c9 F hr
  have inX7 : ∀ w ∈ wsX70, w ∈ wsX7_firstError := (fun w h => List.mem_cons_of_mem _ (List.mem_append_right _ h))
  have ht9 : tm_M M o (S_t S) (S_l S) := ⟨h.2.2.2.2.1, h.2.2.2.2.2, hk.2.2.2.1⟩
  refine cq_aload_n F (i := 0) dX7_firstError_0 rfl rfl ?_
  refine cq_iconst F (v := 0) dX7_firstError_1 rfl ?_
  refine cq_put F (C := RX7) (T := TX7) (N := 22) (ci := 8) ho.kind rfl ⟨⟨by decide, by decide⟩, rfl⟩ inX7 tyX7 tyX7_ok nmX7 6 (by decide) rfl rfl (F.1.2.2.2.2 _ (List.mem_of_getElem? (l := wsX7_firstError) (i := 1) (a := .fieldLink RX7 53 "CordClockModel" "thrown" "I") (by decide +kernel))) rfl (by rfl) (by rfl) dX7_firstError_2 (fun M_2 h_2 => ?_)
  refine cq_aload_n F (i := 0) dX7_firstError_5 rfl rfl ?_
  refine cq_callV F (C := RX7) (ci := 8) (kX7_isComplete l D cA X Bs o (S_l S) (S_t S) M_2 ho (ht9.ext (by rw [h_2, cq_up_k (by omega)]) (fun j => by rw [h_2, cq_up_a (by omega)])) hk.2.2.2.2.2.1) (cwV 0 F.1.2.2.2.2 gX7_firstError_X7_isComplete rfl rfl rfl hdVX7_isComplete ⟨Nat.le_of_ble_eq_true rfl, Nat.le_of_ble_eq_true rfl⟩) ho.kind ⟨by decide, by decide⟩ rfl rfl rfl (Nat.le_of_ble_eq_true rfl) dX7_firstError_6 ⟨Nat.le_of_ble_eq_true rfl, Nat.le_of_ble_eq_true rfl⟩ (cq_kI fun r_6 M_6 h_6 => ?_)
  refine cq_if_eq F (tgt := 19) dX7_firstError_9 (by decide) (fun c_9 => ?_) (fun c_9 => ?_)
  · have c_9 := cq_b0 h_6.1 c_9
    refine cq_aload_n F (i := 0) dX7_firstError_19 rfl rfl ?_
    refine cq_getI F (C := RX7) (T := TX7) (N := 22) (ci := 8) ho.kind rfl ⟨⟨by decide, by decide⟩, rfl⟩ inX7 9 (by decide) rfl rfl (F.1.2.2.2.2 _ (List.mem_of_getElem? (l := wsX7_firstError) (i := 3) (a := .fieldLink RX7 142 "CordClockModel" "spot" "I") (by decide +kernel))) dX7_firstError_20 ?_
    rw [show M_6 o 9 = nI ((tx_all (tx_s (S_t S) (S_l S)) 16 0).2.1) from (show M_6 o 9 = nI ((tx_all (tx_s (S_t S) (S_l S)) 16 0).2.1) from h_6.2.1.1)]
    exact cq_iret F hr (by decide) (by decide) dX7_firstError_23 ⟨_, rfl, (mq_q rfl (by first | rfl | exact congrArg nI c_9.2.symm) (by rw [h_6.2.2.2.2.1 6 (by omega) (by omega) (by omega), h_2]; exact cq_up_s _ _ _ _) (h.ext (fun x k1 k2 k3 => by rw [h_6.2.2.2.1 x (by omega) (by omega), h_2, cq_up_row (by omega)]) (by rw [h_6.2.2.2.2.1 2 (by omega) (by omega) (by omega), h_2, cq_up_k (by omega)]) (by rw [h_6.2.2.2.2.1 8 (by omega) (by omega) (by omega), h_2, cq_up_k (by omega)])) (fun x hx => by rw [h_6.2.2.2.1 x (by omega) (by omega), h_2, cq_up_row (by omega)]))⟩
  · have c_9 := cq_b1 h_6.1 c_9
    refine cq_aload_n F (i := 0) dX7_firstError_12 rfl rfl ?_
    refine cq_getI F (C := RX7) (T := TX7) (N := 22) (ci := 8) ho.kind rfl ⟨⟨by decide, by decide⟩, rfl⟩ inX7 8 (by decide) rfl rfl (F.1.2.2.2.2 _ (List.mem_of_getElem? (l := wsX7_firstError) (i := 2) (a := .fieldLink RX7 139 "CordClockModel" "length" "I") (by decide +kernel))) dX7_firstError_13 ?_
    rw [show M_6 o 8 = nI (S_l S) from (show M_6 o 8 = nI (S_l S) from (by rw [h_6.2.2.2.2.1 8 (by omega) (by omega) (by omega), h_2, cq_up_k (by omega)]; exact ht9.1))]
    refine cq_goto F (tgt := 23) dX7_firstError_16 (by decide) ?_
    exact cq_iret F hr (by decide) (by decide) dX7_firstError_23 ⟨_, rfl, (mq_q rfl (by first | rfl | exact congrArg nI c_9.2.symm) (by rw [h_6.2.2.2.2.1 6 (by omega) (by omega) (by omega), h_2]; exact cq_up_s _ _ _ _) (h.ext (fun x k1 k2 k3 => by rw [h_6.2.2.2.1 x (by omega) (by omega), h_2, cq_up_row (by omega)]) (by rw [h_6.2.2.2.2.1 2 (by omega) (by omega) (by omega), h_2, cq_up_k (by omega)]) (by rw [h_6.2.2.2.2.1 8 (by omega) (by omega) (by omega), h_2, cq_up_k (by omega)])) (fun x hx => by rw [h_6.2.2.2.1 x (by omega) (by omega), h_2, cq_up_row (by omega)]))⟩
theorem hdVX7_firstError : yX7_firstError.cls = RX7 ∧ yX7_firstError.cls ≠ "java/lang/invoke/MethodHandle" ∧ yX7_firstError.cls ≠ "java/lang/invoke/VarHandle" ∧ (parseMethodDescriptor yX7_firstError.desc).map (fun d => d.parameters.length) = some 0 := by decide +kernel
