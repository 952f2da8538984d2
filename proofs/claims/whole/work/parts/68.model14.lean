/-! CordClockModel: all orders of a text -/
def tm_H (M M1 : cq_M) (o k : Nat) : Prop := (∀ x, x ≠ o → (x < o + 7 ∨ o + 12 ≤ x) → M1 x = M x) ∧ (∀ j, j ≠ 9 → j ≠ 10 → j ≠ 11 → M1 o j = M o j) ∧ (∀ x, o + 7 ≤ x → x < o + 11 → ∀ j, j < k → M1 x j = M x j) ∧ ∀ j, j < 6 * k → M1 (o + 11) j = M (o + 11) j
theorem tm_G.H {M M1 : cq_M} {o k : Nat} (h : tm_G M M1 o k) : tm_H M M1 o k := ⟨h.1, fun j j1 j2 _ => h.2.1 j j1 j2, h.2.2.1, h.2.2.2⟩
theorem tm_H.trans {M M1 M2 : cq_M} {o k : Nat} (h : tm_H M M1 o k) (h2 : tm_H M1 M2 o k) : tm_H M M2 o k := ⟨fun x hx x2 => by rw [h2.1 x hx x2, h.1 x hx x2], fun j j1 j2 j3 => by rw [h2.2.1 j j1 j2 j3, h.2.1 j j1 j2 j3], fun x x1 x2 j hj => by rw [h2.2.2.1 x x1 x2 j hj, h.2.2.1 x x1 x2 j hj], fun j hj => by rw [h2.2.2.2 j hj, h.2.2.2 j hj]⟩
theorem tm_H.less {M M1 : cq_M} {o k k' : Nat} (h : tm_H M M1 o k) (hk : k' ≤ k) : tm_H M M1 o k' := ⟨h.1, h.2.1, fun x x1 x2 j hj => h.2.2.1 x x1 x2 j (by omega), fun j hj => h.2.2.2 j (by omega)⟩
theorem tm_H.m {M M1 : cq_M} {o k len : Nat} {t : Nat → Nat} (h : tm_H M M1 o k) (hm : tm_M M o t len) : tm_M M1 o t len := hm.ext (h.2.1 8 (by omega) (by omega) (by omega)) (fun j => by rw [h.1 _ (by omega) (by omega)])
def tm_ent (M : cq_M) (o k : Nat) (q : tx_O) : Prop := tm_rec M o k q ∧ M (o + 7) k = nI (tx_let q.1)
theorem tm_H.ent {M M1 : cq_M} {o k j : Nat} {q : tx_O} (h : tm_H M M1 o k) (hj : j < k) (hq : q.2.1 ≤ 6 ∨ q.1 ≠ 0) (he : tm_ent M o j q) : tm_ent M1 o j q := by
  obtain ⟨⟨a1, a2, a3, a4⟩, a5⟩ := he
  refine ⟨⟨by rw [h.2.2.1 _ (by omega) (by omega) j hj]; exact a1, fun z => by rw [h.2.2.1 _ (by omega) (by omega) j hj]; exact a2 z, fun z => by rw [h.2.2.1 _ (by omega) (by omega) j hj]; exact a3 z, fun z => ⟨(a4 z).1, fun i hi => by rw [h.2.2.2 _ (by have := hq.resolve_right (fun n => n z); omega)]; exact (a4 z).2 i hi⟩⟩, by rw [h.2.2.1 _ (by omega) (by omega) j hj]; exact a5⟩
def tm_Q (M M1 : cq_M) (o k : Nat) (R : tx_R) (r : Int32) : Prop := r = (if R.1 = true then 1 else 0) ∧ (M1 o 9 = nI R.2.1 ∧ R.2.1 ≤ 60) ∧ tm_H M M1 o k ∧ M1 o 11 = nI (if R.1 = true then k + 1 else k) ∧ (R.1 = true → tm_ent M1 o k R.2.2)
theorem tm_P.fin0 {M M1 : cq_M} {o k : Nat} {R : tx_R} {r r' : Int32} (h : tm_P M M1 o k R r) (hr : ¬ R.1 = true) (h11 : M o 11 = nI k) (hr' : r' = 0) : tm_Q M M1 o k R r' := by
  refine ⟨by rw [if_neg hr]; exact hr', h.2.1, h.2.2.1.H, ?_, fun z => absurd z hr⟩
  rw [if_neg hr]
  exact h.2.2.1.o11 h11
theorem tm_P.fin1 {M M1 M2 M3 : cq_M} {o k c : Nat} {R : tx_R} {r r' : Int32} (h : tm_P M M1 o k R r) (hr : R.1 = true) (hr' : r' = 1) (hl : c = tx_let R.2.2.1) (h2 : M2 = cq_up M1 (o + 7) k (nI c)) (h3 : M3 = cq_up M2 o 11 (nI (k + 1))) : tm_Q M M3 o k R r' := by
  have hG : tm_G M M2 o k := h.2.2.1.up h2 (Or.inl ⟨by omega, by omega, Nat.le_refl _⟩)
  have e : ∀ x, x ≠ o → x ≠ o + 7 → M3 x = M1 x := fun x x1 x2 => by rw [h3, cq_up_row x1, h2, cq_up_row x2]
  refine ⟨by rw [if_pos hr]; exact hr', ⟨by rw [h3, cq_up_k (by omega), h2, cq_up_a (by omega)]; exact h.2.1.1, h.2.1.2⟩, hG.H.trans ⟨fun x x1 _ => by rw [h3, cq_up_row x1], fun j _ _ j3 => by rw [h3, cq_up_k j3], fun x x1 _ j _ => by rw [h3, cq_up_a (by omega)], fun j _ => by rw [h3, cq_up_a (by omega)]⟩, ?_, fun z => ?_⟩
  · rw [if_pos hr, h3]; exact cq_up_s _ _ _ _
  · obtain ⟨a1, a2, a3, a4⟩ := h.2.2.2 z
    refine ⟨⟨by rw [e _ (by omega) (by omega)]; exact a1, fun y => by rw [e _ (by omega) (by omega)]; exact a2 y, fun y => by rw [e _ (by omega) (by omega)]; exact a3 y, fun y => ⟨(a4 y).1, fun i hi => by rw [e _ (by omega) (by omega)]; exact (a4 y).2 i hi⟩⟩, ?_⟩
    rw [h3, cq_up_a (by omega), h2, cq_up_s, hl]
abbrev rmX7_readsOrder : Room := ({ frames := 4, cells := 0, slots := 0, locals := 85 })
set_option maxHeartbeats 4000000 in
set_option maxRecDepth 100000 in
theorem kX7_readsOrder (l : Launch) (D : va_G) (cA : Nat → ClassId) (X : cq_X) (Bs : Nat) (o len p k : Nat) (t : Nat → Nat) (M : cq_M) (ho : cq_isModel X o) (hm : tm_M M o t len) (hlen : len ≤ 60) (hp : M o 9 = nI p) (hp9 : p ≤ 60) (h11 : M o 11 = nI k) (hk : k ≤ 10) : cq_C l yX7_readsOrder wsX7_readsOrder rmX7_readsOrder D cA X Bs [.ref o] M (cq_PI (fun r M1 => tm_Q M M1 o k (tx_ord (tx_s t len) p) r)) 0 0 := by
  refine cq_met (cc := cX7_readsOrder) (maxL := 3) (ret := (some .boolean)) (by decide) rfl (Nat.le_of_ble_eq_true rfl) [(0, .ref o)] rfl rfl ?_
  intro p9 e9 s9 m9 b9 t9 c9 F hr
  have inX7 : ∀ w ∈ wsX70, w ∈ wsX7_readsOrder := (fun w h => List.mem_cons_of_mem _ (List.mem_append_right _ h))
  have hs9 := hm.s p
  refine cq_aload_n F (i := 0) dX7_readsOrder_0 rfl rfl ?_
  refine cq_callV F (C := RX7) (ci := 8) (kX7_sign l D cA X Bs o len (p) t M ho hm hlen hp hp9) (cwV 0 F.1.2.2.2.2 gX7_readsOrder_X7_sign rfl rfl rfl hdVX7_sign ⟨Nat.le_of_ble_eq_true rfl, Nat.le_of_ble_eq_true rfl⟩) ho.kind ⟨by decide, by decide⟩ rfl rfl rfl (Nat.le_of_ble_eq_true rfl) dX7_readsOrder_1 ⟨Nat.le_of_ble_eq_true rfl, Nat.le_of_ble_eq_true rfl⟩ (cq_kIp fun r_1 h_1 => ?_)
  subst h_1
  refine cq_istore_n F (i := 1) dX7_readsOrder_4 rfl (by decide) ?_
  refine cq_iload_n F (i := 1) dX7_readsOrder_5 rfl rfl ?_
  refine cq_bipush F (v := 110) dX7_readsOrder_6 (by decide) ?_
  refine cq_icmp_ne F (tgt := 18) dX7_readsOrder_8 (by decide) (fun c_8 => ?_) (fun c_8 => ?_)
  · have c_8 : ¬ (tx_s t len (p)) = 110 := fun z => c_8 ((nI_b (a := (tx_s t len (p))) (b := 110) (by omega) (by omega)).2.2.mpr z)
    refine cq_iload_n F (i := 1) dX7_readsOrder_18 rfl rfl ?_
    refine cq_bipush F (v := 108) dX7_readsOrder_19 (by decide) ?_
    refine cq_icmp_ne F (tgt := 31) dX7_readsOrder_21 (by decide) (fun c_21 => ?_) (fun c_21 => ?_)
    · have c_21 : ¬ (tx_s t len (p)) = 108 := fun z => c_21 ((nI_b (a := (tx_s t len (p))) (b := 108) (by omega) (by omega)).2.2.mpr z)
      refine cq_iload_n F (i := 1) dX7_readsOrder_31 rfl rfl ?_
      refine cq_bipush F (v := 119) dX7_readsOrder_32 (by decide) ?_
      refine cq_icmp_ne F (tgt := 44) dX7_readsOrder_34 (by decide) (fun c_34 => ?_) (fun c_34 => ?_)
      · have c_34 : ¬ (tx_s t len (p)) = 119 := fun z => c_34 ((nI_b (a := (tx_s t len (p))) (b := 119) (by omega) (by omega)).2.2.mpr z)
        refine cq_iload_n F (i := 1) dX7_readsOrder_44 rfl rfl ?_
        refine cq_bipush F (v := 114) dX7_readsOrder_45 (by decide) ?_
        refine cq_icmp_ne F (tgt := 61) dX7_readsOrder_47 (by decide) (fun c_47 => ?_) (fun c_47 => ?_)
        · have c_47 : ¬ (tx_s t len (p)) = 114 := fun z => c_47 ((nI_b (a := (tx_s t len (p))) (b := 114) (by omega) (by omega)).2.2.mpr z)
          refine cq_iconst F (v := 0) dX7_readsOrder_61 rfl ?_
          refine cq_istore_n F (i := 2) dX7_readsOrder_62 rfl (by decide) ?_
          refine cq_iload_n F (i := 2) dX7_readsOrder_63 rfl rfl ?_
          refine cq_if_eq F (tgt := 87) dX7_readsOrder_64 (by decide) (fun c_64 => ?_) (fun c_64 => ?_)
          · have c_64 : 0 = 0 := (nI_b (a := 0) (b := 0) (by omega) (by omega)).2.2.mp c_64
            refine cq_iload_n F (i := 2) dX7_readsOrder_87 rfl rfl ?_
            refine cq_zret F hr (by first | rfl | exact cq_zn (by rw [h_12.1]; split <;> simp) | exact cq_zn (by rw [h_25.1]; split <;> simp) | exact cq_zn (by rw [h_38.1]; split <;> simp)) (by decide) (by decide) dX7_readsOrder_88 ⟨_, rfl, ?_⟩
            have eR : tx_ord (tx_s t len) p = (false, p, tx_no) := by unfold tx_ord; rw [if_neg c_8, if_neg c_21, if_neg c_34, if_neg c_47]
            rw [eR]
            exact ⟨rfl, ⟨hp, hp9⟩, tm_G.rf.H, h11, fun z => absurd (show false = true from z) (by decide)⟩
          · have c_64 : ¬ 0 = 0 := fun z => c_64 ((nI_b (a := 0) (b := 0) (by omega) (by omega)).2.2.mpr z)
            omega
        · have c_47 : (tx_s t len (p)) = 114 := (nI_b (a := (tx_s t len (p))) (b := 114) (by omega) (by omega)).2.2.mp c_47
          refine cq_aload_n F (i := 0) dX7_readsOrder_50 rfl rfl ?_
          refine cq_callV F (C := RX7) (ci := 8) (kX7_readsRun l D cA X Bs o len p k t M ho hm hlen hp hp9 h11 hk) (cwV 0 F.1.2.2.2.2 gX7_readsOrder_X7_readsRun rfl rfl rfl hdVX7_readsRun ⟨Nat.le_of_ble_eq_true rfl, Nat.le_of_ble_eq_true rfl⟩) ho.kind ⟨by decide, by decide⟩ rfl rfl rfl (Nat.le_of_ble_eq_true rfl) dX7_readsOrder_51 ⟨Nat.le_of_ble_eq_true rfl, Nat.le_of_ble_eq_true rfl⟩ (cq_kI fun r_51 M_51 h_51 => ?_)
          refine cq_if_eq F (tgt := 61) dX7_readsOrder_54 (by decide) (fun c_54 => ?_) (fun c_54 => ?_)
          · have c_54 := cq_b0 h_51.1 c_54
            refine cq_iconst F (v := 0) dX7_readsOrder_61 rfl ?_
            refine cq_istore_n F (i := 2) dX7_readsOrder_62 rfl (by decide) ?_
            refine cq_iload_n F (i := 2) dX7_readsOrder_63 rfl rfl ?_
            refine cq_if_eq F (tgt := 87) dX7_readsOrder_64 (by decide) (fun c_64 => ?_) (fun c_64 => ?_)
            · have c_64 : 0 = 0 := (nI_b (a := 0) (b := 0) (by omega) (by omega)).2.2.mp c_64
              refine cq_iload_n F (i := 2) dX7_readsOrder_87 rfl rfl ?_
              refine cq_zret F hr (by first | rfl | exact cq_zn (by rw [h_12.1]; split <;> simp) | exact cq_zn (by rw [h_25.1]; split <;> simp) | exact cq_zn (by rw [h_38.1]; split <;> simp)) (by decide) (by decide) dX7_readsOrder_88 ⟨_, rfl, ?_⟩
              have eR : tx_ord (tx_s t len) p = tx_w (tx_s t len) [114, 117, 110, 58] tx_run p := by unfold tx_ord; rw [if_neg c_8, if_neg c_21, if_neg c_34, if_pos c_47]
              rw [← eR] at h_51
              have hR9 : ¬ (tx_ord (tx_s t len) p).1 = true := by rw [eR]; exact c_54
              exact h_51.fin0 hR9 h11 (by first | rfl | (rw [h_51.1]; exact if_neg hR9))
            · have c_64 : ¬ 0 = 0 := fun z => c_64 ((nI_b (a := 0) (b := 0) (by omega) (by omega)).2.2.mpr z)
              omega
          · have c_54 := cq_b1 h_51.1 c_54
            refine cq_iconst F (v := 1) dX7_readsOrder_57 rfl ?_
            refine cq_goto F (tgt := 62) dX7_readsOrder_58 (by decide) ?_
            refine cq_istore_n F (i := 2) dX7_readsOrder_62 rfl (by decide) ?_
            refine cq_iload_n F (i := 2) dX7_readsOrder_63 rfl rfl ?_
            refine cq_if_eq F (tgt := 87) dX7_readsOrder_64 (by decide) (fun c_64 => ?_) (fun c_64 => ?_)
            · have c_64 : 1 = 0 := (nI_b (a := 1) (b := 0) (by omega) (by omega)).2.2.mp c_64
              omega
            · have c_64 : ¬ 1 = 0 := fun z => c_64 ((nI_b (a := 1) (b := 0) (by omega) (by omega)).2.2.mpr z)
              refine cq_aload_n F (i := 0) dX7_readsOrder_67 rfl rfl ?_
              refine cq_getT (t := (o + 7)) F (C := RX7) (T := TX7) (N := 22) (ci := 8) ho.kind rfl ⟨⟨by decide, by decide⟩, rfl⟩ inX7 12 (by decide) rfl rfl ho.t12 (F.1.2.2.2.2 _ (List.mem_of_getElem? (l := wsX7_readsOrder) (i := 1) (a := .fieldLink RX7 29 "CordClockModel" "letter" "[I") (by decide +kernel))) dX7_readsOrder_68 ?_
              refine cq_aload_n F (i := 0) dX7_readsOrder_71 rfl rfl ?_
              refine cq_getI F (C := RX7) (T := TX7) (N := 22) (ci := 8) ho.kind rfl ⟨⟨by decide, by decide⟩, rfl⟩ inX7 11 (by decide) rfl rfl (F.1.2.2.2.2 _ (List.mem_of_getElem? (l := wsX7_readsOrder) (i := 2) (a := .fieldLink RX7 151 "CordClockModel" "orders" "I") (by decide +kernel))) dX7_readsOrder_72 ?_
              rw [show M_51 o 11 = nI (k) from (show M_51 o 11 = nI (k) from (h_51.2.2.1.o11 h11))]
              refine cq_iload_n F (i := 1) dX7_readsOrder_75 rfl rfl ?_
              refine cq_iast_j F (j := k) ho.k7 ho.n7 rfl ⟨(by omega), by decide⟩ dX7_readsOrder_76 (fun M_76 h_76 => ?_)
              refine cq_aload_n F (i := 0) dX7_readsOrder_77 rfl rfl ?_
              refine cq_dup F dX7_readsOrder_78 rfl ?_
              refine cq_getI F (C := RX7) (T := TX7) (N := 22) (ci := 8) ho.kind rfl ⟨⟨by decide, by decide⟩, rfl⟩ inX7 11 (by decide) rfl rfl (F.1.2.2.2.2 _ (List.mem_of_getElem? (l := wsX7_readsOrder) (i := 2) (a := .fieldLink RX7 151 "CordClockModel" "orders" "I") (by decide +kernel))) dX7_readsOrder_79 ?_
              rw [show M_76 o 11 = nI (k) from (show M_76 o 11 = nI (k) from (by rw [h_76, cq_up_a (by omega)]; exact (h_51.2.2.1.o11 h11)))]
              refine cq_iconst F (v := 1) dX7_readsOrder_82 rfl ?_
              refine cq_iadd F dX7_readsOrder_83 ?_
              rw [show (nI k + 1 : Int32) = nI (k + 1) from nI_add _ _]
              refine cq_put F (C := RX7) (T := TX7) (N := 22) (ci := 8) ho.kind rfl ⟨⟨by decide, by decide⟩, rfl⟩ inX7 tyX7 tyX7_ok nmX7 11 (by decide) rfl rfl (F.1.2.2.2.2 _ (List.mem_of_getElem? (l := wsX7_readsOrder) (i := 2) (a := .fieldLink RX7 151 "CordClockModel" "orders" "I") (by decide +kernel))) rfl (by rfl) (by rfl) dX7_readsOrder_84 (fun M_84 h_84 => ?_)
              refine cq_iload_n F (i := 2) dX7_readsOrder_87 rfl rfl ?_
              refine cq_zret F hr (by first | rfl | exact cq_zn (by rw [h_12.1]; split <;> simp) | exact cq_zn (by rw [h_25.1]; split <;> simp) | exact cq_zn (by rw [h_38.1]; split <;> simp)) (by decide) (by decide) dX7_readsOrder_88 ⟨_, rfl, ?_⟩
              have eR : tx_ord (tx_s t len) p = tx_w (tx_s t len) [114, 117, 110, 58] tx_run p := by unfold tx_ord; rw [if_neg c_8, if_neg c_21, if_neg c_34, if_pos c_47]
              rw [← eR] at h_51
              have hR9 : (tx_ord (tx_s t len) p).1 = true := by rw [eR]; exact c_54
              exact h_51.fin1 hR9 (by first | rfl | (rw [h_51.1]; exact if_pos hR9)) (tx_ord_ok hR9).2.2 h_76 h_84
      · have c_34 : (tx_s t len (p)) = 119 := (nI_b (a := (tx_s t len (p))) (b := 119) (by omega) (by omega)).2.2.mp c_34
        refine cq_aload_n F (i := 0) dX7_readsOrder_37 rfl rfl ?_
        refine cq_callV F (C := RX7) (ci := 8) (kX7_readsWhen l D cA X Bs o len p k t M ho hm hlen hp hp9 h11 hk) (cwV 0 F.1.2.2.2.2 gX7_readsOrder_X7_readsWhen rfl rfl rfl hdVX7_readsWhen ⟨Nat.le_of_ble_eq_true rfl, Nat.le_of_ble_eq_true rfl⟩) ho.kind ⟨by decide, by decide⟩ rfl rfl rfl (Nat.le_of_ble_eq_true rfl) dX7_readsOrder_38 ⟨Nat.le_of_ble_eq_true rfl, Nat.le_of_ble_eq_true rfl⟩ (cq_kI fun r_38 M_38 h_38 => ?_)
        refine cq_goto F (tgt := 62) dX7_readsOrder_41 (by decide) ?_
        refine cq_istore_n F (i := 2) dX7_readsOrder_62 rfl (by decide) ?_
        refine cq_iload_n F (i := 2) dX7_readsOrder_63 rfl rfl ?_
        refine cq_if_eq F (tgt := 87) dX7_readsOrder_64 (by decide) (fun c_64 => ?_) (fun c_64 => ?_)
        · have c_64 := cq_b0 h_38.1 c_64
          refine cq_iload_n F (i := 2) dX7_readsOrder_87 rfl rfl ?_
          refine cq_zret F hr (by first | rfl | exact cq_zn (by rw [h_12.1]; split <;> simp) | exact cq_zn (by rw [h_25.1]; split <;> simp) | exact cq_zn (by rw [h_38.1]; split <;> simp)) (by decide) (by decide) dX7_readsOrder_88 ⟨_, rfl, ?_⟩
          have eR : tx_ord (tx_s t len) p = tx_w (tx_s t len) [119, 104, 101, 110, 58] tx_when p := by unfold tx_ord; rw [if_neg c_8, if_neg c_21, if_pos c_34]
          rw [← eR] at h_38
          have hR9 : ¬ (tx_ord (tx_s t len) p).1 = true := by rw [eR]; exact c_64
          exact h_38.fin0 hR9 h11 (by first | rfl | (rw [h_38.1]; exact if_neg hR9))
        · have c_64 := cq_b1 h_38.1 c_64
          refine cq_aload_n F (i := 0) dX7_readsOrder_67 rfl rfl ?_
          refine cq_getT (t := (o + 7)) F (C := RX7) (T := TX7) (N := 22) (ci := 8) ho.kind rfl ⟨⟨by decide, by decide⟩, rfl⟩ inX7 12 (by decide) rfl rfl ho.t12 (F.1.2.2.2.2 _ (List.mem_of_getElem? (l := wsX7_readsOrder) (i := 1) (a := .fieldLink RX7 29 "CordClockModel" "letter" "[I") (by decide +kernel))) dX7_readsOrder_68 ?_
          refine cq_aload_n F (i := 0) dX7_readsOrder_71 rfl rfl ?_
          refine cq_getI F (C := RX7) (T := TX7) (N := 22) (ci := 8) ho.kind rfl ⟨⟨by decide, by decide⟩, rfl⟩ inX7 11 (by decide) rfl rfl (F.1.2.2.2.2 _ (List.mem_of_getElem? (l := wsX7_readsOrder) (i := 2) (a := .fieldLink RX7 151 "CordClockModel" "orders" "I") (by decide +kernel))) dX7_readsOrder_72 ?_
          rw [show M_38 o 11 = nI (k) from (show M_38 o 11 = nI (k) from (h_38.2.2.1.o11 h11))]
          refine cq_iload_n F (i := 1) dX7_readsOrder_75 rfl rfl ?_
          refine cq_iast_j F (j := k) ho.k7 ho.n7 rfl ⟨(by omega), by decide⟩ dX7_readsOrder_76 (fun M_76 h_76 => ?_)
          refine cq_aload_n F (i := 0) dX7_readsOrder_77 rfl rfl ?_
          refine cq_dup F dX7_readsOrder_78 rfl ?_
          refine cq_getI F (C := RX7) (T := TX7) (N := 22) (ci := 8) ho.kind rfl ⟨⟨by decide, by decide⟩, rfl⟩ inX7 11 (by decide) rfl rfl (F.1.2.2.2.2 _ (List.mem_of_getElem? (l := wsX7_readsOrder) (i := 2) (a := .fieldLink RX7 151 "CordClockModel" "orders" "I") (by decide +kernel))) dX7_readsOrder_79 ?_
          rw [show M_76 o 11 = nI (k) from (show M_76 o 11 = nI (k) from (by rw [h_76, cq_up_a (by omega)]; exact (h_38.2.2.1.o11 h11)))]
          refine cq_iconst F (v := 1) dX7_readsOrder_82 rfl ?_
          refine cq_iadd F dX7_readsOrder_83 ?_
          rw [show (nI k + 1 : Int32) = nI (k + 1) from nI_add _ _]
          refine cq_put F (C := RX7) (T := TX7) (N := 22) (ci := 8) ho.kind rfl ⟨⟨by decide, by decide⟩, rfl⟩ inX7 tyX7 tyX7_ok nmX7 11 (by decide) rfl rfl (F.1.2.2.2.2 _ (List.mem_of_getElem? (l := wsX7_readsOrder) (i := 2) (a := .fieldLink RX7 151 "CordClockModel" "orders" "I") (by decide +kernel))) rfl (by rfl) (by rfl) dX7_readsOrder_84 (fun M_84 h_84 => ?_)
          refine cq_iload_n F (i := 2) dX7_readsOrder_87 rfl rfl ?_
          refine cq_zret F hr (by first | rfl | exact cq_zn (by rw [h_12.1]; split <;> simp) | exact cq_zn (by rw [h_25.1]; split <;> simp) | exact cq_zn (by rw [h_38.1]; split <;> simp)) (by decide) (by decide) dX7_readsOrder_88 ⟨_, rfl, ?_⟩
          have eR : tx_ord (tx_s t len) p = tx_w (tx_s t len) [119, 104, 101, 110, 58] tx_when p := by unfold tx_ord; rw [if_neg c_8, if_neg c_21, if_pos c_34]
          rw [← eR] at h_38
          have hR9 : (tx_ord (tx_s t len) p).1 = true := by rw [eR]; exact c_64
          exact h_38.fin1 hR9 (by first | rfl | (rw [h_38.1]; exact if_pos hR9)) (tx_ord_ok hR9).2.2 h_76 h_84
    · have c_21 : (tx_s t len (p)) = 108 := (nI_b (a := (tx_s t len (p))) (b := 108) (by omega) (by omega)).2.2.mp c_21
      refine cq_aload_n F (i := 0) dX7_readsOrder_24 rfl rfl ?_
      refine cq_callV F (C := RX7) (ci := 8) (kX7_readsLit l D cA X Bs o len p k t M ho hm hlen hp hp9 h11 hk) (cwV 0 F.1.2.2.2.2 gX7_readsOrder_X7_readsLit rfl rfl rfl hdVX7_readsLit ⟨Nat.le_of_ble_eq_true rfl, Nat.le_of_ble_eq_true rfl⟩) ho.kind ⟨by decide, by decide⟩ rfl rfl rfl (Nat.le_of_ble_eq_true rfl) dX7_readsOrder_25 ⟨Nat.le_of_ble_eq_true rfl, Nat.le_of_ble_eq_true rfl⟩ (cq_kI fun r_25 M_25 h_25 => ?_)
      refine cq_goto F (tgt := 62) dX7_readsOrder_28 (by decide) ?_
      refine cq_istore_n F (i := 2) dX7_readsOrder_62 rfl (by decide) ?_
      refine cq_iload_n F (i := 2) dX7_readsOrder_63 rfl rfl ?_
      refine cq_if_eq F (tgt := 87) dX7_readsOrder_64 (by decide) (fun c_64 => ?_) (fun c_64 => ?_)
      · have c_64 := cq_b0 h_25.1 c_64
        refine cq_iload_n F (i := 2) dX7_readsOrder_87 rfl rfl ?_
        refine cq_zret F hr (by first | rfl | exact cq_zn (by rw [h_12.1]; split <;> simp) | exact cq_zn (by rw [h_25.1]; split <;> simp) | exact cq_zn (by rw [h_38.1]; split <;> simp)) (by decide) (by decide) dX7_readsOrder_88 ⟨_, rfl, ?_⟩
        have eR : tx_ord (tx_s t len) p = tx_w (tx_s t len) [108, 105, 116, 58] tx_lit p := by unfold tx_ord; rw [if_neg c_8, if_pos c_21]
        rw [← eR] at h_25
        have hR9 : ¬ (tx_ord (tx_s t len) p).1 = true := by rw [eR]; exact c_64
        exact h_25.fin0 hR9 h11 (by first | rfl | (rw [h_25.1]; exact if_neg hR9))
      · have c_64 := cq_b1 h_25.1 c_64
        refine cq_aload_n F (i := 0) dX7_readsOrder_67 rfl rfl ?_
        refine cq_getT (t := (o + 7)) F (C := RX7) (T := TX7) (N := 22) (ci := 8) ho.kind rfl ⟨⟨by decide, by decide⟩, rfl⟩ inX7 12 (by decide) rfl rfl ho.t12 (F.1.2.2.2.2 _ (List.mem_of_getElem? (l := wsX7_readsOrder) (i := 1) (a := .fieldLink RX7 29 "CordClockModel" "letter" "[I") (by decide +kernel))) dX7_readsOrder_68 ?_
        refine cq_aload_n F (i := 0) dX7_readsOrder_71 rfl rfl ?_
        refine cq_getI F (C := RX7) (T := TX7) (N := 22) (ci := 8) ho.kind rfl ⟨⟨by decide, by decide⟩, rfl⟩ inX7 11 (by decide) rfl rfl (F.1.2.2.2.2 _ (List.mem_of_getElem? (l := wsX7_readsOrder) (i := 2) (a := .fieldLink RX7 151 "CordClockModel" "orders" "I") (by decide +kernel))) dX7_readsOrder_72 ?_
        rw [show M_25 o 11 = nI (k) from (show M_25 o 11 = nI (k) from (h_25.2.2.1.o11 h11))]
        refine cq_iload_n F (i := 1) dX7_readsOrder_75 rfl rfl ?_
        refine cq_iast_j F (j := k) ho.k7 ho.n7 rfl ⟨(by omega), by decide⟩ dX7_readsOrder_76 (fun M_76 h_76 => ?_)
        refine cq_aload_n F (i := 0) dX7_readsOrder_77 rfl rfl ?_
        refine cq_dup F dX7_readsOrder_78 rfl ?_
        refine cq_getI F (C := RX7) (T := TX7) (N := 22) (ci := 8) ho.kind rfl ⟨⟨by decide, by decide⟩, rfl⟩ inX7 11 (by decide) rfl rfl (F.1.2.2.2.2 _ (List.mem_of_getElem? (l := wsX7_readsOrder) (i := 2) (a := .fieldLink RX7 151 "CordClockModel" "orders" "I") (by decide +kernel))) dX7_readsOrder_79 ?_
        rw [show M_76 o 11 = nI (k) from (show M_76 o 11 = nI (k) from (by rw [h_76, cq_up_a (by omega)]; exact (h_25.2.2.1.o11 h11)))]
        refine cq_iconst F (v := 1) dX7_readsOrder_82 rfl ?_
        refine cq_iadd F dX7_readsOrder_83 ?_
        rw [show (nI k + 1 : Int32) = nI (k + 1) from nI_add _ _]
        refine cq_put F (C := RX7) (T := TX7) (N := 22) (ci := 8) ho.kind rfl ⟨⟨by decide, by decide⟩, rfl⟩ inX7 tyX7 tyX7_ok nmX7 11 (by decide) rfl rfl (F.1.2.2.2.2 _ (List.mem_of_getElem? (l := wsX7_readsOrder) (i := 2) (a := .fieldLink RX7 151 "CordClockModel" "orders" "I") (by decide +kernel))) rfl (by rfl) (by rfl) dX7_readsOrder_84 (fun M_84 h_84 => ?_)
        refine cq_iload_n F (i := 2) dX7_readsOrder_87 rfl rfl ?_
        refine cq_zret F hr (by first | rfl | exact cq_zn (by rw [h_12.1]; split <;> simp) | exact cq_zn (by rw [h_25.1]; split <;> simp) | exact cq_zn (by rw [h_38.1]; split <;> simp)) (by decide) (by decide) dX7_readsOrder_88 ⟨_, rfl, ?_⟩
        have eR : tx_ord (tx_s t len) p = tx_w (tx_s t len) [108, 105, 116, 58] tx_lit p := by unfold tx_ord; rw [if_neg c_8, if_pos c_21]
        rw [← eR] at h_25
        have hR9 : (tx_ord (tx_s t len) p).1 = true := by rw [eR]; exact c_64
        exact h_25.fin1 hR9 (by first | rfl | (rw [h_25.1]; exact if_pos hR9)) (tx_ord_ok hR9).2.2 h_76 h_84
  · have c_8 : (tx_s t len (p)) = 110 := (nI_b (a := (tx_s t len (p))) (b := 110) (by omega) (by omega)).2.2.mp c_8
    refine cq_aload_n F (i := 0) dX7_readsOrder_11 rfl rfl ?_
    refine cq_callV F (C := RX7) (ci := 8) (kX7_readsNew l D cA X Bs o len p k t M ho hm hlen hp hp9 h11 hk) (cwV 0 F.1.2.2.2.2 gX7_readsOrder_X7_readsNew rfl rfl rfl hdVX7_readsNew ⟨Nat.le_of_ble_eq_true rfl, Nat.le_of_ble_eq_true rfl⟩) ho.kind ⟨by decide, by decide⟩ rfl rfl rfl (Nat.le_of_ble_eq_true rfl) dX7_readsOrder_12 ⟨Nat.le_of_ble_eq_true rfl, Nat.le_of_ble_eq_true rfl⟩ (cq_kI fun r_12 M_12 h_12 => ?_)
    refine cq_goto F (tgt := 62) dX7_readsOrder_15 (by decide) ?_
    refine cq_istore_n F (i := 2) dX7_readsOrder_62 rfl (by decide) ?_
    refine cq_iload_n F (i := 2) dX7_readsOrder_63 rfl rfl ?_
    refine cq_if_eq F (tgt := 87) dX7_readsOrder_64 (by decide) (fun c_64 => ?_) (fun c_64 => ?_)
    · have c_64 := cq_b0 h_12.1 c_64
      refine cq_iload_n F (i := 2) dX7_readsOrder_87 rfl rfl ?_
      refine cq_zret F hr (by first | rfl | exact cq_zn (by rw [h_12.1]; split <;> simp) | exact cq_zn (by rw [h_25.1]; split <;> simp) | exact cq_zn (by rw [h_38.1]; split <;> simp)) (by decide) (by decide) dX7_readsOrder_88 ⟨_, rfl, ?_⟩
      have eR : tx_ord (tx_s t len) p = tx_w (tx_s t len) [110, 101, 119, 58] tx_new p := by unfold tx_ord; rw [if_pos c_8]
      rw [← eR] at h_12
      have hR9 : ¬ (tx_ord (tx_s t len) p).1 = true := by rw [eR]; exact c_64
      exact h_12.fin0 hR9 h11 (by first | rfl | (rw [h_12.1]; exact if_neg hR9))
    · have c_64 := cq_b1 h_12.1 c_64
      refine cq_aload_n F (i := 0) dX7_readsOrder_67 rfl rfl ?_
      refine cq_getT (t := (o + 7)) F (C := RX7) (T := TX7) (N := 22) (ci := 8) ho.kind rfl ⟨⟨by decide, by decide⟩, rfl⟩ inX7 12 (by decide) rfl rfl ho.t12 (F.1.2.2.2.2 _ (List.mem_of_getElem? (l := wsX7_readsOrder) (i := 1) (a := .fieldLink RX7 29 "CordClockModel" "letter" "[I") (by decide +kernel))) dX7_readsOrder_68 ?_
      refine cq_aload_n F (i := 0) dX7_readsOrder_71 rfl rfl ?_
      refine cq_getI F (C := RX7) (T := TX7) (N := 22) (ci := 8) ho.kind rfl ⟨⟨by decide, by decide⟩, rfl⟩ inX7 11 (by decide) rfl rfl (F.1.2.2.2.2 _ (List.mem_of_getElem? (l := wsX7_readsOrder) (i := 2) (a := .fieldLink RX7 151 "CordClockModel" "orders" "I") (by decide +kernel))) dX7_readsOrder_72 ?_
      rw [show M_12 o 11 = nI (k) from (show M_12 o 11 = nI (k) from (h_12.2.2.1.o11 h11))]
      refine cq_iload_n F (i := 1) dX7_readsOrder_75 rfl rfl ?_
      refine cq_iast_j F (j := k) ho.k7 ho.n7 rfl ⟨(by omega), by decide⟩ dX7_readsOrder_76 (fun M_76 h_76 => ?_)
      refine cq_aload_n F (i := 0) dX7_readsOrder_77 rfl rfl ?_
      refine cq_dup F dX7_readsOrder_78 rfl ?_
      refine cq_getI F (C := RX7) (T := TX7) (N := 22) (ci := 8) ho.kind rfl ⟨⟨by decide, by decide⟩, rfl⟩ inX7 11 (by decide) rfl rfl (F.1.2.2.2.2 _ (List.mem_of_getElem? (l := wsX7_readsOrder) (i := 2) (a := .fieldLink RX7 151 "CordClockModel" "orders" "I") (by decide +kernel))) dX7_readsOrder_79 ?_
      rw [show M_76 o 11 = nI (k) from (show M_76 o 11 = nI (k) from (by rw [h_76, cq_up_a (by omega)]; exact (h_12.2.2.1.o11 h11)))]
      refine cq_iconst F (v := 1) dX7_readsOrder_82 rfl ?_
      refine cq_iadd F dX7_readsOrder_83 ?_
      rw [show (nI k + 1 : Int32) = nI (k + 1) from nI_add _ _]
      refine cq_put F (C := RX7) (T := TX7) (N := 22) (ci := 8) ho.kind rfl ⟨⟨by decide, by decide⟩, rfl⟩ inX7 tyX7 tyX7_ok nmX7 11 (by decide) rfl rfl (F.1.2.2.2.2 _ (List.mem_of_getElem? (l := wsX7_readsOrder) (i := 2) (a := .fieldLink RX7 151 "CordClockModel" "orders" "I") (by decide +kernel))) rfl (by rfl) (by rfl) dX7_readsOrder_84 (fun M_84 h_84 => ?_)
      refine cq_iload_n F (i := 2) dX7_readsOrder_87 rfl rfl ?_
      refine cq_zret F hr (by first | rfl | exact cq_zn (by rw [h_12.1]; split <;> simp) | exact cq_zn (by rw [h_25.1]; split <;> simp) | exact cq_zn (by rw [h_38.1]; split <;> simp)) (by decide) (by decide) dX7_readsOrder_88 ⟨_, rfl, ?_⟩
      have eR : tx_ord (tx_s t len) p = tx_w (tx_s t len) [110, 101, 119, 58] tx_new p := by unfold tx_ord; rw [if_pos c_8]
      rw [← eR] at h_12
      have hR9 : (tx_ord (tx_s t len) p).1 = true := by rw [eR]; exact c_64
      exact h_12.fin1 hR9 (by first | rfl | (rw [h_12.1]; exact if_pos hR9)) (tx_ord_ok hR9).2.2 h_76 h_84
theorem hdVX7_readsOrder : yX7_readsOrder.cls = RX7 ∧ yX7_readsOrder.cls ≠ "java/lang/invoke/MethodHandle" ∧ yX7_readsOrder.cls ≠ "java/lang/invoke/VarHandle" ∧ (parseMethodDescriptor yX7_readsOrder.desc).map (fun d => d.parameters.length) = some 0 := by decide +kernel
