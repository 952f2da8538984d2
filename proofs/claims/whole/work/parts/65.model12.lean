/-! CordClockModel: readers of orders -/
/-- a reader of the order k: what it may change -/
def tm_G (M M1 : cq_M) (o k : Nat) : Prop := (∀ x, x ≠ o → (x < o + 7 ∨ o + 12 ≤ x) → M1 x = M x) ∧ (∀ j, j ≠ 9 → j ≠ 10 → M1 o j = M o j) ∧ (∀ x, o + 7 ≤ x → x < o + 11 → ∀ j, j < k → M1 x j = M x j) ∧ ∀ j, j < 6 * k → M1 (o + 11) j = M (o + 11) j
theorem tm_F.G {M M1 : cq_M} {o : Nat} (h : tm_F M M1 o) (k : Nat) : tm_G M M1 o k := ⟨fun x hx _ => h.1 x hx, h.2, fun x h1 _ j _ => by rw [h.1 x (by omega)], fun j _ => by rw [h.1 _ (by omega)]⟩
theorem tm_G.rf {M : cq_M} {o k : Nat} : tm_G M M o k := tm_F.rf.G k
theorem tm_G.trans {M M1 M2 : cq_M} {o k : Nat} (h : tm_G M M1 o k) (h2 : tm_G M1 M2 o k) : tm_G M M2 o k := ⟨fun x hx x2 => by rw [h2.1 x hx x2, h.1 x hx x2], fun j j1 j2 => by rw [h2.2.1 j j1 j2, h.2.1 j j1 j2], fun x x1 x2 j hj => by rw [h2.2.2.1 x x1 x2 j hj, h.2.2.1 x x1 x2 j hj], fun j hj => by rw [h2.2.2.2 j hj, h.2.2.2 j hj]⟩
theorem tm_G.up {M M1 M2 : cq_M} {o k x i : Nat} {v : Int32} (h : tm_G M M1 o k) (h2 : M2 = cq_up M1 x i v) (hx : (o + 7 ≤ x ∧ x < o + 11 ∧ k ≤ i) ∨ (x = o + 11 ∧ 6 * k ≤ i)) : tm_G M M2 o k := h.trans ⟨fun y hy y2 => by rw [h2, cq_up_row (by omega)], fun j j1 j2 => by rw [h2, cq_up_a (by omega)], fun y y1 y2 j hj => by
  rw [h2]
  by_cases e : y = x
  · subst e; rw [cq_up_k (by omega)]
  · rw [cq_up_a e], fun j hj => by
  rw [h2]
  by_cases e : o + 11 = x
  · subst e; rw [cq_up_k (by omega)]
  · rw [cq_up_a e]⟩
theorem tm_G.m {M M1 : cq_M} {o k len : Nat} {t : Nat → Nat} (h : tm_G M M1 o k) (hm : tm_M M o t len) : tm_M M1 o t len := hm.ext (h.2.1 8 (by omega) (by omega)) (fun j => by rw [h.1 _ (by omega) (by omega)])
theorem tm_G.o11 {M M1 : cq_M} {o k : Nat} {v : Int32} (h : tm_G M M1 o k) (h1 : M o 11 = v) : M1 o 11 = v := by rw [h.2.1 11 (by omega) (by omega)]; exact h1
theorem tm_F.o11 {M M1 : cq_M} {o : Nat} {v : Int32} (h : tm_F M M1 o) (h1 : M o 11 = v) : M1 o 11 = v := by rw [h.2 11 (by omega) (by omega)]; exact h1
def tm_rec (M : cq_M) (o k : Nat) (q : tx_O) : Prop := M (o + 8) k = nI q.2.1 ∧ (q.1 = 2 → M (o + 9) k = nI q.2.2.1) ∧ (q.1 = 1 ∨ q.1 = 2 → M (o + 10) k = nI q.2.2.2.1) ∧ (q.1 = 0 → q.2.2.2.2.length = q.2.1 ∧ ∀ i, i < q.2.1 → M (o + 11) (6 * k + i) = nI (q.2.2.2.2.getD i 0))
def tm_P (M M1 : cq_M) (o k : Nat) (R : tx_R) (r : Int32) : Prop := r = (if R.1 = true then 1 else 0) ∧ (M1 o 9 = nI R.2.1 ∧ R.2.1 ≤ 60) ∧ tm_G M M1 o k ∧ (R.1 = true → tm_rec M1 o k R.2.2)
abbrev rmX7_readsCord : Room := ({ frames := 1, cells := 0, slots := 0, locals := 22 })
set_option maxHeartbeats 4000000 in
set_option maxRecDepth 100000 in
theorem kX7_readsCord (l : Launch) (D : va_G) (cA : Nat → ClassId) (X : cq_X) (Bs : Nat) (o len p : Nat) (t : Nat → Nat) (M : cq_M) (ho : cq_isModel X o) (hm : tm_M M o t len) (hlen : len ≤ 60) (hp : M o 9 = nI p) (hp9 : p ≤ 60) : cq_C l yX7_readsCord wsX7_readsCord rmX7_readsCord D cA X Bs [.ref o] M (cq_PI (fun r M1 => r = (if tx_cd (tx_s t len) p then 1 else 0) ∧ (M1 o 9 = nI (if tx_cd (tx_s t len) p then p + 1 else p) ∧ (tx_cd (tx_s t len) p → p + 1 ≤ 60 ∧ M1 o 10 = nI (tx_s t len p - 48))) ∧ tm_F M M1 o)) 0 0 := by
  refine cq_met (cc := cX7_readsCord) (maxL := 1) (ret := (some .boolean)) (by decide) rfl (Nat.le_of_ble_eq_true rfl) [(0, .ref o)] rfl rfl ?_
  intro p9 e9 s9 m9 b9 t9 c9 F hr
  have inX7 : ∀ w ∈ wsX70, w ∈ wsX7_readsCord := (fun w h => List.mem_cons_of_mem _ (List.mem_append_right _ h))
  have hs9 := hm.s p
  refine cq_aload_n F (i := 0) dX7_readsCord_0 rfl rfl ?_
  refine cq_callV F (C := RX7) (ci := 8) (kX7_sign l D cA X Bs o len (p) t M ho hm hlen hp hp9) (cwV 0 F.1.2.2.2.2 gX7_readsCord_X7_sign rfl rfl rfl hdVX7_sign ⟨Nat.le_of_ble_eq_true rfl, Nat.le_of_ble_eq_true rfl⟩) ho.kind ⟨by decide, by decide⟩ rfl rfl rfl (Nat.le_of_ble_eq_true rfl) dX7_readsCord_1 ⟨Nat.le_of_ble_eq_true rfl, Nat.le_of_ble_eq_true rfl⟩ (cq_kIp fun r_1 h_1 => ?_)
  subst h_1
  refine cq_bipush F (v := 48) dX7_readsCord_4 (by decide) ?_
  refine cq_bipush F (v := 51) dX7_readsCord_6 (by decide) ?_
  refine cq_callS F (nX7_in l D cA X Bs (tx_s t len p) 48 51 M (by omega) (by omega) (by omega)) (va_cwS 3 F.1.2.2.2.2 gX7_readsCord_X7_in rfl rfl rfl hdVX7_in.2 ⟨Nat.le_of_ble_eq_true rfl, Nat.le_of_ble_eq_true rfl⟩) rfl (Nat.le_of_ble_eq_true rfl) dX7_readsCord_8 ⟨Nat.le_of_ble_eq_true rfl, Nat.le_of_ble_eq_true rfl⟩ (cq_kIp fun r_8 h_8 => ?_)
  refine cq_if_ne F (tgt := 16) dX7_readsCord_11 (by decide) (fun c_11 => ?_) (fun c_11 => ?_)
  · have c_11 := cq_b1 h_8 c_11
    refine cq_aload_n F (i := 0) dX7_readsCord_16 rfl rfl ?_
    refine cq_aload_n F (i := 0) dX7_readsCord_17 rfl rfl ?_
    refine cq_callV F (C := RX7) (ci := 8) (kX7_sign l D cA X Bs o len (p) t M ho hm hlen hp hp9) (cwV 0 F.1.2.2.2.2 gX7_readsCord_X7_sign rfl rfl rfl hdVX7_sign ⟨Nat.le_of_ble_eq_true rfl, Nat.le_of_ble_eq_true rfl⟩) ho.kind ⟨by decide, by decide⟩ rfl rfl rfl (Nat.le_of_ble_eq_true rfl) dX7_readsCord_18 ⟨Nat.le_of_ble_eq_true rfl, Nat.le_of_ble_eq_true rfl⟩ (cq_kIp fun r_18 h_18 => ?_)
    subst h_18
    refine cq_bipush F (v := 48) dX7_readsCord_21 (by decide) ?_
    refine cq_isub F dX7_readsCord_23 ?_
    rw [show (nI (tx_s t len (p)) - 48 : Int32) = nI ((tx_s t len (p)) - 48) from pk_sub (a := (tx_s t len (p))) (b := 48) (by omega)]
    refine cq_put F (C := RX7) (T := TX7) (N := 22) (ci := 8) ho.kind rfl ⟨⟨by decide, by decide⟩, rfl⟩ inX7 tyX7 tyX7_ok nmX7 10 (by decide) rfl rfl (F.1.2.2.2.2 _ (List.mem_of_getElem? (l := wsX7_readsCord) (i := 1) (a := .fieldLink RX7 148 "CordClockModel" "number" "I") (by decide +kernel))) rfl (by rfl) (by rfl) dX7_readsCord_24 (fun M_24 h_24 => ?_)
    refine cq_aload_n F (i := 0) dX7_readsCord_27 rfl rfl ?_
    refine cq_dup F dX7_readsCord_28 rfl ?_
    refine cq_getI F (C := RX7) (T := TX7) (N := 22) (ci := 8) ho.kind rfl ⟨⟨by decide, by decide⟩, rfl⟩ inX7 9 (by decide) rfl rfl (F.1.2.2.2.2 _ (List.mem_of_getElem? (l := wsX7_readsCord) (i := 2) (a := .fieldLink RX7 142 "CordClockModel" "spot" "I") (by decide +kernel))) dX7_readsCord_29 ?_
    rw [show M_24 o 9 = nI (p) from (show M_24 o 9 = nI (p) from (by rw [h_24, cq_up_k (by omega)]; exact hp))]
    refine cq_iconst F (v := 1) dX7_readsCord_32 rfl ?_
    refine cq_iadd F dX7_readsCord_33 ?_
    rw [show (nI p + 1 : Int32) = nI (p + 1) from nI_add _ _]
    refine cq_put F (C := RX7) (T := TX7) (N := 22) (ci := 8) ho.kind rfl ⟨⟨by decide, by decide⟩, rfl⟩ inX7 tyX7 tyX7_ok nmX7 9 (by decide) rfl rfl (F.1.2.2.2.2 _ (List.mem_of_getElem? (l := wsX7_readsCord) (i := 2) (a := .fieldLink RX7 142 "CordClockModel" "spot" "I") (by decide +kernel))) rfl (by rfl) (by rfl) dX7_readsCord_34 (fun M_34 h_34 => ?_)
    refine cq_iconst F (v := 1) dX7_readsCord_37 rfl ?_
    exact cq_zret F hr (by rfl) (by decide) (by decide) dX7_readsCord_38 ⟨_, rfl, ⟨(if_pos c_11).symm, ⟨by rw [if_pos c_11, h_34]; exact cq_up_s _ _ _ _, fun _ => ⟨by omega, by rw [h_34, cq_up_k (by omega), h_24]; exact cq_up_s _ _ _ _⟩⟩, (tm_F.rf.up h_24 (Or.inr rfl)).up h_34 (Or.inl rfl)⟩⟩
  · have c_11 := cq_b0 h_8 c_11
    refine cq_iconst F (v := 0) dX7_readsCord_14 rfl ?_
    exact cq_zret F hr (by rfl) (by decide) (by decide) dX7_readsCord_15 ⟨_, rfl, ⟨(if_neg c_11).symm, ⟨by rw [if_neg c_11]; exact hp, fun z => absurd z c_11⟩, tm_F.rf⟩⟩
theorem hdVX7_readsCord : yX7_readsCord.cls = RX7 ∧ yX7_readsCord.cls ≠ "java/lang/invoke/MethodHandle" ∧ yX7_readsCord.cls ≠ "java/lang/invoke/VarHandle" ∧ (parseMethodDescriptor yX7_readsCord.desc).map (fun d => d.parameters.length) = some 0 := by decide +kernel
abbrev rmX7_readsSide : Room := ({ frames := 2, cells := 0, slots := 0, locals := 42 })
set_option maxHeartbeats 4000000 in
set_option maxRecDepth 100000 in
theorem kX7_readsSide (l : Launch) (D : va_G) (cA : Nat → ClassId) (X : cq_X) (Bs : Nat) (o len p k : Nat) (t : Nat → Nat) (M : cq_M) (ho : cq_isModel X o) (hm : tm_M M o t len) (hlen : len ≤ 60) (hp : M o 9 = nI p) (hp9 : p ≤ 60) (h11 : M o 11 = nI k) (hk : k ≤ 10) : cq_C l yX7_readsSide wsX7_readsSide rmX7_readsSide D cA X Bs [.ref o] M (cq_PI (fun r M1 => r = (if (tx_side (tx_s t len) p).1 = true then 1 else 0) ∧ (M1 o 9 = nI (tx_side (tx_s t len) p).2.1 ∧ (tx_side (tx_s t len) p).2.1 ≤ 60) ∧ M1 (o + 10) k = nI (tx_side (tx_s t len) p).2.2 ∧ tm_G M M1 o k ∧ ∀ x, x ≠ o → x ≠ o + 10 → M1 x = M x)) 0 0 := by
  refine cq_met (cc := cX7_readsSide) (maxL := 1) (ret := (some .boolean)) (by decide) rfl (Nat.le_of_ble_eq_true rfl) [(0, .ref o)] rfl rfl ?_
  intro p9 e9 s9 m9 b9 t9 c9 F hr
  have inX7 : ∀ w ∈ wsX70, w ∈ wsX7_readsSide := (fun w h => List.mem_cons_of_mem _ (List.mem_append_right _ h))
  have hs9 := hm.s p
  refine cq_aload_n F (i := 0) dX7_readsSide_0 rfl rfl ?_
  refine cq_getT (t := (o + 10)) F (C := RX7) (T := TX7) (N := 22) (ci := 8) ho.kind rfl ⟨⟨by decide, by decide⟩, rfl⟩ inX7 15 (by decide) rfl rfl ho.t15 (F.1.2.2.2.2 _ (List.mem_of_getElem? (l := wsX7_readsSide) (i := 1) (a := .fieldLink RX7 38 "CordClockModel" "left" "[I") (by decide +kernel))) dX7_readsSide_1 ?_
  refine cq_aload_n F (i := 0) dX7_readsSide_4 rfl rfl ?_
  refine cq_getI F (C := RX7) (T := TX7) (N := 22) (ci := 8) ho.kind rfl ⟨⟨by decide, by decide⟩, rfl⟩ inX7 11 (by decide) rfl rfl (F.1.2.2.2.2 _ (List.mem_of_getElem? (l := wsX7_readsSide) (i := 2) (a := .fieldLink RX7 151 "CordClockModel" "orders" "I") (by decide +kernel))) dX7_readsSide_5 ?_
  rw [show M o 11 = nI (k) from (show M o 11 = nI (k) from h11)]
  refine cq_aload_n F (i := 0) dX7_readsSide_8 rfl rfl ?_
  refine cq_callV F (C := RX7) (ci := 8) (kX7_sign l D cA X Bs o len (p) t M ho hm hlen hp hp9) (cwV 0 F.1.2.2.2.2 gX7_readsSide_X7_sign rfl rfl rfl hdVX7_sign ⟨Nat.le_of_ble_eq_true rfl, Nat.le_of_ble_eq_true rfl⟩) ho.kind ⟨by decide, by decide⟩ rfl rfl rfl (Nat.le_of_ble_eq_true rfl) dX7_readsSide_9 ⟨Nat.le_of_ble_eq_true rfl, Nat.le_of_ble_eq_true rfl⟩ (cq_kIp fun r_9 h_9 => ?_)
  subst h_9
  refine cq_bipush F (v := 76) dX7_readsSide_12 (by decide) ?_
  refine cq_icmp_ne F (tgt := 21) dX7_readsSide_14 (by decide) (fun c_14 => ?_) (fun c_14 => ?_)
  · have c_14 : ¬ (tx_s t len (p)) = 76 := fun z => c_14 ((nI_b (a := (tx_s t len (p))) (b := 76) (by omega) (by omega)).2.2.mpr z)
    refine cq_iconst F (v := 0) dX7_readsSide_21 rfl ?_
    refine cq_iast_j F (j := k) ho.k10 ho.n10 rfl ⟨(by omega), by decide⟩ dX7_readsSide_22 (fun M_22 h_22 => ?_)
    refine cq_aload_n F (i := 0) dX7_readsSide_23 rfl rfl ?_
    refine cq_bipush F (v := 76) dX7_readsSide_24 (by decide) ?_
    refine cq_callV F (C := RX7) (ci := 8) (kX7_takes l D cA X Bs o len (p) t 76 M_22 ho (hm.ext (by rw [h_22, cq_up_a (by omega)]) (fun j => by rw [h_22, cq_up_a (by omega)])) hlen (by rw [h_22, cq_up_a (by omega)]; exact hp) hp9 (by decide)) (cwV 1 F.1.2.2.2.2 gX7_readsSide_X7_takes rfl rfl rfl hdVX7_takes ⟨Nat.le_of_ble_eq_true rfl, Nat.le_of_ble_eq_true rfl⟩) ho.kind ⟨by decide, by decide⟩ rfl rfl rfl (Nat.le_of_ble_eq_true rfl) dX7_readsSide_26 ⟨Nat.le_of_ble_eq_true rfl, Nat.le_of_ble_eq_true rfl⟩ (cq_kI fun r_26 M_26 h_26 => ?_)
    refine cq_if_ne F (tgt := 41) dX7_readsSide_29 (by decide) (fun c_29 => ?_) (fun c_29 => ?_)
    · have c_29 := cq_b1 h_26.1 c_29
      have hp_26 : M_26 o 9 = nI (p + 1) := by have z := h_26.2.1.1; rwa [tx_t, if_pos c_29] at z
      refine cq_iconst F (v := 1) dX7_readsSide_41 rfl ?_
      refine cq_goto F (tgt := 46) dX7_readsSide_42 (by decide) ?_
      refine cq_zret F hr (by rfl) (by decide) (by decide) dX7_readsSide_46 ⟨_, rfl, ?_⟩
      have g9 : tm_G M M_22 o k := tm_G.rf.up h_22 (Or.inl ⟨by omega, by omega, Nat.le_refl _⟩)
      unfold tx_side
      first | rw [if_pos c_29] | rw [if_neg c_29, if_pos c_38] | rw [if_neg c_29, if_neg c_38]
      refine ⟨rfl, ⟨hp_26, by first | exact hp9 | (show p + 1 ≤ 60; omega)⟩, ?_, ?_, ?_⟩
      · first | exact absurd c_29 c_14 | exact absurd c_14 c_29 | (rw [h_35.2.2.1 _ (by omega), h_26.2.2.1 _ (by omega), h_22, cq_up_s]; rfl) | (rw [h_26.2.2.1 _ (by omega), h_22, cq_up_s]; rfl)
      · first | exact (g9.trans (h_26.2.2.G k)).trans (h_35.2.2.G k) | exact g9.trans (h_26.2.2.G k)
      · intro x x1 x2
        first | rw [h_35.2.2.1 x x1, h_26.2.2.1 x x1, h_22, cq_up_row x2] | rw [h_26.2.2.1 x x1, h_22, cq_up_row x2]
    · have c_29 := cq_b0 h_26.1 c_29
      have hp_26 : M_26 o 9 = nI (p) := by have z := h_26.2.1.1; rwa [tx_t, if_neg c_29] at z
      refine cq_aload_n F (i := 0) dX7_readsSide_32 rfl rfl ?_
      refine cq_bipush F (v := 82) dX7_readsSide_33 (by decide) ?_
      refine cq_callV F (C := RX7) (ci := 8) (kX7_takes l D cA X Bs o len (p) t 82 M_26 ho (h_26.2.2.m (hm.ext (by rw [h_22, cq_up_a (by omega)]) (fun j => by rw [h_22, cq_up_a (by omega)]))) hlen hp_26 hp9 (by decide)) (cwV 1 F.1.2.2.2.2 gX7_readsSide_X7_takes rfl rfl rfl hdVX7_takes ⟨Nat.le_of_ble_eq_true rfl, Nat.le_of_ble_eq_true rfl⟩) ho.kind ⟨by decide, by decide⟩ rfl rfl rfl (Nat.le_of_ble_eq_true rfl) dX7_readsSide_35 ⟨Nat.le_of_ble_eq_true rfl, Nat.le_of_ble_eq_true rfl⟩ (cq_kI fun r_35 M_35 h_35 => ?_)
      refine cq_if_eq F (tgt := 45) dX7_readsSide_38 (by decide) (fun c_38 => ?_) (fun c_38 => ?_)
      · have c_38 := cq_b0 h_35.1 c_38
        have hp_35 : M_35 o 9 = nI (p) := by have z := h_35.2.1.1; rwa [tx_t, if_neg c_38] at z
        refine cq_iconst F (v := 0) dX7_readsSide_45 rfl ?_
        refine cq_zret F hr (by rfl) (by decide) (by decide) dX7_readsSide_46 ⟨_, rfl, ?_⟩
        have g9 : tm_G M M_22 o k := tm_G.rf.up h_22 (Or.inl ⟨by omega, by omega, Nat.le_refl _⟩)
        unfold tx_side
        first | rw [if_pos c_29] | rw [if_neg c_29, if_pos c_38] | rw [if_neg c_29, if_neg c_38]
        refine ⟨rfl, ⟨hp_35, by first | exact hp9 | (show p + 1 ≤ 60; omega)⟩, ?_, ?_, ?_⟩
        · first | exact absurd c_29 c_14 | exact absurd c_14 c_29 | (rw [h_35.2.2.1 _ (by omega), h_26.2.2.1 _ (by omega), h_22, cq_up_s]; rfl) | (rw [h_26.2.2.1 _ (by omega), h_22, cq_up_s]; rfl)
        · first | exact (g9.trans (h_26.2.2.G k)).trans (h_35.2.2.G k) | exact g9.trans (h_26.2.2.G k)
        · intro x x1 x2
          first | rw [h_35.2.2.1 x x1, h_26.2.2.1 x x1, h_22, cq_up_row x2] | rw [h_26.2.2.1 x x1, h_22, cq_up_row x2]
      · have c_38 := cq_b1 h_35.1 c_38
        have hp_35 : M_35 o 9 = nI (p + 1) := by have z := h_35.2.1.1; rwa [tx_t, if_pos c_38] at z
        refine cq_iconst F (v := 1) dX7_readsSide_41 rfl ?_
        refine cq_goto F (tgt := 46) dX7_readsSide_42 (by decide) ?_
        refine cq_zret F hr (by rfl) (by decide) (by decide) dX7_readsSide_46 ⟨_, rfl, ?_⟩
        have g9 : tm_G M M_22 o k := tm_G.rf.up h_22 (Or.inl ⟨by omega, by omega, Nat.le_refl _⟩)
        unfold tx_side
        first | rw [if_pos c_29] | rw [if_neg c_29, if_pos c_38] | rw [if_neg c_29, if_neg c_38]
        refine ⟨rfl, ⟨hp_35, by first | exact hp9 | (show p + 1 ≤ 60; omega)⟩, ?_, ?_, ?_⟩
        · first | exact absurd c_29 c_14 | exact absurd c_14 c_29 | (rw [h_35.2.2.1 _ (by omega), h_26.2.2.1 _ (by omega), h_22, cq_up_s]; rfl) | (rw [h_26.2.2.1 _ (by omega), h_22, cq_up_s]; rfl)
        · first | exact (g9.trans (h_26.2.2.G k)).trans (h_35.2.2.G k) | exact g9.trans (h_26.2.2.G k)
        · intro x x1 x2
          first | rw [h_35.2.2.1 x x1, h_26.2.2.1 x x1, h_22, cq_up_row x2] | rw [h_26.2.2.1 x x1, h_22, cq_up_row x2]
  · have c_14 : (tx_s t len (p)) = 76 := (nI_b (a := (tx_s t len (p))) (b := 76) (by omega) (by omega)).2.2.mp c_14
    refine cq_iconst F (v := 1) dX7_readsSide_17 rfl ?_
    refine cq_goto F (tgt := 22) dX7_readsSide_18 (by decide) ?_
    refine cq_iast_j F (j := k) ho.k10 ho.n10 rfl ⟨(by omega), by decide⟩ dX7_readsSide_22 (fun M_22 h_22 => ?_)
    refine cq_aload_n F (i := 0) dX7_readsSide_23 rfl rfl ?_
    refine cq_bipush F (v := 76) dX7_readsSide_24 (by decide) ?_
    refine cq_callV F (C := RX7) (ci := 8) (kX7_takes l D cA X Bs o len (p) t 76 M_22 ho (hm.ext (by rw [h_22, cq_up_a (by omega)]) (fun j => by rw [h_22, cq_up_a (by omega)])) hlen (by rw [h_22, cq_up_a (by omega)]; exact hp) hp9 (by decide)) (cwV 1 F.1.2.2.2.2 gX7_readsSide_X7_takes rfl rfl rfl hdVX7_takes ⟨Nat.le_of_ble_eq_true rfl, Nat.le_of_ble_eq_true rfl⟩) ho.kind ⟨by decide, by decide⟩ rfl rfl rfl (Nat.le_of_ble_eq_true rfl) dX7_readsSide_26 ⟨Nat.le_of_ble_eq_true rfl, Nat.le_of_ble_eq_true rfl⟩ (cq_kI fun r_26 M_26 h_26 => ?_)
    refine cq_if_ne F (tgt := 41) dX7_readsSide_29 (by decide) (fun c_29 => ?_) (fun c_29 => ?_)
    · have c_29 := cq_b1 h_26.1 c_29
      have hp_26 : M_26 o 9 = nI (p + 1) := by have z := h_26.2.1.1; rwa [tx_t, if_pos c_29] at z
      refine cq_iconst F (v := 1) dX7_readsSide_41 rfl ?_
      refine cq_goto F (tgt := 46) dX7_readsSide_42 (by decide) ?_
      refine cq_zret F hr (by rfl) (by decide) (by decide) dX7_readsSide_46 ⟨_, rfl, ?_⟩
      have g9 : tm_G M M_22 o k := tm_G.rf.up h_22 (Or.inl ⟨by omega, by omega, Nat.le_refl _⟩)
      unfold tx_side
      first | rw [if_pos c_29] | rw [if_neg c_29, if_pos c_38] | rw [if_neg c_29, if_neg c_38]
      refine ⟨rfl, ⟨hp_26, by first | exact hp9 | (show p + 1 ≤ 60; omega)⟩, ?_, ?_, ?_⟩
      · first | exact absurd c_29 c_14 | exact absurd c_14 c_29 | (rw [h_35.2.2.1 _ (by omega), h_26.2.2.1 _ (by omega), h_22, cq_up_s]; rfl) | (rw [h_26.2.2.1 _ (by omega), h_22, cq_up_s]; rfl)
      · first | exact (g9.trans (h_26.2.2.G k)).trans (h_35.2.2.G k) | exact g9.trans (h_26.2.2.G k)
      · intro x x1 x2
        first | rw [h_35.2.2.1 x x1, h_26.2.2.1 x x1, h_22, cq_up_row x2] | rw [h_26.2.2.1 x x1, h_22, cq_up_row x2]
    · have c_29 := cq_b0 h_26.1 c_29
      have hp_26 : M_26 o 9 = nI (p) := by have z := h_26.2.1.1; rwa [tx_t, if_neg c_29] at z
      refine cq_aload_n F (i := 0) dX7_readsSide_32 rfl rfl ?_
      refine cq_bipush F (v := 82) dX7_readsSide_33 (by decide) ?_
      refine cq_callV F (C := RX7) (ci := 8) (kX7_takes l D cA X Bs o len (p) t 82 M_26 ho (h_26.2.2.m (hm.ext (by rw [h_22, cq_up_a (by omega)]) (fun j => by rw [h_22, cq_up_a (by omega)]))) hlen hp_26 hp9 (by decide)) (cwV 1 F.1.2.2.2.2 gX7_readsSide_X7_takes rfl rfl rfl hdVX7_takes ⟨Nat.le_of_ble_eq_true rfl, Nat.le_of_ble_eq_true rfl⟩) ho.kind ⟨by decide, by decide⟩ rfl rfl rfl (Nat.le_of_ble_eq_true rfl) dX7_readsSide_35 ⟨Nat.le_of_ble_eq_true rfl, Nat.le_of_ble_eq_true rfl⟩ (cq_kI fun r_35 M_35 h_35 => ?_)
      refine cq_if_eq F (tgt := 45) dX7_readsSide_38 (by decide) (fun c_38 => ?_) (fun c_38 => ?_)
      · have c_38 := cq_b0 h_35.1 c_38
        have hp_35 : M_35 o 9 = nI (p) := by have z := h_35.2.1.1; rwa [tx_t, if_neg c_38] at z
        refine cq_iconst F (v := 0) dX7_readsSide_45 rfl ?_
        refine cq_zret F hr (by rfl) (by decide) (by decide) dX7_readsSide_46 ⟨_, rfl, ?_⟩
        have g9 : tm_G M M_22 o k := tm_G.rf.up h_22 (Or.inl ⟨by omega, by omega, Nat.le_refl _⟩)
        unfold tx_side
        first | rw [if_pos c_29] | rw [if_neg c_29, if_pos c_38] | rw [if_neg c_29, if_neg c_38]
        refine ⟨rfl, ⟨hp_35, by first | exact hp9 | (show p + 1 ≤ 60; omega)⟩, ?_, ?_, ?_⟩
        · first | exact absurd c_29 c_14 | exact absurd c_14 c_29 | (rw [h_35.2.2.1 _ (by omega), h_26.2.2.1 _ (by omega), h_22, cq_up_s]; rfl) | (rw [h_26.2.2.1 _ (by omega), h_22, cq_up_s]; rfl)
        · first | exact (g9.trans (h_26.2.2.G k)).trans (h_35.2.2.G k) | exact g9.trans (h_26.2.2.G k)
        · intro x x1 x2
          first | rw [h_35.2.2.1 x x1, h_26.2.2.1 x x1, h_22, cq_up_row x2] | rw [h_26.2.2.1 x x1, h_22, cq_up_row x2]
      · have c_38 := cq_b1 h_35.1 c_38
        have hp_35 : M_35 o 9 = nI (p + 1) := by have z := h_35.2.1.1; rwa [tx_t, if_pos c_38] at z
        refine cq_iconst F (v := 1) dX7_readsSide_41 rfl ?_
        refine cq_goto F (tgt := 46) dX7_readsSide_42 (by decide) ?_
        refine cq_zret F hr (by rfl) (by decide) (by decide) dX7_readsSide_46 ⟨_, rfl, ?_⟩
        have g9 : tm_G M M_22 o k := tm_G.rf.up h_22 (Or.inl ⟨by omega, by omega, Nat.le_refl _⟩)
        unfold tx_side
        first | rw [if_pos c_29] | rw [if_neg c_29, if_pos c_38] | rw [if_neg c_29, if_neg c_38]
        refine ⟨rfl, ⟨hp_35, by first | exact hp9 | (show p + 1 ≤ 60; omega)⟩, ?_, ?_, ?_⟩
        · first | exact absurd c_29 c_14 | exact absurd c_14 c_29 | (rw [h_35.2.2.1 _ (by omega), h_26.2.2.1 _ (by omega), h_22, cq_up_s]; rfl) | (rw [h_26.2.2.1 _ (by omega), h_22, cq_up_s]; rfl)
        · first | exact (g9.trans (h_26.2.2.G k)).trans (h_35.2.2.G k) | exact g9.trans (h_26.2.2.G k)
        · intro x x1 x2
          first | rw [h_35.2.2.1 x x1, h_26.2.2.1 x x1, h_22, cq_up_row x2] | rw [h_26.2.2.1 x x1, h_22, cq_up_row x2]
theorem hdVX7_readsSide : yX7_readsSide.cls = RX7 ∧ yX7_readsSide.cls ≠ "java/lang/invoke/MethodHandle" ∧ yX7_readsSide.cls ≠ "java/lang/invoke/VarHandle" ∧ (parseMethodDescriptor yX7_readsSide.desc).map (fun d => d.parameters.length) = some 0 := by decide +kernel
theorem tx_mg_0 {s : Nat → Nat} {f p : Nat} (h : (tx_n s 60 p).1 = 0) : tx_mg s (f + 1) p = (false, (tx_n s 60 p).2, []) := by rw [tx_mg, if_pos h]
theorem tx_mg_1 {s : Nat → Nat} {f p : Nat} (h : (tx_n s 60 p).1 ≠ 0) (h2 : f = 0 ∨ s (tx_n s 60 p).2 ≠ 46) : tx_mg s (f + 1) p = (true, (tx_n s 60 p).2, [(tx_n s 60 p).1]) := by rw [tx_mg, if_neg h, if_pos h2]
theorem tx_mg_2 {s : Nat → Nat} {f p : Nat} (h : (tx_n s 60 p).1 ≠ 0) (h2 : ¬ (f = 0 ∨ s (tx_n s 60 p).2 ≠ 46)) : tx_mg s (f + 1) p = ((tx_mg s f ((tx_n s 60 p).2 + 1)).1, (tx_mg s f ((tx_n s 60 p).2 + 1)).2.1, (tx_n s 60 p).1 :: (tx_mg s f ((tx_n s 60 p).2 + 1)).2.2) := by rw [tx_mg, if_neg h, if_neg h2]
/-- times are being read -/
def tm_C (M : cq_M) (o k : Nat) (s : Nat → Nat) (p0 i p : Nat) (pre : List Nat) : Prop := (i < 6 ∧ pre.length = i) ∧ tx_mg s 6 p0 = ((tx_mg s (6 - i) p).1, (tx_mg s (6 - i) p).2.1, pre ++ (tx_mg s (6 - i) p).2.2) ∧ M (o + 8) k = nI i ∧ (∀ j, j < i → M (o + 11) (6 * k + j) = nI (pre.getD j 0)) ∧ M o 9 = nI p ∧ p ≤ 60
/-- times are read -/
def tm_E (M : cq_M) (o k : Nat) (s : Nat → Nat) (p0 : Nat) (w : Int32) : Prop := w = (if (tx_mg s 6 p0).1 = true then 1 else 0) ∧ (M o 9 = nI (tx_mg s 6 p0).2.1 ∧ (tx_mg s 6 p0).2.1 ≤ 60) ∧ ((tx_mg s 6 p0).1 = true → M (o + 8) k = nI (tx_mg s 6 p0).2.2.length ∧ ∀ j, j < (tx_mg s 6 p0).2.2.length → M (o + 11) (6 * k + j) = nI ((tx_mg s 6 p0).2.2.getD j 0))
theorem tm_C.bad {M M3 : cq_M} {o k p0 i p : Nat} {s : Nat → Nat} {pre : List Nat} {w : Int32} (h : tm_C M o k s p0 i p pre) (hn : (tx_n s 60 p).1 = 0) (h9 : M3 o 9 = nI (tx_n s 60 p).2) (hq : (tx_n s 60 p).2 ≤ 60) (hw : w = 0) : tm_E M3 o k s p0 w := by
  obtain ⟨⟨a1, a2⟩, a3, -⟩ := h
  rw [show 6 - i = 6 - (i + 1) + 1 by omega, tx_mg_0 hn] at a3
  unfold tm_E
  rw [a3]
  exact ⟨hw, ⟨h9, hq⟩, fun z => absurd (show false = true from z) (by decide)⟩
theorem tm_pre {pre : List Nat} {n : Nat} {f : Nat → Int32} (h : ∀ j, j < pre.length → f j = nI (pre.getD j 0)) (h2 : f pre.length = nI n) : ∀ j, j < (pre ++ [n]).length → f j = nI ((pre ++ [n]).getD j 0) := fun j hj => by
  rw [List.length_append, List.length_singleton] at hj
  by_cases e : j < pre.length
  · rw [h j e, List.getD_eq_getElem?_getD, List.getD_eq_getElem?_getD, List.getElem?_append_left e]
  · obtain rfl : j = pre.length := by omega
    rw [h2, List.getD_eq_getElem?_getD, List.getElem?_append_right (Nat.le_refl _), Nat.sub_self]
    rfl
theorem tm_C.last {M M3 : cq_M} {o k p0 i p : Nat} {s : Nat → Nat} {pre : List Nat} {w : Int32} (h : tm_C M o k s p0 i p pre) (hn : (tx_n s 60 p).1 ≠ 0) (hl : 6 ≤ i + 1 ∨ s (tx_n s 60 p).2 ≠ 46) (h9 : M3 o 9 = nI (tx_n s 60 p).2) (hq : (tx_n s 60 p).2 ≤ 60) (hw : w = 1) (h8 : M3 (o + 8) k = nI (i + 1)) (hv : M3 (o + 11) (6 * k + i) = nI (tx_n s 60 p).1) (hf : ∀ j, j < i → M3 (o + 11) (6 * k + j) = M (o + 11) (6 * k + j)) : tm_E M3 o k s p0 w := by
  obtain ⟨⟨a1, a2⟩, a3, a4, a5, a6, a7⟩ := h
  rw [show 6 - i = 6 - (i + 1) + 1 by omega, tx_mg_1 hn (by rcases hl with z | z; exact Or.inl (by omega); exact Or.inr z)] at a3
  unfold tm_E
  rw [a3]
  subst a2
  refine ⟨hw, ⟨h9, hq⟩, fun _ => ⟨?_, ?_⟩⟩
  · show M3 (o + 8) k = nI (pre ++ [(tx_n s 60 p).1]).length
    rw [h8, List.length_append, List.length_singleton]
  · exact tm_pre (f := fun j => M3 (o + 11) (6 * k + j)) (fun j hj => by show M3 _ _ = _; rw [hf j hj, a5 j hj]) hv
theorem tm_C.next {M M3 : cq_M} {o k p0 i p : Nat} {s : Nat → Nat} {pre : List Nat} (h : tm_C M o k s p0 i p pre) (hn : (tx_n s 60 p).1 ≠ 0) (hl : i + 1 < 6) (hs : s (tx_n s 60 p).2 = 46) (h9 : M3 o 9 = nI ((tx_n s 60 p).2 + 1)) (hq : (tx_n s 60 p).2 + 1 ≤ 60) (h8 : M3 (o + 8) k = nI (i + 1)) (hv : M3 (o + 11) (6 * k + i) = nI (tx_n s 60 p).1) (hf : ∀ j, j < i → M3 (o + 11) (6 * k + j) = M (o + 11) (6 * k + j)) : tm_C M3 o k s p0 (i + 1) ((tx_n s 60 p).2 + 1) (pre ++ [(tx_n s 60 p).1]) := by
  obtain ⟨⟨a1, a2⟩, a3, a4, a5, a6, a7⟩ := h
  rw [show 6 - i = 6 - (i + 1) + 1 by omega, tx_mg_2 hn (fun z => by rcases z with z | z; omega; exact z hs)] at a3
  subst a2
  refine ⟨⟨by omega, by rw [List.length_append, List.length_singleton]⟩, ?_, h8, ?_, h9, hq⟩
  · rw [a3, List.append_assoc]
    rfl
  · intro j hj
    have h9 := tm_pre (f := fun j => M3 (o + 11) (6 * k + j)) (n := (tx_n s 60 p).1) (fun j hj => by show M3 _ _ = _; rw [hf j hj, a5 j hj]) hv
    exact h9 j (by rw [List.length_append, List.length_singleton]; exact hj)
abbrev rmX7_readsTimes : Room := ({ frames := 2, cells := 0, slots := 0, locals := 43 })
set_option maxHeartbeats 4000000 in
set_option maxRecDepth 100000 in
theorem kX7_readsTimes (l : Launch) (D : va_G) (cA : Nat → ClassId) (X : cq_X) (Bs : Nat) (o len p k : Nat) (t : Nat → Nat) (M : cq_M) (ho : cq_isModel X o) (hm : tm_M M o t len) (hlen : len ≤ 60) (hp : M o 9 = nI p) (hp9 : p ≤ 60) (h11 : M o 11 = nI k) (hk : k ≤ 10) : cq_C l yX7_readsTimes wsX7_readsTimes rmX7_readsTimes D cA X Bs [.ref o] M (cq_PI (fun r M1 => tm_E M1 o k (tx_s t len) p r ∧ tm_G M M1 o k)) 0 0 := by
  refine cq_met (cc := cX7_readsTimes) (maxL := 3) (ret := (some .boolean)) (by decide) rfl (Nat.le_of_ble_eq_true rfl) [(0, .ref o)] rfl rfl ?_
  intro p9 e9 s9 m9 b9 t9 c9 F hr
  have inX7 : ∀ w ∈ wsX70, w ∈ wsX7_readsTimes := (fun w h => List.mem_cons_of_mem _ (List.mem_append_right _ h))
  have loop_14 : ∀ (n_14 : Nat) (w v : Int32) (i p0 : Nat) (pre : List Nat) (M2 : cq_M), (¬ w = 0 ∧ ¬ v = 0 → tm_C M2 o k (tx_s t len) p i p0 pre) → (w = 0 ∨ v = 0 → tm_E M2 o k (tx_s t len) p w) → tm_G M M2 o k → 7 - i < n_14 → cq_V p9 l e9 rmX7_readsTimes s9 m9 ([.ref o] : List Value).toArray b9 t9 c9 D cA X Bs 3 0 0 (MQ b9 (cq_Q D cA X Bs (cq_PI (fun r M1 => tm_E M1 o k (tx_s t len) p r ∧ tm_G M M1 o k))) ([.ref o] : List Value).toArray s9 0 0 (cq_A Bs)) 14 [(0, .ref o), (1, .int w), (2, .int v)] [] M2 := by
    intro n_14
    induction n_14 with
    | zero =>
      intros
      omega
    | succ n_14 ih_14 =>
      intro w v i p0 pre M2 hcont hfin hG hn
      refine cq_iload_n F (i := 1) dX7_readsTimes_14 rfl rfl ?_
      refine cq_if_eq F (tgt := 104) dX7_readsTimes_15 (by decide) (fun c_15 => ?_) (fun c_15 => ?_)
      · refine cq_iload_n F (i := 1) dX7_readsTimes_104 rfl rfl ?_
        exact cq_zret F hr (cq_zn (by rw [(hfin (by first | exact Or.inl c_15 | exact Or.inr c_19)).1]; split <;> simp)) (by decide) (by decide) dX7_readsTimes_105 ⟨_, rfl, ⟨hfin (by first | exact Or.inl c_15 | exact Or.inr c_19), hG⟩⟩
      · refine cq_iload_n F (i := 2) dX7_readsTimes_18 rfl rfl ?_
        refine cq_if_eq F (tgt := 104) dX7_readsTimes_19 (by decide) (fun c_19 => ?_) (fun c_19 => ?_)
        · refine cq_iload_n F (i := 1) dX7_readsTimes_104 rfl rfl ?_
          exact cq_zret F hr (cq_zn (by rw [(hfin (by first | exact Or.inl c_15 | exact Or.inr c_19)).1]; split <;> simp)) (by decide) (by decide) dX7_readsTimes_105 ⟨_, rfl, ⟨hfin (by first | exact Or.inl c_15 | exact Or.inr c_19), hG⟩⟩
        · have hC := hcont ⟨c_15, c_19⟩
          have hi6 := hC.1.1
          refine cq_aload_n F (i := 0) dX7_readsTimes_22 rfl rfl ?_
          refine cq_bipush F (v := 60) dX7_readsTimes_23 (by decide) ?_
          refine cq_callV F (C := RX7) (ci := 8) (kX7_readsNumber l D cA X Bs o len p0 60 t M2 ho (hG.m hm) hlen hC.2.2.2.2.1 hC.2.2.2.2.2 (by omega)) (cwV 1 F.1.2.2.2.2 gX7_readsTimes_X7_readsNumber rfl rfl rfl hdVX7_readsNumber ⟨Nat.le_of_ble_eq_true rfl, Nat.le_of_ble_eq_true rfl⟩) ho.kind ⟨by decide, by decide⟩ rfl rfl rfl (Nat.le_of_ble_eq_true rfl) dX7_readsTimes_25 ⟨Nat.le_of_ble_eq_true rfl, Nat.le_of_ble_eq_true rfl⟩ (cq_kI fun r_25 M_25 h_25 => ?_)
          refine cq_istore_n F (i := 1) dX7_readsTimes_28 rfl (by decide) ?_
          refine cq_aload_n F (i := 0) dX7_readsTimes_29 rfl rfl ?_
          refine cq_getT (t := (o + 11)) F (C := RX7) (T := TX7) (N := 22) (ci := 8) ho.kind rfl ⟨⟨by decide, by decide⟩, rfl⟩ inX7 16 (by decide) rfl rfl ho.t16 (F.1.2.2.2.2 _ (List.mem_of_getElem? (l := wsX7_readsTimes) (i := 3) (a := .fieldLink RX7 41 "CordClockModel" "times" "[I") (by decide +kernel))) dX7_readsTimes_30 ?_
          refine cq_bipush F (v := 6) dX7_readsTimes_33 (by decide) ?_
          refine cq_aload_n F (i := 0) dX7_readsTimes_35 rfl rfl ?_
          refine cq_getI F (C := RX7) (T := TX7) (N := 22) (ci := 8) ho.kind rfl ⟨⟨by decide, by decide⟩, rfl⟩ inX7 11 (by decide) rfl rfl (F.1.2.2.2.2 _ (List.mem_of_getElem? (l := wsX7_readsTimes) (i := 2) (a := .fieldLink RX7 151 "CordClockModel" "orders" "I") (by decide +kernel))) dX7_readsTimes_36 ?_
          rw [show M_25 o 11 = nI (k) from (show M_25 o 11 = nI (k) from (h_25.2.2.2.o11 (hG.o11 h11)))]
          refine cq_imul F dX7_readsTimes_39 ?_
          rw [show (6 * nI k : Int32) = nI (6 * k) from pk_mul _ _]
          refine cq_aload_n F (i := 0) dX7_readsTimes_40 rfl rfl ?_
          refine cq_getT (t := (o + 8)) F (C := RX7) (T := TX7) (N := 22) (ci := 8) ho.kind rfl ⟨⟨by decide, by decide⟩, rfl⟩ inX7 13 (by decide) rfl rfl ho.t13 (F.1.2.2.2.2 _ (List.mem_of_getElem? (l := wsX7_readsTimes) (i := 1) (a := .fieldLink RX7 32 "CordClockModel" "one" "[I") (by decide +kernel))) dX7_readsTimes_41 ?_
          refine cq_aload_n F (i := 0) dX7_readsTimes_44 rfl rfl ?_
          refine cq_getI F (C := RX7) (T := TX7) (N := 22) (ci := 8) ho.kind rfl ⟨⟨by decide, by decide⟩, rfl⟩ inX7 11 (by decide) rfl rfl (F.1.2.2.2.2 _ (List.mem_of_getElem? (l := wsX7_readsTimes) (i := 2) (a := .fieldLink RX7 151 "CordClockModel" "orders" "I") (by decide +kernel))) dX7_readsTimes_45 ?_
          rw [show M_25 o 11 = nI (k) from (show M_25 o 11 = nI (k) from (h_25.2.2.2.o11 (hG.o11 h11)))]
          refine cq_iald_j F (j := k) ho.k8 ho.n8 rfl ⟨(by omega), by decide⟩ dX7_readsTimes_48 ?_
          rw [show M_25 (o + 8) k = nI (i) from (show M_25 (o + 8) k = nI (i) from (by rw [h_25.2.2.2.1 _ (by omega)]; exact hC.2.2.1))]
          refine cq_iadd F dX7_readsTimes_49 ?_
          rw [show (nI (6 * k) + nI i : Int32) = nI (6 * k + i) from nI_add _ _]
          refine cq_aload_n F (i := 0) dX7_readsTimes_50 rfl rfl ?_
          refine cq_getI F (C := RX7) (T := TX7) (N := 22) (ci := 8) ho.kind rfl ⟨⟨by decide, by decide⟩, rfl⟩ inX7 10 (by decide) rfl rfl (F.1.2.2.2.2 _ (List.mem_of_getElem? (l := wsX7_readsTimes) (i := 4) (a := .fieldLink RX7 148 "CordClockModel" "number" "I") (by decide +kernel))) dX7_readsTimes_51 ?_
          rw [show M_25 o 10 = nI ((tx_n (tx_s t len) 60 p0).1) from (show M_25 o 10 = nI ((tx_n (tx_s t len) 60 p0).1) from h_25.2.2.1.1)]
          refine cq_iast_j F (j := (6 * k + i)) ho.k11 ho.n11 rfl ⟨(by omega), by decide⟩ dX7_readsTimes_54 (fun M_54 h_54 => ?_)
          refine cq_aload_n F (i := 0) dX7_readsTimes_55 rfl rfl ?_
          refine cq_getT (t := (o + 8)) F (C := RX7) (T := TX7) (N := 22) (ci := 8) ho.kind rfl ⟨⟨by decide, by decide⟩, rfl⟩ inX7 13 (by decide) rfl rfl ho.t13 (F.1.2.2.2.2 _ (List.mem_of_getElem? (l := wsX7_readsTimes) (i := 1) (a := .fieldLink RX7 32 "CordClockModel" "one" "[I") (by decide +kernel))) dX7_readsTimes_56 ?_
          refine cq_aload_n F (i := 0) dX7_readsTimes_59 rfl rfl ?_
          refine cq_getI F (C := RX7) (T := TX7) (N := 22) (ci := 8) ho.kind rfl ⟨⟨by decide, by decide⟩, rfl⟩ inX7 11 (by decide) rfl rfl (F.1.2.2.2.2 _ (List.mem_of_getElem? (l := wsX7_readsTimes) (i := 2) (a := .fieldLink RX7 151 "CordClockModel" "orders" "I") (by decide +kernel))) dX7_readsTimes_60 ?_
          rw [show M_54 o 11 = nI (k) from (show M_54 o 11 = nI (k) from (by rw [h_54, cq_up_a (by omega)]; exact (h_25.2.2.2.o11 (hG.o11 h11))))]
          refine cq_dup2 F dX7_readsTimes_63 rfl rfl ?_
          refine cq_iald_j F (j := k) ho.k8 ho.n8 rfl ⟨(by omega), by decide⟩ dX7_readsTimes_64 ?_
          rw [show M_54 (o + 8) k = nI (i) from (show M_54 (o + 8) k = nI (i) from (by rw [h_54, cq_up_a (by omega)]; exact (by rw [h_25.2.2.2.1 _ (by omega)]; exact hC.2.2.1)))]
          refine cq_iconst F (v := 1) dX7_readsTimes_65 rfl ?_
          refine cq_iadd F dX7_readsTimes_66 ?_
          rw [show (nI i + 1 : Int32) = nI (i + 1) from nI_add _ _]
          refine cq_iast_j F (j := k) ho.k8 ho.n8 rfl ⟨(by omega), by decide⟩ dX7_readsTimes_67 (fun M_67 h_67 => ?_)
          have hg67 : tm_G M M_67 o k := ((hG.trans (h_25.2.2.2.G k)).up h_54 (Or.inr ⟨rfl, by omega⟩)).up h_67 (Or.inl ⟨by omega, by omega, Nat.le_refl _⟩)
          have hsq := (hm.s (tx_n (tx_s t len) 60 p0).2)
          refine cq_iload_n F (i := 1) dX7_readsTimes_68 rfl rfl ?_
          refine cq_if_eq F (tgt := 99) dX7_readsTimes_69 (by decide) (fun c_69 => ?_) (fun c_69 => ?_)
          · have c_69 := cq_b0 h_25.1 c_69
            refine cq_iconst F (v := 0) dX7_readsTimes_99 rfl ?_
            refine cq_istore_n F (i := 2) dX7_readsTimes_100 rfl (by decide) ?_
            refine cq_goto F (tgt := 14) dX7_readsTimes_101 (by decide) ?_
            refine cq_loc (L2 := [(0, .ref o), (1, .int r_25), (2, .int 0)]) rfl ?_
            exact ih_14 r_25 0 (i + 1) ((tx_n (tx_s t len) 60 p0).2 + 1) (pre ++ [(tx_n (tx_s t len) 60 p0).1]) M_67 (fun z => absurd rfl z.2) (fun _ => by first | exact hC.last (show (tx_n (tx_s t len) 60 p0).1 ≠ 0 by omega) (Or.inl (by omega)) (by rw [h_67, cq_up_a (by omega), h_54, cq_up_a (by omega)]; exact h_25.2.1.1) h_25.2.1.2 (by rw [h_25.1, if_pos c_69]) (by rw [h_67]; exact cq_up_s _ _ _ _) (by rw [h_67, cq_up_a (by omega), h_54]; exact cq_up_s _ _ _ _) (fun j hj => by rw [h_67, cq_up_a (by omega), h_54, cq_up_k (by omega), h_25.2.2.2.1 _ (by omega)]) | exact hC.bad (by omega) (by rw [h_67, cq_up_a (by omega), h_54, cq_up_a (by omega)]; exact h_25.2.1.1) h_25.2.1.2 (by rw [h_25.1, if_neg c_69])) (hg67) (by omega)
          · have c_69 := cq_b1 h_25.1 c_69
            refine cq_aload_n F (i := 0) dX7_readsTimes_72 rfl rfl ?_
            refine cq_getT (t := (o + 8)) F (C := RX7) (T := TX7) (N := 22) (ci := 8) ho.kind rfl ⟨⟨by decide, by decide⟩, rfl⟩ inX7 13 (by decide) rfl rfl ho.t13 (F.1.2.2.2.2 _ (List.mem_of_getElem? (l := wsX7_readsTimes) (i := 1) (a := .fieldLink RX7 32 "CordClockModel" "one" "[I") (by decide +kernel))) dX7_readsTimes_73 ?_
            refine cq_aload_n F (i := 0) dX7_readsTimes_76 rfl rfl ?_
            refine cq_getI F (C := RX7) (T := TX7) (N := 22) (ci := 8) ho.kind rfl ⟨⟨by decide, by decide⟩, rfl⟩ inX7 11 (by decide) rfl rfl (F.1.2.2.2.2 _ (List.mem_of_getElem? (l := wsX7_readsTimes) (i := 2) (a := .fieldLink RX7 151 "CordClockModel" "orders" "I") (by decide +kernel))) dX7_readsTimes_77 ?_
            rw [show M_67 o 11 = nI (k) from (show M_67 o 11 = nI (k) from (by rw [h_67, cq_up_a (by omega), h_54, cq_up_a (by omega)]; exact (h_25.2.2.2.o11 (hG.o11 h11))))]
            refine cq_iald_j F (j := k) ho.k8 ho.n8 rfl ⟨(by omega), by decide⟩ dX7_readsTimes_80 ?_
            rw [show M_67 (o + 8) k = nI ((i + 1)) from (show M_67 (o + 8) k = nI ((i + 1)) from (by rw [h_67]; exact cq_up_s _ _ _ _))]
            refine cq_bipush F (v := 6) dX7_readsTimes_81 (by decide) ?_
            refine cq_icmp_ge F (tgt := 99) dX7_readsTimes_83 (by decide) (fun c_83 => ?_) (fun c_83 => ?_)
            · have c_83 : 6 ≤ (i + 1) := (nI_b (a := 6) (b := (i + 1)) (by omega) (by omega)).1.mp c_83
              refine cq_iconst F (v := 0) dX7_readsTimes_99 rfl ?_
              refine cq_istore_n F (i := 2) dX7_readsTimes_100 rfl (by decide) ?_
              refine cq_goto F (tgt := 14) dX7_readsTimes_101 (by decide) ?_
              refine cq_loc (L2 := [(0, .ref o), (1, .int r_25), (2, .int 0)]) rfl ?_
              exact ih_14 r_25 0 (i + 1) ((tx_n (tx_s t len) 60 p0).2 + 1) (pre ++ [(tx_n (tx_s t len) 60 p0).1]) M_67 (fun z => absurd rfl z.2) (fun _ => by first | exact hC.last (show (tx_n (tx_s t len) 60 p0).1 ≠ 0 by omega) (Or.inl (by omega)) (by rw [h_67, cq_up_a (by omega), h_54, cq_up_a (by omega)]; exact h_25.2.1.1) h_25.2.1.2 (by rw [h_25.1, if_pos c_69]) (by rw [h_67]; exact cq_up_s _ _ _ _) (by rw [h_67, cq_up_a (by omega), h_54]; exact cq_up_s _ _ _ _) (fun j hj => by rw [h_67, cq_up_a (by omega), h_54, cq_up_k (by omega), h_25.2.2.2.1 _ (by omega)]) | exact hC.bad (by omega) (by rw [h_67, cq_up_a (by omega), h_54, cq_up_a (by omega)]; exact h_25.2.1.1) h_25.2.1.2 (by rw [h_25.1, if_neg c_69])) (hg67) (by omega)
            · have c_83 : ¬ 6 ≤ (i + 1) := fun z => c_83 ((nI_b (a := 6) (b := (i + 1)) (by omega) (by omega)).1.mpr z)
              refine cq_aload_n F (i := 0) dX7_readsTimes_86 rfl rfl ?_
              refine cq_bipush F (v := 46) dX7_readsTimes_87 (by decide) ?_
              refine cq_callV F (C := RX7) (ci := 8) (kX7_takes l D cA X Bs o len ((tx_n (tx_s t len) 60 p0).2) t 46 M_67 ho (hg67.m hm) hlen (by rw [h_67, cq_up_a (by omega), h_54, cq_up_a (by omega)]; exact h_25.2.1.1) h_25.2.1.2 (by decide)) (cwV 1 F.1.2.2.2.2 gX7_readsTimes_X7_takes rfl rfl rfl hdVX7_takes ⟨Nat.le_of_ble_eq_true rfl, Nat.le_of_ble_eq_true rfl⟩) ho.kind ⟨by decide, by decide⟩ rfl rfl rfl (Nat.le_of_ble_eq_true rfl) dX7_readsTimes_89 ⟨Nat.le_of_ble_eq_true rfl, Nat.le_of_ble_eq_true rfl⟩ (cq_kI fun r_89 M_89 h_89 => ?_)
              refine cq_if_eq F (tgt := 99) dX7_readsTimes_92 (by decide) (fun c_92 => ?_) (fun c_92 => ?_)
              · have c_92 := cq_b0 h_89.1 c_92
                have hp_89 : M_89 o 9 = nI ((tx_n (tx_s t len) 60 p0).2) := by have z := h_89.2.1.1; rwa [tx_t, if_neg c_92] at z
                refine cq_iconst F (v := 0) dX7_readsTimes_99 rfl ?_
                refine cq_istore_n F (i := 2) dX7_readsTimes_100 rfl (by decide) ?_
                refine cq_goto F (tgt := 14) dX7_readsTimes_101 (by decide) ?_
                refine cq_loc (L2 := [(0, .ref o), (1, .int r_25), (2, .int 0)]) rfl ?_
                exact ih_14 r_25 0 (i + 1) ((tx_n (tx_s t len) 60 p0).2 + 1) (pre ++ [(tx_n (tx_s t len) 60 p0).1]) M_89 (fun z => absurd rfl z.2) (fun _ => hC.last (show (tx_n (tx_s t len) 60 p0).1 ≠ 0 by omega) (Or.inr c_92) hp_89 h_25.2.1.2 (by rw [h_25.1, if_pos c_69]) (by rw [h_89.2.2.1 _ (by omega)]; rw [h_67]; exact cq_up_s _ _ _ _) (by rw [h_89.2.2.1 _ (by omega)]; rw [h_67, cq_up_a (by omega), h_54]; exact cq_up_s _ _ _ _) (fun j hj => by rw [h_89.2.2.1 _ (by omega)]; rw [h_67, cq_up_a (by omega), h_54, cq_up_k (by omega), h_25.2.2.2.1 _ (by omega)])) (hg67.trans (h_89.2.2.G k)) (by omega)
              · have c_92 := cq_b1 h_89.1 c_92
                have hp_89 : M_89 o 9 = nI ((tx_n (tx_s t len) 60 p0).2 + 1) := by have z := h_89.2.1.1; rwa [tx_t, if_pos c_92] at z
                refine cq_iconst F (v := 1) dX7_readsTimes_95 rfl ?_
                refine cq_goto F (tgt := 100) dX7_readsTimes_96 (by decide) ?_
                refine cq_istore_n F (i := 2) dX7_readsTimes_100 rfl (by decide) ?_
                refine cq_goto F (tgt := 14) dX7_readsTimes_101 (by decide) ?_
                refine cq_loc (L2 := [(0, .ref o), (1, .int r_25), (2, .int 1)]) rfl ?_
                exact ih_14 r_25 1 (i + 1) ((tx_n (tx_s t len) 60 p0).2 + 1) (pre ++ [(tx_n (tx_s t len) 60 p0).1]) M_89 (fun _ => hC.next (show (tx_n (tx_s t len) 60 p0).1 ≠ 0 by omega) (by omega) c_92 hp_89 (by omega) (by rw [h_89.2.2.1 _ (by omega)]; rw [h_67]; exact cq_up_s _ _ _ _) (by rw [h_89.2.2.1 _ (by omega)]; rw [h_67, cq_up_a (by omega), h_54]; exact cq_up_s _ _ _ _) (fun j hj => by rw [h_89.2.2.1 _ (by omega)]; rw [h_67, cq_up_a (by omega), h_54, cq_up_k (by omega), h_25.2.2.2.1 _ (by omega)])) (fun z => by rcases z with z | z; rw [h_25.1, if_pos c_69] at z; exact absurd z (by decide); exact absurd z (by decide)) (hg67.trans (h_89.2.2.G k)) (by omega)
  refine cq_aload_n F (i := 0) dX7_readsTimes_0 rfl rfl ?_
  refine cq_getT (t := (o + 8)) F (C := RX7) (T := TX7) (N := 22) (ci := 8) ho.kind rfl ⟨⟨by decide, by decide⟩, rfl⟩ inX7 13 (by decide) rfl rfl ho.t13 (F.1.2.2.2.2 _ (List.mem_of_getElem? (l := wsX7_readsTimes) (i := 1) (a := .fieldLink RX7 32 "CordClockModel" "one" "[I") (by decide +kernel))) dX7_readsTimes_1 ?_
  refine cq_aload_n F (i := 0) dX7_readsTimes_4 rfl rfl ?_
  refine cq_getI F (C := RX7) (T := TX7) (N := 22) (ci := 8) ho.kind rfl ⟨⟨by decide, by decide⟩, rfl⟩ inX7 11 (by decide) rfl rfl (F.1.2.2.2.2 _ (List.mem_of_getElem? (l := wsX7_readsTimes) (i := 2) (a := .fieldLink RX7 151 "CordClockModel" "orders" "I") (by decide +kernel))) dX7_readsTimes_5 ?_
  rw [show M o 11 = nI (k) from (show M o 11 = nI (k) from h11)]
  refine cq_iconst F (v := 0) dX7_readsTimes_8 rfl ?_
  refine cq_iast_j F (j := k) ho.k8 ho.n8 rfl ⟨(by omega), by decide⟩ dX7_readsTimes_9 (fun M_9 h_9 => ?_)
  refine cq_iconst F (v := 1) dX7_readsTimes_10 rfl ?_
  refine cq_istore_n F (i := 1) dX7_readsTimes_11 rfl (by decide) ?_
  refine cq_iconst F (v := 1) dX7_readsTimes_12 rfl ?_
  refine cq_istore_n F (i := 2) dX7_readsTimes_13 rfl (by decide) ?_
  refine cq_loc (L2 := [(0, .ref o), (1, .int 1), (2, .int 1)]) rfl ?_
  exact loop_14 8 1 1 0 p [] M_9 (fun _ => ⟨⟨by omega, rfl⟩, rfl, by rw [h_9]; exact cq_up_s _ _ _ _, fun j hj => absurd hj (by omega), by rw [h_9, cq_up_a (by omega)]; exact hp, hp9⟩) (fun z => by rcases z with z | z <;> exact absurd z (by decide)) (tm_G.rf.up h_9 (Or.inl ⟨by omega, by omega, Nat.le_refl _⟩)) (by omega)
theorem hdVX7_readsTimes : yX7_readsTimes.cls = RX7 ∧ yX7_readsTimes.cls ≠ "java/lang/invoke/MethodHandle" ∧ yX7_readsTimes.cls ≠ "java/lang/invoke/VarHandle" ∧ (parseMethodDescriptor yX7_readsTimes.desc).map (fun d => d.parameters.length) = some 0 := by decide +kernel
