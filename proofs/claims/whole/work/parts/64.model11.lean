/-! CordClockModel: readers of order texts -/
def tm_M (M : cq_M) (o : Nat) (t : Nat → Nat) (len : Nat) : Prop := M o 8 = nI len ∧ (∀ j, j < len → M (o + 6) j = nI (t j)) ∧ ∀ j, j < len → 33 ≤ t j ∧ t j ≤ 126
theorem tm_M.ext {M M1 : cq_M} {o len : Nat} {t : Nat → Nat} (h : tm_M M o t len) (h1 : M1 o 8 = M o 8) (h2 : ∀ j, M1 (o + 6) j = M (o + 6) j) : tm_M M1 o t len := ⟨by rw [h1]; exact h.1, fun j hj => by rw [h2]; exact h.2.1 j hj, h.2.2⟩
theorem tm_M.s {M : cq_M} {o len : Nat} {t : Nat → Nat} (h : tm_M M o t len) (p : Nat) : tx_s t len p ≤ 126 ∧ (tx_s t len p = 0 ∨ (33 ≤ tx_s t len p ∧ p < len)) := by
  unfold tx_s
  by_cases e : p < len
  · rw [if_pos e]
    have := h.2.2 p e
    omega
  · rw [if_neg e]
    omega
/-- a reader changes the place and the number alone -/
def tm_F (M M1 : cq_M) (o : Nat) : Prop := (∀ x, x ≠ o → M1 x = M x) ∧ ∀ j, j ≠ 9 → j ≠ 10 → M1 o j = M o j
theorem tm_F.rf {M : cq_M} {o : Nat} : tm_F M M o := ⟨fun _ _ => rfl, fun _ _ _ => rfl⟩
theorem tm_F.trans {M M1 M2 : cq_M} {o : Nat} (h : tm_F M M1 o) (h2 : tm_F M1 M2 o) : tm_F M M2 o := ⟨fun x hx => by rw [h2.1 x hx, h.1 x hx], fun j j1 j2 => by rw [h2.2 j j1 j2, h.2 j j1 j2]⟩
theorem tm_F.up {M M1 M2 : cq_M} {o k : Nat} {v : Int32} (h : tm_F M M1 o) (h2 : M2 = cq_up M1 o k v) (hk : k = 9 ∨ k = 10) : tm_F M M2 o := ⟨fun x hx => by rw [h2, cq_up_row hx, h.1 x hx], fun j j1 j2 => by rw [h2, cq_up_k (by omega), h.2 j j1 j2]⟩
theorem tm_F.m {M M1 : cq_M} {o len : Nat} {t : Nat → Nat} (h : tm_F M M1 o) (hm : tm_M M o t len) : tm_M M1 o t len := hm.ext (h.2 8 (by omega) (by omega)) (fun j => by rw [h.1 _ (by omega)])
abbrev rmX7_sign : Room := ({ frames := 0, cells := 0, slots := 0, locals := 0 })
set_option maxHeartbeats 4000000 in
set_option maxRecDepth 100000 in
theorem kX7_sign (l : Launch) (D : va_G) (cA : Nat → ClassId) (X : cq_X) (Bs : Nat) (o len p : Nat) (t : Nat → Nat) (M : cq_M) (ho : cq_isModel X o) (hm : tm_M M o t len) (hlen : len ≤ 60) (hp : M o 9 = nI p) (hp9 : p ≤ 60) : cq_C l yX7_sign wsX7_sign rmX7_sign D cA X Bs [.ref o] M (cq_PI (fun r M1 => r = nI (tx_s t len p) ∧ M1 = M)) 0 0 := by
  refine cq_met (cc := cX7_sign) (maxL := 1) (ret := (some .int)) (by decide) rfl (Nat.le_of_ble_eq_true rfl) [(0, .ref o)] rfl rfl ?_
  intro p9 e9 s9 m9 b9 t9 c9 F hr
  have inX7 : ∀ w ∈ wsX70, w ∈ wsX7_sign := (fun w h => List.mem_cons_of_mem _ (List.mem_append_right _ h))
  refine cq_aload_n F (i := 0) dX7_sign_0 rfl rfl ?_
  refine cq_getI F (C := RX7) (T := TX7) (N := 22) (ci := 8) ho.kind rfl ⟨⟨by decide, by decide⟩, rfl⟩ inX7 9 (by decide) rfl rfl (F.1.2.2.2.2 _ (List.mem_of_getElem? (l := wsX7_sign) (i := 1) (a := .fieldLink RX7 142 "CordClockModel" "spot" "I") (by decide +kernel))) dX7_sign_1 ?_
  rw [show M o 9 = nI (p) from (show M o 9 = nI (p) from hp)]
  refine cq_aload_n F (i := 0) dX7_sign_4 rfl rfl ?_
  refine cq_getI F (C := RX7) (T := TX7) (N := 22) (ci := 8) ho.kind rfl ⟨⟨by decide, by decide⟩, rfl⟩ inX7 8 (by decide) rfl rfl (F.1.2.2.2.2 _ (List.mem_of_getElem? (l := wsX7_sign) (i := 2) (a := .fieldLink RX7 139 "CordClockModel" "length" "I") (by decide +kernel))) dX7_sign_5 ?_
  rw [show M o 8 = nI (len) from (show M o 8 = nI (len) from hm.1)]
  refine cq_icmp_ge F (tgt := 23) dX7_sign_8 (by decide) (fun c_8 => ?_) (fun c_8 => ?_)
  · have c_8 : len ≤ p := (nI_b (a := len) (b := p) (by omega) (by omega)).1.mp c_8
    refine cq_iconst F (v := 0) dX7_sign_23 rfl ?_
    exact cq_iret F hr (by decide) (by decide) dX7_sign_24 ⟨_, rfl, ⟨by unfold tx_s; first | exact congrArg nI (if_pos (by omega)).symm | exact congrArg nI (if_neg (by omega)).symm, rfl⟩⟩
  · have c_8 : ¬ len ≤ p := fun z => c_8 ((nI_b (a := len) (b := p) (by omega) (by omega)).1.mpr z)
    refine cq_aload_n F (i := 0) dX7_sign_11 rfl rfl ?_
    refine cq_getT (t := (o + 6)) F (C := RX7) (T := TX7) (N := 22) (ci := 8) ho.kind rfl ⟨⟨by decide, by decide⟩, rfl⟩ inX7 7 (by decide) rfl rfl ho.t7 (F.1.2.2.2.2 _ (List.mem_of_getElem? (l := wsX7_sign) (i := 3) (a := .fieldLink RX7 26 "CordClockModel" "buffer" "[I") (by decide +kernel))) dX7_sign_12 ?_
    refine cq_aload_n F (i := 0) dX7_sign_15 rfl rfl ?_
    refine cq_getI F (C := RX7) (T := TX7) (N := 22) (ci := 8) ho.kind rfl ⟨⟨by decide, by decide⟩, rfl⟩ inX7 9 (by decide) rfl rfl (F.1.2.2.2.2 _ (List.mem_of_getElem? (l := wsX7_sign) (i := 1) (a := .fieldLink RX7 142 "CordClockModel" "spot" "I") (by decide +kernel))) dX7_sign_16 ?_
    rw [show M o 9 = nI (p) from (show M o 9 = nI (p) from hp)]
    refine cq_iald_j F (j := p) ho.k6 ho.n6 rfl ⟨(by omega), by decide⟩ dX7_sign_19 ?_
    rw [hm.2.1 p (by omega)]
    refine cq_goto F (tgt := 24) dX7_sign_20 (by decide) ?_
    exact cq_iret F hr (by decide) (by decide) dX7_sign_24 ⟨_, rfl, ⟨by unfold tx_s; first | exact congrArg nI (if_pos (by omega)).symm | exact congrArg nI (if_neg (by omega)).symm, rfl⟩⟩
theorem hdVX7_sign : yX7_sign.cls = RX7 ∧ yX7_sign.cls ≠ "java/lang/invoke/MethodHandle" ∧ yX7_sign.cls ≠ "java/lang/invoke/VarHandle" ∧ (parseMethodDescriptor yX7_sign.desc).map (fun d => d.parameters.length) = some 0 := by decide +kernel
abbrev rmX7_takes : Room := ({ frames := 1, cells := 0, slots := 0, locals := 20 })
set_option maxHeartbeats 4000000 in
set_option maxRecDepth 100000 in
theorem kX7_takes (l : Launch) (D : va_G) (cA : Nat → ClassId) (X : cq_X) (Bs : Nat) (o len p : Nat) (t : Nat → Nat) (c : Nat) (M : cq_M) (ho : cq_isModel X o) (hm : tm_M M o t len) (hlen : len ≤ 60) (hp : M o 9 = nI p) (hp9 : p ≤ 60) (hc : 0 < c ∧ c < 1000) : cq_C l yX7_takes wsX7_takes rmX7_takes D cA X Bs [.ref o, .int (nI c)] M (cq_PI (fun r M1 => r = (if tx_s t len p = c then 1 else 0) ∧ (M1 o 9 = nI (tx_t (tx_s t len) c p) ∧ tx_t (tx_s t len) c p ≤ 60) ∧ tm_F M M1 o)) 0 0 := by
  refine cq_met (cc := cX7_takes) (maxL := 3) (ret := (some .boolean)) (by decide) rfl (Nat.le_of_ble_eq_true rfl) [(0, .ref o), (1, .int (nI c))] rfl rfl ?_
  intro p9 e9 s9 m9 b9 t9 c9 F hr
  have inX7 : ∀ w ∈ wsX70, w ∈ wsX7_takes := (fun w h => List.mem_cons_of_mem _ (List.mem_append_right _ h))
  have hs9 := hm.s p
  refine cq_aload_n F (i := 0) dX7_takes_0 rfl rfl ?_
  refine cq_callV F (C := RX7) (ci := 8) (kX7_sign l D cA X Bs o len p t M ho hm hlen hp hp9) (cwV 0 F.1.2.2.2.2 gX7_takes_X7_sign rfl rfl rfl hdVX7_sign ⟨Nat.le_of_ble_eq_true rfl, Nat.le_of_ble_eq_true rfl⟩) ho.kind ⟨by decide, by decide⟩ rfl rfl rfl (Nat.le_of_ble_eq_true rfl) dX7_takes_1 ⟨Nat.le_of_ble_eq_true rfl, Nat.le_of_ble_eq_true rfl⟩ (cq_kIp fun r_1 h_1 => ?_)
  subst h_1
  refine cq_iload_n F (i := 1) dX7_takes_4 rfl rfl ?_
  refine cq_icmp_ne F (tgt := 12) dX7_takes_5 (by decide) (fun c_5 => ?_) (fun c_5 => ?_)
  · have c_5 : ¬ (tx_s t len p) = c := fun z => c_5 ((nI_b (a := (tx_s t len p)) (b := c) (by omega) (by omega)).2.2.mpr z)
    refine cq_iconst F (v := 0) dX7_takes_12 rfl ?_
    refine cq_istore_n F (i := 2) dX7_takes_13 rfl (by decide) ?_
    refine cq_aload_n F (i := 0) dX7_takes_14 rfl rfl ?_
    refine cq_dup F dX7_takes_15 rfl ?_
    refine cq_getI F (C := RX7) (T := TX7) (N := 22) (ci := 8) ho.kind rfl ⟨⟨by decide, by decide⟩, rfl⟩ inX7 9 (by decide) rfl rfl (F.1.2.2.2.2 _ (List.mem_of_getElem? (l := wsX7_takes) (i := 1) (a := .fieldLink RX7 142 "CordClockModel" "spot" "I") (by decide +kernel))) dX7_takes_16 ?_
    rw [show M o 9 = nI (p) from (show M o 9 = nI (p) from hp)]
    refine cq_iload_n F (i := 2) dX7_takes_19 rfl rfl ?_
    refine cq_if_eq F (tgt := 27) dX7_takes_20 (by decide) (fun c_20 => ?_) (fun c_20 => ?_)
    · have c_20 : 0 = 0 := (nI_b (a := 0) (b := 0) (by omega) (by omega)).2.2.mp c_20
      refine cq_iconst F (v := 0) dX7_takes_27 rfl ?_
      refine cq_iadd F dX7_takes_28 ?_
      rw [show (nI p + 0 : Int32) = nI (p + 0) from nI_add _ _]
      refine cq_put F (C := RX7) (T := TX7) (N := 22) (ci := 8) ho.kind rfl ⟨⟨by decide, by decide⟩, rfl⟩ inX7 tyX7 tyX7_ok nmX7 9 (by decide) rfl rfl (F.1.2.2.2.2 _ (List.mem_of_getElem? (l := wsX7_takes) (i := 1) (a := .fieldLink RX7 142 "CordClockModel" "spot" "I") (by decide +kernel))) rfl (by rfl) (by rfl) dX7_takes_29 (fun M_29 h_29 => ?_)
      refine cq_iload_n F (i := 2) dX7_takes_32 rfl rfl ?_
      exact cq_zret F hr (by rfl) (by decide) (by decide) dX7_takes_33 ⟨_, rfl, ⟨by first | exact (if_pos c_5).symm | exact (if_neg c_5).symm, by unfold tx_t; first | (rw [if_pos c_5]; exact ⟨by rw [h_29]; exact cq_up_s _ _ _ _, by omega⟩) | (rw [if_neg c_5]; exact ⟨by rw [h_29]; exact cq_up_s _ _ _ _, by omega⟩), tm_F.rf.up h_29 (Or.inl rfl)⟩⟩
    · have c_20 : ¬ 0 = 0 := fun z => c_20 ((nI_b (a := 0) (b := 0) (by omega) (by omega)).2.2.mpr z)
      omega
  · have c_5 : (tx_s t len p) = c := (nI_b (a := (tx_s t len p)) (b := c) (by omega) (by omega)).2.2.mp c_5
    refine cq_iconst F (v := 1) dX7_takes_8 rfl ?_
    refine cq_goto F (tgt := 13) dX7_takes_9 (by decide) ?_
    refine cq_istore_n F (i := 2) dX7_takes_13 rfl (by decide) ?_
    refine cq_aload_n F (i := 0) dX7_takes_14 rfl rfl ?_
    refine cq_dup F dX7_takes_15 rfl ?_
    refine cq_getI F (C := RX7) (T := TX7) (N := 22) (ci := 8) ho.kind rfl ⟨⟨by decide, by decide⟩, rfl⟩ inX7 9 (by decide) rfl rfl (F.1.2.2.2.2 _ (List.mem_of_getElem? (l := wsX7_takes) (i := 1) (a := .fieldLink RX7 142 "CordClockModel" "spot" "I") (by decide +kernel))) dX7_takes_16 ?_
    rw [show M o 9 = nI (p) from (show M o 9 = nI (p) from hp)]
    refine cq_iload_n F (i := 2) dX7_takes_19 rfl rfl ?_
    refine cq_if_eq F (tgt := 27) dX7_takes_20 (by decide) (fun c_20 => ?_) (fun c_20 => ?_)
    · have c_20 : 1 = 0 := (nI_b (a := 1) (b := 0) (by omega) (by omega)).2.2.mp c_20
      omega
    · have c_20 : ¬ 1 = 0 := fun z => c_20 ((nI_b (a := 1) (b := 0) (by omega) (by omega)).2.2.mpr z)
      refine cq_iconst F (v := 1) dX7_takes_23 rfl ?_
      refine cq_goto F (tgt := 28) dX7_takes_24 (by decide) ?_
      refine cq_iadd F dX7_takes_28 ?_
      rw [show (nI p + 1 : Int32) = nI (p + 1) from nI_add _ _]
      refine cq_put F (C := RX7) (T := TX7) (N := 22) (ci := 8) ho.kind rfl ⟨⟨by decide, by decide⟩, rfl⟩ inX7 tyX7 tyX7_ok nmX7 9 (by decide) rfl rfl (F.1.2.2.2.2 _ (List.mem_of_getElem? (l := wsX7_takes) (i := 1) (a := .fieldLink RX7 142 "CordClockModel" "spot" "I") (by decide +kernel))) rfl (by rfl) (by rfl) dX7_takes_29 (fun M_29 h_29 => ?_)
      refine cq_iload_n F (i := 2) dX7_takes_32 rfl rfl ?_
      exact cq_zret F hr (by rfl) (by decide) (by decide) dX7_takes_33 ⟨_, rfl, ⟨by first | exact (if_pos c_5).symm | exact (if_neg c_5).symm, by unfold tx_t; first | (rw [if_pos c_5]; exact ⟨by rw [h_29]; exact cq_up_s _ _ _ _, by omega⟩) | (rw [if_neg c_5]; exact ⟨by rw [h_29]; exact cq_up_s _ _ _ _, by omega⟩), tm_F.rf.up h_29 (Or.inl rfl)⟩⟩
theorem hdVX7_takes : yX7_takes.cls = RX7 ∧ yX7_takes.cls ≠ "java/lang/invoke/MethodHandle" ∧ yX7_takes.cls ≠ "java/lang/invoke/VarHandle" ∧ (parseMethodDescriptor yX7_takes.desc).map (fun d => d.parameters.length) = some 1 := by decide +kernel
theorem nX7_in (l : Launch) (D : va_G) (cA : Nat → ClassId) (X : cq_X) (Bs v a b : Nat) (M : cq_M) (hv : v < 1000000) (ha : a < 1000000) (hb : b < 1000000) : cq_C l yX7_in wsX7_in rmX7_in D cA X Bs [.int (nI v), .int (nI a), .int (nI b)] M (cq_PI (fun r M1 => r = (if a ≤ v ∧ v ≤ b then 1 else 0) ∧ M1 = M)) 0 0 :=
  (kX7_in l D cA X Bs (nI v) (nI a) (nI b) M).impI (fun r M1 hp => ⟨by rw [hp.1]; exact cq_ifc ⟨fun z => ⟨(nI_leI (by omega) (by omega)).mp z.1, (nI_leI (by omega) (by omega)).mp z.2⟩, fun z => ⟨nI_le z.1 (by omega), nI_le z.2 (by omega)⟩⟩, hp.2⟩)
theorem tx_ng_end {s : Nat → Nat} {most f n p : Nat} (h : ¬ tx_d s most n p) : tx_ng s most f n p = (n, p) := by
  cases f with
  | zero => rfl
  | succ f => rw [tx_ng, if_neg h]
theorem tx_ng_go {s : Nat → Nat} {most i n p : Nat} (hi : i < 3) (h : tx_d s most n p) : tx_ng s most (3 - i) n p = tx_ng s most (3 - (i + 1)) (10 * n + s p - 48) (p + 1) := by
  rw [show 3 - i = 3 - (i + 1) + 1 by omega, tx_ng, if_pos h]
abbrev rmX7_readsNumber : Room := ({ frames := 1, cells := 0, slots := 0, locals := 22 })
set_option maxHeartbeats 4000000 in
set_option maxRecDepth 100000 in
theorem kX7_readsNumber (l : Launch) (D : va_G) (cA : Nat → ClassId) (X : cq_X) (Bs : Nat) (o len p0 most : Nat) (t : Nat → Nat) (M : cq_M) (ho : cq_isModel X o) (hm : tm_M M o t len) (hlen : len ≤ 60) (hp : M o 9 = nI p0) (hpl0 : p0 ≤ 60) (hmo : most ≤ 200) : cq_C l yX7_readsNumber wsX7_readsNumber rmX7_readsNumber D cA X Bs [.ref o, .int (nI most)] M (cq_PI (fun r M1 => r = (if 0 < (tx_n (tx_s t len) most p0).1 then 1 else 0) ∧ (M1 o 9 = nI (tx_n (tx_s t len) most p0).2 ∧ (tx_n (tx_s t len) most p0).2 ≤ 60) ∧ (M1 o 10 = nI (tx_n (tx_s t len) most p0).1 ∧ (tx_n (tx_s t len) most p0).1 ≤ most) ∧ tm_F M M1 o)) 0 0 := by
  refine cq_met (cc := cX7_readsNumber) (maxL := 2) (ret := (some .boolean)) (by decide) rfl (Nat.le_of_ble_eq_true rfl) [(0, .ref o), (1, .int (nI most))] rfl rfl ?_
  intro p9 e9 s9 m9 b9 t9 c9 F hr
  have inX7 : ∀ w ∈ wsX70, w ∈ wsX7_readsNumber := (fun w h => List.mem_cons_of_mem _ (List.mem_append_right _ h))
  have loop_5 : ∀ (n_5 : Nat) (i n p : Nat) (M2 : cq_M), i ≤ 3 → tx_n (tx_s t len) most p0 = tx_ng (tx_s t len) most (3 - i) n p → (i = 0 → n = 0) → (1 ≤ i → 1 ≤ n) → (2 ≤ i → 10 ≤ n) → (3 ≤ i → 100 ≤ n) → n ≤ most → p ≤ 60 → M2 o 9 = nI p → M2 o 10 = nI n → tm_F M M2 o → 4 - i < n_5 → cq_V p9 l e9 rmX7_readsNumber s9 m9 ([.ref o, .int (nI most)] : List Value).toArray b9 t9 c9 D cA X Bs 2 0 0 (MQ b9 (cq_Q D cA X Bs (cq_PI (fun r M1 => r = (if 0 < (tx_n (tx_s t len) most p0).1 then 1 else 0) ∧ (M1 o 9 = nI (tx_n (tx_s t len) most p0).2 ∧ (tx_n (tx_s t len) most p0).2 ≤ 60) ∧ (M1 o 10 = nI (tx_n (tx_s t len) most p0).1 ∧ (tx_n (tx_s t len) most p0).1 ≤ most) ∧ tm_F M M1 o))) ([.ref o, .int (nI most)] : List Value).toArray s9 0 0 (cq_A Bs)) 5 [(0, .ref o), (1, .int (nI most))] [] M2 := by
    intro n_5
    induction n_5 with
    | zero =>
      intros
      omega
    | succ n_5 ih_5 =>
      intro i n p M2 hi hres h0 h1 h2 h3 hnm hpl hp9 hn10 hF hn
      have hs9 := (hF.m hm).s p
      refine cq_aload_n F (i := 0) dX7_readsNumber_5 rfl rfl ?_
      refine cq_callV F (C := RX7) (ci := 8) (kX7_sign l D cA X Bs o len (p) t M2 ho (hF.m hm) hlen hp9 hpl) (cwV 0 F.1.2.2.2.2 gX7_readsNumber_X7_sign rfl rfl rfl hdVX7_sign ⟨Nat.le_of_ble_eq_true rfl, Nat.le_of_ble_eq_true rfl⟩) ho.kind ⟨by decide, by decide⟩ rfl rfl rfl (Nat.le_of_ble_eq_true rfl) dX7_readsNumber_6 ⟨Nat.le_of_ble_eq_true rfl, Nat.le_of_ble_eq_true rfl⟩ (cq_kIp fun r_6 h_6 => ?_)
      subst h_6
      refine cq_aload_n F (i := 0) dX7_readsNumber_9 rfl rfl ?_
      refine cq_getI F (C := RX7) (T := TX7) (N := 22) (ci := 8) ho.kind rfl ⟨⟨by decide, by decide⟩, rfl⟩ inX7 10 (by decide) rfl rfl (F.1.2.2.2.2 _ (List.mem_of_getElem? (l := wsX7_readsNumber) (i := 1) (a := .fieldLink RX7 148 "CordClockModel" "number" "I") (by decide +kernel))) dX7_readsNumber_10 ?_
      rw [show M2 o 10 = nI (n) from (show M2 o 10 = nI (n) from hn10)]
      refine cq_if_ne F (tgt := 21) dX7_readsNumber_13 (by decide) (fun c_13 => ?_) (fun c_13 => ?_)
      · have c_13 : ¬ n = 0 := fun z => c_13 ((nI_b (a := n) (b := 0) (by omega) (by omega)).2.2.mpr z)
        refine cq_bipush F (v := 48) dX7_readsNumber_21 (by decide) ?_
        refine cq_bipush F (v := 57) dX7_readsNumber_23 (by decide) ?_
        refine cq_callS F (nX7_in l D cA X Bs (tx_s t len p) 48 57 M2 (by omega) (by omega) (by omega)) (va_cwS 3 F.1.2.2.2.2 gX7_readsNumber_X7_in rfl rfl rfl hdVX7_in.2 ⟨Nat.le_of_ble_eq_true rfl, Nat.le_of_ble_eq_true rfl⟩) rfl (Nat.le_of_ble_eq_true rfl) dX7_readsNumber_25 ⟨Nat.le_of_ble_eq_true rfl, Nat.le_of_ble_eq_true rfl⟩ (cq_kIp fun r_25 h_25 => ?_)
        refine cq_if_eq F (tgt := 82) dX7_readsNumber_28 (by decide) (fun c_28 => ?_) (fun c_28 => ?_)
        · have c_28 := cq_b0 h_25 c_28
          have hdd : ¬ tx_d (tx_s t len) most n p := fun z => by
            have z1 := z.1
            first
            | (rw [if_neg c_13] at z1; exact c_28 z1)
            | (rw [if_pos c_13] at z1; exact c_28 z1)
          refine cq_aload_n F (i := 0) dX7_readsNumber_82 rfl rfl ?_
          refine cq_getI F (C := RX7) (T := TX7) (N := 22) (ci := 8) ho.kind rfl ⟨⟨by decide, by decide⟩, rfl⟩ inX7 10 (by decide) rfl rfl (F.1.2.2.2.2 _ (List.mem_of_getElem? (l := wsX7_readsNumber) (i := 1) (a := .fieldLink RX7 148 "CordClockModel" "number" "I") (by decide +kernel))) dX7_readsNumber_83 ?_
          rw [show M2 o 10 = nI (n) from (show M2 o 10 = nI (n) from hn10)]
          refine cq_if_le F (tgt := 93) dX7_readsNumber_86 (by decide) (fun c_86 => ?_) (fun c_86 => ?_)
          · have c_86 : n ≤ 0 := (nI_b (a := n) (b := 0) (by omega) (by omega)).1.mp c_86
            refine cq_iconst F (v := 0) dX7_readsNumber_93 rfl ?_
            refine cq_zret F hr (by rfl) (by decide) (by decide) dX7_readsNumber_94 ⟨_, rfl, ?_⟩
            have hr9 : tx_n (tx_s t len) most p0 = (n, p) := hres.trans (tx_ng_end hdd)
            rw [hr9]
            exact ⟨by first | exact (if_pos (by omega)).symm | exact (if_neg (by omega)).symm, ⟨hp9, hpl⟩, ⟨hn10, hnm⟩, hF⟩
          · have c_86 : ¬ n ≤ 0 := fun z => c_86 ((nI_b (a := n) (b := 0) (by omega) (by omega)).1.mpr z)
            refine cq_iconst F (v := 1) dX7_readsNumber_89 rfl ?_
            refine cq_goto F (tgt := 94) dX7_readsNumber_90 (by decide) ?_
            refine cq_zret F hr (by rfl) (by decide) (by decide) dX7_readsNumber_94 ⟨_, rfl, ?_⟩
            have hr9 : tx_n (tx_s t len) most p0 = (n, p) := hres.trans (tx_ng_end hdd)
            rw [hr9]
            exact ⟨by first | exact (if_pos (by omega)).symm | exact (if_neg (by omega)).symm, ⟨hp9, hpl⟩, ⟨hn10, hnm⟩, hF⟩
        · have c_28 := cq_b1 h_25 c_28
          refine cq_bipush F (v := 10) dX7_readsNumber_31 (by decide) ?_
          refine cq_aload_n F (i := 0) dX7_readsNumber_33 rfl rfl ?_
          refine cq_getI F (C := RX7) (T := TX7) (N := 22) (ci := 8) ho.kind rfl ⟨⟨by decide, by decide⟩, rfl⟩ inX7 10 (by decide) rfl rfl (F.1.2.2.2.2 _ (List.mem_of_getElem? (l := wsX7_readsNumber) (i := 1) (a := .fieldLink RX7 148 "CordClockModel" "number" "I") (by decide +kernel))) dX7_readsNumber_34 ?_
          rw [show M2 o 10 = nI (n) from (show M2 o 10 = nI (n) from hn10)]
          refine cq_imul F dX7_readsNumber_37 ?_
          rw [show (10 * nI n : Int32) = nI (10 * n) from pk_mul _ _]
          refine cq_aload_n F (i := 0) dX7_readsNumber_38 rfl rfl ?_
          refine cq_callV F (C := RX7) (ci := 8) (kX7_sign l D cA X Bs o len (p) t M2 ho (hF.m hm) hlen hp9 hpl) (cwV 0 F.1.2.2.2.2 gX7_readsNumber_X7_sign rfl rfl rfl hdVX7_sign ⟨Nat.le_of_ble_eq_true rfl, Nat.le_of_ble_eq_true rfl⟩) ho.kind ⟨by decide, by decide⟩ rfl rfl rfl (Nat.le_of_ble_eq_true rfl) dX7_readsNumber_39 ⟨Nat.le_of_ble_eq_true rfl, Nat.le_of_ble_eq_true rfl⟩ (cq_kIp fun r_39 h_39 => ?_)
          subst h_39
          refine cq_iadd F dX7_readsNumber_42 ?_
          rw [show (nI (10 * n) + nI (tx_s t len (p)) : Int32) = nI (10 * n + (tx_s t len (p))) from nI_add _ _]
          refine cq_bipush F (v := 48) dX7_readsNumber_43 (by decide) ?_
          refine cq_isub F dX7_readsNumber_45 ?_
          rw [show (nI (10 * n + (tx_s t len (p))) - 48 : Int32) = nI ((10 * n + (tx_s t len (p))) - 48) from pk_sub (a := (10 * n + (tx_s t len (p)))) (b := 48) (by omega)]
          refine cq_iload_n F (i := 1) dX7_readsNumber_46 rfl rfl ?_
          refine cq_icmp_gt F (tgt := 82) dX7_readsNumber_47 (by decide) (fun c_47 => ?_) (fun c_47 => ?_)
          · have c_47 : most < ((10 * n + (tx_s t len (p))) - 48) := (nI_b (a := most) (b := ((10 * n + (tx_s t len (p))) - 48)) (by omega) (by omega)).2.1.mp c_47
            have hdd : ¬ tx_d (tx_s t len) most n p := fun z => by have := z.2; omega
            refine cq_aload_n F (i := 0) dX7_readsNumber_82 rfl rfl ?_
            refine cq_getI F (C := RX7) (T := TX7) (N := 22) (ci := 8) ho.kind rfl ⟨⟨by decide, by decide⟩, rfl⟩ inX7 10 (by decide) rfl rfl (F.1.2.2.2.2 _ (List.mem_of_getElem? (l := wsX7_readsNumber) (i := 1) (a := .fieldLink RX7 148 "CordClockModel" "number" "I") (by decide +kernel))) dX7_readsNumber_83 ?_
            rw [show M2 o 10 = nI (n) from (show M2 o 10 = nI (n) from hn10)]
            refine cq_if_le F (tgt := 93) dX7_readsNumber_86 (by decide) (fun c_86 => ?_) (fun c_86 => ?_)
            · have c_86 : n ≤ 0 := (nI_b (a := n) (b := 0) (by omega) (by omega)).1.mp c_86
              refine cq_iconst F (v := 0) dX7_readsNumber_93 rfl ?_
              refine cq_zret F hr (by rfl) (by decide) (by decide) dX7_readsNumber_94 ⟨_, rfl, ?_⟩
              have hr9 : tx_n (tx_s t len) most p0 = (n, p) := hres.trans (tx_ng_end hdd)
              rw [hr9]
              exact ⟨by first | exact (if_pos (by omega)).symm | exact (if_neg (by omega)).symm, ⟨hp9, hpl⟩, ⟨hn10, hnm⟩, hF⟩
            · have c_86 : ¬ n ≤ 0 := fun z => c_86 ((nI_b (a := n) (b := 0) (by omega) (by omega)).1.mpr z)
              refine cq_iconst F (v := 1) dX7_readsNumber_89 rfl ?_
              refine cq_goto F (tgt := 94) dX7_readsNumber_90 (by decide) ?_
              refine cq_zret F hr (by rfl) (by decide) (by decide) dX7_readsNumber_94 ⟨_, rfl, ?_⟩
              have hr9 : tx_n (tx_s t len) most p0 = (n, p) := hres.trans (tx_ng_end hdd)
              rw [hr9]
              exact ⟨by first | exact (if_pos (by omega)).symm | exact (if_neg (by omega)).symm, ⟨hp9, hpl⟩, ⟨hn10, hnm⟩, hF⟩
          · have c_47 : ¬ most < ((10 * n + (tx_s t len (p))) - 48) := fun z => c_47 ((nI_b (a := most) (b := ((10 * n + (tx_s t len (p))) - 48)) (by omega) (by omega)).2.1.mpr z)
            have hdd : tx_d (tx_s t len) most n p := by
              first
              | exact ⟨⟨by rw [if_neg c_13]; exact c_28.1, c_28.2⟩, by omega⟩
              | exact ⟨⟨by rw [if_pos c_13]; exact c_28.1, c_28.2⟩, by omega⟩
            have hi3 : i < 3 := by
              refine Nat.lt_of_not_le (fun z => ?_)
              have := h3 z
              omega
            refine cq_aload_n F (i := 0) dX7_readsNumber_50 rfl rfl ?_
            refine cq_bipush F (v := 10) dX7_readsNumber_51 (by decide) ?_
            refine cq_aload_n F (i := 0) dX7_readsNumber_53 rfl rfl ?_
            refine cq_getI F (C := RX7) (T := TX7) (N := 22) (ci := 8) ho.kind rfl ⟨⟨by decide, by decide⟩, rfl⟩ inX7 10 (by decide) rfl rfl (F.1.2.2.2.2 _ (List.mem_of_getElem? (l := wsX7_readsNumber) (i := 1) (a := .fieldLink RX7 148 "CordClockModel" "number" "I") (by decide +kernel))) dX7_readsNumber_54 ?_
            rw [show M2 o 10 = nI (n) from (show M2 o 10 = nI (n) from hn10)]
            refine cq_imul F dX7_readsNumber_57 ?_
            rw [show (10 * nI n : Int32) = nI (10 * n) from pk_mul _ _]
            refine cq_aload_n F (i := 0) dX7_readsNumber_58 rfl rfl ?_
            refine cq_callV F (C := RX7) (ci := 8) (kX7_sign l D cA X Bs o len (p) t M2 ho (hF.m hm) hlen hp9 hpl) (cwV 0 F.1.2.2.2.2 gX7_readsNumber_X7_sign rfl rfl rfl hdVX7_sign ⟨Nat.le_of_ble_eq_true rfl, Nat.le_of_ble_eq_true rfl⟩) ho.kind ⟨by decide, by decide⟩ rfl rfl rfl (Nat.le_of_ble_eq_true rfl) dX7_readsNumber_59 ⟨Nat.le_of_ble_eq_true rfl, Nat.le_of_ble_eq_true rfl⟩ (cq_kIp fun r_59 h_59 => ?_)
            subst h_59
            refine cq_iadd F dX7_readsNumber_62 ?_
            rw [show (nI (10 * n) + nI (tx_s t len (p)) : Int32) = nI (10 * n + (tx_s t len (p))) from nI_add _ _]
            refine cq_bipush F (v := 48) dX7_readsNumber_63 (by decide) ?_
            refine cq_isub F dX7_readsNumber_65 ?_
            rw [show (nI (10 * n + (tx_s t len (p))) - 48 : Int32) = nI ((10 * n + (tx_s t len (p))) - 48) from pk_sub (a := (10 * n + (tx_s t len (p)))) (b := 48) (by omega)]
            refine cq_put F (C := RX7) (T := TX7) (N := 22) (ci := 8) ho.kind rfl ⟨⟨by decide, by decide⟩, rfl⟩ inX7 tyX7 tyX7_ok nmX7 10 (by decide) rfl rfl (F.1.2.2.2.2 _ (List.mem_of_getElem? (l := wsX7_readsNumber) (i := 1) (a := .fieldLink RX7 148 "CordClockModel" "number" "I") (by decide +kernel))) rfl (by rfl) (by rfl) dX7_readsNumber_66 (fun M_66 h_66 => ?_)
            refine cq_aload_n F (i := 0) dX7_readsNumber_69 rfl rfl ?_
            refine cq_dup F dX7_readsNumber_70 rfl ?_
            refine cq_getI F (C := RX7) (T := TX7) (N := 22) (ci := 8) ho.kind rfl ⟨⟨by decide, by decide⟩, rfl⟩ inX7 9 (by decide) rfl rfl (F.1.2.2.2.2 _ (List.mem_of_getElem? (l := wsX7_readsNumber) (i := 2) (a := .fieldLink RX7 142 "CordClockModel" "spot" "I") (by decide +kernel))) dX7_readsNumber_71 ?_
            rw [show M_66 o 9 = nI (p) from (show M_66 o 9 = nI (p) from (by rw [h_66, cq_up_k (by omega)]; exact hp9))]
            refine cq_iconst F (v := 1) dX7_readsNumber_74 rfl ?_
            refine cq_iadd F dX7_readsNumber_75 ?_
            rw [show (nI p + 1 : Int32) = nI (p + 1) from nI_add _ _]
            refine cq_put F (C := RX7) (T := TX7) (N := 22) (ci := 8) ho.kind rfl ⟨⟨by decide, by decide⟩, rfl⟩ inX7 tyX7 tyX7_ok nmX7 9 (by decide) rfl rfl (F.1.2.2.2.2 _ (List.mem_of_getElem? (l := wsX7_readsNumber) (i := 2) (a := .fieldLink RX7 142 "CordClockModel" "spot" "I") (by decide +kernel))) rfl (by rfl) (by rfl) dX7_readsNumber_76 (fun M_76 h_76 => ?_)
            refine cq_goto F (tgt := 5) dX7_readsNumber_79 (by decide) ?_
            refine cq_loc (L2 := [(0, .ref o), (1, .int (nI most))]) rfl ?_
            exact ih_5 (i + 1) (10 * n + tx_s t len p - 48) (p + 1) M_76 (by omega) (by rw [hres, tx_ng_go (by omega) hdd]) (fun z => absurd z (by omega)) (fun _ => by omega) (fun _ => by omega) (fun _ => by omega) (by omega) (by omega) (by rw [h_76]; exact cq_up_s _ _ _ _) (by rw [h_76, cq_up_k (by omega), h_66]; exact cq_up_s _ _ _ _) ((hF.up h_66 (Or.inr rfl)).up h_76 (Or.inl rfl)) (by omega)
      · have c_13 : n = 0 := (nI_b (a := n) (b := 0) (by omega) (by omega)).2.2.mp c_13
        refine cq_bipush F (v := 49) dX7_readsNumber_16 (by decide) ?_
        refine cq_goto F (tgt := 23) dX7_readsNumber_18 (by decide) ?_
        refine cq_bipush F (v := 57) dX7_readsNumber_23 (by decide) ?_
        refine cq_callS F (nX7_in l D cA X Bs (tx_s t len p) 49 57 M2 (by omega) (by omega) (by omega)) (va_cwS 3 F.1.2.2.2.2 gX7_readsNumber_X7_in rfl rfl rfl hdVX7_in.2 ⟨Nat.le_of_ble_eq_true rfl, Nat.le_of_ble_eq_true rfl⟩) rfl (Nat.le_of_ble_eq_true rfl) dX7_readsNumber_25 ⟨Nat.le_of_ble_eq_true rfl, Nat.le_of_ble_eq_true rfl⟩ (cq_kIp fun r_25 h_25 => ?_)
        refine cq_if_eq F (tgt := 82) dX7_readsNumber_28 (by decide) (fun c_28 => ?_) (fun c_28 => ?_)
        · have c_28 := cq_b0 h_25 c_28
          have hdd : ¬ tx_d (tx_s t len) most n p := fun z => by
            have z1 := z.1
            first
            | (rw [if_neg c_13] at z1; exact c_28 z1)
            | (rw [if_pos c_13] at z1; exact c_28 z1)
          refine cq_aload_n F (i := 0) dX7_readsNumber_82 rfl rfl ?_
          refine cq_getI F (C := RX7) (T := TX7) (N := 22) (ci := 8) ho.kind rfl ⟨⟨by decide, by decide⟩, rfl⟩ inX7 10 (by decide) rfl rfl (F.1.2.2.2.2 _ (List.mem_of_getElem? (l := wsX7_readsNumber) (i := 1) (a := .fieldLink RX7 148 "CordClockModel" "number" "I") (by decide +kernel))) dX7_readsNumber_83 ?_
          rw [show M2 o 10 = nI (n) from (show M2 o 10 = nI (n) from hn10)]
          refine cq_if_le F (tgt := 93) dX7_readsNumber_86 (by decide) (fun c_86 => ?_) (fun c_86 => ?_)
          · have c_86 : n ≤ 0 := (nI_b (a := n) (b := 0) (by omega) (by omega)).1.mp c_86
            refine cq_iconst F (v := 0) dX7_readsNumber_93 rfl ?_
            refine cq_zret F hr (by rfl) (by decide) (by decide) dX7_readsNumber_94 ⟨_, rfl, ?_⟩
            have hr9 : tx_n (tx_s t len) most p0 = (n, p) := hres.trans (tx_ng_end hdd)
            rw [hr9]
            exact ⟨by first | exact (if_pos (by omega)).symm | exact (if_neg (by omega)).symm, ⟨hp9, hpl⟩, ⟨hn10, hnm⟩, hF⟩
          · have c_86 : ¬ n ≤ 0 := fun z => c_86 ((nI_b (a := n) (b := 0) (by omega) (by omega)).1.mpr z)
            refine cq_iconst F (v := 1) dX7_readsNumber_89 rfl ?_
            refine cq_goto F (tgt := 94) dX7_readsNumber_90 (by decide) ?_
            refine cq_zret F hr (by rfl) (by decide) (by decide) dX7_readsNumber_94 ⟨_, rfl, ?_⟩
            have hr9 : tx_n (tx_s t len) most p0 = (n, p) := hres.trans (tx_ng_end hdd)
            rw [hr9]
            exact ⟨by first | exact (if_pos (by omega)).symm | exact (if_neg (by omega)).symm, ⟨hp9, hpl⟩, ⟨hn10, hnm⟩, hF⟩
        · have c_28 := cq_b1 h_25 c_28
          refine cq_bipush F (v := 10) dX7_readsNumber_31 (by decide) ?_
          refine cq_aload_n F (i := 0) dX7_readsNumber_33 rfl rfl ?_
          refine cq_getI F (C := RX7) (T := TX7) (N := 22) (ci := 8) ho.kind rfl ⟨⟨by decide, by decide⟩, rfl⟩ inX7 10 (by decide) rfl rfl (F.1.2.2.2.2 _ (List.mem_of_getElem? (l := wsX7_readsNumber) (i := 1) (a := .fieldLink RX7 148 "CordClockModel" "number" "I") (by decide +kernel))) dX7_readsNumber_34 ?_
          rw [show M2 o 10 = nI (n) from (show M2 o 10 = nI (n) from hn10)]
          refine cq_imul F dX7_readsNumber_37 ?_
          rw [show (10 * nI n : Int32) = nI (10 * n) from pk_mul _ _]
          refine cq_aload_n F (i := 0) dX7_readsNumber_38 rfl rfl ?_
          refine cq_callV F (C := RX7) (ci := 8) (kX7_sign l D cA X Bs o len (p) t M2 ho (hF.m hm) hlen hp9 hpl) (cwV 0 F.1.2.2.2.2 gX7_readsNumber_X7_sign rfl rfl rfl hdVX7_sign ⟨Nat.le_of_ble_eq_true rfl, Nat.le_of_ble_eq_true rfl⟩) ho.kind ⟨by decide, by decide⟩ rfl rfl rfl (Nat.le_of_ble_eq_true rfl) dX7_readsNumber_39 ⟨Nat.le_of_ble_eq_true rfl, Nat.le_of_ble_eq_true rfl⟩ (cq_kIp fun r_39 h_39 => ?_)
          subst h_39
          refine cq_iadd F dX7_readsNumber_42 ?_
          rw [show (nI (10 * n) + nI (tx_s t len (p)) : Int32) = nI (10 * n + (tx_s t len (p))) from nI_add _ _]
          refine cq_bipush F (v := 48) dX7_readsNumber_43 (by decide) ?_
          refine cq_isub F dX7_readsNumber_45 ?_
          rw [show (nI (10 * n + (tx_s t len (p))) - 48 : Int32) = nI ((10 * n + (tx_s t len (p))) - 48) from pk_sub (a := (10 * n + (tx_s t len (p)))) (b := 48) (by omega)]
          refine cq_iload_n F (i := 1) dX7_readsNumber_46 rfl rfl ?_
          refine cq_icmp_gt F (tgt := 82) dX7_readsNumber_47 (by decide) (fun c_47 => ?_) (fun c_47 => ?_)
          · have c_47 : most < ((10 * n + (tx_s t len (p))) - 48) := (nI_b (a := most) (b := ((10 * n + (tx_s t len (p))) - 48)) (by omega) (by omega)).2.1.mp c_47
            have hdd : ¬ tx_d (tx_s t len) most n p := fun z => by have := z.2; omega
            refine cq_aload_n F (i := 0) dX7_readsNumber_82 rfl rfl ?_
            refine cq_getI F (C := RX7) (T := TX7) (N := 22) (ci := 8) ho.kind rfl ⟨⟨by decide, by decide⟩, rfl⟩ inX7 10 (by decide) rfl rfl (F.1.2.2.2.2 _ (List.mem_of_getElem? (l := wsX7_readsNumber) (i := 1) (a := .fieldLink RX7 148 "CordClockModel" "number" "I") (by decide +kernel))) dX7_readsNumber_83 ?_
            rw [show M2 o 10 = nI (n) from (show M2 o 10 = nI (n) from hn10)]
            refine cq_if_le F (tgt := 93) dX7_readsNumber_86 (by decide) (fun c_86 => ?_) (fun c_86 => ?_)
            · have c_86 : n ≤ 0 := (nI_b (a := n) (b := 0) (by omega) (by omega)).1.mp c_86
              refine cq_iconst F (v := 0) dX7_readsNumber_93 rfl ?_
              refine cq_zret F hr (by rfl) (by decide) (by decide) dX7_readsNumber_94 ⟨_, rfl, ?_⟩
              have hr9 : tx_n (tx_s t len) most p0 = (n, p) := hres.trans (tx_ng_end hdd)
              rw [hr9]
              exact ⟨by first | exact (if_pos (by omega)).symm | exact (if_neg (by omega)).symm, ⟨hp9, hpl⟩, ⟨hn10, hnm⟩, hF⟩
            · have c_86 : ¬ n ≤ 0 := fun z => c_86 ((nI_b (a := n) (b := 0) (by omega) (by omega)).1.mpr z)
              refine cq_iconst F (v := 1) dX7_readsNumber_89 rfl ?_
              refine cq_goto F (tgt := 94) dX7_readsNumber_90 (by decide) ?_
              refine cq_zret F hr (by rfl) (by decide) (by decide) dX7_readsNumber_94 ⟨_, rfl, ?_⟩
              have hr9 : tx_n (tx_s t len) most p0 = (n, p) := hres.trans (tx_ng_end hdd)
              rw [hr9]
              exact ⟨by first | exact (if_pos (by omega)).symm | exact (if_neg (by omega)).symm, ⟨hp9, hpl⟩, ⟨hn10, hnm⟩, hF⟩
          · have c_47 : ¬ most < ((10 * n + (tx_s t len (p))) - 48) := fun z => c_47 ((nI_b (a := most) (b := ((10 * n + (tx_s t len (p))) - 48)) (by omega) (by omega)).2.1.mpr z)
            have hdd : tx_d (tx_s t len) most n p := by
              first
              | exact ⟨⟨by rw [if_neg c_13]; exact c_28.1, c_28.2⟩, by omega⟩
              | exact ⟨⟨by rw [if_pos c_13]; exact c_28.1, c_28.2⟩, by omega⟩
            have hi3 : i < 3 := by
              refine Nat.lt_of_not_le (fun z => ?_)
              have := h3 z
              omega
            refine cq_aload_n F (i := 0) dX7_readsNumber_50 rfl rfl ?_
            refine cq_bipush F (v := 10) dX7_readsNumber_51 (by decide) ?_
            refine cq_aload_n F (i := 0) dX7_readsNumber_53 rfl rfl ?_
            refine cq_getI F (C := RX7) (T := TX7) (N := 22) (ci := 8) ho.kind rfl ⟨⟨by decide, by decide⟩, rfl⟩ inX7 10 (by decide) rfl rfl (F.1.2.2.2.2 _ (List.mem_of_getElem? (l := wsX7_readsNumber) (i := 1) (a := .fieldLink RX7 148 "CordClockModel" "number" "I") (by decide +kernel))) dX7_readsNumber_54 ?_
            rw [show M2 o 10 = nI (n) from (show M2 o 10 = nI (n) from hn10)]
            refine cq_imul F dX7_readsNumber_57 ?_
            rw [show (10 * nI n : Int32) = nI (10 * n) from pk_mul _ _]
            refine cq_aload_n F (i := 0) dX7_readsNumber_58 rfl rfl ?_
            refine cq_callV F (C := RX7) (ci := 8) (kX7_sign l D cA X Bs o len (p) t M2 ho (hF.m hm) hlen hp9 hpl) (cwV 0 F.1.2.2.2.2 gX7_readsNumber_X7_sign rfl rfl rfl hdVX7_sign ⟨Nat.le_of_ble_eq_true rfl, Nat.le_of_ble_eq_true rfl⟩) ho.kind ⟨by decide, by decide⟩ rfl rfl rfl (Nat.le_of_ble_eq_true rfl) dX7_readsNumber_59 ⟨Nat.le_of_ble_eq_true rfl, Nat.le_of_ble_eq_true rfl⟩ (cq_kIp fun r_59 h_59 => ?_)
            subst h_59
            refine cq_iadd F dX7_readsNumber_62 ?_
            rw [show (nI (10 * n) + nI (tx_s t len (p)) : Int32) = nI (10 * n + (tx_s t len (p))) from nI_add _ _]
            refine cq_bipush F (v := 48) dX7_readsNumber_63 (by decide) ?_
            refine cq_isub F dX7_readsNumber_65 ?_
            rw [show (nI (10 * n + (tx_s t len (p))) - 48 : Int32) = nI ((10 * n + (tx_s t len (p))) - 48) from pk_sub (a := (10 * n + (tx_s t len (p)))) (b := 48) (by omega)]
            refine cq_put F (C := RX7) (T := TX7) (N := 22) (ci := 8) ho.kind rfl ⟨⟨by decide, by decide⟩, rfl⟩ inX7 tyX7 tyX7_ok nmX7 10 (by decide) rfl rfl (F.1.2.2.2.2 _ (List.mem_of_getElem? (l := wsX7_readsNumber) (i := 1) (a := .fieldLink RX7 148 "CordClockModel" "number" "I") (by decide +kernel))) rfl (by rfl) (by rfl) dX7_readsNumber_66 (fun M_66 h_66 => ?_)
            refine cq_aload_n F (i := 0) dX7_readsNumber_69 rfl rfl ?_
            refine cq_dup F dX7_readsNumber_70 rfl ?_
            refine cq_getI F (C := RX7) (T := TX7) (N := 22) (ci := 8) ho.kind rfl ⟨⟨by decide, by decide⟩, rfl⟩ inX7 9 (by decide) rfl rfl (F.1.2.2.2.2 _ (List.mem_of_getElem? (l := wsX7_readsNumber) (i := 2) (a := .fieldLink RX7 142 "CordClockModel" "spot" "I") (by decide +kernel))) dX7_readsNumber_71 ?_
            rw [show M_66 o 9 = nI (p) from (show M_66 o 9 = nI (p) from (by rw [h_66, cq_up_k (by omega)]; exact hp9))]
            refine cq_iconst F (v := 1) dX7_readsNumber_74 rfl ?_
            refine cq_iadd F dX7_readsNumber_75 ?_
            rw [show (nI p + 1 : Int32) = nI (p + 1) from nI_add _ _]
            refine cq_put F (C := RX7) (T := TX7) (N := 22) (ci := 8) ho.kind rfl ⟨⟨by decide, by decide⟩, rfl⟩ inX7 tyX7 tyX7_ok nmX7 9 (by decide) rfl rfl (F.1.2.2.2.2 _ (List.mem_of_getElem? (l := wsX7_readsNumber) (i := 2) (a := .fieldLink RX7 142 "CordClockModel" "spot" "I") (by decide +kernel))) rfl (by rfl) (by rfl) dX7_readsNumber_76 (fun M_76 h_76 => ?_)
            refine cq_goto F (tgt := 5) dX7_readsNumber_79 (by decide) ?_
            refine cq_loc (L2 := [(0, .ref o), (1, .int (nI most))]) rfl ?_
            exact ih_5 (i + 1) (10 * n + tx_s t len p - 48) (p + 1) M_76 (by omega) (by rw [hres, tx_ng_go (by omega) hdd]) (fun z => absurd z (by omega)) (fun _ => by omega) (fun _ => by omega) (fun _ => by omega) (by omega) (by omega) (by rw [h_76]; exact cq_up_s _ _ _ _) (by rw [h_76, cq_up_k (by omega), h_66]; exact cq_up_s _ _ _ _) ((hF.up h_66 (Or.inr rfl)).up h_76 (Or.inl rfl)) (by omega)
  refine cq_aload_n F (i := 0) dX7_readsNumber_0 rfl rfl ?_
  refine cq_iconst F (v := 0) dX7_readsNumber_1 rfl ?_
  refine cq_put F (C := RX7) (T := TX7) (N := 22) (ci := 8) ho.kind rfl ⟨⟨by decide, by decide⟩, rfl⟩ inX7 tyX7 tyX7_ok nmX7 10 (by decide) rfl rfl (F.1.2.2.2.2 _ (List.mem_of_getElem? (l := wsX7_readsNumber) (i := 1) (a := .fieldLink RX7 148 "CordClockModel" "number" "I") (by decide +kernel))) rfl (by rfl) (by rfl) dX7_readsNumber_2 (fun M_2 h_2 => ?_)
  refine cq_loc (L2 := [(0, .ref o), (1, .int (nI most))]) rfl ?_
  exact loop_5 5 0 0 p0 M_2 (by omega) rfl (fun _ => rfl) (fun z => absurd z (by omega)) (fun z => absurd z (by omega)) (fun z => absurd z (by omega)) (by omega) hpl0 (by rw [h_2, cq_up_k (by omega)]; exact hp) (by rw [h_2]; exact cq_up_s _ _ _ _) (tm_F.rf.up h_2 (Or.inr rfl)) (by omega)
theorem hdVX7_readsNumber : yX7_readsNumber.cls = RX7 ∧ yX7_readsNumber.cls ≠ "java/lang/invoke/MethodHandle" ∧ yX7_readsNumber.cls ≠ "java/lang/invoke/VarHandle" ∧ (parseMethodDescriptor yX7_readsNumber.desc).map (fun d => d.parameters.length) = some 1 := by decide +kernel
