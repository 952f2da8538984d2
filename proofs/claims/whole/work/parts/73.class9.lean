/-! the class: the reader of order texts -/
def tc_M (M : cq_M) (a : Nat) (t : Nat → Nat) (len : Nat) : Prop := M a 1 = nI len ∧ (∀ j, j < len → M (a + 1) j = nI (t j)) ∧ ∀ j, j < len → 33 ≤ t j ∧ t j ≤ 126
theorem tc_M.s {M : cq_M} {a len : Nat} {t : Nat → Nat} (h : tc_M M a t len) (p : Nat) : tx_s t len p ≤ 126 ∧ (tx_s t len p = 0 ∨ (33 ≤ tx_s t len p ∧ p < len)) := by
  unfold tx_s
  by_cases e : p < len
  · rw [if_pos e]
    have := h.2.2 p e
    omega
  · rw [if_neg e]
    omega
/-- the place alone is changed -/
def tc_2 (M M1 : cq_M) (a : Nat) : Prop := ∀ x j, ¬ (x = a ∧ j = 2) → M1 x j = M x j
theorem tc_2.rf {M : cq_M} {a : Nat} : tc_2 M M a := fun _ _ _ => rfl
theorem tc_2.trans {M M1 M2 : cq_M} {a : Nat} (h : tc_2 M M1 a) (h2 : tc_2 M1 M2 a) : tc_2 M M2 a := fun x j z => by rw [h2 x j z, h x j z]
theorem tc_2.up {M M1 : cq_M} {a : Nat} {v : Int32} (h : M1 = cq_up M a 2 v) : tc_2 M M1 a := fun x j z => by
  rw [h]
  by_cases e : x = a
  · subst e; exact cq_up_k (fun y => z ⟨rfl, y⟩)
  · exact cq_up_a e
theorem tc_2.m {M M1 : cq_M} {a len : Nat} {t : Nat → Nat} (h : tc_2 M M1 a) (hm : tc_M M a t len) : tc_M M1 a t len := ⟨by rw [h _ _ (by omega)]; exact hm.1, fun j hj => by rw [h _ _ (by omega)]; exact hm.2.1 j hj, hm.2.2⟩
theorem i32_48l {c l : Nat} (hc : c < 1000) (hl : l < 1000) : (nI c - 48 < nI l) ↔ c < 48 + l := by
  rw [Int32.lt_iff_toInt_lt, show (nI c - 48 : Int32) = nI c - nI 48 from rfl, pk_sub_toInt (by omega) (by omega), nI_toInt (by omega)]
  omega
theorem i32_48g {c l : Nat} (hc : c < 1000) (hl : l < 1000) : (nI c - 48 ≤ nI l) ↔ c ≤ 48 + l := by
  rw [Int32.le_iff_toInt_le, show (nI c - 48 : Int32) = nI c - nI 48 from rfl, pk_sub_toInt (by omega) (by omega), nI_toInt (by omega)]
  omega
abbrev tx_g (s : Nat → Nat) (l m p : Nat) : Prop := 48 + l ≤ s p ∧ s p ≤ 48 + m
abbrev rmX2_take : Room := ({ frames := 0, cells := 0, slots := 0, locals := 0 })
set_option maxHeartbeats 4000000 in
set_option maxRecDepth 100000 in
theorem kX2_take (l : Launch) (D : va_G) (cA : Nat → ClassId) (X : cq_X) (Bs : Nat) (a len p : Nat) (t : Nat → Nat) (c : Nat) (M : cq_M) (ha : cq_isText X a) (hm : tc_M M a t len) (hlen : len ≤ 60) (hp : M a 2 = nI p) (hp9 : p ≤ 60) (hc : 0 < c ∧ c < 1000) : cq_C l yX2_take wsX2_take rmX2_take D cA X Bs [.ref a, .int (nI c)] M (cq_PI (fun r M1 => r = (if tx_s t len p = c then 1 else 0) ∧ (M1 a 2 = nI (tx_t (tx_s t len) c p) ∧ tx_t (tx_s t len) c p ≤ 60) ∧ tc_2 M M1 a)) 0 0 := by
  refine cq_met (cc := cX2_take) (maxL := 3) (ret := (some .boolean)) (by decide) rfl (Nat.le_of_ble_eq_true rfl) [(0, .ref a), (1, .int (nI c))] rfl rfl ?_
  intro p9 e9 s9 m9 b9 t9 c9 F hr
  have inX2 : ∀ w ∈ wsX20, w ∈ wsX2_take := (fun w h => List.mem_cons_of_mem _ (List.mem_append_right _ h))
  have hs9 := hm.s p
  have hin : p < len → tx_s t len p = t p := fun z => if_pos z
  have hout : ¬ p < len → tx_s t len p = 0 := fun z => if_neg z
  have hb9 : p < len → t p ≤ 126 := fun z => (hm.2.2 p z).2
  refine cq_aload_n F (i := 0) dX2_take_0 rfl rfl ?_
  refine cq_getI F (C := RX2) (T := TX2) (N := 10) (ci := 3) ha.kind rfl ⟨⟨by decide, by decide⟩, rfl⟩ inX2 2 (by decide) rfl rfl (F.1.2.2.2.2 _ (List.mem_of_getElem? (l := wsX2_take) (i := 1) (a := .fieldLink RX2 23 "CordClock$OrderText" "at" "I") (by decide +kernel))) dX2_take_1 ?_
  rw [show M a 2 = nI (p) from (show M a 2 = nI (p) from hp)]
  refine cq_aload_n F (i := 0) dX2_take_4 rfl rfl ?_
  refine cq_getI F (C := RX2) (T := TX2) (N := 10) (ci := 3) ha.kind rfl ⟨⟨by decide, by decide⟩, rfl⟩ inX2 1 (by decide) rfl rfl (F.1.2.2.2.2 _ (List.mem_of_getElem? (l := wsX2_take) (i := 2) (a := .fieldLink RX2 19 "CordClock$OrderText" "length" "I") (by decide +kernel))) dX2_take_5 ?_
  rw [show M a 1 = nI (len) from (show M a 1 = nI (len) from hm.1)]
  refine cq_icmp_ge F (tgt := 37) dX2_take_8 (by decide) (fun c_8 => ?_) (fun c_8 => ?_)
  · have c_8 : len ≤ p := (nI_b (a := len) (b := p) (by omega) (by omega)).1.mp c_8
    refine cq_iconst F (v := 0) dX2_take_37 rfl ?_
    refine cq_istore_n F (i := 2) dX2_take_38 rfl (by decide) ?_
    refine cq_iload_n F (i := 2) dX2_take_39 rfl rfl ?_
    refine cq_if_eq F (tgt := 53) dX2_take_40 (by decide) (fun c_40 => ?_) (fun c_40 => ?_)
    · have c_40 : 0 = 0 := (nI_b (a := 0) (b := 0) (by omega) (by omega)).2.2.mp c_40
      refine cq_iload_n F (i := 2) dX2_take_53 rfl rfl ?_
      exact cq_zret F hr (by rfl) (by decide) (by decide) dX2_take_54 ⟨_, rfl, ⟨by first | exact (if_pos (by omega)).symm | exact (if_neg (by omega)).symm, by unfold tx_t; first | (rw [if_pos (by omega)]; exact ⟨by rw [h_50]; exact cq_up_s _ _ _ _, by omega⟩) | (rw [if_neg (by omega)]; exact ⟨hp, hp9⟩), by first | exact tc_2.up h_50 | exact tc_2.rf⟩⟩
    · have c_40 : ¬ 0 = 0 := fun z => c_40 ((nI_b (a := 0) (b := 0) (by omega) (by omega)).2.2.mpr z)
      omega
  · have c_8 : ¬ len ≤ p := fun z => c_8 ((nI_b (a := len) (b := p) (by omega) (by omega)).1.mpr z)
    refine cq_aload_n F (i := 0) dX2_take_11 rfl rfl ?_
    refine cq_getI F (C := RX2) (T := TX2) (N := 10) (ci := 3) ha.kind rfl ⟨⟨by decide, by decide⟩, rfl⟩ inX2 2 (by decide) rfl rfl (F.1.2.2.2.2 _ (List.mem_of_getElem? (l := wsX2_take) (i := 1) (a := .fieldLink RX2 23 "CordClock$OrderText" "at" "I") (by decide +kernel))) dX2_take_12 ?_
    rw [show M a 2 = nI (p) from (show M a 2 = nI (p) from hp)]
    refine cq_bipush F (v := 60) dX2_take_15 (by decide) ?_
    refine cq_icmp_ge F (tgt := 37) dX2_take_17 (by decide) (fun c_17 => ?_) (fun c_17 => ?_)
    · have c_17 : 60 ≤ p := (nI_b (a := 60) (b := p) (by omega) (by omega)).1.mp c_17
      refine cq_iconst F (v := 0) dX2_take_37 rfl ?_
      refine cq_istore_n F (i := 2) dX2_take_38 rfl (by decide) ?_
      refine cq_iload_n F (i := 2) dX2_take_39 rfl rfl ?_
      refine cq_if_eq F (tgt := 53) dX2_take_40 (by decide) (fun c_40 => ?_) (fun c_40 => ?_)
      · have c_40 : 0 = 0 := (nI_b (a := 0) (b := 0) (by omega) (by omega)).2.2.mp c_40
        refine cq_iload_n F (i := 2) dX2_take_53 rfl rfl ?_
        exact cq_zret F hr (by rfl) (by decide) (by decide) dX2_take_54 ⟨_, rfl, ⟨by first | exact (if_pos (by omega)).symm | exact (if_neg (by omega)).symm, by unfold tx_t; first | (rw [if_pos (by omega)]; exact ⟨by rw [h_50]; exact cq_up_s _ _ _ _, by omega⟩) | (rw [if_neg (by omega)]; exact ⟨hp, hp9⟩), by first | exact tc_2.up h_50 | exact tc_2.rf⟩⟩
      · have c_40 : ¬ 0 = 0 := fun z => c_40 ((nI_b (a := 0) (b := 0) (by omega) (by omega)).2.2.mpr z)
        omega
    · have c_17 : ¬ 60 ≤ p := fun z => c_17 ((nI_b (a := 60) (b := p) (by omega) (by omega)).1.mpr z)
      refine cq_aload_n F (i := 0) dX2_take_20 rfl rfl ?_
      refine cq_getT (t := (a + 1)) F (C := RX2) (T := TX2) (N := 10) (ci := 3) ha.kind rfl ⟨⟨by decide, by decide⟩, rfl⟩ inX2 0 (by decide) rfl rfl ha.t0 (F.1.2.2.2.2 _ (List.mem_of_getElem? (l := wsX2_take) (i := 3) (a := .fieldLink RX2 9 "CordClock$OrderText" "signs" "[C") (by decide +kernel))) dX2_take_21 ?_
      refine cq_aload_n F (i := 0) dX2_take_24 rfl rfl ?_
      refine cq_getI F (C := RX2) (T := TX2) (N := 10) (ci := 3) ha.kind rfl ⟨⟨by decide, by decide⟩, rfl⟩ inX2 2 (by decide) rfl rfl (F.1.2.2.2.2 _ (List.mem_of_getElem? (l := wsX2_take) (i := 1) (a := .fieldLink RX2 23 "CordClock$OrderText" "at" "I") (by decide +kernel))) dX2_take_25 ?_
      rw [show M a 2 = nI (p) from (show M a 2 = nI (p) from hp)]
      refine cq_cald_j F (j := p) ha.k1 ha.n1 rfl ⟨(by omega), by decide⟩ dX2_take_28 ?_
      rw [show M (a + 1) p = nI ((t (p))) from (hm.2.1 (p) (by omega))]
      refine cq_iload_n F (i := 1) dX2_take_29 rfl rfl ?_
      refine cq_icmp_ne F (tgt := 37) dX2_take_30 (by decide) (fun c_30 => ?_) (fun c_30 => ?_)
      · have c_30 : ¬ (t (p)) = c := fun z => c_30 ((nI_b (a := (t (p))) (b := c) (by omega) (by omega)).2.2.mpr z)
        refine cq_iconst F (v := 0) dX2_take_37 rfl ?_
        refine cq_istore_n F (i := 2) dX2_take_38 rfl (by decide) ?_
        refine cq_iload_n F (i := 2) dX2_take_39 rfl rfl ?_
        refine cq_if_eq F (tgt := 53) dX2_take_40 (by decide) (fun c_40 => ?_) (fun c_40 => ?_)
        · have c_40 : 0 = 0 := (nI_b (a := 0) (b := 0) (by omega) (by omega)).2.2.mp c_40
          refine cq_iload_n F (i := 2) dX2_take_53 rfl rfl ?_
          exact cq_zret F hr (by rfl) (by decide) (by decide) dX2_take_54 ⟨_, rfl, ⟨by first | exact (if_pos (by omega)).symm | exact (if_neg (by omega)).symm, by unfold tx_t; first | (rw [if_pos (by omega)]; exact ⟨by rw [h_50]; exact cq_up_s _ _ _ _, by omega⟩) | (rw [if_neg (by omega)]; exact ⟨hp, hp9⟩), by first | exact tc_2.up h_50 | exact tc_2.rf⟩⟩
        · have c_40 : ¬ 0 = 0 := fun z => c_40 ((nI_b (a := 0) (b := 0) (by omega) (by omega)).2.2.mpr z)
          omega
      · have c_30 : (t (p)) = c := (nI_b (a := (t (p))) (b := c) (by omega) (by omega)).2.2.mp c_30
        refine cq_iconst F (v := 1) dX2_take_33 rfl ?_
        refine cq_goto F (tgt := 38) dX2_take_34 (by decide) ?_
        refine cq_istore_n F (i := 2) dX2_take_38 rfl (by decide) ?_
        refine cq_iload_n F (i := 2) dX2_take_39 rfl rfl ?_
        refine cq_if_eq F (tgt := 53) dX2_take_40 (by decide) (fun c_40 => ?_) (fun c_40 => ?_)
        · have c_40 : 1 = 0 := (nI_b (a := 1) (b := 0) (by omega) (by omega)).2.2.mp c_40
          omega
        · have c_40 : ¬ 1 = 0 := fun z => c_40 ((nI_b (a := 1) (b := 0) (by omega) (by omega)).2.2.mpr z)
          refine cq_aload_n F (i := 0) dX2_take_43 rfl rfl ?_
          refine cq_dup F dX2_take_44 rfl ?_
          refine cq_getI F (C := RX2) (T := TX2) (N := 10) (ci := 3) ha.kind rfl ⟨⟨by decide, by decide⟩, rfl⟩ inX2 2 (by decide) rfl rfl (F.1.2.2.2.2 _ (List.mem_of_getElem? (l := wsX2_take) (i := 1) (a := .fieldLink RX2 23 "CordClock$OrderText" "at" "I") (by decide +kernel))) dX2_take_45 ?_
          rw [show M a 2 = nI (p) from (show M a 2 = nI (p) from hp)]
          refine cq_iconst F (v := 1) dX2_take_48 rfl ?_
          refine cq_iadd F dX2_take_49 ?_
          rw [show (nI p + 1 : Int32) = nI (p + 1) from nI_add _ _]
          refine cq_put F (C := RX2) (T := TX2) (N := 10) (ci := 3) ha.kind rfl ⟨⟨by decide, by decide⟩, rfl⟩ inX2 tyX2 tyX2_ok nmX2 2 (by decide) rfl rfl (F.1.2.2.2.2 _ (List.mem_of_getElem? (l := wsX2_take) (i := 1) (a := .fieldLink RX2 23 "CordClock$OrderText" "at" "I") (by decide +kernel))) rfl (by rfl) (by rfl) dX2_take_50 (fun M_50 h_50 => ?_)
          refine cq_iload_n F (i := 2) dX2_take_53 rfl rfl ?_
          exact cq_zret F hr (by rfl) (by decide) (by decide) dX2_take_54 ⟨_, rfl, ⟨by first | exact (if_pos (by omega)).symm | exact (if_neg (by omega)).symm, by unfold tx_t; first | (rw [if_pos (by omega)]; exact ⟨by rw [h_50]; exact cq_up_s _ _ _ _, by omega⟩) | (rw [if_neg (by omega)]; exact ⟨hp, hp9⟩), by first | exact tc_2.up h_50 | exact tc_2.rf⟩⟩
theorem hdVX2_take : yX2_take.cls = RX2 ∧ yX2_take.cls ≠ "java/lang/invoke/MethodHandle" ∧ yX2_take.cls ≠ "java/lang/invoke/VarHandle" ∧ (parseMethodDescriptor yX2_take.desc).map (fun d => d.parameters.length) = some 1 := by decide +kernel
abbrev rmX2_readDigit : Room := ({ frames := 0, cells := 0, slots := 0, locals := 0 })
set_option maxHeartbeats 4000000 in
set_option maxRecDepth 100000 in
theorem kX2_readDigit (l : Launch) (D : va_G) (cA : Nat → ClassId) (X : cq_X) (Bs : Nat) (a len p : Nat) (t : Nat → Nat) (l0 m0 : Nat) (M : cq_M) (ha : cq_isText X a) (hm : tc_M M a t len) (hlen : len ≤ 60) (hp : M a 2 = nI p) (hp9 : p ≤ 60) (hl0 : l0 ≤ 9) (hm0 : m0 ≤ 9) : cq_C l yX2_readDigit wsX2_readDigit rmX2_readDigit D cA X Bs [.ref a, .int (nI l0), .int (nI m0)] M (cq_PI (fun r M1 => r = (if tx_g (tx_s t len) l0 m0 p then nI (tx_s t len p - 48) else -1) ∧ (M1 a 2 = nI (if tx_g (tx_s t len) l0 m0 p then p + 1 else p) ∧ (tx_g (tx_s t len) l0 m0 p → p + 1 ≤ 60)) ∧ tc_2 M M1 a)) 0 0 := by
  refine cq_met (cc := cX2_readDigit) (maxL := 4) (ret := (some .int)) (by decide) rfl (Nat.le_of_ble_eq_true rfl) [(0, .ref a), (1, .int (nI l0)), (2, .int (nI m0))] rfl rfl ?_
  intro p9 e9 s9 m9 b9 t9 c9 F hr
  have inX2 : ∀ w ∈ wsX20, w ∈ wsX2_readDigit := (fun w h => List.mem_cons_of_mem _ (List.mem_append_right _ h))
  have hs9 := hm.s p
  have hin : p < len → tx_s t len p = t p := fun z => if_pos z
  have hout : ¬ p < len → tx_s t len p = 0 := fun z => if_neg z
  have hb9 : p < len → t p ≤ 126 := fun z => (hm.2.2 p z).2
  refine cq_aload_n F (i := 0) dX2_readDigit_0 rfl rfl ?_
  refine cq_getI F (C := RX2) (T := TX2) (N := 10) (ci := 3) ha.kind rfl ⟨⟨by decide, by decide⟩, rfl⟩ inX2 2 (by decide) rfl rfl (F.1.2.2.2.2 _ (List.mem_of_getElem? (l := wsX2_readDigit) (i := 1) (a := .fieldLink RX2 23 "CordClock$OrderText" "at" "I") (by decide +kernel))) dX2_readDigit_1 ?_
  rw [show M a 2 = nI (p) from (show M a 2 = nI (p) from hp)]
  refine cq_aload_n F (i := 0) dX2_readDigit_4 rfl rfl ?_
  refine cq_getI F (C := RX2) (T := TX2) (N := 10) (ci := 3) ha.kind rfl ⟨⟨by decide, by decide⟩, rfl⟩ inX2 1 (by decide) rfl rfl (F.1.2.2.2.2 _ (List.mem_of_getElem? (l := wsX2_readDigit) (i := 2) (a := .fieldLink RX2 19 "CordClock$OrderText" "length" "I") (by decide +kernel))) dX2_readDigit_5 ?_
  rw [show M a 1 = nI (len) from (show M a 1 = nI (len) from hm.1)]
  refine cq_icmp_ge F (tgt := 20) dX2_readDigit_8 (by decide) (fun c_8 => ?_) (fun c_8 => ?_)
  · have c_8 : len ≤ p := (nI_b (a := len) (b := p) (by omega) (by omega)).1.mp c_8
    refine cq_iconst F (v := (-1)) dX2_readDigit_20 rfl ?_
    exact cq_iret F hr (by decide) (by decide) dX2_readDigit_21 ⟨_, rfl, ⟨(if_neg (fun z => by omega)).symm, ⟨by rw [if_neg (fun z => by omega)]; exact hp, fun z => by omega⟩, tc_2.rf⟩⟩
  · have c_8 : ¬ len ≤ p := fun z => c_8 ((nI_b (a := len) (b := p) (by omega) (by omega)).1.mpr z)
    refine cq_aload_n F (i := 0) dX2_readDigit_11 rfl rfl ?_
    refine cq_getI F (C := RX2) (T := TX2) (N := 10) (ci := 3) ha.kind rfl ⟨⟨by decide, by decide⟩, rfl⟩ inX2 2 (by decide) rfl rfl (F.1.2.2.2.2 _ (List.mem_of_getElem? (l := wsX2_readDigit) (i := 1) (a := .fieldLink RX2 23 "CordClock$OrderText" "at" "I") (by decide +kernel))) dX2_readDigit_12 ?_
    rw [show M a 2 = nI (p) from (show M a 2 = nI (p) from hp)]
    refine cq_bipush F (v := 60) dX2_readDigit_15 (by decide) ?_
    refine cq_icmp_lt F (tgt := 22) dX2_readDigit_17 (by decide) (fun c_17 => ?_) (fun c_17 => ?_)
    · have c_17 : p < 60 := (nI_b (a := p) (b := 60) (by omega) (by omega)).2.1.mp c_17
      refine cq_aload_n F (i := 0) dX2_readDigit_22 rfl rfl ?_
      refine cq_getT (t := (a + 1)) F (C := RX2) (T := TX2) (N := 10) (ci := 3) ha.kind rfl ⟨⟨by decide, by decide⟩, rfl⟩ inX2 0 (by decide) rfl rfl ha.t0 (F.1.2.2.2.2 _ (List.mem_of_getElem? (l := wsX2_readDigit) (i := 3) (a := .fieldLink RX2 9 "CordClock$OrderText" "signs" "[C") (by decide +kernel))) dX2_readDigit_23 ?_
      refine cq_aload_n F (i := 0) dX2_readDigit_26 rfl rfl ?_
      refine cq_getI F (C := RX2) (T := TX2) (N := 10) (ci := 3) ha.kind rfl ⟨⟨by decide, by decide⟩, rfl⟩ inX2 2 (by decide) rfl rfl (F.1.2.2.2.2 _ (List.mem_of_getElem? (l := wsX2_readDigit) (i := 1) (a := .fieldLink RX2 23 "CordClock$OrderText" "at" "I") (by decide +kernel))) dX2_readDigit_27 ?_
      rw [show M a 2 = nI (p) from (show M a 2 = nI (p) from hp)]
      refine cq_cald_j F (j := p) ha.k1 ha.n1 rfl ⟨(by omega), by decide⟩ dX2_readDigit_30 ?_
      rw [show M (a + 1) p = nI ((t (p))) from (hm.2.1 (p) (by omega))]
      refine cq_bipush F (v := 48) dX2_readDigit_31 (by decide) ?_
      refine cq_isub F dX2_readDigit_33 ?_
      refine cq_nmi (fun x_34 e_34 => ?_)
      refine cq_istore_n F (i := 3) dX2_readDigit_34 rfl (by decide) ?_
      refine cq_iload_n F (i := 3) dX2_readDigit_35 rfl rfl ?_
      refine cq_iload_n F (i := 1) dX2_readDigit_36 rfl rfl ?_
      refine cq_icmp_lt F (tgt := 45) dX2_readDigit_37 (by decide) (fun c_37 => ?_) (fun c_37 => ?_)
      · have d_37 : t p < 48 + l0 := (i32_48l (by omega) (by omega)).mp (by rw [← e_34]; exact c_37)
        refine cq_iconst F (v := (-1)) dX2_readDigit_45 rfl ?_
        exact cq_iret F hr (by decide) (by decide) dX2_readDigit_46 ⟨_, rfl, ⟨(if_neg (fun z => by omega)).symm, ⟨by rw [if_neg (fun z => by omega)]; exact hp, fun z => by omega⟩, tc_2.rf⟩⟩
      · have d_37 : ¬ t p < 48 + l0 := fun z => c_37 (by rw [e_34]; exact (i32_48l (by omega) (by omega)).mpr z)
        refine cq_iload_n F (i := 3) dX2_readDigit_40 rfl rfl ?_
        refine cq_iload_n F (i := 2) dX2_readDigit_41 rfl rfl ?_
        refine cq_icmp_le F (tgt := 47) dX2_readDigit_42 (by decide) (fun c_42 => ?_) (fun c_42 => ?_)
        · have d_42 : t p ≤ 48 + m0 := (i32_48g (by omega) (by omega)).mp (by rw [← e_34]; exact c_42)
          refine cq_aload_n F (i := 0) dX2_readDigit_47 rfl rfl ?_
          refine cq_dup F dX2_readDigit_48 rfl ?_
          refine cq_getI F (C := RX2) (T := TX2) (N := 10) (ci := 3) ha.kind rfl ⟨⟨by decide, by decide⟩, rfl⟩ inX2 2 (by decide) rfl rfl (F.1.2.2.2.2 _ (List.mem_of_getElem? (l := wsX2_readDigit) (i := 1) (a := .fieldLink RX2 23 "CordClock$OrderText" "at" "I") (by decide +kernel))) dX2_readDigit_49 ?_
          rw [show M a 2 = nI (p) from (show M a 2 = nI (p) from hp)]
          refine cq_iconst F (v := 1) dX2_readDigit_52 rfl ?_
          refine cq_iadd F dX2_readDigit_53 ?_
          rw [show (nI p + 1 : Int32) = nI (p + 1) from nI_add _ _]
          refine cq_put F (C := RX2) (T := TX2) (N := 10) (ci := 3) ha.kind rfl ⟨⟨by decide, by decide⟩, rfl⟩ inX2 tyX2 tyX2_ok nmX2 2 (by decide) rfl rfl (F.1.2.2.2.2 _ (List.mem_of_getElem? (l := wsX2_readDigit) (i := 1) (a := .fieldLink RX2 23 "CordClock$OrderText" "at" "I") (by decide +kernel))) rfl (by rfl) (by rfl) dX2_readDigit_54 (fun M_54 h_54 => ?_)
          refine cq_iload_n F (i := 3) dX2_readDigit_57 rfl rfl ?_
          exact cq_iret F hr (by decide) (by decide) dX2_readDigit_58 ⟨_, rfl, ⟨by rw [if_pos ⟨by omega, by omega⟩, e_34, hin (by omega)]; exact pk_sub (a := t p) (b := 48) (by omega), ⟨by rw [if_pos ⟨by omega, by omega⟩, h_54]; exact cq_up_s _ _ _ _, fun _ => by omega⟩, tc_2.up h_54⟩⟩
        · have d_42 : ¬ t p ≤ 48 + m0 := fun z => c_42 (by rw [e_34]; exact (i32_48g (by omega) (by omega)).mpr z)
          refine cq_iconst F (v := (-1)) dX2_readDigit_45 rfl ?_
          exact cq_iret F hr (by decide) (by decide) dX2_readDigit_46 ⟨_, rfl, ⟨(if_neg (fun z => by omega)).symm, ⟨by rw [if_neg (fun z => by omega)]; exact hp, fun z => by omega⟩, tc_2.rf⟩⟩
    · have c_17 : ¬ p < 60 := fun z => c_17 ((nI_b (a := p) (b := 60) (by omega) (by omega)).2.1.mpr z)
      refine cq_iconst F (v := (-1)) dX2_readDigit_20 rfl ?_
      exact cq_iret F hr (by decide) (by decide) dX2_readDigit_21 ⟨_, rfl, ⟨(if_neg (fun z => by omega)).symm, ⟨by rw [if_neg (fun z => by omega)]; exact hp, fun z => by omega⟩, tc_2.rf⟩⟩
theorem hdVX2_readDigit : yX2_readDigit.cls = RX2 ∧ yX2_readDigit.cls ≠ "java/lang/invoke/MethodHandle" ∧ yX2_readDigit.cls ≠ "java/lang/invoke/VarHandle" ∧ (parseMethodDescriptor yX2_readDigit.desc).map (fun d => d.parameters.length) = some 2 := by decide +kernel
