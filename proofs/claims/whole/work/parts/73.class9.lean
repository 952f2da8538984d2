/-! the class: the reader of order texts -/
def tc_M (M : cq_M) (a : Nat) (t : Nat → Nat) (len : Nat) : Prop := M a 1 = nI len ∧ (∀ j, j < len → M (a + 1) j = nI (t j)) ∧ ∀ j, j < len → 33 ≤ t j ∧ t j ≤ 126
theorem tc_M.s {M : cq_M} {a len : Nat} {t : Nat → Nat} (h : tc_M M a t len) (p : Nat) : tx_s t len p ≤ 126 ∧ (tx_s t len p = 0 ∨ (33 ≤ tx_s t len p ∧ p < len)) := by
  unfold tx_s
  by_cases e : p < len
  · rw [if_pos e]
    have := h.2.2 p e
    omega
  · rw [if_neg e]
    omega
/-- the place alone is changed -/
def tc_2 (M M1 : cq_M) (a : Nat) : Prop := ∀ x j, ¬ (x = a ∧ j = 2) → M1 x j = M x j
theorem tc_2.rf {M : cq_M} {a : Nat} : tc_2 M M a := fun _ _ _ => rfl
theorem tc_2.trans {M M1 M2 : cq_M} {a : Nat} (h : tc_2 M M1 a) (h2 : tc_2 M1 M2 a) : tc_2 M M2 a := fun x j z => by rw [h2 x j z, h x j z]
theorem tc_2.up {M M1 : cq_M} {a : Nat} {v : Int32} (h : M1 = cq_up M a 2 v) : tc_2 M M1 a := fun x j z => by
  rw [h]
  by_cases e : x = a
  · subst e; exact cq_up_k (fun y => z ⟨rfl, y⟩)
  · exact cq_up_a e
theorem tc_2.m {M M1 : cq_M} {a len : Nat} {t : Nat → Nat} (h : tc_2 M M1 a) (hm : tc_M M a t len) : tc_M M1 a t len := ⟨by rw [h _ _ (by omega)]; exact hm.1, fun j hj => by rw [h _ _ (by omega)]; exact hm.2.1 j hj, hm.2.2⟩
theorem i32_48l {c l : Nat} (hc : c < 1000) (hl : l < 1000) : (nI c - 48 < nI l) ↔ c < 48 + l := by
  rw [Int32.lt_iff_toInt_lt, show (nI c - 48 : Int32) = nI c - nI 48 from rfl, pk_sub_toInt (by omega) (by omega), nI_toInt (by omega)]
  omega
theorem i32_48g {c l : Nat} (hc : c < 1000) (hl : l < 1000) : (nI c - 48 ≤ nI l) ↔ c ≤ 48 + l := by
  rw [Int32.le_iff_toInt_le, show (nI c - 48 : Int32) = nI c - nI 48 from rfl, pk_sub_toInt (by omega) (by omega), nI_toInt (by omega)]
  omega
theorem nI_min {x y : Nat} (hx : x < 2147483648) (hy : y < 2147483648) : (if nI x < nI y then nI x else nI y) = nI (if x < y then x else y) := by
  by_cases h : x < y
  · rw [if_pos h, if_pos ((nI_ltI hx hy).mpr h)]
  · rw [if_neg h, if_neg (fun z => h ((nI_ltI hx hy).mp z))]
abbrev tx_g (s : Nat → Nat) (l m p : Nat) : Prop := 48 + l ≤ s p ∧ s p ≤ 48 + m
abbrev rmX2_take : Room := ({ frames := 0, cells := 0, slots := 0, locals := 0 })
set_option maxHeartbeats 4000000 in
set_option maxRecDepth 100000 in
theorem kX2_take (l : Launch) (D : va_G) (cA : Nat → ClassId) (X : cq_X) (Bs : Nat) (a len p : Nat) (t : Nat → Nat) (c : Nat) (M : cq_M) (ha : cq_isText X a) (hm : tc_M M a t len) (hlen : len ≤ 60) (hp : M a 2 = nI p) (hp9 : p ≤ 60) (hc : 0 < c ∧ c < 1000) : cq_C l yX2_take wsX2_take rmX2_take D cA X Bs [.ref a, .int (nI c)] M (cq_PI (fun r M1 => r = (if tx_s t len p = c then 1 else 0) ∧ (M1 a 2 = nI (tx_t (tx_s t len) c p) ∧ tx_t (tx_s t len) c p ≤ 60) ∧ tc_2 M M1 a)) 0 0 := by
  refine cq_met (cc := cX2_take) (maxL := 3) (ret := (some .boolean)) (by decide) rfl (Nat.le_of_ble_eq_true rfl) [(0, .ref a), (1, .int (nI c))] rfl rfl ?_
  intro p9 e9 s9 m9 b9 t9 c9 F hr
  have inX2 : ∀ w ∈ wsX20, w ∈ wsX2_take := (fun w h => List.mem_cons_of_mem _ (List.mem_append_right _ h))
  have hs9 := hm.s p
  have hin : p < len → tx_s t len p = t p := fun z => if_pos z
  have hout : ¬ p < len → tx_s t len p = 0 := fun z => if_neg z
  have hb9 : p < len → t p ≤ 126 := fun z => (hm.2.2 p z).2
  refine cq_aload_n F (i := 0) dX2_take_0 rfl rfl ?_
  refine cq_getI F (C := RX2) (T := TX2) (N := 10) (ci := 3) ha.kind rfl ⟨⟨by decide, by decide⟩, rfl⟩ inX2 2 (by decide) rfl rfl (F.1.2.2.2.2 _ (List.mem_of_getElem? (l := wsX2_take) (i := 1) (a := .fieldLink RX2 23 "CordClock$OrderText" "at" "I") (by decide +kernel))) dX2_take_1 ?_
  rw [show M a 2 = nI (p) from (show M a 2 = nI (p) from hp)]
  refine cq_aload_n F (i := 0) dX2_take_4 rfl rfl ?_
  refine cq_getI F (C := RX2) (T := TX2) (N := 10) (ci := 3) ha.kind rfl ⟨⟨by decide, by decide⟩, rfl⟩ inX2 1 (by decide) rfl rfl (F.1.2.2.2.2 _ (List.mem_of_getElem? (l := wsX2_take) (i := 2) (a := .fieldLink RX2 19 "CordClock$OrderText" "length" "I") (by decide +kernel))) dX2_take_5 ?_
  rw [show M a 1 = nI (len) from (show M a 1 = nI (len) from hm.1)]
  refine cq_icmp_ge F (tgt := 37) dX2_take_8 (by decide) (fun c_8 => ?_) (fun c_8 => ?_)
  · have c_8 : len ≤ p := (nI_b (a := len) (b := p) (by omega) (by omega)).1.mp c_8
    refine cq_iconst F (v := 0) dX2_take_37 rfl ?_
    refine cq_istore_n F (i := 2) dX2_take_38 rfl (by decide) ?_
    refine cq_iload_n F (i := 2) dX2_take_39 rfl rfl ?_
    refine cq_if_eq F (tgt := 53) dX2_take_40 (by decide) (fun c_40 => ?_) (fun c_40 => ?_)
    · have c_40 : 0 = 0 := (nI_b (a := 0) (b := 0) (by omega) (by omega)).2.2.mp c_40
      refine cq_iload_n F (i := 2) dX2_take_53 rfl rfl ?_
      exact cq_zret F hr (by rfl) (by decide) (by decide) dX2_take_54 ⟨_, rfl, ⟨by first | exact (if_pos (by omega)).symm | exact (if_neg (by omega)).symm, by unfold tx_t; first | (rw [if_pos (by omega)]; exact ⟨by rw [h_50]; exact cq_up_s _ _ _ _, by omega⟩) | (rw [if_neg (by omega)]; exact ⟨hp, hp9⟩), by first | exact tc_2.up h_50 | exact tc_2.rf⟩⟩
    · have c_40 : ¬ 0 = 0 := fun z => c_40 ((nI_b (a := 0) (b := 0) (by omega) (by omega)).2.2.mpr z)
      omega
  · have c_8 : ¬ len ≤ p := fun z => c_8 ((nI_b (a := len) (b := p) (by omega) (by omega)).1.mpr z)
    refine cq_aload_n F (i := 0) dX2_take_11 rfl rfl ?_
    refine cq_getI F (C := RX2) (T := TX2) (N := 10) (ci := 3) ha.kind rfl ⟨⟨by decide, by decide⟩, rfl⟩ inX2 2 (by decide) rfl rfl (F.1.2.2.2.2 _ (List.mem_of_getElem? (l := wsX2_take) (i := 1) (a := .fieldLink RX2 23 "CordClock$OrderText" "at" "I") (by decide +kernel))) dX2_take_12 ?_
    rw [show M a 2 = nI (p) from (show M a 2 = nI (p) from hp)]
    refine cq_bipush F (v := 60) dX2_take_15 (by decide) ?_
    refine cq_icmp_ge F (tgt := 37) dX2_take_17 (by decide) (fun c_17 => ?_) (fun c_17 => ?_)
    · have c_17 : 60 ≤ p := (nI_b (a := 60) (b := p) (by omega) (by omega)).1.mp c_17
      refine cq_iconst F (v := 0) dX2_take_37 rfl ?_
      refine cq_istore_n F (i := 2) dX2_take_38 rfl (by decide) ?_
      refine cq_iload_n F (i := 2) dX2_take_39 rfl rfl ?_
      refine cq_if_eq F (tgt := 53) dX2_take_40 (by decide) (fun c_40 => ?_) (fun c_40 => ?_)
      · have c_40 : 0 = 0 := (nI_b (a := 0) (b := 0) (by omega) (by omega)).2.2.mp c_40
        refine cq_iload_n F (i := 2) dX2_take_53 rfl rfl ?_
        exact cq_zret F hr (by rfl) (by decide) (by decide) dX2_take_54 ⟨_, rfl, ⟨by first | exact (if_pos (by omega)).symm | exact (if_neg (by omega)).symm, by unfold tx_t; first | (rw [if_pos (by omega)]; exact ⟨by rw [h_50]; exact cq_up_s _ _ _ _, by omega⟩) | (rw [if_neg (by omega)]; exact ⟨hp, hp9⟩), by first | exact tc_2.up h_50 | exact tc_2.rf⟩⟩
      · have c_40 : ¬ 0 = 0 := fun z => c_40 ((nI_b (a := 0) (b := 0) (by omega) (by omega)).2.2.mpr z)
        omega
    · have c_17 : ¬ 60 ≤ p := fun z => c_17 ((nI_b (a := 60) (b := p) (by omega) (by omega)).1.mpr z)
      refine cq_aload_n F (i := 0) dX2_take_20 rfl rfl ?_
      refine cq_getT (t := (a + 1)) F (C := RX2) (T := TX2) (N := 10) (ci := 3) ha.kind rfl ⟨⟨by decide, by decide⟩, rfl⟩ inX2 0 (by decide) rfl rfl ha.t0 (F.1.2.2.2.2 _ (List.mem_of_getElem? (l := wsX2_take) (i := 3) (a := .fieldLink RX2 9 "CordClock$OrderText" "signs" "[C") (by decide +kernel))) dX2_take_21 ?_
      refine cq_aload_n F (i := 0) dX2_take_24 rfl rfl ?_
      refine cq_getI F (C := RX2) (T := TX2) (N := 10) (ci := 3) ha.kind rfl ⟨⟨by decide, by decide⟩, rfl⟩ inX2 2 (by decide) rfl rfl (F.1.2.2.2.2 _ (List.mem_of_getElem? (l := wsX2_take) (i := 1) (a := .fieldLink RX2 23 "CordClock$OrderText" "at" "I") (by decide +kernel))) dX2_take_25 ?_
      rw [show M a 2 = nI (p) from (show M a 2 = nI (p) from hp)]
      refine cq_cald_j F (j := p) ha.k1 ha.n1 rfl ⟨(by omega), by decide⟩ dX2_take_28 ?_
      rw [show M (a + 1) p = nI ((t (p))) from (hm.2.1 (p) (by omega))]
      refine cq_iload_n F (i := 1) dX2_take_29 rfl rfl ?_
      refine cq_icmp_ne F (tgt := 37) dX2_take_30 (by decide) (fun c_30 => ?_) (fun c_30 => ?_)
      · have c_30 : ¬ (t (p)) = c := fun z => c_30 ((nI_b (a := (t (p))) (b := c) (by omega) (by omega)).2.2.mpr z)
        refine cq_iconst F (v := 0) dX2_take_37 rfl ?_
        refine cq_istore_n F (i := 2) dX2_take_38 rfl (by decide) ?_
        refine cq_iload_n F (i := 2) dX2_take_39 rfl rfl ?_
        refine cq_if_eq F (tgt := 53) dX2_take_40 (by decide) (fun c_40 => ?_) (fun c_40 => ?_)
        · have c_40 : 0 = 0 := (nI_b (a := 0) (b := 0) (by omega) (by omega)).2.2.mp c_40
          refine cq_iload_n F (i := 2) dX2_take_53 rfl rfl ?_
          exact cq_zret F hr (by rfl) (by decide) (by decide) dX2_take_54 ⟨_, rfl, ⟨by first | exact (if_pos (by omega)).symm | exact (if_neg (by omega)).symm, by unfold tx_t; first | (rw [if_pos (by omega)]; exact ⟨by rw [h_50]; exact cq_up_s _ _ _ _, by omega⟩) | (rw [if_neg (by omega)]; exact ⟨hp, hp9⟩), by first | exact tc_2.up h_50 | exact tc_2.rf⟩⟩
        · have c_40 : ¬ 0 = 0 := fun z => c_40 ((nI_b (a := 0) (b := 0) (by omega) (by omega)).2.2.mpr z)
          omega
      · have c_30 : (t (p)) = c := (nI_b (a := (t (p))) (b := c) (by omega) (by omega)).2.2.mp c_30
        refine cq_iconst F (v := 1) dX2_take_33 rfl ?_
        refine cq_goto F (tgt := 38) dX2_take_34 (by decide) ?_
        refine cq_istore_n F (i := 2) dX2_take_38 rfl (by decide) ?_
        refine cq_iload_n F (i := 2) dX2_take_39 rfl rfl ?_
        refine cq_if_eq F (tgt := 53) dX2_take_40 (by decide) (fun c_40 => ?_) (fun c_40 => ?_)
        · have c_40 : 1 = 0 := (nI_b (a := 1) (b := 0) (by omega) (by omega)).2.2.mp c_40
          omega
        · have c_40 : ¬ 1 = 0 := fun z => c_40 ((nI_b (a := 1) (b := 0) (by omega) (by omega)).2.2.mpr z)
          refine cq_aload_n F (i := 0) dX2_take_43 rfl rfl ?_
          refine cq_dup F dX2_take_44 rfl ?_
          refine cq_getI F (C := RX2) (T := TX2) (N := 10) (ci := 3) ha.kind rfl ⟨⟨by decide, by decide⟩, rfl⟩ inX2 2 (by decide) rfl rfl (F.1.2.2.2.2 _ (List.mem_of_getElem? (l := wsX2_take) (i := 1) (a := .fieldLink RX2 23 "CordClock$OrderText" "at" "I") (by decide +kernel))) dX2_take_45 ?_
          rw [show M a 2 = nI (p) from (show M a 2 = nI (p) from hp)]
          refine cq_iconst F (v := 1) dX2_take_48 rfl ?_
          refine cq_iadd F dX2_take_49 ?_
          rw [show (nI p + 1 : Int32) = nI (p + 1) from nI_add _ _]
          refine cq_put F (C := RX2) (T := TX2) (N := 10) (ci := 3) ha.kind rfl ⟨⟨by decide, by decide⟩, rfl⟩ inX2 tyX2 tyX2_ok nmX2 2 (by decide) rfl rfl (F.1.2.2.2.2 _ (List.mem_of_getElem? (l := wsX2_take) (i := 1) (a := .fieldLink RX2 23 "CordClock$OrderText" "at" "I") (by decide +kernel))) rfl (by rfl) (by rfl) dX2_take_50 (fun M_50 h_50 => ?_)
          refine cq_iload_n F (i := 2) dX2_take_53 rfl rfl ?_
          exact cq_zret F hr (by rfl) (by decide) (by decide) dX2_take_54 ⟨_, rfl, ⟨by first | exact (if_pos (by omega)).symm | exact (if_neg (by omega)).symm, by unfold tx_t; first | (rw [if_pos (by omega)]; exact ⟨by rw [h_50]; exact cq_up_s _ _ _ _, by omega⟩) | (rw [if_neg (by omega)]; exact ⟨hp, hp9⟩), by first | exact tc_2.up h_50 | exact tc_2.rf⟩⟩
theorem hdVX2_take : yX2_take.cls = RX2 ∧ yX2_take.cls ≠ "java/lang/invoke/MethodHandle" ∧ yX2_take.cls ≠ "java/lang/invoke/VarHandle" ∧ (parseMethodDescriptor yX2_take.desc).map (fun d => d.parameters.length) = some 1 := by decide +kernel
abbrev rmX2_readDigit : Room := ({ frames := 0, cells := 0, slots := 0, locals := 0 })
set_option maxHeartbeats 4000000 in
set_option maxRecDepth 100000 in
theorem kX2_readDigit (l : Launch) (D : va_G) (cA : Nat → ClassId) (X : cq_X) (Bs : Nat) (a len p : Nat) (t : Nat → Nat) (l0 m0 : Nat) (M : cq_M) (ha : cq_isText X a) (hm : tc_M M a t len) (hlen : len ≤ 60) (hp : M a 2 = nI p) (hp9 : p ≤ 60) (hl0 : l0 ≤ 9) (hm0 : m0 ≤ 9) : cq_C l yX2_readDigit wsX2_readDigit rmX2_readDigit D cA X Bs [.ref a, .int (nI l0), .int (nI m0)] M (cq_PI (fun r M1 => r = (if tx_g (tx_s t len) l0 m0 p then nI (tx_s t len p - 48) else -1) ∧ (M1 a 2 = nI (if tx_g (tx_s t len) l0 m0 p then p + 1 else p) ∧ (tx_g (tx_s t len) l0 m0 p → p + 1 ≤ 60)) ∧ tc_2 M M1 a)) 0 0 := by
  refine cq_met (cc := cX2_readDigit) (maxL := 4) (ret := (some .int)) (by decide) rfl (Nat.le_of_ble_eq_true rfl) [(0, .ref a), (1, .int (nI l0)), (2, .int (nI m0))] rfl rfl ?_
  intro p9 e9 s9 m9 b9 t9 c9 F hr
  have inX2 : ∀ w ∈ wsX20, w ∈ wsX2_readDigit := (fun w h => List.mem_cons_of_mem _ (List.mem_append_right _ h))
  have hs9 := hm.s p
  have hin : p < len → tx_s t len p = t p := fun z => if_pos z
  have hout : ¬ p < len → tx_s t len p = 0 := fun z => if_neg z
  have hb9 : p < len → t p ≤ 126 := fun z => (hm.2.2 p z).2
  refine cq_aload_n F (i := 0) dX2_readDigit_0 rfl rfl ?_
  refine cq_getI F (C := RX2) (T := TX2) (N := 10) (ci := 3) ha.kind rfl ⟨⟨by decide, by decide⟩, rfl⟩ inX2 2 (by decide) rfl rfl (F.1.2.2.2.2 _ (List.mem_of_getElem? (l := wsX2_readDigit) (i := 1) (a := .fieldLink RX2 23 "CordClock$OrderText" "at" "I") (by decide +kernel))) dX2_readDigit_1 ?_
  rw [show M a 2 = nI (p) from (show M a 2 = nI (p) from hp)]
  refine cq_aload_n F (i := 0) dX2_readDigit_4 rfl rfl ?_
  refine cq_getI F (C := RX2) (T := TX2) (N := 10) (ci := 3) ha.kind rfl ⟨⟨by decide, by decide⟩, rfl⟩ inX2 1 (by decide) rfl rfl (F.1.2.2.2.2 _ (List.mem_of_getElem? (l := wsX2_readDigit) (i := 2) (a := .fieldLink RX2 19 "CordClock$OrderText" "length" "I") (by decide +kernel))) dX2_readDigit_5 ?_
  rw [show M a 1 = nI (len) from (show M a 1 = nI (len) from hm.1)]
  refine cq_icmp_ge F (tgt := 20) dX2_readDigit_8 (by decide) (fun c_8 => ?_) (fun c_8 => ?_)
  · have c_8 : len ≤ p := (nI_b (a := len) (b := p) (by omega) (by omega)).1.mp c_8
    refine cq_iconst F (v := (-1)) dX2_readDigit_20 rfl ?_
    exact cq_iret F hr (by decide) (by decide) dX2_readDigit_21 ⟨_, rfl, ⟨(if_neg (fun z => by omega)).symm, ⟨by rw [if_neg (fun z => by omega)]; exact hp, fun z => by omega⟩, tc_2.rf⟩⟩
  · have c_8 : ¬ len ≤ p := fun z => c_8 ((nI_b (a := len) (b := p) (by omega) (by omega)).1.mpr z)
    refine cq_aload_n F (i := 0) dX2_readDigit_11 rfl rfl ?_
    refine cq_getI F (C := RX2) (T := TX2) (N := 10) (ci := 3) ha.kind rfl ⟨⟨by decide, by decide⟩, rfl⟩ inX2 2 (by decide) rfl rfl (F.1.2.2.2.2 _ (List.mem_of_getElem? (l := wsX2_readDigit) (i := 1) (a := .fieldLink RX2 23 "CordClock$OrderText" "at" "I") (by decide +kernel))) dX2_readDigit_12 ?_
    rw [show M a 2 = nI (p) from (show M a 2 = nI (p) from hp)]
    refine cq_bipush F (v := 60) dX2_readDigit_15 (by decide) ?_
    refine cq_icmp_lt F (tgt := 22) dX2_readDigit_17 (by decide) (fun c_17 => ?_) (fun c_17 => ?_)
    · have c_17 : p < 60 := (nI_b (a := p) (b := 60) (by omega) (by omega)).2.1.mp c_17
      refine cq_aload_n F (i := 0) dX2_readDigit_22 rfl rfl ?_
      refine cq_getT (t := (a + 1)) F (C := RX2) (T := TX2) (N := 10) (ci := 3) ha.kind rfl ⟨⟨by decide, by decide⟩, rfl⟩ inX2 0 (by decide) rfl rfl ha.t0 (F.1.2.2.2.2 _ (List.mem_of_getElem? (l := wsX2_readDigit) (i := 3) (a := .fieldLink RX2 9 "CordClock$OrderText" "signs" "[C") (by decide +kernel))) dX2_readDigit_23 ?_
      refine cq_aload_n F (i := 0) dX2_readDigit_26 rfl rfl ?_
      refine cq_getI F (C := RX2) (T := TX2) (N := 10) (ci := 3) ha.kind rfl ⟨⟨by decide, by decide⟩, rfl⟩ inX2 2 (by decide) rfl rfl (F.1.2.2.2.2 _ (List.mem_of_getElem? (l := wsX2_readDigit) (i := 1) (a := .fieldLink RX2 23 "CordClock$OrderText" "at" "I") (by decide +kernel))) dX2_readDigit_27 ?_
      rw [show M a 2 = nI (p) from (show M a 2 = nI (p) from hp)]
      refine cq_cald_j F (j := p) ha.k1 ha.n1 rfl ⟨(by omega), by decide⟩ dX2_readDigit_30 ?_
      rw [show M (a + 1) p = nI ((t (p))) from (hm.2.1 (p) (by omega))]
      refine cq_bipush F (v := 48) dX2_readDigit_31 (by decide) ?_
      refine cq_isub F dX2_readDigit_33 ?_
      refine cq_nmi (fun x_34 e_34 => ?_)
      refine cq_istore_n F (i := 3) dX2_readDigit_34 rfl (by decide) ?_
      refine cq_iload_n F (i := 3) dX2_readDigit_35 rfl rfl ?_
      refine cq_iload_n F (i := 1) dX2_readDigit_36 rfl rfl ?_
      refine cq_icmp_lt F (tgt := 45) dX2_readDigit_37 (by decide) (fun c_37 => ?_) (fun c_37 => ?_)
      · have d_37 : t p < 48 + l0 := (i32_48l (by omega) (by omega)).mp (by rw [← e_34]; exact c_37)
        refine cq_iconst F (v := (-1)) dX2_readDigit_45 rfl ?_
        exact cq_iret F hr (by decide) (by decide) dX2_readDigit_46 ⟨_, rfl, ⟨(if_neg (fun z => by omega)).symm, ⟨by rw [if_neg (fun z => by omega)]; exact hp, fun z => by omega⟩, tc_2.rf⟩⟩
      · have d_37 : ¬ t p < 48 + l0 := fun z => c_37 (by rw [e_34]; exact (i32_48l (by omega) (by omega)).mpr z)
        refine cq_iload_n F (i := 3) dX2_readDigit_40 rfl rfl ?_
        refine cq_iload_n F (i := 2) dX2_readDigit_41 rfl rfl ?_
        refine cq_icmp_le F (tgt := 47) dX2_readDigit_42 (by decide) (fun c_42 => ?_) (fun c_42 => ?_)
        · have d_42 : t p ≤ 48 + m0 := (i32_48g (by omega) (by omega)).mp (by rw [← e_34]; exact c_42)
          refine cq_aload_n F (i := 0) dX2_readDigit_47 rfl rfl ?_
          refine cq_dup F dX2_readDigit_48 rfl ?_
          refine cq_getI F (C := RX2) (T := TX2) (N := 10) (ci := 3) ha.kind rfl ⟨⟨by decide, by decide⟩, rfl⟩ inX2 2 (by decide) rfl rfl (F.1.2.2.2.2 _ (List.mem_of_getElem? (l := wsX2_readDigit) (i := 1) (a := .fieldLink RX2 23 "CordClock$OrderText" "at" "I") (by decide +kernel))) dX2_readDigit_49 ?_
          rw [show M a 2 = nI (p) from (show M a 2 = nI (p) from hp)]
          refine cq_iconst F (v := 1) dX2_readDigit_52 rfl ?_
          refine cq_iadd F dX2_readDigit_53 ?_
          rw [show (nI p + 1 : Int32) = nI (p + 1) from nI_add _ _]
          refine cq_put F (C := RX2) (T := TX2) (N := 10) (ci := 3) ha.kind rfl ⟨⟨by decide, by decide⟩, rfl⟩ inX2 tyX2 tyX2_ok nmX2 2 (by decide) rfl rfl (F.1.2.2.2.2 _ (List.mem_of_getElem? (l := wsX2_readDigit) (i := 1) (a := .fieldLink RX2 23 "CordClock$OrderText" "at" "I") (by decide +kernel))) rfl (by rfl) (by rfl) dX2_readDigit_54 (fun M_54 h_54 => ?_)
          refine cq_iload_n F (i := 3) dX2_readDigit_57 rfl rfl ?_
          exact cq_iret F hr (by decide) (by decide) dX2_readDigit_58 ⟨_, rfl, ⟨by rw [if_pos ⟨by omega, by omega⟩, e_34, hin (by omega)]; exact pk_sub (a := t p) (b := 48) (by omega), ⟨by rw [if_pos ⟨by omega, by omega⟩, h_54]; exact cq_up_s _ _ _ _, fun _ => by omega⟩, tc_2.up h_54⟩⟩
        · have d_42 : ¬ t p ≤ 48 + m0 := fun z => c_42 (by rw [e_34]; exact (i32_48g (by omega) (by omega)).mpr z)
          refine cq_iconst F (v := (-1)) dX2_readDigit_45 rfl ?_
          exact cq_iret F hr (by decide) (by decide) dX2_readDigit_46 ⟨_, rfl, ⟨(if_neg (fun z => by omega)).symm, ⟨by rw [if_neg (fun z => by omega)]; exact hp, fun z => by omega⟩, tc_2.rf⟩⟩
    · have c_17 : ¬ p < 60 := fun z => c_17 ((nI_b (a := p) (b := 60) (by omega) (by omega)).2.1.mpr z)
      refine cq_iconst F (v := (-1)) dX2_readDigit_20 rfl ?_
      exact cq_iret F hr (by decide) (by decide) dX2_readDigit_21 ⟨_, rfl, ⟨(if_neg (fun z => by omega)).symm, ⟨by rw [if_neg (fun z => by omega)]; exact hp, fun z => by omega⟩, tc_2.rf⟩⟩
theorem hdVX2_readDigit : yX2_readDigit.cls = RX2 ∧ yX2_readDigit.cls ≠ "java/lang/invoke/MethodHandle" ∧ yX2_readDigit.cls ≠ "java/lang/invoke/VarHandle" ∧ (parseMethodDescriptor yX2_readDigit.desc).map (fun d => d.parameters.length) = some 2 := by decide +kernel
abbrev rmX2_readNumber : Room := ({ frames := 1, cells := 0, slots := 0, locals := 23 })
set_option maxHeartbeats 4000000 in
set_option maxRecDepth 100000 in
theorem kX2_readNumber (l : Launch) (D : va_G) (cA : Nat → ClassId) (X : cq_X) (Bs : Nat) (a len p0 most : Nat) (t : Nat → Nat) (M : cq_M) (ha : cq_isText X a) (hm : tc_M M a t len) (hlen : len ≤ 60) (hp : M a 2 = nI p0) (hp9 : p0 ≤ 60) (hmo : 9 ≤ most ∧ most ≤ 200) : cq_C l yX2_readNumber wsX2_readNumber rmX2_readNumber D cA X Bs [.ref a, .int (nI most)] M (cq_PI (fun r M1 => r = (if (tx_n (tx_s t len) most p0).1 = 0 then -1 else nI (tx_n (tx_s t len) most p0).1) ∧ (M1 a 2 = nI (tx_n (tx_s t len) most p0).2 ∧ (tx_n (tx_s t len) most p0).2 ≤ 60) ∧ tc_2 M M1 a)) 0 0 := by
  refine cq_met (cc := cX2_readNumber) (maxL := 5) (ret := (some .int)) (by decide) rfl (Nat.le_of_ble_eq_true rfl) [(0, .ref a), (1, .int (nI most))] rfl rfl ?_
  intro p9 e9 s9 m9 b9 t9 c9 F hr
  have hs0 := hm.s p0
  have loop_17 : ∀ (n_17 : Nat) (i n p : Nat) (M2 : cq_M), i ≤ 2 → tx_n (tx_s t len) most p0 = tx_ng (tx_s t len) most (3 - (i + 1)) n p → 1 ≤ n → (1 ≤ i → 10 ≤ n) → (2 ≤ i → 100 ≤ n) → n ≤ most → p ≤ 60 → M2 a 2 = nI p → tc_2 M M2 a → 3 - i < n_17 → cq_V p9 l e9 rmX2_readNumber s9 m9 ([.ref a, .int (nI most)] : List Value).toArray b9 t9 c9 D cA X Bs 5 0 0 (MQ b9 (cq_Q D cA X Bs (cq_PI (fun r M1 => r = (if (tx_n (tx_s t len) most p0).1 = 0 then -1 else nI (tx_n (tx_s t len) most p0).1) ∧ (M1 a 2 = nI (tx_n (tx_s t len) most p0).2 ∧ (tx_n (tx_s t len) most p0).2 ≤ 60) ∧ tc_2 M M1 a))) ([.ref a, .int (nI most)] : List Value).toArray s9 0 0 (cq_A Bs)) 17 [(0, .ref a), (1, .int (nI most)), (2, .int (nI n)), (3, .int (nI i))] [] M2 := by
    intro n_17
    induction n_17 with
    | zero =>
      intros
      omega
    | succ n_17 ih_17 =>
      intro i n p M2 hi hres h1 h2 h3 hnm hpl hp2 hF hn
      have hs9 := hm.s p
      refine cq_iload_n F (i := 3) dX2_readNumber_17 rfl rfl ?_
      refine cq_bipush F (v := 60) dX2_readNumber_18 (by decide) ?_
      refine cq_icmp_ge F (tgt := 71) dX2_readNumber_20 (by decide) (fun c_20 => ?_) (fun c_20 => ?_)
      · have c_20 : 60 ≤ i := (nI_b (a := 60) (b := i) (by omega) (by omega)).1.mp c_20
        omega
      · have c_20 : ¬ 60 ≤ i := fun z => c_20 ((nI_b (a := 60) (b := i) (by omega) (by omega)).1.mpr z)
        refine cq_iload_n F (i := 2) dX2_readNumber_23 rfl rfl ?_
        refine cq_bipush F (v := 10) dX2_readNumber_24 (by decide) ?_
        refine cq_imul F dX2_readNumber_26 ?_
        rw [show (nI n * 10 : Int32) = nI (n * 10) from pk_mul _ _]
        refine cq_iload_n F (i := 1) dX2_readNumber_27 rfl rfl ?_
        refine cq_icmp_gt F (tgt := 71) dX2_readNumber_28 (by decide) (fun c_28 => ?_) (fun c_28 => ?_)
        · have c_28 : most < n * 10 := (nI_b (a := most) (b := n * 10) (by omega) (by omega)).2.1.mp c_28
          refine cq_iload_n F (i := 2) dX2_readNumber_71 rfl rfl ?_
          refine cq_iret F hr (by decide) (by decide) dX2_readNumber_72 ⟨_, rfl, ?_⟩
          have hr9 : tx_n (tx_s t len) most p0 = (n, p) := hres.trans (tx_ng_end (fun z => by have := z.2; have z1 := z.1.1; rw [if_neg (by omega)] at z1; omega))
          rw [hr9]
          exact ⟨(if_neg (show ¬ n = 0 by omega)).symm, ⟨hp2, hpl⟩, hF⟩
        · have c_28 : ¬ most < n * 10 := fun z => c_28 ((nI_b (a := most) (b := n * 10) (by omega) (by omega)).2.1.mpr z)
          have hdg : tx_g (tx_s t len) 0 (if most - n * 10 < 9 then most - n * 10 else 9) p ↔ tx_d (tx_s t len) most n p := by
            constructor
            · intro z
              refine ⟨⟨by rw [if_neg (by omega)]; exact z.1, ?_⟩, ?_⟩
              · have z2 := z.2; split at z2 <;> omega
              · have z2 := z.2; split at z2 <;> omega
            · intro z
              have z1 := z.1.1
              rw [if_neg (by omega)] at z1
              have z2 := z.1.2
              have z3 := z.2
              exact ⟨z1, by split <;> omega⟩
          refine cq_aload_n F (i := 0) dX2_readNumber_31 rfl rfl ?_
          refine cq_iconst F (v := 0) dX2_readNumber_32 rfl ?_
          refine cq_bipush F (v := 9) dX2_readNumber_33 (by decide) ?_
          refine cq_iload_n F (i := 1) dX2_readNumber_35 rfl rfl ?_
          refine cq_iload_n F (i := 2) dX2_readNumber_36 rfl rfl ?_
          refine cq_bipush F (v := 10) dX2_readNumber_37 (by decide) ?_
          refine cq_imul F dX2_readNumber_39 ?_
          rw [show (nI n * 10 : Int32) = nI (n * 10) from pk_mul _ _]
          refine cq_isub F dX2_readNumber_40 ?_
          rw [show (nI most - nI (n * 10) : Int32) = nI (most - n * 10) from pk_sub (a := most) (b := n * 10) (by omega)]
          refine cq_mmin F (F.1.2.2.2.2 _ (List.mem_of_getElem? (l := wsX2_readNumber) (i := 1) (a := .methodLink RX2 104 Lib.Math.min.name) (by decide +kernel))) (F.1.2.2.2.2 _ (List.mem_of_getElem? (l := wsX2_readNumber) (i := 2) (a := .static Lib.Math.min.name) (by decide +kernel))) (F.1.2.2.2.2 _ (List.mem_of_getElem? (l := wsX2_readNumber) (i := 3) (a := .initialized "java/lang/Math") (by decide +kernel))) (F.1.2.2.2.2 _ (List.mem_of_getElem? (l := wsX2_readNumber) (i := 4) (a := .code Lib.Math.min.name Lib.Math.min.code 2 (some .int)) (by decide +kernel))) ⟨by decide, Nat.le_of_ble_eq_true rfl, by decide, by decide⟩ dX2_readNumber_41 ?_
          rw [show (if nI (most - n * 10) < 9 then nI (most - n * 10) else 9 : Int32) = nI (if (most - n * 10) < 9 then (most - n * 10) else 9) from nI_min (x := (most - n * 10)) (y := 9) (by omega) (by omega)]
          refine cq_callV F (C := RX2) (ci := 3) (kX2_readDigit l D cA X Bs a len (p) t 0 (if (most - n * 10) < 9 then (most - n * 10) else 9) M2 ha (hF.m hm) hlen hp2 hpl (by omega) (by split <;> omega)) (cwV 2 F.1.2.2.2.2 gX2_readNumber_X2_readDigit rfl rfl rfl hdVX2_readDigit ⟨Nat.le_of_ble_eq_true rfl, Nat.le_of_ble_eq_true rfl⟩) ha.kind ⟨by decide, by decide⟩ rfl rfl rfl (Nat.le_of_ble_eq_true rfl) dX2_readNumber_44 ⟨Nat.le_of_ble_eq_true rfl, Nat.le_of_ble_eq_true rfl⟩ (cq_kI fun r_44 M_44 h_44 => ?_)
          refine cq_nmi (fun x_47 e_47 => ?_)
          refine cq_istore F dX2_readNumber_47 (by decide) ?_
          refine cq_iload F dX2_readNumber_49 rfl ?_
          refine cq_iconst F (v := (-1)) dX2_readNumber_51 rfl ?_
          refine cq_icmp_ne F (tgt := 57) dX2_readNumber_52 (by decide) (fun c_52 => ?_) (fun c_52 => ?_)
          · obtain ⟨hg_52, rfl⟩ : tx_g (tx_s t len) 0 ((if most - n * 10 < 9 then most - n * 10 else 9)) p ∧ x_47 = nI (tx_s t len (p) - 48) := by
              have z1 := h_44.1
              rw [← e_47] at z1
              by_cases z2 : tx_g (tx_s t len) 0 ((if most - n * 10 < 9 then most - n * 10 else 9)) p
              · rw [if_pos z2] at z1; exact ⟨z2, z1⟩
              · rw [if_neg z2] at z1; exact absurd z1 c_52
            refine cq_iload_n F (i := 2) dX2_readNumber_57 rfl rfl ?_
            refine cq_bipush F (v := 10) dX2_readNumber_58 (by decide) ?_
            refine cq_imul F dX2_readNumber_60 ?_
            rw [show (nI n * 10 : Int32) = nI (n * 10) from pk_mul _ _]
            refine cq_iload F dX2_readNumber_61 rfl ?_
            refine cq_iadd F dX2_readNumber_63 ?_
            rw [show (nI (n * 10) + nI (tx_s t len p - 48) : Int32) = nI (n * 10 + (tx_s t len p - 48)) from nI_add _ _]
            refine cq_istore_n F (i := 2) dX2_readNumber_64 rfl (by decide) ?_
            refine cq_iinc F dX2_readNumber_65 rfl (by decide) (fun x_65 e_65 => ?_)
            obtain rfl : x_65 = nI (i + 1) := by rw [e_65]; exact nI_1 _
            refine cq_goto F (tgt := 17) dX2_readNumber_68 (by decide) ?_
            refine cq_loc (L2 := [(0, .ref a), (1, .int (nI most)), (2, .int (nI (n * 10 + (tx_s t len p - 48)))), (3, .int (nI (i + 1)))]) rfl ?_
            exact ih_17 (i + 1) (n * 10 + (tx_s t len p - 48)) (p + 1) M_44 (by omega) (by rw [hres, tx_ng_go (i := i + 1) (by omega) (hdg.mp hg_52), show 10 * n + tx_s t len p - 48 = n * 10 + (tx_s t len p - 48) by omega]) (by omega) (fun _ => by omega) (fun _ => by omega) (by have := (hdg.mp hg_52).2; omega) (h_44.2.1.2 hg_52) (by have z := h_44.2.1.1; rwa [if_pos hg_52] at z) (hF.trans h_44.2.2) (by omega)
          · have hg_52 : ¬ tx_g (tx_s t len) 0 ((if most - n * 10 < 9 then most - n * 10 else 9)) p := fun z => by
              have z1 := h_44.1
              rw [← e_47, if_pos z, c_52] at z1
              have hz9 := hm.s p
              have z3 := congrArg Int32.toInt z1
              rw [nI_toInt (by omega)] at z3
              have z4 : (-1 : Int32).toInt = -1 := by decide
              omega
            refine cq_iload_n F (i := 2) dX2_readNumber_55 rfl rfl ?_
            refine cq_iret F hr (by decide) (by decide) dX2_readNumber_56 ⟨_, rfl, ?_⟩
            have hr9 : tx_n (tx_s t len) most p0 = (n, p) := hres.trans (tx_ng_end (fun z => hg_52 (hdg.mpr z)))
            rw [hr9]
            exact ⟨(if_neg (show ¬ n = 0 by omega)).symm, ⟨by have z := h_44.2.1.1; rwa [if_neg hg_52] at z, hpl⟩, hF.trans h_44.2.2⟩
  refine cq_aload_n F (i := 0) dX2_readNumber_0 rfl rfl ?_
  refine cq_iconst F (v := 1) dX2_readNumber_1 rfl ?_
  refine cq_bipush F (v := 9) dX2_readNumber_2 (by decide) ?_
  refine cq_callV F (C := RX2) (ci := 3) (kX2_readDigit l D cA X Bs a len (p0) t 1 9 M ha hm hlen hp hp9 (by omega) (by omega)) (cwV 2 F.1.2.2.2.2 gX2_readNumber_X2_readDigit rfl rfl rfl hdVX2_readDigit ⟨Nat.le_of_ble_eq_true rfl, Nat.le_of_ble_eq_true rfl⟩) ha.kind ⟨by decide, by decide⟩ rfl rfl rfl (Nat.le_of_ble_eq_true rfl) dX2_readNumber_4 ⟨Nat.le_of_ble_eq_true rfl, Nat.le_of_ble_eq_true rfl⟩ (cq_kI fun r_4 M_4 h_4 => ?_)
  refine cq_nmi (fun x_7 e_7 => ?_)
  refine cq_istore_n F (i := 2) dX2_readNumber_7 rfl (by decide) ?_
  refine cq_iload_n F (i := 2) dX2_readNumber_8 rfl rfl ?_
  refine cq_iconst F (v := (-1)) dX2_readNumber_9 rfl ?_
  refine cq_icmp_ne F (tgt := 15) dX2_readNumber_10 (by decide) (fun c_10 => ?_) (fun c_10 => ?_)
  · obtain ⟨hg_10, rfl⟩ : tx_g (tx_s t len) 1 (9) p0 ∧ x_7 = nI (tx_s t len (p0) - 48) := by
      have z1 := h_4.1
      rw [← e_7] at z1
      by_cases z2 : tx_g (tx_s t len) 1 (9) p0
      · rw [if_pos z2] at z1; exact ⟨z2, z1⟩
      · rw [if_neg z2] at z1; exact absurd z1 c_10
    refine cq_iconst F (v := 0) dX2_readNumber_15 rfl ?_
    refine cq_istore_n F (i := 3) dX2_readNumber_16 rfl (by decide) ?_
    refine cq_loc (L2 := [(0, .ref a), (1, .int (nI most)), (2, .int (nI (tx_s t len p0 - 48))), (3, .int (nI 0))]) rfl ?_
    exact loop_17 4 0 (tx_s t len p0 - 48) (p0 + 1) M_4 (by omega) (by show tx_ng _ _ 3 0 p0 = _; rw [tx_ng, if_pos ⟨⟨by rw [if_pos rfl]; omega, by omega⟩, by omega⟩, Nat.mul_zero, Nat.zero_add]) (by omega) (fun z => absurd z (by omega)) (fun z => absurd z (by omega)) (by omega) (h_4.2.1.2 hg_10) (by have z := h_4.2.1.1; rwa [if_pos hg_10] at z) h_4.2.2 (by omega)
  · have hg_10 : ¬ tx_g (tx_s t len) 1 (9) p0 := fun z => by
      have z1 := h_4.1
      rw [← e_7, if_pos z, c_10] at z1
      have hz9 := hm.s p0
      have z3 := congrArg Int32.toInt z1
      rw [nI_toInt (by omega)] at z3
      have z4 : (-1 : Int32).toInt = -1 := by decide
      omega
    refine cq_iconst F (v := (-1)) dX2_readNumber_13 rfl ?_
    refine cq_iret F hr (by decide) (by decide) dX2_readNumber_14 ⟨_, rfl, ?_⟩
    have hr9 : tx_n (tx_s t len) most p0 = (0, p0) := tx_ng_end (f := 3) (fun z => hg_10 ⟨by have z1 := z.1.1; rw [if_pos rfl] at z1; exact z1, z.1.2⟩)
    rw [hr9]
    exact ⟨rfl, ⟨by have z := h_4.2.1.1; rwa [if_neg hg_10] at z, hp9⟩, h_4.2.2⟩
theorem hdVX2_readNumber : yX2_readNumber.cls = RX2 ∧ yX2_readNumber.cls ≠ "java/lang/invoke/MethodHandle" ∧ yX2_readNumber.cls ≠ "java/lang/invoke/VarHandle" ∧ (parseMethodDescriptor yX2_readNumber.desc).map (fun d => d.parameters.length) = some 1 := by decide +kernel
