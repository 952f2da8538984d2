/-! the class: the readers of fields -/
theorem nI_nm1 {n : Nat} (h : n < 1000) : ¬ nI n = -1 := fun z => by
  have z3 := congrArg Int32.toInt z
  rw [nI_toInt (by omega)] at z3
  have z4 : (-1 : Int32).toInt = -1 := by decide
  omega
/-- the place and one field are changed -/
def tc_f (M M1 : cq_M) (a k : Nat) : Prop := ∀ x j, ¬ (x = a ∧ (j = 2 ∨ j = k)) → M1 x j = M x j
theorem tc_2.f {M M1 : cq_M} {a : Nat} (h : tc_2 M M1 a) (k : Nat) : tc_f M M1 a k := fun x j z => h x j (fun y => z ⟨y.1, Or.inl y.2⟩)
theorem tc_f.up {M M1 M2 : cq_M} {a k : Nat} {v : Int32} (h : tc_f M M1 a k) (h2 : M2 = cq_up M1 a k v) : tc_f M M2 a k := fun x j z => by
  rw [h2]
  by_cases e : x = a
  · subst e; rw [cq_up_k (fun y => z ⟨rfl, Or.inr y⟩)]; exact h _ j z
  · rw [cq_up_a e]; exact h x j z
theorem tc_f.two {M M1 M2 : cq_M} {a k : Nat} (h : tc_f M M1 a k) (h2 : tc_2 M1 M2 a) : tc_f M M2 a k := fun x j z => by rw [h2 x j (fun y => z ⟨y.1, Or.inl y.2⟩), h x j z]
theorem tc_f.m {M M1 : cq_M} {a k len : Nat} {t : Nat → Nat} (h : tc_f M M1 a k) (hk : k ≠ 1) (hm : tc_M M a t len) : tc_M M1 a t len := ⟨by rw [h _ _ (by omega)]; exact hm.1, fun j hj => by rw [h _ _ (by omega)]; exact hm.2.1 j hj, hm.2.2⟩
abbrev rmX2_readOut : Room := ({ frames := 1, cells := 0, slots := 0, locals := 23 })
set_option maxHeartbeats 4000000 in
set_option maxRecDepth 100000 in
theorem kX2_readOut (l : Launch) (D : va_G) (cA : Nat → ClassId) (X : cq_X) (Bs : Nat) (a len p : Nat) (t : Nat → Nat) (M : cq_M) (ha : cq_isText X a) (hm : tc_M M a t len) (hlen : len ≤ 60) (hp : M a 2 = nI p) (hp9 : p ≤ 60) : cq_C l yX2_readOut wsX2_readOut rmX2_readOut D cA X Bs [.ref a] M (cq_PI (fun r M1 => r = (if tx_cd (tx_s t len) p then 1 else 0) ∧ M1 a 2 = nI (if tx_cd (tx_s t len) p then p + 1 else p) ∧ (tx_cd (tx_s t len) p → p + 1 ≤ 60 ∧ M1 a 6 = nI (tx_s t len p - 48)) ∧ tc_f M M1 a 6)) 0 0 := by
  refine cq_met (cc := cX2_readOut) (maxL := 1) (ret := (some .boolean)) (by decide) rfl (Nat.le_of_ble_eq_true rfl) [(0, .ref a)] rfl rfl ?_
  intro p9 e9 s9 m9 b9 t9 c9 F hr
  have inX2 : ∀ w ∈ wsX20, w ∈ wsX2_readOut := (fun w h => List.mem_cons_of_mem _ (List.mem_append_right _ h))
  refine cq_aload_n F (i := 0) dX2_readOut_0 rfl rfl ?_
  refine cq_aload_n F (i := 0) dX2_readOut_1 rfl rfl ?_
  refine cq_iconst F (v := 0) dX2_readOut_2 rfl ?_
  refine cq_iconst F (v := 3) dX2_readOut_3 rfl ?_
  refine cq_callV F (C := RX2) (ci := 3) (kX2_readDigit l D cA X Bs a len (p) t 0 3 M ha hm hlen hp hp9 (by omega) (by omega)) (cwV 2 F.1.2.2.2.2 gX2_readOut_X2_readDigit rfl rfl rfl hdVX2_readDigit ⟨Nat.le_of_ble_eq_true rfl, Nat.le_of_ble_eq_true rfl⟩) ha.kind ⟨by decide, by decide⟩ rfl rfl rfl (Nat.le_of_ble_eq_true rfl) dX2_readOut_4 ⟨Nat.le_of_ble_eq_true rfl, Nat.le_of_ble_eq_true rfl⟩ (cq_kI fun r_4 M_4 h_4 => ?_)
  refine cq_put F (C := RX2) (T := TX2) (N := 10) (ci := 3) ha.kind rfl ⟨⟨by decide, by decide⟩, rfl⟩ inX2 tyX2 tyX2_ok nmX2 6 (by decide) rfl rfl (F.1.2.2.2.2 _ (List.mem_of_getElem? (l := wsX2_readOut) (i := 1) (a := .fieldLink RX2 91 "CordClock$OrderText" "out" "I") (by decide +kernel))) rfl (by rfl) (by rfl) dX2_readOut_7 (fun M_7 h_7 => ?_)
  refine cq_aload_n F (i := 0) dX2_readOut_10 rfl rfl ?_
  refine cq_getI F (C := RX2) (T := TX2) (N := 10) (ci := 3) ha.kind rfl ⟨⟨by decide, by decide⟩, rfl⟩ inX2 6 (by decide) rfl rfl (F.1.2.2.2.2 _ (List.mem_of_getElem? (l := wsX2_readOut) (i := 1) (a := .fieldLink RX2 91 "CordClock$OrderText" "out" "I") (by decide +kernel))) dX2_readOut_11 ?_
  refine cq_iconst F (v := (-1)) dX2_readOut_14 rfl ?_
  refine cq_icmp_eq F (tgt := 22) dX2_readOut_15 (by decide) (fun c_15 => ?_) (fun c_15 => ?_)
  · refine cq_iconst F (v := 0) dX2_readOut_22 rfl ?_
    refine cq_zret F hr (by rfl) (by decide) (by decide) dX2_readOut_23 ⟨_, rfl, ?_⟩
    have e7 : M_7 a 6 = r_4 := by rw [h_7]; exact cq_up_s _ _ _ _
    rw [e7] at c_15
    have hF : tc_f M M_7 a 6 := (h_4.2.2.f 6).up h_7
    have e2 : M_7 a 2 = M_4 a 2 := by rw [h_7]; exact cq_up_k (by omega)
    have hs9 := hm.s p
    by_cases hg : tx_g (tx_s t len) 0 3 p
    · have z := h_4.1
      have z2 := h_4.2.1.1
      rw [if_pos hg] at z z2
      have hg2 : tx_cd (tx_s t len) p := hg
      first
      | exact absurd (z.symm.trans c_15) (nI_nm1 (by omega))
      | exact ⟨(if_pos hg2).symm, by rw [if_pos hg2, e2]; exact z2, fun _ => ⟨h_4.2.1.2 hg, by rw [e7]; exact z⟩, hF⟩
    · have z := h_4.1
      have z2 := h_4.2.1.1
      rw [if_neg hg] at z z2
      have hg2 : ¬ tx_cd (tx_s t len) p := hg
      first
      | exact absurd z c_15
      | exact ⟨(if_neg hg2).symm, by rw [if_neg hg2, e2]; exact z2, fun y => absurd y hg2, hF⟩
  · refine cq_iconst F (v := 1) dX2_readOut_18 rfl ?_
    refine cq_goto F (tgt := 23) dX2_readOut_19 (by decide) ?_
    refine cq_zret F hr (by rfl) (by decide) (by decide) dX2_readOut_23 ⟨_, rfl, ?_⟩
    have e7 : M_7 a 6 = r_4 := by rw [h_7]; exact cq_up_s _ _ _ _
    rw [e7] at c_15
    have hF : tc_f M M_7 a 6 := (h_4.2.2.f 6).up h_7
    have e2 : M_7 a 2 = M_4 a 2 := by rw [h_7]; exact cq_up_k (by omega)
    have hs9 := hm.s p
    by_cases hg : tx_g (tx_s t len) 0 3 p
    · have z := h_4.1
      have z2 := h_4.2.1.1
      rw [if_pos hg] at z z2
      have hg2 : tx_cd (tx_s t len) p := hg
      first
      | exact absurd (z.symm.trans c_15) (nI_nm1 (by omega))
      | exact ⟨(if_pos hg2).symm, by rw [if_pos hg2, e2]; exact z2, fun _ => ⟨h_4.2.1.2 hg, by rw [e7]; exact z⟩, hF⟩
    · have z := h_4.1
      have z2 := h_4.2.1.1
      rw [if_neg hg] at z z2
      have hg2 : ¬ tx_cd (tx_s t len) p := hg
      first
      | exact absurd z c_15
      | exact ⟨(if_neg hg2).symm, by rw [if_neg hg2, e2]; exact z2, fun y => absurd y hg2, hF⟩
theorem hdVX2_readOut : yX2_readOut.cls = RX2 ∧ yX2_readOut.cls ≠ "java/lang/invoke/MethodHandle" ∧ yX2_readOut.cls ≠ "java/lang/invoke/VarHandle" ∧ (parseMethodDescriptor yX2_readOut.desc).map (fun d => d.parameters.length) = some 0 := by decide +kernel
abbrev rmX2_readCord : Room := ({ frames := 1, cells := 0, slots := 0, locals := 23 })
set_option maxHeartbeats 4000000 in
set_option maxRecDepth 100000 in
theorem kX2_readCord (l : Launch) (D : va_G) (cA : Nat → ClassId) (X : cq_X) (Bs : Nat) (a len p : Nat) (t : Nat → Nat) (M : cq_M) (ha : cq_isText X a) (hm : tc_M M a t len) (hlen : len ≤ 60) (hp : M a 2 = nI p) (hp9 : p ≤ 60) : cq_C l yX2_readCord wsX2_readCord rmX2_readCord D cA X Bs [.ref a] M (cq_PI (fun r M1 => r = (if tx_cd (tx_s t len) p then 1 else 0) ∧ M1 a 2 = nI (if tx_cd (tx_s t len) p then p + 1 else p) ∧ (tx_cd (tx_s t len) p → p + 1 ≤ 60 ∧ M1 a 7 = nI (tx_s t len p - 48)) ∧ tc_f M M1 a 7)) 0 0 := by
  refine cq_met (cc := cX2_readCord) (maxL := 1) (ret := (some .boolean)) (by decide) rfl (Nat.le_of_ble_eq_true rfl) [(0, .ref a)] rfl rfl ?_
  intro p9 e9 s9 m9 b9 t9 c9 F hr
  have inX2 : ∀ w ∈ wsX20, w ∈ wsX2_readCord := (fun w h => List.mem_cons_of_mem _ (List.mem_append_right _ h))
  refine cq_aload_n F (i := 0) dX2_readCord_0 rfl rfl ?_
  refine cq_aload_n F (i := 0) dX2_readCord_1 rfl rfl ?_
  refine cq_iconst F (v := 0) dX2_readCord_2 rfl ?_
  refine cq_iconst F (v := 3) dX2_readCord_3 rfl ?_
  refine cq_callV F (C := RX2) (ci := 3) (kX2_readDigit l D cA X Bs a len (p) t 0 3 M ha hm hlen hp hp9 (by omega) (by omega)) (cwV 2 F.1.2.2.2.2 gX2_readCord_X2_readDigit rfl rfl rfl hdVX2_readDigit ⟨Nat.le_of_ble_eq_true rfl, Nat.le_of_ble_eq_true rfl⟩) ha.kind ⟨by decide, by decide⟩ rfl rfl rfl (Nat.le_of_ble_eq_true rfl) dX2_readCord_4 ⟨Nat.le_of_ble_eq_true rfl, Nat.le_of_ble_eq_true rfl⟩ (cq_kI fun r_4 M_4 h_4 => ?_)
  refine cq_put F (C := RX2) (T := TX2) (N := 10) (ci := 3) ha.kind rfl ⟨⟨by decide, by decide⟩, rfl⟩ inX2 tyX2 tyX2_ok nmX2 7 (by decide) rfl rfl (F.1.2.2.2.2 _ (List.mem_of_getElem? (l := wsX2_readCord) (i := 1) (a := .fieldLink RX2 94 "CordClock$OrderText" "cord" "I") (by decide +kernel))) rfl (by rfl) (by rfl) dX2_readCord_7 (fun M_7 h_7 => ?_)
  refine cq_aload_n F (i := 0) dX2_readCord_10 rfl rfl ?_
  refine cq_getI F (C := RX2) (T := TX2) (N := 10) (ci := 3) ha.kind rfl ⟨⟨by decide, by decide⟩, rfl⟩ inX2 7 (by decide) rfl rfl (F.1.2.2.2.2 _ (List.mem_of_getElem? (l := wsX2_readCord) (i := 1) (a := .fieldLink RX2 94 "CordClock$OrderText" "cord" "I") (by decide +kernel))) dX2_readCord_11 ?_
  refine cq_iconst F (v := (-1)) dX2_readCord_14 rfl ?_
  refine cq_icmp_eq F (tgt := 22) dX2_readCord_15 (by decide) (fun c_15 => ?_) (fun c_15 => ?_)
  · refine cq_iconst F (v := 0) dX2_readCord_22 rfl ?_
    refine cq_zret F hr (by rfl) (by decide) (by decide) dX2_readCord_23 ⟨_, rfl, ?_⟩
    have e7 : M_7 a 7 = r_4 := by rw [h_7]; exact cq_up_s _ _ _ _
    rw [e7] at c_15
    have hF : tc_f M M_7 a 7 := (h_4.2.2.f 7).up h_7
    have e2 : M_7 a 2 = M_4 a 2 := by rw [h_7]; exact cq_up_k (by omega)
    have hs9 := hm.s p
    by_cases hg : tx_g (tx_s t len) 0 3 p
    · have z := h_4.1
      have z2 := h_4.2.1.1
      rw [if_pos hg] at z z2
      have hg2 : tx_cd (tx_s t len) p := hg
      first
      | exact absurd (z.symm.trans c_15) (nI_nm1 (by omega))
      | exact ⟨(if_pos hg2).symm, by rw [if_pos hg2, e2]; exact z2, fun _ => ⟨h_4.2.1.2 hg, by rw [e7]; exact z⟩, hF⟩
    · have z := h_4.1
      have z2 := h_4.2.1.1
      rw [if_neg hg] at z z2
      have hg2 : ¬ tx_cd (tx_s t len) p := hg
      first
      | exact absurd z c_15
      | exact ⟨(if_neg hg2).symm, by rw [if_neg hg2, e2]; exact z2, fun y => absurd y hg2, hF⟩
  · refine cq_iconst F (v := 1) dX2_readCord_18 rfl ?_
    refine cq_goto F (tgt := 23) dX2_readCord_19 (by decide) ?_
    refine cq_zret F hr (by rfl) (by decide) (by decide) dX2_readCord_23 ⟨_, rfl, ?_⟩
    have e7 : M_7 a 7 = r_4 := by rw [h_7]; exact cq_up_s _ _ _ _
    rw [e7] at c_15
    have hF : tc_f M M_7 a 7 := (h_4.2.2.f 7).up h_7
    have e2 : M_7 a 2 = M_4 a 2 := by rw [h_7]; exact cq_up_k (by omega)
    have hs9 := hm.s p
    by_cases hg : tx_g (tx_s t len) 0 3 p
    · have z := h_4.1
      have z2 := h_4.2.1.1
      rw [if_pos hg] at z z2
      have hg2 : tx_cd (tx_s t len) p := hg
      first
      | exact absurd (z.symm.trans c_15) (nI_nm1 (by omega))
      | exact ⟨(if_pos hg2).symm, by rw [if_pos hg2, e2]; exact z2, fun _ => ⟨h_4.2.1.2 hg, by rw [e7]; exact z⟩, hF⟩
    · have z := h_4.1
      have z2 := h_4.2.1.1
      rw [if_neg hg] at z z2
      have hg2 : ¬ tx_cd (tx_s t len) p := hg
      first
      | exact absurd z c_15
      | exact ⟨(if_neg hg2).symm, by rw [if_neg hg2, e2]; exact z2, fun y => absurd y hg2, hF⟩
theorem hdVX2_readCord : yX2_readCord.cls = RX2 ∧ yX2_readCord.cls ≠ "java/lang/invoke/MethodHandle" ∧ yX2_readCord.cls ≠ "java/lang/invoke/VarHandle" ∧ (parseMethodDescriptor yX2_readCord.desc).map (fun d => d.parameters.length) = some 0 := by decide +kernel
abbrev rmX2_readSteps : Room := ({ frames := 2, cells := 0, slots := 0, locals := 47 })
set_option maxHeartbeats 4000000 in
set_option maxRecDepth 100000 in
theorem kX2_readSteps (l : Launch) (D : va_G) (cA : Nat → ClassId) (X : cq_X) (Bs : Nat) (a len p : Nat) (t : Nat → Nat) (M : cq_M) (ha : cq_isText X a) (hm : tc_M M a t len) (hlen : len ≤ 60) (hp : M a 2 = nI p) (hp9 : p ≤ 60) : cq_C l yX2_readSteps wsX2_readSteps rmX2_readSteps D cA X Bs [.ref a] M (cq_PI (fun r M1 => r = (if (tx_n (tx_s t len) 200 p).1 = 0 then 0 else 1) ∧ (M1 a 2 = nI (tx_n (tx_s t len) 200 p).2 ∧ (tx_n (tx_s t len) 200 p).2 ≤ 60) ∧ (¬ (tx_n (tx_s t len) 200 p).1 = 0 → M1 a 9 = nI (tx_n (tx_s t len) 200 p).1) ∧ tc_f M M1 a 9)) 0 0 := by
  refine cq_met (cc := cX2_readSteps) (maxL := 1) (ret := (some .boolean)) (by decide) rfl (Nat.le_of_ble_eq_true rfl) [(0, .ref a)] rfl rfl ?_
  intro p9 e9 s9 m9 b9 t9 c9 F hr
  have inX2 : ∀ w ∈ wsX20, w ∈ wsX2_readSteps := (fun w h => List.mem_cons_of_mem _ (List.mem_append_right _ h))
  refine cq_aload_n F (i := 0) dX2_readSteps_0 rfl rfl ?_
  refine cq_aload_n F (i := 0) dX2_readSteps_1 rfl rfl ?_
  refine cq_sipush F (v := 200) dX2_readSteps_2 (by decide) ?_
  refine cq_callV F (C := RX2) (ci := 3) (kX2_readNumber l D cA X Bs a len p 200 t M ha hm hlen hp hp9 (by omega)) (cwV 1 F.1.2.2.2.2 gX2_readSteps_X2_readNumber rfl rfl rfl hdVX2_readNumber ⟨Nat.le_of_ble_eq_true rfl, Nat.le_of_ble_eq_true rfl⟩) ha.kind ⟨by decide, by decide⟩ rfl rfl rfl (Nat.le_of_ble_eq_true rfl) dX2_readSteps_5 ⟨Nat.le_of_ble_eq_true rfl, Nat.le_of_ble_eq_true rfl⟩ (cq_kI fun r_5 M_5 h_5 => ?_)
  refine cq_put F (C := RX2) (T := TX2) (N := 10) (ci := 3) ha.kind rfl ⟨⟨by decide, by decide⟩, rfl⟩ inX2 tyX2 tyX2_ok nmX2 9 (by decide) rfl rfl (F.1.2.2.2.2 _ (List.mem_of_getElem? (l := wsX2_readSteps) (i := 1) (a := .fieldLink RX2 101 "CordClock$OrderText" "steps" "I") (by decide +kernel))) rfl (by rfl) (by rfl) dX2_readSteps_8 (fun M_8 h_8 => ?_)
  refine cq_aload_n F (i := 0) dX2_readSteps_11 rfl rfl ?_
  refine cq_getI F (C := RX2) (T := TX2) (N := 10) (ci := 3) ha.kind rfl ⟨⟨by decide, by decide⟩, rfl⟩ inX2 9 (by decide) rfl rfl (F.1.2.2.2.2 _ (List.mem_of_getElem? (l := wsX2_readSteps) (i := 1) (a := .fieldLink RX2 101 "CordClock$OrderText" "steps" "I") (by decide +kernel))) dX2_readSteps_12 ?_
  refine cq_iconst F (v := (-1)) dX2_readSteps_15 rfl ?_
  refine cq_icmp_eq F (tgt := 23) dX2_readSteps_16 (by decide) (fun c_16 => ?_) (fun c_16 => ?_)
  · refine cq_iconst F (v := 0) dX2_readSteps_23 rfl ?_
    refine cq_zret F hr (by rfl) (by decide) (by decide) dX2_readSteps_24 ⟨_, rfl, ?_⟩
    have e7 : M_8 a 9 = r_5 := by rw [h_8]; exact cq_up_s _ _ _ _
    rw [e7] at c_16
    have hF : tc_f M M_8 a 9 := (h_5.2.2.f 9).up h_8
    have e2 : M_8 a 2 = M_5 a 2 := by rw [h_8]; exact cq_up_k (by omega)
    have hle := tx_n_le (s := tx_s t len) (most := 200) (p := p)
    by_cases hg : (tx_n (tx_s t len) 200 p).1 = 0
    · have z := h_5.1
      rw [if_pos hg] at z
      first
      | exact absurd z c_16
      | exact ⟨(if_pos hg).symm, by rw [e2]; exact h_5.2.1, fun y => absurd hg y, hF⟩
    · have z := h_5.1
      rw [if_neg hg] at z
      first
      | exact absurd (z.symm.trans c_16) (nI_nm1 (by omega))
      | exact ⟨(if_neg hg).symm, by rw [e2]; exact h_5.2.1, fun _ => by rw [e7]; exact z, hF⟩
  · refine cq_iconst F (v := 1) dX2_readSteps_19 rfl ?_
    refine cq_goto F (tgt := 24) dX2_readSteps_20 (by decide) ?_
    refine cq_zret F hr (by rfl) (by decide) (by decide) dX2_readSteps_24 ⟨_, rfl, ?_⟩
    have e7 : M_8 a 9 = r_5 := by rw [h_8]; exact cq_up_s _ _ _ _
    rw [e7] at c_16
    have hF : tc_f M M_8 a 9 := (h_5.2.2.f 9).up h_8
    have e2 : M_8 a 2 = M_5 a 2 := by rw [h_8]; exact cq_up_k (by omega)
    have hle := tx_n_le (s := tx_s t len) (most := 200) (p := p)
    by_cases hg : (tx_n (tx_s t len) 200 p).1 = 0
    · have z := h_5.1
      rw [if_pos hg] at z
      first
      | exact absurd z c_16
      | exact ⟨(if_pos hg).symm, by rw [e2]; exact h_5.2.1, fun y => absurd hg y, hF⟩
    · have z := h_5.1
      rw [if_neg hg] at z
      first
      | exact absurd (z.symm.trans c_16) (nI_nm1 (by omega))
      | exact ⟨(if_neg hg).symm, by rw [e2]; exact h_5.2.1, fun _ => by rw [e7]; exact z, hF⟩
theorem hdVX2_readSteps : yX2_readSteps.cls = RX2 ∧ yX2_readSteps.cls ≠ "java/lang/invoke/MethodHandle" ∧ yX2_readSteps.cls ≠ "java/lang/invoke/VarHandle" ∧ (parseMethodDescriptor yX2_readSteps.desc).map (fun d => d.parameters.length) = some 0 := by decide +kernel
abbrev rmX2_readEnd : Room := ({ frames := 1, cells := 0, slots := 0, locals := 22 })
set_option maxHeartbeats 4000000 in
set_option maxRecDepth 100000 in
theorem kX2_readEnd (l : Launch) (D : va_G) (cA : Nat → ClassId) (X : cq_X) (Bs : Nat) (a len p : Nat) (t : Nat → Nat) (M : cq_M) (ha : cq_isText X a) (hm : tc_M M a t len) (hlen : len ≤ 60) (hp : M a 2 = nI p) (hp9 : p ≤ 60) : cq_C l yX2_readEnd wsX2_readEnd rmX2_readEnd D cA X Bs [.ref a] M (cq_PI (fun r M1 => r = (if (tx_side (tx_s t len) p).1 = true then 1 else 0) ∧ (M1 a 2 = nI (tx_side (tx_s t len) p).2.1 ∧ (tx_side (tx_s t len) p).2.1 ≤ 60) ∧ M1 a 8 = nI (tx_side (tx_s t len) p).2.2 ∧ tc_f M M1 a 8)) 0 0 := by
  refine cq_met (cc := cX2_readEnd) (maxL := 1) (ret := (some .boolean)) (by decide) rfl (Nat.le_of_ble_eq_true rfl) [(0, .ref a)] rfl rfl ?_
  intro p9 e9 s9 m9 b9 t9 c9 F hr
  have inX2 : ∀ w ∈ wsX20, w ∈ wsX2_readEnd := (fun w h => List.mem_cons_of_mem _ (List.mem_append_right _ h))
  refine cq_aload_n F (i := 0) dX2_readEnd_0 rfl rfl ?_
  refine cq_aload_n F (i := 0) dX2_readEnd_1 rfl rfl ?_
  refine cq_bipush F (v := 76) dX2_readEnd_2 (by decide) ?_
  refine cq_callV F (C := RX2) (ci := 3) (kX2_take l D cA X Bs a len (p) t 76 M ha hm hlen hp hp9 (by decide)) (cwV 1 F.1.2.2.2.2 gX2_readEnd_X2_take rfl rfl rfl hdVX2_take ⟨Nat.le_of_ble_eq_true rfl, Nat.le_of_ble_eq_true rfl⟩) ha.kind ⟨by decide, by decide⟩ rfl rfl rfl (Nat.le_of_ble_eq_true rfl) dX2_readEnd_4 ⟨Nat.le_of_ble_eq_true rfl, Nat.le_of_ble_eq_true rfl⟩ (cq_kI fun r_4 M_4 h_4 => ?_)
  refine cq_put F (C := RX2) (T := TX2) (N := 10) (ci := 3) ha.kind rfl ⟨⟨by decide, by decide⟩, rfl⟩ inX2 tyX2 tyX2_ok nmX2 8 (by decide) rfl rfl (F.1.2.2.2.2 _ (List.mem_of_getElem? (l := wsX2_readEnd) (i := 1) (a := .fieldLink RX2 97 "CordClock$OrderText" "left" "Z") (by decide +kernel))) rfl (cq_zn (by rw [h_4.1]; split <;> simp)) (cq_fz (by rw [h_4.1]; split <;> simp)) dX2_readEnd_7 (fun M_7 h_7 => ?_)
  refine cq_aload_n F (i := 0) dX2_readEnd_10 rfl rfl ?_
  refine cq_getI F (C := RX2) (T := TX2) (N := 10) (ci := 3) ha.kind rfl ⟨⟨by decide, by decide⟩, rfl⟩ inX2 8 (by decide) rfl rfl (F.1.2.2.2.2 _ (List.mem_of_getElem? (l := wsX2_readEnd) (i := 1) (a := .fieldLink RX2 97 "CordClock$OrderText" "left" "Z") (by decide +kernel))) dX2_readEnd_11 ?_
  have e7 : M_7 a 8 = r_4 := by rw [h_7]; exact cq_up_s _ _ _ _
  have hF7 : tc_f M M_7 a 8 := (h_4.2.2.f 8).up h_7
  have hs9 := hm.s p
  refine cq_if_ne F (tgt := 26) dX2_readEnd_14 (by decide) (fun c_14 => ?_) (fun c_14 => ?_)
  · have d_14 : tx_s t len p = 76 := cq_b1 h_4.1 (by rw [← e7]; exact c_14)
    refine cq_iconst F (v := 1) dX2_readEnd_26 rfl ?_
    refine cq_goto F (tgt := 31) dX2_readEnd_27 (by decide) ?_
    refine cq_zret F hr (by rfl) (by decide) (by decide) dX2_readEnd_31 ⟨_, rfl, ?_⟩
    unfold tx_side
    first
    | (rw [if_pos d_14]
       exact ⟨rfl, ⟨by rw [h_7, cq_up_k (by omega)]; have z := h_4.2.1.1; rwa [tx_t, if_pos d_14] at z, by show p + 1 ≤ 60; omega⟩, by rw [e7, h_4.1, if_pos d_14]; rfl, hF7⟩)
    | (rw [if_neg d_14, if_pos c_23]
       exact ⟨rfl, ⟨by have z := h_20.2.1.1; rwa [tx_t, if_pos c_23] at z, by show p + 1 ≤ 60; omega⟩, by rw [h_20.2.2 _ _ (by omega), e7, h_4.1, if_neg d_14]; rfl, hF7.two h_20.2.2⟩)
    | (rw [if_neg d_14, if_neg c_23]
       exact ⟨rfl, ⟨by have z := h_20.2.1.1; rwa [tx_t, if_neg c_23] at z, hp9⟩, by rw [h_20.2.2 _ _ (by omega), e7, h_4.1, if_neg d_14]; rfl, hF7.two h_20.2.2⟩)
  · have d_14 : ¬ tx_s t len p = 76 := cq_b0 h_4.1 (by rw [← e7]; exact c_14)
    refine cq_aload_n F (i := 0) dX2_readEnd_17 rfl rfl ?_
    refine cq_bipush F (v := 82) dX2_readEnd_18 (by decide) ?_
    refine cq_callV F (C := RX2) (ci := 3) (kX2_take l D cA X Bs a len (p) t 82 M_7 ha (hF7.m (by omega) hm) hlen (by rw [h_7, cq_up_k (by omega)]; have z := h_4.2.1.1; rwa [tx_t, if_neg d_14] at z) hp9 (by decide)) (cwV 1 F.1.2.2.2.2 gX2_readEnd_X2_take rfl rfl rfl hdVX2_take ⟨Nat.le_of_ble_eq_true rfl, Nat.le_of_ble_eq_true rfl⟩) ha.kind ⟨by decide, by decide⟩ rfl rfl rfl (Nat.le_of_ble_eq_true rfl) dX2_readEnd_20 ⟨Nat.le_of_ble_eq_true rfl, Nat.le_of_ble_eq_true rfl⟩ (cq_kI fun r_20 M_20 h_20 => ?_)
    refine cq_if_eq F (tgt := 30) dX2_readEnd_23 (by decide) (fun c_23 => ?_) (fun c_23 => ?_)
    · have c_23 := cq_b0 h_20.1 c_23
      refine cq_iconst F (v := 0) dX2_readEnd_30 rfl ?_
      refine cq_zret F hr (by rfl) (by decide) (by decide) dX2_readEnd_31 ⟨_, rfl, ?_⟩
      unfold tx_side
      first
      | (rw [if_pos d_14]
         exact ⟨rfl, ⟨by rw [h_7, cq_up_k (by omega)]; have z := h_4.2.1.1; rwa [tx_t, if_pos d_14] at z, by show p + 1 ≤ 60; omega⟩, by rw [e7, h_4.1, if_pos d_14]; rfl, hF7⟩)
      | (rw [if_neg d_14, if_pos c_23]
         exact ⟨rfl, ⟨by have z := h_20.2.1.1; rwa [tx_t, if_pos c_23] at z, by show p + 1 ≤ 60; omega⟩, by rw [h_20.2.2 _ _ (by omega), e7, h_4.1, if_neg d_14]; rfl, hF7.two h_20.2.2⟩)
      | (rw [if_neg d_14, if_neg c_23]
         exact ⟨rfl, ⟨by have z := h_20.2.1.1; rwa [tx_t, if_neg c_23] at z, hp9⟩, by rw [h_20.2.2 _ _ (by omega), e7, h_4.1, if_neg d_14]; rfl, hF7.two h_20.2.2⟩)
    · have c_23 := cq_b1 h_20.1 c_23
      refine cq_iconst F (v := 1) dX2_readEnd_26 rfl ?_
      refine cq_goto F (tgt := 31) dX2_readEnd_27 (by decide) ?_
      refine cq_zret F hr (by rfl) (by decide) (by decide) dX2_readEnd_31 ⟨_, rfl, ?_⟩
      unfold tx_side
      first
      | (rw [if_pos d_14]
         exact ⟨rfl, ⟨by rw [h_7, cq_up_k (by omega)]; have z := h_4.2.1.1; rwa [tx_t, if_pos d_14] at z, by show p + 1 ≤ 60; omega⟩, by rw [e7, h_4.1, if_pos d_14]; rfl, hF7⟩)
      | (rw [if_neg d_14, if_pos c_23]
         exact ⟨rfl, ⟨by have z := h_20.2.1.1; rwa [tx_t, if_pos c_23] at z, by show p + 1 ≤ 60; omega⟩, by rw [h_20.2.2 _ _ (by omega), e7, h_4.1, if_neg d_14]; rfl, hF7.two h_20.2.2⟩)
      | (rw [if_neg d_14, if_neg c_23]
         exact ⟨rfl, ⟨by have z := h_20.2.1.1; rwa [tx_t, if_neg c_23] at z, hp9⟩, by rw [h_20.2.2 _ _ (by omega), e7, h_4.1, if_neg d_14]; rfl, hF7.two h_20.2.2⟩)
theorem hdVX2_readEnd : yX2_readEnd.cls = RX2 ∧ yX2_readEnd.cls ≠ "java/lang/invoke/MethodHandle" ∧ yX2_readEnd.cls ≠ "java/lang/invoke/VarHandle" ∧ (parseMethodDescriptor yX2_readEnd.desc).map (fun d => d.parameters.length) = some 0 := by decide +kernel
