/-! the JDK: a StringBuilder of 16 bytes that never grows -/
theorem en_l0_ge : ∀ (k n : Nat), 10 ^ k ≤ n → k + 1 ≤ en_l0 n
  | 0, n, h => by
    have h1 : 1 ≤ n := h
    rw [en_l0_s (by omega)]
    omega
  | k + 1, n, h => by
    have h2 : 10 ^ k * 10 ≤ n := by rw [← Nat.pow_succ]; exact h
    have h3 : 0 < 10 ^ k := Nat.pow_pos (by decide)
    have := en_l0_ge k (n / 10) (by omega)
    rw [en_l0_s (by omega)]
    omega
theorem en_len_eq {n i : Nat} (h1 : 1 ≤ i) (h2 : i = 1 ∨ 10 ^ (i - 1) ≤ n) (h3 : n < 10 ^ i) : en_len n = i := by
  obtain ⟨k, rfl⟩ : ∃ k, i = k + 1 := ⟨i - 1, by omega⟩
  have h4 := en_len_le h3
  have h5 : k + 1 ≤ en_len n := by
    unfold en_len
    rcases h2 with h2 | h2
    · omega
    · by_cases hk : k = 0
      · omega
      · obtain ⟨v, rfl⟩ : ∃ v, k = v + 1 := ⟨k - 1, by omega⟩
        have h6 : 10 ^ v * 10 ≤ n := by rw [← Nat.pow_succ]; exact h2
        have := en_l0_ge v (n / 10) (by omega)
        omega
  omega
theorem en_len_100 {n : Nat} (h : 100 ≤ n) : en_len n = en_len (n / 100) + 2 := by
  unfold en_len
  rw [en_l0_s (n := n / 10) (by omega), en_l0_s (n := n / 10 / 10) (by omega), show n / 10 / 10 = n / 100 by omega]
  omega
theorem en_len_9 {n : Nat} (h : n < 10) : en_len n = 1 := by
  unfold en_len
  rw [show n / 10 = 0 by omega, en_l0_z]
theorem en_len_99 {n : Nat} (h : 10 ≤ n) (h2 : n < 100) : en_len n = 2 := by
  unfold en_len
  rw [en_l0_s (by omega), show n / 10 / 10 = 0 by omega, en_l0_z]
theorem en_d1 (v k : Nat) : v / 10 ^ (k + 1) = v / 10 ^ k / 10 := by rw [Nat.pow_succ, Nat.div_div_eq_div_mul]
/-- the builder at q holds n characters f -/
def sb_ok (M : cq_M) (q n : Nat) (f : Nat → Nat) : Prop := M q 1 = nI 0 ∧ M q 3 = nI n ∧ ∀ j, j < n → M (q + 1) j = nI (f j)
def sb_fr (M M1 : cq_M) (q : Nat) : Prop := ∀ x, x ≠ q → x ≠ q + 1 → M1 x = M x
theorem sd_tb : ∀ i, i < 3 → ∀ j, j < cq_tl i → cq_tb i j = nI (cq_tb i j).toNatClampNeg := by decide
theorem sd_dg : ∀ j, j < 100 → vp_nar .byte (Int32.ofNat (48 + j % 10)) = nI (48 + j % 10) ∧ vp_nar .byte (Int32.ofNat (48 + j / 10)) = nI (48 + j / 10) := by decide
theorem sd_100 {m : Nat} (h : m < 2147483648) : (-100 : Int32) < -nI m ↔ m < 100 := sb_nlt (a := 100) (b := m) (by decide) h
theorem sd_9 {m : Nat} (h : m < 2147483648) : (-9 : Int32) ≤ -nI m ↔ m ≤ 9 := sb_nle (a := 9) (b := m) (by decide) h
theorem sd_10 (m : Nat) : (10 : Int32) * -nI m = -nI (m * 10) := by
  show nI 10 * -nI m = _
  rw [Int32.mul_neg, pk_mul, Nat.mul_comm]
abbrev rmJ5_isLatin1_aae02 : Room := ({ frames := 0, cells := 0, slots := 0, locals := 0 })
set_option maxHeartbeats 4000000 in
set_option maxRecDepth 100000 in
theorem kJ5_isLatin1_aae02 (l : Launch) (D : va_G) (cA : Nat → ClassId) (X : cq_X) (Bs : Nat) (q n : Nat) (f : Nat → Nat) (M : cq_M) (hq : cq_isSB X q) (h : sb_ok M q n f) : cq_C l yJ5_isLatin1_aae02 wsJ5_isLatin1_aae02 rmJ5_isLatin1_aae02 D cA X Bs [.ref q] M (cq_PI (fun r M1 => r = 1 ∧ M1 = M)) 0 0 := by
  refine cq_met (cc := cJ5_isLatin1_aae02) (maxL := 1) (ret := (some .boolean)) (by decide) rfl (Nat.le_of_ble_eq_true rfl) [(0, .ref q)] rfl rfl ?_
  intro p9 e9 s9 m9 b9 t9 c9 F hr
  have inJ4 : ∀ w ∈ wsJ40, w ∈ wsJ5_isLatin1_aae02 := (fun w h => List.mem_cons_of_mem _ (List.mem_append_right _ h))
  refine cq_getCS F (F.1.2.2.2.2 _ (List.mem_of_getElem? (l := wsJ5_isLatin1_aae02) (i := 1) (a := .fieldLink RJ5 18 "java/lang/String" "COMPACT_STRINGS" "Z") (by decide +kernel))) dJ5_isLatin1_aae02_0 ?_
  refine cq_if_eq F (tgt := 17) dJ5_isLatin1_aae02_3 (by decide) (fun c_3 => ?_) (fun c_3 => ?_)
  · have c_3 : 1 = 0 := (nI_b (a := 1) (b := 0) (by omega) (by omega)).2.2.mp c_3
    omega
  · have c_3 : ¬ 1 = 0 := fun z => c_3 ((nI_b (a := 1) (b := 0) (by omega) (by omega)).2.2.mpr z)
    refine cq_aload_n F (i := 0) dJ5_isLatin1_aae02_6 rfl rfl ?_
    refine cq_getIh F (C := RJ4) (T := TJ4) (N := 4) (ci := 9) hq.kind rfl ⟨⟨by decide, by decide⟩, rfl⟩ inJ4 1 (by decide) rfl (F.1.2.2.2.2 _ (List.mem_of_getElem? (l := wsJ5_isLatin1_aae02) (i := 2) (a := .fieldLink RJ5 22 "java/lang/AbstractStringBuilder" "coder" "B") (by decide +kernel))) dJ5_isLatin1_aae02_7 ?_
    rw [show M q 1 = nI (0) from (show M q 1 = nI (0) from h.1)]
    refine cq_if_ne F (tgt := 17) dJ5_isLatin1_aae02_10 (by decide) (fun c_10 => ?_) (fun c_10 => ?_)
    · have c_10 : ¬ 0 = 0 := fun z => c_10 ((nI_b (a := 0) (b := 0) (by omega) (by omega)).2.2.mpr z)
      omega
    · have c_10 : 0 = 0 := (nI_b (a := 0) (b := 0) (by omega) (by omega)).2.2.mp c_10
      refine cq_iconst F (v := 1) dJ5_isLatin1_aae02_13 rfl ?_
      refine cq_goto F (tgt := 18) dJ5_isLatin1_aae02_14 (by decide) ?_
      exact cq_zret F hr (by rfl) (by decide) (by decide) dJ5_isLatin1_aae02_18 ⟨_, rfl, ⟨rfl, rfl⟩⟩
theorem hdVJ5_isLatin1_aae02 : yJ5_isLatin1_aae02.cls = RJ5 ∧ yJ5_isLatin1_aae02.cls ≠ "java/lang/invoke/MethodHandle" ∧ yJ5_isLatin1_aae02.cls ≠ "java/lang/invoke/VarHandle" ∧ (parseMethodDescriptor yJ5_isLatin1_aae02.desc).map (fun d => d.parameters.length) = some 0 := by decide +kernel
abbrev rmJ5_ensureCapacityInternal_d00df : Room := ({ frames := 0, cells := 0, slots := 0, locals := 0 })
set_option maxHeartbeats 4000000 in
set_option maxRecDepth 100000 in
theorem kJ5_ensureCapacityInternal_d00df (l : Launch) (D : va_G) (cA : Nat → ClassId) (X : cq_X) (Bs : Nat) (q n k : Nat) (f : Nat → Nat) (M : cq_M) (hq : cq_isSB X q) (h : sb_ok M q n f) (hk : k < 17) : cq_C l yJ5_ensureCapacityInternal_d00df wsJ5_ensureCapacityInternal_d00df rmJ5_ensureCapacityInternal_d00df D cA X Bs [.ref q, .int (nI k)] M (cq_PV (fun M1 => M1 = M)) 0 0 := by
  refine cq_met (cc := cJ5_ensureCapacityInternal_d00df) (maxL := 3) (ret := none) (by decide) rfl (Nat.le_of_ble_eq_true rfl) [(0, .ref q), (1, .int (nI k))] rfl rfl ?_
  intro p9 e9 s9 m9 b9 t9 c9 F hr
  have inJ4 : ∀ w ∈ wsJ40, w ∈ wsJ5_ensureCapacityInternal_d00df := (fun w h => List.mem_cons_of_mem _ (List.mem_append_right _ h))
  refine cq_aload_n F (i := 0) dJ5_ensureCapacityInternal_d00df_0 rfl rfl ?_
  refine cq_getTh (t := q + 1) F (C := RJ4) (T := TJ4) (N := 4) (ci := 9) hq.kind rfl ⟨⟨by decide, by decide⟩, rfl⟩ inJ4 0 (by decide) rfl hq.t0 (F.1.2.2.2.2 _ (List.mem_of_getElem? (l := wsJ5_ensureCapacityInternal_d00df) (i := 1) (a := .fieldLink RJ5 15 "java/lang/AbstractStringBuilder" "value" "[B") (by decide +kernel))) dJ5_ensureCapacityInternal_d00df_1 ?_
  refine cq_alen F hq.k1 hq.n1 dJ5_ensureCapacityInternal_d00df_4 ?_
  refine cq_aload_n F (i := 0) dJ5_ensureCapacityInternal_d00df_5 rfl rfl ?_
  refine cq_getIh F (C := RJ4) (T := TJ4) (N := 4) (ci := 9) hq.kind rfl ⟨⟨by decide, by decide⟩, rfl⟩ inJ4 1 (by decide) rfl (F.1.2.2.2.2 _ (List.mem_of_getElem? (l := wsJ5_ensureCapacityInternal_d00df) (i := 2) (a := .fieldLink RJ5 22 "java/lang/AbstractStringBuilder" "coder" "B") (by decide +kernel))) dJ5_ensureCapacityInternal_d00df_6 ?_
  rw [show M q 1 = nI (0) from (show M q 1 = nI (0) from h.1)]
  refine cq_ishr F dJ5_ensureCapacityInternal_d00df_9 ?_
  rw [show (nI 16 >>> (nI 0 &&& 31) : Int32) = nI 16 from sb_shr0 _]
  refine cq_istore_n F (i := 2) dJ5_ensureCapacityInternal_d00df_10 rfl (by decide) ?_
  refine cq_iload_n F (i := 1) dJ5_ensureCapacityInternal_d00df_11 rfl rfl ?_
  refine cq_iload_n F (i := 2) dJ5_ensureCapacityInternal_d00df_12 rfl rfl ?_
  refine cq_isub F dJ5_ensureCapacityInternal_d00df_13 ?_
  refine cq_if_le F (tgt := 38) dJ5_ensureCapacityInternal_d00df_14 (by decide) (fun c_14 => ?_) (fun c_14 => ?_)
  · exact cq_vret F hr (by decide) (by decide) dJ5_ensureCapacityInternal_d00df_38 ⟨rfl, rfl⟩
  · exact (c_14 (sd_cap k (by omega))).elim
theorem hdVJ5_ensureCapacityInternal_d00df : yJ5_ensureCapacityInternal_d00df.cls = RJ5 ∧ yJ5_ensureCapacityInternal_d00df.cls ≠ "java/lang/invoke/MethodHandle" ∧ yJ5_ensureCapacityInternal_d00df.cls ≠ "java/lang/invoke/VarHandle" ∧ (parseMethodDescriptor yJ5_ensureCapacityInternal_d00df.desc).map (fun d => d.parameters.length) = some 1 := by decide +kernel
abbrev rmJ5_length_8abf5 : Room := ({ frames := 0, cells := 0, slots := 0, locals := 0 })
set_option maxHeartbeats 4000000 in
set_option maxRecDepth 100000 in
theorem kJ5_length_8abf5 (l : Launch) (D : va_G) (cA : Nat → ClassId) (X : cq_X) (Bs : Nat) (q n : Nat) (f : Nat → Nat) (M : cq_M) (hq : cq_isSB X q) (h : sb_ok M q n f) : cq_C l yJ5_length_8abf5 wsJ5_length_8abf5 rmJ5_length_8abf5 D cA X Bs [.ref q] M (cq_PI (fun r M1 => r = nI n ∧ M1 = M)) 0 0 := by
  refine cq_met (cc := cJ5_length_8abf5) (maxL := 1) (ret := (some .int)) (by decide) rfl (Nat.le_of_ble_eq_true rfl) [(0, .ref q)] rfl rfl ?_
  intro p9 e9 s9 m9 b9 t9 c9 F hr
  have inJ4 : ∀ w ∈ wsJ40, w ∈ wsJ5_length_8abf5 := (fun w h => List.mem_cons_of_mem _ (List.mem_append_right _ h))
  refine cq_aload_n F (i := 0) dJ5_length_8abf5_0 rfl rfl ?_
  refine cq_getIh F (C := RJ4) (T := TJ4) (N := 4) (ci := 9) hq.kind rfl ⟨⟨by decide, by decide⟩, rfl⟩ inJ4 3 (by decide) rfl (F.1.2.2.2.2 _ (List.mem_of_getElem? (l := wsJ5_length_8abf5) (i := 1) (a := .fieldLink RJ5 79 "java/lang/AbstractStringBuilder" "count" "I") (by decide +kernel))) dJ5_length_8abf5_1 ?_
  rw [show M q 3 = nI (n) from (show M q 3 = nI (n) from h.2.1)]
  exact cq_iret F hr (by decide) (by decide) dJ5_length_8abf5_4 ⟨_, rfl, ⟨rfl, rfl⟩⟩
theorem hdVJ5_length_8abf5 : yJ5_length_8abf5.cls = RJ5 ∧ yJ5_length_8abf5.cls ≠ "java/lang/invoke/MethodHandle" ∧ yJ5_length_8abf5.cls ≠ "java/lang/invoke/VarHandle" ∧ (parseMethodDescriptor yJ5_length_8abf5.desc).map (fun d => d.parameters.length) = some 0 := by decide +kernel
abbrev rmJ4_length_8abf5 : Room := ({ frames := 1, cells := 0, slots := 0, locals := 20 })
set_option maxHeartbeats 4000000 in
set_option maxRecDepth 100000 in
theorem kJ4_length_8abf5 (l : Launch) (D : va_G) (cA : Nat → ClassId) (X : cq_X) (Bs : Nat) (q n : Nat) (f : Nat → Nat) (M : cq_M) (hq : cq_isSB X q) (h : sb_ok M q n f) : cq_C l yJ4_length_8abf5 wsJ4_length_8abf5 rmJ4_length_8abf5 D cA X Bs [.ref q] M (cq_PI (fun r M1 => r = nI n ∧ M1 = M)) 0 0 := by
  refine cq_met (cc := cJ4_length_8abf5) (maxL := 1) (ret := (some .int)) (by decide) rfl (Nat.le_of_ble_eq_true rfl) [(0, .ref q)] rfl rfl ?_
  intro p9 e9 s9 m9 b9 t9 c9 F hr
  refine cq_aload_n F (i := 0) dJ4_length_8abf5_0 rfl rfl ?_
  refine cq_callSU F (C := RJ4) (ci := 9) (kJ5_length_8abf5 l D cA X Bs q n f M hq h) (va_cwSU 0 F.1.2.2.2.2 gJ4_length_8abf5_J5_length_8abf5_s343 rfl rfl rfl (by decide +kernel) ⟨Nat.le_of_ble_eq_true rfl, Nat.le_of_ble_eq_true rfl⟩) hq.kind ⟨by decide, by decide⟩ rfl rfl rfl (Nat.le_of_ble_eq_true rfl) dJ4_length_8abf5_1 ⟨Nat.le_of_ble_eq_true rfl, Nat.le_of_ble_eq_true rfl⟩ (cq_kIe ?_)
  exact cq_iret F hr (by decide) (by decide) dJ4_length_8abf5_4 ⟨_, rfl, ⟨rfl, rfl⟩⟩
theorem hdVJ4_length_8abf5 : yJ4_length_8abf5.cls = RJ4 ∧ yJ4_length_8abf5.cls ≠ "java/lang/invoke/MethodHandle" ∧ yJ4_length_8abf5.cls ≠ "java/lang/invoke/VarHandle" ∧ (parseMethodDescriptor yJ4_length_8abf5.desc).map (fun d => d.parameters.length) = some 0 := by decide +kernel
abbrev rmJ0_getBytes_840e7 : Room := ({ frames := 1, cells := 0, slots := 0, locals := 90 })
set_option maxHeartbeats 4000000 in
set_option maxRecDepth 100000 in
theorem kJ0_getBytes_840e7 (l : Launch) (D : va_G) (cA : Nat → ClassId) (X : cq_X) (Bs : Nat) (i b d : Nat) (M : cq_M) (hi : i < 3) (hk : X.1 b = 18) (hl : X.2.1 b = 16) (hd : d + cq_tl i ≤ 16) : cq_C l yJ0_getBytes_840e7 wsJ0_getBytes_840e7 rmJ0_getBytes_840e7 D cA X Bs [.ref (D.2 100 i), .ref b, .int (nI d), .int 0] M (cq_PV (fun M1 => (∀ j, M1 b j = if d ≤ j ∧ j < d + cq_tl i then cq_tb i (j - d) else M b j) ∧ ∀ x, x ≠ b → M1 x = M x)) 0 0 := by
  refine cq_met (cc := cJ0_getBytes_840e7) (maxL := 4) (ret := none) (by decide) rfl (Nat.le_of_ble_eq_true rfl) [(0, .ref (D.2 100 i)), (1, .ref b), (2, .int (nI d)), (3, .int 0)] rfl rfl ?_
  intro p9 e9 s9 m9 b9 t9 c9 F hr
  refine cq_aload_n F (i := 0) dJ0_getBytes_840e7_0 rfl rfl ?_
  refine cq_callVs F hi (kJ0_coder_7d493 l D cA X Bs i M hi) (cwV 0 F.1.2.2.2.2 gJ0_getBytes_840e7_J0_coder_7d493 rfl rfl rfl hdVJ0_coder_7d493 ⟨Nat.le_of_ble_eq_true rfl, Nat.le_of_ble_eq_true rfl⟩) rfl (Nat.le_of_ble_eq_true rfl) dJ0_getBytes_840e7_1 ⟨Nat.le_of_ble_eq_true rfl, Nat.le_of_ble_eq_true rfl⟩ (cq_kIe ?_)
  refine cq_iload_n F (i := 3) dJ0_getBytes_840e7_4 rfl rfl ?_
  refine cq_icmp_ne F (tgt := 28) dJ0_getBytes_840e7_5 (by decide) (fun c_5 => ?_) (fun c_5 => ?_)
  · have c_5 : ¬ 0 = 0 := fun z => c_5 ((nI_b (a := 0) (b := 0) (by omega) (by omega)).2.2.mpr z)
    omega
  · have c_5 : 0 = 0 := (nI_b (a := 0) (b := 0) (by omega) (by omega)).2.2.mp c_5
    refine cq_aload_n F (i := 0) dJ0_getBytes_840e7_8 rfl rfl ?_
    refine cq_getSv F hi (F.1.2.2.2.2 _ (List.mem_of_getElem? (l := wsJ0_getBytes_840e7) (i := 1) (a := .fieldLink RJ0 9 "java/lang/String" "value" "[B") (by decide +kernel))) dJ0_getBytes_840e7_9 ?_
    refine cq_iconst F (v := 0) dJ0_getBytes_840e7_12 rfl ?_
    refine cq_aload_n F (i := 1) dJ0_getBytes_840e7_13 rfl rfl ?_
    refine cq_iload_n F (i := 2) dJ0_getBytes_840e7_14 rfl rfl ?_
    refine cq_iload_n F (i := 3) dJ0_getBytes_840e7_15 rfl rfl ?_
    refine cq_ishl F dJ0_getBytes_840e7_16 ?_
    rw [show (nI d <<< ((0 : Int32) &&& 31) : Int32) = nI d from sb_shl0 _]
    refine cq_aload_n F (i := 0) dJ0_getBytes_840e7_17 rfl rfl ?_
    refine cq_getSv F hi (F.1.2.2.2.2 _ (List.mem_of_getElem? (l := wsJ0_getBytes_840e7) (i := 1) (a := .fieldLink RJ0 9 "java/lang/String" "value" "[B") (by decide +kernel))) dJ0_getBytes_840e7_18 ?_
    refine cq_lenSv F hi dJ0_getBytes_840e7_21 ?_
    refine cq_copyS F (i := i) (dst := d) hi hk hl ⟨by omega, by decide⟩ (F.1.2.2.2.2 _ (List.mem_of_getElem? (l := wsJ0_getBytes_840e7) (i := 2) (a := .methodLink RJ0 212 arraycopyName) (by decide +kernel))) (F.1.2.2.2.2 _ (List.mem_of_getElem? (l := wsJ0_getBytes_840e7) (i := 3) (a := .native arraycopyName) (by decide +kernel))) (F.1.2.2.2.2 _ (List.mem_of_getElem? (l := wsJ0_getBytes_840e7) (i := 4) (a := .static arraycopyName) (by decide +kernel))) (F.1.2.2.2.2 _ (List.mem_of_getElem? (l := wsJ0_getBytes_840e7) (i := 5) (a := .initialized "java/lang/System") (by decide +kernel))) ⟨Nat.le_of_ble_eq_true rfl, by decide +kernel⟩ dJ0_getBytes_840e7_22 (fun M_22 h_22 f_22 => ?_)
    refine cq_goto F (tgt := 43) dJ0_getBytes_840e7_25 (by decide) ?_
    exact cq_vret F hr (by decide) (by decide) dJ0_getBytes_840e7_43 ⟨rfl, ⟨h_22, f_22⟩⟩
theorem hdVJ0_getBytes_840e7 : yJ0_getBytes_840e7.cls = RJ0 ∧ yJ0_getBytes_840e7.cls ≠ "java/lang/invoke/MethodHandle" ∧ yJ0_getBytes_840e7.cls ≠ "java/lang/invoke/VarHandle" ∧ (parseMethodDescriptor yJ0_getBytes_840e7.desc).map (fun d => d.parameters.length) = some 3 := by decide +kernel
abbrev rmJ5_inflateIfNeededFor_a7421 : Room := ({ frames := 1, cells := 0, slots := 0, locals := 20 })
set_option maxHeartbeats 4000000 in
set_option maxRecDepth 100000 in
theorem kJ5_inflateIfNeededFor_a7421 (l : Launch) (D : va_G) (cA : Nat → ClassId) (X : cq_X) (Bs : Nat) (q n i : Nat) (f : Nat → Nat) (M : cq_M) (hq : cq_isSB X q) (h : sb_ok M q n f) (hi : i < 3) : cq_C l yJ5_inflateIfNeededFor_a7421 wsJ5_inflateIfNeededFor_a7421 rmJ5_inflateIfNeededFor_a7421 D cA X Bs [.ref q, .ref (D.2 100 i)] M (cq_PV (fun M1 => M1 = M)) 0 0 := by
  refine cq_met (cc := cJ5_inflateIfNeededFor_a7421) (maxL := 2) (ret := none) (by decide) rfl (Nat.le_of_ble_eq_true rfl) [(0, .ref q), (1, .ref (D.2 100 i))] rfl rfl ?_
  intro p9 e9 s9 m9 b9 t9 c9 F hr
  have inJ4 : ∀ w ∈ wsJ40, w ∈ wsJ5_inflateIfNeededFor_a7421 := (fun w h => List.mem_cons_of_mem _ (List.mem_append_right _ h))
  refine cq_getCS F (F.1.2.2.2.2 _ (List.mem_of_getElem? (l := wsJ5_inflateIfNeededFor_a7421) (i := 1) (a := .fieldLink RJ5 18 "java/lang/String" "COMPACT_STRINGS" "Z") (by decide +kernel))) dJ5_inflateIfNeededFor_a7421_0 ?_
  refine cq_if_eq F (tgt := 21) dJ5_inflateIfNeededFor_a7421_3 (by decide) (fun c_3 => ?_) (fun c_3 => ?_)
  · have c_3 : 1 = 0 := (nI_b (a := 1) (b := 0) (by omega) (by omega)).2.2.mp c_3
    omega
  · have c_3 : ¬ 1 = 0 := fun z => c_3 ((nI_b (a := 1) (b := 0) (by omega) (by omega)).2.2.mpr z)
    refine cq_aload_n F (i := 0) dJ5_inflateIfNeededFor_a7421_6 rfl rfl ?_
    refine cq_getIh F (C := RJ4) (T := TJ4) (N := 4) (ci := 9) hq.kind rfl ⟨⟨by decide, by decide⟩, rfl⟩ inJ4 1 (by decide) rfl (F.1.2.2.2.2 _ (List.mem_of_getElem? (l := wsJ5_inflateIfNeededFor_a7421) (i := 2) (a := .fieldLink RJ5 22 "java/lang/AbstractStringBuilder" "coder" "B") (by decide +kernel))) dJ5_inflateIfNeededFor_a7421_7 ?_
    rw [show M q 1 = nI (0) from (show M q 1 = nI (0) from h.1)]
    refine cq_aload_n F (i := 1) dJ5_inflateIfNeededFor_a7421_10 rfl rfl ?_
    refine cq_callVs F hi (kJ0_coder_7d493 l D cA X Bs i M hi) (cwV 0 F.1.2.2.2.2 gJ5_inflateIfNeededFor_a7421_J0_coder_7d493 rfl rfl rfl hdVJ0_coder_7d493 ⟨Nat.le_of_ble_eq_true rfl, Nat.le_of_ble_eq_true rfl⟩) rfl (Nat.le_of_ble_eq_true rfl) dJ5_inflateIfNeededFor_a7421_11 ⟨Nat.le_of_ble_eq_true rfl, Nat.le_of_ble_eq_true rfl⟩ (cq_kIe ?_)
    refine cq_icmp_eq F (tgt := 21) dJ5_inflateIfNeededFor_a7421_14 (by decide) (fun c_14 => ?_) (fun c_14 => ?_)
    · have c_14 : 0 = 0 := (nI_b (a := 0) (b := 0) (by omega) (by omega)).2.2.mp c_14
      exact cq_vret F hr (by decide) (by decide) dJ5_inflateIfNeededFor_a7421_21 ⟨rfl, rfl⟩
    · have c_14 : ¬ 0 = 0 := fun z => c_14 ((nI_b (a := 0) (b := 0) (by omega) (by omega)).2.2.mpr z)
      omega
theorem hdVJ5_inflateIfNeededFor_a7421 : yJ5_inflateIfNeededFor_a7421.cls = RJ5 ∧ yJ5_inflateIfNeededFor_a7421.cls ≠ "java/lang/invoke/MethodHandle" ∧ yJ5_inflateIfNeededFor_a7421.cls ≠ "java/lang/invoke/VarHandle" ∧ (parseMethodDescriptor yJ5_inflateIfNeededFor_a7421.desc).map (fun d => d.parameters.length) = some 1 := by decide +kernel
abbrev rmJ5_putStringAt_47b60 : Room := ({ frames := 2, cells := 0, slots := 0, locals := 113 })
set_option maxHeartbeats 4000000 in
set_option maxRecDepth 100000 in
theorem kJ5_putStringAt_47b60 (l : Launch) (D : va_G) (cA : Nat → ClassId) (X : cq_X) (Bs : Nat) (q n i : Nat) (f : Nat → Nat) (M : cq_M) (hq : cq_isSB X q) (h : sb_ok M q n f) (hi : i < 3) (hn : n + cq_tl i ≤ 16) : cq_C l yJ5_putStringAt_47b60 wsJ5_putStringAt_47b60 rmJ5_putStringAt_47b60 D cA X Bs [.ref q, .int (nI n), .ref (D.2 100 i)] M (cq_PV (fun M1 => (∀ j, M1 (q + 1) j = if n ≤ j ∧ j < n + cq_tl i then cq_tb i (j - n) else M (q + 1) j) ∧ ∀ x, x ≠ q + 1 → M1 x = M x)) 0 0 := by
  refine cq_met (cc := cJ5_putStringAt_47b60) (maxL := 3) (ret := none) (by decide) rfl (Nat.le_of_ble_eq_true rfl) [(0, .ref q), (1, .int (nI n)), (2, .ref (D.2 100 i))] rfl rfl ?_
  intro p9 e9 s9 m9 b9 t9 c9 F hr
  have inJ4 : ∀ w ∈ wsJ40, w ∈ wsJ5_putStringAt_47b60 := (fun w h => List.mem_cons_of_mem _ (List.mem_append_right _ h))
  refine cq_aload_n F (i := 0) dJ5_putStringAt_47b60_0 rfl rfl ?_
  refine cq_aload_n F (i := 2) dJ5_putStringAt_47b60_1 rfl rfl ?_
  refine cq_callU F (C := RJ4) (ci := 9) (kJ5_inflateIfNeededFor_a7421 l D cA X Bs q n i f M hq h hi) (va_cwU 1 F.1.2.2.2.2 gJ5_putStringAt_47b60_J5_inflateIfNeededFor_a7421_u397J4 rfl rfl rfl rfl hdVJ5_inflateIfNeededFor_a7421.2 ⟨Nat.le_of_ble_eq_true rfl, Nat.le_of_ble_eq_true rfl⟩) hq.kind ⟨by decide, by decide⟩ rfl rfl rfl (Nat.le_of_ble_eq_true rfl) dJ5_putStringAt_47b60_2 ⟨Nat.le_of_ble_eq_true rfl, Nat.le_of_ble_eq_true rfl⟩ (cq_kVp ?_)
  refine cq_aload_n F (i := 2) dJ5_putStringAt_47b60_5 rfl rfl ?_
  refine cq_aload_n F (i := 0) dJ5_putStringAt_47b60_6 rfl rfl ?_
  refine cq_getTh (t := q + 1) F (C := RJ4) (T := TJ4) (N := 4) (ci := 9) hq.kind rfl ⟨⟨by decide, by decide⟩, rfl⟩ inJ4 0 (by decide) rfl hq.t0 (F.1.2.2.2.2 _ (List.mem_of_getElem? (l := wsJ5_putStringAt_47b60) (i := 1) (a := .fieldLink RJ5 15 "java/lang/AbstractStringBuilder" "value" "[B") (by decide +kernel))) dJ5_putStringAt_47b60_7 ?_
  refine cq_iload_n F (i := 1) dJ5_putStringAt_47b60_10 rfl rfl ?_
  refine cq_aload_n F (i := 0) dJ5_putStringAt_47b60_11 rfl rfl ?_
  refine cq_getIh F (C := RJ4) (T := TJ4) (N := 4) (ci := 9) hq.kind rfl ⟨⟨by decide, by decide⟩, rfl⟩ inJ4 1 (by decide) rfl (F.1.2.2.2.2 _ (List.mem_of_getElem? (l := wsJ5_putStringAt_47b60) (i := 2) (a := .fieldLink RJ5 22 "java/lang/AbstractStringBuilder" "coder" "B") (by decide +kernel))) dJ5_putStringAt_47b60_12 ?_
  rw [show M q 1 = nI (0) from (show M q 1 = nI (0) from h.1)]
  rw [show nI 0 = (0 : Int32) from rfl]
  refine cq_callVs F hi (kJ0_getBytes_840e7 l D cA X Bs i (q + 1) n M hi hq.k1 hq.n1 hn) (cwV 3 F.1.2.2.2.2 gJ5_putStringAt_47b60_J0_getBytes_840e7 rfl rfl rfl hdVJ0_getBytes_840e7 ⟨Nat.le_of_ble_eq_true rfl, Nat.le_of_ble_eq_true rfl⟩) rfl (Nat.le_of_ble_eq_true rfl) dJ5_putStringAt_47b60_15 ⟨Nat.le_of_ble_eq_true rfl, Nat.le_of_ble_eq_true rfl⟩ (cq_kV fun M_15 h_15 => ?_)
  exact cq_vret F hr (by decide) (by decide) dJ5_putStringAt_47b60_18 ⟨rfl, h_15⟩
theorem hdVJ5_putStringAt_47b60 : yJ5_putStringAt_47b60.cls = RJ5 ∧ yJ5_putStringAt_47b60.cls ≠ "java/lang/invoke/MethodHandle" ∧ yJ5_putStringAt_47b60.cls ≠ "java/lang/invoke/VarHandle" ∧ (parseMethodDescriptor yJ5_putStringAt_47b60.desc).map (fun d => d.parameters.length) = some 2 := by decide +kernel
abbrev rmJ5_append_cf1ce : Room := ({ frames := 3, cells := 0, slots := 0, locals := 135 })
set_option maxHeartbeats 4000000 in
set_option maxRecDepth 100000 in
theorem kJ5_append_cf1ce (l : Launch) (D : va_G) (cA : Nat → ClassId) (X : cq_X) (Bs : Nat) (q n i : Nat) (f : Nat → Nat) (M : cq_M) (hq : cq_isSB X q) (h : sb_ok M q n f) (hi : i < 3) (hn : n + cq_tl i ≤ 16) : cq_C l yJ5_append_cf1ce wsJ5_append_cf1ce rmJ5_append_cf1ce D cA X Bs [.ref q, .ref (D.2 100 i)] M (cq_PR (fun a M1 => a = q ∧ sb_ok M1 q (n + cq_tl i) (fun j => if j < n then f j else (cq_tb i (j - n)).toNatClampNeg) ∧ sb_fr M M1 q)) 0 0 := by
  refine cq_met (cc := cJ5_append_cf1ce) (maxL := 3) (ret := (some (.object "java/lang/AbstractStringBuilder"))) (by decide) rfl (Nat.le_of_ble_eq_true rfl) [(0, .ref q), (1, .ref (D.2 100 i))] rfl rfl ?_
  intro p9 e9 s9 m9 b9 t9 c9 F hr
  have inJ4 : ∀ w ∈ wsJ40, w ∈ wsJ5_append_cf1ce := (fun w h => List.mem_cons_of_mem _ (List.mem_append_right _ h))
  refine cq_aload_n F (i := 1) dJ5_append_cf1ce_0 rfl rfl ?_
  refine cq_ifnonnull F (tgt := 9) dJ5_append_cf1ce_1 (by decide) ?_
  refine cq_aload_n F (i := 1) dJ5_append_cf1ce_9 rfl rfl ?_
  refine cq_callVs F hi (kJ0_length_8abf5 l D cA X Bs i M hi) (cwV 0 F.1.2.2.2.2 gJ5_append_cf1ce_J0_length_8abf5 rfl rfl rfl hdVJ0_length_8abf5 ⟨Nat.le_of_ble_eq_true rfl, Nat.le_of_ble_eq_true rfl⟩) rfl (Nat.le_of_ble_eq_true rfl) dJ5_append_cf1ce_10 ⟨Nat.le_of_ble_eq_true rfl, Nat.le_of_ble_eq_true rfl⟩ (cq_kIe ?_)
  refine cq_istore_n F (i := 2) dJ5_append_cf1ce_13 rfl (by decide) ?_
  refine cq_aload_n F (i := 0) dJ5_append_cf1ce_14 rfl rfl ?_
  refine cq_aload_n F (i := 0) dJ5_append_cf1ce_15 rfl rfl ?_
  refine cq_getIh F (C := RJ4) (T := TJ4) (N := 4) (ci := 9) hq.kind rfl ⟨⟨by decide, by decide⟩, rfl⟩ inJ4 3 (by decide) rfl (F.1.2.2.2.2 _ (List.mem_of_getElem? (l := wsJ5_append_cf1ce) (i := 1) (a := .fieldLink RJ5 79 "java/lang/AbstractStringBuilder" "count" "I") (by decide +kernel))) dJ5_append_cf1ce_16 ?_
  rw [show M q 3 = nI (n) from (show M q 3 = nI (n) from h.2.1)]
  refine cq_iload_n F (i := 2) dJ5_append_cf1ce_19 rfl rfl ?_
  refine cq_iadd F dJ5_append_cf1ce_20 ?_
  rw [show (nI n + nI (cq_tl i) : Int32) = nI (n + (cq_tl i)) from nI_add _ _]
  refine cq_callU F (C := RJ4) (ci := 9) (kJ5_ensureCapacityInternal_d00df l D cA X Bs q n (n + cq_tl i) f M hq h (by omega)) (va_cwU 1 F.1.2.2.2.2 gJ5_append_cf1ce_J5_ensureCapacityInternal_d00df_u100J4 rfl rfl rfl rfl hdVJ5_ensureCapacityInternal_d00df.2 ⟨Nat.le_of_ble_eq_true rfl, Nat.le_of_ble_eq_true rfl⟩) hq.kind ⟨by decide, by decide⟩ rfl rfl rfl (Nat.le_of_ble_eq_true rfl) dJ5_append_cf1ce_21 ⟨Nat.le_of_ble_eq_true rfl, Nat.le_of_ble_eq_true rfl⟩ (cq_kVp ?_)
  refine cq_aload_n F (i := 0) dJ5_append_cf1ce_24 rfl rfl ?_
  refine cq_aload_n F (i := 0) dJ5_append_cf1ce_25 rfl rfl ?_
  refine cq_getIh F (C := RJ4) (T := TJ4) (N := 4) (ci := 9) hq.kind rfl ⟨⟨by decide, by decide⟩, rfl⟩ inJ4 3 (by decide) rfl (F.1.2.2.2.2 _ (List.mem_of_getElem? (l := wsJ5_append_cf1ce) (i := 1) (a := .fieldLink RJ5 79 "java/lang/AbstractStringBuilder" "count" "I") (by decide +kernel))) dJ5_append_cf1ce_26 ?_
  rw [show M q 3 = nI (n) from (show M q 3 = nI (n) from h.2.1)]
  refine cq_aload_n F (i := 1) dJ5_append_cf1ce_29 rfl rfl ?_
  refine cq_callU F (C := RJ4) (ci := 9) (kJ5_putStringAt_47b60 l D cA X Bs q n i f M hq h hi hn) (va_cwU 2 F.1.2.2.2.2 gJ5_append_cf1ce_J5_putStringAt_47b60_u208J4 rfl rfl rfl rfl hdVJ5_putStringAt_47b60.2 ⟨Nat.le_of_ble_eq_true rfl, Nat.le_of_ble_eq_true rfl⟩) hq.kind ⟨by decide, by decide⟩ rfl rfl rfl (Nat.le_of_ble_eq_true rfl) dJ5_append_cf1ce_30 ⟨Nat.le_of_ble_eq_true rfl, Nat.le_of_ble_eq_true rfl⟩ (cq_kV fun M_30 h_30 => ?_)
  refine cq_aload_n F (i := 0) dJ5_append_cf1ce_33 rfl rfl ?_
  refine cq_dup F dJ5_append_cf1ce_34 rfl ?_
  refine cq_getIh F (C := RJ4) (T := TJ4) (N := 4) (ci := 9) hq.kind rfl ⟨⟨by decide, by decide⟩, rfl⟩ inJ4 3 (by decide) rfl (F.1.2.2.2.2 _ (List.mem_of_getElem? (l := wsJ5_append_cf1ce) (i := 1) (a := .fieldLink RJ5 79 "java/lang/AbstractStringBuilder" "count" "I") (by decide +kernel))) dJ5_append_cf1ce_35 ?_
  rw [show M_30 q 3 = nI (n) from (show M_30 q 3 = nI (n) from ((congrFun (h_30.2 q (by omega)) 3).trans h.2.1))]
  refine cq_iload_n F (i := 2) dJ5_append_cf1ce_38 rfl rfl ?_
  refine cq_iadd F dJ5_append_cf1ce_39 ?_
  rw [show (nI n + nI (cq_tl i) : Int32) = nI (n + (cq_tl i)) from nI_add _ _]
  refine cq_puth F (C := RJ4) (T := TJ4) (N := 4) (ci := 9) hq.kind rfl ⟨⟨by decide, by decide⟩, rfl⟩ inJ4 tyJ4 tyJ4_ok nmJ4 3 (by decide) rfl (F.1.2.2.2.2 _ (List.mem_of_getElem? (l := wsJ5_append_cf1ce) (i := 1) (a := .fieldLink RJ5 79 "java/lang/AbstractStringBuilder" "count" "I") (by decide +kernel))) rfl (by rfl) (by rfl) dJ5_append_cf1ce_40 (fun M_40 h_40 => ?_)
  refine cq_aload_n F (i := 0) dJ5_append_cf1ce_43 rfl rfl ?_
  refine cq_aret F hr (Or.inl ⟨_, rfl⟩) (by decide) (by decide) dJ5_append_cf1ce_44 ⟨_, rfl, ?_⟩
  refine ⟨rfl, ⟨?_, ?_, fun j hj => ?_⟩, fun x h1 h2 => ?_⟩
  · rw [h_40, cq_up_k (by omega), h_30.2 q (by omega)]; exact h.1
  · rw [h_40]; exact cq_up_s _ _ _ _
  · rw [h_40, cq_up_a (by omega), h_30.1]
    dsimp only
    by_cases e : j < n
    · rw [if_neg (by omega), if_pos e]; exact h.2.2 j e
    · rw [if_pos ⟨by omega, by omega⟩, if_neg e]; exact sd_tb i hi _ (by omega)
  · rw [h_40, cq_up_row h1]; exact h_30.2 x h2
theorem hdVJ5_append_cf1ce : yJ5_append_cf1ce.cls = RJ5 ∧ yJ5_append_cf1ce.cls ≠ "java/lang/invoke/MethodHandle" ∧ yJ5_append_cf1ce.cls ≠ "java/lang/invoke/VarHandle" ∧ (parseMethodDescriptor yJ5_append_cf1ce.desc).map (fun d => d.parameters.length) = some 1 := by decide +kernel
abbrev rmJ4_append_15ec4 : Room := ({ frames := 4, cells := 0, slots := 0, locals := 157 })
set_option maxHeartbeats 4000000 in
set_option maxRecDepth 100000 in
theorem kJ4_append_15ec4 (l : Launch) (D : va_G) (cA : Nat → ClassId) (X : cq_X) (Bs : Nat) (q n i : Nat) (f : Nat → Nat) (M : cq_M) (hq : cq_isSB X q) (h : sb_ok M q n f) (hi : i < 3) (hn : n + cq_tl i ≤ 16) : cq_C l yJ4_append_15ec4 wsJ4_append_15ec4 rmJ4_append_15ec4 D cA X Bs [.ref q, .ref (D.2 100 i)] M (cq_PR (fun a M1 => a = q ∧ sb_ok M1 q (n + cq_tl i) (fun j => if j < n then f j else (cq_tb i (j - n)).toNatClampNeg) ∧ sb_fr M M1 q)) 0 0 := by
  refine cq_met (cc := cJ4_append_15ec4) (maxL := 2) (ret := (some (.object "java/lang/StringBuilder"))) (by decide) rfl (Nat.le_of_ble_eq_true rfl) [(0, .ref q), (1, .ref (D.2 100 i))] rfl rfl ?_
  intro p9 e9 s9 m9 b9 t9 c9 F hr
  refine cq_aload_n F (i := 0) dJ4_append_15ec4_0 rfl rfl ?_
  refine cq_aload_n F (i := 1) dJ4_append_15ec4_1 rfl rfl ?_
  refine cq_callSU F (C := RJ4) (ci := 9) (kJ5_append_cf1ce l D cA X Bs q n i f M hq h hi hn) (va_cwSU 1 F.1.2.2.2.2 gJ4_append_15ec4_J5_append_cf1ce_s29 rfl rfl rfl (by decide +kernel) ⟨Nat.le_of_ble_eq_true rfl, Nat.le_of_ble_eq_true rfl⟩) hq.kind ⟨by decide, by decide⟩ rfl rfl rfl (Nat.le_of_ble_eq_true rfl) dJ4_append_15ec4_2 ⟨Nat.le_of_ble_eq_true rfl, Nat.le_of_ble_eq_true rfl⟩ (cq_kR fun a_2 M_2 h_2 => ?_)
  obtain ⟨ea_2, h_2⟩ := h_2
  subst ea_2
  refine cq_pop F dJ4_append_15ec4_5 rfl ?_
  refine cq_aload_n F (i := 0) dJ4_append_15ec4_6 rfl rfl ?_
  exact cq_aret F hr (Or.inl ⟨_, rfl⟩) (by decide) (by decide) dJ4_append_15ec4_7 ⟨_, rfl, ⟨rfl, h_2⟩⟩
theorem hdVJ4_append_15ec4 : yJ4_append_15ec4.cls = RJ4 ∧ yJ4_append_15ec4.cls ≠ "java/lang/invoke/MethodHandle" ∧ yJ4_append_15ec4.cls ≠ "java/lang/invoke/VarHandle" ∧ (parseMethodDescriptor yJ4_append_15ec4.desc).map (fun d => d.parameters.length) = some 1 := by decide +kernel
abbrev rmJ1_canEncode_fc78d : Room := ({ frames := 0, cells := 0, slots := 0, locals := 0 })
set_option maxHeartbeats 4000000 in
set_option maxRecDepth 100000 in
theorem kJ1_canEncode_fc78d (l : Launch) (D : va_G) (cA : Nat → ClassId) (X : cq_X) (Bs : Nat) (c : Nat) (M : cq_M) (hc : c < 128) : cq_C l yJ1_canEncode_fc78d wsJ1_canEncode_fc78d rmJ1_canEncode_fc78d D cA X Bs [.int (nI c)] M (cq_PI (fun r M1 => r = 1 ∧ M1 = M)) 0 0 := by
  refine cq_met (cc := cJ1_canEncode_fc78d) (maxL := 1) (ret := (some .boolean)) (by decide) rfl (Nat.le_of_ble_eq_true rfl) [(0, .int (nI c))] rfl rfl ?_
  intro p9 e9 s9 m9 b9 t9 c9 F hr
  refine cq_iload_n F (i := 0) dJ1_canEncode_fc78d_0 rfl rfl ?_
  refine cq_sipush F (v := 255) dJ1_canEncode_fc78d_1 (by decide) ?_
  refine cq_icmp_gt F (tgt := 11) dJ1_canEncode_fc78d_4 (by decide) (fun c_4 => ?_) (fun c_4 => ?_)
  · have c_4 : 255 < c := (nI_b (a := 255) (b := c) (by omega) (by omega)).2.1.mp c_4
    omega
  · have c_4 : ¬ 255 < c := fun z => c_4 ((nI_b (a := 255) (b := c) (by omega) (by omega)).2.1.mpr z)
    refine cq_iconst F (v := 1) dJ1_canEncode_fc78d_7 rfl ?_
    refine cq_goto F (tgt := 12) dJ1_canEncode_fc78d_8 (by decide) ?_
    exact cq_zret F hr (by rfl) (by decide) (by decide) dJ1_canEncode_fc78d_12 ⟨_, rfl, ⟨rfl, rfl⟩⟩
theorem hdVJ1_canEncode_fc78d : yJ1_canEncode_fc78d.cls = RJ1 ∧ yJ1_canEncode_fc78d.cls ≠ "java/lang/invoke/MethodHandle" ∧ yJ1_canEncode_fc78d.cls ≠ "java/lang/invoke/VarHandle" ∧ (parseMethodDescriptor yJ1_canEncode_fc78d.desc).map (fun d => d.parameters.length) = some 1 := by decide +kernel
abbrev rmJ5_append_3fe6f : Room := ({ frames := 1, cells := 0, slots := 0, locals := 22 })
set_option maxHeartbeats 4000000 in
set_option maxRecDepth 100000 in
theorem kJ5_append_3fe6f (l : Launch) (D : va_G) (cA : Nat → ClassId) (X : cq_X) (Bs : Nat) (q n c : Nat) (f : Nat → Nat) (M : cq_M) (hq : cq_isSB X q) (h : sb_ok M q n f) (hc : c < 128) (hn : n + 1 ≤ 16) : cq_C l yJ5_append_3fe6f wsJ5_append_3fe6f rmJ5_append_3fe6f D cA X Bs [.ref q, .int (nI c)] M (cq_PR (fun a M1 => a = q ∧ sb_ok M1 q (n + 1) (fun j => if j < n then f j else c) ∧ sb_fr M M1 q)) 0 0 := by
  refine cq_met (cc := cJ5_append_3fe6f) (maxL := 2) (ret := (some (.object "java/lang/AbstractStringBuilder"))) (by decide) rfl (Nat.le_of_ble_eq_true rfl) [(0, .ref q), (1, .int (nI c))] rfl rfl ?_
  intro p9 e9 s9 m9 b9 t9 c9 F hr
  have inJ4 : ∀ w ∈ wsJ40, w ∈ wsJ5_append_3fe6f := (fun w h => List.mem_cons_of_mem _ (List.mem_append_right _ h))
  refine cq_aload_n F (i := 0) dJ5_append_3fe6f_0 rfl rfl ?_
  refine cq_aload_n F (i := 0) dJ5_append_3fe6f_1 rfl rfl ?_
  refine cq_getIh F (C := RJ4) (T := TJ4) (N := 4) (ci := 9) hq.kind rfl ⟨⟨by decide, by decide⟩, rfl⟩ inJ4 3 (by decide) rfl (F.1.2.2.2.2 _ (List.mem_of_getElem? (l := wsJ5_append_3fe6f) (i := 1) (a := .fieldLink RJ5 79 "java/lang/AbstractStringBuilder" "count" "I") (by decide +kernel))) dJ5_append_3fe6f_2 ?_
  rw [show M q 3 = nI (n) from (show M q 3 = nI (n) from h.2.1)]
  refine cq_iconst F (v := 1) dJ5_append_3fe6f_5 rfl ?_
  refine cq_iadd F dJ5_append_3fe6f_6 ?_
  rw [show (nI n + 1 : Int32) = nI (n + 1) from nI_add _ _]
  refine cq_callU F (C := RJ4) (ci := 9) (kJ5_ensureCapacityInternal_d00df l D cA X Bs q n (n + 1) f M hq h (by omega)) (va_cwU 1 F.1.2.2.2.2 gJ5_append_3fe6f_J5_ensureCapacityInternal_d00df_u100J4 rfl rfl rfl rfl hdVJ5_ensureCapacityInternal_d00df.2 ⟨Nat.le_of_ble_eq_true rfl, Nat.le_of_ble_eq_true rfl⟩) hq.kind ⟨by decide, by decide⟩ rfl rfl rfl (Nat.le_of_ble_eq_true rfl) dJ5_append_3fe6f_7 ⟨Nat.le_of_ble_eq_true rfl, Nat.le_of_ble_eq_true rfl⟩ (cq_kVp ?_)
  refine cq_aload_n F (i := 0) dJ5_append_3fe6f_10 rfl rfl ?_
  refine cq_callU F (C := RJ4) (ci := 9) (kJ5_isLatin1_aae02 l D cA X Bs q n f M hq h) (va_cwU 0 F.1.2.2.2.2 gJ5_append_3fe6f_J5_isLatin1_aae02_u83J4 rfl rfl rfl rfl hdVJ5_isLatin1_aae02.2 ⟨Nat.le_of_ble_eq_true rfl, Nat.le_of_ble_eq_true rfl⟩) hq.kind ⟨by decide, by decide⟩ rfl rfl rfl (Nat.le_of_ble_eq_true rfl) dJ5_append_3fe6f_11 ⟨Nat.le_of_ble_eq_true rfl, Nat.le_of_ble_eq_true rfl⟩ (cq_kIe ?_)
  refine cq_if_eq F (tgt := 45) dJ5_append_3fe6f_14 (by decide) (fun c_14 => ?_) (fun c_14 => ?_)
  · have c_14 : 1 = 0 := (nI_b (a := 1) (b := 0) (by omega) (by omega)).2.2.mp c_14
    omega
  · have c_14 : ¬ 1 = 0 := fun z => c_14 ((nI_b (a := 1) (b := 0) (by omega) (by omega)).2.2.mpr z)
    refine cq_iload_n F (i := 1) dJ5_append_3fe6f_17 rfl rfl ?_
    refine cq_callS F (kJ1_canEncode_fc78d l D cA X Bs c M hc) (va_cwS 1 F.1.2.2.2.2 gJ5_append_3fe6f_J1_canEncode_fc78d rfl rfl rfl hdVJ1_canEncode_fc78d.2 ⟨Nat.le_of_ble_eq_true rfl, Nat.le_of_ble_eq_true rfl⟩) rfl (Nat.le_of_ble_eq_true rfl) dJ5_append_3fe6f_18 ⟨Nat.le_of_ble_eq_true rfl, Nat.le_of_ble_eq_true rfl⟩ (cq_kIe ?_)
    refine cq_if_eq F (tgt := 45) dJ5_append_3fe6f_21 (by decide) (fun c_21 => ?_) (fun c_21 => ?_)
    · have c_21 : 1 = 0 := (nI_b (a := 1) (b := 0) (by omega) (by omega)).2.2.mp c_21
      omega
    · have c_21 : ¬ 1 = 0 := fun z => c_21 ((nI_b (a := 1) (b := 0) (by omega) (by omega)).2.2.mpr z)
      refine cq_aload_n F (i := 0) dJ5_append_3fe6f_24 rfl rfl ?_
      refine cq_getTh (t := q + 1) F (C := RJ4) (T := TJ4) (N := 4) (ci := 9) hq.kind rfl ⟨⟨by decide, by decide⟩, rfl⟩ inJ4 0 (by decide) rfl hq.t0 (F.1.2.2.2.2 _ (List.mem_of_getElem? (l := wsJ5_append_3fe6f) (i := 2) (a := .fieldLink RJ5 15 "java/lang/AbstractStringBuilder" "value" "[B") (by decide +kernel))) dJ5_append_3fe6f_25 ?_
      refine cq_aload_n F (i := 0) dJ5_append_3fe6f_28 rfl rfl ?_
      refine cq_dup F dJ5_append_3fe6f_29 rfl ?_
      refine cq_getIh F (C := RJ4) (T := TJ4) (N := 4) (ci := 9) hq.kind rfl ⟨⟨by decide, by decide⟩, rfl⟩ inJ4 3 (by decide) rfl (F.1.2.2.2.2 _ (List.mem_of_getElem? (l := wsJ5_append_3fe6f) (i := 1) (a := .fieldLink RJ5 79 "java/lang/AbstractStringBuilder" "count" "I") (by decide +kernel))) dJ5_append_3fe6f_30 ?_
      rw [show M q 3 = nI (n) from (show M q 3 = nI (n) from h.2.1)]
      refine cq_dup_x1 F dJ5_append_3fe6f_33 rfl rfl ?_
      refine cq_iconst F (v := 1) dJ5_append_3fe6f_34 rfl ?_
      refine cq_iadd F dJ5_append_3fe6f_35 ?_
      rw [show (nI n + 1 : Int32) = nI (n + 1) from nI_add _ _]
      refine cq_puth F (C := RJ4) (T := TJ4) (N := 4) (ci := 9) hq.kind rfl ⟨⟨by decide, by decide⟩, rfl⟩ inJ4 tyJ4 tyJ4_ok nmJ4 3 (by decide) rfl (F.1.2.2.2.2 _ (List.mem_of_getElem? (l := wsJ5_append_3fe6f) (i := 1) (a := .fieldLink RJ5 79 "java/lang/AbstractStringBuilder" "count" "I") (by decide +kernel))) rfl (by rfl) (by rfl) dJ5_append_3fe6f_36 (fun M_36 h_36 => ?_)
      refine cq_iload_n F (i := 1) dJ5_append_3fe6f_39 rfl rfl ?_
      refine cq_i2b F dJ5_append_3fe6f_40 ?_
      rw [show ((nI c).toInt8.toInt32 : Int32) = nI c from sd_b c hc]
      refine cq_bast_j F (j := n) hq.k1 hq.n1 rfl ⟨(by omega), by decide⟩ dJ5_append_3fe6f_41 (fun M_41 h_41 => ?_)
      refine cq_goto F (tgt := 75) dJ5_append_3fe6f_42 (by decide) ?_
      refine cq_aload_n F (i := 0) dJ5_append_3fe6f_75 rfl rfl ?_
      refine cq_aret F hr (Or.inl ⟨_, rfl⟩) (by decide) (by decide) dJ5_append_3fe6f_76 ⟨_, rfl, ?_⟩
      have eb : vp_nar .byte (nI c) = nI c := sd_nar c hc
      rw [eb] at h_41
      refine ⟨rfl, ⟨?_, ?_, fun j hj => ?_⟩, fun x h1 h2 => ?_⟩
      · rw [h_41, cq_up_a (by omega), h_36, cq_up_k (by omega)]; exact h.1
      · rw [h_41, cq_up_a (by omega), h_36]; exact cq_up_s _ _ _ _
      · dsimp only
        by_cases e : j < n
        · rw [if_pos e, h_41, cq_up_k (by omega), h_36, cq_up_a (by omega)]; exact h.2.2 j e
        · rw [if_neg e, h_41]; obtain rfl : j = n := by omega
          exact cq_up_s _ _ _ _
      · rw [h_41, cq_up_row h2, h_36, cq_up_row h1]
theorem hdVJ5_append_3fe6f : yJ5_append_3fe6f.cls = RJ5 ∧ yJ5_append_3fe6f.cls ≠ "java/lang/invoke/MethodHandle" ∧ yJ5_append_3fe6f.cls ≠ "java/lang/invoke/VarHandle" ∧ (parseMethodDescriptor yJ5_append_3fe6f.desc).map (fun d => d.parameters.length) = some 1 := by decide +kernel
abbrev rmJ4_append_cf468 : Room := ({ frames := 2, cells := 0, slots := 0, locals := 43 })
set_option maxHeartbeats 4000000 in
set_option maxRecDepth 100000 in
theorem kJ4_append_cf468 (l : Launch) (D : va_G) (cA : Nat → ClassId) (X : cq_X) (Bs : Nat) (q n c : Nat) (f : Nat → Nat) (M : cq_M) (hq : cq_isSB X q) (h : sb_ok M q n f) (hc : c < 128) (hn : n + 1 ≤ 16) : cq_C l yJ4_append_cf468 wsJ4_append_cf468 rmJ4_append_cf468 D cA X Bs [.ref q, .int (nI c)] M (cq_PR (fun a M1 => a = q ∧ sb_ok M1 q (n + 1) (fun j => if j < n then f j else c) ∧ sb_fr M M1 q)) 0 0 := by
  refine cq_met (cc := cJ4_append_cf468) (maxL := 2) (ret := (some (.object "java/lang/StringBuilder"))) (by decide) rfl (Nat.le_of_ble_eq_true rfl) [(0, .ref q), (1, .int (nI c))] rfl rfl ?_
  intro p9 e9 s9 m9 b9 t9 c9 F hr
  refine cq_aload_n F (i := 0) dJ4_append_cf468_0 rfl rfl ?_
  refine cq_iload_n F (i := 1) dJ4_append_cf468_1 rfl rfl ?_
  refine cq_callSU F (C := RJ4) (ci := 9) (kJ5_append_3fe6f l D cA X Bs q n c f M hq h hc hn) (va_cwSU 1 F.1.2.2.2.2 gJ4_append_cf468_J5_append_3fe6f_s50 rfl rfl rfl (by decide +kernel) ⟨Nat.le_of_ble_eq_true rfl, Nat.le_of_ble_eq_true rfl⟩) hq.kind ⟨by decide, by decide⟩ rfl rfl rfl (Nat.le_of_ble_eq_true rfl) dJ4_append_cf468_2 ⟨Nat.le_of_ble_eq_true rfl, Nat.le_of_ble_eq_true rfl⟩ (cq_kR fun a_2 M_2 h_2 => ?_)
  obtain ⟨ea_2, h_2⟩ := h_2
  subst ea_2
  refine cq_pop F dJ4_append_cf468_5 rfl ?_
  refine cq_aload_n F (i := 0) dJ4_append_cf468_6 rfl rfl ?_
  exact cq_aret F hr (Or.inl ⟨_, rfl⟩) (by decide) (by decide) dJ4_append_cf468_7 ⟨_, rfl, ⟨rfl, h_2⟩⟩
theorem hdVJ4_append_cf468 : yJ4_append_cf468.cls = RJ4 ∧ yJ4_append_cf468.cls ≠ "java/lang/invoke/MethodHandle" ∧ yJ4_append_cf468.cls ≠ "java/lang/invoke/VarHandle" ∧ (parseMethodDescriptor yJ4_append_cf468.desc).map (fun d => d.parameters.length) = some 1 := by decide +kernel
abbrev rmJ6_stringSize_0f7a4 : Room := ({ frames := 0, cells := 0, slots := 0, locals := 0 })
set_option maxHeartbeats 4000000 in
set_option maxRecDepth 100000 in
theorem kJ6_stringSize_0f7a4 (l : Launch) (D : va_G) (cA : Nat → ClassId) (X : cq_X) (Bs : Nat) (v : Nat) (M : cq_M) (hv : v < 10000000) : cq_C l yJ6_stringSize_0f7a4 wsJ6_stringSize_0f7a4 rmJ6_stringSize_0f7a4 D cA X Bs [.int (nI v)] M (cq_PI (fun r M1 => r = nI (en_len v) ∧ M1 = M)) 0 0 := by
  refine cq_met (cc := cJ6_stringSize_0f7a4) (maxL := 4) (ret := (some .int)) (by decide) rfl (Nat.le_of_ble_eq_true rfl) [(0, .int (nI v))] rfl rfl ?_
  intro p9 e9 s9 m9 b9 t9 c9 F hr
  have hp : ∀ i, i ≤ 8 → 10 ^ i < 2147483648 := fun i hi => Nat.lt_of_le_of_lt (Nat.pow_le_pow_right (by decide) hi) (by decide)
  have loop_16 : ∀ (n_16 : Nat) (i : Nat), 1 ≤ i ∧ i ≤ 7 → (i = 1 ∨ 10 ^ (i - 1) ≤ v) → 8 - i < n_16 → cq_V p9 l e9 rmJ6_stringSize_0f7a4 s9 m9 ([.int (nI v)] : List Value).toArray b9 t9 c9 D cA X Bs 4 0 0 (MQ b9 (cq_Q D cA X Bs (cq_PI (fun r M1 => r = nI (en_len v) ∧ M1 = M))) ([.int (nI v)] : List Value).toArray s9 0 0 (cq_A Bs)) 16 [(0, .int (-nI v)), (1, .int 0), (2, .int (-nI (10 ^ i))), (3, .int (nI i))] [] M := by
    intro n_16
    induction n_16 with
    | zero =>
      intros
      omega
    | succ n_16 ih_16 =>
      intro i hi hlo hn
      refine cq_iload_n F (i := 3) dJ6_stringSize_0f7a4_16 rfl rfl ?_
      refine cq_bipush F (v := 10) dJ6_stringSize_0f7a4_17 (by decide) ?_
      refine cq_icmp_ge F (tgt := 42) dJ6_stringSize_0f7a4_19 (by decide) (fun c_19 => ?_) (fun c_19 => ?_)
      · have c_19 : 10 ≤ i := (nI_b (a := 10) (b := i) (by omega) (by omega)).1.mp c_19
        omega
      · have c_19 : ¬ 10 ≤ i := fun z => c_19 ((nI_b (a := 10) (b := i) (by omega) (by omega)).1.mpr z)
        refine cq_iload_n F (i := 0) dJ6_stringSize_0f7a4_22 rfl rfl ?_
        refine cq_iload_n F (i := 2) dJ6_stringSize_0f7a4_23 rfl rfl ?_
        refine cq_icmp_le F (tgt := 31) dJ6_stringSize_0f7a4_24 (by decide) (fun c_24 => ?_) (fun c_24 => ?_)
        · have c_24 : 10 ^ i ≤ v := (sb_nle (by omega) (hp i (by omega))).mp c_24
          refine cq_bipush F (v := 10) dJ6_stringSize_0f7a4_31 (by decide) ?_
          refine cq_iload_n F (i := 2) dJ6_stringSize_0f7a4_33 rfl rfl ?_
          refine cq_imul F dJ6_stringSize_0f7a4_34 ?_
          rw [sd_10, ← Nat.pow_succ]
          refine cq_istore_n F (i := 2) dJ6_stringSize_0f7a4_35 rfl (by decide) ?_
          refine cq_iinc F dJ6_stringSize_0f7a4_36 rfl (by decide) (fun x_36 e_36 => ?_)
          obtain rfl : x_36 = nI (i + 1) := by rw [e_36]; exact nI_1 _
          refine cq_goto F (tgt := 16) dJ6_stringSize_0f7a4_39 (by decide) ?_
          refine cq_loc (L2 := [(0, .int (-nI v)), (1, .int 0), (2, .int (-nI (10 ^ (i + 1)))), (3, .int (nI (i + 1)))]) rfl ?_
          exact ih_16 (i + 1) ⟨by omega, by
    refine Nat.lt_of_not_le (fun z => ?_)
    have := Nat.pow_le_pow_right (n := 10) (by decide) (show 7 ≤ i by omega)
    have z2 : (10 : Nat) ^ 7 = 10000000 := by decide
    omega⟩ (.inr (by rw [Nat.add_sub_cancel]; exact c_24)) (by omega)
        · have c_24 : v < 10 ^ i := Nat.lt_of_not_le (fun z => c_24 ((sb_nle (by omega) (hp i (by omega))).mpr z))
          refine cq_iload_n F (i := 3) dJ6_stringSize_0f7a4_27 rfl rfl ?_
          refine cq_iload_n F (i := 1) dJ6_stringSize_0f7a4_28 rfl rfl ?_
          refine cq_iadd F dJ6_stringSize_0f7a4_29 ?_
          rw [show (nI i + 0 : Int32) = nI i from nI_add _ 0]
          refine cq_iret F hr (by decide) (by decide) dJ6_stringSize_0f7a4_30 ⟨_, rfl, ?_⟩
          exact ⟨by rw [en_len_eq hi.1 hlo c_24], rfl⟩
  refine cq_iconst F (v := 1) dJ6_stringSize_0f7a4_0 rfl ?_
  refine cq_istore_n F (i := 1) dJ6_stringSize_0f7a4_1 rfl (by decide) ?_
  refine cq_iload_n F (i := 0) dJ6_stringSize_0f7a4_2 rfl rfl ?_
  refine cq_if_lt F (tgt := 11) dJ6_stringSize_0f7a4_3 (by decide) (fun c_3 => ?_) (fun c_3 => ?_)
  · have c_3 : v < 0 := (nI_b (a := v) (b := 0) (by omega) (by omega)).2.1.mp c_3
    omega
  · have c_3 : ¬ v < 0 := fun z => c_3 ((nI_b (a := v) (b := 0) (by omega) (by omega)).2.1.mpr z)
    refine cq_iconst F (v := 0) dJ6_stringSize_0f7a4_6 rfl ?_
    refine cq_istore_n F (i := 1) dJ6_stringSize_0f7a4_7 rfl (by decide) ?_
    refine cq_iload_n F (i := 0) dJ6_stringSize_0f7a4_8 rfl rfl ?_
    refine cq_ineg F dJ6_stringSize_0f7a4_9 ?_
    refine cq_istore_n F (i := 0) dJ6_stringSize_0f7a4_10 rfl (by decide) ?_
    refine cq_bipush F (v := (-10)) dJ6_stringSize_0f7a4_11 (by decide) ?_
    refine cq_istore_n F (i := 2) dJ6_stringSize_0f7a4_13 rfl (by decide) ?_
    refine cq_iconst F (v := 1) dJ6_stringSize_0f7a4_14 rfl ?_
    refine cq_istore_n F (i := 3) dJ6_stringSize_0f7a4_15 rfl (by decide) ?_
    refine cq_loc (L2 := [(0, .int (-nI v)), (1, .int 0), (2, .int (-nI (10 ^ 1))), (3, .int (nI 1))]) rfl ?_
    exact loop_16 8 1 ⟨by omega, by omega⟩ (.inl rfl) (by omega)
theorem hdVJ6_stringSize_0f7a4 : yJ6_stringSize_0f7a4.cls = RJ6 ∧ yJ6_stringSize_0f7a4.cls ≠ "java/lang/invoke/MethodHandle" ∧ yJ6_stringSize_0f7a4.cls ≠ "java/lang/invoke/VarHandle" ∧ (parseMethodDescriptor yJ6_stringSize_0f7a4.desc).map (fun d => d.parameters.length) = some 1 := by decide +kernel
abbrev rmJ6_getChars_ba4f3 : Room := ({ frames := 0, cells := 0, slots := 0, locals := 0 })
set_option maxHeartbeats 4000000 in
set_option maxRecDepth 100000 in
theorem kJ6_getChars_ba4f3 (l : Launch) (D : va_G) (cA : Nat → ClassId) (X : cq_X) (Bs : Nat) (v ix b : Nat) (M : cq_M) (hv : v < 10000000) (hk : X.1 b = 18) (hl : X.2.1 b = 16) (hx : ix ≤ 16) (hlen : en_len v ≤ ix) : cq_C l yJ6_getChars_ba4f3 wsJ6_getChars_ba4f3 rmJ6_getChars_ba4f3 D cA X Bs [.int (nI v), .int (nI ix), .ref b] M (cq_PI (fun r M1 => (∀ k, ix - en_len v ≤ k → k < ix → M1 b k = nI (48 + v / 10 ^ (ix - 1 - k) % 10)) ∧ (∀ k, k < ix - en_len v → M1 b k = M b k) ∧ ∀ x, x ≠ b → M1 x = M x)) 0 0 := by
  refine cq_met (cc := cJ6_getChars_ba4f3) (maxL := 7) (ret := (some .int)) (by decide) rfl (Nat.le_of_ble_eq_true rfl) [(0, .int (nI v)), (1, .int (nI ix)), (2, .ref b)] rfl rfl ?_
  intro p9 e9 s9 m9 b9 t9 c9 F hr
  have hlv := en_len_le (n := v) (k := 6) (by omega)
  have loop_22 : ∀ (n_22 : Nat) (M2 : cq_M) (m p : Nat), p ≤ ix ∧ en_len v = en_len m + (ix - p) → m < 10000000 ∧ m = v / 10 ^ (ix - p) → (∀ k, p ≤ k → k < ix → M2 b k = nI (48 + v / 10 ^ (ix - 1 - k) % 10)) → (∀ k, k < p → M2 b k = M b k) → (∀ x, x ≠ b → M2 x = M x) → m < n_22 → cq_V p9 l e9 rmJ6_getChars_ba4f3 s9 m9 ([.int (nI v), .int (nI ix), .ref b] : List Value).toArray b9 t9 c9 D cA X Bs 7 0 0 (MQ b9 (cq_Q D cA X Bs (cq_PI (fun r M1 => (∀ k, ix - en_len v ≤ k → k < ix → M1 b k = nI (48 + v / 10 ^ (ix - 1 - k) % 10)) ∧ (∀ k, k < ix - en_len v → M1 b k = M b k) ∧ ∀ x, x ≠ b → M1 x = M x))) ([.int (nI v), .int (nI ix), .ref b] : List Value).toArray s9 0 0 (cq_A Bs)) 22 [(0, .int (-nI m)), (1, .int (nI ix)), (2, .ref b), (5, .int (nI p)), (6, .int 0)] [] M2 := by
    intro n_22
    induction n_22 with
    | zero =>
      intros
      omega
    | succ n_22 ih_22 =>
      intro M2 m p hp hm2 hd hlo hfr hn
      obtain ⟨hmb, hm⟩ := hm2
      refine cq_iload_n F (i := 0) dJ6_getChars_ba4f3_22 rfl rfl ?_
      refine cq_bipush F (v := (-100)) dJ6_getChars_ba4f3_23 (by decide) ?_
      refine cq_icmp_gt F (tgt := 72) dJ6_getChars_ba4f3_25 (by decide) (fun c_25 => ?_) (fun c_25 => ?_)
      · have c_25 : m < 100 := (sd_100 (by omega)).mp c_25
        have h1m : 1 ≤ en_len m := by unfold en_len; omega
        have hdm : (48 + m % 10) = 48 + v / 10 ^ (ix - 1 - (p - 1)) % 10 := by rw [hm, show ix - 1 - (p - 1) = ix - p by omega]
        refine cq_aload_n F (i := 2) dJ6_getChars_ba4f3_72 rfl rfl ?_
        refine cq_iinc F dJ6_getChars_ba4f3_73 rfl (by decide) (fun x_73 e_73 => ?_)
        obtain rfl : x_73 = nI (p - 1) := by rw [e_73]; exact nI_dn (by omega)
        refine cq_iload F dJ6_getChars_ba4f3_76 rfl ?_
        refine cq_getD1 F (F.1.2.2.2.2 _ (List.mem_of_getElem? (l := wsJ6_getChars_ba4f3) (i := 1) (a := .fieldLink RJ6 83 "java/lang/Integer" "DigitOnes" "[B") (by decide +kernel))) dJ6_getChars_ba4f3_78 ?_
        refine cq_iload_n F (i := 0) dJ6_getChars_ba4f3_81 rfl rfl ?_
        refine cq_ineg F dJ6_getChars_ba4f3_82 ?_
        rw [show (- -nI m : Int32) = nI m from Int32.neg_neg]
        refine cq_baldD F F.2.2.2.2.d1.2 (j := m) rfl ⟨(by omega), by decide⟩ dJ6_getChars_ba4f3_83 ?_
        refine cq_bast_j F (j := p - 1) hk hl rfl ⟨(by omega), by decide⟩ dJ6_getChars_ba4f3_84 (fun M_84 h_84 => ?_)
        refine cq_iload_n F (i := 0) dJ6_getChars_ba4f3_85 rfl rfl ?_
        refine cq_bipush F (v := (-9)) dJ6_getChars_ba4f3_86 (by decide) ?_
        refine cq_icmp_ge F (tgt := 104) dJ6_getChars_ba4f3_88 (by decide) (fun c_88 => ?_) (fun c_88 => ?_)
        · have c_88 : m ≤ 9 := (sd_9 (by omega)).mp c_88
          have hl1 := en_len_9 (n := m) (by omega)
          refine cq_iload F dJ6_getChars_ba4f3_104 rfl ?_
          refine cq_if_eq F (tgt := 118) dJ6_getChars_ba4f3_106 (by decide) (fun c_106 => ?_) (fun c_106 => ?_)
          · have c_106 : 0 = 0 := (nI_b (a := 0) (b := 0) (by omega) (by omega)).2.2.mp c_106
            refine cq_iload F dJ6_getChars_ba4f3_118 rfl ?_
            refine cq_iret F hr (by decide) (by decide) dJ6_getChars_ba4f3_120 ⟨_, rfl, ?_⟩
            have hr := sd_dg m (by omega)
            refine ⟨fun k h1 h2 => ?_, fun k h1 => ?_, fun x h1 => ?_⟩
            · rw [h_84]
              by_cases e2 : k = p - 1
              · rw [e2, cq_up_s, hr.1, hdm]
              · rw [cq_up_k e2]; exact hd k (by omega) h2
            · rw [h_84, cq_up_k (by omega)]; exact hlo k (by omega)
            · rw [h_84, cq_up_row h1]; exact hfr x h1
          · have c_106 : ¬ 0 = 0 := fun z => c_106 ((nI_b (a := 0) (b := 0) (by omega) (by omega)).2.2.mpr z)
            omega
        · have c_88 : 10 ≤ m := Nat.lt_of_not_le (fun z => c_88 ((sd_9 (by omega)).mpr z))
          have hl1 := en_len_99 c_88 c_25
          refine cq_aload_n F (i := 2) dJ6_getChars_ba4f3_91 rfl rfl ?_
          refine cq_iinc F dJ6_getChars_ba4f3_92 rfl (by decide) (fun x_92 e_92 => ?_)
          obtain rfl : x_92 = nI (p - 1 - 1) := by rw [e_92]; exact nI_dn (by omega)
          refine cq_iload F dJ6_getChars_ba4f3_95 rfl ?_
          refine cq_getD2 F (F.1.2.2.2.2 _ (List.mem_of_getElem? (l := wsJ6_getChars_ba4f3) (i := 2) (a := .fieldLink RJ6 87 "java/lang/Integer" "DigitTens" "[B") (by decide +kernel))) dJ6_getChars_ba4f3_97 ?_
          refine cq_iload_n F (i := 0) dJ6_getChars_ba4f3_100 rfl rfl ?_
          refine cq_ineg F dJ6_getChars_ba4f3_101 ?_
          rw [show (- -nI m : Int32) = nI m from Int32.neg_neg]
          refine cq_baldD F F.2.2.2.2.d2.2 (j := m) rfl ⟨(by omega), by decide⟩ dJ6_getChars_ba4f3_102 ?_
          refine cq_bast_j F (j := p - 1 - 1) hk hl rfl ⟨(by omega), by decide⟩ dJ6_getChars_ba4f3_103 (fun M_103 h_103 => ?_)
          refine cq_iload F dJ6_getChars_ba4f3_104 rfl ?_
          refine cq_if_eq F (tgt := 118) dJ6_getChars_ba4f3_106 (by decide) (fun c_106 => ?_) (fun c_106 => ?_)
          · have c_106 : 0 = 0 := (nI_b (a := 0) (b := 0) (by omega) (by omega)).2.2.mp c_106
            refine cq_iload F dJ6_getChars_ba4f3_118 rfl ?_
            refine cq_iret F hr (by decide) (by decide) dJ6_getChars_ba4f3_120 ⟨_, rfl, ?_⟩
            have hr := sd_dg m (by omega)
            refine ⟨fun k h1 h2 => ?_, fun k h1 => ?_, fun x h1 => ?_⟩
            · rw [h_103]
              by_cases e1 : k = p - 1 - 1
              · rw [e1, cq_up_s, hr.2, show ix - 1 - (p - 1 - 1) = ix - p + 1 by omega, en_d1, ← hm]
                exact congrArg (fun z => nI (48 + z)) (by omega)
              · rw [cq_up_k e1, h_84]
                by_cases e2 : k = p - 1
                · rw [e2, cq_up_s, hr.1, hdm]
                · rw [cq_up_k e2]; exact hd k (by omega) h2
            · rw [h_103, cq_up_k (by omega), h_84, cq_up_k (by omega)]; exact hlo k (by omega)
            · rw [h_103, cq_up_row h1, h_84, cq_up_row h1]; exact hfr x h1
          · have c_106 : ¬ 0 = 0 := fun z => c_106 ((nI_b (a := 0) (b := 0) (by omega) (by omega)).2.2.mpr z)
            omega
      · have c_25 : 100 ≤ m := Nat.le_of_not_lt (fun z => c_25 ((sd_100 (by omega)).mpr z))
        have hl2 := en_len_100 c_25
        have h1m : 1 ≤ en_len (m / 100) := by unfold en_len; omega
        refine cq_iload_n F (i := 0) dJ6_getChars_ba4f3_28 rfl rfl ?_
        refine cq_bipush F (v := 100) dJ6_getChars_ba4f3_29 (by decide) ?_
        refine cq_idiv F dJ6_getChars_ba4f3_31 (by decide) ?_
        rw [show (-nI m / 100 : Int32) = -nI (m / 100) from sb_ndiv (by omega)]
        refine cq_istore_n F (i := 3) dJ6_getChars_ba4f3_32 rfl (by decide) ?_
        refine cq_iload_n F (i := 3) dJ6_getChars_ba4f3_33 rfl rfl ?_
        refine cq_bipush F (v := 100) dJ6_getChars_ba4f3_34 (by decide) ?_
        refine cq_imul F dJ6_getChars_ba4f3_36 ?_
        refine cq_iload_n F (i := 0) dJ6_getChars_ba4f3_37 rfl rfl ?_
        refine cq_isub F dJ6_getChars_ba4f3_38 ?_
        rw [show (-nI (m / 100) * 100 - -nI m : Int32) = nI (m % 100) from sb_nrem (by omega)]
        refine cq_istore F dJ6_getChars_ba4f3_39 (by decide) ?_
        refine cq_iload_n F (i := 3) dJ6_getChars_ba4f3_41 rfl rfl ?_
        refine cq_istore_n F (i := 0) dJ6_getChars_ba4f3_42 rfl (by decide) ?_
        refine cq_aload_n F (i := 2) dJ6_getChars_ba4f3_43 rfl rfl ?_
        refine cq_iinc F dJ6_getChars_ba4f3_44 rfl (by decide) (fun x_44 e_44 => ?_)
        obtain rfl : x_44 = nI (p - 1) := by rw [e_44]; exact nI_dn (by omega)
        refine cq_iload F dJ6_getChars_ba4f3_47 rfl ?_
        refine cq_getD1 F (F.1.2.2.2.2 _ (List.mem_of_getElem? (l := wsJ6_getChars_ba4f3) (i := 1) (a := .fieldLink RJ6 83 "java/lang/Integer" "DigitOnes" "[B") (by decide +kernel))) dJ6_getChars_ba4f3_49 ?_
        refine cq_iload F dJ6_getChars_ba4f3_52 rfl ?_
        refine cq_baldD F F.2.2.2.2.d1.2 (j := (m % 100)) rfl ⟨(by omega), by decide⟩ dJ6_getChars_ba4f3_54 ?_
        refine cq_bast_j F (j := p - 1) hk hl rfl ⟨(by omega), by decide⟩ dJ6_getChars_ba4f3_55 (fun M_55 h_55 => ?_)
        refine cq_aload_n F (i := 2) dJ6_getChars_ba4f3_56 rfl rfl ?_
        refine cq_iinc F dJ6_getChars_ba4f3_57 rfl (by decide) (fun x_57 e_57 => ?_)
        obtain rfl : x_57 = nI (p - 1 - 1) := by rw [e_57]; exact nI_dn (by omega)
        refine cq_iload F dJ6_getChars_ba4f3_60 rfl ?_
        refine cq_getD2 F (F.1.2.2.2.2 _ (List.mem_of_getElem? (l := wsJ6_getChars_ba4f3) (i := 2) (a := .fieldLink RJ6 87 "java/lang/Integer" "DigitTens" "[B") (by decide +kernel))) dJ6_getChars_ba4f3_62 ?_
        refine cq_iload F dJ6_getChars_ba4f3_65 rfl ?_
        refine cq_baldD F F.2.2.2.2.d2.2 (j := (m % 100)) rfl ⟨(by omega), by decide⟩ dJ6_getChars_ba4f3_67 ?_
        refine cq_bast_j F (j := p - 1 - 1) hk hl rfl ⟨(by omega), by decide⟩ dJ6_getChars_ba4f3_68 (fun M_68 h_68 => ?_)
        refine cq_goto F (tgt := 22) dJ6_getChars_ba4f3_69 (by decide) ?_
        refine cq_loc (L2 := [(0, .int (-nI (m / 100))), (1, .int (nI ix)), (2, .ref b), (5, .int (nI (p - 1 - 1))), (6, .int 0)]) rfl ?_
        exact ih_22 M_68 (m / 100) (p - 1 - 1) ⟨by omega, by omega⟩ ⟨by omega, by rw [show ix - (p - 1 - 1) = ix - p + 1 + 1 by omega, en_d1, en_d1, ← hm]; omega⟩ (fun k h1 h2 => by
              have hr := sd_dg (m % 100) (by omega)
              by_cases e1 : k = p - 1 - 1
              · rw [e1, h_68, cq_up_s, hr.2, show ix - 1 - (p - 1 - 1) = ix - p + 1 by omega, en_d1, ← hm]
                exact congrArg (fun z => nI (48 + z)) (by omega)
              · rw [h_68, cq_up_k e1, h_55]
                by_cases e2 : k = p - 1
                · rw [e2, cq_up_s, hr.1, show ix - 1 - (p - 1) = ix - p by omega, ← hm]
                  exact congrArg (fun z => nI (48 + z)) (by omega)
                · rw [cq_up_k e2]
                  exact hd k (by omega) h2) (fun k h1 => by rw [h_68, cq_up_k (by omega), h_55, cq_up_k (by omega)]; exact hlo k (by omega)) (fun x h1 => by rw [h_68, cq_up_row h1, h_55, cq_up_row h1]; exact hfr x h1) (by omega)
  refine cq_iload_n F (i := 1) dJ6_getChars_ba4f3_0 rfl rfl ?_
  refine cq_istore F dJ6_getChars_ba4f3_1 (by decide) ?_
  refine cq_iload_n F (i := 0) dJ6_getChars_ba4f3_3 rfl rfl ?_
  refine cq_if_ge F (tgt := 11) dJ6_getChars_ba4f3_4 (by decide) (fun c_4 => ?_) (fun c_4 => ?_)
  · have c_4 : 0 ≤ v := (nI_b (a := 0) (b := v) (by omega) (by omega)).1.mp c_4
    refine cq_iconst F (v := 0) dJ6_getChars_ba4f3_11 rfl ?_
    refine cq_istore F dJ6_getChars_ba4f3_12 (by decide) ?_
    refine cq_iload F dJ6_getChars_ba4f3_14 rfl ?_
    refine cq_if_ne F (tgt := 22) dJ6_getChars_ba4f3_16 (by decide) (fun c_16 => ?_) (fun c_16 => ?_)
    · have c_16 : ¬ 0 = 0 := fun z => c_16 ((nI_b (a := 0) (b := 0) (by omega) (by omega)).2.2.mpr z)
      omega
    · have c_16 : 0 = 0 := (nI_b (a := 0) (b := 0) (by omega) (by omega)).2.2.mp c_16
      refine cq_iload_n F (i := 0) dJ6_getChars_ba4f3_19 rfl rfl ?_
      refine cq_ineg F dJ6_getChars_ba4f3_20 ?_
      refine cq_istore_n F (i := 0) dJ6_getChars_ba4f3_21 rfl (by decide) ?_
      refine cq_loc (L2 := [(0, .int (-nI v)), (1, .int (nI ix)), (2, .ref b), (5, .int (nI ix)), (6, .int 0)]) rfl ?_
      exact loop_22 (v + 1) M v ix ⟨by omega, by omega⟩ ⟨hv, by rw [Nat.sub_self]; exact (Nat.div_one v).symm⟩ (fun k h1 h2 => absurd h1 (by omega)) (fun k _ => rfl) (fun x _ => rfl) (by omega)
  · have c_4 : ¬ 0 ≤ v := fun z => c_4 ((nI_b (a := 0) (b := v) (by omega) (by omega)).1.mpr z)
    omega
theorem hdVJ6_getChars_ba4f3 : yJ6_getChars_ba4f3.cls = RJ6 ∧ yJ6_getChars_ba4f3.cls ≠ "java/lang/invoke/MethodHandle" ∧ yJ6_getChars_ba4f3.cls ≠ "java/lang/invoke/VarHandle" ∧ (parseMethodDescriptor yJ6_getChars_ba4f3.desc).map (fun d => d.parameters.length) = some 3 := by decide +kernel
abbrev rmJ5_append_c97b9 : Room := ({ frames := 1, cells := 0, slots := 0, locals := 26 })
set_option maxHeartbeats 4000000 in
set_option maxRecDepth 100000 in
theorem kJ5_append_c97b9 (l : Launch) (D : va_G) (cA : Nat → ClassId) (X : cq_X) (Bs : Nat) (q n v : Nat) (f : Nat → Nat) (M : cq_M) (hq : cq_isSB X q) (h : sb_ok M q n f) (hv : v < 10000000) (hn : n + en_len v ≤ 16) : cq_C l yJ5_append_c97b9 wsJ5_append_c97b9 rmJ5_append_c97b9 D cA X Bs [.ref q, .int (nI v)] M (cq_PR (fun a M1 => a = q ∧ sb_ok M1 q (n + en_len v) (fun j => if j < n then f j else (48 + v / 10 ^ (en_len v - 1 - (j - n)) % 10)) ∧ sb_fr M M1 q)) 0 0 := by
  refine cq_met (cc := cJ5_append_c97b9) (maxL := 4) (ret := (some (.object "java/lang/AbstractStringBuilder"))) (by decide) rfl (Nat.le_of_ble_eq_true rfl) [(0, .ref q), (1, .int (nI v))] rfl rfl ?_
  intro p9 e9 s9 m9 b9 t9 c9 F hr
  have inJ4 : ∀ w ∈ wsJ40, w ∈ wsJ5_append_c97b9 := (fun w h => List.mem_cons_of_mem _ (List.mem_append_right _ h))
  refine cq_aload_n F (i := 0) dJ5_append_c97b9_0 rfl rfl ?_
  refine cq_getIh F (C := RJ4) (T := TJ4) (N := 4) (ci := 9) hq.kind rfl ⟨⟨by decide, by decide⟩, rfl⟩ inJ4 3 (by decide) rfl (F.1.2.2.2.2 _ (List.mem_of_getElem? (l := wsJ5_append_c97b9) (i := 1) (a := .fieldLink RJ5 79 "java/lang/AbstractStringBuilder" "count" "I") (by decide +kernel))) dJ5_append_c97b9_1 ?_
  rw [show M q 3 = nI (n) from (show M q 3 = nI (n) from h.2.1)]
  refine cq_istore_n F (i := 2) dJ5_append_c97b9_4 rfl (by decide) ?_
  refine cq_iload_n F (i := 2) dJ5_append_c97b9_5 rfl rfl ?_
  refine cq_iload_n F (i := 1) dJ5_append_c97b9_6 rfl rfl ?_
  refine cq_callS F (kJ6_stringSize_0f7a4 l D cA X Bs v M hv) (va_cwS 1 F.1.2.2.2.2 gJ5_append_c97b9_J6_stringSize_0f7a4 rfl rfl rfl hdVJ6_stringSize_0f7a4.2 ⟨Nat.le_of_ble_eq_true rfl, Nat.le_of_ble_eq_true rfl⟩) rfl (Nat.le_of_ble_eq_true rfl) dJ5_append_c97b9_7 ⟨Nat.le_of_ble_eq_true rfl, Nat.le_of_ble_eq_true rfl⟩ (cq_kIe ?_)
  refine cq_iadd F dJ5_append_c97b9_10 ?_
  rw [show (nI n + nI (en_len v) : Int32) = nI (n + (en_len v)) from nI_add _ _]
  refine cq_istore_n F (i := 3) dJ5_append_c97b9_11 rfl (by decide) ?_
  refine cq_aload_n F (i := 0) dJ5_append_c97b9_12 rfl rfl ?_
  refine cq_iload_n F (i := 3) dJ5_append_c97b9_13 rfl rfl ?_
  refine cq_callU F (C := RJ4) (ci := 9) (kJ5_ensureCapacityInternal_d00df l D cA X Bs q n (n + en_len v) f M hq h (by omega)) (va_cwU 1 F.1.2.2.2.2 gJ5_append_c97b9_J5_ensureCapacityInternal_d00df_u100J4 rfl rfl rfl rfl hdVJ5_ensureCapacityInternal_d00df.2 ⟨Nat.le_of_ble_eq_true rfl, Nat.le_of_ble_eq_true rfl⟩) hq.kind ⟨by decide, by decide⟩ rfl rfl rfl (Nat.le_of_ble_eq_true rfl) dJ5_append_c97b9_14 ⟨Nat.le_of_ble_eq_true rfl, Nat.le_of_ble_eq_true rfl⟩ (cq_kVp ?_)
  refine cq_aload_n F (i := 0) dJ5_append_c97b9_17 rfl rfl ?_
  refine cq_callU F (C := RJ4) (ci := 9) (kJ5_isLatin1_aae02 l D cA X Bs q n f M hq h) (va_cwU 0 F.1.2.2.2.2 gJ5_append_c97b9_J5_isLatin1_aae02_u83J4 rfl rfl rfl rfl hdVJ5_isLatin1_aae02.2 ⟨Nat.le_of_ble_eq_true rfl, Nat.le_of_ble_eq_true rfl⟩) hq.kind ⟨by decide, by decide⟩ rfl rfl rfl (Nat.le_of_ble_eq_true rfl) dJ5_append_c97b9_18 ⟨Nat.le_of_ble_eq_true rfl, Nat.le_of_ble_eq_true rfl⟩ (cq_kIe ?_)
  refine cq_if_eq F (tgt := 37) dJ5_append_c97b9_21 (by decide) (fun c_21 => ?_) (fun c_21 => ?_)
  · have c_21 : 1 = 0 := (nI_b (a := 1) (b := 0) (by omega) (by omega)).2.2.mp c_21
    omega
  · have c_21 : ¬ 1 = 0 := fun z => c_21 ((nI_b (a := 1) (b := 0) (by omega) (by omega)).2.2.mpr z)
    refine cq_iload_n F (i := 1) dJ5_append_c97b9_24 rfl rfl ?_
    refine cq_iload_n F (i := 3) dJ5_append_c97b9_25 rfl rfl ?_
    refine cq_aload_n F (i := 0) dJ5_append_c97b9_26 rfl rfl ?_
    refine cq_getTh (t := q + 1) F (C := RJ4) (T := TJ4) (N := 4) (ci := 9) hq.kind rfl ⟨⟨by decide, by decide⟩, rfl⟩ inJ4 0 (by decide) rfl hq.t0 (F.1.2.2.2.2 _ (List.mem_of_getElem? (l := wsJ5_append_c97b9) (i := 2) (a := .fieldLink RJ5 15 "java/lang/AbstractStringBuilder" "value" "[B") (by decide +kernel))) dJ5_append_c97b9_27 ?_
    refine cq_callS F (kJ6_getChars_ba4f3 l D cA X Bs v (n + en_len v) (q + 1) M hv hq.k1 hq.n1 (by omega) (by omega)) (va_cwS 3 F.1.2.2.2.2 gJ5_append_c97b9_J6_getChars_ba4f3 rfl rfl rfl hdVJ6_getChars_ba4f3.2 ⟨Nat.le_of_ble_eq_true rfl, Nat.le_of_ble_eq_true rfl⟩) rfl (Nat.le_of_ble_eq_true rfl) dJ5_append_c97b9_30 ⟨Nat.le_of_ble_eq_true rfl, Nat.le_of_ble_eq_true rfl⟩ (cq_kI fun r_30 M_30 h_30 => ?_)
    refine cq_pop F dJ5_append_c97b9_33 rfl ?_
    refine cq_goto F (tgt := 48) dJ5_append_c97b9_34 (by decide) ?_
    refine cq_aload_n F (i := 0) dJ5_append_c97b9_48 rfl rfl ?_
    refine cq_iload_n F (i := 3) dJ5_append_c97b9_49 rfl rfl ?_
    refine cq_puth F (C := RJ4) (T := TJ4) (N := 4) (ci := 9) hq.kind rfl ⟨⟨by decide, by decide⟩, rfl⟩ inJ4 tyJ4 tyJ4_ok nmJ4 3 (by decide) rfl (F.1.2.2.2.2 _ (List.mem_of_getElem? (l := wsJ5_append_c97b9) (i := 1) (a := .fieldLink RJ5 79 "java/lang/AbstractStringBuilder" "count" "I") (by decide +kernel))) rfl (by rfl) (by rfl) dJ5_append_c97b9_50 (fun M_50 h_50 => ?_)
    refine cq_aload_n F (i := 0) dJ5_append_c97b9_53 rfl rfl ?_
    refine cq_aret F hr (Or.inl ⟨_, rfl⟩) (by decide) (by decide) dJ5_append_c97b9_54 ⟨_, rfl, ?_⟩
    refine ⟨rfl, ⟨?_, ?_, fun j hj => ?_⟩, fun x h1 h2 => ?_⟩
    · rw [h_50, cq_up_k (by omega), h_30.2.2 q (by omega)]; exact h.1
    · rw [h_50]; exact cq_up_s _ _ _ _
    · rw [h_50, cq_up_a (by omega)]
      dsimp only
      by_cases e : j < n
      · rw [if_pos e, h_30.2.1 j (by omega)]; exact h.2.2 j e
      · rw [if_neg e, h_30.1 j (by omega) hj, show n + en_len v - 1 - j = en_len v - 1 - (j - n) by omega]
    · rw [h_50, cq_up_row h1]; exact h_30.2.2 x h2
theorem hdVJ5_append_c97b9 : yJ5_append_c97b9.cls = RJ5 ∧ yJ5_append_c97b9.cls ≠ "java/lang/invoke/MethodHandle" ∧ yJ5_append_c97b9.cls ≠ "java/lang/invoke/VarHandle" ∧ (parseMethodDescriptor yJ5_append_c97b9.desc).map (fun d => d.parameters.length) = some 1 := by decide +kernel
abbrev rmJ4_append_bf812 : Room := ({ frames := 2, cells := 0, slots := 0, locals := 49 })
set_option maxHeartbeats 4000000 in
set_option maxRecDepth 100000 in
theorem kJ4_append_bf812 (l : Launch) (D : va_G) (cA : Nat → ClassId) (X : cq_X) (Bs : Nat) (q n v : Nat) (f : Nat → Nat) (M : cq_M) (hq : cq_isSB X q) (h : sb_ok M q n f) (hv : v < 10000000) (hn : n + en_len v ≤ 16) : cq_C l yJ4_append_bf812 wsJ4_append_bf812 rmJ4_append_bf812 D cA X Bs [.ref q, .int (nI v)] M (cq_PR (fun a M1 => a = q ∧ sb_ok M1 q (n + en_len v) (fun j => if j < n then f j else (48 + v / 10 ^ (en_len v - 1 - (j - n)) % 10)) ∧ sb_fr M M1 q)) 0 0 := by
  refine cq_met (cc := cJ4_append_bf812) (maxL := 2) (ret := (some (.object "java/lang/StringBuilder"))) (by decide) rfl (Nat.le_of_ble_eq_true rfl) [(0, .ref q), (1, .int (nI v))] rfl rfl ?_
  intro p9 e9 s9 m9 b9 t9 c9 F hr
  refine cq_aload_n F (i := 0) dJ4_append_bf812_0 rfl rfl ?_
  refine cq_iload_n F (i := 1) dJ4_append_bf812_1 rfl rfl ?_
  refine cq_callSU F (C := RJ4) (ci := 9) (kJ5_append_c97b9 l D cA X Bs q n v f M hq h hv hn) (va_cwSU 1 F.1.2.2.2.2 gJ4_append_bf812_J5_append_c97b9_s53 rfl rfl rfl (by decide +kernel) ⟨Nat.le_of_ble_eq_true rfl, Nat.le_of_ble_eq_true rfl⟩) hq.kind ⟨by decide, by decide⟩ rfl rfl rfl (Nat.le_of_ble_eq_true rfl) dJ4_append_bf812_2 ⟨Nat.le_of_ble_eq_true rfl, Nat.le_of_ble_eq_true rfl⟩ (cq_kR fun a_2 M_2 h_2 => ?_)
  obtain ⟨ea_2, h_2⟩ := h_2
  subst ea_2
  refine cq_pop F dJ4_append_bf812_5 rfl ?_
  refine cq_aload_n F (i := 0) dJ4_append_bf812_6 rfl rfl ?_
  exact cq_aret F hr (Or.inl ⟨_, rfl⟩) (by decide) (by decide) dJ4_append_bf812_7 ⟨_, rfl, ⟨rfl, h_2⟩⟩
theorem hdVJ4_append_bf812 : yJ4_append_bf812.cls = RJ4 ∧ yJ4_append_bf812.cls ≠ "java/lang/invoke/MethodHandle" ∧ yJ4_append_bf812.cls ≠ "java/lang/invoke/VarHandle" ∧ (parseMethodDescriptor yJ4_append_bf812.desc).map (fun d => d.parameters.length) = some 1 := by decide +kernel
