/-! the law's own small methods -/
theorem ll_and (x : Int32) : ∃ m : Nat, m < 2147483648 ∧ (x &&& 2147483647) = nI m := by
  refine ⟨(x &&& 2147483647).toBitVec.toNat, ?_, ?_⟩
  · have e9 : (x &&& 2147483647).toBitVec = x.toBitVec &&& 2147483647#32 := by simp
    rw [e9, BitVec.toNat_and]
    exact Nat.lt_of_le_of_lt Nat.and_le_right (by decide)
  · apply Int32.toBitVec_inj.mp
    show _ = BitVec.ofNat 32 _
    simp
theorem ll_low (x : Int32) {k : Nat} (h0 : 0 < k) (hk : k < 1000000) : ∃ j : Nat, j < k ∧ (x &&& 2147483647) - (x &&& 2147483647) / nI k * nI k = nI j := by
  obtain ⟨m, hm, e⟩ := ll_and x
  rw [e, pk_rem (by omega) h0 (by omega)]
  exact ⟨m % k, Nat.mod_lt _ h0, rfl⟩
theorem lw_shift {b : Nat → Nat} {w j : Nat} (hw : 0 < w) : ns_up (fun j => if w < j then b (j - 1) else b j) w ((fun j => if w < j then b (j - 1) else b j) (w - 1)) j = (fun j => if w - 1 < j then b (j - 1) else b j) j := by
  unfold ns_up
  show (if j = w then (if w < w - 1 then b (w - 1 - 1) else b (w - 1)) else (if w < j then b (j - 1) else b j)) = (if w - 1 < j then b (j - 1) else b j)
  by_cases e : j = w
  · rw [if_pos e, if_neg (by omega), if_pos (by omega), e]
  · rw [if_neg e]
    by_cases e2 : w < j
    · rw [if_pos e2, if_pos (by omega)]
    · rw [if_neg e2, if_neg (by omega)]
theorem cp_fill {M2 M3 : cq_M} {f : Nat → Nat} {a k : Nat} (h : ∀ j, j < k → M2 a j = nI (f j)) (h3 : M3 = cq_up M2 a k (nI (f k))) : ∀ j, j < k + 1 → M3 a j = nI (f j) := fun j hj => by
  rw [h3]
  by_cases e : j = k
  · subst e; exact cq_up_s _ _ _ _
  · rw [cq_up_k e]; exact h j (by omega)
def la (X : cq_X) (ta ca ra na ba : Nat) : Prop := lq_row X ta 24 ∧ lq_row X ca 20 ∧ lq_row X ra 32 ∧ lq_row X na 9 ∧ lq_row X ba 8 ∧ ta < ca ∧ ca < ra ∧ ra < na ∧ na < ba
def lm (M : cq_M) (ta ca ra na ba : Nat) (t c r n b : Nat → Nat) : Prop := cq_nv M ta 24 t ∧ cq_nv M ca 20 c ∧ cq_nv M ra 32 r ∧ cq_nv M na 9 n ∧ cq_nv M ba 8 b
def lf (M M1 : cq_M) (ca ra na ba : Nat) : Prop := ∀ x, x ≠ ca → x ≠ ra → x ≠ na → x ≠ ba → M1 x = M x
theorem lf.rf {M : cq_M} {ca ra na ba : Nat} : lf M M ca ra na ba := fun _ _ _ _ _ => rfl
theorem lf.trans {M M1 M2 : cq_M} {ca ra na ba : Nat} (h : lf M M1 ca ra na ba) (h2 : lf M1 M2 ca ra na ba) : lf M M2 ca ra na ba := fun x a b c d => by rw [h2 x a b c d, h x a b c d]
theorem lf.up {M M1 M2 : cq_M} {ca ra na ba a j : Nat} {w : Int32} (h : lf M M1 ca ra na ba) (h2 : M2 = cq_up M1 a j w) (ha : a = ca ∨ a = ra ∨ a = na ∨ a = ba) : lf M M2 ca ra na ba := fun x x1 x2 x3 x4 => by
  rw [h2, cq_up_row (by rcases ha with z | z | z | z <;> (subst z; assumption)), h x x1 x2 x3 x4]
/-- the law's clock holds the row g; v: its own count of signals -/
def lst (M : cq_M) (ta ca ra na ba v : Nat) (g : Nat → Nat) : Prop := ∃ t c r n b, lm M ta ca ra na ba t c r n b ∧ lr t c r n b v g
theorem la.ge {X X1 : cq_X} {ta ca ra na ba : Nat} (h : la X ta ca ra na ba) (g : cq_ge X X1) : la X1 ta ca ra na ba := ⟨h.1.ge g, h.2.1.ge g, h.2.2.1.ge g, h.2.2.2.1.ge g, h.2.2.2.2.1.ge g, h.2.2.2.2.2⟩
theorem lm.same {M M1 : cq_M} {ta ca ra na ba : Nat} {t c r n b : Nat → Nat} (h : lm M ta ca ra na ba t c r n b) (e : ∀ x, x = ta ∨ x = ca ∨ x = ra ∨ x = na ∨ x = ba → M1 x = M x) : lm M1 ta ca ra na ba t c r n b := ⟨h.1.same (fun j => congrFun (e _ (by simp)) j), h.2.1.same (fun j => congrFun (e _ (by simp)) j), h.2.2.1.same (fun j => congrFun (e _ (by simp)) j), h.2.2.2.1.same (fun j => congrFun (e _ (by simp)) j), h.2.2.2.2.same (fun j => congrFun (e _ (by simp)) j)⟩
abbrev rmL_low : Room := ({ frames := 0, cells := 0, slots := 0, locals := 0 })
set_option maxHeartbeats 4000000 in
set_option maxRecDepth 100000 in
theorem kL_low (l : Launch) (D : va_G) (cA : Nat → ClassId) (X : cq_X) (Bs : Nat) (x : Int32) (k : Nat) (M : cq_M) (h0 : 0 < k) (hk : k < 1000000) : cq_C l yL_low wsL_low rmL_low D cA X Bs [.int x, .int (nI k)] M (cq_PI (fun r M1 => (∃ j : Nat, j < k ∧ r = nI j) ∧ M1 = M)) 0 0 := by
  refine cq_met (cc := cL_low) (maxL := 2) (ret := (some .int)) (by decide) rfl (Nat.le_of_ble_eq_true rfl) [(0, .int x), (1, .int (nI k))] rfl rfl ?_
  intro p9 e9 s9 m9 b9 t9 c9 F hr
  refine cq_iload_n F (i := 0) dL_low_0 rfl rfl ?_
  refine cq_ldc F (F.1.2.2.2.2 _ (List.mem_of_getElem? (l := wsL_low) (i := 1) (a := .constant RL 8 (2147483647)) (by decide +kernel))) dL_low_1 ?_
  refine cq_iand F dL_low_3 ?_
  refine cq_iload_n F (i := 1) dL_low_4 rfl rfl ?_
  refine cq_irem F dL_low_5 (fun z => absurd ((nI_eq (a := k) (b := 0) (by omega) (by omega)).mp z) (by omega)) ?_
  exact cq_iret F hr (by decide) (by decide) dL_low_6 ⟨_, rfl, ⟨ll_low x h0 hk, rfl⟩⟩
theorem hdVL_low : yL_low.cls = RL ∧ yL_low.cls ≠ "java/lang/invoke/MethodHandle" ∧ yL_low.cls ≠ "java/lang/invoke/VarHandle" ∧ (parseMethodDescriptor yL_low.desc).map (fun d => d.parameters.length) = some 2 := by decide +kernel
abbrev rmL_time : Room := ({ frames := 0, cells := 0, slots := 0, locals := 0 })
set_option maxHeartbeats 4000000 in
set_option maxRecDepth 100000 in
theorem kL_time (l : Launch) (D : va_G) (cA : Nat → ClassId) (X : cq_X) (Bs : Nat) (ta i : Nat) (t : Nat → Nat) (M : cq_M) (ht : lq_row X ta 24) (hv : cq_nv M ta 24 t) (hi : i < 4) : cq_C l yL_time wsL_time rmL_time D cA X Bs [.ref ta, .int (nI i)] M (cq_PI (fun r M1 => r = nI (ns_sum t (6 * i) 6) ∧ M1 = M)) 0 0 := by
  refine cq_met (cc := cL_time) (maxL := 4) (ret := (some .int)) (by decide) rfl (Nat.le_of_ble_eq_true rfl) [(0, .ref ta), (1, .int (nI i))] rfl rfl ?_
  intro p9 e9 s9 m9 b9 t9 c9 F hr
  have loop_4 : ∀ (n_4 : Nat) (k : Nat), k ≤ 6 → 6 - k < n_4 → cq_V p9 l e9 rmL_time s9 m9 ([.ref ta, .int (nI i)] : List Value).toArray b9 t9 c9 D cA X Bs 4 (0) (0) (MQ b9 (cq_Q D cA X Bs (cq_PI (fun r M1 => r = nI (ns_sum t (6 * i) 6) ∧ M1 = M))) ([.ref ta, .int (nI i)] : List Value).toArray s9 0 0 (cq_A Bs)) 4 [(0, .ref ta), (1, .int (nI i)), (2, .int (nI (ns_sum t (6 * i) k))), (3, .int (nI k))] [] M := by
    intro n_4
    induction n_4 with
    | zero =>
      intros
      omega
    | succ n_4 ih_4 =>
      intro k hk hn
      refine cq_iload_n F (i := 3) dL_time_4 rfl rfl ?_
      refine cq_bipush F (v := 6) dL_time_5 (by decide) ?_
      refine cq_icmp_ge F (tgt := 27) dL_time_7 (by decide) (fun c_7 => ?_) (fun c_7 => ?_)
      · have c_7 : 6 ≤ k := (nI_b (a := 6) (b := k) (by omega) (by omega)).1.mp c_7
        obtain rfl : k = 6 := by omega
        refine cq_iload_n F (i := 2) dL_time_27 rfl rfl ?_
        exact cq_iret F hr (by decide) (by decide) dL_time_28 ⟨_, rfl, ⟨rfl, rfl⟩⟩
      · have c_7 : ¬ 6 ≤ k := fun z => c_7 ((nI_b (a := 6) (b := k) (by omega) (by omega)).1.mpr z)
        refine cq_iload_n F (i := 2) dL_time_10 rfl rfl ?_
        refine cq_aload_n F (i := 0) dL_time_11 rfl rfl ?_
        refine cq_bipush F (v := 6) dL_time_12 (by decide) ?_
        refine cq_iload_n F (i := 1) dL_time_14 rfl rfl ?_
        refine cq_imul F dL_time_15 ?_
        rw [show (6 * nI i : Int32) = nI (6 * i) from pk_mul _ _]
        refine cq_iload_n F (i := 3) dL_time_16 rfl rfl ?_
        refine cq_iadd F dL_time_17 ?_
        rw [show (nI (6 * i) + nI k : Int32) = nI (6 * i + k) from nI_add _ _]
        refine cq_iald_j F (j := (6 * i + k)) ht.1 ht.2 rfl ⟨(by omega), by decide⟩ dL_time_18 ?_
        rw [hv _ (by omega)]
        refine cq_iadd F dL_time_19 ?_
        rw [show (nI (ns_sum t (6 * i) k) + nI (t ((6 * i + k))) : Int32) = nI ((ns_sum t (6 * i) k) + (t ((6 * i + k)))) from nI_add _ _]
        refine cq_istore_n F (i := 2) dL_time_20 rfl (by decide) ?_
        refine cq_iinc F dL_time_21 rfl (by decide) (fun x_21 e_21 => ?_)
        obtain rfl : x_21 = nI (k + 1) := by rw [e_21]; exact nI_1 _
        refine cq_goto F (tgt := 4) dL_time_24 (by decide) ?_
        refine cq_loc (L2 := [(0, .ref ta), (1, .int (nI i)), (2, .int (nI (ns_sum t (6 * i) (k + 1)))), (3, .int (nI (k + 1)))]) rfl ?_
        exact ih_4 (k + 1) (by omega) (by omega)
  refine cq_iconst F (v := 0) dL_time_0 rfl ?_
  refine cq_istore_n F (i := 2) dL_time_1 rfl (by decide) ?_
  refine cq_iconst F (v := 0) dL_time_2 rfl ?_
  refine cq_istore_n F (i := 3) dL_time_3 rfl (by decide) ?_
  refine cq_loc (L2 := [(0, .ref ta), (1, .int (nI i)), (2, .int (nI (ns_sum t (6 * i) 0))), (3, .int (nI 0))]) rfl ?_
  exact loop_4 7 0 (by omega) (by omega)
theorem hdVL_time : yL_time.cls = RL ∧ yL_time.cls ≠ "java/lang/invoke/MethodHandle" ∧ yL_time.cls ≠ "java/lang/invoke/VarHandle" ∧ (parseMethodDescriptor yL_time.desc).map (fun d => d.parameters.length) = some 2 := by decide +kernel
abbrev rmL_left : Room := ({ frames := 1, cells := 0, slots := 0, locals := 23 })
set_option maxHeartbeats 4000000 in
set_option maxRecDepth 100000 in
theorem kL_left (l : Launch) (D : va_G) (cA : Nat → ClassId) (X : cq_X) (Bs : Nat) (ta ca i : Nat) (t c : Nat → Nat) (M : cq_M) (ht : lq_row X ta 24) (hc : lq_row X ca 20) (hv : cq_nv M ta 24 t) (hvc : cq_nv M ca 20 c) (hi : i < 4) (hle : c (5 * i) + c (5 * i + 1) ≤ ns_sum t (6 * i) 6) : cq_C l yL_left wsL_left rmL_left D cA X Bs [.ref ta, .ref ca, .int (nI i)] M (cq_PI (fun r M1 => r = nI (ns_sum t (6 * i) 6 - c (5 * i) - c (5 * i + 1)) ∧ M1 = M)) 0 0 := by
  refine cq_met (cc := cL_left) (maxL := 3) (ret := (some .int)) (by decide) rfl (Nat.le_of_ble_eq_true rfl) [(0, .ref ta), (1, .ref ca), (2, .int (nI i))] rfl rfl ?_
  intro p9 e9 s9 m9 b9 t9 c9 F hr
  refine cq_aload_n F (i := 0) dL_left_0 rfl rfl ?_
  refine cq_iload_n F (i := 2) dL_left_1 rfl rfl ?_
  refine cq_callS F (kL_time l D cA X Bs ta i t M ht hv hi) (va_cwS 2 F.1.2.2.2.2 gL_left_L_time rfl rfl rfl hdVL_time.2 ⟨Nat.le_of_ble_eq_true rfl, Nat.le_of_ble_eq_true rfl⟩) rfl (Nat.le_of_ble_eq_true rfl) dL_left_2 ⟨Nat.le_of_ble_eq_true rfl, Nat.le_of_ble_eq_true rfl⟩ (cq_kIp fun r_2 h_2 => ?_)
  subst h_2
  refine cq_aload_n F (i := 1) dL_left_5 rfl rfl ?_
  refine cq_iconst F (v := 5) dL_left_6 rfl ?_
  refine cq_iload_n F (i := 2) dL_left_7 rfl rfl ?_
  refine cq_imul F dL_left_8 ?_
  rw [show (5 * nI i : Int32) = nI (5 * i) from pk_mul _ _]
  refine cq_iald_j F (j := 5 * i) hc.1 hc.2 rfl ⟨(by omega), by decide⟩ dL_left_9 ?_
  rw [hvc _ (by omega)]
  refine cq_isub F dL_left_10 ?_
  rw [show (nI (ns_sum t (6 * i) 6) - nI (c (5 * i)) : Int32) = nI ((ns_sum t (6 * i) 6) - (c (5 * i))) from pk_sub (a := (ns_sum t (6 * i) 6)) (b := (c (5 * i))) (by omega)]
  refine cq_aload_n F (i := 1) dL_left_11 rfl rfl ?_
  refine cq_iconst F (v := 5) dL_left_12 rfl ?_
  refine cq_iload_n F (i := 2) dL_left_13 rfl rfl ?_
  refine cq_imul F dL_left_14 ?_
  rw [show (5 * nI i : Int32) = nI (5 * i) from pk_mul _ _]
  refine cq_iconst F (v := 1) dL_left_15 rfl ?_
  refine cq_iadd F dL_left_16 ?_
  rw [show (nI (5 * i) + 1 : Int32) = nI (5 * i + 1) from nI_add _ _]
  refine cq_iald_j F (j := (5 * i + 1)) hc.1 hc.2 rfl ⟨(by omega), by decide⟩ dL_left_17 ?_
  rw [hvc _ (by omega)]
  refine cq_isub F dL_left_18 ?_
  rw [show (nI ((ns_sum t (6 * i) 6) - (c (5 * i))) - nI (c ((5 * i + 1))) : Int32) = nI (((ns_sum t (6 * i) 6) - (c (5 * i))) - (c ((5 * i + 1)))) from pk_sub (a := ((ns_sum t (6 * i) 6) - (c (5 * i)))) (b := (c ((5 * i + 1)))) (by omega)]
  exact cq_iret F hr (by decide) (by decide) dL_left_19 ⟨_, rfl, ⟨rfl, rfl⟩⟩
theorem hdVL_left : yL_left.cls = RL ∧ yL_left.cls ≠ "java/lang/invoke/MethodHandle" ∧ yL_left.cls ≠ "java/lang/invoke/VarHandle" ∧ (parseMethodDescriptor yL_left.desc).map (fun d => d.parameters.length) = some 3 := by decide +kernel
abbrev rmL_writes : Room := ({ frames := 0, cells := 0, slots := 0, locals := 0 })
set_option maxHeartbeats 4000000 in
set_option maxRecDepth 100000 in
theorem kL_writes (l : Launch) (D : va_G) (cA : Nat → ClassId) (X : cq_X) (Bs : Nat) (ba na k q : Nat) (b n : Nat → Nat) (M : cq_M) (hb0 : lq_row X ba 8) (hn0 : lq_row X na 9) (hvb : cq_nv M ba 8 b) (hvn : cq_nv M na 9 n) (hne : na < ba) (hn8 : n 8 < 1000000) : cq_C l yL_writes wsL_writes rmL_writes D cA X Bs [.ref ba, .ref na, .int (nI k), .int (nI q)] M (cq_PV (fun M1 => cq_nv M1 ba 8 (lw_b b (100000 * k + 10 * n 0 + q)) ∧ cq_nv M1 na 9 (lw_n n) ∧ ∀ x, x ≠ ba → x ≠ na → M1 x = M x)) 0 0 := by
  refine cq_met (cc := cL_writes) (maxL := 5) (ret := none) (by decide) rfl (Nat.le_of_ble_eq_true rfl) [(0, .ref ba), (1, .ref na), (2, .int (nI k)), (3, .int (nI q))] rfl rfl ?_
  intro p9 e9 s9 m9 b9 t9 c9 F hr
  have loop_4 : ∀ (n_4 : Nat) (w : Nat) (M2 : cq_M), w ≤ 7 → cq_nv M2 ba 8 (fun j => if w < j then b (j - 1) else b j) → (∀ x, x ≠ ba → M2 x = M x) → w < n_4 → cq_V p9 l e9 rmL_writes s9 m9 ([.ref ba, .ref na, .int (nI k), .int (nI q)] : List Value).toArray b9 t9 c9 D cA X Bs 5 (0) (0) (MQ b9 (cq_Q D cA X Bs (cq_PV (fun M1 => cq_nv M1 ba 8 (lw_b b (100000 * k + 10 * n 0 + q)) ∧ cq_nv M1 na 9 (lw_n n) ∧ ∀ x, x ≠ ba → x ≠ na → M1 x = M x))) ([.ref ba, .ref na, .int (nI k), .int (nI q)] : List Value).toArray s9 0 0 (cq_A Bs)) 4 [(0, .ref ba), (1, .ref na), (2, .int (nI k)), (3, .int (nI q)), (4, .int (nI w))] [] M2 := by
    intro n_4
    induction n_4 with
    | zero =>
      intros
      omega
    | succ n_4 ih_4 =>
      intro w M2 hw hvb2 hf2 hn
      have hvn2 : cq_nv M2 na 9 n := hvn.same (fun j => congrFun (hf2 na (by omega)) j)
      refine cq_iload F dL_writes_4 rfl ?_
      refine cq_if_le F (tgt := 25) dL_writes_6 (by decide) (fun c_6 => ?_) (fun c_6 => ?_)
      · have c_6 : w ≤ 0 := (nI_b (a := w) (b := 0) (by omega) (by omega)).1.mp c_6
        have hw0 : w = 0 := by omega
        refine cq_aload_n F (i := 0) dL_writes_25 rfl rfl ?_
        refine cq_iconst F (v := 0) dL_writes_26 rfl ?_
        refine cq_ldc F (F.1.2.2.2.2 _ (List.mem_of_getElem? (l := wsL_writes) (i := 1) (a := .constant RL 15 (100000)) (by decide +kernel))) dL_writes_27 ?_
        refine cq_iload_n F (i := 2) dL_writes_29 rfl rfl ?_
        refine cq_imul F dL_writes_30 ?_
        rw [show (100000 * nI k : Int32) = nI (100000 * k) from pk_mul _ _]
        refine cq_bipush F (v := 10) dL_writes_31 (by decide) ?_
        refine cq_aload_n F (i := 1) dL_writes_33 rfl rfl ?_
        refine cq_iconst F (v := 0) dL_writes_34 rfl ?_
        refine cq_iald_j F (j := 0) hn0.1 hn0.2 rfl ⟨(by omega), by decide⟩ dL_writes_35 ?_
        rw [hvn2 _ (by omega)]
        refine cq_imul F dL_writes_36 ?_
        rw [show (10 * nI (n (0)) : Int32) = nI (10 * (n (0))) from pk_mul _ _]
        refine cq_iadd F dL_writes_37 ?_
        rw [show (nI (100000 * k) + nI (10 * (n (0))) : Int32) = nI (100000 * k + 10 * (n (0))) from nI_add _ _]
        refine cq_iload_n F (i := 3) dL_writes_38 rfl rfl ?_
        refine cq_iadd F dL_writes_39 ?_
        rw [show (nI (100000 * k + 10 * (n (0))) + nI q : Int32) = nI ((100000 * k + 10 * (n (0))) + q) from nI_add _ _]
        refine cq_iast_j F (j := 0) hb0.1 hb0.2 rfl ⟨(by omega), by decide⟩ dL_writes_40 (fun M_40 h_40 => ?_)
        obtain ⟨g_40, eg_40⟩ : ∃ z, z = ns_up (fun j => if w < j then b (j - 1) else b j) (0) (((100000 * k + 10 * (n (0))) + q)) := ⟨_, rfl⟩
        have v_40_ba : cq_nv M_40 ba 8 g_40 := by rw [eg_40]; exact hvb2.up h_40
        have v_40_na := hvn2.ne h_40 (by omega)
        refine cq_aload_n F (i := 1) dL_writes_41 rfl rfl ?_
        refine cq_bipush F (v := 8) dL_writes_42 (by decide) ?_
        refine cq_dup2 F dL_writes_44 rfl rfl ?_
        refine cq_iald_j F (j := 8) hn0.1 hn0.2 rfl ⟨(by omega), by decide⟩ dL_writes_45 ?_
        rw [v_40_na _ (by omega)]
        refine cq_aload_n F (i := 1) dL_writes_46 rfl rfl ?_
        refine cq_bipush F (v := 8) dL_writes_47 (by decide) ?_
        refine cq_iald_j F (j := 8) hn0.1 hn0.2 rfl ⟨(by omega), by decide⟩ dL_writes_49 ?_
        rw [v_40_na _ (by omega)]
        refine cq_bipush F (v := 8) dL_writes_50 (by decide) ?_
        refine cq_icmp_ge F (tgt := 59) dL_writes_52 (by decide) (fun c_52 => ?_) (fun c_52 => ?_)
        · have c_52 : 8 ≤ (n (8)) := (nI_b (a := 8) (b := (n (8))) (by omega) (by omega)).1.mp c_52
          refine cq_iconst F (v := 0) dL_writes_59 rfl ?_
          refine cq_iadd F dL_writes_60 ?_
          rw [show (nI (n (8)) + 0 : Int32) = nI ((n (8)) + 0) from nI_add _ _]
          refine cq_iast_j F (j := 8) hn0.1 hn0.2 rfl ⟨(by omega), by decide⟩ dL_writes_61 (fun M_61 h_61 => ?_)
          have v_61_ba := v_40_ba.ne h_61 (by omega)
          obtain ⟨g_61, eg_61⟩ : ∃ z, z = ns_up n (8) (((n (8)) + 0)) := ⟨_, rfl⟩
          have v_61_na : cq_nv M_61 na 9 g_61 := by rw [eg_61]; exact v_40_na.up h_61
          refine cq_vret F hr (by decide) (by decide) dL_writes_62 ⟨rfl, ?_⟩
          refine ⟨(v_61_ba).ext (fun j hj => ?_), (v_61_na).ext (fun j hj => ?_), fun x x1 x2 => by rw [h_61, cq_up_row x2, h_40, cq_up_row x1]; exact hf2 x x1⟩
          · rw [eg_40]
            unfold lw_b
            by_cases e : j = 0
            · subst e; rw [ns_up_s, if_pos rfl]
            · rw [ns_up_n e, if_neg e]
              exact if_pos (by omega)
          · rw [eg_61]
            unfold lw_n
            refine congrArg (fun z => ns_up n 8 z j) ?_
            split <;> omega
        · have c_52 : ¬ 8 ≤ (n (8)) := fun z => c_52 ((nI_b (a := 8) (b := (n (8))) (by omega) (by omega)).1.mpr z)
          refine cq_iconst F (v := 1) dL_writes_55 rfl ?_
          refine cq_goto F (tgt := 60) dL_writes_56 (by decide) ?_
          refine cq_iadd F dL_writes_60 ?_
          rw [show (nI (n (8)) + 1 : Int32) = nI ((n (8)) + 1) from nI_add _ _]
          refine cq_iast_j F (j := 8) hn0.1 hn0.2 rfl ⟨(by omega), by decide⟩ dL_writes_61 (fun M_61 h_61 => ?_)
          have v_61_ba := v_40_ba.ne h_61 (by omega)
          obtain ⟨g_61, eg_61⟩ : ∃ z, z = ns_up n (8) (((n (8)) + 1)) := ⟨_, rfl⟩
          have v_61_na : cq_nv M_61 na 9 g_61 := by rw [eg_61]; exact v_40_na.up h_61
          refine cq_vret F hr (by decide) (by decide) dL_writes_62 ⟨rfl, ?_⟩
          refine ⟨(v_61_ba).ext (fun j hj => ?_), (v_61_na).ext (fun j hj => ?_), fun x x1 x2 => by rw [h_61, cq_up_row x2, h_40, cq_up_row x1]; exact hf2 x x1⟩
          · rw [eg_40]
            unfold lw_b
            by_cases e : j = 0
            · subst e; rw [ns_up_s, if_pos rfl]
            · rw [ns_up_n e, if_neg e]
              exact if_pos (by omega)
          · rw [eg_61]
            unfold lw_n
            refine congrArg (fun z => ns_up n 8 z j) ?_
            split <;> omega
      · have c_6 : ¬ w ≤ 0 := fun z => c_6 ((nI_b (a := w) (b := 0) (by omega) (by omega)).1.mpr z)
        refine cq_aload_n F (i := 0) dL_writes_9 rfl rfl ?_
        refine cq_iload F dL_writes_10 rfl ?_
        refine cq_aload_n F (i := 0) dL_writes_12 rfl rfl ?_
        refine cq_iload F dL_writes_13 rfl ?_
        refine cq_iconst F (v := 1) dL_writes_15 rfl ?_
        refine cq_isub F dL_writes_16 ?_
        rw [show (nI w - 1 : Int32) = nI (w - 1) from pk_sub (a := w) (b := 1) (by omega)]
        refine cq_iald_j F (j := (w - 1)) hb0.1 hb0.2 rfl ⟨(by omega), by decide⟩ dL_writes_17 ?_
        rw [hvb2 _ (by omega)]
        refine cq_iast_j F (j := w) hb0.1 hb0.2 rfl ⟨(by omega), by decide⟩ dL_writes_18 (fun M_18 h_18 => ?_)
        obtain ⟨g_18, eg_18⟩ : ∃ z, z = ns_up (fun j => if w < j then b (j - 1) else b j) (w) (((fun j => if w < j then b (j - 1) else b j) ((w - 1)))) := ⟨_, rfl⟩
        have v_18_ba : cq_nv M_18 ba 8 g_18 := by rw [eg_18]; exact hvb2.up h_18
        have v_18_na := hvn2.ne h_18 (by omega)
        refine cq_iinc F dL_writes_19 rfl (by decide) (fun x_19 e_19 => ?_)
        obtain rfl : x_19 = nI (w - 1) := by rw [e_19]; exact nI_dn (by omega)
        refine cq_goto F (tgt := 4) dL_writes_22 (by decide) ?_
        refine cq_loc (L2 := [(0, .ref ba), (1, .ref na), (2, .int (nI k)), (3, .int (nI q)), (4, .int (nI (w - 1)))]) rfl ?_
        exact ih_4 (w - 1) M_18 (by omega) (fun j hj => by rw [v_18_ba j hj, eg_18]; exact congrArg nI (lw_shift (by omega))) (fun x hx => by rw [h_18, cq_up_row hx]; exact hf2 x hx) (by omega)
  refine cq_bipush F (v := 7) dL_writes_0 (by decide) ?_
  refine cq_istore F dL_writes_2 (by decide) ?_
  refine cq_loc (L2 := [(0, .ref ba), (1, .ref na), (2, .int (nI k)), (3, .int (nI q)), (4, .int (nI 7))]) rfl ?_
  exact loop_4 8 7 M (by omega) (hvb.ext (fun j hj => (if_neg (by omega)).symm)) (fun _ _ => rfl) (by omega)
theorem hdVL_writes : yL_writes.cls = RL ∧ yL_writes.cls ≠ "java/lang/invoke/MethodHandle" ∧ yL_writes.cls ≠ "java/lang/invoke/VarHandle" ∧ (parseMethodDescriptor yL_writes.desc).map (fun d => d.parameters.length) = some 4 := by decide +kernel
abbrev rmL_flames : Room := ({ frames := 0, cells := 0, slots := 0, locals := 0 })
set_option maxHeartbeats 4000000 in
set_option maxRecDepth 100000 in
theorem kL_flames (l : Launch) (D : va_G) (cA : Nat → ClassId) (X : cq_X) (Bs : Nat) (ca na v B : Nat) (t c r n b g : Nat → Nat) (M : cq_M) (hc : lq_row X ca 20) (hn0 : lq_row X na 9) (hvc : cq_nv M ca 20 c) (hvn : cq_nv M na 9 n) (h : lr t c r n b v g) (hk : ns_ok g B) : cq_C l yL_flames wsL_flames rmL_flames D cA X Bs [.ref ca, .ref na] M (cq_PI (fun r M1 => r = nI (ns_flames g (g 6)) ∧ M1 = M)) 0 0 := by
  refine cq_met (cc := cL_flames) (maxL := 4) (ret := (some .int)) (by decide) rfl (Nat.le_of_ble_eq_true rfl) [(0, .ref ca), (1, .ref na)] rfl rfl ?_
  intro p9 e9 s9 m9 b9 t9 c9 F hr
  have e6 : n 6 = g 6 := h.1.2.2.2.2.2.2.1
  have h6 := hk.1
  have loop_4 : ∀ (n_4 : Nat) (k w : Nat), k ≤ g 6 → w = ns_flames g k → g 6 - k < n_4 → cq_V p9 l e9 rmL_flames s9 m9 ([.ref ca, .ref na] : List Value).toArray b9 t9 c9 D cA X Bs 4 (0) (0) (MQ b9 (cq_Q D cA X Bs (cq_PI (fun r M1 => r = nI (ns_flames g (g 6)) ∧ M1 = M))) ([.ref ca, .ref na] : List Value).toArray s9 0 0 (cq_A Bs)) 4 [(0, .ref ca), (1, .ref na), (2, .int (nI w)), (3, .int (nI k))] [] M := by
    intro n_4
    induction n_4 with
    | zero =>
      intros
      omega
    | succ n_4 ih_4 =>
      intro k w hk1 hw hn
      refine cq_iload_n F (i := 3) dL_flames_4 rfl rfl ?_
      refine cq_aload_n F (i := 1) dL_flames_5 rfl rfl ?_
      refine cq_bipush F (v := 6) dL_flames_6 (by decide) ?_
      refine cq_iald_j F (j := 6) hn0.1 hn0.2 rfl ⟨(by omega), by decide⟩ dL_flames_8 ?_
      rw [hvn _ (by omega)]
      refine cq_icmp_ge F (tgt := 36) dL_flames_9 (by decide) (fun c_9 => ?_) (fun c_9 => ?_)
      · have c_9 : (n (6)) ≤ k := (nI_b (a := (n (6))) (b := k) (by omega) (by omega)).1.mp c_9
        obtain rfl : k = g 6 := by omega
        refine cq_iload_n F (i := 2) dL_flames_36 rfl rfl ?_
        exact cq_iret F hr (by decide) (by decide) dL_flames_37 ⟨_, rfl, ⟨by rw [hw], rfl⟩⟩
      · have c_9 : ¬ (n (6)) ≤ k := fun z => c_9 ((nI_b (a := (n (6))) (b := k) (by omega) (by omega)).1.mpr z)
        refine cq_iload_n F (i := 2) dL_flames_12 rfl rfl ?_
        refine cq_aload_n F (i := 0) dL_flames_13 rfl rfl ?_
        refine cq_iconst F (v := 5) dL_flames_14 rfl ?_
        refine cq_iload_n F (i := 3) dL_flames_15 rfl rfl ?_
        refine cq_imul F dL_flames_16 ?_
        rw [show (5 * nI k : Int32) = nI (5 * k) from pk_mul _ _]
        refine cq_iconst F (v := 2) dL_flames_17 rfl ?_
        refine cq_iadd F dL_flames_18 ?_
        rw [show (nI (5 * k) + 2 : Int32) = nI (5 * k + 2) from nI_add _ _]
        refine cq_iald_j F (j := (5 * k + 2)) hc.1 hc.2 rfl ⟨(by omega), by decide⟩ dL_flames_19 ?_
        rw [hvc _ (by omega)]
        refine cq_aload_n F (i := 0) dL_flames_20 rfl rfl ?_
        refine cq_iconst F (v := 5) dL_flames_21 rfl ?_
        refine cq_iload_n F (i := 3) dL_flames_22 rfl rfl ?_
        refine cq_imul F dL_flames_23 ?_
        rw [show (5 * nI k : Int32) = nI (5 * k) from pk_mul _ _]
        refine cq_iconst F (v := 3) dL_flames_24 rfl ?_
        refine cq_iadd F dL_flames_25 ?_
        rw [show (nI (5 * k) + 3 : Int32) = nI (5 * k + 3) from nI_add _ _]
        refine cq_iald_j F (j := (5 * k + 3)) hc.1 hc.2 rfl ⟨(by omega), by decide⟩ dL_flames_26 ?_
        rw [hvc _ (by omega)]
        refine cq_iadd F dL_flames_27 ?_
        rw [show (nI (c ((5 * k + 2))) + nI (c ((5 * k + 3))) : Int32) = nI ((c ((5 * k + 2))) + (c ((5 * k + 3)))) from nI_add _ _]
        refine cq_iadd F dL_flames_28 ?_
        rw [show (nI w + nI ((c ((5 * k + 2))) + (c ((5 * k + 3)))) : Int32) = nI (w + ((c ((5 * k + 2))) + (c ((5 * k + 3))))) from nI_add _ _]
        refine cq_istore_n F (i := 2) dL_flames_29 rfl (by decide) ?_
        refine cq_iinc F dL_flames_30 rfl (by decide) (fun x_30 e_30 => ?_)
        obtain rfl : x_30 = nI (k + 1) := by rw [e_30]; exact nI_1 _
        refine cq_goto F (tgt := 4) dL_flames_33 (by decide) ?_
        refine cq_loc (L2 := [(0, .ref ca), (1, .ref na), (2, .int (nI (w + (c ((5 * k + 2)) + c ((5 * k + 3)))))), (3, .int (nI (k + 1)))]) rfl ?_
        exact ih_4 (k + 1) _ (by omega) (by rw [h.flames (by omega), hw]) (by omega)
  refine cq_iconst F (v := 0) dL_flames_0 rfl ?_
  refine cq_istore_n F (i := 2) dL_flames_1 rfl (by decide) ?_
  refine cq_iconst F (v := 0) dL_flames_2 rfl ?_
  refine cq_istore_n F (i := 3) dL_flames_3 rfl (by decide) ?_
  refine cq_loc (L2 := [(0, .ref ca), (1, .ref na), (2, .int (nI 0)), (3, .int (nI 0))]) rfl ?_
  exact loop_4 (g 6 + 1) 0 0 (by omega) rfl (by omega)
theorem hdVL_flames : yL_flames.cls = RL ∧ yL_flames.cls ≠ "java/lang/invoke/MethodHandle" ∧ yL_flames.cls ≠ "java/lang/invoke/VarHandle" ∧ (parseMethodDescriptor yL_flames.desc).map (fun d => d.parameters.length) = some 2 := by decide +kernel
theorem nL_left {l : Launch} {D : va_G} {cA : Nat → ClassId} {X : cq_X} {Bs : Nat} {M : cq_M} {ta ca i v B : Nat} {t c r n b g : Nat → Nat} (ht : lq_row X ta 24) (hc : lq_row X ca 20) (hv : cq_nv M ta 24 t) (hvc : cq_nv M ca 20 c) (h : lr t c r n b v g) (hk : ns_ok g B) (hi : i < g 6) : cq_C l yL_left wsL_left rmL_left D cA X Bs [.ref ta, .ref ca, .int (nI i)] M (cq_PI (fun r M1 => r = nI (ns_left g i) ∧ M1 = M)) 0 0 :=
  (kL_left l D cA X Bs ta ca i t c M ht hc hv hvc (by have := hk.1; omega) (h.left hk hi).2).impI (fun r M1 hp => ⟨by rw [hp.1, (h.left hk hi).1], hp.2⟩)
abbrev rmL_lights : Room := ({ frames := 2, cells := 0, slots := 0, locals := 45 })
set_option maxHeartbeats 4000000 in
set_option maxRecDepth 100000 in
theorem kL_lights (l : Launch) (D : va_G) (cA : Nat → ClassId) (X : cq_X) (Bs : Nat) (ta ca ra na ba i s v B : Nat) (t c r n b g : Nat → Nat) (M : cq_M) (ha : la X ta ca ra na ba) (hm : lm M ta ca ra na ba t c r n b) (h : lr t c r n b v g) (hk : ns_ok g B) (hi : i < g 6) (hs : s ≤ 1) : cq_C l yL_lights wsL_lights rmL_lights D cA X Bs [.ref ta, .ref ca, .ref na, .ref ba, .int (nI i), .int (nI s)] M (cq_PI (fun rv M1 => rv = (if ns_canLight g i (ls_x s) then 1 else 0) ∧ lst M1 ta ca ra na ba v (if ns_canLight g i (ls_x s) then ns_lightNow g i (ls_x s) else g) ∧ lf M M1 ca ra na ba)) 0 0 := by
  refine cq_met (cc := cL_lights) (maxL := 7) (ret := (some .boolean)) (by decide) rfl (Nat.le_of_ble_eq_true rfl) [(0, .ref ta), (1, .ref ca), (2, .ref na), (3, .ref ba), (4, .int (nI i)), (5, .int (nI s))] rfl rfl ?_
  intro p9 e9 s9 m9 b9 t9 c9 F hr
  obtain ⟨ht, hc, hr0, hn0, hb0, hd1, hd2, hd3, hd4⟩ := id ha
  have h6 := hk.1
  have hbit := h.bit hi hs
  have hq := hk.2.2.2.1 i hi
  have hle := hq.time
  have hll : ns_left g i ≤ 360 := by unfold ns_left; omega
  have hb9 : c (5 * i + 2 + s) ≤ 3 := by rw [hbit]; unfold ns_bit; have := hq.2.2.2.1; split <;> omega
  have hn8 : n 8 < 1000000 := by have z := h.1.2.2.2.2.2.2.2.2; have := hk.2.2.1; omega
  refine cq_aload_n F (i := 0) dL_lights_0 rfl rfl ?_
  refine cq_aload_n F (i := 1) dL_lights_1 rfl rfl ?_
  refine cq_iload F dL_lights_2 rfl ?_
  refine cq_callS F (nL_left (l := l) (D := D) (cA := cA) (Bs := Bs) ht hc hm.1 hm.2.1 h hk hi) (va_cwS 3 F.1.2.2.2.2 gL_lights_L_left rfl rfl rfl hdVL_left.2 ⟨Nat.le_of_ble_eq_true rfl, Nat.le_of_ble_eq_true rfl⟩) rfl (Nat.le_of_ble_eq_true rfl) dL_lights_4 ⟨Nat.le_of_ble_eq_true rfl, Nat.le_of_ble_eq_true rfl⟩ (cq_kIp fun r_4 h_4 => ?_)
  subst h_4
  refine cq_if_le F (tgt := 28) dL_lights_7 (by decide) (fun c_7 => ?_) (fun c_7 => ?_)
  · have c_7 : (ns_left g i) ≤ 0 := (nI_b (a := (ns_left g i)) (b := 0) (by omega) (by omega)).1.mp c_7
    have hcan : ¬ ns_canLight g i (ls_x s) := fun z => by have z1 := z.1; have z2 := z.2; rw [← hbit] at z2; omega
    refine cq_iconst F (v := 0) dL_lights_28 rfl ?_
    refine cq_istore F dL_lights_29 (by decide) ?_
    refine cq_iload F dL_lights_31 rfl ?_
    refine cq_if_eq F (tgt := 64) dL_lights_33 (by decide) (fun c_33 => ?_) (fun c_33 => ?_)
    · have c_33 : 0 = 0 := (nI_b (a := 0) (b := 0) (by omega) (by omega)).2.2.mp c_33
      refine cq_iload F dL_lights_64 rfl ?_
      refine cq_zret F hr (by rfl) (by decide) (by decide) dL_lights_66 ⟨_, rfl, ?_⟩
      refine ⟨(if_neg hcan).symm, ?_, lf.rf⟩
      rw [if_neg hcan]
      exact ⟨t, c, r, n, b, hm, h⟩
    · have c_33 : ¬ 0 = 0 := fun z => c_33 ((nI_b (a := 0) (b := 0) (by omega) (by omega)).2.2.mpr z)
      omega
  · have c_7 : ¬ (ns_left g i) ≤ 0 := fun z => c_7 ((nI_b (a := (ns_left g i)) (b := 0) (by omega) (by omega)).1.mpr z)
    refine cq_aload_n F (i := 1) dL_lights_10 rfl rfl ?_
    refine cq_iconst F (v := 5) dL_lights_11 rfl ?_
    refine cq_iload F dL_lights_12 rfl ?_
    refine cq_imul F dL_lights_14 ?_
    rw [show (5 * nI i : Int32) = nI (5 * i) from pk_mul _ _]
    refine cq_iconst F (v := 2) dL_lights_15 rfl ?_
    refine cq_iadd F dL_lights_16 ?_
    rw [show (nI (5 * i) + 2 : Int32) = nI (5 * i + 2) from nI_add _ _]
    refine cq_iload F dL_lights_17 rfl ?_
    refine cq_iadd F dL_lights_19 ?_
    rw [show (nI (5 * i + 2) + nI s : Int32) = nI ((5 * i + 2) + s) from nI_add _ _]
    refine cq_iald_j F (j := ((5 * i + 2) + s)) hc.1 hc.2 rfl ⟨(by omega), by decide⟩ dL_lights_20 ?_
    rw [hm.2.1 _ (by omega)]
    refine cq_if_ne F (tgt := 28) dL_lights_21 (by decide) (fun c_21 => ?_) (fun c_21 => ?_)
    · have c_21 : ¬ (c (((5 * i + 2) + s))) = 0 := fun z => c_21 ((nI_b (a := (c (((5 * i + 2) + s)))) (b := 0) (by omega) (by omega)).2.2.mpr z)
      have hcan : ¬ ns_canLight g i (ls_x s) := fun z => by have z1 := z.1; have z2 := z.2; rw [← hbit] at z2; omega
      refine cq_iconst F (v := 0) dL_lights_28 rfl ?_
      refine cq_istore F dL_lights_29 (by decide) ?_
      refine cq_iload F dL_lights_31 rfl ?_
      refine cq_if_eq F (tgt := 64) dL_lights_33 (by decide) (fun c_33 => ?_) (fun c_33 => ?_)
      · have c_33 : 0 = 0 := (nI_b (a := 0) (b := 0) (by omega) (by omega)).2.2.mp c_33
        refine cq_iload F dL_lights_64 rfl ?_
        refine cq_zret F hr (by rfl) (by decide) (by decide) dL_lights_66 ⟨_, rfl, ?_⟩
        refine ⟨(if_neg hcan).symm, ?_, lf.rf⟩
        rw [if_neg hcan]
        exact ⟨t, c, r, n, b, hm, h⟩
      · have c_33 : ¬ 0 = 0 := fun z => c_33 ((nI_b (a := 0) (b := 0) (by omega) (by omega)).2.2.mpr z)
        omega
    · have c_21 : (c (((5 * i + 2) + s))) = 0 := (nI_b (a := (c (((5 * i + 2) + s)))) (b := 0) (by omega) (by omega)).2.2.mp c_21
      refine cq_iconst F (v := 1) dL_lights_24 rfl ?_
      refine cq_goto F (tgt := 29) dL_lights_25 (by decide) ?_
      refine cq_istore F dL_lights_29 (by decide) ?_
      refine cq_iload F dL_lights_31 rfl ?_
      refine cq_if_eq F (tgt := 64) dL_lights_33 (by decide) (fun c_33 => ?_) (fun c_33 => ?_)
      · have c_33 : 1 = 0 := (nI_b (a := 1) (b := 0) (by omega) (by omega)).2.2.mp c_33
        omega
      · have c_33 : ¬ 1 = 0 := fun z => c_33 ((nI_b (a := 1) (b := 0) (by omega) (by omega)).2.2.mpr z)
        refine cq_aload_n F (i := 1) dL_lights_36 rfl rfl ?_
        refine cq_iconst F (v := 5) dL_lights_37 rfl ?_
        refine cq_iload F dL_lights_38 rfl ?_
        refine cq_imul F dL_lights_40 ?_
        rw [show (5 * nI i : Int32) = nI (5 * i) from pk_mul _ _]
        refine cq_iconst F (v := 2) dL_lights_41 rfl ?_
        refine cq_iadd F dL_lights_42 ?_
        rw [show (nI (5 * i) + 2 : Int32) = nI (5 * i + 2) from nI_add _ _]
        refine cq_iload F dL_lights_43 rfl ?_
        refine cq_iadd F dL_lights_45 ?_
        rw [show (nI (5 * i + 2) + nI s : Int32) = nI ((5 * i + 2) + s) from nI_add _ _]
        refine cq_iconst F (v := 1) dL_lights_46 rfl ?_
        refine cq_iast_j F (j := ((5 * i + 2) + s)) hc.1 hc.2 rfl ⟨(by omega), by decide⟩ dL_lights_47 (fun M_47 h_47 => ?_)
        have v_47_ta := hm.1.ne h_47 (by omega)
        obtain ⟨g_47, eg_47⟩ : ∃ z, z = ns_up c (((5 * i + 2) + s)) (1) := ⟨_, rfl⟩
        have v_47_ca : cq_nv M_47 ca 20 g_47 := by rw [eg_47]; exact hm.2.1.up h_47
        have v_47_ra := hm.2.2.1.ne h_47 (by omega)
        have v_47_na := hm.2.2.2.1.ne h_47 (by omega)
        have v_47_ba := hm.2.2.2.2.ne h_47 (by omega)
        refine cq_aload_n F (i := 2) dL_lights_48 rfl rfl ?_
        refine cq_iconst F (v := 2) dL_lights_49 rfl ?_
        refine cq_dup2 F dL_lights_50 rfl rfl ?_
        refine cq_iald_j F (j := 2) hn0.1 hn0.2 rfl ⟨(by omega), by decide⟩ dL_lights_51 ?_
        rw [v_47_na _ (by omega)]
        refine cq_iconst F (v := 1) dL_lights_52 rfl ?_
        refine cq_iadd F dL_lights_53 ?_
        rw [show (nI (n (2)) + 1 : Int32) = nI ((n (2)) + 1) from nI_add _ _]
        refine cq_iast_j F (j := 2) hn0.1 hn0.2 rfl ⟨(by omega), by decide⟩ dL_lights_54 (fun M_54 h_54 => ?_)
        have v_54_ta := v_47_ta.ne h_54 (by omega)
        have v_54_ca := v_47_ca.ne h_54 (by omega)
        have v_54_ra := v_47_ra.ne h_54 (by omega)
        obtain ⟨g_54, eg_54⟩ : ∃ z, z = ns_up n (2) (((n (2)) + 1)) := ⟨_, rfl⟩
        have v_54_na : cq_nv M_54 na 9 g_54 := by rw [eg_54]; exact v_47_na.up h_54
        have v_54_ba := v_47_ba.ne h_54 (by omega)
        refine cq_aload_n F (i := 3) dL_lights_55 rfl rfl ?_
        refine cq_aload_n F (i := 2) dL_lights_56 rfl rfl ?_
        refine cq_iload F dL_lights_57 rfl ?_
        refine cq_iload F dL_lights_59 rfl ?_
        refine cq_callS F (kL_writes l D cA X Bs ba na s i b g_54 M_54 hb0 hn0 v_54_ba v_54_na (by omega) (by rw [eg_54, ns_up_n (by omega)]; exact hn8)) (va_cwS 4 F.1.2.2.2.2 gL_lights_L_writes rfl rfl rfl hdVL_writes.2 ⟨Nat.le_of_ble_eq_true rfl, Nat.le_of_ble_eq_true rfl⟩) rfl (Nat.le_of_ble_eq_true rfl) dL_lights_61 ⟨Nat.le_of_ble_eq_true rfl, Nat.le_of_ble_eq_true rfl⟩ (cq_kV fun M_61 h_61 => ?_)
        refine cq_iload F dL_lights_64 rfl ?_
        refine cq_zret F hr (by rfl) (by decide) (by decide) dL_lights_66 ⟨_, rfl, ?_⟩
        have hcan : ns_canLight g i (ls_x s) := ⟨by omega, by rw [← hbit]; omega⟩
        refine ⟨(if_pos hcan).symm, ?_, fun x x1 x2 x3 x4 => by rw [h_61.2.2 x x4 x3, h_54, cq_up_row x3, h_47, cq_up_row x1]⟩
        rw [if_pos hcan]
        have h9 := h.light hk hi hs hcan
        refine ⟨t, _, r, _, _, ⟨v_47_ta.same (fun j => ?_), v_47_ca.same (fun j => ?_), v_47_ra.same (fun j => ?_), h_61.2.1, h_61.1⟩, ?_⟩
        · rw [h_61.2.2 _ (by omega) (by omega), h_54, cq_up_row (by omega)]
        · rw [h_61.2.2 _ (by omega) (by omega), h_54, cq_up_row (by omega)]
        · rw [h_61.2.2 _ (by omega) (by omega), h_54, cq_up_row (by omega)]
        · rw [eg_47, eg_54, ns_up_n (show 0 ≠ 2 by omega)]
          exact h9
theorem hdVL_lights : yL_lights.cls = RL ∧ yL_lights.cls ≠ "java/lang/invoke/MethodHandle" ∧ yL_lights.cls ≠ "java/lang/invoke/VarHandle" ∧ (parseMethodDescriptor yL_lights.desc).map (fun d => d.parameters.length) = some 6 := by decide +kernel
abbrev rmL_copy : Room := ({ frames := 0, cells := 0, slots := 0, locals := 0 })
set_option maxHeartbeats 4000000 in
set_option maxRecDepth 100000 in
theorem kL_copy (l : Launch) (D : va_G) (cA : Nat → ClassId) (X : cq_X) (Bs : Nat) (fa da zz : Nat) (f : Nat → Nat) (M : cq_M) (hf0 : lq_row X fa zz) (hd0 : lq_row X da zz) (hz : zz < 1000) (hvf : cq_nv M fa zz f) (hne : fa ≠ da) : cq_C l yL_copy wsL_copy rmL_copy D cA X Bs [.ref fa, .ref da] M (cq_PV (fun M1 => cq_nv M1 da zz f ∧ ∀ x, x ≠ da → M1 x = M x)) 0 0 := by
  refine cq_met (cc := cL_copy) (maxL := 3) (ret := none) (by decide) rfl (Nat.le_of_ble_eq_true rfl) [(0, .ref fa), (1, .ref da)] rfl rfl ?_
  intro p9 e9 s9 m9 b9 t9 c9 F hr
  have loop_2 : ∀ (n_2 : Nat) (k : Nat) (M2 : cq_M), k ≤ zz → (∀ j, j < k → M2 da j = nI (f j)) → (∀ x, x ≠ da → M2 x = M x) → zz - k < n_2 → cq_V p9 l e9 rmL_copy s9 m9 ([.ref fa, .ref da] : List Value).toArray b9 t9 c9 D cA X Bs 3 (0) (0) (MQ b9 (cq_Q D cA X Bs (cq_PV (fun M1 => cq_nv M1 da zz f ∧ ∀ x, x ≠ da → M1 x = M x))) ([.ref fa, .ref da] : List Value).toArray s9 0 0 (cq_A Bs)) 2 [(0, .ref fa), (1, .ref da), (2, .int (nI k))] [] M2 := by
    intro n_2
    induction n_2 with
    | zero =>
      intros
      omega
    | succ n_2 ih_2 =>
      intro k M2 hk hd2 hf2 hn
      have hvf2 : cq_nv M2 fa zz f := hvf.same (fun j => congrFun (hf2 fa hne) j)
      refine cq_iload_n F (i := 2) dL_copy_2 rfl rfl ?_
      refine cq_aload_n F (i := 0) dL_copy_3 rfl rfl ?_
      refine cq_alenI F hf0.1 hf0.2 dL_copy_4 ?_
      refine cq_icmp_ge F (tgt := 20) dL_copy_5 (by decide) (fun c_5 => ?_) (fun c_5 => ?_)
      · have c_5 : zz ≤ k := (nI_b (a := zz) (b := k) (by omega) (by omega)).1.mp c_5
        exact cq_vret F hr (by decide) (by decide) dL_copy_20 ⟨rfl, ⟨fun j hj => hd2 j (by omega), hf2⟩⟩
      · have c_5 : ¬ zz ≤ k := fun z => c_5 ((nI_b (a := zz) (b := k) (by omega) (by omega)).1.mpr z)
        refine cq_aload_n F (i := 1) dL_copy_8 rfl rfl ?_
        refine cq_iload_n F (i := 2) dL_copy_9 rfl rfl ?_
        refine cq_aload_n F (i := 0) dL_copy_10 rfl rfl ?_
        refine cq_iload_n F (i := 2) dL_copy_11 rfl rfl ?_
        refine cq_iald_j F (j := k) hf0.1 hf0.2 rfl ⟨(by omega), by omega⟩ dL_copy_12 ?_
        rw [hvf2 _ (by omega)]
        refine cq_iast_j F (j := k) hd0.1 hd0.2 rfl ⟨(by omega), by omega⟩ dL_copy_13 (fun M_13 h_13 => ?_)
        have v_13_fa := hvf2.ne h_13 (by omega)
        refine cq_iinc F dL_copy_14 rfl (by decide) (fun x_14 e_14 => ?_)
        obtain rfl : x_14 = nI (k + 1) := by rw [e_14]; exact nI_1 _
        refine cq_goto F (tgt := 2) dL_copy_17 (by decide) ?_
        refine cq_loc (L2 := [(0, .ref fa), (1, .ref da), (2, .int (nI (k + 1)))]) rfl ?_
        exact ih_2 (k + 1) M_13 (by omega) (cp_fill hd2 h_13) (fun x hx => by rw [h_13, cq_up_row hx]; exact hf2 x hx) (by omega)
  refine cq_iconst F (v := 0) dL_copy_0 rfl ?_
  refine cq_istore_n F (i := 2) dL_copy_1 rfl (by decide) ?_
  refine cq_loc (L2 := [(0, .ref fa), (1, .ref da), (2, .int (nI 0))]) rfl ?_
  exact loop_2 (zz + 1) 0 M (by omega) (fun j hj => absurd hj (by omega)) (fun _ _ => rfl) (by omega)
theorem hdVL_copy : yL_copy.cls = RL ∧ yL_copy.cls ≠ "java/lang/invoke/MethodHandle" ∧ yL_copy.cls ≠ "java/lang/invoke/VarHandle" ∧ (parseMethodDescriptor yL_copy.desc).map (fun d => d.parameters.length) = some 2 := by decide +kernel
