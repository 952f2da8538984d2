/-! the texts of the entries; CordClockModel: digitsOf, tail, entryAt, entry -/
/-- how many digits, 0 has none -/
def en_l0 (n : Nat) : Nat := if n = 0 then 0 else 1 + en_l0 (n / 10)
termination_by n
decreasing_by exact Nat.div_lt_self (by omega) (by decide)
theorem en_l0_s {n : Nat} (h : n ≠ 0) : en_l0 n = 1 + en_l0 (n / 10) := by rw [en_l0, if_neg h]
theorem en_l0_z : en_l0 0 = 0 := by rw [en_l0, if_pos rfl]
theorem en_l0_le : ∀ (k n : Nat), n < 10 ^ k → en_l0 n ≤ k
  | 0, n, h => by
    have h1 : n < 1 := h
    have : n = 0 := by omega
    rw [this, en_l0_z]
    omega
  | k + 1, n, h => by
    by_cases e : n = 0
    · rw [e, en_l0_z]; omega
    · have h2 : n < 10 ^ k * 10 := by rw [← Nat.pow_succ]; exact h
      have := en_l0_le k (n / 10) (by omega)
      rw [en_l0_s e]
      omega
def en_len (n : Nat) : Nat := 1 + en_l0 (n / 10)
theorem en_len_le {n k : Nat} (h : n < 10 ^ (k + 1)) : en_len n ≤ k + 1 := by
  have h2 : n < 10 ^ k * 10 := by rw [← Nat.pow_succ]; exact h
  have := en_l0_le k (n / 10) (by omega)
  unfold en_len
  omega
/-- a character of a blank, the cord, "@" and the step; -1: past the end -/
def en_tl (c n i : Nat) : Int32 := if i = 0 then 32 else if i = 1 then nI (48 + c) else if i = 2 then 64 else if i - 3 < en_len n then nI (48 + n / 10 ^ (en_len n - 1 - (i - 3)) % 10) else -1
/-- a character of an entry -/
def en_at (k c n i : Nat) : Int32 := if k = 2 then (if i ≤ 2 then (if i = 0 then 111 else if i = 1 then 117 else 116) else en_tl c n (i - 3)) else if i ≤ 4 then (if i = 0 then 108 else if i = 1 then 105 else if i = 2 then 116 else if i = 3 then 32 else if k = 0 then 76 else 82) else en_tl c n (i - 5)
def op_entry (S : as_T) (a i : Int32) : op_T := if 0 ≤ a ∧ 0 ≤ i then (0, (if a < nI (S_g S 84) then en_at (S_g S (85 + 3 * a.toNatClampNeg)) (S_g S (87 + 3 * a.toNatClampNeg)) (S_g S (86 + 3 * a.toNatClampNeg)) i.toNatClampNeg else -1), S) else (1, 0, S)
abbrev rmX7_digitsOf : Room := ({ frames := 0, cells := 0, slots := 0, locals := 0 })
set_option maxHeartbeats 4000000 in
set_option maxRecDepth 100000 in
theorem kX7_digitsOf (l : Launch) (D : va_G) (cA : Nat → ClassId) (X : cq_X) (Bs : Nat) (n : Nat) (M : cq_M) (hn0 : n < 2147483648) : cq_C l yX7_digitsOf wsX7_digitsOf rmX7_digitsOf D cA X Bs [.int (nI n)] M (cq_PI (fun r1 M1 => r1 = nI (en_len n) ∧ M1 = M)) 0 0 := by
  refine cq_met (cc := cX7_digitsOf) (maxL := 3) (ret := (some .int)) (by decide) rfl (Nat.le_of_ble_eq_true rfl) [(0, .int (nI n))] rfl rfl ?_
  intro p9 e9 s9 m9 b9 t9 c9 F hr
  have loop_7 : ∀ (n_7 : Nat) (d r : Nat), r < 2147483648 → d + en_l0 r = en_len n → r < n_7 → cq_V p9 l e9 rmX7_digitsOf s9 m9 ([.int (nI n)] : List Value).toArray b9 t9 c9 D cA X Bs 3 0 0 (MQ b9 (cq_Q D cA X Bs (cq_PI (fun r1 M1 => r1 = nI (en_len n) ∧ M1 = M))) ([.int (nI n)] : List Value).toArray s9 0 0 (cq_A Bs)) 7 [(0, .int (nI n)), (1, .int (nI d)), (2, .int (nI r))] [] M := by
    intro n_7
    induction n_7 with
    | zero =>
      intros
      omega
    | succ n_7 ih_7 =>
      intro d r hr0 hd hn
      refine cq_iload_n F (i := 2) dX7_digitsOf_7 rfl rfl ?_
      refine cq_if_le F (tgt := 22) dX7_digitsOf_8 (by decide) (fun c_8 => ?_) (fun c_8 => ?_)
      · have c_8 : r ≤ 0 := (nI_b (a := r) (b := 0) (by omega) (by omega)).1.mp c_8
        refine cq_iload_n F (i := 1) dX7_digitsOf_22 rfl rfl ?_
        refine cq_iret F hr (by decide) (by decide) dX7_digitsOf_23 ⟨_, rfl, ?_⟩
        obtain rfl : r = 0 := by omega
        rw [en_l0_z] at hd
        obtain rfl : d = en_len n := by omega
        exact ⟨rfl, rfl⟩
      · have c_8 : ¬ r ≤ 0 := fun z => c_8 ((nI_b (a := r) (b := 0) (by omega) (by omega)).1.mpr z)
        refine cq_iinc F dX7_digitsOf_11 rfl (by decide) (fun x_11 e_11 => ?_)
        obtain rfl : x_11 = nI (d + 1) := by rw [e_11]; exact nI_1 _
        refine cq_iload_n F (i := 2) dX7_digitsOf_14 rfl rfl ?_
        refine cq_bipush F (v := 10) dX7_digitsOf_15 (by decide) ?_
        refine cq_idiv F dX7_digitsOf_17 (by decide) ?_
        rw [show (nI r / 10 : Int32) = nI (r / 10) from pk_div (a := r) (d := 10) (by omega) (by decide) (by decide)]
        refine cq_istore_n F (i := 2) dX7_digitsOf_18 rfl (by decide) ?_
        refine cq_goto F (tgt := 7) dX7_digitsOf_19 (by decide) ?_
        refine cq_loc (L2 := [(0, .int (nI n)), (1, .int (nI (d + 1))), (2, .int (nI (r / 10)))]) rfl ?_
        exact ih_7 (d + 1) (r / 10) (by omega) (by rw [← hd, en_l0_s (n := r) (by omega)]; omega) (by have := Nat.div_lt_self (n := r) (k := 10) (by omega) (by decide); omega)
  refine cq_iconst F (v := 1) dX7_digitsOf_0 rfl ?_
  refine cq_istore_n F (i := 1) dX7_digitsOf_1 rfl (by decide) ?_
  refine cq_iload_n F (i := 0) dX7_digitsOf_2 rfl rfl ?_
  refine cq_bipush F (v := 10) dX7_digitsOf_3 (by decide) ?_
  refine cq_idiv F dX7_digitsOf_5 (by decide) ?_
  rw [show (nI n / 10 : Int32) = nI (n / 10) from pk_div (a := n) (d := 10) (by omega) (by decide) (by decide)]
  refine cq_istore_n F (i := 2) dX7_digitsOf_6 rfl (by decide) ?_
  refine cq_loc (L2 := [(0, .int (nI n)), (1, .int (nI 1)), (2, .int (nI (n / 10)))]) rfl ?_
  exact loop_7 (n + 1) 1 (n / 10) (by omega) rfl (by omega)
theorem hdVX7_digitsOf : yX7_digitsOf.cls = RX7 ∧ yX7_digitsOf.cls ≠ "java/lang/invoke/MethodHandle" ∧ yX7_digitsOf.cls ≠ "java/lang/invoke/VarHandle" ∧ (parseMethodDescriptor yX7_digitsOf.desc).map (fun d => d.parameters.length) = some 1 := by decide +kernel
abbrev rmX7_tail : Room := ({ frames := 1, cells := 0, slots := 0, locals := 22 })
set_option maxHeartbeats 4000000 in
set_option maxRecDepth 100000 in
theorem kX7_tail (l : Launch) (D : va_G) (cA : Nat → ClassId) (X : cq_X) (Bs : Nat) (o a i : Nat) (g : Nat → Nat) (M : cq_M) (ho : cq_isModel X o) (hg : cq_nv M (o + 1) 109 g) (ha : a + 2 < 109) (hi : i < 2147483648) (hs : g (a + 1) < 2147483648) (hc : g (a + 2) < 4) : cq_C l yX7_tail wsX7_tail rmX7_tail D cA X Bs [.ref o, .int (nI a), .int (nI i)] M (cq_PI (fun r1 M1 => r1 = en_tl (g (a + 2)) (g (a + 1)) i ∧ M1 = M)) 0 0 := by
  refine cq_met (cc := cX7_tail) (maxL := 6) (ret := (some .int)) (by decide) rfl (Nat.le_of_ble_eq_true rfl) [(0, .ref o), (1, .int (nI a)), (2, .int (nI i))] rfl rfl ?_
  intro p9 e9 s9 m9 b9 t9 c9 F hr
  have inX7 : ∀ w ∈ wsX70, w ∈ wsX7_tail := (fun w h => List.mem_cons_of_mem _ (List.mem_append_right _ h))
  have hle := en_len_le (n := g (a + 1)) (k := 9) (by omega)
  have loop_66 : ∀ (n_66 : Nat) (s k : Nat), 3 ≤ i ∧ i - 3 < en_len (g (a + 1)) → i - 3 ≤ k ∧ k ≤ en_len (g (a + 1)) - 1 → s = g (a + 1) / 10 ^ (k - (i - 3)) → en_len (g (a + 1)) - k < n_66 → cq_V p9 l e9 rmX7_tail s9 m9 ([.ref o, .int (nI a), .int (nI i)] : List Value).toArray b9 t9 c9 D cA X Bs 6 0 0 (MQ b9 (cq_Q D cA X Bs (cq_PI (fun r1 M1 => r1 = en_tl (g (a + 2)) (g (a + 1)) i ∧ M1 = M))) ([.ref o, .int (nI a), .int (nI i)] : List Value).toArray s9 0 0 (cq_A Bs)) 66 [(0, .ref o), (1, .int (nI a)), (2, .int (nI i)), (3, .int (nI s)), (4, .int (nI (en_len (g (a + 1))))), (5, .int (nI k))] [] M := by
    intro n_66
    induction n_66 with
    | zero =>
      intros
      omega
    | succ n_66 ih_66 =>
      intro s k hi3 hk hse hn
      have hs1 : s ≤ g (a + 1) := by rw [hse]; exact Nat.div_le_self _ _
      refine cq_iload F dX7_tail_66 rfl ?_
      refine cq_iload F dX7_tail_68 rfl ?_
      refine cq_iconst F (v := 1) dX7_tail_70 rfl ?_
      refine cq_isub F dX7_tail_71 ?_
      rw [show (nI (en_len (g (a + 1))) - 1 : Int32) = nI ((en_len (g (a + 1))) - 1) from pk_sub (a := (en_len (g (a + 1)))) (b := 1) (by unfold en_len; omega)]
      refine cq_icmp_ge F (tgt := 86) dX7_tail_72 (by decide) (fun c_72 => ?_) (fun c_72 => ?_)
      · have c_72 : ((en_len (g (a + 1))) - 1) ≤ k := (nI_b (a := ((en_len (g (a + 1))) - 1)) (b := k) (by omega) (by omega)).1.mp c_72
        refine cq_bipush F (v := 48) dX7_tail_86 (by decide) ?_
        refine cq_iload_n F (i := 3) dX7_tail_88 rfl rfl ?_
        refine cq_bipush F (v := 10) dX7_tail_89 (by decide) ?_
        refine cq_irem F dX7_tail_91 (by decide) ?_
        rw [show (nI s - nI s / 10 * 10 : Int32) = nI (s % 10) from pk_rem (d := 10) (by omega) (by omega) (by omega)]
        refine cq_iadd F dX7_tail_92 ?_
        rw [show (48 + nI (s % 10) : Int32) = nI (48 + (s % 10)) from nI_add _ _]
        refine cq_iret F hr (by decide) (by decide) dX7_tail_93 ⟨_, rfl, ?_⟩
        refine ⟨?_, rfl⟩
        unfold en_tl
        obtain rfl : k = en_len (g (a + 1)) - 1 := by omega
        rw [if_neg (by omega), if_neg (by omega), if_neg (by omega), if_pos hi3.2, hse]
      · have c_72 : ¬ ((en_len (g (a + 1))) - 1) ≤ k := fun z => c_72 ((nI_b (a := ((en_len (g (a + 1))) - 1)) (b := k) (by omega) (by omega)).1.mpr z)
        refine cq_iload_n F (i := 3) dX7_tail_75 rfl rfl ?_
        refine cq_bipush F (v := 10) dX7_tail_76 (by decide) ?_
        refine cq_idiv F dX7_tail_78 (by decide) ?_
        rw [show (nI s / 10 : Int32) = nI (s / 10) from pk_div (a := s) (d := 10) (by omega) (by decide) (by decide)]
        refine cq_istore_n F (i := 3) dX7_tail_79 rfl (by decide) ?_
        refine cq_iinc F dX7_tail_80 rfl (by decide) (fun x_80 e_80 => ?_)
        obtain rfl : x_80 = nI (k + 1) := by rw [e_80]; exact nI_1 _
        refine cq_goto F (tgt := 66) dX7_tail_83 (by decide) ?_
        refine cq_loc (L2 := [(0, .ref o), (1, .int (nI a)), (2, .int (nI i)), (3, .int (nI (s / 10))), (4, .int (nI (en_len (g (a + 1))))), (5, .int (nI (k + 1)))]) rfl ?_
        exact ih_66 (s / 10) (k + 1) hi3 ⟨by omega, by omega⟩ (by rw [hse, show k + 1 - (i - 3) = (k - (i - 3)) + 1 by omega, Nat.pow_succ, Nat.div_div_eq_div_mul]) (by omega)
  refine cq_aload_n F (i := 0) dX7_tail_0 rfl rfl ?_
  refine cq_getT (t := (o + 1)) F (C := RX7) (T := TX7) (N := 22) (ci := 8) ho.kind rfl ⟨⟨by decide, by decide⟩, rfl⟩ inX7 0 (by decide) rfl rfl ho.t0 (F.1.2.2.2.2 _ (List.mem_of_getElem? (l := wsX7_tail) (i := 1) (a := .fieldLink RX7 7 "CordClockModel" "row" "[I") (by decide +kernel))) dX7_tail_1 ?_
  refine cq_iload_n F (i := 1) dX7_tail_4 rfl rfl ?_
  refine cq_iconst F (v := 1) dX7_tail_5 rfl ?_
  refine cq_iadd F dX7_tail_6 ?_
  rw [show (nI a + 1 : Int32) = nI (a + 1) from nI_add _ _]
  refine cq_iald_j F (j := (a + 1)) ho.k1 ho.n1 rfl ⟨(by omega), by decide⟩ dX7_tail_7 ?_
  rw [hg _ (by omega)]
  refine cq_istore_n F (i := 3) dX7_tail_8 rfl (by decide) ?_
  refine cq_iload_n F (i := 3) dX7_tail_9 rfl rfl ?_
  refine cq_callS F (kX7_digitsOf l D cA X Bs (g (a + 1)) M hs) (va_cwS 1 F.1.2.2.2.2 gX7_tail_X7_digitsOf rfl rfl rfl hdVX7_digitsOf.2 ⟨Nat.le_of_ble_eq_true rfl, Nat.le_of_ble_eq_true rfl⟩) rfl (Nat.le_of_ble_eq_true rfl) dX7_tail_10 ⟨Nat.le_of_ble_eq_true rfl, Nat.le_of_ble_eq_true rfl⟩ (cq_kIp fun r_10 h_10 => ?_)
  subst h_10
  refine cq_istore F dX7_tail_13 (by decide) ?_
  refine cq_iload_n F (i := 2) dX7_tail_15 rfl rfl ?_
  refine cq_iconst F (v := 3) dX7_tail_16 rfl ?_
  refine cq_icmp_ge F (tgt := 51) dX7_tail_17 (by decide) (fun c_17 => ?_) (fun c_17 => ?_)
  · have c_17 : 3 ≤ i := (nI_b (a := 3) (b := i) (by omega) (by omega)).1.mp c_17
    refine cq_iload_n F (i := 2) dX7_tail_51 rfl rfl ?_
    refine cq_iconst F (v := 3) dX7_tail_52 rfl ?_
    refine cq_isub F dX7_tail_53 ?_
    rw [show (nI i - 3 : Int32) = nI (i - 3) from pk_sub (a := i) (b := 3) (by omega)]
    refine cq_iload F dX7_tail_54 rfl ?_
    refine cq_icmp_lt F (tgt := 61) dX7_tail_56 (by decide) (fun c_56 => ?_) (fun c_56 => ?_)
    · have c_56 : (i - 3) < (en_len (g (a + 1))) := (nI_b (a := (i - 3)) (b := (en_len (g (a + 1)))) (by omega) (by omega)).2.1.mp c_56
      refine cq_iload_n F (i := 2) dX7_tail_61 rfl rfl ?_
      refine cq_iconst F (v := 3) dX7_tail_62 rfl ?_
      refine cq_isub F dX7_tail_63 ?_
      rw [show (nI i - 3 : Int32) = nI (i - 3) from pk_sub (a := i) (b := 3) (by omega)]
      refine cq_istore F dX7_tail_64 (by decide) ?_
      refine cq_loc (L2 := [(0, .ref o), (1, .int (nI a)), (2, .int (nI i)), (3, .int (nI (g (a + 1)))), (4, .int (nI (en_len (g (a + 1))))), (5, .int (nI (i - 3)))]) rfl ?_
      exact loop_66 (en_len (g (a + 1)) + 1) (g (a + 1)) (i - 3) ⟨by omega, by omega⟩ ⟨by omega, by omega⟩ (by rw [Nat.sub_self]; exact (Nat.div_one _).symm) (by omega)
    · have c_56 : ¬ (i - 3) < (en_len (g (a + 1))) := fun z => c_56 ((nI_b (a := (i - 3)) (b := (en_len (g (a + 1)))) (by omega) (by omega)).2.1.mpr z)
      refine cq_iconst F (v := (-1)) dX7_tail_59 rfl ?_
      refine cq_iret F hr (by decide) (by decide) dX7_tail_60 ⟨_, rfl, ?_⟩
      refine ⟨?_, rfl⟩
      unfold en_tl
      rw [if_neg (by omega), if_neg (by omega), if_neg (by omega), if_neg (by omega)]
  · have c_17 : ¬ 3 ≤ i := fun z => c_17 ((nI_b (a := 3) (b := i) (by omega) (by omega)).1.mpr z)
    refine cq_iload_n F (i := 2) dX7_tail_20 rfl rfl ?_
    refine cq_if_ne F (tgt := 29) dX7_tail_21 (by decide) (fun c_21 => ?_) (fun c_21 => ?_)
    · have c_21 : ¬ i = 0 := fun z => c_21 ((nI_b (a := i) (b := 0) (by omega) (by omega)).2.2.mpr z)
      refine cq_iload_n F (i := 2) dX7_tail_29 rfl rfl ?_
      refine cq_iconst F (v := 1) dX7_tail_30 rfl ?_
      refine cq_icmp_ne F (tgt := 48) dX7_tail_31 (by decide) (fun c_31 => ?_) (fun c_31 => ?_)
      · have c_31 : ¬ i = 1 := fun z => c_31 ((nI_b (a := i) (b := 1) (by omega) (by omega)).2.2.mpr z)
        refine cq_bipush F (v := 64) dX7_tail_48 (by decide) ?_
        refine cq_iret F hr (by decide) (by decide) dX7_tail_50 ⟨_, rfl, ?_⟩
        refine ⟨?_, rfl⟩
        unfold en_tl
        obtain rfl : i = 2 := by omega
        rfl
      · have c_31 : i = 1 := (nI_b (a := i) (b := 1) (by omega) (by omega)).2.2.mp c_31
        refine cq_bipush F (v := 48) dX7_tail_34 (by decide) ?_
        refine cq_aload_n F (i := 0) dX7_tail_36 rfl rfl ?_
        refine cq_getT (t := (o + 1)) F (C := RX7) (T := TX7) (N := 22) (ci := 8) ho.kind rfl ⟨⟨by decide, by decide⟩, rfl⟩ inX7 0 (by decide) rfl rfl ho.t0 (F.1.2.2.2.2 _ (List.mem_of_getElem? (l := wsX7_tail) (i := 1) (a := .fieldLink RX7 7 "CordClockModel" "row" "[I") (by decide +kernel))) dX7_tail_37 ?_
        refine cq_iload_n F (i := 1) dX7_tail_40 rfl rfl ?_
        refine cq_iconst F (v := 2) dX7_tail_41 rfl ?_
        refine cq_iadd F dX7_tail_42 ?_
        rw [show (nI a + 2 : Int32) = nI (a + 2) from nI_add _ _]
        refine cq_iald_j F (j := (a + 2)) ho.k1 ho.n1 rfl ⟨(by omega), by decide⟩ dX7_tail_43 ?_
        rw [hg _ (by omega)]
        refine cq_iadd F dX7_tail_44 ?_
        rw [show (48 + nI (g ((a + 2))) : Int32) = nI (48 + (g ((a + 2)))) from nI_add _ _]
        refine cq_goto F (tgt := 50) dX7_tail_45 (by decide) ?_
        refine cq_iret F hr (by decide) (by decide) dX7_tail_50 ⟨_, rfl, ?_⟩
        refine ⟨?_, rfl⟩
        unfold en_tl
        obtain rfl : i = 1 := by omega
        rfl
    · have c_21 : i = 0 := (nI_b (a := i) (b := 0) (by omega) (by omega)).2.2.mp c_21
      refine cq_bipush F (v := 32) dX7_tail_24 (by decide) ?_
      refine cq_goto F (tgt := 50) dX7_tail_26 (by decide) ?_
      refine cq_iret F hr (by decide) (by decide) dX7_tail_50 ⟨_, rfl, ?_⟩
      refine ⟨?_, rfl⟩
      unfold en_tl
      obtain rfl : i = 0 := by omega
      rfl
theorem hdVX7_tail : yX7_tail.cls = RX7 ∧ yX7_tail.cls ≠ "java/lang/invoke/MethodHandle" ∧ yX7_tail.cls ≠ "java/lang/invoke/VarHandle" ∧ (parseMethodDescriptor yX7_tail.desc).map (fun d => d.parameters.length) = some 2 := by decide +kernel
abbrev rmX7_entryAt : Room := ({ frames := 2, cells := 0, slots := 0, locals := 47 })
set_option maxHeartbeats 4000000 in
set_option maxRecDepth 100000 in
theorem kX7_entryAt (l : Launch) (D : va_G) (cA : Nat → ClassId) (X : cq_X) (Bs : Nat) (o a i : Nat) (g : Nat → Nat) (M : cq_M) (ho : cq_isModel X o) (hg : cq_nv M (o + 1) 109 g) (ha : a + 2 < 109) (hi : i < 2147483648) (hk : g a ≤ 2) (hs : g (a + 1) < 2147483648) (hc : g (a + 2) < 4) : cq_C l yX7_entryAt wsX7_entryAt rmX7_entryAt D cA X Bs [.ref o, .int (nI a), .int (nI i)] M (cq_PI (fun r1 M1 => r1 = en_at (g a) (g (a + 2)) (g (a + 1)) i ∧ M1 = M)) 0 0 := by
  refine cq_met (cc := cX7_entryAt) (maxL := 3) (ret := (some .int)) (by decide) rfl (Nat.le_of_ble_eq_true rfl) [(0, .ref o), (1, .int (nI a)), (2, .int (nI i))] rfl rfl ?_
  intro p9 e9 s9 m9 b9 t9 c9 F hr
  have inX7 : ∀ w ∈ wsX70, w ∈ wsX7_entryAt := (fun w h => List.mem_cons_of_mem _ (List.mem_append_right _ h))
  refine cq_aload_n F (i := 0) dX7_entryAt_0 rfl rfl ?_
  refine cq_getT (t := (o + 1)) F (C := RX7) (T := TX7) (N := 22) (ci := 8) ho.kind rfl ⟨⟨by decide, by decide⟩, rfl⟩ inX7 0 (by decide) rfl rfl ho.t0 (F.1.2.2.2.2 _ (List.mem_of_getElem? (l := wsX7_entryAt) (i := 1) (a := .fieldLink RX7 7 "CordClockModel" "row" "[I") (by decide +kernel))) dX7_entryAt_1 ?_
  refine cq_iload_n F (i := 1) dX7_entryAt_4 rfl rfl ?_
  refine cq_iald_j F (j := a) ho.k1 ho.n1 rfl ⟨(by omega), by decide⟩ dX7_entryAt_5 ?_
  rw [hg _ (by omega)]
  refine cq_iconst F (v := 2) dX7_entryAt_6 rfl ?_
  refine cq_icmp_ne F (tgt := 48) dX7_entryAt_7 (by decide) (fun c_7 => ?_) (fun c_7 => ?_)
  · have c_7 : ¬ (g (a)) = 2 := fun z => c_7 ((nI_b (a := (g (a))) (b := 2) (by omega) (by omega)).2.2.mpr z)
    refine cq_iload_n F (i := 2) dX7_entryAt_48 rfl rfl ?_
    refine cq_iconst F (v := 4) dX7_entryAt_49 rfl ?_
    refine cq_icmp_le F (tgt := 62) dX7_entryAt_50 (by decide) (fun c_50 => ?_) (fun c_50 => ?_)
    · have c_50 : i ≤ 4 := (nI_b (a := i) (b := 4) (by omega) (by omega)).1.mp c_50
      refine cq_iload_n F (i := 2) dX7_entryAt_62 rfl rfl ?_
      refine cq_if_ne F (tgt := 71) dX7_entryAt_63 (by decide) (fun c_63 => ?_) (fun c_63 => ?_)
      · have c_63 : ¬ i = 0 := fun z => c_63 ((nI_b (a := i) (b := 0) (by omega) (by omega)).2.2.mpr z)
        refine cq_iload_n F (i := 2) dX7_entryAt_71 rfl rfl ?_
        refine cq_iconst F (v := 1) dX7_entryAt_72 rfl ?_
        refine cq_icmp_ne F (tgt := 81) dX7_entryAt_73 (by decide) (fun c_73 => ?_) (fun c_73 => ?_)
        · have c_73 : ¬ i = 1 := fun z => c_73 ((nI_b (a := i) (b := 1) (by omega) (by omega)).2.2.mpr z)
          refine cq_iload_n F (i := 2) dX7_entryAt_81 rfl rfl ?_
          refine cq_iconst F (v := 2) dX7_entryAt_82 rfl ?_
          refine cq_icmp_ne F (tgt := 91) dX7_entryAt_83 (by decide) (fun c_83 => ?_) (fun c_83 => ?_)
          · have c_83 : ¬ i = 2 := fun z => c_83 ((nI_b (a := i) (b := 2) (by omega) (by omega)).2.2.mpr z)
            refine cq_iload_n F (i := 2) dX7_entryAt_91 rfl rfl ?_
            refine cq_iconst F (v := 3) dX7_entryAt_92 rfl ?_
            refine cq_icmp_ne F (tgt := 101) dX7_entryAt_93 (by decide) (fun c_93 => ?_) (fun c_93 => ?_)
            · have c_93 : ¬ i = 3 := fun z => c_93 ((nI_b (a := i) (b := 3) (by omega) (by omega)).2.2.mpr z)
              refine cq_aload_n F (i := 0) dX7_entryAt_101 rfl rfl ?_
              refine cq_getT (t := (o + 1)) F (C := RX7) (T := TX7) (N := 22) (ci := 8) ho.kind rfl ⟨⟨by decide, by decide⟩, rfl⟩ inX7 0 (by decide) rfl rfl ho.t0 (F.1.2.2.2.2 _ (List.mem_of_getElem? (l := wsX7_entryAt) (i := 1) (a := .fieldLink RX7 7 "CordClockModel" "row" "[I") (by decide +kernel))) dX7_entryAt_102 ?_
              refine cq_iload_n F (i := 1) dX7_entryAt_105 rfl rfl ?_
              refine cq_iald_j F (j := a) ho.k1 ho.n1 rfl ⟨(by omega), by decide⟩ dX7_entryAt_106 ?_
              rw [hg _ (by omega)]
              refine cq_if_ne F (tgt := 115) dX7_entryAt_107 (by decide) (fun c_107 => ?_) (fun c_107 => ?_)
              · have c_107 : ¬ (g (a)) = 0 := fun z => c_107 ((nI_b (a := (g (a))) (b := 0) (by omega) (by omega)).2.2.mpr z)
                refine cq_bipush F (v := 82) dX7_entryAt_115 (by decide) ?_
                refine cq_iret F hr (by decide) (by decide) dX7_entryAt_117 ⟨_, rfl, ?_⟩
                refine ⟨?_, rfl⟩
                unfold en_at
                rw [if_neg (by omega)]
                obtain rfl : i = 4 := by omega
                rw [if_pos (by omega), if_neg (by omega), if_neg (by omega), if_neg (by omega), if_neg (by omega), if_neg (by omega)]
              · have c_107 : (g (a)) = 0 := (nI_b (a := (g (a))) (b := 0) (by omega) (by omega)).2.2.mp c_107
                refine cq_bipush F (v := 76) dX7_entryAt_110 (by decide) ?_
                refine cq_goto F (tgt := 117) dX7_entryAt_112 (by decide) ?_
                refine cq_iret F hr (by decide) (by decide) dX7_entryAt_117 ⟨_, rfl, ?_⟩
                refine ⟨?_, rfl⟩
                unfold en_at
                rw [if_neg (by omega)]
                obtain rfl : i = 4 := by omega
                rw [if_pos (by omega), if_neg (by omega), if_neg (by omega), if_neg (by omega), if_neg (by omega), if_pos (by omega)]
            · have c_93 : i = 3 := (nI_b (a := i) (b := 3) (by omega) (by omega)).2.2.mp c_93
              refine cq_bipush F (v := 32) dX7_entryAt_96 (by decide) ?_
              refine cq_goto F (tgt := 117) dX7_entryAt_98 (by decide) ?_
              refine cq_iret F hr (by decide) (by decide) dX7_entryAt_117 ⟨_, rfl, ?_⟩
              refine ⟨?_, rfl⟩
              unfold en_at
              rw [if_neg (by omega)]
              obtain rfl : i = 3 := by omega
              rfl
          · have c_83 : i = 2 := (nI_b (a := i) (b := 2) (by omega) (by omega)).2.2.mp c_83
            refine cq_bipush F (v := 116) dX7_entryAt_86 (by decide) ?_
            refine cq_goto F (tgt := 117) dX7_entryAt_88 (by decide) ?_
            refine cq_iret F hr (by decide) (by decide) dX7_entryAt_117 ⟨_, rfl, ?_⟩
            refine ⟨?_, rfl⟩
            unfold en_at
            rw [if_neg (by omega)]
            obtain rfl : i = 2 := by omega
            rfl
        · have c_73 : i = 1 := (nI_b (a := i) (b := 1) (by omega) (by omega)).2.2.mp c_73
          refine cq_bipush F (v := 105) dX7_entryAt_76 (by decide) ?_
          refine cq_goto F (tgt := 117) dX7_entryAt_78 (by decide) ?_
          refine cq_iret F hr (by decide) (by decide) dX7_entryAt_117 ⟨_, rfl, ?_⟩
          refine ⟨?_, rfl⟩
          unfold en_at
          rw [if_neg (by omega)]
          obtain rfl : i = 1 := by omega
          rfl
      · have c_63 : i = 0 := (nI_b (a := i) (b := 0) (by omega) (by omega)).2.2.mp c_63
        refine cq_bipush F (v := 108) dX7_entryAt_66 (by decide) ?_
        refine cq_goto F (tgt := 117) dX7_entryAt_68 (by decide) ?_
        refine cq_iret F hr (by decide) (by decide) dX7_entryAt_117 ⟨_, rfl, ?_⟩
        refine ⟨?_, rfl⟩
        unfold en_at
        rw [if_neg (by omega)]
        obtain rfl : i = 0 := by omega
        rfl
    · have c_50 : ¬ i ≤ 4 := fun z => c_50 ((nI_b (a := i) (b := 4) (by omega) (by omega)).1.mpr z)
      refine cq_aload_n F (i := 0) dX7_entryAt_53 rfl rfl ?_
      refine cq_iload_n F (i := 1) dX7_entryAt_54 rfl rfl ?_
      refine cq_iload_n F (i := 2) dX7_entryAt_55 rfl rfl ?_
      refine cq_iconst F (v := 5) dX7_entryAt_56 rfl ?_
      refine cq_isub F dX7_entryAt_57 ?_
      rw [show (nI i - 5 : Int32) = nI (i - 5) from pk_sub (a := i) (b := 5) (by omega)]
      refine cq_callV F (C := RX7) (ci := 8) (kX7_tail l D cA X Bs o a (i - 5) g M ho hg (by omega) (by omega) (by omega) hc) (cwV 2 F.1.2.2.2.2 gX7_entryAt_X7_tail rfl rfl rfl hdVX7_tail ⟨Nat.le_of_ble_eq_true rfl, Nat.le_of_ble_eq_true rfl⟩) ho.kind ⟨by decide, by decide⟩ rfl rfl rfl (Nat.le_of_ble_eq_true rfl) dX7_entryAt_58 ⟨Nat.le_of_ble_eq_true rfl, Nat.le_of_ble_eq_true rfl⟩ (cq_kIp fun r_58 h_58 => ?_)
      refine cq_iret F hr (by decide) (by decide) dX7_entryAt_61 ⟨_, rfl, ?_⟩
      refine ⟨?_, rfl⟩
      unfold en_at
      rw [if_neg (by omega), if_neg (by omega), h_58]
  · have c_7 : (g (a)) = 2 := (nI_b (a := (g (a))) (b := 2) (by omega) (by omega)).2.2.mp c_7
    refine cq_iload_n F (i := 2) dX7_entryAt_10 rfl rfl ?_
    refine cq_iconst F (v := 2) dX7_entryAt_11 rfl ?_
    refine cq_icmp_le F (tgt := 26) dX7_entryAt_12 (by decide) (fun c_12 => ?_) (fun c_12 => ?_)
    · have c_12 : i ≤ 2 := (nI_b (a := i) (b := 2) (by omega) (by omega)).1.mp c_12
      refine cq_iload_n F (i := 2) dX7_entryAt_26 rfl rfl ?_
      refine cq_if_ne F (tgt := 35) dX7_entryAt_27 (by decide) (fun c_27 => ?_) (fun c_27 => ?_)
      · have c_27 : ¬ i = 0 := fun z => c_27 ((nI_b (a := i) (b := 0) (by omega) (by omega)).2.2.mpr z)
        refine cq_iload_n F (i := 2) dX7_entryAt_35 rfl rfl ?_
        refine cq_iconst F (v := 1) dX7_entryAt_36 rfl ?_
        refine cq_icmp_ne F (tgt := 45) dX7_entryAt_37 (by decide) (fun c_37 => ?_) (fun c_37 => ?_)
        · have c_37 : ¬ i = 1 := fun z => c_37 ((nI_b (a := i) (b := 1) (by omega) (by omega)).2.2.mpr z)
          refine cq_bipush F (v := 116) dX7_entryAt_45 (by decide) ?_
          refine cq_iret F hr (by decide) (by decide) dX7_entryAt_47 ⟨_, rfl, ?_⟩
          refine ⟨?_, rfl⟩
          unfold en_at
          rw [if_pos (by omega)]
          obtain rfl : i = 2 := by omega
          rfl
        · have c_37 : i = 1 := (nI_b (a := i) (b := 1) (by omega) (by omega)).2.2.mp c_37
          refine cq_bipush F (v := 117) dX7_entryAt_40 (by decide) ?_
          refine cq_goto F (tgt := 47) dX7_entryAt_42 (by decide) ?_
          refine cq_iret F hr (by decide) (by decide) dX7_entryAt_47 ⟨_, rfl, ?_⟩
          refine ⟨?_, rfl⟩
          unfold en_at
          rw [if_pos (by omega)]
          obtain rfl : i = 1 := by omega
          rfl
      · have c_27 : i = 0 := (nI_b (a := i) (b := 0) (by omega) (by omega)).2.2.mp c_27
        refine cq_bipush F (v := 111) dX7_entryAt_30 (by decide) ?_
        refine cq_goto F (tgt := 47) dX7_entryAt_32 (by decide) ?_
        refine cq_iret F hr (by decide) (by decide) dX7_entryAt_47 ⟨_, rfl, ?_⟩
        refine ⟨?_, rfl⟩
        unfold en_at
        rw [if_pos (by omega)]
        obtain rfl : i = 0 := by omega
        rfl
    · have c_12 : ¬ i ≤ 2 := fun z => c_12 ((nI_b (a := i) (b := 2) (by omega) (by omega)).1.mpr z)
      refine cq_aload_n F (i := 0) dX7_entryAt_15 rfl rfl ?_
      refine cq_iload_n F (i := 1) dX7_entryAt_16 rfl rfl ?_
      refine cq_iload_n F (i := 2) dX7_entryAt_17 rfl rfl ?_
      refine cq_iconst F (v := 3) dX7_entryAt_18 rfl ?_
      refine cq_isub F dX7_entryAt_19 ?_
      rw [show (nI i - 3 : Int32) = nI (i - 3) from pk_sub (a := i) (b := 3) (by omega)]
      refine cq_callV F (C := RX7) (ci := 8) (kX7_tail l D cA X Bs o a (i - 3) g M ho hg (by omega) (by omega) (by omega) hc) (cwV 2 F.1.2.2.2.2 gX7_entryAt_X7_tail rfl rfl rfl hdVX7_tail ⟨Nat.le_of_ble_eq_true rfl, Nat.le_of_ble_eq_true rfl⟩) ho.kind ⟨by decide, by decide⟩ rfl rfl rfl (Nat.le_of_ble_eq_true rfl) dX7_entryAt_20 ⟨Nat.le_of_ble_eq_true rfl, Nat.le_of_ble_eq_true rfl⟩ (cq_kIp fun r_20 h_20 => ?_)
      refine cq_goto F (tgt := 47) dX7_entryAt_23 (by decide) ?_
      refine cq_iret F hr (by decide) (by decide) dX7_entryAt_47 ⟨_, rfl, ?_⟩
      refine ⟨?_, rfl⟩
      unfold en_at
      rw [if_pos (by omega), if_neg (by omega), h_20]
theorem hdVX7_entryAt : yX7_entryAt.cls = RX7 ∧ yX7_entryAt.cls ≠ "java/lang/invoke/MethodHandle" ∧ yX7_entryAt.cls ≠ "java/lang/invoke/VarHandle" ∧ (parseMethodDescriptor yX7_entryAt.desc).map (fun d => d.parameters.length) = some 2 := by decide +kernel
abbrev rmX7_entry : Room := ({ frames := 3, cells := 0, slots := 0, locals := 69 })
set_option maxHeartbeats 4000000 in
set_option maxRecDepth 100000 in
theorem kX7_entry (l : Launch) (D : va_G) (cA : Nat → ClassId) (X : cq_X) (Bs : Nat) (o B : Nat) (S : as_T) (u v : Int32) (M : cq_M) (ho : cq_isModel X o) (h : cm M o S) (hk : as_ok S B) (hB : B < 10000000) : cq_C l yX7_entry wsX7_entry rmX7_entry D cA X Bs [.ref o, .int u, .int v] M (cq_PI (fun r M1 => mq (op_entry S u v) r M M1 o)) 0 0 := by
  refine cq_met (cc := cX7_entry) (maxL := 3) (ret := (some .int)) (by decide) rfl (Nat.le_of_ble_eq_true rfl) [(0, .ref o), (1, .int u), (2, .int v)] rfl rfl ?_
  intro p9 e9 s9 m9 b9 t9 c9 F hr
  have inX7 : ∀ w ∈ wsX70, w ∈ wsX7_entry := (fun w h => List.mem_cons_of_mem _ (List.mem_append_right _ h))
  have hk84 := hk.1.2.2.1
  refine cq_aload_n F (i := 0) dX7_entry_0 rfl rfl ?_
  refine cq_iconst F (v := 0) dX7_entry_1 rfl ?_
  refine cq_put F (C := RX7) (T := TX7) (N := 22) (ci := 8) ho.kind rfl ⟨⟨by decide, by decide⟩, rfl⟩ inX7 tyX7 tyX7_ok nmX7 6 (by decide) rfl rfl (F.1.2.2.2.2 _ (List.mem_of_getElem? (l := wsX7_entry) (i := 1) (a := .fieldLink RX7 53 "CordClockModel" "thrown" "I") (by decide +kernel))) rfl (by rfl) (by rfl) dX7_entry_2 (fun M_2 h_2 => ?_)
  have v_2_o1 := h.1.ne h_2 (by omega)
  have q2 := h.o h_2 (by omega) (by omega)
  have f2 : cr_fr M M_2 o 15 := cr_fr.rf.up h_2 (by omega) (by omega)
  refine cq_iload_n F (i := 1) dX7_entry_5 rfl rfl ?_
  refine cq_if_lt F (tgt := 13) dX7_entry_6 (by decide) (fun c_6 => ?_) (fun c_6 => ?_)
  · refine cq_aload_n F (i := 0) dX7_entry_13 rfl rfl ?_
    refine cq_iconst F (v := 1) dX7_entry_14 rfl ?_
    refine cq_callV F (C := RX7) (ci := 8) (kX7_fails l D cA X Bs o 1 M_2 ho) (cwV 1 F.1.2.2.2.2 gX7_entry_X7_fails rfl rfl rfl hdVX7_fails ⟨Nat.le_of_ble_eq_true rfl, Nat.le_of_ble_eq_true rfl⟩) ho.kind ⟨by decide, by decide⟩ rfl rfl rfl (Nat.le_of_ble_eq_true rfl) dX7_entry_15 ⟨Nat.le_of_ble_eq_true rfl, Nat.le_of_ble_eq_true rfl⟩ (cq_kI fun r_15 M_15 h_15 => ?_)
    obtain ⟨hr_15, h_15⟩ := h_15
    subst hr_15
    refine cq_iret F hr (by decide) (by decide) dX7_entry_18 ⟨_, rfl, ?_⟩
    have e : op_entry S u v = (1, 0, S) := if_neg (fun z => absurd c_6 (Int32.not_lt.mpr z.1))
    rw [e]
    exact ⟨by rw [h_15]; exact cq_up_s _ _ _ _, fun z => absurd (show (1 : Nat) = 0 from z) (by decide), q2.o h_15 (by omega) (by omega), f2.up h_15 (by omega) (by omega)⟩
  · refine cq_iload_n F (i := 2) dX7_entry_9 rfl rfl ?_
    refine cq_if_ge F (tgt := 19) dX7_entry_10 (by decide) (fun c_10 => ?_) (fun c_10 => ?_)
    · refine cq_iload_n F (i := 1) dX7_entry_19 rfl rfl ?_
      refine cq_aload_n F (i := 0) dX7_entry_20 rfl rfl ?_
      refine cq_getT (t := (o + 1)) F (C := RX7) (T := TX7) (N := 22) (ci := 8) ho.kind rfl ⟨⟨by decide, by decide⟩, rfl⟩ inX7 0 (by decide) rfl rfl ho.t0 (F.1.2.2.2.2 _ (List.mem_of_getElem? (l := wsX7_entry) (i := 2) (a := .fieldLink RX7 7 "CordClockModel" "row" "[I") (by decide +kernel))) dX7_entry_21 ?_
      refine cq_bipush F (v := 84) dX7_entry_24 (by decide) ?_
      refine cq_iald_j F (j := 84) ho.k1 ho.n1 rfl ⟨(by omega), by decide⟩ dX7_entry_26 ?_
      rw [v_2_o1 _ (by omega)]
      refine cq_icmp_ge F (tgt := 44) dX7_entry_27 (by decide) (fun c_27 => ?_) (fun c_27 => ?_)
      · refine cq_iconst F (v := (-1)) dX7_entry_44 rfl ?_
        refine cq_iret F hr (by decide) (by decide) dX7_entry_45 ⟨_, rfl, ?_⟩
        exact mq_q (by unfold op_entry; rw [if_pos ⟨Int32.not_lt.mp c_6, c_10⟩]) (by rw [if_neg (fun z => absurd z (Int32.not_lt.mpr c_27))]) (by rw [h_2]; exact cq_up_s _ _ _ _) q2 f2
      · have c_27b := Int32.not_le.mp c_27
        obtain ⟨a, ha, rfl⟩ := nI_cd (n := S_g S 84) (by omega) ⟨Int32.not_lt.mp c_6, c_27b⟩
        obtain ⟨i, hi, rfl⟩ := nI_of (Int32.not_lt.mpr c_10)
        have hz := hk.1.2.2.2.2.2.1 a ha
        have hB2 := hk.1.2.2.2.2.2.2.1
        refine cq_aload_n F (i := 0) dX7_entry_30 rfl rfl ?_
        refine cq_bipush F (v := 85) dX7_entry_31 (by decide) ?_
        refine cq_iconst F (v := 3) dX7_entry_33 rfl ?_
        refine cq_iload_n F (i := 1) dX7_entry_34 rfl rfl ?_
        refine cq_imul F dX7_entry_35 ?_
        rw [show (3 * nI a : Int32) = nI (3 * a) from pk_mul _ _]
        refine cq_iadd F dX7_entry_36 ?_
        rw [show (85 + nI (3 * a) : Int32) = nI (85 + 3 * a) from nI_add _ _]
        refine cq_iload_n F (i := 2) dX7_entry_37 rfl rfl ?_
        refine cq_callV F (C := RX7) (ci := 8) (kX7_entryAt l D cA X Bs o (85 + 3 * a) i (S_g S) M_2 ho v_2_o1 (by omega) hi hz.1 (by rw [show 85 + 3 * a + 1 = 86 + 3 * a by omega]; omega) (by rw [show 85 + 3 * a + 2 = 87 + 3 * a by omega]; exact hz.2.2)) (cwV 2 F.1.2.2.2.2 gX7_entry_X7_entryAt rfl rfl rfl hdVX7_entryAt ⟨Nat.le_of_ble_eq_true rfl, Nat.le_of_ble_eq_true rfl⟩) ho.kind ⟨by decide, by decide⟩ rfl rfl rfl (Nat.le_of_ble_eq_true rfl) dX7_entry_38 ⟨Nat.le_of_ble_eq_true rfl, Nat.le_of_ble_eq_true rfl⟩ (cq_kIp fun r_38 h_38 => ?_)
        rw [show 85 + 3 * a + 1 = 86 + 3 * a by omega, show 85 + 3 * a + 2 = 87 + 3 * a by omega] at h_38
        refine cq_goto F (tgt := 45) dX7_entry_41 (by decide) ?_
        refine cq_iret F hr (by decide) (by decide) dX7_entry_45 ⟨_, rfl, ?_⟩
        have e9 : (nI a).toNatClampNeg = a := nI_clamp (by omega)
        have e8 : (nI i).toNatClampNeg = i := nI_clamp (by omega)
        exact mq_q (by unfold op_entry; rw [if_pos ⟨Int32.not_lt.mp c_6, c_10⟩]) (by rw [if_pos c_27b, e9, e8]; exact h_38) (by rw [h_2]; exact cq_up_s _ _ _ _) q2 f2
    · refine cq_aload_n F (i := 0) dX7_entry_13 rfl rfl ?_
      refine cq_iconst F (v := 1) dX7_entry_14 rfl ?_
      refine cq_callV F (C := RX7) (ci := 8) (kX7_fails l D cA X Bs o 1 M_2 ho) (cwV 1 F.1.2.2.2.2 gX7_entry_X7_fails rfl rfl rfl hdVX7_fails ⟨Nat.le_of_ble_eq_true rfl, Nat.le_of_ble_eq_true rfl⟩) ho.kind ⟨by decide, by decide⟩ rfl rfl rfl (Nat.le_of_ble_eq_true rfl) dX7_entry_15 ⟨Nat.le_of_ble_eq_true rfl, Nat.le_of_ble_eq_true rfl⟩ (cq_kI fun r_15 M_15 h_15 => ?_)
      obtain ⟨hr_15, h_15⟩ := h_15
      subst hr_15
      refine cq_iret F hr (by decide) (by decide) dX7_entry_18 ⟨_, rfl, ?_⟩
      have e : op_entry S u v = (1, 0, S) := if_neg (fun z => c_10 z.2)
      rw [e]
      exact ⟨by rw [h_15]; exact cq_up_s _ _ _ _, fun z => absurd (show (1 : Nat) = 0 from z) (by decide), q2.o h_15 (by omega) (by omega), f2.up h_15 (by omega) (by omega)⟩
theorem hdVX7_entry : yX7_entry.cls = RX7 ∧ yX7_entry.cls ≠ "java/lang/invoke/MethodHandle" ∧ yX7_entry.cls ≠ "java/lang/invoke/VarHandle" ∧ (parseMethodDescriptor yX7_entry.desc).map (fun d => d.parameters.length) = some 2 := by decide +kernel
