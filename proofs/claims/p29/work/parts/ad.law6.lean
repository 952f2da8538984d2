/-! the law follows a plan -/
abbrev rmL_fewest : Room := ({ frames := 0, cells := 0, slots := 0, locals := 0 })
set_option maxHeartbeats 4000000 in
set_option maxRecDepth 100000 in
theorem kL_fewest (l : Launch) (D : va_G) (cA : Nat → ClassId) (X : cq_X) (Bs : Nat) (fa ga t : Nat) (Y : Nat → Nat) (M : cq_M) (hf0 : lq_row X fa 55) (hg0 : lq_row X ga 55) (h : lk M fa ga Y) (ht : t < 1100) : cq_C l yL_fewest wsL_fewest rmL_fewest D cA X Bs [.ref fa, .ref ga, .int (nI t)] M (cq_PI (fun r M1 => r = nI (Y t) ∧ M1 = M)) 0 0 := by
  refine cq_met (cc := cL_fewest) (maxL := 4) (ret := (some .int)) (by decide) rfl (Nat.le_of_ble_eq_true rfl) [(0, .ref fa), (1, .ref ga), (2, .int (nI t))] rfl rfl ?_
  intro p9 e9 s9 m9 b9 t9 c9 F hr
  refine cq_iload_n F (i := 2) dL_fewest_0 rfl rfl ?_
  refine cq_bipush F (v := 10) dL_fewest_1 (by decide) ?_
  refine cq_idiv F dL_fewest_3 (by decide) ?_
  rw [show (nI t / 10 : Int32) = nI (t / 10) from pk_div (d := 10) (by omega) (by decide) (by decide)]
  refine cq_istore_n F (i := 3) dL_fewest_4 rfl (by decide) ?_
  refine cq_iload_n F (i := 3) dL_fewest_5 rfl rfl ?_
  refine cq_bipush F (v := 55) dL_fewest_6 (by decide) ?_
  refine cq_icmp_ge F (tgt := 17) dL_fewest_8 (by decide) (fun c_8 => ?_) (fun c_8 => ?_)
  · have c_8 : 55 ≤ (t / 10) := (nI_b (a := 55) (b := (t / 10)) (by omega) (by omega)).1.mp c_8
    refine cq_aload_n F (i := 1) dL_fewest_17 rfl rfl ?_
    refine cq_iload_n F (i := 3) dL_fewest_18 rfl rfl ?_
    refine cq_bipush F (v := 55) dL_fewest_19 (by decide) ?_
    refine cq_isub F dL_fewest_21 ?_
    rw [show (nI (t / 10) - 55 : Int32) = nI ((t / 10) - 55) from pk_sub (a := (t / 10)) (b := 55) (by omega)]
    refine cq_iald_j F (j := ((t / 10) - 55)) hg0.1 hg0.2 rfl ⟨(by omega), by decide⟩ dL_fewest_22 ?_
    refine cq_iconst F (v := 3) dL_fewest_23 rfl ?_
    refine cq_iload_n F (i := 2) dL_fewest_24 rfl rfl ?_
    refine cq_bipush F (v := 10) dL_fewest_25 (by decide) ?_
    refine cq_irem F dL_fewest_27 (by decide) ?_
    rw [show (nI t - nI t / 10 * 10 : Int32) = nI (t % 10) from pk_rem (d := 10) (by omega) (by omega) (by omega)]
    refine cq_imul F dL_fewest_28 ?_
    rw [show (3 * nI (t % 10) : Int32) = nI (3 * (t % 10)) from pk_mul _ _]
    refine cq_ishr F dL_fewest_29 ?_
    refine cq_bipush F (v := 7) dL_fewest_30 (by decide) ?_
    refine cq_iand F dL_fewest_32 ?_
    refine cq_iret F hr (by decide) (by decide) dL_fewest_33 ⟨_, rfl, ?_⟩
    have h9 := (h t ht).2
    unfold lk_w at h9
    first | (rw [if_neg (by omega)] at h9; exact ⟨h9, rfl⟩) | (rw [if_pos (by omega)] at h9; exact ⟨h9, rfl⟩)
  · have c_8 : ¬ 55 ≤ (t / 10) := fun z => c_8 ((nI_b (a := 55) (b := (t / 10)) (by omega) (by omega)).1.mpr z)
    refine cq_aload_n F (i := 0) dL_fewest_11 rfl rfl ?_
    refine cq_iload_n F (i := 3) dL_fewest_12 rfl rfl ?_
    refine cq_iald_j F (j := (t / 10)) hf0.1 hf0.2 rfl ⟨(by omega), by decide⟩ dL_fewest_13 ?_
    refine cq_goto F (tgt := 23) dL_fewest_14 (by decide) ?_
    refine cq_iconst F (v := 3) dL_fewest_23 rfl ?_
    refine cq_iload_n F (i := 2) dL_fewest_24 rfl rfl ?_
    refine cq_bipush F (v := 10) dL_fewest_25 (by decide) ?_
    refine cq_irem F dL_fewest_27 (by decide) ?_
    rw [show (nI t - nI t / 10 * 10 : Int32) = nI (t % 10) from pk_rem (d := 10) (by omega) (by omega) (by omega)]
    refine cq_imul F dL_fewest_28 ?_
    rw [show (3 * nI (t % 10) : Int32) = nI (3 * (t % 10)) from pk_mul _ _]
    refine cq_ishr F dL_fewest_29 ?_
    refine cq_bipush F (v := 7) dL_fewest_30 (by decide) ?_
    refine cq_iand F dL_fewest_32 ?_
    refine cq_iret F hr (by decide) (by decide) dL_fewest_33 ⟨_, rfl, ?_⟩
    have h9 := (h t ht).2
    unfold lk_w at h9
    first | (rw [if_neg (by omega)] at h9; exact ⟨h9, rfl⟩) | (rw [if_pos (by omega)] at h9; exact ⟨h9, rfl⟩)
theorem hdVL_fewest : yL_fewest.cls = RL ∧ yL_fewest.cls ≠ "java/lang/invoke/MethodHandle" ∧ yL_fewest.cls ≠ "java/lang/invoke/VarHandle" ∧ (parseMethodDescriptor yL_fewest.desc).map (fun d => d.parameters.length) = some 3 := by decide +kernel
abbrev rmL_tells : Room := ({ frames := 1, cells := 0, slots := 0, locals := 23 })
set_option maxHeartbeats 4000000 in
set_option maxRecDepth 100000 in
theorem kL_tells (l : Launch) (D : va_G) (cA : Nat → ClassId) (X : cq_X) (Bs : Nat) (fa ga t q : Nat) (Y : Nat → Nat) (M : cq_M) (hf0 : lq_row X fa 55) (hg0 : lq_row X ga 55) (h : lk M fa ga Y) (ht : t < 1100) (hq : 1 ≤ q ∧ q ≤ 7) (hne : fa < ga) : cq_C l yL_tells wsL_tells rmL_tells D cA X Bs [.ref fa, .ref ga, .int (nI t), .int (nI q)] M (cq_PV (fun M1 => lk M1 fa ga (ns_up Y t (if Y t = 0 ∨ q < Y t then q else Y t)) ∧ ∀ x, x ≠ fa → x ≠ ga → M1 x = M x)) 0 0 := by
  refine cq_met (cc := cL_tells) (maxL := 7) (ret := none) (by decide) rfl (Nat.le_of_ble_eq_true rfl) [(0, .ref fa), (1, .ref ga), (2, .int (nI t)), (3, .int (nI q))] rfl rfl ?_
  intro p9 e9 s9 m9 b9 t9 c9 F hr
  have hft := (h t ht).1
  refine cq_aload_n F (i := 0) dL_tells_0 rfl rfl ?_
  refine cq_aload_n F (i := 1) dL_tells_1 rfl rfl ?_
  refine cq_iload_n F (i := 2) dL_tells_2 rfl rfl ?_
  refine cq_callS F (kL_fewest l D cA X Bs fa ga t Y M hf0 hg0 h ht) (va_cwS 3 F.1.2.2.2.2 gL_tells_L_fewest rfl rfl rfl hdVL_fewest.2 ⟨Nat.le_of_ble_eq_true rfl, Nat.le_of_ble_eq_true rfl⟩) rfl (Nat.le_of_ble_eq_true rfl) dL_tells_3 ⟨Nat.le_of_ble_eq_true rfl, Nat.le_of_ble_eq_true rfl⟩ (cq_kIp fun r_3 h_3 => ?_)
  subst h_3
  refine cq_istore F dL_tells_6 (by decide) ?_
  refine cq_iload F dL_tells_8 rfl ?_
  refine cq_if_eq F (tgt := 19) dL_tells_10 (by decide) (fun c_10 => ?_) (fun c_10 => ?_)
  · have c_10 : (Y t) = 0 := (nI_b (a := (Y t)) (b := 0) (by omega) (by omega)).2.2.mp c_10
    refine cq_iload F dL_tells_19 rfl ?_
    refine cq_iload_n F (i := 3) dL_tells_21 rfl rfl ?_
    refine cq_ixor F dL_tells_22 ?_
    refine cq_iconst F (v := 3) dL_tells_23 rfl ?_
    refine cq_iload_n F (i := 2) dL_tells_24 rfl rfl ?_
    refine cq_bipush F (v := 10) dL_tells_25 (by decide) ?_
    refine cq_irem F dL_tells_27 (by decide) ?_
    rw [show (nI t - nI t / 10 * 10 : Int32) = nI (t % 10) from pk_rem (d := 10) (by omega) (by omega) (by omega)]
    refine cq_imul F dL_tells_28 ?_
    rw [show (3 * nI (t % 10) : Int32) = nI (3 * (t % 10)) from pk_mul _ _]
    refine cq_ishl F dL_tells_29 ?_
    refine cq_nmi (fun x_30 e_30 => ?_)
    refine cq_istore F dL_tells_30 (by decide) ?_
    refine cq_iload_n F (i := 2) dL_tells_32 rfl rfl ?_
    refine cq_bipush F (v := 10) dL_tells_33 (by decide) ?_
    refine cq_idiv F dL_tells_35 (by decide) ?_
    rw [show (nI t / 10 : Int32) = nI (t / 10) from pk_div (d := 10) (by omega) (by decide) (by decide)]
    refine cq_istore F dL_tells_36 (by decide) ?_
    refine cq_aload_n F (i := 0) dL_tells_38 rfl rfl ?_
    refine cq_iload F dL_tells_39 rfl ?_
    refine cq_bipush F (v := 55) dL_tells_41 (by decide) ?_
    refine cq_icmp_ge F (tgt := 51) dL_tells_43 (by decide) (fun c_43 => ?_) (fun c_43 => ?_)
    · have c_43 : 55 ≤ (t / 10) := (nI_b (a := 55) (b := (t / 10)) (by omega) (by omega)).1.mp c_43
      refine cq_iconst F (v := 0) dL_tells_51 rfl ?_
      refine cq_dup2 F dL_tells_52 rfl rfl ?_
      refine cq_iald_j F (j := 0) hf0.1 hf0.2 rfl ⟨(by omega), by decide⟩ dL_tells_53 ?_
      refine cq_iload F dL_tells_54 rfl ?_
      refine cq_bipush F (v := 55) dL_tells_56 (by decide) ?_
      refine cq_icmp_ge F (tgt := 66) dL_tells_58 (by decide) (fun c_58 => ?_) (fun c_58 => ?_)
      · have c_58 : 55 ≤ (t / 10) := (nI_b (a := 55) (b := (t / 10)) (by omega) (by omega)).1.mp c_58
        refine cq_iconst F (v := 0) dL_tells_66 rfl ?_
        refine cq_ixor F dL_tells_67 ?_
        refine cq_iast_j F (j := 0) hf0.1 hf0.2 rfl ⟨(by omega), by decide⟩ dL_tells_68 (fun M_68 h_68 => ?_)
        refine cq_aload_n F (i := 1) dL_tells_69 rfl rfl ?_
        refine cq_iload F dL_tells_70 rfl ?_
        refine cq_bipush F (v := 55) dL_tells_72 (by decide) ?_
        refine cq_icmp_ge F (tgt := 81) dL_tells_74 (by decide) (fun c_74 => ?_) (fun c_74 => ?_)
        · have c_74 : 55 ≤ (t / 10) := (nI_b (a := 55) (b := (t / 10)) (by omega) (by omega)).1.mp c_74
          refine cq_iload F dL_tells_81 rfl ?_
          refine cq_bipush F (v := 55) dL_tells_83 (by decide) ?_
          refine cq_isub F dL_tells_85 ?_
          rw [show (nI (t / 10) - 55 : Int32) = nI ((t / 10) - 55) from pk_sub (a := (t / 10)) (b := 55) (by omega)]
          refine cq_dup2 F dL_tells_86 rfl rfl ?_
          refine cq_iald_j F (j := ((t / 10) - 55)) hg0.1 hg0.2 rfl ⟨(by omega), by decide⟩ dL_tells_87 ?_
          refine cq_iload F dL_tells_88 rfl ?_
          refine cq_bipush F (v := 55) dL_tells_90 (by decide) ?_
          refine cq_icmp_ge F (tgt := 99) dL_tells_92 (by decide) (fun c_92 => ?_) (fun c_92 => ?_)
          · have c_92 : 55 ≤ (t / 10) := (nI_b (a := 55) (b := (t / 10)) (by omega) (by omega)).1.mp c_92
            refine cq_iload F dL_tells_99 rfl ?_
            refine cq_ixor F dL_tells_101 ?_
            refine cq_iast_j F (j := ((t / 10) - 55)) hg0.1 hg0.2 rfl ⟨(by omega), by decide⟩ dL_tells_102 (fun M_102 h_102 => ?_)
            refine cq_vret F hr (by decide) (by decide) dL_tells_103 ⟨rfl, ?_⟩
            refine ⟨?_, fun x x1 x2 => by rw [h_102, cq_up_row x2, h_68, cq_up_row x1]⟩
            rw [if_pos (by omega)]
            refine h.upd ht (by omega) (fun i hi => ?_)
            rw [← e_30]
            exact lk_hi (by omega) (by omega) h_68 h_102 i hi
          · have c_92 : ¬ 55 ≤ (t / 10) := fun z => c_92 ((nI_b (a := 55) (b := (t / 10)) (by omega) (by omega)).1.mpr z)
            omega
        · have c_74 : ¬ 55 ≤ (t / 10) := fun z => c_74 ((nI_b (a := 55) (b := (t / 10)) (by omega) (by omega)).1.mpr z)
          omega
      · have c_58 : ¬ 55 ≤ (t / 10) := fun z => c_58 ((nI_b (a := 55) (b := (t / 10)) (by omega) (by omega)).1.mpr z)
        omega
    · have c_43 : ¬ 55 ≤ (t / 10) := fun z => c_43 ((nI_b (a := 55) (b := (t / 10)) (by omega) (by omega)).1.mpr z)
      refine cq_iload F dL_tells_46 rfl ?_
      refine cq_goto F (tgt := 52) dL_tells_48 (by decide) ?_
      refine cq_dup2 F dL_tells_52 rfl rfl ?_
      refine cq_iald_j F (j := (t / 10)) hf0.1 hf0.2 rfl ⟨(by omega), by decide⟩ dL_tells_53 ?_
      refine cq_iload F dL_tells_54 rfl ?_
      refine cq_bipush F (v := 55) dL_tells_56 (by decide) ?_
      refine cq_icmp_ge F (tgt := 66) dL_tells_58 (by decide) (fun c_58 => ?_) (fun c_58 => ?_)
      · have c_58 : 55 ≤ (t / 10) := (nI_b (a := 55) (b := (t / 10)) (by omega) (by omega)).1.mp c_58
        omega
      · have c_58 : ¬ 55 ≤ (t / 10) := fun z => c_58 ((nI_b (a := 55) (b := (t / 10)) (by omega) (by omega)).1.mpr z)
        refine cq_iload F dL_tells_61 rfl ?_
        refine cq_goto F (tgt := 67) dL_tells_63 (by decide) ?_
        refine cq_ixor F dL_tells_67 ?_
        refine cq_iast_j F (j := (t / 10)) hf0.1 hf0.2 rfl ⟨(by omega), by decide⟩ dL_tells_68 (fun M_68 h_68 => ?_)
        refine cq_aload_n F (i := 1) dL_tells_69 rfl rfl ?_
        refine cq_iload F dL_tells_70 rfl ?_
        refine cq_bipush F (v := 55) dL_tells_72 (by decide) ?_
        refine cq_icmp_ge F (tgt := 81) dL_tells_74 (by decide) (fun c_74 => ?_) (fun c_74 => ?_)
        · have c_74 : 55 ≤ (t / 10) := (nI_b (a := 55) (b := (t / 10)) (by omega) (by omega)).1.mp c_74
          omega
        · have c_74 : ¬ 55 ≤ (t / 10) := fun z => c_74 ((nI_b (a := 55) (b := (t / 10)) (by omega) (by omega)).1.mpr z)
          refine cq_iconst F (v := 0) dL_tells_77 rfl ?_
          refine cq_goto F (tgt := 86) dL_tells_78 (by decide) ?_
          refine cq_dup2 F dL_tells_86 rfl rfl ?_
          refine cq_iald_j F (j := 0) hg0.1 hg0.2 rfl ⟨(by omega), by decide⟩ dL_tells_87 ?_
          refine cq_iload F dL_tells_88 rfl ?_
          refine cq_bipush F (v := 55) dL_tells_90 (by decide) ?_
          refine cq_icmp_ge F (tgt := 99) dL_tells_92 (by decide) (fun c_92 => ?_) (fun c_92 => ?_)
          · have c_92 : 55 ≤ (t / 10) := (nI_b (a := 55) (b := (t / 10)) (by omega) (by omega)).1.mp c_92
            omega
          · have c_92 : ¬ 55 ≤ (t / 10) := fun z => c_92 ((nI_b (a := 55) (b := (t / 10)) (by omega) (by omega)).1.mpr z)
            refine cq_iconst F (v := 0) dL_tells_95 rfl ?_
            refine cq_goto F (tgt := 101) dL_tells_96 (by decide) ?_
            refine cq_ixor F dL_tells_101 ?_
            refine cq_iast_j F (j := 0) hg0.1 hg0.2 rfl ⟨(by omega), by decide⟩ dL_tells_102 (fun M_102 h_102 => ?_)
            refine cq_vret F hr (by decide) (by decide) dL_tells_103 ⟨rfl, ?_⟩
            refine ⟨?_, fun x x1 x2 => by rw [h_102, cq_up_row x2, h_68, cq_up_row x1]⟩
            rw [if_pos (by omega)]
            refine h.upd ht (by omega) (fun i hi => ?_)
            rw [← e_30]
            exact lk_lo (by omega) (by omega) h_68 h_102 i hi
  · have c_10 : ¬ (Y t) = 0 := fun z => c_10 ((nI_b (a := (Y t)) (b := 0) (by omega) (by omega)).2.2.mpr z)
    refine cq_iload_n F (i := 3) dL_tells_13 rfl rfl ?_
    refine cq_iload F dL_tells_14 rfl ?_
    refine cq_icmp_ge F (tgt := 103) dL_tells_16 (by decide) (fun c_16 => ?_) (fun c_16 => ?_)
    · have c_16 : (Y t) ≤ q := (nI_b (a := (Y t)) (b := q) (by omega) (by omega)).1.mp c_16
      refine cq_vret F hr (by decide) (by decide) dL_tells_103 ⟨rfl, ?_⟩
      refine ⟨?_, fun _ _ _ => rfl⟩
      rw [if_neg (by omega), ns_up_id]
      exact h
    · have c_16 : ¬ (Y t) ≤ q := fun z => c_16 ((nI_b (a := (Y t)) (b := q) (by omega) (by omega)).1.mpr z)
      refine cq_iload F dL_tells_19 rfl ?_
      refine cq_iload_n F (i := 3) dL_tells_21 rfl rfl ?_
      refine cq_ixor F dL_tells_22 ?_
      refine cq_iconst F (v := 3) dL_tells_23 rfl ?_
      refine cq_iload_n F (i := 2) dL_tells_24 rfl rfl ?_
      refine cq_bipush F (v := 10) dL_tells_25 (by decide) ?_
      refine cq_irem F dL_tells_27 (by decide) ?_
      rw [show (nI t - nI t / 10 * 10 : Int32) = nI (t % 10) from pk_rem (d := 10) (by omega) (by omega) (by omega)]
      refine cq_imul F dL_tells_28 ?_
      rw [show (3 * nI (t % 10) : Int32) = nI (3 * (t % 10)) from pk_mul _ _]
      refine cq_ishl F dL_tells_29 ?_
      refine cq_nmi (fun x_30 e_30 => ?_)
      refine cq_istore F dL_tells_30 (by decide) ?_
      refine cq_iload_n F (i := 2) dL_tells_32 rfl rfl ?_
      refine cq_bipush F (v := 10) dL_tells_33 (by decide) ?_
      refine cq_idiv F dL_tells_35 (by decide) ?_
      rw [show (nI t / 10 : Int32) = nI (t / 10) from pk_div (d := 10) (by omega) (by decide) (by decide)]
      refine cq_istore F dL_tells_36 (by decide) ?_
      refine cq_aload_n F (i := 0) dL_tells_38 rfl rfl ?_
      refine cq_iload F dL_tells_39 rfl ?_
      refine cq_bipush F (v := 55) dL_tells_41 (by decide) ?_
      refine cq_icmp_ge F (tgt := 51) dL_tells_43 (by decide) (fun c_43 => ?_) (fun c_43 => ?_)
      · have c_43 : 55 ≤ (t / 10) := (nI_b (a := 55) (b := (t / 10)) (by omega) (by omega)).1.mp c_43
        refine cq_iconst F (v := 0) dL_tells_51 rfl ?_
        refine cq_dup2 F dL_tells_52 rfl rfl ?_
        refine cq_iald_j F (j := 0) hf0.1 hf0.2 rfl ⟨(by omega), by decide⟩ dL_tells_53 ?_
        refine cq_iload F dL_tells_54 rfl ?_
        refine cq_bipush F (v := 55) dL_tells_56 (by decide) ?_
        refine cq_icmp_ge F (tgt := 66) dL_tells_58 (by decide) (fun c_58 => ?_) (fun c_58 => ?_)
        · have c_58 : 55 ≤ (t / 10) := (nI_b (a := 55) (b := (t / 10)) (by omega) (by omega)).1.mp c_58
          refine cq_iconst F (v := 0) dL_tells_66 rfl ?_
          refine cq_ixor F dL_tells_67 ?_
          refine cq_iast_j F (j := 0) hf0.1 hf0.2 rfl ⟨(by omega), by decide⟩ dL_tells_68 (fun M_68 h_68 => ?_)
          refine cq_aload_n F (i := 1) dL_tells_69 rfl rfl ?_
          refine cq_iload F dL_tells_70 rfl ?_
          refine cq_bipush F (v := 55) dL_tells_72 (by decide) ?_
          refine cq_icmp_ge F (tgt := 81) dL_tells_74 (by decide) (fun c_74 => ?_) (fun c_74 => ?_)
          · have c_74 : 55 ≤ (t / 10) := (nI_b (a := 55) (b := (t / 10)) (by omega) (by omega)).1.mp c_74
            refine cq_iload F dL_tells_81 rfl ?_
            refine cq_bipush F (v := 55) dL_tells_83 (by decide) ?_
            refine cq_isub F dL_tells_85 ?_
            rw [show (nI (t / 10) - 55 : Int32) = nI ((t / 10) - 55) from pk_sub (a := (t / 10)) (b := 55) (by omega)]
            refine cq_dup2 F dL_tells_86 rfl rfl ?_
            refine cq_iald_j F (j := ((t / 10) - 55)) hg0.1 hg0.2 rfl ⟨(by omega), by decide⟩ dL_tells_87 ?_
            refine cq_iload F dL_tells_88 rfl ?_
            refine cq_bipush F (v := 55) dL_tells_90 (by decide) ?_
            refine cq_icmp_ge F (tgt := 99) dL_tells_92 (by decide) (fun c_92 => ?_) (fun c_92 => ?_)
            · have c_92 : 55 ≤ (t / 10) := (nI_b (a := 55) (b := (t / 10)) (by omega) (by omega)).1.mp c_92
              refine cq_iload F dL_tells_99 rfl ?_
              refine cq_ixor F dL_tells_101 ?_
              refine cq_iast_j F (j := ((t / 10) - 55)) hg0.1 hg0.2 rfl ⟨(by omega), by decide⟩ dL_tells_102 (fun M_102 h_102 => ?_)
              refine cq_vret F hr (by decide) (by decide) dL_tells_103 ⟨rfl, ?_⟩
              refine ⟨?_, fun x x1 x2 => by rw [h_102, cq_up_row x2, h_68, cq_up_row x1]⟩
              rw [if_pos (by omega)]
              refine h.upd ht (by omega) (fun i hi => ?_)
              rw [← e_30]
              exact lk_hi (by omega) (by omega) h_68 h_102 i hi
            · have c_92 : ¬ 55 ≤ (t / 10) := fun z => c_92 ((nI_b (a := 55) (b := (t / 10)) (by omega) (by omega)).1.mpr z)
              omega
          · have c_74 : ¬ 55 ≤ (t / 10) := fun z => c_74 ((nI_b (a := 55) (b := (t / 10)) (by omega) (by omega)).1.mpr z)
            omega
        · have c_58 : ¬ 55 ≤ (t / 10) := fun z => c_58 ((nI_b (a := 55) (b := (t / 10)) (by omega) (by omega)).1.mpr z)
          omega
      · have c_43 : ¬ 55 ≤ (t / 10) := fun z => c_43 ((nI_b (a := 55) (b := (t / 10)) (by omega) (by omega)).1.mpr z)
        refine cq_iload F dL_tells_46 rfl ?_
        refine cq_goto F (tgt := 52) dL_tells_48 (by decide) ?_
        refine cq_dup2 F dL_tells_52 rfl rfl ?_
        refine cq_iald_j F (j := (t / 10)) hf0.1 hf0.2 rfl ⟨(by omega), by decide⟩ dL_tells_53 ?_
        refine cq_iload F dL_tells_54 rfl ?_
        refine cq_bipush F (v := 55) dL_tells_56 (by decide) ?_
        refine cq_icmp_ge F (tgt := 66) dL_tells_58 (by decide) (fun c_58 => ?_) (fun c_58 => ?_)
        · have c_58 : 55 ≤ (t / 10) := (nI_b (a := 55) (b := (t / 10)) (by omega) (by omega)).1.mp c_58
          omega
        · have c_58 : ¬ 55 ≤ (t / 10) := fun z => c_58 ((nI_b (a := 55) (b := (t / 10)) (by omega) (by omega)).1.mpr z)
          refine cq_iload F dL_tells_61 rfl ?_
          refine cq_goto F (tgt := 67) dL_tells_63 (by decide) ?_
          refine cq_ixor F dL_tells_67 ?_
          refine cq_iast_j F (j := (t / 10)) hf0.1 hf0.2 rfl ⟨(by omega), by decide⟩ dL_tells_68 (fun M_68 h_68 => ?_)
          refine cq_aload_n F (i := 1) dL_tells_69 rfl rfl ?_
          refine cq_iload F dL_tells_70 rfl ?_
          refine cq_bipush F (v := 55) dL_tells_72 (by decide) ?_
          refine cq_icmp_ge F (tgt := 81) dL_tells_74 (by decide) (fun c_74 => ?_) (fun c_74 => ?_)
          · have c_74 : 55 ≤ (t / 10) := (nI_b (a := 55) (b := (t / 10)) (by omega) (by omega)).1.mp c_74
            omega
          · have c_74 : ¬ 55 ≤ (t / 10) := fun z => c_74 ((nI_b (a := 55) (b := (t / 10)) (by omega) (by omega)).1.mpr z)
            refine cq_iconst F (v := 0) dL_tells_77 rfl ?_
            refine cq_goto F (tgt := 86) dL_tells_78 (by decide) ?_
            refine cq_dup2 F dL_tells_86 rfl rfl ?_
            refine cq_iald_j F (j := 0) hg0.1 hg0.2 rfl ⟨(by omega), by decide⟩ dL_tells_87 ?_
            refine cq_iload F dL_tells_88 rfl ?_
            refine cq_bipush F (v := 55) dL_tells_90 (by decide) ?_
            refine cq_icmp_ge F (tgt := 99) dL_tells_92 (by decide) (fun c_92 => ?_) (fun c_92 => ?_)
            · have c_92 : 55 ≤ (t / 10) := (nI_b (a := 55) (b := (t / 10)) (by omega) (by omega)).1.mp c_92
              omega
            · have c_92 : ¬ 55 ≤ (t / 10) := fun z => c_92 ((nI_b (a := 55) (b := (t / 10)) (by omega) (by omega)).1.mpr z)
              refine cq_iconst F (v := 0) dL_tells_95 rfl ?_
              refine cq_goto F (tgt := 101) dL_tells_96 (by decide) ?_
              refine cq_ixor F dL_tells_101 ?_
              refine cq_iast_j F (j := 0) hg0.1 hg0.2 rfl ⟨(by omega), by decide⟩ dL_tells_102 (fun M_102 h_102 => ?_)
              refine cq_vret F hr (by decide) (by decide) dL_tells_103 ⟨rfl, ?_⟩
              refine ⟨?_, fun x x1 x2 => by rw [h_102, cq_up_row x2, h_68, cq_up_row x1]⟩
              rw [if_pos (by omega)]
              refine h.upd ht (by omega) (fun i hi => ?_)
              rw [← e_30]
              exact lk_lo (by omega) (by omega) h_68 h_102 i hi
theorem hdVL_tells : yL_tells.cls = RL ∧ yL_tells.cls ≠ "java/lang/invoke/MethodHandle" ∧ yL_tells.cls ≠ "java/lang/invoke/VarHandle" ∧ (parseMethodDescriptor yL_tells.desc).map (fun d => d.parameters.length) = some 4 := by decide +kernel
abbrev rmL_plan : Room := ({ frames := 2, cells := 2, slots := 6, locals := 49 })
set_option maxHeartbeats 4000000 in
set_option maxRecDepth 100000 in
theorem kL_plan (l : Launch) (D : va_G) (cA : Nat → ClassId) (X : cq_X) (Bs : Nat) (code fa ga : Nat) (Y g : Nat → Nat) (M : cq_M) (hf0 : lq_row X fa 55) (hg0 : lq_row X ga 55) (h : lk M fa ga Y) (hne : fa < ga) (hb : pl_beg g) (hcode : code < 4096) : cq_C l yL_plan wsL_plan rmL_plan D cA X Bs [.int (nI (g 1)), .int (nI (g 2)), .int (nI (g 3)), .int (nI code), .ref fa, .ref ga] M (cq_PV (fun M1 => lk M1 fa ga (lp_F (lc code) Y g 3) ∧ ∀ x, x < ga → x ≠ fa → M1 x = M x)) 2 6 := by
  refine cq_met (cc := cL_plan) (maxL := 16) (ret := none) (by decide) rfl (Nat.le_of_ble_eq_true rfl) [(0, .int (nI (g 1))), (1, .int (nI (g 2))), (2, .int (nI (g 3))), (3, .int (nI code)), (4, .ref fa), (5, .ref ga)] rfl rfl ?_
  intro p9 e9 s9 m9 b9 t9 c9 F hr
  have hmu : ∀ k, k < 3 → ∀ n, n ≤ 3 → lp_u (lc code) k n ≤ 2 := fun k _ n hn => lc_u n hn
  have loop_34 : ∀ (n_34 : Nat) (X2 : cq_X) (ra ba s lt tm : Nat) (U : Nat → Nat) (M2 : cq_M), lq_row X2 ra 3 → lq_row X2 ba 3 → lq_row X2 fa 55 → lq_row X2 ga 55 → cq_ge X X2 → ga < ra → ra < ba → s ≤ 3 → lt = (lp_g (lc code) g s) 7 → tm = (lp_g (lc code) g s) 0 → (∀ k, k < 3 → pr (M2 ra k) ((lp_g (lc code) g s) (1 + k))) → cq_nv M2 ba 3 U → (∀ k, k < 3 → U k ≤ lp_u (lc code) k s ∧ (0 < (lp_g (lc code) g s) (1 + k) → U k = (lp_g (lc code) g s) (4 + k))) → lk M2 fa ga (lp_F (lc code) Y g s) → (∀ x, x < ga → x ≠ fa → M2 x = M x) → 3 - s < n_34 → cq_V p9 l e9 rmL_plan s9 m9 ([.int (nI (g 1)), .int (nI (g 2)), .int (nI (g 3)), .int (nI code), .ref fa, .ref ga] : List Value).toArray b9 t9 c9 D cA X2 Bs 16 (2) (6) (MQ b9 (cq_Q D cA X Bs (cq_PV (fun M1 => lk M1 fa ga (lp_F (lc code) Y g 3) ∧ ∀ x, x < ga → x ≠ fa → M1 x = M x))) ([.int (nI (g 1)), .int (nI (g 2)), .int (nI (g 3)), .int (nI code), .ref fa, .ref ga] : List Value).toArray s9 2 6 (cq_A Bs)) 34 [(0, .int (nI (g 1))), (1, .int (nI (g 2))), (2, .int (nI (g 3))), (3, .int (nI code)), (4, .ref fa), (5, .ref ga), (6, .ref ra), (7, .int (nI lt)), (8, .int (nI tm)), (9, .ref ba), (10, .int (nI s))] [] M2 := by
    intro n_34
    induction n_34 with
    | zero =>
      intros
      omega
    | succ n_34 ih_34 =>
      intro X2 ra ba s lt tm U M2 hra hba hfX hgX2 hgX hra2 hrb hs3 hlt htm hrest hvU hU hlk hf2 hn
      obtain ⟨hok, -⟩ := lp_ok hb hmu s hs3
      have hR : ∀ k, k < 3 → (lp_g (lc code) g s) (1 + k) ≤ 360 := fun k hk => (hok.2.1 k hk).1
      have hltb : lt ≤ 1080 := by have := hok.2.2.1; omega
      have htmb : tm ≤ 1080 := by have := hok.1; omega
      have loop_170 : ∀ (n_170 : Nat) (j w9 : Nat) (U3 : Nat → Nat) (M4 : cq_M), s < 3 → ¬ lp_s (lp_g (lc code) g s) (lc code s) = 0 → cq_nv M4 ba 3 U3 → (∀ k, k < 3 → U3 k ≤ lp_u (lc code) k (s + 1) ∧ (0 < (lp_g (lc code) g s) (1 + k) → U3 k = lp_a (lp_g (lc code) g s) (lc code s) k)) → (∀ k, k < 3 → pr (M4 ra k) ((lp_g (lc code) g s) (1 + k) - lp_a (lp_g (lc code) g s) (lc code s) k * j)) → ((w9 = 0 ∧ ∀ k, k < 3 → 0 < lp_a (lp_g (lc code) g s) (lc code s) k → lp_a (lp_g (lc code) g s) (lc code s) k * j < (lp_g (lc code) g s) (1 + k)) ∨ (w9 = 1 ∧ 0 < j ∧ (∀ k, k < 3 → 0 < lp_a (lp_g (lc code) g s) (lc code s) k → lp_a (lp_g (lc code) g s) (lc code s) k * (j - 1) < (lp_g (lc code) g s) (1 + k)) ∧ ∃ k, k < 3 ∧ 0 < lp_a (lp_g (lc code) g s) (lc code s) k ∧ (lp_g (lc code) g s) (1 + k) ≤ lp_a (lp_g (lc code) g s) (lc code s) k * j)) → j ≤ 361 → (∀ x, x ≠ ra → x ≠ ba → M4 x = M2 x) → 362 - j < n_170 → cq_V p9 l e9 rmL_plan s9 m9 ([.int (nI (g 1)), .int (nI (g 2)), .int (nI (g 3)), .int (nI code), .ref fa, .ref ga] : List Value).toArray b9 t9 c9 D cA X2 Bs 16 (2) (6) (MQ b9 (cq_Q D cA X Bs (cq_PV (fun M1 => lk M1 fa ga (lp_F (lc code) Y g 3) ∧ ∀ x, x < ga → x ≠ fa → M1 x = M x))) ([.int (nI (g 1)), .int (nI (g 2)), .int (nI (g 3)), .int (nI code), .ref fa, .ref ga] : List Value).toArray s9 2 6 (cq_A Bs)) 170 [(0, .int (nI (g 1))), (1, .int (nI (g 2))), (2, .int (nI (g 3))), (3, .int (nI code)), (4, .ref fa), (5, .ref ga), (6, .ref ra), (7, .int (nI (lt + lp_ms (lp_g (lc code) g s) (lc code s) 3))), (8, .int (nI (tm + j))), (9, .ref ba), (10, .int (nI s)), (11, .int (nI (lp_as (lp_g (lc code) g s) (lc code s) 3))), (12, .int (nI w9))] [] M4 := by
        intro n_170
        induction n_170 with
        | zero =>
          intros
          omega
        | succ n_170 ih_170 =>
          intro j w9 U3 M4 hs9 hls hv4 hU3 h4 hw9 hj361 hf4 hn170
          have hw91 : w9 ≤ 1 := by rcases hw9 with ⟨z1, -⟩ | ⟨z1, -⟩ <;> omega
          have loop_181 : ∀ (n_181 : Nat) (k w2 : Nat) (M5 : cq_M), j < 360 → (∀ k, k < 3 → 0 < lp_a (lp_g (lc code) g s) (lc code s) k → lp_a (lp_g (lc code) g s) (lc code s) k * j < (lp_g (lc code) g s) (1 + k)) → k ≤ 3 → (∀ i, i < 3 → pr (M5 ra i) ((lp_g (lc code) g s) (1 + i) - lp_a (lp_g (lc code) g s) (lc code s) i * (if i < k then j + 1 else j))) → ((w2 = 0 ∧ ∀ i, i < k → 0 < lp_a (lp_g (lc code) g s) (lc code s) i → lp_a (lp_g (lc code) g s) (lc code s) i * (j + 1) < (lp_g (lc code) g s) (1 + i)) ∨ (w2 = 1 ∧ ∃ i, i < k ∧ 0 < lp_a (lp_g (lc code) g s) (lc code s) i ∧ (lp_g (lc code) g s) (1 + i) ≤ lp_a (lp_g (lc code) g s) (lc code s) i * (j + 1))) → (∀ x, x ≠ ra → x ≠ ba → M5 x = M2 x) → cq_nv M5 ba 3 U3 → 3 - k < n_181 → cq_V p9 l e9 rmL_plan s9 m9 ([.int (nI (g 1)), .int (nI (g 2)), .int (nI (g 3)), .int (nI code), .ref fa, .ref ga] : List Value).toArray b9 t9 c9 D cA X2 Bs 16 (2) (6) (MQ b9 (cq_Q D cA X Bs (cq_PV (fun M1 => lk M1 fa ga (lp_F (lc code) Y g 3) ∧ ∀ x, x < ga → x ≠ fa → M1 x = M x))) ([.int (nI (g 1)), .int (nI (g 2)), .int (nI (g 3)), .int (nI code), .ref fa, .ref ga] : List Value).toArray s9 2 6 (cq_A Bs)) 181 [(0, .int (nI (g 1))), (1, .int (nI (g 2))), (2, .int (nI (g 3))), (3, .int (nI code)), (4, .ref fa), (5, .ref ga), (6, .ref ra), (7, .int (nI (lt + lp_ms (lp_g (lc code) g s) (lc code s) 3))), (8, .int (nI (tm + j + 1))), (9, .ref ba), (10, .int (nI s)), (11, .int (nI (lp_as (lp_g (lc code) g s) (lc code s) 3))), (12, .int (nI w2)), (13, .int (nI k))] [] M5 := by
            intro n_181
            induction n_181 with
            | zero =>
              intros
              omega
            | succ n_181 ih_181 =>
              intro k w2 M5 hj9 hw0 hk39 h5 hw2 hf5 hv5 hn181
              have hw21 : w2 ≤ 1 := by rcases hw2 with ⟨z1, -⟩ | ⟨z1, -⟩ <;> omega
              refine cq_iload F dL_plan_181 rfl ?_
              refine cq_iconst F (v := 3) dL_plan_183 rfl ?_
              refine cq_icmp_ge F (tgt := 255) dL_plan_184 (by decide) (fun c_184 => ?_) (fun c_184 => ?_)
              · have c_184 : 3 ≤ k := (nI_b (a := 3) (b := k) (by omega) (by omega)).1.mp c_184
                obtain rfl : k = 3 := by omega
                refine cq_goto F (tgt := 170) dL_plan_255 (by decide) ?_
                refine cq_loc (L2 := [(0, .int (nI (g 1))), (1, .int (nI (g 2))), (2, .int (nI (g 3))), (3, .int (nI code)), (4, .ref fa), (5, .ref ga), (6, .ref ra), (7, .int (nI (lt + lp_ms (lp_g (lc code) g s) (lc code s) 3))), (8, .int (nI (tm + (j + 1)))), (9, .ref ba), (10, .int (nI s)), (11, .int (nI (lp_as (lp_g (lc code) g s) (lc code s) 3))), (12, .int (nI w2))]) rfl ?_
                exact ih_170 (j + 1) w2 U3 M5 hs9 hls hv5 hU3 (fun k hk => by have q := h5 k hk; rw [if_pos hk] at q; exact q) (by rcases hw2 with ⟨z1, z2⟩ | ⟨z1, z2⟩; exact Or.inl ⟨z1, z2⟩; exact Or.inr ⟨z1, by omega, fun k hk h0 => by rw [Nat.add_sub_cancel]; exact hw0 k hk h0, z2⟩) (by omega) hf5 (by omega)
              · have c_184 : ¬ 3 ≤ k := fun z => c_184 ((nI_b (a := 3) (b := k) (by omega) (by omega)).1.mpr z)
                have hk3 : k < 3 := by omega
                have hp := h5 k hk3
                rw [if_neg (Nat.lt_irrefl k)] at hp
                have hRk := hR k hk3
                refine cq_aload F dL_plan_187 rfl ?_
                refine cq_iload F dL_plan_189 rfl ?_
                refine cq_iald_j F (j := k) hra.1 hra.2 rfl ⟨(by omega), by decide⟩ dL_plan_191 ?_
                refine cq_if_le F (tgt := 199) dL_plan_192 (by decide) (fun c_192 => ?_) (fun c_192 => ?_)
                · have hz : (lp_g (lc code) g s) (1 + k) - lp_a (lp_g (lc code) g s) (lc code s) k * j = 0 := (hp.le (by omega)).mp c_192
                  have hRA0 : lp_a (lp_g (lc code) g s) (lc code s) k = 0 := by
                    rcases Nat.eq_zero_or_pos (lp_a (lp_g (lc code) g s) (lc code s) k) with q | q
                    · exact q
                    · have := hw0 k hk3 q
                      omega
                  refine cq_iconst F (v := 0) dL_plan_199 rfl ?_
                  refine cq_istore F dL_plan_200 (by decide) ?_
                  refine cq_aload F dL_plan_202 rfl ?_
                  refine cq_iload F dL_plan_204 rfl ?_
                  refine cq_dup2 F dL_plan_206 rfl rfl ?_
                  refine cq_iald_j F (j := k) hra.1 hra.2 rfl ⟨(by omega), by decide⟩ dL_plan_207 ?_
                  refine cq_iload F dL_plan_208 rfl ?_
                  refine cq_if_eq F (tgt := 221) dL_plan_210 (by decide) (fun c_210 => ?_) (fun c_210 => ?_)
                  · have c_210 : 0 = 0 := (nI_b (a := 0) (b := 0) (by omega) (by omega)).2.2.mp c_210
                    refine cq_iconst F (v := 0) dL_plan_221 rfl ?_
                    refine cq_isub F dL_plan_222 ?_
                    refine cq_iast_j F (j := k) hra.1 hra.2 rfl ⟨(by omega), by decide⟩ dL_plan_223 (fun M_223 h_223 => ?_)
                    have v_223_ba := hv5.ne h_223 (by omega)
                    have hp2 : pr (M_223 ra k) ((lp_g (lc code) g s) (1 + k) - lp_a (lp_g (lc code) g s) (lc code s) k * (j + 1)) := by
                      rw [h_223, cq_up_s, i32_sub0, show (lp_g (lc code) g s) (1 + k) - lp_a (lp_g (lc code) g s) (lc code s) k * (j + 1) = (lp_g (lc code) g s) (1 + k) - lp_a (lp_g (lc code) g s) (lc code s) k * j by rw [hRA0, Nat.zero_mul, Nat.zero_mul]]
                      exact hp
                    refine cq_iload F dL_plan_224 rfl ?_
                    refine cq_if_ne F (tgt := 242) dL_plan_226 (by decide) (fun c_226 => ?_) (fun c_226 => ?_)
                    · have c_226 : ¬ w2 = 0 := fun z => c_226 ((nI_b (a := w2) (b := 0) (by omega) (by omega)).2.2.mpr z)
                      refine cq_iconst F (v := 1) dL_plan_242 rfl ?_
                      refine cq_goto F (tgt := 247) dL_plan_243 (by decide) ?_
                      refine cq_istore F dL_plan_247 (by decide) ?_
                      refine cq_iinc F dL_plan_249 rfl (by decide) (fun x_249 e_249 => ?_)
                      obtain rfl : x_249 = nI (k + 1) := by rw [e_249]; exact nI_1 _
                      refine cq_goto F (tgt := 181) dL_plan_252 (by decide) ?_
                      refine cq_loc (L2 := [(0, .int (nI (g 1))), (1, .int (nI (g 2))), (2, .int (nI (g 3))), (3, .int (nI code)), (4, .ref fa), (5, .ref ga), (6, .ref ra), (7, .int (nI (lt + lp_ms (lp_g (lc code) g s) (lc code s) 3))), (8, .int (nI (tm + j + 1))), (9, .ref ba), (10, .int (nI s)), (11, .int (nI (lp_as (lp_g (lc code) g s) (lc code s) 3))), (12, .int (nI 1)), (13, .int (nI (k + 1)))]) rfl ?_
                      exact ih_181 (k + 1) 1 M_223 hj9 hw0 (by omega) (fun i hi => by by_cases e9 : i = k; (subst e9; rw [if_pos (by omega)]; exact hp2); rw [h_223, cq_up_k e9, lp_if e9]; exact h5 i hi) (by rcases hw2 with ⟨z1, z2⟩ | ⟨z1, i, z2, z3⟩; exact absurd z1 c_226; exact Or.inr ⟨rfl, i, by omega, z3⟩) (fun x x1 x2 => by rw [h_223, cq_up_row x1]; exact hf5 x x1 x2) v_223_ba (by omega)
                    · have c_226 : w2 = 0 := (nI_b (a := w2) (b := 0) (by omega) (by omega)).2.2.mp c_226
                      refine cq_iload F dL_plan_229 rfl ?_
                      refine cq_if_eq F (tgt := 246) dL_plan_231 (by decide) (fun c_231 => ?_) (fun c_231 => ?_)
                      · have c_231 : 0 = 0 := (nI_b (a := 0) (b := 0) (by omega) (by omega)).2.2.mp c_231
                        refine cq_iconst F (v := 0) dL_plan_246 rfl ?_
                        refine cq_istore F dL_plan_247 (by decide) ?_
                        refine cq_iinc F dL_plan_249 rfl (by decide) (fun x_249 e_249 => ?_)
                        obtain rfl : x_249 = nI (k + 1) := by rw [e_249]; exact nI_1 _
                        refine cq_goto F (tgt := 181) dL_plan_252 (by decide) ?_
                        refine cq_loc (L2 := [(0, .int (nI (g 1))), (1, .int (nI (g 2))), (2, .int (nI (g 3))), (3, .int (nI code)), (4, .ref fa), (5, .ref ga), (6, .ref ra), (7, .int (nI (lt + lp_ms (lp_g (lc code) g s) (lc code s) 3))), (8, .int (nI (tm + j + 1))), (9, .ref ba), (10, .int (nI s)), (11, .int (nI (lp_as (lp_g (lc code) g s) (lc code s) 3))), (12, .int (nI 0)), (13, .int (nI (k + 1)))]) rfl ?_
                        exact ih_181 (k + 1) 0 M_223 hj9 hw0 (by omega) (fun i hi => by by_cases e9 : i = k; (subst e9; rw [if_pos (by omega)]; exact hp2); rw [h_223, cq_up_k e9, lp_if e9]; exact h5 i hi) (by rcases hw2 with ⟨z1, z2⟩ | ⟨z1, z2⟩; exact Or.inl ⟨rfl, fun i hi h0 => by by_cases e9 : i = k; (subst e9; exact absurd h0 (by omega)); exact z2 i (by omega) h0⟩; omega) (fun x x1 x2 => by rw [h_223, cq_up_row x1]; exact hf5 x x1 x2) v_223_ba (by omega)
                      · have c_231 : ¬ 0 = 0 := fun z => c_231 ((nI_b (a := 0) (b := 0) (by omega) (by omega)).2.2.mpr z)
                        omega
                  · have c_210 : ¬ 0 = 0 := fun z => c_210 ((nI_b (a := 0) (b := 0) (by omega) (by omega)).2.2.mpr z)
                    omega
                · have hz : 0 < (lp_g (lc code) g s) (1 + k) - lp_a (lp_g (lc code) g s) (lc code s) k * j := Nat.pos_of_ne_zero (fun z => c_192 ((hp.le (by omega)).mpr z))
                  have hUk : U3 k = lp_a (lp_g (lc code) g s) (lc code s) k := (hU3 k hk3).2 (by omega)
                  have hra9 : lp_a (lp_g (lc code) g s) (lc code s) k ≤ 2 := by have v0 := ((lp_v hb hmu hs9).1 k hk3).2.1; rw [lp_f hk3] at v0; exact v0
                  refine cq_iconst F (v := 1) dL_plan_195 rfl ?_
                  refine cq_goto F (tgt := 200) dL_plan_196 (by decide) ?_
                  refine cq_istore F dL_plan_200 (by decide) ?_
                  refine cq_aload F dL_plan_202 rfl ?_
                  refine cq_iload F dL_plan_204 rfl ?_
                  refine cq_dup2 F dL_plan_206 rfl rfl ?_
                  refine cq_iald_j F (j := k) hra.1 hra.2 rfl ⟨(by omega), by decide⟩ dL_plan_207 ?_
                  refine cq_iload F dL_plan_208 rfl ?_
                  refine cq_if_eq F (tgt := 221) dL_plan_210 (by decide) (fun c_210 => ?_) (fun c_210 => ?_)
                  · have c_210 : 1 = 0 := (nI_b (a := 1) (b := 0) (by omega) (by omega)).2.2.mp c_210
                    omega
                  · have c_210 : ¬ 1 = 0 := fun z => c_210 ((nI_b (a := 1) (b := 0) (by omega) (by omega)).2.2.mpr z)
                    refine cq_aload F dL_plan_213 rfl ?_
                    refine cq_iload F dL_plan_215 rfl ?_
                    refine cq_iald_j F (j := k) hba.1 hba.2 rfl ⟨(by omega), by decide⟩ dL_plan_217 ?_
                    rw [hv5 _ (by omega)]
                    refine cq_goto F (tgt := 222) dL_plan_218 (by decide) ?_
                    refine cq_isub F dL_plan_222 ?_
                    refine cq_iast_j F (j := k) hra.1 hra.2 rfl ⟨(by omega), by decide⟩ dL_plan_223 (fun M_223 h_223 => ?_)
                    have v_223_ba := hv5.ne h_223 (by omega)
                    have hp2 : pr (M_223 ra k) ((lp_g (lc code) g s) (1 + k) - lp_a (lp_g (lc code) g s) (lc code s) k * (j + 1)) := by
                      have q9 := hp.sub (f := U3 k) (by have := hR k (by omega); omega) (by rw [hUk]; omega) hz
                      rw [h_223, cq_up_s, hUk, Nat.mul_succ, ← Nat.sub_sub]
                      rw [hUk] at q9
                      exact q9
                    refine cq_iload F dL_plan_224 rfl ?_
                    refine cq_if_ne F (tgt := 242) dL_plan_226 (by decide) (fun c_226 => ?_) (fun c_226 => ?_)
                    · have c_226 : ¬ w2 = 0 := fun z => c_226 ((nI_b (a := w2) (b := 0) (by omega) (by omega)).2.2.mpr z)
                      refine cq_iconst F (v := 1) dL_plan_242 rfl ?_
                      refine cq_goto F (tgt := 247) dL_plan_243 (by decide) ?_
                      refine cq_istore F dL_plan_247 (by decide) ?_
                      refine cq_iinc F dL_plan_249 rfl (by decide) (fun x_249 e_249 => ?_)
                      obtain rfl : x_249 = nI (k + 1) := by rw [e_249]; exact nI_1 _
                      refine cq_goto F (tgt := 181) dL_plan_252 (by decide) ?_
                      refine cq_loc (L2 := [(0, .int (nI (g 1))), (1, .int (nI (g 2))), (2, .int (nI (g 3))), (3, .int (nI code)), (4, .ref fa), (5, .ref ga), (6, .ref ra), (7, .int (nI (lt + lp_ms (lp_g (lc code) g s) (lc code s) 3))), (8, .int (nI (tm + j + 1))), (9, .ref ba), (10, .int (nI s)), (11, .int (nI (lp_as (lp_g (lc code) g s) (lc code s) 3))), (12, .int (nI 1)), (13, .int (nI (k + 1)))]) rfl ?_
                      exact ih_181 (k + 1) 1 M_223 hj9 hw0 (by omega) (fun i hi => by by_cases e9 : i = k; (subst e9; rw [if_pos (by omega)]; exact hp2); rw [h_223, cq_up_k e9, lp_if e9]; exact h5 i hi) (by rcases hw2 with ⟨z1, z2⟩ | ⟨z1, i, z2, z3⟩; exact absurd z1 c_226; exact Or.inr ⟨rfl, i, by omega, z3⟩) (fun x x1 x2 => by rw [h_223, cq_up_row x1]; exact hf5 x x1 x2) v_223_ba (by omega)
                    · have c_226 : w2 = 0 := (nI_b (a := w2) (b := 0) (by omega) (by omega)).2.2.mp c_226
                      refine cq_iload F dL_plan_229 rfl ?_
                      refine cq_if_eq F (tgt := 246) dL_plan_231 (by decide) (fun c_231 => ?_) (fun c_231 => ?_)
                      · have c_231 : 1 = 0 := (nI_b (a := 1) (b := 0) (by omega) (by omega)).2.2.mp c_231
                        omega
                      · have c_231 : ¬ 1 = 0 := fun z => c_231 ((nI_b (a := 1) (b := 0) (by omega) (by omega)).2.2.mpr z)
                        refine cq_aload F dL_plan_234 rfl ?_
                        refine cq_iload F dL_plan_236 rfl ?_
                        refine cq_iald_j F (j := k) hra.1 hra.2 rfl ⟨(by omega), by decide⟩ dL_plan_238 ?_
                        rw [show M_223 ra k = M5 ra k - nI (U3 k) by rw [h_223]; exact cq_up_s _ _ _ _]
                        refine cq_if_gt F (tgt := 246) dL_plan_239 (by decide) (fun c_239 => ?_) (fun c_239 => ?_)
                        · have hz2 : 0 < (lp_g (lc code) g s) (1 + k) - lp_a (lp_g (lc code) g s) (lc code s) k * (j + 1) := by
                            have q := hp2.gt (by omega)
                            rw [h_223, cq_up_s] at q
                            exact q.mp c_239
                          refine cq_iconst F (v := 0) dL_plan_246 rfl ?_
                          refine cq_istore F dL_plan_247 (by decide) ?_
                          refine cq_iinc F dL_plan_249 rfl (by decide) (fun x_249 e_249 => ?_)
                          obtain rfl : x_249 = nI (k + 1) := by rw [e_249]; exact nI_1 _
                          refine cq_goto F (tgt := 181) dL_plan_252 (by decide) ?_
                          refine cq_loc (L2 := [(0, .int (nI (g 1))), (1, .int (nI (g 2))), (2, .int (nI (g 3))), (3, .int (nI code)), (4, .ref fa), (5, .ref ga), (6, .ref ra), (7, .int (nI (lt + lp_ms (lp_g (lc code) g s) (lc code s) 3))), (8, .int (nI (tm + j + 1))), (9, .ref ba), (10, .int (nI s)), (11, .int (nI (lp_as (lp_g (lc code) g s) (lc code s) 3))), (12, .int (nI 0)), (13, .int (nI (k + 1)))]) rfl ?_
                          exact ih_181 (k + 1) 0 M_223 hj9 hw0 (by omega) (fun i hi => by by_cases e9 : i = k; (subst e9; rw [if_pos (by omega)]; exact hp2); rw [h_223, cq_up_k e9, lp_if e9]; exact h5 i hi) (by rcases hw2 with ⟨z1, z2⟩ | ⟨z1, z2⟩; exact Or.inl ⟨rfl, fun i hi h0 => by by_cases e9 : i = k; (subst e9; omega); exact z2 i (by omega) h0⟩; omega) (fun x x1 x2 => by rw [h_223, cq_up_row x1]; exact hf5 x x1 x2) v_223_ba (by omega)
                        · have hz2 : (lp_g (lc code) g s) (1 + k) - lp_a (lp_g (lc code) g s) (lc code s) k * (j + 1) = 0 := by
                            have q := hp2.gt (by omega)
                            rw [h_223, cq_up_s] at q
                            have q2 : ¬ 0 < (lp_g (lc code) g s) (1 + k) - lp_a (lp_g (lc code) g s) (lc code s) k * (j + 1) := fun z => c_239 (q.mpr z)
                            omega
                          have hkpos : 0 < lp_a (lp_g (lc code) g s) (lc code s) k := by
                            rcases Nat.eq_zero_or_pos (lp_a (lp_g (lc code) g s) (lc code s) k) with q | q
                            · rw [q, Nat.zero_mul] at hz hz2
                              omega
                            · exact q
                          refine cq_iconst F (v := 1) dL_plan_242 rfl ?_
                          refine cq_goto F (tgt := 247) dL_plan_243 (by decide) ?_
                          refine cq_istore F dL_plan_247 (by decide) ?_
                          refine cq_iinc F dL_plan_249 rfl (by decide) (fun x_249 e_249 => ?_)
                          obtain rfl : x_249 = nI (k + 1) := by rw [e_249]; exact nI_1 _
                          refine cq_goto F (tgt := 181) dL_plan_252 (by decide) ?_
                          refine cq_loc (L2 := [(0, .int (nI (g 1))), (1, .int (nI (g 2))), (2, .int (nI (g 3))), (3, .int (nI code)), (4, .ref fa), (5, .ref ga), (6, .ref ra), (7, .int (nI (lt + lp_ms (lp_g (lc code) g s) (lc code s) 3))), (8, .int (nI (tm + j + 1))), (9, .ref ba), (10, .int (nI s)), (11, .int (nI (lp_as (lp_g (lc code) g s) (lc code s) 3))), (12, .int (nI 1)), (13, .int (nI (k + 1)))]) rfl ?_
                          exact ih_181 (k + 1) 1 M_223 hj9 hw0 (by omega) (fun i hi => by by_cases e9 : i = k; (subst e9; rw [if_pos (by omega)]; exact hp2); rw [h_223, cq_up_k e9, lp_if e9]; exact h5 i hi) (Or.inr ⟨rfl, k, by omega, hkpos, by omega⟩) (fun x x1 x2 => by rw [h_223, cq_up_row x1]; exact hf5 x x1 x2) v_223_ba (by omega)
          refine cq_iload F dL_plan_170 rfl ?_
          refine cq_if_ne F (tgt := 258) dL_plan_172 (by decide) (fun c_172 => ?_) (fun c_172 => ?_)
          · have c_172 : ¬ w9 = 0 := fun z => c_172 ((nI_b (a := w9) (b := 0) (by omega) (by omega)).2.2.mpr z)
            obtain ⟨hj0, hst1, hst2⟩ : 0 < j ∧ (∀ k, k < 3 → 0 < lp_a (lp_g (lc code) g s) (lc code s) k → lp_a (lp_g (lc code) g s) (lc code s) k * (j - 1) < (lp_g (lc code) g s) (1 + k)) ∧ ∃ k, k < 3 ∧ 0 < lp_a (lp_g (lc code) g s) (lc code s) k ∧ (lp_g (lc code) g s) (1 + k) ≤ lp_a (lp_g (lc code) g s) (lc code s) k * j := by
              rcases hw9 with ⟨z1, z2⟩ | ⟨z1, z2⟩
              · omega
              · exact z2
            have hat := lp_nx_at hb hmu hs9 hls hj0 hst1 hst2
            have hlk4 : lk M4 fa ga (lp_F (lc code) Y g s) := hlk.same (hf4 _ (by omega) (by omega)) (hf4 _ (by omega) (by omega))
            have ht9 : tm + j < 1100 := by have := hok.1; omega
            have hq9 : 1 ≤ (lt + lp_ms (lp_g (lc code) g s) (lc code s) 3) ∧ (lt + lp_ms (lp_g (lc code) g s) (lc code s) 3) ≤ 7 := by
              have q1 := lp_7 hb hmu (s + 1) (by omega)
              have q2 := hmu 0 (by omega) (s + 1) (by omega)
              have q3 := hmu 1 (by omega) (s + 1) (by omega)
              have q4 := hmu 2 (by omega) (s + 1) (by omega)
              have q5 := (pl_lits hb _ (lp_told hb hmu hs9 hls)).1
              have q6 := hat.2.2
              rw [← hlt] at q6
              omega
            have hso9 : ¬ (lp_as (lp_g (lc code) g s) (lc code s) 3) = 0 := by rw [lp_as_3]; exact hls
            have hsom : (lp_as (lp_g (lc code) g s) (lc code s) 3) ≤ 6 := by
              rw [lp_as_3]
              unfold lp_s
              have v0 := (lp_v hb hmu hs9).1
              have a0 := (v0 0 (by omega)).2.1
              have a1 := (v0 1 (by omega)).2.1
              have a2 := (v0 2 (by omega)).2.1
              rw [lp_f (by omega)] at a0 a1 a2
              omega
            refine cq_iload F dL_plan_258 rfl ?_
            refine cq_if_le F (tgt := 274) dL_plan_260 (by decide) (fun c_260 => ?_) (fun c_260 => ?_)
            · have c_260 : (lp_as (lp_g (lc code) g s) (lc code s) 3) ≤ 0 := (nI_b (a := (lp_as (lp_g (lc code) g s) (lc code s) 3)) (b := 0) (by omega) (by omega)).1.mp c_260
              omega
            · have c_260 : ¬ (lp_as (lp_g (lc code) g s) (lc code s) 3) ≤ 0 := fun z => c_260 ((nI_b (a := (lp_as (lp_g (lc code) g s) (lc code s) 3)) (b := 0) (by omega) (by omega)).1.mpr z)
              refine cq_aload F dL_plan_263 rfl ?_
              refine cq_aload F dL_plan_265 rfl ?_
              refine cq_iload F dL_plan_267 rfl ?_
              refine cq_iload F dL_plan_269 rfl ?_
              refine cq_callS F (kL_tells l D cA X2 Bs fa ga (tm + j) (lt + lp_ms (lp_g (lc code) g s) (lc code s) 3) (lp_F (lc code) Y g s) M4 hfX hgX2 hlk4 ht9 hq9 hne) (va_cwS 4 F.1.2.2.2.2 gL_plan_L_tells rfl rfl rfl hdVL_tells.2 ⟨Nat.le_of_ble_eq_true rfl, Nat.le_of_ble_eq_true rfl⟩) rfl (Nat.le_of_ble_eq_true rfl) dL_plan_271 ⟨Nat.le_of_ble_eq_true rfl, Nat.le_of_ble_eq_true rfl⟩ (cq_kV fun M_271 h_271 => ?_)
              have hlk9 : lk M_271 fa ga (lp_F (lc code) Y g (s + 1)) := by
                show lk _ _ _ (lp_no _ _ _)
                unfold lp_no
                rw [if_neg hls]
                unfold pl_note
                have e0 : lp_nx (lp_g (lc code) g s) (lc code s) 0 = tm + j := hat.1.trans (by rw [htm])
                have e7 : lp_nx (lp_g (lc code) g s) (lc code s) 7 = (lt + lp_ms (lp_g (lc code) g s) (lc code s) 3) := hat.2.2.trans (by rw [hlt])
                rw [e0, e7]
                exact h_271.1
              refine cq_iinc F dL_plan_274 rfl (by decide) (fun x_274 e_274 => ?_)
              obtain rfl : x_274 = nI (s + 1) := by rw [e_274]; exact nI_1 _
              refine cq_goto F (tgt := 34) dL_plan_277 (by decide) ?_
              refine cq_loc (L2 := [(0, .int (nI (g 1))), (1, .int (nI (g 2))), (2, .int (nI (g 3))), (3, .int (nI code)), (4, .ref fa), (5, .ref ga), (6, .ref ra), (7, .int (nI (lt + lp_ms (lp_g (lc code) g s) (lc code s) 3))), (8, .int (nI (tm + j))), (9, .ref ba), (10, .int (nI (s + 1)))]) rfl ?_
              exact ih_34 X2 ra ba (s + 1) (lt + lp_ms (lp_g (lc code) g s) (lc code s) 3) (tm + j) U3 M_271 hra hba hfX hgX2 hgX hra2 hrb (by omega) (by rw [hlt]; exact hat.2.2.symm) (by rw [htm]; exact hat.1.symm) (fun k hk => by rw [h_271.2 ra (by omega) (by omega), (hat.2.1 k hk).1]; exact h4 k hk) (hv4.same (fun j => congrFun (h_271.2 ba (by omega) (by omega)) j)) (fun k hk => ⟨(hU3 k hk).1, fun z => by rw [(hat.2.1 k hk).2 z]; exact (hU3 k hk).2 (by rw [(hat.2.1 k hk).1] at z; omega)⟩) hlk9 (fun x x1 x2 => by rw [h_271.2 x x2 (by omega), hf4 x (by omega) (by omega)]; exact hf2 x x1 x2) (by omega)
          · have c_172 : w9 = 0 := (nI_b (a := w9) (b := 0) (by omega) (by omega)).2.2.mp c_172
            have hw0 : ∀ k, k < 3 → 0 < lp_a (lp_g (lc code) g s) (lc code s) k → lp_a (lp_g (lc code) g s) (lc code s) k * j < (lp_g (lc code) g s) (1 + k) := by
              rcases hw9 with ⟨z1, z2⟩ | ⟨z1, z2⟩
              · exact z2
              · omega
            have hj9 : j < 360 := by
              obtain ⟨k, k1, k2⟩ := lp_ex hls
              have q1 := hw0 k k1 k2
              have q2 := hR k k1
              have q3 := Nat.le_mul_of_pos_left j k2
              omega
            refine cq_iinc F dL_plan_175 rfl (by decide) (fun x_175 e_175 => ?_)
            obtain rfl : x_175 = nI ((tm + j) + 1) := by rw [e_175]; exact nI_1 _
            refine cq_iconst F (v := 0) dL_plan_178 rfl ?_
            refine cq_istore F dL_plan_179 (by decide) ?_
            refine cq_loc (L2 := [(0, .int (nI (g 1))), (1, .int (nI (g 2))), (2, .int (nI (g 3))), (3, .int (nI code)), (4, .ref fa), (5, .ref ga), (6, .ref ra), (7, .int (nI (lt + lp_ms (lp_g (lc code) g s) (lc code s) 3))), (8, .int (nI (tm + j + 1))), (9, .ref ba), (10, .int (nI s)), (11, .int (nI (lp_as (lp_g (lc code) g s) (lc code s) 3))), (12, .int (nI w9)), (13, .int (nI 0))]) rfl ?_
            exact loop_181 4 0 w9 M4 hj9 hw0 (by omega) (fun i hi => by rw [if_neg (by omega)]; exact h4 i hi) (Or.inl ⟨by omega, fun i hi => absurd hi (by omega)⟩) hf4 hv4 (by omega)
      have loop_46 : ∀ (n_46 : Nat) (k q w : Nat) (M3 : cq_M), s < 3 → k ≤ 3 → q = lt + lp_ms (lp_g (lc code) g s) (lc code s) k → w = lp_as (lp_g (lc code) g s) (lc code s) k → cq_nv M3 ba 3 (fun j => if j < k ∧ 0 < (lp_g (lc code) g s) (1 + j) then U j + (lc code s) j else U j) → (∀ x, x ≠ ba → M3 x = M2 x) → 3 - k < n_46 → cq_V p9 l e9 rmL_plan s9 m9 ([.int (nI (g 1)), .int (nI (g 2)), .int (nI (g 3)), .int (nI code), .ref fa, .ref ga] : List Value).toArray b9 t9 c9 D cA X2 Bs 16 (2) (6) (MQ b9 (cq_Q D cA X Bs (cq_PV (fun M1 => lk M1 fa ga (lp_F (lc code) Y g 3) ∧ ∀ x, x < ga → x ≠ fa → M1 x = M x))) ([.int (nI (g 1)), .int (nI (g 2)), .int (nI (g 3)), .int (nI code), .ref fa, .ref ga] : List Value).toArray s9 2 6 (cq_A Bs)) 46 [(0, .int (nI (g 1))), (1, .int (nI (g 2))), (2, .int (nI (g 3))), (3, .int (nI code)), (4, .ref fa), (5, .ref ga), (6, .ref ra), (7, .int (nI q)), (8, .int (nI tm)), (9, .ref ba), (10, .int (nI s)), (11, .int (nI w)), (12, .int (nI k))] [] M3 := by
        intro n_46
        induction n_46 with
        | zero =>
          intros
          omega
        | succ n_46 ih_46 =>
          intro k q w M3 hs9 hk3 hq hw hv3 hf3 hn46
          have hrk : M3 ra = M2 ra := hf3 ra (by omega)
          refine cq_iload F dL_plan_46 rfl ?_
          refine cq_iconst F (v := 3) dL_plan_48 rfl ?_
          refine cq_icmp_ge F (tgt := 158) dL_plan_49 (by decide) (fun c_49 => ?_) (fun c_49 => ?_)
          · have c_49 : 3 ≤ k := (nI_b (a := 3) (b := k) (by omega) (by omega)).1.mp c_49
            obtain rfl : k = 3 := by omega
            have hU9 : ∀ k, k < 3 → (fun j => if j < 3 ∧ 0 < (lp_g (lc code) g s) (1 + j) then U j + (lc code s) j else U j) k ≤ lp_u (lc code) k (s + 1) ∧ (0 < (lp_g (lc code) g s) (1 + k) → (fun j => if j < 3 ∧ 0 < (lp_g (lc code) g s) (1 + j) then U j + (lc code s) j else U j) k = lp_a (lp_g (lc code) g s) (lc code s) k) := fun k hk => by
              have q := hU k hk
              show (if k < 3 ∧ 0 < (lp_g (lc code) g s) (1 + k) then U k + (lc code s) k else U k) ≤ lp_u (lc code) k s + (lc code s) k ∧ (0 < (lp_g (lc code) g s) (1 + k) → (if k < 3 ∧ 0 < (lp_g (lc code) g s) (1 + k) then U k + (lc code s) k else U k) = lp_a (lp_g (lc code) g s) (lc code s) k)
              by_cases c : 0 < (lp_g (lc code) g s) (1 + k)
              · rw [if_pos ⟨hk, c⟩]; unfold lp_a; rw [if_pos c]; have q2 := q.2 c; exact ⟨by omega, fun _ => by rw [q2]⟩
              · rw [if_neg (fun z => c z.2)]; exact ⟨by omega, fun z => absurd z c⟩
            subst hq
            subst hw
            have hsom : (lp_as (lp_g (lc code) g s) (lc code s) 3) ≤ 6 := by
              rw [lp_as_3]
              unfold lp_s
              have v0 := (lp_v hb hmu hs9).1
              have a0 := (v0 0 (by omega)).2.1
              have a1 := (v0 1 (by omega)).2.1
              have a2 := (v0 2 (by omega)).2.1
              rw [lp_f (by omega)] at a0 a1 a2
              omega
            refine cq_iload F dL_plan_158 rfl ?_
            refine cq_if_ne F (tgt := 167) dL_plan_160 (by decide) (fun c_160 => ?_) (fun c_160 => ?_)
            · have c_160 : ¬ (lp_as (lp_g (lc code) g s) (lc code s) 3) = 0 := fun z => c_160 ((nI_b (a := (lp_as (lp_g (lc code) g s) (lc code s) 3)) (b := 0) (by omega) (by omega)).2.2.mpr z)
              have hls : ¬ lp_s (lp_g (lc code) g s) (lc code s) = 0 := by rw [← lp_as_3]; exact c_160
              refine cq_iconst F (v := 0) dL_plan_167 rfl ?_
              refine cq_istore F dL_plan_168 (by decide) ?_
              refine cq_loc (L2 := [(0, .int (nI (g 1))), (1, .int (nI (g 2))), (2, .int (nI (g 3))), (3, .int (nI code)), (4, .ref fa), (5, .ref ga), (6, .ref ra), (7, .int (nI (lt + lp_ms (lp_g (lc code) g s) (lc code s) 3))), (8, .int (nI (tm + 0))), (9, .ref ba), (10, .int (nI s)), (11, .int (nI (lp_as (lp_g (lc code) g s) (lc code s) 3))), (12, .int (nI 0))]) rfl ?_
              exact loop_170 363 0 0 (fun j => if j < 3 ∧ 0 < (lp_g (lc code) g s) (1 + j) then U j + (lc code s) j else U j) M3 hs9 hls hv3 hU9 (fun k hk => by rw [Nat.mul_zero, Nat.sub_zero, hrk]; exact hrest k hk) (Or.inl ⟨rfl, fun k hk h0 => by rw [Nat.mul_zero]; exact lp_a_pos h0⟩) (by omega) (fun x x1 x2 => hf3 x x2) (by omega)
            · have c_160 : (lp_as (lp_g (lc code) g s) (lc code s) 3) = 0 := (nI_b (a := (lp_as (lp_g (lc code) g s) (lc code s) 3)) (b := 0) (by omega) (by omega)).2.2.mp c_160
              have hs0 : lp_s (lp_g (lc code) g s) (lc code s) = 0 := by rw [← lp_as_3]; exact c_160
              refine cq_iconst F (v := 1) dL_plan_163 rfl ?_
              refine cq_goto F (tgt := 168) dL_plan_164 (by decide) ?_
              refine cq_istore F dL_plan_168 (by decide) ?_
              refine cq_iload F dL_plan_170 rfl ?_
              refine cq_if_ne F (tgt := 258) dL_plan_172 (by decide) (fun c_172 => ?_) (fun c_172 => ?_)
              · have c_172 : ¬ 1 = 0 := fun z => c_172 ((nI_b (a := 1) (b := 0) (by omega) (by omega)).2.2.mpr z)
                refine cq_iload F dL_plan_258 rfl ?_
                refine cq_if_le F (tgt := 274) dL_plan_260 (by decide) (fun c_260 => ?_) (fun c_260 => ?_)
                · have c_260 : (lp_as (lp_g (lc code) g s) (lc code s) 3) ≤ 0 := (nI_b (a := (lp_as (lp_g (lc code) g s) (lc code s) 3)) (b := 0) (by omega) (by omega)).1.mp c_260
                  refine cq_iinc F dL_plan_274 rfl (by decide) (fun x_274 e_274 => ?_)
                  obtain rfl : x_274 = nI (s + 1) := by rw [e_274]; exact nI_1 _
                  refine cq_goto F (tgt := 34) dL_plan_277 (by decide) ?_
                  refine cq_loc (L2 := [(0, .int (nI (g 1))), (1, .int (nI (g 2))), (2, .int (nI (g 3))), (3, .int (nI code)), (4, .ref fa), (5, .ref ga), (6, .ref ra), (7, .int (nI (lt + lp_ms (lp_g (lc code) g s) (lc code s) 3))), (8, .int (nI tm)), (9, .ref ba), (10, .int (nI (s + 1)))]) rfl ?_
                  exact ih_34 X2 ra ba (s + 1) (lt + lp_ms (lp_g (lc code) g s) (lc code s) 3) tm (fun j => if j < 3 ∧ 0 < (lp_g (lc code) g s) (1 + j) then U j + (lc code s) j else U j) M3 hra hba hfX hgX2 hgX hra2 hrb (by omega) (by show _ = lp_nx (lp_g (lc code) g s) (lc code s) 7; rw [(show lp_nx (lp_g (lc code) g s) (lc code s) = (lp_g (lc code) g s) from if_pos hs0), lp_ms_0 hs0, hlt]; rfl) (by show _ = lp_nx (lp_g (lc code) g s) (lc code s) 0; rw [(show lp_nx (lp_g (lc code) g s) (lc code s) = (lp_g (lc code) g s) from if_pos hs0)]; exact htm) (fun k hk => by show pr _ (lp_nx (lp_g (lc code) g s) (lc code s) (1 + k)); rw [(show lp_nx (lp_g (lc code) g s) (lc code s) = (lp_g (lc code) g s) from if_pos hs0), hrk]; exact hrest k hk) hv3 (fun k hk => ⟨(hU9 k hk).1, fun z => by have z : 0 < lp_nx (lp_g (lc code) g s) (lc code s) (1 + k) := z; show _ = lp_nx (lp_g (lc code) g s) (lc code s) (4 + k); rw [(show lp_nx (lp_g (lc code) g s) (lc code s) = (lp_g (lc code) g s) from if_pos hs0)] at z ⊢; have q9 := (hU9 k hk).2 z; have q8 := lp_zero hs0 hk; have q7 := (hU k hk).2 z; refine q9.trans ?_; unfold lp_a at q8 ⊢; rw [if_pos z] at q8 ⊢; omega⟩) (by show lk _ _ _ (lp_no _ _ _); unfold lp_no; rw [if_pos hs0]; exact hlk.same (hf3 _ (by omega)) (hf3 _ (by omega))) (fun x x1 x2 => by rw [hf3 x (by omega)]; exact hf2 x x1 x2) (by omega)
                · have c_260 : ¬ (lp_as (lp_g (lc code) g s) (lc code s) 3) ≤ 0 := fun z => c_260 ((nI_b (a := (lp_as (lp_g (lc code) g s) (lc code s) 3)) (b := 0) (by omega) (by omega)).1.mpr z)
                  omega
              · have c_172 : 1 = 0 := (nI_b (a := 1) (b := 0) (by omega) (by omega)).2.2.mp c_172
                omega
          · have c_49 : ¬ 3 ≤ k := fun z => c_49 ((nI_b (a := 3) (b := k) (by omega) (by omega)).1.mpr z)
            refine cq_iload_n F (i := 3) dL_plan_52 rfl rfl ?_
            refine cq_iconst F (v := 4) dL_plan_53 rfl ?_
            refine cq_iload F dL_plan_54 rfl ?_
            refine cq_imul F dL_plan_56 ?_
            rw [show (4 * nI k : Int32) = nI (4 * k) from pk_mul _ _]
            refine cq_ishr F dL_plan_57 ?_
            refine cq_iconst F (v := 3) dL_plan_58 rfl ?_
            refine cq_iand F dL_plan_59 ?_
            rw [sh_3 (by omega) (by omega)]
            refine cq_istore F dL_plan_60 (by decide) ?_
            refine cq_iload_n F (i := 3) dL_plan_62 rfl rfl ?_
            refine cq_iconst F (v := 4) dL_plan_63 rfl ?_
            refine cq_iload F dL_plan_64 rfl ?_
            refine cq_imul F dL_plan_66 ?_
            rw [show (4 * nI k : Int32) = nI (4 * k) from pk_mul _ _]
            refine cq_iconst F (v := 2) dL_plan_67 rfl ?_
            refine cq_iadd F dL_plan_68 ?_
            rw [show (nI (4 * k) + 2 : Int32) = nI (4 * k + 2) from nI_add _ _]
            refine cq_ishr F dL_plan_69 ?_
            refine cq_iconst F (v := 3) dL_plan_70 rfl ?_
            refine cq_iand F dL_plan_71 ?_
            rw [sh_3 (by omega) (by omega)]
            refine cq_istore F dL_plan_72 (by decide) ?_
            refine cq_aload F dL_plan_74 rfl ?_
            refine cq_iload F dL_plan_76 rfl ?_
            refine cq_iald_j F (j := k) hra.1 hra.2 rfl ⟨(by omega), by decide⟩ dL_plan_78 ?_
            refine cq_if_le F (tgt := 110) dL_plan_79 (by decide) (fun c_79 => ?_) (fun c_79 => ?_)
            · have hR0 : ¬ 0 < (lp_g (lc code) g s) (1 + k) := by
                have q := (hrest k (by omega)).le (by have := hR k (by omega); omega)
                rw [← hrk] at q
                have q2 := q.mp c_79
                omega
              refine cq_iconst F (v := 0) dL_plan_110 rfl ?_
              refine cq_istore F dL_plan_111 (by decide) ?_
              have hmo : (if 0 < (lp_g (lc code) g s) (1 + k) then (lc code s) k else 0) = 0 := by rw [if_neg hR0]
              refine cq_aload F dL_plan_113 rfl ?_
              refine cq_iload F dL_plan_115 rfl ?_
              refine cq_dup2 F dL_plan_117 rfl rfl ?_
              refine cq_iald_j F (j := k) hba.1 hba.2 rfl ⟨(by omega), by decide⟩ dL_plan_118 ?_
              rw [hv3 _ (by omega)]
              refine cq_iload F dL_plan_119 rfl ?_
              refine cq_iadd F dL_plan_121 ?_
              rw [show (nI ((fun j => if j < k ∧ 0 < (lp_g (lc code) g s) (1 + j) then U j + (lc code s) j else U j) (k)) + 0 : Int32) = nI (((fun j => if j < k ∧ 0 < (lp_g (lc code) g s) (1 + j) then U j + (lc code s) j else U j) (k)) + 0) from nI_add _ _]
              refine cq_iast_j F (j := k) hba.1 hba.2 rfl ⟨(by omega), by decide⟩ dL_plan_122 (fun M_122 h_122 => ?_)
              obtain ⟨g_122, eg_122⟩ : ∃ z, z = ns_up (fun j => if j < k ∧ 0 < (lp_g (lc code) g s) (1 + j) then U j + (lc code s) j else U j) (k) ((((fun j => if j < k ∧ 0 < (lp_g (lc code) g s) (1 + j) then U j + (lc code s) j else U j) (k)) + 0)) := ⟨_, rfl⟩
              have v_122_ba : cq_nv M_122 ba 3 g_122 := by rw [eg_122]; exact hv3.up h_122
              refine cq_iload F dL_plan_123 rfl ?_
              refine cq_iload F dL_plan_125 rfl ?_
              refine cq_iadd F dL_plan_127 ?_
              rw [show (nI q + 0 : Int32) = nI (q + 0) from nI_add _ _]
              refine cq_istore F dL_plan_128 (by decide) ?_
              refine cq_iload F dL_plan_130 rfl ?_
              refine cq_aload F dL_plan_132 rfl ?_
              refine cq_iload F dL_plan_134 rfl ?_
              refine cq_iald_j F (j := k) hra.1 hra.2 rfl ⟨(by omega), by decide⟩ dL_plan_136 ?_
              rw [show M_122 ra k = M3 ra k by rw [h_122, cq_up_a (by omega)]]
              refine cq_if_le F (tgt := 148) dL_plan_137 (by decide) (fun c_137 => ?_) (fun c_137 => ?_)
              · refine cq_iconst F (v := 0) dL_plan_148 rfl ?_
                refine cq_iadd F dL_plan_149 ?_
                rw [show (nI w + 0 : Int32) = nI (w + 0) from nI_add _ _]
                have hasum : lp_a (lp_g (lc code) g s) (lc code s) k = 0 := by
                  unfold lp_a
                  rw [if_neg hR0]
                refine cq_istore F dL_plan_150 (by decide) ?_
                refine cq_iinc F dL_plan_152 rfl (by decide) (fun x_152 e_152 => ?_)
                obtain rfl : x_152 = nI (k + 1) := by rw [e_152]; exact nI_1 _
                refine cq_goto F (tgt := 46) dL_plan_155 (by decide) ?_
                refine cq_loc (L2 := [(0, .int (nI (g 1))), (1, .int (nI (g 2))), (2, .int (nI (g 3))), (3, .int (nI code)), (4, .ref fa), (5, .ref ga), (6, .ref ra), (7, .int (nI (q + 0))), (8, .int (nI tm)), (9, .ref ba), (10, .int (nI s)), (11, .int (nI (w + 0))), (12, .int (nI (k + 1)))]) rfl ?_
                exact ih_46 (k + 1) (q + 0) (w + 0) M_122 hs9 (by omega) (by rw [hq]; show _ = lt + (lp_ms (lp_g (lc code) g s) (lc code s) k + (if 0 < (lp_g (lc code) g s) (1 + k) then (lc code s) k else 0)); rw [hmo]; omega) (by show _ = lp_as (lp_g (lc code) g s) (lc code s) k + lp_a (lp_g (lc code) g s) (lc code s) k; rw [hw, hasum]) (v_122_ba.ext (fun j hj => by rw [eg_122]; exact lp_row hmo j)) (fun x hx => by rw [h_122, cq_up_row hx]; exact hf3 x hx) (by omega)
              · exact absurd c_137 (fun z => z c_79)
            · have hR0 : 0 < (lp_g (lc code) g s) (1 + k) := by
                have q := (hrest k (by omega)).le (by have := hR k (by omega); omega)
                rw [← hrk] at q
                exact Nat.pos_of_ne_zero (fun z => c_79 (q.mpr z))
              refine cq_iload F dL_plan_82 rfl ?_
              refine cq_iload F dL_plan_84 rfl ?_
              refine cq_icmp_ne F (tgt := 93) dL_plan_86 (by decide) (fun c_86 => ?_) (fun c_86 => ?_)
              · have c_86 : ¬ (code / 2 ^ (4 * k) % 4) = s := fun z => c_86 ((nI_b (a := (code / 2 ^ (4 * k) % 4)) (b := s) (by omega) (by omega)).2.2.mpr z)
                refine cq_iconst F (v := 0) dL_plan_93 rfl ?_
                refine cq_iload F dL_plan_94 rfl ?_
                refine cq_iload F dL_plan_96 rfl ?_
                refine cq_icmp_ne F (tgt := 105) dL_plan_98 (by decide) (fun c_98 => ?_) (fun c_98 => ?_)
                · have c_98 : ¬ (code / 2 ^ (4 * k + 2) % 4) = s := fun z => c_98 ((nI_b (a := (code / 2 ^ (4 * k + 2) % 4)) (b := s) (by omega) (by omega)).2.2.mpr z)
                  refine cq_iconst F (v := 0) dL_plan_105 rfl ?_
                  refine cq_iadd F dL_plan_106 ?_
                  rw [show (0 + 0 : Int32) = 0 from by decide]
                  refine cq_goto F (tgt := 111) dL_plan_107 (by decide) ?_
                  refine cq_istore F dL_plan_111 (by decide) ?_
                  have hmo : (if 0 < (lp_g (lc code) g s) (1 + k) then (lc code s) k else 0) = 0 := by rw [if_pos hR0]; unfold lc; rw [if_neg c_86, if_neg c_98]
                  refine cq_aload F dL_plan_113 rfl ?_
                  refine cq_iload F dL_plan_115 rfl ?_
                  refine cq_dup2 F dL_plan_117 rfl rfl ?_
                  refine cq_iald_j F (j := k) hba.1 hba.2 rfl ⟨(by omega), by decide⟩ dL_plan_118 ?_
                  rw [hv3 _ (by omega)]
                  refine cq_iload F dL_plan_119 rfl ?_
                  refine cq_iadd F dL_plan_121 ?_
                  rw [show (nI ((fun j => if j < k ∧ 0 < (lp_g (lc code) g s) (1 + j) then U j + (lc code s) j else U j) (k)) + 0 : Int32) = nI (((fun j => if j < k ∧ 0 < (lp_g (lc code) g s) (1 + j) then U j + (lc code s) j else U j) (k)) + 0) from nI_add _ _]
                  refine cq_iast_j F (j := k) hba.1 hba.2 rfl ⟨(by omega), by decide⟩ dL_plan_122 (fun M_122 h_122 => ?_)
                  obtain ⟨g_122, eg_122⟩ : ∃ z, z = ns_up (fun j => if j < k ∧ 0 < (lp_g (lc code) g s) (1 + j) then U j + (lc code s) j else U j) (k) ((((fun j => if j < k ∧ 0 < (lp_g (lc code) g s) (1 + j) then U j + (lc code s) j else U j) (k)) + 0)) := ⟨_, rfl⟩
                  have v_122_ba : cq_nv M_122 ba 3 g_122 := by rw [eg_122]; exact hv3.up h_122
                  refine cq_iload F dL_plan_123 rfl ?_
                  refine cq_iload F dL_plan_125 rfl ?_
                  refine cq_iadd F dL_plan_127 ?_
                  rw [show (nI q + 0 : Int32) = nI (q + 0) from nI_add _ _]
                  refine cq_istore F dL_plan_128 (by decide) ?_
                  refine cq_iload F dL_plan_130 rfl ?_
                  refine cq_aload F dL_plan_132 rfl ?_
                  refine cq_iload F dL_plan_134 rfl ?_
                  refine cq_iald_j F (j := k) hra.1 hra.2 rfl ⟨(by omega), by decide⟩ dL_plan_136 ?_
                  rw [show M_122 ra k = M3 ra k by rw [h_122, cq_up_a (by omega)]]
                  refine cq_if_le F (tgt := 148) dL_plan_137 (by decide) (fun c_137 => ?_) (fun c_137 => ?_)
                  · exact absurd c_137 c_79
                  · refine cq_aload F dL_plan_140 rfl ?_
                    refine cq_iload F dL_plan_142 rfl ?_
                    refine cq_iald_j F (j := k) hba.1 hba.2 rfl ⟨(by omega), by decide⟩ dL_plan_144 ?_
                    rw [v_122_ba _ (by omega)]
                    refine cq_goto F (tgt := 149) dL_plan_145 (by decide) ?_
                    refine cq_iadd F dL_plan_149 ?_
                    rw [show (nI w + nI (g_122 (k)) : Int32) = nI (w + (g_122 (k))) from nI_add _ _]
                    have hasum : lp_a (lp_g (lc code) g s) (lc code s) k = g_122 k := by
                      unfold lp_a
                      rw [if_pos hR0, eg_122, ns_up_s]
                      show _ = (if k < k ∧ 0 < (lp_g (lc code) g s) (1 + k) then U k + (lc code s) k else U k) + 0
                      rw [if_neg (fun z => absurd z.1 (Nat.lt_irrefl _)), (hU k (by omega)).2 hR0]
                      rw [if_pos hR0] at hmo
                      omega
                    refine cq_istore F dL_plan_150 (by decide) ?_
                    refine cq_iinc F dL_plan_152 rfl (by decide) (fun x_152 e_152 => ?_)
                    obtain rfl : x_152 = nI (k + 1) := by rw [e_152]; exact nI_1 _
                    refine cq_goto F (tgt := 46) dL_plan_155 (by decide) ?_
                    refine cq_loc (L2 := [(0, .int (nI (g 1))), (1, .int (nI (g 2))), (2, .int (nI (g 3))), (3, .int (nI code)), (4, .ref fa), (5, .ref ga), (6, .ref ra), (7, .int (nI (q + 0))), (8, .int (nI tm)), (9, .ref ba), (10, .int (nI s)), (11, .int (nI (w + (g_122 (k))))), (12, .int (nI (k + 1)))]) rfl ?_
                    exact ih_46 (k + 1) (q + 0) (w + (g_122 (k))) M_122 hs9 (by omega) (by rw [hq]; show _ = lt + (lp_ms (lp_g (lc code) g s) (lc code s) k + (if 0 < (lp_g (lc code) g s) (1 + k) then (lc code s) k else 0)); rw [hmo]; omega) (by show _ = lp_as (lp_g (lc code) g s) (lc code s) k + lp_a (lp_g (lc code) g s) (lc code s) k; rw [hw, hasum]) (v_122_ba.ext (fun j hj => by rw [eg_122]; exact lp_row hmo j)) (fun x hx => by rw [h_122, cq_up_row hx]; exact hf3 x hx) (by omega)
                · have c_98 : (code / 2 ^ (4 * k + 2) % 4) = s := (nI_b (a := (code / 2 ^ (4 * k + 2) % 4)) (b := s) (by omega) (by omega)).2.2.mp c_98
                  refine cq_iconst F (v := 1) dL_plan_101 rfl ?_
                  refine cq_goto F (tgt := 106) dL_plan_102 (by decide) ?_
                  refine cq_iadd F dL_plan_106 ?_
                  rw [show (0 + 1 : Int32) = 1 from by decide]
                  refine cq_goto F (tgt := 111) dL_plan_107 (by decide) ?_
                  refine cq_istore F dL_plan_111 (by decide) ?_
                  have hmo : (if 0 < (lp_g (lc code) g s) (1 + k) then (lc code s) k else 0) = 1 := by rw [if_pos hR0]; unfold lc; rw [if_neg c_86, if_pos c_98]
                  refine cq_aload F dL_plan_113 rfl ?_
                  refine cq_iload F dL_plan_115 rfl ?_
                  refine cq_dup2 F dL_plan_117 rfl rfl ?_
                  refine cq_iald_j F (j := k) hba.1 hba.2 rfl ⟨(by omega), by decide⟩ dL_plan_118 ?_
                  rw [hv3 _ (by omega)]
                  refine cq_iload F dL_plan_119 rfl ?_
                  refine cq_iadd F dL_plan_121 ?_
                  rw [show (nI ((fun j => if j < k ∧ 0 < (lp_g (lc code) g s) (1 + j) then U j + (lc code s) j else U j) (k)) + 1 : Int32) = nI (((fun j => if j < k ∧ 0 < (lp_g (lc code) g s) (1 + j) then U j + (lc code s) j else U j) (k)) + 1) from nI_add _ _]
                  refine cq_iast_j F (j := k) hba.1 hba.2 rfl ⟨(by omega), by decide⟩ dL_plan_122 (fun M_122 h_122 => ?_)
                  obtain ⟨g_122, eg_122⟩ : ∃ z, z = ns_up (fun j => if j < k ∧ 0 < (lp_g (lc code) g s) (1 + j) then U j + (lc code s) j else U j) (k) ((((fun j => if j < k ∧ 0 < (lp_g (lc code) g s) (1 + j) then U j + (lc code s) j else U j) (k)) + 1)) := ⟨_, rfl⟩
                  have v_122_ba : cq_nv M_122 ba 3 g_122 := by rw [eg_122]; exact hv3.up h_122
                  refine cq_iload F dL_plan_123 rfl ?_
                  refine cq_iload F dL_plan_125 rfl ?_
                  refine cq_iadd F dL_plan_127 ?_
                  rw [show (nI q + 1 : Int32) = nI (q + 1) from nI_add _ _]
                  refine cq_istore F dL_plan_128 (by decide) ?_
                  refine cq_iload F dL_plan_130 rfl ?_
                  refine cq_aload F dL_plan_132 rfl ?_
                  refine cq_iload F dL_plan_134 rfl ?_
                  refine cq_iald_j F (j := k) hra.1 hra.2 rfl ⟨(by omega), by decide⟩ dL_plan_136 ?_
                  rw [show M_122 ra k = M3 ra k by rw [h_122, cq_up_a (by omega)]]
                  refine cq_if_le F (tgt := 148) dL_plan_137 (by decide) (fun c_137 => ?_) (fun c_137 => ?_)
                  · exact absurd c_137 c_79
                  · refine cq_aload F dL_plan_140 rfl ?_
                    refine cq_iload F dL_plan_142 rfl ?_
                    refine cq_iald_j F (j := k) hba.1 hba.2 rfl ⟨(by omega), by decide⟩ dL_plan_144 ?_
                    rw [v_122_ba _ (by omega)]
                    refine cq_goto F (tgt := 149) dL_plan_145 (by decide) ?_
                    refine cq_iadd F dL_plan_149 ?_
                    rw [show (nI w + nI (g_122 (k)) : Int32) = nI (w + (g_122 (k))) from nI_add _ _]
                    have hasum : lp_a (lp_g (lc code) g s) (lc code s) k = g_122 k := by
                      unfold lp_a
                      rw [if_pos hR0, eg_122, ns_up_s]
                      show _ = (if k < k ∧ 0 < (lp_g (lc code) g s) (1 + k) then U k + (lc code s) k else U k) + 1
                      rw [if_neg (fun z => absurd z.1 (Nat.lt_irrefl _)), (hU k (by omega)).2 hR0]
                      rw [if_pos hR0] at hmo
                      omega
                    refine cq_istore F dL_plan_150 (by decide) ?_
                    refine cq_iinc F dL_plan_152 rfl (by decide) (fun x_152 e_152 => ?_)
                    obtain rfl : x_152 = nI (k + 1) := by rw [e_152]; exact nI_1 _
                    refine cq_goto F (tgt := 46) dL_plan_155 (by decide) ?_
                    refine cq_loc (L2 := [(0, .int (nI (g 1))), (1, .int (nI (g 2))), (2, .int (nI (g 3))), (3, .int (nI code)), (4, .ref fa), (5, .ref ga), (6, .ref ra), (7, .int (nI (q + 1))), (8, .int (nI tm)), (9, .ref ba), (10, .int (nI s)), (11, .int (nI (w + (g_122 (k))))), (12, .int (nI (k + 1)))]) rfl ?_
                    exact ih_46 (k + 1) (q + 1) (w + (g_122 (k))) M_122 hs9 (by omega) (by rw [hq]; show _ = lt + (lp_ms (lp_g (lc code) g s) (lc code s) k + (if 0 < (lp_g (lc code) g s) (1 + k) then (lc code s) k else 0)); rw [hmo]; omega) (by show _ = lp_as (lp_g (lc code) g s) (lc code s) k + lp_a (lp_g (lc code) g s) (lc code s) k; rw [hw, hasum]) (v_122_ba.ext (fun j hj => by rw [eg_122]; exact lp_row hmo j)) (fun x hx => by rw [h_122, cq_up_row hx]; exact hf3 x hx) (by omega)
              · have c_86 : (code / 2 ^ (4 * k) % 4) = s := (nI_b (a := (code / 2 ^ (4 * k) % 4)) (b := s) (by omega) (by omega)).2.2.mp c_86
                refine cq_iconst F (v := 1) dL_plan_89 rfl ?_
                refine cq_goto F (tgt := 94) dL_plan_90 (by decide) ?_
                refine cq_iload F dL_plan_94 rfl ?_
                refine cq_iload F dL_plan_96 rfl ?_
                refine cq_icmp_ne F (tgt := 105) dL_plan_98 (by decide) (fun c_98 => ?_) (fun c_98 => ?_)
                · have c_98 : ¬ (code / 2 ^ (4 * k + 2) % 4) = s := fun z => c_98 ((nI_b (a := (code / 2 ^ (4 * k + 2) % 4)) (b := s) (by omega) (by omega)).2.2.mpr z)
                  refine cq_iconst F (v := 0) dL_plan_105 rfl ?_
                  refine cq_iadd F dL_plan_106 ?_
                  rw [show (1 + 0 : Int32) = 1 from by decide]
                  refine cq_goto F (tgt := 111) dL_plan_107 (by decide) ?_
                  refine cq_istore F dL_plan_111 (by decide) ?_
                  have hmo : (if 0 < (lp_g (lc code) g s) (1 + k) then (lc code s) k else 0) = 1 := by rw [if_pos hR0]; unfold lc; rw [if_pos c_86, if_neg c_98]
                  refine cq_aload F dL_plan_113 rfl ?_
                  refine cq_iload F dL_plan_115 rfl ?_
                  refine cq_dup2 F dL_plan_117 rfl rfl ?_
                  refine cq_iald_j F (j := k) hba.1 hba.2 rfl ⟨(by omega), by decide⟩ dL_plan_118 ?_
                  rw [hv3 _ (by omega)]
                  refine cq_iload F dL_plan_119 rfl ?_
                  refine cq_iadd F dL_plan_121 ?_
                  rw [show (nI ((fun j => if j < k ∧ 0 < (lp_g (lc code) g s) (1 + j) then U j + (lc code s) j else U j) (k)) + 1 : Int32) = nI (((fun j => if j < k ∧ 0 < (lp_g (lc code) g s) (1 + j) then U j + (lc code s) j else U j) (k)) + 1) from nI_add _ _]
                  refine cq_iast_j F (j := k) hba.1 hba.2 rfl ⟨(by omega), by decide⟩ dL_plan_122 (fun M_122 h_122 => ?_)
                  obtain ⟨g_122, eg_122⟩ : ∃ z, z = ns_up (fun j => if j < k ∧ 0 < (lp_g (lc code) g s) (1 + j) then U j + (lc code s) j else U j) (k) ((((fun j => if j < k ∧ 0 < (lp_g (lc code) g s) (1 + j) then U j + (lc code s) j else U j) (k)) + 1)) := ⟨_, rfl⟩
                  have v_122_ba : cq_nv M_122 ba 3 g_122 := by rw [eg_122]; exact hv3.up h_122
                  refine cq_iload F dL_plan_123 rfl ?_
                  refine cq_iload F dL_plan_125 rfl ?_
                  refine cq_iadd F dL_plan_127 ?_
                  rw [show (nI q + 1 : Int32) = nI (q + 1) from nI_add _ _]
                  refine cq_istore F dL_plan_128 (by decide) ?_
                  refine cq_iload F dL_plan_130 rfl ?_
                  refine cq_aload F dL_plan_132 rfl ?_
                  refine cq_iload F dL_plan_134 rfl ?_
                  refine cq_iald_j F (j := k) hra.1 hra.2 rfl ⟨(by omega), by decide⟩ dL_plan_136 ?_
                  rw [show M_122 ra k = M3 ra k by rw [h_122, cq_up_a (by omega)]]
                  refine cq_if_le F (tgt := 148) dL_plan_137 (by decide) (fun c_137 => ?_) (fun c_137 => ?_)
                  · exact absurd c_137 c_79
                  · refine cq_aload F dL_plan_140 rfl ?_
                    refine cq_iload F dL_plan_142 rfl ?_
                    refine cq_iald_j F (j := k) hba.1 hba.2 rfl ⟨(by omega), by decide⟩ dL_plan_144 ?_
                    rw [v_122_ba _ (by omega)]
                    refine cq_goto F (tgt := 149) dL_plan_145 (by decide) ?_
                    refine cq_iadd F dL_plan_149 ?_
                    rw [show (nI w + nI (g_122 (k)) : Int32) = nI (w + (g_122 (k))) from nI_add _ _]
                    have hasum : lp_a (lp_g (lc code) g s) (lc code s) k = g_122 k := by
                      unfold lp_a
                      rw [if_pos hR0, eg_122, ns_up_s]
                      show _ = (if k < k ∧ 0 < (lp_g (lc code) g s) (1 + k) then U k + (lc code s) k else U k) + 1
                      rw [if_neg (fun z => absurd z.1 (Nat.lt_irrefl _)), (hU k (by omega)).2 hR0]
                      rw [if_pos hR0] at hmo
                      omega
                    refine cq_istore F dL_plan_150 (by decide) ?_
                    refine cq_iinc F dL_plan_152 rfl (by decide) (fun x_152 e_152 => ?_)
                    obtain rfl : x_152 = nI (k + 1) := by rw [e_152]; exact nI_1 _
                    refine cq_goto F (tgt := 46) dL_plan_155 (by decide) ?_
                    refine cq_loc (L2 := [(0, .int (nI (g 1))), (1, .int (nI (g 2))), (2, .int (nI (g 3))), (3, .int (nI code)), (4, .ref fa), (5, .ref ga), (6, .ref ra), (7, .int (nI (q + 1))), (8, .int (nI tm)), (9, .ref ba), (10, .int (nI s)), (11, .int (nI (w + (g_122 (k))))), (12, .int (nI (k + 1)))]) rfl ?_
                    exact ih_46 (k + 1) (q + 1) (w + (g_122 (k))) M_122 hs9 (by omega) (by rw [hq]; show _ = lt + (lp_ms (lp_g (lc code) g s) (lc code s) k + (if 0 < (lp_g (lc code) g s) (1 + k) then (lc code s) k else 0)); rw [hmo]; omega) (by show _ = lp_as (lp_g (lc code) g s) (lc code s) k + lp_a (lp_g (lc code) g s) (lc code s) k; rw [hw, hasum]) (v_122_ba.ext (fun j hj => by rw [eg_122]; exact lp_row hmo j)) (fun x hx => by rw [h_122, cq_up_row hx]; exact hf3 x hx) (by omega)
                · have c_98 : (code / 2 ^ (4 * k + 2) % 4) = s := (nI_b (a := (code / 2 ^ (4 * k + 2) % 4)) (b := s) (by omega) (by omega)).2.2.mp c_98
                  refine cq_iconst F (v := 1) dL_plan_101 rfl ?_
                  refine cq_goto F (tgt := 106) dL_plan_102 (by decide) ?_
                  refine cq_iadd F dL_plan_106 ?_
                  rw [show (1 + 1 : Int32) = 2 from by decide]
                  refine cq_goto F (tgt := 111) dL_plan_107 (by decide) ?_
                  refine cq_istore F dL_plan_111 (by decide) ?_
                  have hmo : (if 0 < (lp_g (lc code) g s) (1 + k) then (lc code s) k else 0) = 2 := by rw [if_pos hR0]; unfold lc; rw [if_pos c_86, if_pos c_98]
                  refine cq_aload F dL_plan_113 rfl ?_
                  refine cq_iload F dL_plan_115 rfl ?_
                  refine cq_dup2 F dL_plan_117 rfl rfl ?_
                  refine cq_iald_j F (j := k) hba.1 hba.2 rfl ⟨(by omega), by decide⟩ dL_plan_118 ?_
                  rw [hv3 _ (by omega)]
                  refine cq_iload F dL_plan_119 rfl ?_
                  refine cq_iadd F dL_plan_121 ?_
                  rw [show (nI ((fun j => if j < k ∧ 0 < (lp_g (lc code) g s) (1 + j) then U j + (lc code s) j else U j) (k)) + 2 : Int32) = nI (((fun j => if j < k ∧ 0 < (lp_g (lc code) g s) (1 + j) then U j + (lc code s) j else U j) (k)) + 2) from nI_add _ _]
                  refine cq_iast_j F (j := k) hba.1 hba.2 rfl ⟨(by omega), by decide⟩ dL_plan_122 (fun M_122 h_122 => ?_)
                  obtain ⟨g_122, eg_122⟩ : ∃ z, z = ns_up (fun j => if j < k ∧ 0 < (lp_g (lc code) g s) (1 + j) then U j + (lc code s) j else U j) (k) ((((fun j => if j < k ∧ 0 < (lp_g (lc code) g s) (1 + j) then U j + (lc code s) j else U j) (k)) + 2)) := ⟨_, rfl⟩
                  have v_122_ba : cq_nv M_122 ba 3 g_122 := by rw [eg_122]; exact hv3.up h_122
                  refine cq_iload F dL_plan_123 rfl ?_
                  refine cq_iload F dL_plan_125 rfl ?_
                  refine cq_iadd F dL_plan_127 ?_
                  rw [show (nI q + 2 : Int32) = nI (q + 2) from nI_add _ _]
                  refine cq_istore F dL_plan_128 (by decide) ?_
                  refine cq_iload F dL_plan_130 rfl ?_
                  refine cq_aload F dL_plan_132 rfl ?_
                  refine cq_iload F dL_plan_134 rfl ?_
                  refine cq_iald_j F (j := k) hra.1 hra.2 rfl ⟨(by omega), by decide⟩ dL_plan_136 ?_
                  rw [show M_122 ra k = M3 ra k by rw [h_122, cq_up_a (by omega)]]
                  refine cq_if_le F (tgt := 148) dL_plan_137 (by decide) (fun c_137 => ?_) (fun c_137 => ?_)
                  · exact absurd c_137 c_79
                  · refine cq_aload F dL_plan_140 rfl ?_
                    refine cq_iload F dL_plan_142 rfl ?_
                    refine cq_iald_j F (j := k) hba.1 hba.2 rfl ⟨(by omega), by decide⟩ dL_plan_144 ?_
                    rw [v_122_ba _ (by omega)]
                    refine cq_goto F (tgt := 149) dL_plan_145 (by decide) ?_
                    refine cq_iadd F dL_plan_149 ?_
                    rw [show (nI w + nI (g_122 (k)) : Int32) = nI (w + (g_122 (k))) from nI_add _ _]
                    have hasum : lp_a (lp_g (lc code) g s) (lc code s) k = g_122 k := by
                      unfold lp_a
                      rw [if_pos hR0, eg_122, ns_up_s]
                      show _ = (if k < k ∧ 0 < (lp_g (lc code) g s) (1 + k) then U k + (lc code s) k else U k) + 2
                      rw [if_neg (fun z => absurd z.1 (Nat.lt_irrefl _)), (hU k (by omega)).2 hR0]
                      rw [if_pos hR0] at hmo
                      omega
                    refine cq_istore F dL_plan_150 (by decide) ?_
                    refine cq_iinc F dL_plan_152 rfl (by decide) (fun x_152 e_152 => ?_)
                    obtain rfl : x_152 = nI (k + 1) := by rw [e_152]; exact nI_1 _
                    refine cq_goto F (tgt := 46) dL_plan_155 (by decide) ?_
                    refine cq_loc (L2 := [(0, .int (nI (g 1))), (1, .int (nI (g 2))), (2, .int (nI (g 3))), (3, .int (nI code)), (4, .ref fa), (5, .ref ga), (6, .ref ra), (7, .int (nI (q + 2))), (8, .int (nI tm)), (9, .ref ba), (10, .int (nI s)), (11, .int (nI (w + (g_122 (k))))), (12, .int (nI (k + 1)))]) rfl ?_
                    exact ih_46 (k + 1) (q + 2) (w + (g_122 (k))) M_122 hs9 (by omega) (by rw [hq]; show _ = lt + (lp_ms (lp_g (lc code) g s) (lc code s) k + (if 0 < (lp_g (lc code) g s) (1 + k) then (lc code s) k else 0)); rw [hmo]; omega) (by show _ = lp_as (lp_g (lc code) g s) (lc code s) k + lp_a (lp_g (lc code) g s) (lc code s) k; rw [hw, hasum]) (v_122_ba.ext (fun j hj => by rw [eg_122]; exact lp_row hmo j)) (fun x hx => by rw [h_122, cq_up_row hx]; exact hf3 x hx) (by omega)
      refine cq_iload F dL_plan_34 rfl ?_
      refine cq_iconst F (v := 3) dL_plan_36 rfl ?_
      refine cq_icmp_ge F (tgt := 280) dL_plan_37 (by decide) (fun c_37 => ?_) (fun c_37 => ?_)
      · have c_37 : 3 ≤ s := (nI_b (a := 3) (b := s) (by omega) (by omega)).1.mp c_37
        obtain rfl : s = 3 := by omega
        refine cq_shrink (X0 := X) (M0 := M2) hgX (fun _ _ => rfl) ?_
        exact cq_vret F hr (by decide) (by decide) dL_plan_280 ⟨rfl, ⟨hlk, fun x x1 x2 => hf2 x x1 x2⟩⟩
      · have c_37 : ¬ 3 ≤ s := fun z => c_37 ((nI_b (a := 3) (b := s) (by omega) (by omega)).1.mpr z)
        have hs9 : s < 3 := by omega
        refine cq_iconst F (v := 0) dL_plan_40 rfl ?_
        refine cq_istore F dL_plan_41 (by decide) ?_
        refine cq_iconst F (v := 0) dL_plan_43 rfl ?_
        refine cq_istore F dL_plan_44 (by decide) ?_
        refine cq_loc (L2 := [(0, .int (nI (g 1))), (1, .int (nI (g 2))), (2, .int (nI (g 3))), (3, .int (nI code)), (4, .ref fa), (5, .ref ga), (6, .ref ra), (7, .int (nI lt)), (8, .int (nI tm)), (9, .ref ba), (10, .int (nI s)), (11, .int (nI 0)), (12, .int (nI 0))]) rfl ?_
        exact loop_46 4 0 lt 0 M2 (by omega) (by omega) rfl rfl (hvU.ext (fun j hj => (if_neg (fun z => absurd z.1 (by omega))).symm)) (fun _ _ => rfl) (by omega)
  refine cq_iconst F (v := 3) dL_plan_0 rfl ?_
  refine cq_newI F (N := 3) (F.1.2.2.2.2 _ (List.mem_of_getElem? (l := wsL_plan) (i := 1) (a := .arrayClass .int) (by decide +kernel))) rfl (by decide) ⟨Nat.le_of_ble_eq_true rfl, Nat.le_of_ble_eq_true rfl⟩ dL_plan_1 (fun q_1 X_1 M_1 hlt_1 hge_1 hrw_1 hM_1 hz_1 hlt2_1 => ?_)
  have l1 : ga < q_1 := hlt_1 _ (by rw [hg0.1]; decide)
  have hf0 := hf0.ge hge_1
  have hg0 := hg0.ge hge_1
  refine cq_astore F dL_plan_3 (by decide) ?_
  refine cq_aload F dL_plan_5 rfl ?_
  refine cq_iconst F (v := 0) dL_plan_7 rfl ?_
  refine cq_iload_n F (i := 0) dL_plan_8 rfl rfl ?_
  refine cq_iast_j F (j := 0) hrw_1.1 hrw_1.2 rfl ⟨(by omega), by decide⟩ dL_plan_9 (fun M_9 h_9 => ?_)
  obtain ⟨g_9, eg_9⟩ : ∃ z, z = ns_up (fun _ => 0) (0) ((g 1)) := ⟨_, rfl⟩
  have v_9_q_1 : cq_nv M_9 q_1 3 g_9 := by rw [eg_9]; exact hz_1.up h_9
  refine cq_aload F dL_plan_10 rfl ?_
  refine cq_iconst F (v := 1) dL_plan_12 rfl ?_
  refine cq_iload_n F (i := 1) dL_plan_13 rfl rfl ?_
  refine cq_iast_j F (j := 1) hrw_1.1 hrw_1.2 rfl ⟨(by omega), by decide⟩ dL_plan_14 (fun M_14 h_14 => ?_)
  obtain ⟨g_14, eg_14⟩ : ∃ z, z = ns_up g_9 (1) ((g 2)) := ⟨_, rfl⟩
  have v_14_q_1 : cq_nv M_14 q_1 3 g_14 := by rw [eg_14]; exact v_9_q_1.up h_14
  refine cq_aload F dL_plan_15 rfl ?_
  refine cq_iconst F (v := 2) dL_plan_17 rfl ?_
  refine cq_iload_n F (i := 2) dL_plan_18 rfl rfl ?_
  refine cq_iast_j F (j := 2) hrw_1.1 hrw_1.2 rfl ⟨(by omega), by decide⟩ dL_plan_19 (fun M_19 h_19 => ?_)
  obtain ⟨g_19, eg_19⟩ : ∃ z, z = ns_up g_14 (2) ((g 3)) := ⟨_, rfl⟩
  have v_19_q_1 : cq_nv M_19 q_1 3 g_19 := by rw [eg_19]; exact v_14_q_1.up h_19
  refine cq_iconst F (v := 0) dL_plan_20 rfl ?_
  refine cq_istore F dL_plan_21 (by decide) ?_
  refine cq_iconst F (v := 0) dL_plan_23 rfl ?_
  refine cq_istore F dL_plan_24 (by decide) ?_
  refine cq_iconst F (v := 3) dL_plan_26 rfl ?_
  refine cq_newI F (N := 3) (F.1.2.2.2.2 _ (List.mem_of_getElem? (l := wsL_plan) (i := 1) (a := .arrayClass .int) (by decide +kernel))) rfl (by decide) ⟨Nat.le_of_ble_eq_true rfl, Nat.le_of_ble_eq_true rfl⟩ dL_plan_27 (fun q_27 X_27 M_27 hlt_27 hge_27 hrw_27 hM_27 hz_27 hlt2_27 => ?_)
  have l27 : q_1 < q_27 := hlt_27 _ (by rw [hrw_1.1]; decide)
  have hf0 := hf0.ge hge_27
  have hg0 := hg0.ge hge_27
  have v_27_q_1 := v_19_q_1.same (fun j => congrFun (hM_27 _ (by omega)) j)
  refine cq_astore F dL_plan_29 (by decide) ?_
  have e27 : ∀ x, x < q_1 → M_27 x = M x := fun x hx => by rw [hM_27 x (by omega), h_19, cq_up_row (by omega), h_14, cq_up_row (by omega), h_9, cq_up_row (by omega), hM_1 x hx]
  have hr27 : ∀ k, k < 3 → pr (M_27 q_1 k) (lp_g (lc code) g 0 (1 + k)) := fun k hk => by
    rw [v_27_q_1 k hk, eg_19, eg_14, eg_9]
    have h9 : k = 0 ∨ k = 1 ∨ k = 2 := by omega
    rcases h9 with rfl | rfl | rfl <;> exact pr.nat
  have v_27z : cq_nv M_27 q_27 3 (fun _ => 0) := hz_27
  refine cq_iconst F (v := 0) dL_plan_31 rfl ?_
  refine cq_istore F dL_plan_32 (by decide) ?_
  refine cq_loc (L2 := [(0, .int (nI (g 1))), (1, .int (nI (g 2))), (2, .int (nI (g 3))), (3, .int (nI code)), (4, .ref fa), (5, .ref ga), (6, .ref q_1), (7, .int (nI 0)), (8, .int (nI 0)), (9, .ref q_27), (10, .int (nI 0))]) rfl ?_
  exact loop_34 4 X_27 q_1 q_27 0 0 0 (fun _ => 0) M_27 (lq_row.ge hrw_1 hge_27) hrw_27 hf0 hg0 (hge_1.trans hge_27) l1 l27 (by omega) hb.2.1.symm hb.1.symm hr27 v_27z (fun k hk => ⟨Nat.zero_le _, fun _ => ((hb.2.2 k hk).2).symm⟩) (h.same (e27 _ (by omega)) (e27 _ (by omega))) (fun x x1 x2 => e27 x (by omega)) (by omega)
theorem hdVL_plan : yL_plan.cls = RL ∧ yL_plan.cls ≠ "java/lang/invoke/MethodHandle" ∧ yL_plan.cls ≠ "java/lang/invoke/VarHandle" ∧ (parseMethodDescriptor yL_plan.desc).map (fun d => d.parameters.length) = some 6 := by decide +kernel
