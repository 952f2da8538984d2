/-! CordClockModel: the sets of cords, the states of plans -/
/-- how many of the first n cords are in the set w; the row of a beginning -/
def pb_m (w : Nat) : Nat → Nat
  | 0 => 0
  | n + 1 => pb_m w n + w / 2 ^ n % 2
abbrev op_set (g : Nat → Nat) (u : Int32) : Prop := (0 ≤ u ∧ u < nI (2 ^ g 6)) ∧ pb_m u.toNatClampNeg 4 ≤ 3
theorem pb_sum : ∀ w, w < 16 → (((nI w &&& 1) + ((nI w >>> ((1 : Int32) &&& 31)) &&& 1)) + ((nI w >>> ((2 : Int32) &&& 31)) &&& 1)) + ((nI w >>> ((3 : Int32) &&& 31)) &&& 1) = nI (pb_m w 4) := by decide
theorem pb_4 : ∀ w, w < 16 → pb_m w 4 ≤ 4 := by decide
theorem pb_shl : ∀ n, n ≤ 4 → ((1 : Int32) <<< (nI n &&& 31)) = nI (2 ^ n) := by
  intro n hn
  have h : n = 0 ∨ n = 1 ∨ n = 2 ∨ n = 3 ∨ n = 4 := by omega
  rcases h with rfl | rfl | rfl | rfl | rfl <;> decide
theorem pl_v_of {g : Nat → Nat} {t i j k : Nat} (h : pl_ok g t) (h0 : i < pl_n g 0) (h1 : j < pl_n g 1) (h2 : k < pl_n g 2) : pl_v g (g 4 + i) (g 5 + j) (g 6 + k) := by
  intro q hq
  have h9 : q = 0 ∨ q = 1 ∨ q = 2 := by omega
  unfold pl_n at h0 h1 h2
  have r0 := (h.2.1 0 (by omega)).2.2
  have r1 := (h.2.1 1 (by omega)).2.2
  have r2 := (h.2.1 2 (by omega)).2.2
  rcases h9 with rfl | rfl | rfl
  · show g 4 ≤ g 4 + i ∧ g 4 + i ≤ 2 ∧ (g 1 = 0 → g 4 + i = 0)
    have r0 : g 1 = 0 → g 4 = 0 := r0
    have h0 : i < (if 0 < g 1 then 3 else 1) - g 4 := h0
    split at h0 <;> omega
  · show g 5 ≤ g 5 + j ∧ g 5 + j ≤ 2 ∧ (g 2 = 0 → g 5 + j = 0)
    have r1 : g 2 = 0 → g 5 = 0 := r1
    have h1 : j < (if 0 < g 2 then 3 else 1) - g 5 := h1
    split at h1 <;> omega
  · show g 6 ≤ g 6 + k ∧ g 6 + k ≤ 2 ∧ (g 3 = 0 → g 6 + k = 0)
    have r2 : g 3 = 0 → g 6 = 0 := r2
    have h2 : k < (if 0 < g 3 then 3 else 1) - g 6 := h2
    split at h2 <;> omega
theorem pl_pre_len {g : Nat → Nat} {i j k : Nat} (h0 : i < pl_n g 0) (h1 : j < pl_n g 1) (h2 : k < pl_n g 2) : (pl_a g i).length + (pl_b g (g 4 + i) j).length + (pl_c g (g 4 + i) (g 5 + j) k).length + (pl_go g (g 4 + i) (g 5 + j) (g 6 + k)).length ≤ (pl_all g).length := by
  have a1 := pl_a_mono (g := g) (n := i + 1) (pl_n g 0) h0
  have b1 := pl_b_mono (g := g) (a := g 4 + i) (n := j + 1) (pl_n g 1) h1
  have c1 := pl_c_mono (g := g) (a := g 4 + i) (b := g 5 + j) (n := k + 1) (pl_n g 2) h2
  unfold pl_all
  simp only [pl_a, pl_b, pl_c, List.length_append] at a1 b1 c1 ⊢
  omega
/-- the row `to` holds the states l -/
def pm_T (M : cq_M) (o : Nat) (l : List (Nat → Nat)) : Prop := M o 21 = nI l.length ∧ ∀ (i : Nat) (x : Nat → Nat), l[i]? = some x → ∀ j, j < 8 → M (o + 14) (8 * i + j) = nI (x j)
def pm_fr (M M1 : cq_M) (o : Nat) : Prop := (∀ x, x ≠ o → x ≠ o + 12 → x ≠ o + 14 → M1 x = M x) ∧ ∀ j, j ≠ 21 → M1 o j = M o j
theorem pm_fr.rf {M : cq_M} {o : Nat} : pm_fr M M o := ⟨fun _ _ _ _ => rfl, fun _ _ => rfl⟩
theorem pm_fr.trans {M M1 M2 : cq_M} {o : Nat} (h : pm_fr M M1 o) (h2 : pm_fr M1 M2 o) : pm_fr M M2 o := ⟨fun x a b c => by rw [h2.1 x a b c, h.1 x a b c], fun j hj => by rw [h2.2 j hj, h.2 j hj]⟩
theorem pm_T.snoc {M M1 : cq_M} {o : Nat} {acc : List (Nat → Nat)} {x : Nat → Nat} (h : pm_T M o acc) (h21 : M1 o 21 = nI (acc.length + 1)) (hlo : ∀ j, j < 8 * acc.length → M1 (o + 14) j = M (o + 14) j) (hx : ∀ j, j < 8 → M1 (o + 14) (8 * acc.length + j) = nI (x j)) : pm_T M1 o (acc ++ [x]) := by
  refine ⟨by rw [h21, List.length_append, List.length_singleton], fun i y hi j hj => ?_⟩
  by_cases e : i < acc.length
  · rw [List.getElem?_append_left e] at hi
    rw [hlo _ (by omega)]
    exact h.2 i y hi j hj
  · rw [List.getElem?_append_right (by omega)] at hi
    have h1 : i - acc.length < 1 := (List.getElem?_eq_some_iff.mp hi).1
    have h2 : i = acc.length := by omega
    subst h2
    rw [Nat.sub_self] at hi
    cases hi
    exact hx j hj
theorem pl_sub {r s : Nat} (hr : r < 1000000) (hs : s < 1000000) : (nI r - nI s ≤ 0 → r - s = 0) ∧ (¬ nI r - nI s ≤ 0 → nI r - nI s = nI (r - s) ∧ 0 < r - s) := by
  have h1 : (nI r - nI s).toInt = (r : Int) - s := pk_sub_toInt (by omega) (by omega)
  refine ⟨fun h => ?_, fun h => ?_⟩
  · have h2 := Int32.le_iff_toInt_le.mp h
    rw [h1] at h2
    have h3 : (0 : Int32).toInt = 0 := rfl
    omega
  · have h2 : ¬ (nI r - nI s).toInt ≤ (0 : Int32).toInt := fun z => h (Int32.le_iff_toInt_le.mpr z)
    rw [h1] at h2
    have h3 : (0 : Int32).toInt = 0 := rfl
    exact ⟨pk_sub (by omega), by omega⟩
theorem pl_two {M M2 M3 M4 : cq_M} {A n k : Nat} {f : Nat → Int32} {v w : Int32} (h2 : ∀ x j, M2 x j = if x = A ∧ (j = n ∨ j = n + 7 ∨ (n + 1 ≤ j ∧ j < n + 1 + k) ∨ (n + 4 ≤ j ∧ j < n + 4 + k)) then f (j - n) else M x j) (hk : k < 3) (h3 : M3 = cq_up M2 A (n + 1 + k) v) (h4 : M4 = cq_up M3 A (n + 4 + k) w) (hv : v = f (1 + k)) (hw : w = f (4 + k)) : ∀ x j, M4 x j = if x = A ∧ (j = n ∨ j = n + 7 ∨ (n + 1 ≤ j ∧ j < n + 1 + (k + 1)) ∨ (n + 4 ≤ j ∧ j < n + 4 + (k + 1))) then f (j - n) else M x j := by
  intro x j
  rw [h4]
  by_cases e4 : x = A ∧ j = n + 4 + k
  · obtain ⟨rfl, rfl⟩ := e4
    rw [cq_up_s, hw, if_pos ⟨rfl, by omega⟩, show n + 4 + k - n = 4 + k by omega]
  · have q4 : cq_up M3 A (n + 4 + k) w x j = M3 x j := by
      unfold cq_up
      exact if_neg e4
    rw [q4, h3]
    by_cases e3 : x = A ∧ j = n + 1 + k
    · obtain ⟨rfl, rfl⟩ := e3
      rw [cq_up_s, hv, if_pos ⟨rfl, by omega⟩, show n + 1 + k - n = 1 + k by omega]
    · have q3 : cq_up M2 A (n + 1 + k) v x j = M2 x j := by
        unfold cq_up
        exact if_neg e3
      rw [q3, h2]
      by_cases e : x = A
      · subst e
        by_cases e5 : j = n ∨ j = n + 7 ∨ (n + 1 ≤ j ∧ j < n + 1 + k) ∨ (n + 4 ≤ j ∧ j < n + 4 + k)
        · rw [if_pos ⟨rfl, e5⟩, if_pos ⟨rfl, by omega⟩]
        · rw [if_neg (fun z => e5 z.2), if_neg (fun z => by
            have e6 := z.2
            have e7 : ¬ j = n + 4 + k := fun y => e4 ⟨rfl, y⟩
            have e8 : ¬ j = n + 1 + k := fun y => e3 ⟨rfl, y⟩
            omega)]
      · rw [if_neg (fun z => e z.1), if_neg (fun z => e z.1)]
theorem pl_fold_le {l : List (Nat → Nat)} : ∀ {F : Nat → Nat}, (∀ t, F t ≤ 1080) → (∀ g ∈ l, g 7 ≤ 1080) → ∀ t, l.foldl pl_note F t ≤ 1080 := by
  induction l with
  | nil => intro F h _ t; exact h t
  | cons g l ih =>
    intro F h hl t
    refine ih (fun t => ?_) (fun x hx => hl x (List.mem_cons_of_mem _ hx)) t
    have h1 := hl g List.mem_cons_self
    unfold pl_note ns_up
    split
    · split
      · exact h1
      · exact h _
    · exact h t
abbrev rmX7_isSet : Room := ({ frames := 0, cells := 0, slots := 0, locals := 0 })
set_option maxHeartbeats 4000000 in
set_option maxRecDepth 100000 in
theorem kX7_isSet (l : Launch) (D : va_G) (cA : Nat → ClassId) (X : cq_X) (Bs : Nat) (o : Nat) (u : Int32) (g : Nat → Nat) (M : cq_M) (ho : cq_isModel X o) (hg : cq_nv M (o + 1) 109 g) (h6 : g 6 ≤ 4) : cq_C l yX7_isSet wsX7_isSet rmX7_isSet D cA X Bs [.ref o, .int u] M (cq_PI (fun r M1 => r = (if op_set g u then 1 else 0) ∧ M1 = M)) 0 0 := by
  refine cq_met (cc := cX7_isSet) (maxL := 2) (ret := (some .boolean)) (by decide) rfl (Nat.le_of_ble_eq_true rfl) [(0, .ref o), (1, .int u)] rfl rfl ?_
  intro p9 e9 s9 m9 b9 t9 c9 F hr
  have inX7 : ∀ w ∈ wsX70, w ∈ wsX7_isSet := (fun w h => List.mem_cons_of_mem _ (List.mem_append_right _ h))
  have hp16 : 2 ^ g 6 ≤ 16 := Nat.pow_le_pow_right (n := 2) (by decide) h6
  refine cq_iload_n F (i := 1) dX7_isSet_0 rfl rfl ?_
  refine cq_if_lt F (tgt := 46) dX7_isSet_1 (by decide) (fun c_1 => ?_) (fun c_1 => ?_)
  · refine cq_iconst F (v := 0) dX7_isSet_46 rfl ?_
    exact cq_zret F hr (by rfl) (by decide) (by decide) dX7_isSet_47 ⟨_, rfl, ⟨(if_neg (show ¬ op_set g u from fun z => absurd c_1 (Int32.not_lt.mpr z.1.1))).symm, rfl⟩⟩
  · obtain ⟨w, hw, rfl⟩ := nI_of c_1
    refine cq_iload_n F (i := 1) dX7_isSet_4 rfl rfl ?_
    refine cq_iconst F (v := 1) dX7_isSet_5 rfl ?_
    refine cq_aload_n F (i := 0) dX7_isSet_6 rfl rfl ?_
    refine cq_getT (t := (o + 1)) F (C := RX7) (T := TX7) (N := 22) (ci := 8) ho.kind rfl ⟨⟨by decide, by decide⟩, rfl⟩ inX7 0 (by decide) rfl rfl ho.t0 (F.1.2.2.2.2 _ (List.mem_of_getElem? (l := wsX7_isSet) (i := 1) (a := .fieldLink RX7 7 "CordClockModel" "row" "[I") (by decide +kernel))) dX7_isSet_7 ?_
    refine cq_bipush F (v := 6) dX7_isSet_10 (by decide) ?_
    refine cq_iald_j F (j := 6) ho.k1 ho.n1 rfl ⟨(by omega), by decide⟩ dX7_isSet_12 ?_
    rw [hg _ (by omega)]
    refine cq_ishl F dX7_isSet_13 ?_
    rw [pb_shl _ h6]
    refine cq_icmp_ge F (tgt := 46) dX7_isSet_14 (by decide) (fun c_14 => ?_) (fun c_14 => ?_)
    · have c_14 : (2 ^ g 6) ≤ w := (nI_b (a := (2 ^ g 6)) (b := w) (by omega) (by omega)).1.mp c_14
      refine cq_iconst F (v := 0) dX7_isSet_46 rfl ?_
      exact cq_zret F hr (by rfl) (by decide) (by decide) dX7_isSet_47 ⟨_, rfl, ⟨(if_neg (show ¬ op_set g (nI w) from fun z => absurd ((nI_ltI (by omega) (by omega)).mp z.1.2) (by omega))).symm, rfl⟩⟩
    · have c_14 : ¬ (2 ^ g 6) ≤ w := fun z => c_14 ((nI_b (a := (2 ^ g 6)) (b := w) (by omega) (by omega)).1.mpr z)
      have hw16 : w < 16 := by omega
      have hpb := pb_4 w hw16
      refine cq_iload_n F (i := 1) dX7_isSet_17 rfl rfl ?_
      refine cq_iconst F (v := 1) dX7_isSet_18 rfl ?_
      refine cq_iand F dX7_isSet_19 ?_
      refine cq_iload_n F (i := 1) dX7_isSet_20 rfl rfl ?_
      refine cq_iconst F (v := 1) dX7_isSet_21 rfl ?_
      refine cq_ishr F dX7_isSet_22 ?_
      refine cq_iconst F (v := 1) dX7_isSet_23 rfl ?_
      refine cq_iand F dX7_isSet_24 ?_
      refine cq_iadd F dX7_isSet_25 ?_
      refine cq_iload_n F (i := 1) dX7_isSet_26 rfl rfl ?_
      refine cq_iconst F (v := 2) dX7_isSet_27 rfl ?_
      refine cq_ishr F dX7_isSet_28 ?_
      refine cq_iconst F (v := 1) dX7_isSet_29 rfl ?_
      refine cq_iand F dX7_isSet_30 ?_
      refine cq_iadd F dX7_isSet_31 ?_
      refine cq_iload_n F (i := 1) dX7_isSet_32 rfl rfl ?_
      refine cq_iconst F (v := 3) dX7_isSet_33 rfl ?_
      refine cq_ishr F dX7_isSet_34 ?_
      refine cq_iconst F (v := 1) dX7_isSet_35 rfl ?_
      refine cq_iand F dX7_isSet_36 ?_
      refine cq_iadd F dX7_isSet_37 ?_
      rw [pb_sum w hw16]
      refine cq_iconst F (v := 3) dX7_isSet_38 rfl ?_
      refine cq_icmp_gt F (tgt := 46) dX7_isSet_39 (by decide) (fun c_39 => ?_) (fun c_39 => ?_)
      · have c_39 : 3 < (pb_m w 4) := (nI_b (a := 3) (b := (pb_m w 4)) (by omega) (by omega)).2.1.mp c_39
        refine cq_iconst F (v := 0) dX7_isSet_46 rfl ?_
        exact cq_zret F hr (by rfl) (by decide) (by decide) dX7_isSet_47 ⟨_, rfl, ⟨(if_neg (show ¬ op_set g (nI w) from fun z => by have z3 := z.2; rw [nI_clamp (by omega)] at z3; omega)).symm, rfl⟩⟩
      · have c_39 : ¬ 3 < (pb_m w 4) := fun z => c_39 ((nI_b (a := 3) (b := (pb_m w 4)) (by omega) (by omega)).2.1.mpr z)
        refine cq_iconst F (v := 1) dX7_isSet_42 rfl ?_
        refine cq_goto F (tgt := 47) dX7_isSet_43 (by decide) ?_
        exact cq_zret F hr (by rfl) (by decide) (by decide) dX7_isSet_47 ⟨_, rfl, ⟨(if_pos (show op_set g (nI w) from ⟨⟨nI_pos' (by omega), nI_lt (by omega) (by omega)⟩, by rw [nI_clamp (by omega)]; omega⟩)).symm, rfl⟩⟩
theorem hdVX7_isSet : yX7_isSet.cls = RX7 ∧ yX7_isSet.cls ≠ "java/lang/invoke/MethodHandle" ∧ yX7_isSet.cls ≠ "java/lang/invoke/VarHandle" ∧ (parseMethodDescriptor yX7_isSet.desc).map (fun d => d.parameters.length) = some 1 := by decide +kernel
abbrev rmX7_goOn : Room := ({ frames := 0, cells := 0, slots := 0, locals := 0 })
set_option maxHeartbeats 4000000 in
set_option maxRecDepth 100000 in
theorem kX7_goOn (l : Launch) (D : va_G) (cA : Nat → ClassId) (X : cq_X) (Bs : Nat) (o p a b c : Nat) (g Y : Nat → Nat) (acc : List (Nat → Nat)) (M : cq_M) (ho : cq_isModel X o) (hp : p + 8 ≤ 5760) (hfr : ∀ j, j < 8 → M (o + 13) (p + j) = nI (g j)) (hT : pm_T M o acc) (hF : cq_nv M (o + 12) 1081 Y) (hF9 : ∀ t, Y t ≤ 1080) (hok : pl_ok g 720) (hv : pl_v g a b c) (hlen : acc.length + (pl_go g a b c).length ≤ 720) : cq_C l yX7_goOn wsX7_goOn rmX7_goOn D cA X Bs [.ref o, .int (nI p), .int (nI a), .int (nI b), .int (nI c)] M (cq_PV (fun M1 => pm_T M1 o (acc ++ pl_go g a b c) ∧ cq_nv M1 (o + 12) 1081 ((pl_go g a b c).foldl pl_note Y) ∧ pm_fr M M1 o)) 0 0 := by
  refine cq_met (cc := cX7_goOn) (maxL := 11) (ret := none) (by decide) rfl (Nat.le_of_ble_eq_true rfl) [(0, .ref o), (1, .int (nI p)), (2, .int (nI a)), (3, .int (nI b)), (4, .int (nI c))] rfl rfl ?_
  intro p9 e9 s9 m9 b9 t9 c9 F hr
  have inX7 : ∀ w ∈ wsX70, w ∈ wsX7_goOn := (fun w h => List.mem_cons_of_mem _ (List.mem_append_right _ h))
  have hva := (hv 0 (by omega)).2.1
  have hvb := (hv 1 (by omega)).2.1
  have hvc := (hv 2 (by omega)).2.1
  have hva : a ≤ 2 := hva
  have hvb : b ≤ 2 := hvb
  have hvc : c ≤ 2 := hvc
  have hst9 := pl_st_le hok hv 3 (by omega)
  have hm9 := pl_m_le hv 3 (by omega)
  have h09 := hok.1
  have h79 := hok.2.2.1
  have loop_179 : ∀ (n_179 : Nat) (k : Nat) (M2 : cq_M), ¬ pl_st g a b c 3 = 0 → k ≤ 3 → (∀ x j, M2 x j = if x = o + 14 ∧ (j = 8 * acc.length ∨ j = 8 * acc.length + 7 ∨ (8 * acc.length + 1 ≤ j ∧ j < 8 * acc.length + 1 + k) ∨ (8 * acc.length + 4 ≤ j ∧ j < 8 * acc.length + 4 + k)) then nI (pl_nx g a b c (j - 8 * acc.length)) else M x j) → cq_nv M2 (o + 12) 1081 Y → 4 - k < n_179 → cq_V p9 l e9 rmX7_goOn s9 m9 ([.ref o, .int (nI p), .int (nI a), .int (nI b), .int (nI c)] : List Value).toArray b9 t9 c9 D cA X Bs 11 0 0 (MQ b9 (cq_Q D cA X Bs (cq_PV (fun M1 => pm_T M1 o (acc ++ pl_go g a b c) ∧ cq_nv M1 (o + 12) 1081 ((pl_go g a b c).foldl pl_note Y) ∧ pm_fr M M1 o))) ([.ref o, .int (nI p), .int (nI a), .int (nI b), .int (nI c)] : List Value).toArray s9 0 0 (cq_A Bs)) 179 [(0, .ref o), (1, .int (nI p)), (2, .int (nI a)), (3, .int (nI b)), (4, .int (nI c)), (5, .int (nI (pl_st g a b c 3))), (6, .int (nI (pl_m g a b c 3))), (7, .int (nI (8 * acc.length))), (8, .int (nI k))] [] M2 := by
    intro n_179
    induction n_179 with
    | zero =>
      intros
      omega
    | succ n_179 ih_179 =>
      intro k M2 c_125 hk3 h2 hF2 hn
      have hlen9 : acc.length + 1 ≤ 720 := by rw [show pl_go g a b c = [pl_nx g a b c] from if_neg c_125] at hlen; exact hlen
      have hvk : k < 3 → g (4 + k) ≤ pl_f a b c k ∧ pl_f a b c k ≤ 2 ∧ (g (1 + k) = 0 → pl_f a b c k = 0) := fun z => hv k z
      have hgk : k < 3 → g (1 + k) ≤ 360 := fun z => (hok.2.1 k z).1
      refine cq_iload F dX7_goOn_179 rfl ?_
      refine cq_iconst F (v := 3) dX7_goOn_181 rfl ?_
      refine cq_icmp_ge F (tgt := 279) dX7_goOn_182 (by decide) (fun c_182 => ?_) (fun c_182 => ?_)
      · have c_182 : 3 ≤ k := (nI_b (a := 3) (b := k) (by omega) (by omega)).1.mp c_182
        obtain rfl : k = 3 := by omega
        have hnok := pl_nx_ok hok hv c_125
        have hb0 := hnok.1
        have hb7 := hnok.2.2.1
        have hlen9 : acc.length + 1 ≤ 720 := by rw [show pl_go g a b c = [pl_nx g a b c] from if_neg c_125] at hlen; exact hlen
        have hFt := hF9 (pl_nx g a b c 0)
        refine cq_aload_n F (i := 0) dX7_goOn_279 rfl rfl ?_
        refine cq_dup F dX7_goOn_280 rfl ?_
        refine cq_getI F (C := RX7) (T := TX7) (N := 22) (ci := 8) ho.kind rfl ⟨⟨by decide, by decide⟩, rfl⟩ inX7 21 (by decide) rfl rfl (F.1.2.2.2.2 _ (List.mem_of_getElem? (l := wsX7_goOn) (i := 2) (a := .fieldLink RX7 215 "CordClockModel" "toMany" "I") (by decide +kernel))) dX7_goOn_281 ?_
        rw [show M2 o 21 = nI (acc.length) from (show M2 o 21 = nI (acc.length) from (by rw [h2, if_neg (by omega)]; exact hT.1))]
        refine cq_iconst F (v := 1) dX7_goOn_284 rfl ?_
        refine cq_iadd F dX7_goOn_285 ?_
        rw [show (nI acc.length + 1 : Int32) = nI (acc.length + 1) from nI_add _ _]
        refine cq_put F (C := RX7) (T := TX7) (N := 22) (ci := 8) ho.kind rfl ⟨⟨by decide, by decide⟩, rfl⟩ inX7 tyX7 tyX7_ok nmX7 21 (by decide) rfl rfl (F.1.2.2.2.2 _ (List.mem_of_getElem? (l := wsX7_goOn) (i := 2) (a := .fieldLink RX7 215 "CordClockModel" "toMany" "I") (by decide +kernel))) rfl (by rfl) (by rfl) dX7_goOn_286 (fun M_286 h_286 => ?_)
        have v_286_o12 := hF2.ne h_286 (by omega)
        refine cq_aload_n F (i := 0) dX7_goOn_289 rfl rfl ?_
        refine cq_getT (t := (o + 14)) F (C := RX7) (T := TX7) (N := 22) (ci := 8) ho.kind rfl ⟨⟨by decide, by decide⟩, rfl⟩ inX7 20 (by decide) rfl rfl ho.t20 (F.1.2.2.2.2 _ (List.mem_of_getElem? (l := wsX7_goOn) (i := 3) (a := .fieldLink RX7 50 "CordClockModel" "to" "[I") (by decide +kernel))) dX7_goOn_290 ?_
        refine cq_iload F dX7_goOn_293 rfl ?_
        refine cq_iald_j F (j := (8 * acc.length)) ho.k14 ho.n14 rfl ⟨(by omega), by decide⟩ dX7_goOn_295 ?_
        rw [(show M_286 (o + 14) (8 * acc.length) = nI (pl_nx g a b c 0) by rw [h_286, cq_up_a (by omega), h2, if_pos ⟨rfl, by omega⟩]; congr 2; omega)]
        refine cq_istore F dX7_goOn_296 (by decide) ?_
        refine cq_aload_n F (i := 0) dX7_goOn_298 rfl rfl ?_
        refine cq_getT (t := (o + 12)) F (C := RX7) (T := TX7) (N := 22) (ci := 8) ho.kind rfl ⟨⟨by decide, by decide⟩, rfl⟩ inX7 17 (by decide) rfl rfl ho.t17 (F.1.2.2.2.2 _ (List.mem_of_getElem? (l := wsX7_goOn) (i := 4) (a := .fieldLink RX7 44 "CordClockModel" "fewest" "[I") (by decide +kernel))) dX7_goOn_299 ?_
        refine cq_iload F dX7_goOn_302 rfl ?_
        refine cq_aload_n F (i := 0) dX7_goOn_304 rfl rfl ?_
        refine cq_getT (t := (o + 12)) F (C := RX7) (T := TX7) (N := 22) (ci := 8) ho.kind rfl ⟨⟨by decide, by decide⟩, rfl⟩ inX7 17 (by decide) rfl rfl ho.t17 (F.1.2.2.2.2 _ (List.mem_of_getElem? (l := wsX7_goOn) (i := 4) (a := .fieldLink RX7 44 "CordClockModel" "fewest" "[I") (by decide +kernel))) dX7_goOn_305 ?_
        refine cq_iload F dX7_goOn_308 rfl ?_
        refine cq_iald_j F (j := (pl_nx g a b c 0)) ho.k12 ho.n12 rfl ⟨(by omega), by decide⟩ dX7_goOn_310 ?_
        rw [v_286_o12 _ (by omega)]
        refine cq_if_eq F (tgt := 334) dX7_goOn_311 (by decide) (fun c_311 => ?_) (fun c_311 => ?_)
        · have c_311 : (Y ((pl_nx g a b c 0))) = 0 := (nI_b (a := (Y ((pl_nx g a b c 0)))) (b := 0) (by omega) (by omega)).2.2.mp c_311
          refine cq_aload_n F (i := 0) dX7_goOn_334 rfl rfl ?_
          refine cq_getT (t := (o + 14)) F (C := RX7) (T := TX7) (N := 22) (ci := 8) ho.kind rfl ⟨⟨by decide, by decide⟩, rfl⟩ inX7 20 (by decide) rfl rfl ho.t20 (F.1.2.2.2.2 _ (List.mem_of_getElem? (l := wsX7_goOn) (i := 3) (a := .fieldLink RX7 50 "CordClockModel" "to" "[I") (by decide +kernel))) dX7_goOn_335 ?_
          refine cq_iload F dX7_goOn_338 rfl ?_
          refine cq_bipush F (v := 7) dX7_goOn_340 (by decide) ?_
          refine cq_iadd F dX7_goOn_342 ?_
          rw [show (nI (8 * acc.length) + 7 : Int32) = nI ((8 * acc.length) + 7) from nI_add _ _]
          refine cq_iald_j F (j := ((8 * acc.length) + 7)) ho.k14 ho.n14 rfl ⟨(by omega), by decide⟩ dX7_goOn_343 ?_
          rw [(show M_286 (o + 14) (8 * acc.length + 7) = nI (pl_nx g a b c 7) by rw [h_286, cq_up_a (by omega), h2, if_pos ⟨rfl, by omega⟩]; congr 2; omega)]
          refine cq_goto F (tgt := 354) dX7_goOn_344 (by decide) ?_
          refine cq_iast_j F (j := (pl_nx g a b c 0)) ho.k12 ho.n12 rfl ⟨(by omega), by decide⟩ dX7_goOn_354 (fun M_354 h_354 => ?_)
          obtain ⟨g_354, eg_354⟩ : ∃ z, z = ns_up Y ((pl_nx g a b c 0)) ((pl_nx g a b c 7)) := ⟨_, rfl⟩
          have v_354_o12 : cq_nv M_354 (o + 12) 1081 g_354 := by rw [eg_354]; exact v_286_o12.up h_354
          refine cq_vret F hr (by decide) (by decide) dX7_goOn_355 ⟨rfl, ?_⟩
          have e9 : pl_go g a b c = [pl_nx g a b c] := if_neg c_125
          rw [e9]
          have hfr9 : pm_fr M M_354 o := ⟨fun x x1 x2 x3 => by rw [h_354, cq_up_row x2, h_286, cq_up_row x1]; funext j; rw [h2, if_neg (fun z => x3 z.1)], fun j hj => by rw [h_354, cq_up_a (by omega), h_286, cq_up_k hj, h2, if_neg (by omega)]⟩
          refine ⟨hT.snoc (by rw [h_354, cq_up_a (by omega), h_286]; exact cq_up_s _ _ _ _) (fun j hj => by rw [h_354, cq_up_a (by omega), h_286, cq_up_a (by omega), h2, if_neg (by omega)]) (fun j hj => by rw [h_354, cq_up_a (by omega), h_286, cq_up_a (by omega), h2, if_pos ⟨rfl, by omega⟩, Nat.add_sub_cancel_left]), ?_, hfr9⟩
          show cq_nv M_354 (o + 12) 1081 (pl_note Y (pl_nx g a b c))
          unfold pl_note
          first
          | (rw [if_pos (Or.inl c_311), ← eg_354]; exact v_354_o12)
          | (rw [if_pos (Or.inr (by omega)), ← eg_354]; exact v_354_o12)
          | (rw [if_neg (by omega), ← eg_354]; exact v_354_o12)
        · have c_311 : ¬ (Y ((pl_nx g a b c 0))) = 0 := fun z => c_311 ((nI_b (a := (Y ((pl_nx g a b c 0)))) (b := 0) (by omega) (by omega)).2.2.mpr z)
          refine cq_aload_n F (i := 0) dX7_goOn_314 rfl rfl ?_
          refine cq_getT (t := (o + 14)) F (C := RX7) (T := TX7) (N := 22) (ci := 8) ho.kind rfl ⟨⟨by decide, by decide⟩, rfl⟩ inX7 20 (by decide) rfl rfl ho.t20 (F.1.2.2.2.2 _ (List.mem_of_getElem? (l := wsX7_goOn) (i := 3) (a := .fieldLink RX7 50 "CordClockModel" "to" "[I") (by decide +kernel))) dX7_goOn_315 ?_
          refine cq_iload F dX7_goOn_318 rfl ?_
          refine cq_bipush F (v := 7) dX7_goOn_320 (by decide) ?_
          refine cq_iadd F dX7_goOn_322 ?_
          rw [show (nI (8 * acc.length) + 7 : Int32) = nI ((8 * acc.length) + 7) from nI_add _ _]
          refine cq_iald_j F (j := ((8 * acc.length) + 7)) ho.k14 ho.n14 rfl ⟨(by omega), by decide⟩ dX7_goOn_323 ?_
          rw [(show M_286 (o + 14) (8 * acc.length + 7) = nI (pl_nx g a b c 7) by rw [h_286, cq_up_a (by omega), h2, if_pos ⟨rfl, by omega⟩]; congr 2; omega)]
          refine cq_aload_n F (i := 0) dX7_goOn_324 rfl rfl ?_
          refine cq_getT (t := (o + 12)) F (C := RX7) (T := TX7) (N := 22) (ci := 8) ho.kind rfl ⟨⟨by decide, by decide⟩, rfl⟩ inX7 17 (by decide) rfl rfl ho.t17 (F.1.2.2.2.2 _ (List.mem_of_getElem? (l := wsX7_goOn) (i := 4) (a := .fieldLink RX7 44 "CordClockModel" "fewest" "[I") (by decide +kernel))) dX7_goOn_325 ?_
          refine cq_iload F dX7_goOn_328 rfl ?_
          refine cq_iald_j F (j := (pl_nx g a b c 0)) ho.k12 ho.n12 rfl ⟨(by omega), by decide⟩ dX7_goOn_330 ?_
          rw [v_286_o12 _ (by omega)]
          refine cq_icmp_ge F (tgt := 347) dX7_goOn_331 (by decide) (fun c_331 => ?_) (fun c_331 => ?_)
          · have c_331 : (Y ((pl_nx g a b c 0))) ≤ (pl_nx g a b c 7) := (nI_b (a := (Y ((pl_nx g a b c 0)))) (b := (pl_nx g a b c 7)) (by omega) (by omega)).1.mp c_331
            refine cq_aload_n F (i := 0) dX7_goOn_347 rfl rfl ?_
            refine cq_getT (t := (o + 12)) F (C := RX7) (T := TX7) (N := 22) (ci := 8) ho.kind rfl ⟨⟨by decide, by decide⟩, rfl⟩ inX7 17 (by decide) rfl rfl ho.t17 (F.1.2.2.2.2 _ (List.mem_of_getElem? (l := wsX7_goOn) (i := 4) (a := .fieldLink RX7 44 "CordClockModel" "fewest" "[I") (by decide +kernel))) dX7_goOn_348 ?_
            refine cq_iload F dX7_goOn_351 rfl ?_
            refine cq_iald_j F (j := (pl_nx g a b c 0)) ho.k12 ho.n12 rfl ⟨(by omega), by decide⟩ dX7_goOn_353 ?_
            rw [v_286_o12 _ (by omega)]
            refine cq_iast_j F (j := (pl_nx g a b c 0)) ho.k12 ho.n12 rfl ⟨(by omega), by decide⟩ dX7_goOn_354 (fun M_354 h_354 => ?_)
            obtain ⟨g_354, eg_354⟩ : ∃ z, z = ns_up Y ((pl_nx g a b c 0)) ((Y ((pl_nx g a b c 0)))) := ⟨_, rfl⟩
            have v_354_o12 : cq_nv M_354 (o + 12) 1081 g_354 := by rw [eg_354]; exact v_286_o12.up h_354
            refine cq_vret F hr (by decide) (by decide) dX7_goOn_355 ⟨rfl, ?_⟩
            have e9 : pl_go g a b c = [pl_nx g a b c] := if_neg c_125
            rw [e9]
            have hfr9 : pm_fr M M_354 o := ⟨fun x x1 x2 x3 => by rw [h_354, cq_up_row x2, h_286, cq_up_row x1]; funext j; rw [h2, if_neg (fun z => x3 z.1)], fun j hj => by rw [h_354, cq_up_a (by omega), h_286, cq_up_k hj, h2, if_neg (by omega)]⟩
            refine ⟨hT.snoc (by rw [h_354, cq_up_a (by omega), h_286]; exact cq_up_s _ _ _ _) (fun j hj => by rw [h_354, cq_up_a (by omega), h_286, cq_up_a (by omega), h2, if_neg (by omega)]) (fun j hj => by rw [h_354, cq_up_a (by omega), h_286, cq_up_a (by omega), h2, if_pos ⟨rfl, by omega⟩, Nat.add_sub_cancel_left]), ?_, hfr9⟩
            show cq_nv M_354 (o + 12) 1081 (pl_note Y (pl_nx g a b c))
            unfold pl_note
            first
            | (rw [if_pos (Or.inl c_311), ← eg_354]; exact v_354_o12)
            | (rw [if_pos (Or.inr (by omega)), ← eg_354]; exact v_354_o12)
            | (rw [if_neg (by omega), ← eg_354]; exact v_354_o12)
          · have c_331 : ¬ (Y ((pl_nx g a b c 0))) ≤ (pl_nx g a b c 7) := fun z => c_331 ((nI_b (a := (Y ((pl_nx g a b c 0)))) (b := (pl_nx g a b c 7)) (by omega) (by omega)).1.mpr z)
            refine cq_aload_n F (i := 0) dX7_goOn_334 rfl rfl ?_
            refine cq_getT (t := (o + 14)) F (C := RX7) (T := TX7) (N := 22) (ci := 8) ho.kind rfl ⟨⟨by decide, by decide⟩, rfl⟩ inX7 20 (by decide) rfl rfl ho.t20 (F.1.2.2.2.2 _ (List.mem_of_getElem? (l := wsX7_goOn) (i := 3) (a := .fieldLink RX7 50 "CordClockModel" "to" "[I") (by decide +kernel))) dX7_goOn_335 ?_
            refine cq_iload F dX7_goOn_338 rfl ?_
            refine cq_bipush F (v := 7) dX7_goOn_340 (by decide) ?_
            refine cq_iadd F dX7_goOn_342 ?_
            rw [show (nI (8 * acc.length) + 7 : Int32) = nI ((8 * acc.length) + 7) from nI_add _ _]
            refine cq_iald_j F (j := ((8 * acc.length) + 7)) ho.k14 ho.n14 rfl ⟨(by omega), by decide⟩ dX7_goOn_343 ?_
            rw [(show M_286 (o + 14) (8 * acc.length + 7) = nI (pl_nx g a b c 7) by rw [h_286, cq_up_a (by omega), h2, if_pos ⟨rfl, by omega⟩]; congr 2; omega)]
            refine cq_goto F (tgt := 354) dX7_goOn_344 (by decide) ?_
            refine cq_iast_j F (j := (pl_nx g a b c 0)) ho.k12 ho.n12 rfl ⟨(by omega), by decide⟩ dX7_goOn_354 (fun M_354 h_354 => ?_)
            obtain ⟨g_354, eg_354⟩ : ∃ z, z = ns_up Y ((pl_nx g a b c 0)) ((pl_nx g a b c 7)) := ⟨_, rfl⟩
            have v_354_o12 : cq_nv M_354 (o + 12) 1081 g_354 := by rw [eg_354]; exact v_286_o12.up h_354
            refine cq_vret F hr (by decide) (by decide) dX7_goOn_355 ⟨rfl, ?_⟩
            have e9 : pl_go g a b c = [pl_nx g a b c] := if_neg c_125
            rw [e9]
            have hfr9 : pm_fr M M_354 o := ⟨fun x x1 x2 x3 => by rw [h_354, cq_up_row x2, h_286, cq_up_row x1]; funext j; rw [h2, if_neg (fun z => x3 z.1)], fun j hj => by rw [h_354, cq_up_a (by omega), h_286, cq_up_k hj, h2, if_neg (by omega)]⟩
            refine ⟨hT.snoc (by rw [h_354, cq_up_a (by omega), h_286]; exact cq_up_s _ _ _ _) (fun j hj => by rw [h_354, cq_up_a (by omega), h_286, cq_up_a (by omega), h2, if_neg (by omega)]) (fun j hj => by rw [h_354, cq_up_a (by omega), h_286, cq_up_a (by omega), h2, if_pos ⟨rfl, by omega⟩, Nat.add_sub_cancel_left]), ?_, hfr9⟩
            show cq_nv M_354 (o + 12) 1081 (pl_note Y (pl_nx g a b c))
            unfold pl_note
            first
            | (rw [if_pos (Or.inl c_311), ← eg_354]; exact v_354_o12)
            | (rw [if_pos (Or.inr (by omega)), ← eg_354]; exact v_354_o12)
            | (rw [if_neg (by omega), ← eg_354]; exact v_354_o12)
      · have c_182 : ¬ 3 ≤ k := fun z => c_182 ((nI_b (a := 3) (b := k) (by omega) (by omega)).1.mpr z)
        refine cq_iload F dX7_goOn_185 rfl ?_
        refine cq_if_ne F (tgt := 194) dX7_goOn_187 (by decide) (fun c_187 => ?_) (fun c_187 => ?_)
        · have c_187 : ¬ k = 0 := fun z => c_187 ((nI_b (a := k) (b := 0) (by omega) (by omega)).2.2.mpr z)
          refine cq_iload F dX7_goOn_194 rfl ?_
          refine cq_iconst F (v := 1) dX7_goOn_196 rfl ?_
          refine cq_icmp_ne F (tgt := 204) dX7_goOn_197 (by decide) (fun c_197 => ?_) (fun c_197 => ?_)
          · have c_197 : ¬ k = 1 := fun z => c_197 ((nI_b (a := k) (b := 1) (by omega) (by omega)).2.2.mpr z)
            refine cq_iload F dX7_goOn_204 rfl ?_
            refine cq_nmi (fun x_206 e_206 => ?_)
            obtain rfl : x_206 = nI (pl_f a b c k) := by rw [e_206]; unfold pl_f; first | rw [if_pos c_187] | rw [if_neg c_187, if_pos c_197] | rw [if_neg c_187, if_neg c_197]
            refine cq_istore F dX7_goOn_206 (by decide) ?_
            refine cq_aload_n F (i := 0) dX7_goOn_208 rfl rfl ?_
            refine cq_getT (t := (o + 13)) F (C := RX7) (T := TX7) (N := 22) (ci := 8) ho.kind rfl ⟨⟨by decide, by decide⟩, rfl⟩ inX7 18 (by decide) rfl rfl ho.t18 (F.1.2.2.2.2 _ (List.mem_of_getElem? (l := wsX7_goOn) (i := 1) (a := .fieldLink RX7 47 "CordClockModel" "from" "[I") (by decide +kernel))) dX7_goOn_209 ?_
            refine cq_iload_n F (i := 1) dX7_goOn_212 rfl rfl ?_
            refine cq_iconst F (v := 1) dX7_goOn_213 rfl ?_
            refine cq_iadd F dX7_goOn_214 ?_
            rw [show (nI p + 1 : Int32) = nI (p + 1) from nI_add _ _]
            refine cq_iload F dX7_goOn_215 rfl ?_
            refine cq_iadd F dX7_goOn_217 ?_
            rw [show (nI (p + 1) + nI k : Int32) = nI ((p + 1) + k) from nI_add _ _]
            refine cq_iald_j F (j := ((p + 1) + k)) ho.k13 ho.n13 rfl ⟨(by omega), by decide⟩ dX7_goOn_218 ?_
            rw [(show M2 (o + 13) (p + 1 + k) = nI (g (1 + k)) by rw [h2, if_neg (by omega)]; rw [show (p + 1 + k) = p + (1 + k) by omega]; exact hfr _ (by omega))]
            refine cq_iload F dX7_goOn_219 rfl ?_
            refine cq_iload F dX7_goOn_221 rfl ?_
            refine cq_imul F dX7_goOn_223 ?_
            rw [show (nI (pl_st g a b c 3) * nI (pl_f a b c k) : Int32) = nI ((pl_st g a b c 3) * (pl_f a b c k)) from pk_mul _ _]
            refine cq_isub F dX7_goOn_224 ?_
            refine cq_nmi (fun x_225 e_225 => ?_)
            refine cq_istore F dX7_goOn_225 (by decide) ?_
            refine cq_aload_n F (i := 0) dX7_goOn_227 rfl rfl ?_
            refine cq_getT (t := (o + 14)) F (C := RX7) (T := TX7) (N := 22) (ci := 8) ho.kind rfl ⟨⟨by decide, by decide⟩, rfl⟩ inX7 20 (by decide) rfl rfl ho.t20 (F.1.2.2.2.2 _ (List.mem_of_getElem? (l := wsX7_goOn) (i := 3) (a := .fieldLink RX7 50 "CordClockModel" "to" "[I") (by decide +kernel))) dX7_goOn_228 ?_
            refine cq_iload F dX7_goOn_231 rfl ?_
            refine cq_iconst F (v := 1) dX7_goOn_233 rfl ?_
            refine cq_iadd F dX7_goOn_234 ?_
            rw [show (nI (8 * acc.length) + 1 : Int32) = nI ((8 * acc.length) + 1) from nI_add _ _]
            refine cq_iload F dX7_goOn_235 rfl ?_
            refine cq_iadd F dX7_goOn_237 ?_
            rw [show (nI ((8 * acc.length) + 1) + nI k : Int32) = nI (((8 * acc.length) + 1) + k) from nI_add _ _]
            refine cq_iload F dX7_goOn_238 rfl ?_
            refine cq_if_le F (tgt := 248) dX7_goOn_240 (by decide) (fun c_240 => ?_) (fun c_240 => ?_)
            · have d_240 : pl_r g a b c k = 0 := by unfold pl_r; rw [Nat.mul_comm]; exact (pl_sub (by omega) (Nat.lt_of_le_of_lt (Nat.mul_le_mul hst9 (hvk (by omega)).2.1) (by decide))).1 (by rw [← e_225]; exact c_240)
              refine cq_iconst F (v := 0) dX7_goOn_248 rfl ?_
              refine cq_iast_j F (j := (((8 * acc.length) + 1) + k)) ho.k14 ho.n14 rfl ⟨(by omega), by decide⟩ dX7_goOn_249 (fun M_249 h_249 => ?_)
              have v_249_o12 := hF2.ne h_249 (by omega)
              refine cq_aload_n F (i := 0) dX7_goOn_250 rfl rfl ?_
              refine cq_getT (t := (o + 14)) F (C := RX7) (T := TX7) (N := 22) (ci := 8) ho.kind rfl ⟨⟨by decide, by decide⟩, rfl⟩ inX7 20 (by decide) rfl rfl ho.t20 (F.1.2.2.2.2 _ (List.mem_of_getElem? (l := wsX7_goOn) (i := 3) (a := .fieldLink RX7 50 "CordClockModel" "to" "[I") (by decide +kernel))) dX7_goOn_251 ?_
              refine cq_iload F dX7_goOn_254 rfl ?_
              refine cq_iconst F (v := 4) dX7_goOn_256 rfl ?_
              refine cq_iadd F dX7_goOn_257 ?_
              rw [show (nI (8 * acc.length) + 4 : Int32) = nI ((8 * acc.length) + 4) from nI_add _ _]
              refine cq_iload F dX7_goOn_258 rfl ?_
              refine cq_iadd F dX7_goOn_260 ?_
              rw [show (nI ((8 * acc.length) + 4) + nI k : Int32) = nI (((8 * acc.length) + 4) + k) from nI_add _ _]
              refine cq_iload F dX7_goOn_261 rfl ?_
              refine cq_if_le F (tgt := 271) dX7_goOn_263 (by decide) (fun c_263 => ?_) (fun c_263 => ?_)
              · refine cq_iconst F (v := 0) dX7_goOn_271 rfl ?_
                refine cq_iast_j F (j := (((8 * acc.length) + 4) + k)) ho.k14 ho.n14 rfl ⟨(by omega), by decide⟩ dX7_goOn_272 (fun M_272 h_272 => ?_)
                have v_272_o12 := v_249_o12.ne h_272 (by omega)
                refine cq_iinc F dX7_goOn_273 rfl (by decide) (fun x_273 e_273 => ?_)
                obtain rfl : x_273 = nI (k + 1) := by rw [e_273]; exact nI_1 _
                refine cq_goto F (tgt := 179) dX7_goOn_276 (by decide) ?_
                refine cq_loc (L2 := [(0, .ref o), (1, .int (nI p)), (2, .int (nI a)), (3, .int (nI b)), (4, .int (nI c)), (5, .int (nI (pl_st g a b c 3))), (6, .int (nI (pl_m g a b c 3))), (7, .int (nI (8 * acc.length))), (8, .int (nI (k + 1)))]) rfl ?_
                exact ih_179 (k + 1) M_272 c_125 (by omega) (pl_two (f := fun j => nI (pl_nx g a b c j)) h2 (by omega) h_249 h_272 (by show _ = nI (pl_nx g a b c (1 + k)); rw [pl_nx_r (by omega)]; all_goals (first | rfl | (rw [d_240]; rfl))) (by show _ = nI (pl_nx g a b c (4 + k)); rw [pl_nx_f (by omega)]; first | rw [if_pos d_240.2] | (rw [d_240]; rfl))) (fun j hj => by rw [h_272, cq_up_a (by omega), h_249, cq_up_a (by omega)]; exact hF2 j hj) (by omega)
              · exact absurd c_240 c_263
            · have d_240 : nI (g (1 + k)) - nI (pl_st g a b c 3 * pl_f a b c k) = nI (pl_r g a b c k) ∧ 0 < pl_r g a b c k := by unfold pl_r; rw [Nat.mul_comm (pl_f a b c k)]; exact (pl_sub (by omega) (Nat.lt_of_le_of_lt (Nat.mul_le_mul hst9 (hvk (by omega)).2.1) (by decide))).2 (by rw [← e_225]; exact c_240)
              obtain rfl : x_225 = nI (pl_r g a b c k) := by rw [e_225]; exact d_240.1
              have hr9 : pl_r g a b c k ≤ 360 := by unfold pl_r; omega
              refine cq_iload F dX7_goOn_243 rfl ?_
              refine cq_goto F (tgt := 249) dX7_goOn_245 (by decide) ?_
              refine cq_iast_j F (j := (((8 * acc.length) + 1) + k)) ho.k14 ho.n14 rfl ⟨(by omega), by decide⟩ dX7_goOn_249 (fun M_249 h_249 => ?_)
              have v_249_o12 := hF2.ne h_249 (by omega)
              refine cq_aload_n F (i := 0) dX7_goOn_250 rfl rfl ?_
              refine cq_getT (t := (o + 14)) F (C := RX7) (T := TX7) (N := 22) (ci := 8) ho.kind rfl ⟨⟨by decide, by decide⟩, rfl⟩ inX7 20 (by decide) rfl rfl ho.t20 (F.1.2.2.2.2 _ (List.mem_of_getElem? (l := wsX7_goOn) (i := 3) (a := .fieldLink RX7 50 "CordClockModel" "to" "[I") (by decide +kernel))) dX7_goOn_251 ?_
              refine cq_iload F dX7_goOn_254 rfl ?_
              refine cq_iconst F (v := 4) dX7_goOn_256 rfl ?_
              refine cq_iadd F dX7_goOn_257 ?_
              rw [show (nI (8 * acc.length) + 4 : Int32) = nI ((8 * acc.length) + 4) from nI_add _ _]
              refine cq_iload F dX7_goOn_258 rfl ?_
              refine cq_iadd F dX7_goOn_260 ?_
              rw [show (nI ((8 * acc.length) + 4) + nI k : Int32) = nI (((8 * acc.length) + 4) + k) from nI_add _ _]
              refine cq_iload F dX7_goOn_261 rfl ?_
              refine cq_if_le F (tgt := 271) dX7_goOn_263 (by decide) (fun c_263 => ?_) (fun c_263 => ?_)
              · have c_263 : (pl_r g a b c k) ≤ 0 := (nI_b (a := (pl_r g a b c k)) (b := 0) (by omega) (by omega)).1.mp c_263
                omega
              · have c_263 : ¬ (pl_r g a b c k) ≤ 0 := fun z => c_263 ((nI_b (a := (pl_r g a b c k)) (b := 0) (by omega) (by omega)).1.mpr z)
                refine cq_iload F dX7_goOn_266 rfl ?_
                refine cq_goto F (tgt := 272) dX7_goOn_268 (by decide) ?_
                refine cq_iast_j F (j := (((8 * acc.length) + 4) + k)) ho.k14 ho.n14 rfl ⟨(by omega), by decide⟩ dX7_goOn_272 (fun M_272 h_272 => ?_)
                have v_272_o12 := v_249_o12.ne h_272 (by omega)
                refine cq_iinc F dX7_goOn_273 rfl (by decide) (fun x_273 e_273 => ?_)
                obtain rfl : x_273 = nI (k + 1) := by rw [e_273]; exact nI_1 _
                refine cq_goto F (tgt := 179) dX7_goOn_276 (by decide) ?_
                refine cq_loc (L2 := [(0, .ref o), (1, .int (nI p)), (2, .int (nI a)), (3, .int (nI b)), (4, .int (nI c)), (5, .int (nI (pl_st g a b c 3))), (6, .int (nI (pl_m g a b c 3))), (7, .int (nI (8 * acc.length))), (8, .int (nI (k + 1)))]) rfl ?_
                exact ih_179 (k + 1) M_272 c_125 (by omega) (pl_two (f := fun j => nI (pl_nx g a b c j)) h2 (by omega) h_249 h_272 (by show _ = nI (pl_nx g a b c (1 + k)); rw [pl_nx_r (by omega)]; all_goals (first | rfl | (rw [d_240]; rfl))) (by show _ = nI (pl_nx g a b c (4 + k)); rw [pl_nx_f (by omega)]; first | rw [if_pos d_240.2] | (rw [d_240]; rfl))) (fun j hj => by rw [h_272, cq_up_a (by omega), h_249, cq_up_a (by omega)]; exact hF2 j hj) (by omega)
          · have c_197 : k = 1 := (nI_b (a := k) (b := 1) (by omega) (by omega)).2.2.mp c_197
            refine cq_iload_n F (i := 3) dX7_goOn_200 rfl rfl ?_
            refine cq_goto F (tgt := 206) dX7_goOn_201 (by decide) ?_
            refine cq_nmi (fun x_206 e_206 => ?_)
            obtain rfl : x_206 = nI (pl_f a b c k) := by rw [e_206]; unfold pl_f; first | rw [if_pos c_187] | rw [if_neg c_187, if_pos c_197] | rw [if_neg c_187, if_neg c_197]
            refine cq_istore F dX7_goOn_206 (by decide) ?_
            refine cq_aload_n F (i := 0) dX7_goOn_208 rfl rfl ?_
            refine cq_getT (t := (o + 13)) F (C := RX7) (T := TX7) (N := 22) (ci := 8) ho.kind rfl ⟨⟨by decide, by decide⟩, rfl⟩ inX7 18 (by decide) rfl rfl ho.t18 (F.1.2.2.2.2 _ (List.mem_of_getElem? (l := wsX7_goOn) (i := 1) (a := .fieldLink RX7 47 "CordClockModel" "from" "[I") (by decide +kernel))) dX7_goOn_209 ?_
            refine cq_iload_n F (i := 1) dX7_goOn_212 rfl rfl ?_
            refine cq_iconst F (v := 1) dX7_goOn_213 rfl ?_
            refine cq_iadd F dX7_goOn_214 ?_
            rw [show (nI p + 1 : Int32) = nI (p + 1) from nI_add _ _]
            refine cq_iload F dX7_goOn_215 rfl ?_
            refine cq_iadd F dX7_goOn_217 ?_
            rw [show (nI (p + 1) + nI k : Int32) = nI ((p + 1) + k) from nI_add _ _]
            refine cq_iald_j F (j := ((p + 1) + k)) ho.k13 ho.n13 rfl ⟨(by omega), by decide⟩ dX7_goOn_218 ?_
            rw [(show M2 (o + 13) (p + 1 + k) = nI (g (1 + k)) by rw [h2, if_neg (by omega)]; rw [show (p + 1 + k) = p + (1 + k) by omega]; exact hfr _ (by omega))]
            refine cq_iload F dX7_goOn_219 rfl ?_
            refine cq_iload F dX7_goOn_221 rfl ?_
            refine cq_imul F dX7_goOn_223 ?_
            rw [show (nI (pl_st g a b c 3) * nI (pl_f a b c k) : Int32) = nI ((pl_st g a b c 3) * (pl_f a b c k)) from pk_mul _ _]
            refine cq_isub F dX7_goOn_224 ?_
            refine cq_nmi (fun x_225 e_225 => ?_)
            refine cq_istore F dX7_goOn_225 (by decide) ?_
            refine cq_aload_n F (i := 0) dX7_goOn_227 rfl rfl ?_
            refine cq_getT (t := (o + 14)) F (C := RX7) (T := TX7) (N := 22) (ci := 8) ho.kind rfl ⟨⟨by decide, by decide⟩, rfl⟩ inX7 20 (by decide) rfl rfl ho.t20 (F.1.2.2.2.2 _ (List.mem_of_getElem? (l := wsX7_goOn) (i := 3) (a := .fieldLink RX7 50 "CordClockModel" "to" "[I") (by decide +kernel))) dX7_goOn_228 ?_
            refine cq_iload F dX7_goOn_231 rfl ?_
            refine cq_iconst F (v := 1) dX7_goOn_233 rfl ?_
            refine cq_iadd F dX7_goOn_234 ?_
            rw [show (nI (8 * acc.length) + 1 : Int32) = nI ((8 * acc.length) + 1) from nI_add _ _]
            refine cq_iload F dX7_goOn_235 rfl ?_
            refine cq_iadd F dX7_goOn_237 ?_
            rw [show (nI ((8 * acc.length) + 1) + nI k : Int32) = nI (((8 * acc.length) + 1) + k) from nI_add _ _]
            refine cq_iload F dX7_goOn_238 rfl ?_
            refine cq_if_le F (tgt := 248) dX7_goOn_240 (by decide) (fun c_240 => ?_) (fun c_240 => ?_)
            · have d_240 : pl_r g a b c k = 0 := by unfold pl_r; rw [Nat.mul_comm]; exact (pl_sub (by omega) (Nat.lt_of_le_of_lt (Nat.mul_le_mul hst9 (hvk (by omega)).2.1) (by decide))).1 (by rw [← e_225]; exact c_240)
              refine cq_iconst F (v := 0) dX7_goOn_248 rfl ?_
              refine cq_iast_j F (j := (((8 * acc.length) + 1) + k)) ho.k14 ho.n14 rfl ⟨(by omega), by decide⟩ dX7_goOn_249 (fun M_249 h_249 => ?_)
              have v_249_o12 := hF2.ne h_249 (by omega)
              refine cq_aload_n F (i := 0) dX7_goOn_250 rfl rfl ?_
              refine cq_getT (t := (o + 14)) F (C := RX7) (T := TX7) (N := 22) (ci := 8) ho.kind rfl ⟨⟨by decide, by decide⟩, rfl⟩ inX7 20 (by decide) rfl rfl ho.t20 (F.1.2.2.2.2 _ (List.mem_of_getElem? (l := wsX7_goOn) (i := 3) (a := .fieldLink RX7 50 "CordClockModel" "to" "[I") (by decide +kernel))) dX7_goOn_251 ?_
              refine cq_iload F dX7_goOn_254 rfl ?_
              refine cq_iconst F (v := 4) dX7_goOn_256 rfl ?_
              refine cq_iadd F dX7_goOn_257 ?_
              rw [show (nI (8 * acc.length) + 4 : Int32) = nI ((8 * acc.length) + 4) from nI_add _ _]
              refine cq_iload F dX7_goOn_258 rfl ?_
              refine cq_iadd F dX7_goOn_260 ?_
              rw [show (nI ((8 * acc.length) + 4) + nI k : Int32) = nI (((8 * acc.length) + 4) + k) from nI_add _ _]
              refine cq_iload F dX7_goOn_261 rfl ?_
              refine cq_if_le F (tgt := 271) dX7_goOn_263 (by decide) (fun c_263 => ?_) (fun c_263 => ?_)
              · refine cq_iconst F (v := 0) dX7_goOn_271 rfl ?_
                refine cq_iast_j F (j := (((8 * acc.length) + 4) + k)) ho.k14 ho.n14 rfl ⟨(by omega), by decide⟩ dX7_goOn_272 (fun M_272 h_272 => ?_)
                have v_272_o12 := v_249_o12.ne h_272 (by omega)
                refine cq_iinc F dX7_goOn_273 rfl (by decide) (fun x_273 e_273 => ?_)
                obtain rfl : x_273 = nI (k + 1) := by rw [e_273]; exact nI_1 _
                refine cq_goto F (tgt := 179) dX7_goOn_276 (by decide) ?_
                refine cq_loc (L2 := [(0, .ref o), (1, .int (nI p)), (2, .int (nI a)), (3, .int (nI b)), (4, .int (nI c)), (5, .int (nI (pl_st g a b c 3))), (6, .int (nI (pl_m g a b c 3))), (7, .int (nI (8 * acc.length))), (8, .int (nI (k + 1)))]) rfl ?_
                exact ih_179 (k + 1) M_272 c_125 (by omega) (pl_two (f := fun j => nI (pl_nx g a b c j)) h2 (by omega) h_249 h_272 (by show _ = nI (pl_nx g a b c (1 + k)); rw [pl_nx_r (by omega)]; all_goals (first | rfl | (rw [d_240]; rfl))) (by show _ = nI (pl_nx g a b c (4 + k)); rw [pl_nx_f (by omega)]; first | rw [if_pos d_240.2] | (rw [d_240]; rfl))) (fun j hj => by rw [h_272, cq_up_a (by omega), h_249, cq_up_a (by omega)]; exact hF2 j hj) (by omega)
              · exact absurd c_240 c_263
            · have d_240 : nI (g (1 + k)) - nI (pl_st g a b c 3 * pl_f a b c k) = nI (pl_r g a b c k) ∧ 0 < pl_r g a b c k := by unfold pl_r; rw [Nat.mul_comm (pl_f a b c k)]; exact (pl_sub (by omega) (Nat.lt_of_le_of_lt (Nat.mul_le_mul hst9 (hvk (by omega)).2.1) (by decide))).2 (by rw [← e_225]; exact c_240)
              obtain rfl : x_225 = nI (pl_r g a b c k) := by rw [e_225]; exact d_240.1
              have hr9 : pl_r g a b c k ≤ 360 := by unfold pl_r; omega
              refine cq_iload F dX7_goOn_243 rfl ?_
              refine cq_goto F (tgt := 249) dX7_goOn_245 (by decide) ?_
              refine cq_iast_j F (j := (((8 * acc.length) + 1) + k)) ho.k14 ho.n14 rfl ⟨(by omega), by decide⟩ dX7_goOn_249 (fun M_249 h_249 => ?_)
              have v_249_o12 := hF2.ne h_249 (by omega)
              refine cq_aload_n F (i := 0) dX7_goOn_250 rfl rfl ?_
              refine cq_getT (t := (o + 14)) F (C := RX7) (T := TX7) (N := 22) (ci := 8) ho.kind rfl ⟨⟨by decide, by decide⟩, rfl⟩ inX7 20 (by decide) rfl rfl ho.t20 (F.1.2.2.2.2 _ (List.mem_of_getElem? (l := wsX7_goOn) (i := 3) (a := .fieldLink RX7 50 "CordClockModel" "to" "[I") (by decide +kernel))) dX7_goOn_251 ?_
              refine cq_iload F dX7_goOn_254 rfl ?_
              refine cq_iconst F (v := 4) dX7_goOn_256 rfl ?_
              refine cq_iadd F dX7_goOn_257 ?_
              rw [show (nI (8 * acc.length) + 4 : Int32) = nI ((8 * acc.length) + 4) from nI_add _ _]
              refine cq_iload F dX7_goOn_258 rfl ?_
              refine cq_iadd F dX7_goOn_260 ?_
              rw [show (nI ((8 * acc.length) + 4) + nI k : Int32) = nI (((8 * acc.length) + 4) + k) from nI_add _ _]
              refine cq_iload F dX7_goOn_261 rfl ?_
              refine cq_if_le F (tgt := 271) dX7_goOn_263 (by decide) (fun c_263 => ?_) (fun c_263 => ?_)
              · have c_263 : (pl_r g a b c k) ≤ 0 := (nI_b (a := (pl_r g a b c k)) (b := 0) (by omega) (by omega)).1.mp c_263
                omega
              · have c_263 : ¬ (pl_r g a b c k) ≤ 0 := fun z => c_263 ((nI_b (a := (pl_r g a b c k)) (b := 0) (by omega) (by omega)).1.mpr z)
                refine cq_iload F dX7_goOn_266 rfl ?_
                refine cq_goto F (tgt := 272) dX7_goOn_268 (by decide) ?_
                refine cq_iast_j F (j := (((8 * acc.length) + 4) + k)) ho.k14 ho.n14 rfl ⟨(by omega), by decide⟩ dX7_goOn_272 (fun M_272 h_272 => ?_)
                have v_272_o12 := v_249_o12.ne h_272 (by omega)
                refine cq_iinc F dX7_goOn_273 rfl (by decide) (fun x_273 e_273 => ?_)
                obtain rfl : x_273 = nI (k + 1) := by rw [e_273]; exact nI_1 _
                refine cq_goto F (tgt := 179) dX7_goOn_276 (by decide) ?_
                refine cq_loc (L2 := [(0, .ref o), (1, .int (nI p)), (2, .int (nI a)), (3, .int (nI b)), (4, .int (nI c)), (5, .int (nI (pl_st g a b c 3))), (6, .int (nI (pl_m g a b c 3))), (7, .int (nI (8 * acc.length))), (8, .int (nI (k + 1)))]) rfl ?_
                exact ih_179 (k + 1) M_272 c_125 (by omega) (pl_two (f := fun j => nI (pl_nx g a b c j)) h2 (by omega) h_249 h_272 (by show _ = nI (pl_nx g a b c (1 + k)); rw [pl_nx_r (by omega)]; all_goals (first | rfl | (rw [d_240]; rfl))) (by show _ = nI (pl_nx g a b c (4 + k)); rw [pl_nx_f (by omega)]; first | rw [if_pos d_240.2] | (rw [d_240]; rfl))) (fun j hj => by rw [h_272, cq_up_a (by omega), h_249, cq_up_a (by omega)]; exact hF2 j hj) (by omega)
        · have c_187 : k = 0 := (nI_b (a := k) (b := 0) (by omega) (by omega)).2.2.mp c_187
          refine cq_iload_n F (i := 2) dX7_goOn_190 rfl rfl ?_
          refine cq_goto F (tgt := 206) dX7_goOn_191 (by decide) ?_
          refine cq_nmi (fun x_206 e_206 => ?_)
          obtain rfl : x_206 = nI (pl_f a b c k) := by rw [e_206]; unfold pl_f; first | rw [if_pos c_187] | rw [if_neg c_187, if_pos c_197] | rw [if_neg c_187, if_neg c_197]
          refine cq_istore F dX7_goOn_206 (by decide) ?_
          refine cq_aload_n F (i := 0) dX7_goOn_208 rfl rfl ?_
          refine cq_getT (t := (o + 13)) F (C := RX7) (T := TX7) (N := 22) (ci := 8) ho.kind rfl ⟨⟨by decide, by decide⟩, rfl⟩ inX7 18 (by decide) rfl rfl ho.t18 (F.1.2.2.2.2 _ (List.mem_of_getElem? (l := wsX7_goOn) (i := 1) (a := .fieldLink RX7 47 "CordClockModel" "from" "[I") (by decide +kernel))) dX7_goOn_209 ?_
          refine cq_iload_n F (i := 1) dX7_goOn_212 rfl rfl ?_
          refine cq_iconst F (v := 1) dX7_goOn_213 rfl ?_
          refine cq_iadd F dX7_goOn_214 ?_
          rw [show (nI p + 1 : Int32) = nI (p + 1) from nI_add _ _]
          refine cq_iload F dX7_goOn_215 rfl ?_
          refine cq_iadd F dX7_goOn_217 ?_
          rw [show (nI (p + 1) + nI k : Int32) = nI ((p + 1) + k) from nI_add _ _]
          refine cq_iald_j F (j := ((p + 1) + k)) ho.k13 ho.n13 rfl ⟨(by omega), by decide⟩ dX7_goOn_218 ?_
          rw [(show M2 (o + 13) (p + 1 + k) = nI (g (1 + k)) by rw [h2, if_neg (by omega)]; rw [show (p + 1 + k) = p + (1 + k) by omega]; exact hfr _ (by omega))]
          refine cq_iload F dX7_goOn_219 rfl ?_
          refine cq_iload F dX7_goOn_221 rfl ?_
          refine cq_imul F dX7_goOn_223 ?_
          rw [show (nI (pl_st g a b c 3) * nI (pl_f a b c k) : Int32) = nI ((pl_st g a b c 3) * (pl_f a b c k)) from pk_mul _ _]
          refine cq_isub F dX7_goOn_224 ?_
          refine cq_nmi (fun x_225 e_225 => ?_)
          refine cq_istore F dX7_goOn_225 (by decide) ?_
          refine cq_aload_n F (i := 0) dX7_goOn_227 rfl rfl ?_
          refine cq_getT (t := (o + 14)) F (C := RX7) (T := TX7) (N := 22) (ci := 8) ho.kind rfl ⟨⟨by decide, by decide⟩, rfl⟩ inX7 20 (by decide) rfl rfl ho.t20 (F.1.2.2.2.2 _ (List.mem_of_getElem? (l := wsX7_goOn) (i := 3) (a := .fieldLink RX7 50 "CordClockModel" "to" "[I") (by decide +kernel))) dX7_goOn_228 ?_
          refine cq_iload F dX7_goOn_231 rfl ?_
          refine cq_iconst F (v := 1) dX7_goOn_233 rfl ?_
          refine cq_iadd F dX7_goOn_234 ?_
          rw [show (nI (8 * acc.length) + 1 : Int32) = nI ((8 * acc.length) + 1) from nI_add _ _]
          refine cq_iload F dX7_goOn_235 rfl ?_
          refine cq_iadd F dX7_goOn_237 ?_
          rw [show (nI ((8 * acc.length) + 1) + nI k : Int32) = nI (((8 * acc.length) + 1) + k) from nI_add _ _]
          refine cq_iload F dX7_goOn_238 rfl ?_
          refine cq_if_le F (tgt := 248) dX7_goOn_240 (by decide) (fun c_240 => ?_) (fun c_240 => ?_)
          · have d_240 : pl_r g a b c k = 0 := by unfold pl_r; rw [Nat.mul_comm]; exact (pl_sub (by omega) (Nat.lt_of_le_of_lt (Nat.mul_le_mul hst9 (hvk (by omega)).2.1) (by decide))).1 (by rw [← e_225]; exact c_240)
            refine cq_iconst F (v := 0) dX7_goOn_248 rfl ?_
            refine cq_iast_j F (j := (((8 * acc.length) + 1) + k)) ho.k14 ho.n14 rfl ⟨(by omega), by decide⟩ dX7_goOn_249 (fun M_249 h_249 => ?_)
            have v_249_o12 := hF2.ne h_249 (by omega)
            refine cq_aload_n F (i := 0) dX7_goOn_250 rfl rfl ?_
            refine cq_getT (t := (o + 14)) F (C := RX7) (T := TX7) (N := 22) (ci := 8) ho.kind rfl ⟨⟨by decide, by decide⟩, rfl⟩ inX7 20 (by decide) rfl rfl ho.t20 (F.1.2.2.2.2 _ (List.mem_of_getElem? (l := wsX7_goOn) (i := 3) (a := .fieldLink RX7 50 "CordClockModel" "to" "[I") (by decide +kernel))) dX7_goOn_251 ?_
            refine cq_iload F dX7_goOn_254 rfl ?_
            refine cq_iconst F (v := 4) dX7_goOn_256 rfl ?_
            refine cq_iadd F dX7_goOn_257 ?_
            rw [show (nI (8 * acc.length) + 4 : Int32) = nI ((8 * acc.length) + 4) from nI_add _ _]
            refine cq_iload F dX7_goOn_258 rfl ?_
            refine cq_iadd F dX7_goOn_260 ?_
            rw [show (nI ((8 * acc.length) + 4) + nI k : Int32) = nI (((8 * acc.length) + 4) + k) from nI_add _ _]
            refine cq_iload F dX7_goOn_261 rfl ?_
            refine cq_if_le F (tgt := 271) dX7_goOn_263 (by decide) (fun c_263 => ?_) (fun c_263 => ?_)
            · refine cq_iconst F (v := 0) dX7_goOn_271 rfl ?_
              refine cq_iast_j F (j := (((8 * acc.length) + 4) + k)) ho.k14 ho.n14 rfl ⟨(by omega), by decide⟩ dX7_goOn_272 (fun M_272 h_272 => ?_)
              have v_272_o12 := v_249_o12.ne h_272 (by omega)
              refine cq_iinc F dX7_goOn_273 rfl (by decide) (fun x_273 e_273 => ?_)
              obtain rfl : x_273 = nI (k + 1) := by rw [e_273]; exact nI_1 _
              refine cq_goto F (tgt := 179) dX7_goOn_276 (by decide) ?_
              refine cq_loc (L2 := [(0, .ref o), (1, .int (nI p)), (2, .int (nI a)), (3, .int (nI b)), (4, .int (nI c)), (5, .int (nI (pl_st g a b c 3))), (6, .int (nI (pl_m g a b c 3))), (7, .int (nI (8 * acc.length))), (8, .int (nI (k + 1)))]) rfl ?_
              exact ih_179 (k + 1) M_272 c_125 (by omega) (pl_two (f := fun j => nI (pl_nx g a b c j)) h2 (by omega) h_249 h_272 (by show _ = nI (pl_nx g a b c (1 + k)); rw [pl_nx_r (by omega)]; all_goals (first | rfl | (rw [d_240]; rfl))) (by show _ = nI (pl_nx g a b c (4 + k)); rw [pl_nx_f (by omega)]; first | rw [if_pos d_240.2] | (rw [d_240]; rfl))) (fun j hj => by rw [h_272, cq_up_a (by omega), h_249, cq_up_a (by omega)]; exact hF2 j hj) (by omega)
            · exact absurd c_240 c_263
          · have d_240 : nI (g (1 + k)) - nI (pl_st g a b c 3 * pl_f a b c k) = nI (pl_r g a b c k) ∧ 0 < pl_r g a b c k := by unfold pl_r; rw [Nat.mul_comm (pl_f a b c k)]; exact (pl_sub (by omega) (Nat.lt_of_le_of_lt (Nat.mul_le_mul hst9 (hvk (by omega)).2.1) (by decide))).2 (by rw [← e_225]; exact c_240)
            obtain rfl : x_225 = nI (pl_r g a b c k) := by rw [e_225]; exact d_240.1
            have hr9 : pl_r g a b c k ≤ 360 := by unfold pl_r; omega
            refine cq_iload F dX7_goOn_243 rfl ?_
            refine cq_goto F (tgt := 249) dX7_goOn_245 (by decide) ?_
            refine cq_iast_j F (j := (((8 * acc.length) + 1) + k)) ho.k14 ho.n14 rfl ⟨(by omega), by decide⟩ dX7_goOn_249 (fun M_249 h_249 => ?_)
            have v_249_o12 := hF2.ne h_249 (by omega)
            refine cq_aload_n F (i := 0) dX7_goOn_250 rfl rfl ?_
            refine cq_getT (t := (o + 14)) F (C := RX7) (T := TX7) (N := 22) (ci := 8) ho.kind rfl ⟨⟨by decide, by decide⟩, rfl⟩ inX7 20 (by decide) rfl rfl ho.t20 (F.1.2.2.2.2 _ (List.mem_of_getElem? (l := wsX7_goOn) (i := 3) (a := .fieldLink RX7 50 "CordClockModel" "to" "[I") (by decide +kernel))) dX7_goOn_251 ?_
            refine cq_iload F dX7_goOn_254 rfl ?_
            refine cq_iconst F (v := 4) dX7_goOn_256 rfl ?_
            refine cq_iadd F dX7_goOn_257 ?_
            rw [show (nI (8 * acc.length) + 4 : Int32) = nI ((8 * acc.length) + 4) from nI_add _ _]
            refine cq_iload F dX7_goOn_258 rfl ?_
            refine cq_iadd F dX7_goOn_260 ?_
            rw [show (nI ((8 * acc.length) + 4) + nI k : Int32) = nI (((8 * acc.length) + 4) + k) from nI_add _ _]
            refine cq_iload F dX7_goOn_261 rfl ?_
            refine cq_if_le F (tgt := 271) dX7_goOn_263 (by decide) (fun c_263 => ?_) (fun c_263 => ?_)
            · have c_263 : (pl_r g a b c k) ≤ 0 := (nI_b (a := (pl_r g a b c k)) (b := 0) (by omega) (by omega)).1.mp c_263
              omega
            · have c_263 : ¬ (pl_r g a b c k) ≤ 0 := fun z => c_263 ((nI_b (a := (pl_r g a b c k)) (b := 0) (by omega) (by omega)).1.mpr z)
              refine cq_iload F dX7_goOn_266 rfl ?_
              refine cq_goto F (tgt := 272) dX7_goOn_268 (by decide) ?_
              refine cq_iast_j F (j := (((8 * acc.length) + 4) + k)) ho.k14 ho.n14 rfl ⟨(by omega), by decide⟩ dX7_goOn_272 (fun M_272 h_272 => ?_)
              have v_272_o12 := v_249_o12.ne h_272 (by omega)
              refine cq_iinc F dX7_goOn_273 rfl (by decide) (fun x_273 e_273 => ?_)
              obtain rfl : x_273 = nI (k + 1) := by rw [e_273]; exact nI_1 _
              refine cq_goto F (tgt := 179) dX7_goOn_276 (by decide) ?_
              refine cq_loc (L2 := [(0, .ref o), (1, .int (nI p)), (2, .int (nI a)), (3, .int (nI b)), (4, .int (nI c)), (5, .int (nI (pl_st g a b c 3))), (6, .int (nI (pl_m g a b c 3))), (7, .int (nI (8 * acc.length))), (8, .int (nI (k + 1)))]) rfl ?_
              exact ih_179 (k + 1) M_272 c_125 (by omega) (pl_two (f := fun j => nI (pl_nx g a b c j)) h2 (by omega) h_249 h_272 (by show _ = nI (pl_nx g a b c (1 + k)); rw [pl_nx_r (by omega)]; all_goals (first | rfl | (rw [d_240]; rfl))) (by show _ = nI (pl_nx g a b c (4 + k)); rw [pl_nx_f (by omega)]; first | rw [if_pos d_240.2] | (rw [d_240]; rfl))) (fun j hj => by rw [h_272, cq_up_a (by omega), h_249, cq_up_a (by omega)]; exact hF2 j hj) (by omega)
  have loop_9 : ∀ (n_9 : Nat) (k st mo : Nat), k ≤ 3 → st = pl_st g a b c k → mo = pl_m g a b c k → 4 - k < n_9 → cq_V p9 l e9 rmX7_goOn s9 m9 ([.ref o, .int (nI p), .int (nI a), .int (nI b), .int (nI c)] : List Value).toArray b9 t9 c9 D cA X Bs 11 0 0 (MQ b9 (cq_Q D cA X Bs (cq_PV (fun M1 => pm_T M1 o (acc ++ pl_go g a b c) ∧ cq_nv M1 (o + 12) 1081 ((pl_go g a b c).foldl pl_note Y) ∧ pm_fr M M1 o))) ([.ref o, .int (nI p), .int (nI a), .int (nI b), .int (nI c)] : List Value).toArray s9 0 0 (cq_A Bs)) 9 [(0, .ref o), (1, .int (nI p)), (2, .int (nI a)), (3, .int (nI b)), (4, .int (nI c)), (5, .int (nI st)), (6, .int (nI mo)), (7, .int (nI k))] [] M := by
    intro n_9
    induction n_9 with
    | zero =>
      intros
      omega
    | succ n_9 ih_9 =>
      intro k st mo hk3 hst hmo hn
      have hvk : k < 3 → g (4 + k) ≤ pl_f a b c k ∧ pl_f a b c k ≤ 2 ∧ (g (1 + k) = 0 → pl_f a b c k = 0) := fun z => hv k z
      have hgk : k < 3 → g (1 + k) ≤ 360 := fun z => (hok.2.1 k z).1
      have hstk := pl_st_le hok hv k hk3
      have hmk := pl_m_le hv k hk3
      refine cq_iload F dX7_goOn_9 rfl ?_
      refine cq_iconst F (v := 3) dX7_goOn_11 rfl ?_
      refine cq_icmp_ge F (tgt := 123) dX7_goOn_12 (by decide) (fun c_12 => ?_) (fun c_12 => ?_)
      · have c_12 : 3 ≤ k := (nI_b (a := 3) (b := k) (by omega) (by omega)).1.mp c_12
        obtain rfl : k = 3 := by omega
        subst hst
        subst hmo
        refine cq_iload F dX7_goOn_123 rfl ?_
        refine cq_if_ne F (tgt := 129) dX7_goOn_125 (by decide) (fun c_125 => ?_) (fun c_125 => ?_)
        · have c_125 : ¬ (pl_st g a b c 3) = 0 := fun z => c_125 ((nI_b (a := (pl_st g a b c 3)) (b := 0) (by omega) (by omega)).2.2.mpr z)
          have hlen9 : acc.length + 1 ≤ 720 := by rw [show pl_go g a b c = [pl_nx g a b c] from if_neg c_125] at hlen; exact hlen
          refine cq_bipush F (v := 8) dX7_goOn_129 (by decide) ?_
          refine cq_aload_n F (i := 0) dX7_goOn_131 rfl rfl ?_
          refine cq_getI F (C := RX7) (T := TX7) (N := 22) (ci := 8) ho.kind rfl ⟨⟨by decide, by decide⟩, rfl⟩ inX7 21 (by decide) rfl rfl (F.1.2.2.2.2 _ (List.mem_of_getElem? (l := wsX7_goOn) (i := 2) (a := .fieldLink RX7 215 "CordClockModel" "toMany" "I") (by decide +kernel))) dX7_goOn_132 ?_
          rw [show M o 21 = nI (acc.length) from (show M o 21 = nI (acc.length) from hT.1)]
          refine cq_imul F dX7_goOn_135 ?_
          rw [show (8 * nI acc.length : Int32) = nI (8 * acc.length) from pk_mul _ _]
          refine cq_istore F dX7_goOn_136 (by decide) ?_
          refine cq_aload_n F (i := 0) dX7_goOn_138 rfl rfl ?_
          refine cq_getT (t := (o + 14)) F (C := RX7) (T := TX7) (N := 22) (ci := 8) ho.kind rfl ⟨⟨by decide, by decide⟩, rfl⟩ inX7 20 (by decide) rfl rfl ho.t20 (F.1.2.2.2.2 _ (List.mem_of_getElem? (l := wsX7_goOn) (i := 3) (a := .fieldLink RX7 50 "CordClockModel" "to" "[I") (by decide +kernel))) dX7_goOn_139 ?_
          refine cq_iload F dX7_goOn_142 rfl ?_
          refine cq_aload_n F (i := 0) dX7_goOn_144 rfl rfl ?_
          refine cq_getT (t := (o + 13)) F (C := RX7) (T := TX7) (N := 22) (ci := 8) ho.kind rfl ⟨⟨by decide, by decide⟩, rfl⟩ inX7 18 (by decide) rfl rfl ho.t18 (F.1.2.2.2.2 _ (List.mem_of_getElem? (l := wsX7_goOn) (i := 1) (a := .fieldLink RX7 47 "CordClockModel" "from" "[I") (by decide +kernel))) dX7_goOn_145 ?_
          refine cq_iload_n F (i := 1) dX7_goOn_148 rfl rfl ?_
          refine cq_iald_j F (j := p) ho.k13 ho.n13 rfl ⟨(by omega), by decide⟩ dX7_goOn_149 ?_
          rw [(show M (o + 13) p = nI (g (0)) by rw [show p = p + (0) by omega]; exact hfr _ (by omega))]
          refine cq_iload F dX7_goOn_150 rfl ?_
          refine cq_iadd F dX7_goOn_152 ?_
          rw [show (nI (g (0)) + nI (pl_st g a b c 3) : Int32) = nI ((g (0)) + (pl_st g a b c 3)) from nI_add _ _]
          refine cq_iast_j F (j := 8 * acc.length) ho.k14 ho.n14 rfl ⟨(by omega), by decide⟩ dX7_goOn_153 (fun M_153 h_153 => ?_)
          have v_153_o12 := hF.ne h_153 (by omega)
          refine cq_aload_n F (i := 0) dX7_goOn_154 rfl rfl ?_
          refine cq_getT (t := (o + 14)) F (C := RX7) (T := TX7) (N := 22) (ci := 8) ho.kind rfl ⟨⟨by decide, by decide⟩, rfl⟩ inX7 20 (by decide) rfl rfl ho.t20 (F.1.2.2.2.2 _ (List.mem_of_getElem? (l := wsX7_goOn) (i := 3) (a := .fieldLink RX7 50 "CordClockModel" "to" "[I") (by decide +kernel))) dX7_goOn_155 ?_
          refine cq_iload F dX7_goOn_158 rfl ?_
          refine cq_bipush F (v := 7) dX7_goOn_160 (by decide) ?_
          refine cq_iadd F dX7_goOn_162 ?_
          rw [show (nI (8 * acc.length) + 7 : Int32) = nI (8 * acc.length + 7) from nI_add _ _]
          refine cq_aload_n F (i := 0) dX7_goOn_163 rfl rfl ?_
          refine cq_getT (t := (o + 13)) F (C := RX7) (T := TX7) (N := 22) (ci := 8) ho.kind rfl ⟨⟨by decide, by decide⟩, rfl⟩ inX7 18 (by decide) rfl rfl ho.t18 (F.1.2.2.2.2 _ (List.mem_of_getElem? (l := wsX7_goOn) (i := 1) (a := .fieldLink RX7 47 "CordClockModel" "from" "[I") (by decide +kernel))) dX7_goOn_164 ?_
          refine cq_iload_n F (i := 1) dX7_goOn_167 rfl rfl ?_
          refine cq_bipush F (v := 7) dX7_goOn_168 (by decide) ?_
          refine cq_iadd F dX7_goOn_170 ?_
          rw [show (nI p + 7 : Int32) = nI (p + 7) from nI_add _ _]
          refine cq_iald_j F (j := (p + 7)) ho.k13 ho.n13 rfl ⟨(by omega), by decide⟩ dX7_goOn_171 ?_
          rw [(show M_153 (o + 13) (p + 7) = nI (g (7)) by rw [h_153, cq_up_a (by omega)]; rw [show (p + 7) = p + (7) by omega]; exact hfr _ (by omega))]
          refine cq_iload F dX7_goOn_172 rfl ?_
          refine cq_iadd F dX7_goOn_174 ?_
          rw [show (nI (g (7)) + nI (pl_m g a b c 3) : Int32) = nI ((g (7)) + (pl_m g a b c 3)) from nI_add _ _]
          refine cq_iast_j F (j := (8 * acc.length + 7)) ho.k14 ho.n14 rfl ⟨(by omega), by decide⟩ dX7_goOn_175 (fun M_175 h_175 => ?_)
          have v_175_o12 := v_153_o12.ne h_175 (by omega)
          refine cq_iconst F (v := 0) dX7_goOn_176 rfl ?_
          refine cq_istore F dX7_goOn_177 (by decide) ?_
          refine cq_loc (L2 := [(0, .ref o), (1, .int (nI p)), (2, .int (nI a)), (3, .int (nI b)), (4, .int (nI c)), (5, .int (nI (pl_st g a b c 3))), (6, .int (nI (pl_m g a b c 3))), (7, .int (nI (8 * acc.length))), (8, .int (nI 0))]) rfl ?_
          exact loop_179 5 0 M_175 c_125 (by omega) (fun x j => by
        rw [h_175, h_153]
        by_cases e1 : x = o + 14 ∧ j = 8 * acc.length + 7
        · obtain ⟨rfl, rfl⟩ := e1
          rw [cq_up_s, if_pos ⟨rfl, by omega⟩, Nat.add_sub_cancel_left, pl_nx_7]
        · rw [show cq_up (cq_up M (o + 14) (8 * acc.length) (nI (g (0) + pl_st g a b c 3))) (o + 14) (8 * acc.length + 7) (nI (g (7) + pl_m g a b c 3)) x j = cq_up M (o + 14) (8 * acc.length) (nI (g 0 + pl_st g a b c 3)) x j from if_neg e1]
          by_cases e2 : x = o + 14 ∧ j = 8 * acc.length
          · obtain ⟨rfl, rfl⟩ := e2
            rw [cq_up_s, if_pos ⟨rfl, by omega⟩, Nat.sub_self, pl_nx_0]
          · rw [if_neg (fun z => by
              have z2 := z.2
              have z3 : ¬ j = 8 * acc.length + 7 := fun y => e1 ⟨z.1, y⟩
              have z4 : ¬ j = 8 * acc.length := fun y => e2 ⟨z.1, y⟩
              omega)]
            exact if_neg e2) (v_175_o12) (by omega)
        · have c_125 : (pl_st g a b c 3) = 0 := (nI_b (a := (pl_st g a b c 3)) (b := 0) (by omega) (by omega)).2.2.mp c_125
          refine cq_vret F hr (by decide) (by decide) dX7_goOn_128 ⟨rfl, ?_⟩
          have e9 : pl_go g a b c = [] := if_pos c_125
          rw [e9]
          exact ⟨by rw [List.append_nil]; exact hT, hF, pm_fr.rf⟩
      · have c_12 : ¬ 3 ≤ k := fun z => c_12 ((nI_b (a := 3) (b := k) (by omega) (by omega)).1.mpr z)
        refine cq_iload F dX7_goOn_15 rfl ?_
        refine cq_if_ne F (tgt := 24) dX7_goOn_17 (by decide) (fun c_17 => ?_) (fun c_17 => ?_)
        · have c_17 : ¬ k = 0 := fun z => c_17 ((nI_b (a := k) (b := 0) (by omega) (by omega)).2.2.mpr z)
          refine cq_iload F dX7_goOn_24 rfl ?_
          refine cq_iconst F (v := 1) dX7_goOn_26 rfl ?_
          refine cq_icmp_ne F (tgt := 34) dX7_goOn_27 (by decide) (fun c_27 => ?_) (fun c_27 => ?_)
          · have c_27 : ¬ k = 1 := fun z => c_27 ((nI_b (a := k) (b := 1) (by omega) (by omega)).2.2.mpr z)
            refine cq_iload F dX7_goOn_34 rfl ?_
            refine cq_nmi (fun x_36 e_36 => ?_)
            obtain rfl : x_36 = nI (pl_f a b c k) := by rw [e_36]; unfold pl_f; first | rw [if_pos c_17] | rw [if_neg c_17, if_pos c_27] | rw [if_neg c_17, if_neg c_27]
            refine cq_istore F dX7_goOn_36 (by decide) ?_
            refine cq_aload_n F (i := 0) dX7_goOn_38 rfl rfl ?_
            refine cq_getT (t := (o + 13)) F (C := RX7) (T := TX7) (N := 22) (ci := 8) ho.kind rfl ⟨⟨by decide, by decide⟩, rfl⟩ inX7 18 (by decide) rfl rfl ho.t18 (F.1.2.2.2.2 _ (List.mem_of_getElem? (l := wsX7_goOn) (i := 1) (a := .fieldLink RX7 47 "CordClockModel" "from" "[I") (by decide +kernel))) dX7_goOn_39 ?_
            refine cq_iload_n F (i := 1) dX7_goOn_42 rfl rfl ?_
            refine cq_iconst F (v := 1) dX7_goOn_43 rfl ?_
            refine cq_iadd F dX7_goOn_44 ?_
            rw [show (nI p + 1 : Int32) = nI (p + 1) from nI_add _ _]
            refine cq_iload F dX7_goOn_45 rfl ?_
            refine cq_iadd F dX7_goOn_47 ?_
            rw [show (nI (p + 1) + nI k : Int32) = nI ((p + 1) + k) from nI_add _ _]
            refine cq_iald_j F (j := ((p + 1) + k)) ho.k13 ho.n13 rfl ⟨(by omega), by decide⟩ dX7_goOn_48 ?_
            rw [(show M (o + 13) (p + 1 + k) = nI (g (1 + k)) by rw [show (p + 1 + k) = p + (1 + k) by omega]; exact hfr _ (by omega))]
            refine cq_istore F dX7_goOn_49 (by decide) ?_
            refine cq_iload F dX7_goOn_51 rfl ?_
            refine cq_iload F dX7_goOn_53 rfl ?_
            refine cq_aload_n F (i := 0) dX7_goOn_55 rfl rfl ?_
            refine cq_getT (t := (o + 13)) F (C := RX7) (T := TX7) (N := 22) (ci := 8) ho.kind rfl ⟨⟨by decide, by decide⟩, rfl⟩ inX7 18 (by decide) rfl rfl ho.t18 (F.1.2.2.2.2 _ (List.mem_of_getElem? (l := wsX7_goOn) (i := 1) (a := .fieldLink RX7 47 "CordClockModel" "from" "[I") (by decide +kernel))) dX7_goOn_56 ?_
            refine cq_iload_n F (i := 1) dX7_goOn_59 rfl rfl ?_
            refine cq_iconst F (v := 4) dX7_goOn_60 rfl ?_
            refine cq_iadd F dX7_goOn_61 ?_
            rw [show (nI p + 4 : Int32) = nI (p + 4) from nI_add _ _]
            refine cq_iload F dX7_goOn_62 rfl ?_
            refine cq_iadd F dX7_goOn_64 ?_
            rw [show (nI (p + 4) + nI k : Int32) = nI ((p + 4) + k) from nI_add _ _]
            refine cq_iald_j F (j := ((p + 4) + k)) ho.k13 ho.n13 rfl ⟨(by omega), by decide⟩ dX7_goOn_65 ?_
            rw [(show M (o + 13) (p + 4 + k) = nI (g (4 + k)) by rw [show (p + 4 + k) = p + (4 + k) by omega]; exact hfr _ (by omega))]
            refine cq_isub F dX7_goOn_66 ?_
            rw [show (nI (pl_f a b c k) - nI (g (4 + k)) : Int32) = nI ((pl_f a b c k) - (g (4 + k))) from pk_sub (a := (pl_f a b c k)) (b := (g (4 + k))) (by omega)]
            refine cq_iadd F dX7_goOn_67 ?_
            rw [show (nI mo + nI ((pl_f a b c k) - (g (4 + k))) : Int32) = nI (mo + ((pl_f a b c k) - (g (4 + k)))) from nI_add _ _]
            refine cq_istore F dX7_goOn_68 (by decide) ?_
            refine cq_iload F dX7_goOn_70 rfl ?_
            refine cq_if_ne F (tgt := 79) dX7_goOn_72 (by decide) (fun c_72 => ?_) (fun c_72 => ?_)
            · have c_72 : ¬ (pl_f a b c k) = 0 := fun z => c_72 ((nI_b (a := (pl_f a b c k)) (b := 0) (by omega) (by omega)).2.2.mpr z)
              refine cq_iload F dX7_goOn_79 rfl ?_
              refine cq_iload F dX7_goOn_81 rfl ?_
              refine cq_iadd F dX7_goOn_83 ?_
              rw [show (nI (g (1 + k)) + nI (pl_f a b c k) : Int32) = nI ((g (1 + k)) + (pl_f a b c k)) from nI_add _ _]
              refine cq_iconst F (v := 1) dX7_goOn_84 rfl ?_
              refine cq_isub F dX7_goOn_85 ?_
              rw [show (nI ((g (1 + k)) + (pl_f a b c k)) - 1 : Int32) = nI (((g (1 + k)) + (pl_f a b c k)) - 1) from pk_sub (a := ((g (1 + k)) + (pl_f a b c k))) (b := 1) (by omega)]
              refine cq_iload F dX7_goOn_86 rfl ?_
              refine cq_idiv F dX7_goOn_88 (fun z => absurd ((nI_eq (a := pl_f a b c k) (b := 0) (by omega) (by omega)).mp z) c_72) ?_
              rw [show (nI (g (1 + k) + pl_f a b c k - 1) / nI (pl_f a b c k) : Int32) = nI ((g (1 + k) + pl_f a b c k - 1) / pl_f a b c k) from pk_div (by omega) (by omega) (by omega)]
              have hq88 : (g (1 + k) + pl_f a b c k - 1) / pl_f a b c k ≤ 362 := Nat.le_trans (Nat.div_le_self _ _) (by omega)
              refine cq_istore F dX7_goOn_89 (by decide) ?_
              refine cq_iload F dX7_goOn_91 rfl ?_
              refine cq_if_le F (tgt := 113) dX7_goOn_93 (by decide) (fun c_93 => ?_) (fun c_93 => ?_)
              · have c_93 : ((g (1 + k) + pl_f a b c k - 1) / pl_f a b c k) ≤ 0 := (nI_b (a := ((g (1 + k) + pl_f a b c k - 1) / pl_f a b c k)) (b := 0) (by omega) (by omega)).1.mp c_93
                refine cq_iload F dX7_goOn_113 rfl ?_
                refine cq_istore F dX7_goOn_115 (by decide) ?_
                refine cq_iinc F dX7_goOn_117 rfl (by decide) (fun x_117 e_117 => ?_)
                obtain rfl : x_117 = nI (k + 1) := by rw [e_117]; exact nI_1 _
                refine cq_goto F (tgt := 9) dX7_goOn_120 (by decide) ?_
                refine cq_loc (L2 := [(0, .ref o), (1, .int (nI p)), (2, .int (nI a)), (3, .int (nI b)), (4, .int (nI c)), (5, .int (nI st)), (6, .int (nI (mo + ((pl_f a b c k) - (g (4 + k)))))), (7, .int (nI (k + 1)))]) rfl ?_
                exact ih_9 (k + 1) _ _ (by omega) (by
            show _ = pl_s (pl_st g a b c k) (pl_l g a b c k)
            rw [← hst]
            unfold pl_s pl_l
            first
            | rw [if_pos c_72, if_neg (by omega)]
            | (rw [if_neg c_72]; first | rw [if_neg (by omega)] | rw [if_pos (by omega)])) (by rw [hmo]; rfl) (by omega)
              · have c_93 : ¬ ((g (1 + k) + pl_f a b c k - 1) / pl_f a b c k) ≤ 0 := fun z => c_93 ((nI_b (a := ((g (1 + k) + pl_f a b c k - 1) / pl_f a b c k)) (b := 0) (by omega) (by omega)).1.mpr z)
                refine cq_iload F dX7_goOn_96 rfl ?_
                refine cq_if_eq F (tgt := 108) dX7_goOn_98 (by decide) (fun c_98 => ?_) (fun c_98 => ?_)
                · have c_98 : st = 0 := (nI_b (a := st) (b := 0) (by omega) (by omega)).2.2.mp c_98
                  refine cq_iload F dX7_goOn_108 rfl ?_
                  refine cq_goto F (tgt := 115) dX7_goOn_110 (by decide) ?_
                  refine cq_istore F dX7_goOn_115 (by decide) ?_
                  refine cq_iinc F dX7_goOn_117 rfl (by decide) (fun x_117 e_117 => ?_)
                  obtain rfl : x_117 = nI (k + 1) := by rw [e_117]; exact nI_1 _
                  refine cq_goto F (tgt := 9) dX7_goOn_120 (by decide) ?_
                  refine cq_loc (L2 := [(0, .ref o), (1, .int (nI p)), (2, .int (nI a)), (3, .int (nI b)), (4, .int (nI c)), (5, .int (nI ((g (1 + k) + pl_f a b c k - 1) / pl_f a b c k))), (6, .int (nI (mo + ((pl_f a b c k) - (g (4 + k)))))), (7, .int (nI (k + 1)))]) rfl ?_
                  exact ih_9 (k + 1) _ _ (by omega) (by
            show _ = pl_s (pl_st g a b c k) (pl_l g a b c k)
            rw [← hst]
            unfold pl_s pl_l
            first
            | rw [if_pos c_72, if_neg (by omega)]
            | (rw [if_neg c_72]; first | rw [if_neg (by omega)] | rw [if_pos (by omega)])) (by rw [hmo]; rfl) (by omega)
                · have c_98 : ¬ st = 0 := fun z => c_98 ((nI_b (a := st) (b := 0) (by omega) (by omega)).2.2.mpr z)
                  refine cq_iload F dX7_goOn_101 rfl ?_
                  refine cq_iload F dX7_goOn_103 rfl ?_
                  refine cq_icmp_ge F (tgt := 113) dX7_goOn_105 (by decide) (fun c_105 => ?_) (fun c_105 => ?_)
                  · have c_105 : st ≤ ((g (1 + k) + pl_f a b c k - 1) / pl_f a b c k) := (nI_b (a := st) (b := ((g (1 + k) + pl_f a b c k - 1) / pl_f a b c k)) (by omega) (by omega)).1.mp c_105
                    refine cq_iload F dX7_goOn_113 rfl ?_
                    refine cq_istore F dX7_goOn_115 (by decide) ?_
                    refine cq_iinc F dX7_goOn_117 rfl (by decide) (fun x_117 e_117 => ?_)
                    obtain rfl : x_117 = nI (k + 1) := by rw [e_117]; exact nI_1 _
                    refine cq_goto F (tgt := 9) dX7_goOn_120 (by decide) ?_
                    refine cq_loc (L2 := [(0, .ref o), (1, .int (nI p)), (2, .int (nI a)), (3, .int (nI b)), (4, .int (nI c)), (5, .int (nI st)), (6, .int (nI (mo + ((pl_f a b c k) - (g (4 + k)))))), (7, .int (nI (k + 1)))]) rfl ?_
                    exact ih_9 (k + 1) _ _ (by omega) (by
            show _ = pl_s (pl_st g a b c k) (pl_l g a b c k)
            rw [← hst]
            unfold pl_s pl_l
            first
            | rw [if_pos c_72, if_neg (by omega)]
            | (rw [if_neg c_72]; first | rw [if_neg (by omega)] | rw [if_pos (by omega)])) (by rw [hmo]; rfl) (by omega)
                  · have c_105 : ¬ st ≤ ((g (1 + k) + pl_f a b c k - 1) / pl_f a b c k) := fun z => c_105 ((nI_b (a := st) (b := ((g (1 + k) + pl_f a b c k - 1) / pl_f a b c k)) (by omega) (by omega)).1.mpr z)
                    refine cq_iload F dX7_goOn_108 rfl ?_
                    refine cq_goto F (tgt := 115) dX7_goOn_110 (by decide) ?_
                    refine cq_istore F dX7_goOn_115 (by decide) ?_
                    refine cq_iinc F dX7_goOn_117 rfl (by decide) (fun x_117 e_117 => ?_)
                    obtain rfl : x_117 = nI (k + 1) := by rw [e_117]; exact nI_1 _
                    refine cq_goto F (tgt := 9) dX7_goOn_120 (by decide) ?_
                    refine cq_loc (L2 := [(0, .ref o), (1, .int (nI p)), (2, .int (nI a)), (3, .int (nI b)), (4, .int (nI c)), (5, .int (nI ((g (1 + k) + pl_f a b c k - 1) / pl_f a b c k))), (6, .int (nI (mo + ((pl_f a b c k) - (g (4 + k)))))), (7, .int (nI (k + 1)))]) rfl ?_
                    exact ih_9 (k + 1) _ _ (by omega) (by
            show _ = pl_s (pl_st g a b c k) (pl_l g a b c k)
            rw [← hst]
            unfold pl_s pl_l
            first
            | rw [if_pos c_72, if_neg (by omega)]
            | (rw [if_neg c_72]; first | rw [if_neg (by omega)] | rw [if_pos (by omega)])) (by rw [hmo]; rfl) (by omega)
            · have c_72 : (pl_f a b c k) = 0 := (nI_b (a := (pl_f a b c k)) (b := 0) (by omega) (by omega)).2.2.mp c_72
              refine cq_iconst F (v := 0) dX7_goOn_75 rfl ?_
              refine cq_goto F (tgt := 89) dX7_goOn_76 (by decide) ?_
              refine cq_istore F dX7_goOn_89 (by decide) ?_
              refine cq_iload F dX7_goOn_91 rfl ?_
              refine cq_if_le F (tgt := 113) dX7_goOn_93 (by decide) (fun c_93 => ?_) (fun c_93 => ?_)
              · have c_93 : 0 ≤ 0 := (nI_b (a := 0) (b := 0) (by omega) (by omega)).1.mp c_93
                refine cq_iload F dX7_goOn_113 rfl ?_
                refine cq_istore F dX7_goOn_115 (by decide) ?_
                refine cq_iinc F dX7_goOn_117 rfl (by decide) (fun x_117 e_117 => ?_)
                obtain rfl : x_117 = nI (k + 1) := by rw [e_117]; exact nI_1 _
                refine cq_goto F (tgt := 9) dX7_goOn_120 (by decide) ?_
                refine cq_loc (L2 := [(0, .ref o), (1, .int (nI p)), (2, .int (nI a)), (3, .int (nI b)), (4, .int (nI c)), (5, .int (nI st)), (6, .int (nI (mo + ((pl_f a b c k) - (g (4 + k)))))), (7, .int (nI (k + 1)))]) rfl ?_
                exact ih_9 (k + 1) _ _ (by omega) (by
            show _ = pl_s (pl_st g a b c k) (pl_l g a b c k)
            rw [← hst]
            unfold pl_s pl_l
            first
            | rw [if_pos c_72, if_neg (by omega)]
            | (rw [if_neg c_72]; first | rw [if_neg (by omega)] | rw [if_pos (by omega)])) (by rw [hmo]; rfl) (by omega)
              · have c_93 : ¬ 0 ≤ 0 := fun z => c_93 ((nI_b (a := 0) (b := 0) (by omega) (by omega)).1.mpr z)
                omega
          · have c_27 : k = 1 := (nI_b (a := k) (b := 1) (by omega) (by omega)).2.2.mp c_27
            refine cq_iload_n F (i := 3) dX7_goOn_30 rfl rfl ?_
            refine cq_goto F (tgt := 36) dX7_goOn_31 (by decide) ?_
            refine cq_nmi (fun x_36 e_36 => ?_)
            obtain rfl : x_36 = nI (pl_f a b c k) := by rw [e_36]; unfold pl_f; first | rw [if_pos c_17] | rw [if_neg c_17, if_pos c_27] | rw [if_neg c_17, if_neg c_27]
            refine cq_istore F dX7_goOn_36 (by decide) ?_
            refine cq_aload_n F (i := 0) dX7_goOn_38 rfl rfl ?_
            refine cq_getT (t := (o + 13)) F (C := RX7) (T := TX7) (N := 22) (ci := 8) ho.kind rfl ⟨⟨by decide, by decide⟩, rfl⟩ inX7 18 (by decide) rfl rfl ho.t18 (F.1.2.2.2.2 _ (List.mem_of_getElem? (l := wsX7_goOn) (i := 1) (a := .fieldLink RX7 47 "CordClockModel" "from" "[I") (by decide +kernel))) dX7_goOn_39 ?_
            refine cq_iload_n F (i := 1) dX7_goOn_42 rfl rfl ?_
            refine cq_iconst F (v := 1) dX7_goOn_43 rfl ?_
            refine cq_iadd F dX7_goOn_44 ?_
            rw [show (nI p + 1 : Int32) = nI (p + 1) from nI_add _ _]
            refine cq_iload F dX7_goOn_45 rfl ?_
            refine cq_iadd F dX7_goOn_47 ?_
            rw [show (nI (p + 1) + nI k : Int32) = nI ((p + 1) + k) from nI_add _ _]
            refine cq_iald_j F (j := ((p + 1) + k)) ho.k13 ho.n13 rfl ⟨(by omega), by decide⟩ dX7_goOn_48 ?_
            rw [(show M (o + 13) (p + 1 + k) = nI (g (1 + k)) by rw [show (p + 1 + k) = p + (1 + k) by omega]; exact hfr _ (by omega))]
            refine cq_istore F dX7_goOn_49 (by decide) ?_
            refine cq_iload F dX7_goOn_51 rfl ?_
            refine cq_iload F dX7_goOn_53 rfl ?_
            refine cq_aload_n F (i := 0) dX7_goOn_55 rfl rfl ?_
            refine cq_getT (t := (o + 13)) F (C := RX7) (T := TX7) (N := 22) (ci := 8) ho.kind rfl ⟨⟨by decide, by decide⟩, rfl⟩ inX7 18 (by decide) rfl rfl ho.t18 (F.1.2.2.2.2 _ (List.mem_of_getElem? (l := wsX7_goOn) (i := 1) (a := .fieldLink RX7 47 "CordClockModel" "from" "[I") (by decide +kernel))) dX7_goOn_56 ?_
            refine cq_iload_n F (i := 1) dX7_goOn_59 rfl rfl ?_
            refine cq_iconst F (v := 4) dX7_goOn_60 rfl ?_
            refine cq_iadd F dX7_goOn_61 ?_
            rw [show (nI p + 4 : Int32) = nI (p + 4) from nI_add _ _]
            refine cq_iload F dX7_goOn_62 rfl ?_
            refine cq_iadd F dX7_goOn_64 ?_
            rw [show (nI (p + 4) + nI k : Int32) = nI ((p + 4) + k) from nI_add _ _]
            refine cq_iald_j F (j := ((p + 4) + k)) ho.k13 ho.n13 rfl ⟨(by omega), by decide⟩ dX7_goOn_65 ?_
            rw [(show M (o + 13) (p + 4 + k) = nI (g (4 + k)) by rw [show (p + 4 + k) = p + (4 + k) by omega]; exact hfr _ (by omega))]
            refine cq_isub F dX7_goOn_66 ?_
            rw [show (nI (pl_f a b c k) - nI (g (4 + k)) : Int32) = nI ((pl_f a b c k) - (g (4 + k))) from pk_sub (a := (pl_f a b c k)) (b := (g (4 + k))) (by omega)]
            refine cq_iadd F dX7_goOn_67 ?_
            rw [show (nI mo + nI ((pl_f a b c k) - (g (4 + k))) : Int32) = nI (mo + ((pl_f a b c k) - (g (4 + k)))) from nI_add _ _]
            refine cq_istore F dX7_goOn_68 (by decide) ?_
            refine cq_iload F dX7_goOn_70 rfl ?_
            refine cq_if_ne F (tgt := 79) dX7_goOn_72 (by decide) (fun c_72 => ?_) (fun c_72 => ?_)
            · have c_72 : ¬ (pl_f a b c k) = 0 := fun z => c_72 ((nI_b (a := (pl_f a b c k)) (b := 0) (by omega) (by omega)).2.2.mpr z)
              refine cq_iload F dX7_goOn_79 rfl ?_
              refine cq_iload F dX7_goOn_81 rfl ?_
              refine cq_iadd F dX7_goOn_83 ?_
              rw [show (nI (g (1 + k)) + nI (pl_f a b c k) : Int32) = nI ((g (1 + k)) + (pl_f a b c k)) from nI_add _ _]
              refine cq_iconst F (v := 1) dX7_goOn_84 rfl ?_
              refine cq_isub F dX7_goOn_85 ?_
              rw [show (nI ((g (1 + k)) + (pl_f a b c k)) - 1 : Int32) = nI (((g (1 + k)) + (pl_f a b c k)) - 1) from pk_sub (a := ((g (1 + k)) + (pl_f a b c k))) (b := 1) (by omega)]
              refine cq_iload F dX7_goOn_86 rfl ?_
              refine cq_idiv F dX7_goOn_88 (fun z => absurd ((nI_eq (a := pl_f a b c k) (b := 0) (by omega) (by omega)).mp z) c_72) ?_
              rw [show (nI (g (1 + k) + pl_f a b c k - 1) / nI (pl_f a b c k) : Int32) = nI ((g (1 + k) + pl_f a b c k - 1) / pl_f a b c k) from pk_div (by omega) (by omega) (by omega)]
              have hq88 : (g (1 + k) + pl_f a b c k - 1) / pl_f a b c k ≤ 362 := Nat.le_trans (Nat.div_le_self _ _) (by omega)
              refine cq_istore F dX7_goOn_89 (by decide) ?_
              refine cq_iload F dX7_goOn_91 rfl ?_
              refine cq_if_le F (tgt := 113) dX7_goOn_93 (by decide) (fun c_93 => ?_) (fun c_93 => ?_)
              · have c_93 : ((g (1 + k) + pl_f a b c k - 1) / pl_f a b c k) ≤ 0 := (nI_b (a := ((g (1 + k) + pl_f a b c k - 1) / pl_f a b c k)) (b := 0) (by omega) (by omega)).1.mp c_93
                refine cq_iload F dX7_goOn_113 rfl ?_
                refine cq_istore F dX7_goOn_115 (by decide) ?_
                refine cq_iinc F dX7_goOn_117 rfl (by decide) (fun x_117 e_117 => ?_)
                obtain rfl : x_117 = nI (k + 1) := by rw [e_117]; exact nI_1 _
                refine cq_goto F (tgt := 9) dX7_goOn_120 (by decide) ?_
                refine cq_loc (L2 := [(0, .ref o), (1, .int (nI p)), (2, .int (nI a)), (3, .int (nI b)), (4, .int (nI c)), (5, .int (nI st)), (6, .int (nI (mo + ((pl_f a b c k) - (g (4 + k)))))), (7, .int (nI (k + 1)))]) rfl ?_
                exact ih_9 (k + 1) _ _ (by omega) (by
            show _ = pl_s (pl_st g a b c k) (pl_l g a b c k)
            rw [← hst]
            unfold pl_s pl_l
            first
            | rw [if_pos c_72, if_neg (by omega)]
            | (rw [if_neg c_72]; first | rw [if_neg (by omega)] | rw [if_pos (by omega)])) (by rw [hmo]; rfl) (by omega)
              · have c_93 : ¬ ((g (1 + k) + pl_f a b c k - 1) / pl_f a b c k) ≤ 0 := fun z => c_93 ((nI_b (a := ((g (1 + k) + pl_f a b c k - 1) / pl_f a b c k)) (b := 0) (by omega) (by omega)).1.mpr z)
                refine cq_iload F dX7_goOn_96 rfl ?_
                refine cq_if_eq F (tgt := 108) dX7_goOn_98 (by decide) (fun c_98 => ?_) (fun c_98 => ?_)
                · have c_98 : st = 0 := (nI_b (a := st) (b := 0) (by omega) (by omega)).2.2.mp c_98
                  refine cq_iload F dX7_goOn_108 rfl ?_
                  refine cq_goto F (tgt := 115) dX7_goOn_110 (by decide) ?_
                  refine cq_istore F dX7_goOn_115 (by decide) ?_
                  refine cq_iinc F dX7_goOn_117 rfl (by decide) (fun x_117 e_117 => ?_)
                  obtain rfl : x_117 = nI (k + 1) := by rw [e_117]; exact nI_1 _
                  refine cq_goto F (tgt := 9) dX7_goOn_120 (by decide) ?_
                  refine cq_loc (L2 := [(0, .ref o), (1, .int (nI p)), (2, .int (nI a)), (3, .int (nI b)), (4, .int (nI c)), (5, .int (nI ((g (1 + k) + pl_f a b c k - 1) / pl_f a b c k))), (6, .int (nI (mo + ((pl_f a b c k) - (g (4 + k)))))), (7, .int (nI (k + 1)))]) rfl ?_
                  exact ih_9 (k + 1) _ _ (by omega) (by
            show _ = pl_s (pl_st g a b c k) (pl_l g a b c k)
            rw [← hst]
            unfold pl_s pl_l
            first
            | rw [if_pos c_72, if_neg (by omega)]
            | (rw [if_neg c_72]; first | rw [if_neg (by omega)] | rw [if_pos (by omega)])) (by rw [hmo]; rfl) (by omega)
                · have c_98 : ¬ st = 0 := fun z => c_98 ((nI_b (a := st) (b := 0) (by omega) (by omega)).2.2.mpr z)
                  refine cq_iload F dX7_goOn_101 rfl ?_
                  refine cq_iload F dX7_goOn_103 rfl ?_
                  refine cq_icmp_ge F (tgt := 113) dX7_goOn_105 (by decide) (fun c_105 => ?_) (fun c_105 => ?_)
                  · have c_105 : st ≤ ((g (1 + k) + pl_f a b c k - 1) / pl_f a b c k) := (nI_b (a := st) (b := ((g (1 + k) + pl_f a b c k - 1) / pl_f a b c k)) (by omega) (by omega)).1.mp c_105
                    refine cq_iload F dX7_goOn_113 rfl ?_
                    refine cq_istore F dX7_goOn_115 (by decide) ?_
                    refine cq_iinc F dX7_goOn_117 rfl (by decide) (fun x_117 e_117 => ?_)
                    obtain rfl : x_117 = nI (k + 1) := by rw [e_117]; exact nI_1 _
                    refine cq_goto F (tgt := 9) dX7_goOn_120 (by decide) ?_
                    refine cq_loc (L2 := [(0, .ref o), (1, .int (nI p)), (2, .int (nI a)), (3, .int (nI b)), (4, .int (nI c)), (5, .int (nI st)), (6, .int (nI (mo + ((pl_f a b c k) - (g (4 + k)))))), (7, .int (nI (k + 1)))]) rfl ?_
                    exact ih_9 (k + 1) _ _ (by omega) (by
            show _ = pl_s (pl_st g a b c k) (pl_l g a b c k)
            rw [← hst]
            unfold pl_s pl_l
            first
            | rw [if_pos c_72, if_neg (by omega)]
            | (rw [if_neg c_72]; first | rw [if_neg (by omega)] | rw [if_pos (by omega)])) (by rw [hmo]; rfl) (by omega)
                  · have c_105 : ¬ st ≤ ((g (1 + k) + pl_f a b c k - 1) / pl_f a b c k) := fun z => c_105 ((nI_b (a := st) (b := ((g (1 + k) + pl_f a b c k - 1) / pl_f a b c k)) (by omega) (by omega)).1.mpr z)
                    refine cq_iload F dX7_goOn_108 rfl ?_
                    refine cq_goto F (tgt := 115) dX7_goOn_110 (by decide) ?_
                    refine cq_istore F dX7_goOn_115 (by decide) ?_
                    refine cq_iinc F dX7_goOn_117 rfl (by decide) (fun x_117 e_117 => ?_)
                    obtain rfl : x_117 = nI (k + 1) := by rw [e_117]; exact nI_1 _
                    refine cq_goto F (tgt := 9) dX7_goOn_120 (by decide) ?_
                    refine cq_loc (L2 := [(0, .ref o), (1, .int (nI p)), (2, .int (nI a)), (3, .int (nI b)), (4, .int (nI c)), (5, .int (nI ((g (1 + k) + pl_f a b c k - 1) / pl_f a b c k))), (6, .int (nI (mo + ((pl_f a b c k) - (g (4 + k)))))), (7, .int (nI (k + 1)))]) rfl ?_
                    exact ih_9 (k + 1) _ _ (by omega) (by
            show _ = pl_s (pl_st g a b c k) (pl_l g a b c k)
            rw [← hst]
            unfold pl_s pl_l
            first
            | rw [if_pos c_72, if_neg (by omega)]
            | (rw [if_neg c_72]; first | rw [if_neg (by omega)] | rw [if_pos (by omega)])) (by rw [hmo]; rfl) (by omega)
            · have c_72 : (pl_f a b c k) = 0 := (nI_b (a := (pl_f a b c k)) (b := 0) (by omega) (by omega)).2.2.mp c_72
              refine cq_iconst F (v := 0) dX7_goOn_75 rfl ?_
              refine cq_goto F (tgt := 89) dX7_goOn_76 (by decide) ?_
              refine cq_istore F dX7_goOn_89 (by decide) ?_
              refine cq_iload F dX7_goOn_91 rfl ?_
              refine cq_if_le F (tgt := 113) dX7_goOn_93 (by decide) (fun c_93 => ?_) (fun c_93 => ?_)
              · have c_93 : 0 ≤ 0 := (nI_b (a := 0) (b := 0) (by omega) (by omega)).1.mp c_93
                refine cq_iload F dX7_goOn_113 rfl ?_
                refine cq_istore F dX7_goOn_115 (by decide) ?_
                refine cq_iinc F dX7_goOn_117 rfl (by decide) (fun x_117 e_117 => ?_)
                obtain rfl : x_117 = nI (k + 1) := by rw [e_117]; exact nI_1 _
                refine cq_goto F (tgt := 9) dX7_goOn_120 (by decide) ?_
                refine cq_loc (L2 := [(0, .ref o), (1, .int (nI p)), (2, .int (nI a)), (3, .int (nI b)), (4, .int (nI c)), (5, .int (nI st)), (6, .int (nI (mo + ((pl_f a b c k) - (g (4 + k)))))), (7, .int (nI (k + 1)))]) rfl ?_
                exact ih_9 (k + 1) _ _ (by omega) (by
            show _ = pl_s (pl_st g a b c k) (pl_l g a b c k)
            rw [← hst]
            unfold pl_s pl_l
            first
            | rw [if_pos c_72, if_neg (by omega)]
            | (rw [if_neg c_72]; first | rw [if_neg (by omega)] | rw [if_pos (by omega)])) (by rw [hmo]; rfl) (by omega)
              · have c_93 : ¬ 0 ≤ 0 := fun z => c_93 ((nI_b (a := 0) (b := 0) (by omega) (by omega)).1.mpr z)
                omega
        · have c_17 : k = 0 := (nI_b (a := k) (b := 0) (by omega) (by omega)).2.2.mp c_17
          refine cq_iload_n F (i := 2) dX7_goOn_20 rfl rfl ?_
          refine cq_goto F (tgt := 36) dX7_goOn_21 (by decide) ?_
          refine cq_nmi (fun x_36 e_36 => ?_)
          obtain rfl : x_36 = nI (pl_f a b c k) := by rw [e_36]; unfold pl_f; first | rw [if_pos c_17] | rw [if_neg c_17, if_pos c_27] | rw [if_neg c_17, if_neg c_27]
          refine cq_istore F dX7_goOn_36 (by decide) ?_
          refine cq_aload_n F (i := 0) dX7_goOn_38 rfl rfl ?_
          refine cq_getT (t := (o + 13)) F (C := RX7) (T := TX7) (N := 22) (ci := 8) ho.kind rfl ⟨⟨by decide, by decide⟩, rfl⟩ inX7 18 (by decide) rfl rfl ho.t18 (F.1.2.2.2.2 _ (List.mem_of_getElem? (l := wsX7_goOn) (i := 1) (a := .fieldLink RX7 47 "CordClockModel" "from" "[I") (by decide +kernel))) dX7_goOn_39 ?_
          refine cq_iload_n F (i := 1) dX7_goOn_42 rfl rfl ?_
          refine cq_iconst F (v := 1) dX7_goOn_43 rfl ?_
          refine cq_iadd F dX7_goOn_44 ?_
          rw [show (nI p + 1 : Int32) = nI (p + 1) from nI_add _ _]
          refine cq_iload F dX7_goOn_45 rfl ?_
          refine cq_iadd F dX7_goOn_47 ?_
          rw [show (nI (p + 1) + nI k : Int32) = nI ((p + 1) + k) from nI_add _ _]
          refine cq_iald_j F (j := ((p + 1) + k)) ho.k13 ho.n13 rfl ⟨(by omega), by decide⟩ dX7_goOn_48 ?_
          rw [(show M (o + 13) (p + 1 + k) = nI (g (1 + k)) by rw [show (p + 1 + k) = p + (1 + k) by omega]; exact hfr _ (by omega))]
          refine cq_istore F dX7_goOn_49 (by decide) ?_
          refine cq_iload F dX7_goOn_51 rfl ?_
          refine cq_iload F dX7_goOn_53 rfl ?_
          refine cq_aload_n F (i := 0) dX7_goOn_55 rfl rfl ?_
          refine cq_getT (t := (o + 13)) F (C := RX7) (T := TX7) (N := 22) (ci := 8) ho.kind rfl ⟨⟨by decide, by decide⟩, rfl⟩ inX7 18 (by decide) rfl rfl ho.t18 (F.1.2.2.2.2 _ (List.mem_of_getElem? (l := wsX7_goOn) (i := 1) (a := .fieldLink RX7 47 "CordClockModel" "from" "[I") (by decide +kernel))) dX7_goOn_56 ?_
          refine cq_iload_n F (i := 1) dX7_goOn_59 rfl rfl ?_
          refine cq_iconst F (v := 4) dX7_goOn_60 rfl ?_
          refine cq_iadd F dX7_goOn_61 ?_
          rw [show (nI p + 4 : Int32) = nI (p + 4) from nI_add _ _]
          refine cq_iload F dX7_goOn_62 rfl ?_
          refine cq_iadd F dX7_goOn_64 ?_
          rw [show (nI (p + 4) + nI k : Int32) = nI ((p + 4) + k) from nI_add _ _]
          refine cq_iald_j F (j := ((p + 4) + k)) ho.k13 ho.n13 rfl ⟨(by omega), by decide⟩ dX7_goOn_65 ?_
          rw [(show M (o + 13) (p + 4 + k) = nI (g (4 + k)) by rw [show (p + 4 + k) = p + (4 + k) by omega]; exact hfr _ (by omega))]
          refine cq_isub F dX7_goOn_66 ?_
          rw [show (nI (pl_f a b c k) - nI (g (4 + k)) : Int32) = nI ((pl_f a b c k) - (g (4 + k))) from pk_sub (a := (pl_f a b c k)) (b := (g (4 + k))) (by omega)]
          refine cq_iadd F dX7_goOn_67 ?_
          rw [show (nI mo + nI ((pl_f a b c k) - (g (4 + k))) : Int32) = nI (mo + ((pl_f a b c k) - (g (4 + k)))) from nI_add _ _]
          refine cq_istore F dX7_goOn_68 (by decide) ?_
          refine cq_iload F dX7_goOn_70 rfl ?_
          refine cq_if_ne F (tgt := 79) dX7_goOn_72 (by decide) (fun c_72 => ?_) (fun c_72 => ?_)
          · have c_72 : ¬ (pl_f a b c k) = 0 := fun z => c_72 ((nI_b (a := (pl_f a b c k)) (b := 0) (by omega) (by omega)).2.2.mpr z)
            refine cq_iload F dX7_goOn_79 rfl ?_
            refine cq_iload F dX7_goOn_81 rfl ?_
            refine cq_iadd F dX7_goOn_83 ?_
            rw [show (nI (g (1 + k)) + nI (pl_f a b c k) : Int32) = nI ((g (1 + k)) + (pl_f a b c k)) from nI_add _ _]
            refine cq_iconst F (v := 1) dX7_goOn_84 rfl ?_
            refine cq_isub F dX7_goOn_85 ?_
            rw [show (nI ((g (1 + k)) + (pl_f a b c k)) - 1 : Int32) = nI (((g (1 + k)) + (pl_f a b c k)) - 1) from pk_sub (a := ((g (1 + k)) + (pl_f a b c k))) (b := 1) (by omega)]
            refine cq_iload F dX7_goOn_86 rfl ?_
            refine cq_idiv F dX7_goOn_88 (fun z => absurd ((nI_eq (a := pl_f a b c k) (b := 0) (by omega) (by omega)).mp z) c_72) ?_
            rw [show (nI (g (1 + k) + pl_f a b c k - 1) / nI (pl_f a b c k) : Int32) = nI ((g (1 + k) + pl_f a b c k - 1) / pl_f a b c k) from pk_div (by omega) (by omega) (by omega)]
            have hq88 : (g (1 + k) + pl_f a b c k - 1) / pl_f a b c k ≤ 362 := Nat.le_trans (Nat.div_le_self _ _) (by omega)
            refine cq_istore F dX7_goOn_89 (by decide) ?_
            refine cq_iload F dX7_goOn_91 rfl ?_
            refine cq_if_le F (tgt := 113) dX7_goOn_93 (by decide) (fun c_93 => ?_) (fun c_93 => ?_)
            · have c_93 : ((g (1 + k) + pl_f a b c k - 1) / pl_f a b c k) ≤ 0 := (nI_b (a := ((g (1 + k) + pl_f a b c k - 1) / pl_f a b c k)) (b := 0) (by omega) (by omega)).1.mp c_93
              refine cq_iload F dX7_goOn_113 rfl ?_
              refine cq_istore F dX7_goOn_115 (by decide) ?_
              refine cq_iinc F dX7_goOn_117 rfl (by decide) (fun x_117 e_117 => ?_)
              obtain rfl : x_117 = nI (k + 1) := by rw [e_117]; exact nI_1 _
              refine cq_goto F (tgt := 9) dX7_goOn_120 (by decide) ?_
              refine cq_loc (L2 := [(0, .ref o), (1, .int (nI p)), (2, .int (nI a)), (3, .int (nI b)), (4, .int (nI c)), (5, .int (nI st)), (6, .int (nI (mo + ((pl_f a b c k) - (g (4 + k)))))), (7, .int (nI (k + 1)))]) rfl ?_
              exact ih_9 (k + 1) _ _ (by omega) (by
            show _ = pl_s (pl_st g a b c k) (pl_l g a b c k)
            rw [← hst]
            unfold pl_s pl_l
            first
            | rw [if_pos c_72, if_neg (by omega)]
            | (rw [if_neg c_72]; first | rw [if_neg (by omega)] | rw [if_pos (by omega)])) (by rw [hmo]; rfl) (by omega)
            · have c_93 : ¬ ((g (1 + k) + pl_f a b c k - 1) / pl_f a b c k) ≤ 0 := fun z => c_93 ((nI_b (a := ((g (1 + k) + pl_f a b c k - 1) / pl_f a b c k)) (b := 0) (by omega) (by omega)).1.mpr z)
              refine cq_iload F dX7_goOn_96 rfl ?_
              refine cq_if_eq F (tgt := 108) dX7_goOn_98 (by decide) (fun c_98 => ?_) (fun c_98 => ?_)
              · have c_98 : st = 0 := (nI_b (a := st) (b := 0) (by omega) (by omega)).2.2.mp c_98
                refine cq_iload F dX7_goOn_108 rfl ?_
                refine cq_goto F (tgt := 115) dX7_goOn_110 (by decide) ?_
                refine cq_istore F dX7_goOn_115 (by decide) ?_
                refine cq_iinc F dX7_goOn_117 rfl (by decide) (fun x_117 e_117 => ?_)
                obtain rfl : x_117 = nI (k + 1) := by rw [e_117]; exact nI_1 _
                refine cq_goto F (tgt := 9) dX7_goOn_120 (by decide) ?_
                refine cq_loc (L2 := [(0, .ref o), (1, .int (nI p)), (2, .int (nI a)), (3, .int (nI b)), (4, .int (nI c)), (5, .int (nI ((g (1 + k) + pl_f a b c k - 1) / pl_f a b c k))), (6, .int (nI (mo + ((pl_f a b c k) - (g (4 + k)))))), (7, .int (nI (k + 1)))]) rfl ?_
                exact ih_9 (k + 1) _ _ (by omega) (by
            show _ = pl_s (pl_st g a b c k) (pl_l g a b c k)
            rw [← hst]
            unfold pl_s pl_l
            first
            | rw [if_pos c_72, if_neg (by omega)]
            | (rw [if_neg c_72]; first | rw [if_neg (by omega)] | rw [if_pos (by omega)])) (by rw [hmo]; rfl) (by omega)
              · have c_98 : ¬ st = 0 := fun z => c_98 ((nI_b (a := st) (b := 0) (by omega) (by omega)).2.2.mpr z)
                refine cq_iload F dX7_goOn_101 rfl ?_
                refine cq_iload F dX7_goOn_103 rfl ?_
                refine cq_icmp_ge F (tgt := 113) dX7_goOn_105 (by decide) (fun c_105 => ?_) (fun c_105 => ?_)
                · have c_105 : st ≤ ((g (1 + k) + pl_f a b c k - 1) / pl_f a b c k) := (nI_b (a := st) (b := ((g (1 + k) + pl_f a b c k - 1) / pl_f a b c k)) (by omega) (by omega)).1.mp c_105
                  refine cq_iload F dX7_goOn_113 rfl ?_
                  refine cq_istore F dX7_goOn_115 (by decide) ?_
                  refine cq_iinc F dX7_goOn_117 rfl (by decide) (fun x_117 e_117 => ?_)
                  obtain rfl : x_117 = nI (k + 1) := by rw [e_117]; exact nI_1 _
                  refine cq_goto F (tgt := 9) dX7_goOn_120 (by decide) ?_
                  refine cq_loc (L2 := [(0, .ref o), (1, .int (nI p)), (2, .int (nI a)), (3, .int (nI b)), (4, .int (nI c)), (5, .int (nI st)), (6, .int (nI (mo + ((pl_f a b c k) - (g (4 + k)))))), (7, .int (nI (k + 1)))]) rfl ?_
                  exact ih_9 (k + 1) _ _ (by omega) (by
            show _ = pl_s (pl_st g a b c k) (pl_l g a b c k)
            rw [← hst]
            unfold pl_s pl_l
            first
            | rw [if_pos c_72, if_neg (by omega)]
            | (rw [if_neg c_72]; first | rw [if_neg (by omega)] | rw [if_pos (by omega)])) (by rw [hmo]; rfl) (by omega)
                · have c_105 : ¬ st ≤ ((g (1 + k) + pl_f a b c k - 1) / pl_f a b c k) := fun z => c_105 ((nI_b (a := st) (b := ((g (1 + k) + pl_f a b c k - 1) / pl_f a b c k)) (by omega) (by omega)).1.mpr z)
                  refine cq_iload F dX7_goOn_108 rfl ?_
                  refine cq_goto F (tgt := 115) dX7_goOn_110 (by decide) ?_
                  refine cq_istore F dX7_goOn_115 (by decide) ?_
                  refine cq_iinc F dX7_goOn_117 rfl (by decide) (fun x_117 e_117 => ?_)
                  obtain rfl : x_117 = nI (k + 1) := by rw [e_117]; exact nI_1 _
                  refine cq_goto F (tgt := 9) dX7_goOn_120 (by decide) ?_
                  refine cq_loc (L2 := [(0, .ref o), (1, .int (nI p)), (2, .int (nI a)), (3, .int (nI b)), (4, .int (nI c)), (5, .int (nI ((g (1 + k) + pl_f a b c k - 1) / pl_f a b c k))), (6, .int (nI (mo + ((pl_f a b c k) - (g (4 + k)))))), (7, .int (nI (k + 1)))]) rfl ?_
                  exact ih_9 (k + 1) _ _ (by omega) (by
            show _ = pl_s (pl_st g a b c k) (pl_l g a b c k)
            rw [← hst]
            unfold pl_s pl_l
            first
            | rw [if_pos c_72, if_neg (by omega)]
            | (rw [if_neg c_72]; first | rw [if_neg (by omega)] | rw [if_pos (by omega)])) (by rw [hmo]; rfl) (by omega)
          · have c_72 : (pl_f a b c k) = 0 := (nI_b (a := (pl_f a b c k)) (b := 0) (by omega) (by omega)).2.2.mp c_72
            refine cq_iconst F (v := 0) dX7_goOn_75 rfl ?_
            refine cq_goto F (tgt := 89) dX7_goOn_76 (by decide) ?_
            refine cq_istore F dX7_goOn_89 (by decide) ?_
            refine cq_iload F dX7_goOn_91 rfl ?_
            refine cq_if_le F (tgt := 113) dX7_goOn_93 (by decide) (fun c_93 => ?_) (fun c_93 => ?_)
            · have c_93 : 0 ≤ 0 := (nI_b (a := 0) (b := 0) (by omega) (by omega)).1.mp c_93
              refine cq_iload F dX7_goOn_113 rfl ?_
              refine cq_istore F dX7_goOn_115 (by decide) ?_
              refine cq_iinc F dX7_goOn_117 rfl (by decide) (fun x_117 e_117 => ?_)
              obtain rfl : x_117 = nI (k + 1) := by rw [e_117]; exact nI_1 _
              refine cq_goto F (tgt := 9) dX7_goOn_120 (by decide) ?_
              refine cq_loc (L2 := [(0, .ref o), (1, .int (nI p)), (2, .int (nI a)), (3, .int (nI b)), (4, .int (nI c)), (5, .int (nI st)), (6, .int (nI (mo + ((pl_f a b c k) - (g (4 + k)))))), (7, .int (nI (k + 1)))]) rfl ?_
              exact ih_9 (k + 1) _ _ (by omega) (by
            show _ = pl_s (pl_st g a b c k) (pl_l g a b c k)
            rw [← hst]
            unfold pl_s pl_l
            first
            | rw [if_pos c_72, if_neg (by omega)]
            | (rw [if_neg c_72]; first | rw [if_neg (by omega)] | rw [if_pos (by omega)])) (by rw [hmo]; rfl) (by omega)
            · have c_93 : ¬ 0 ≤ 0 := fun z => c_93 ((nI_b (a := 0) (b := 0) (by omega) (by omega)).1.mpr z)
              omega
  refine cq_iconst F (v := 0) dX7_goOn_0 rfl ?_
  refine cq_istore F dX7_goOn_1 (by decide) ?_
  refine cq_iconst F (v := 0) dX7_goOn_3 rfl ?_
  refine cq_istore F dX7_goOn_4 (by decide) ?_
  refine cq_iconst F (v := 0) dX7_goOn_6 rfl ?_
  refine cq_istore F dX7_goOn_7 (by decide) ?_
  refine cq_loc (L2 := [(0, .ref o), (1, .int (nI p)), (2, .int (nI a)), (3, .int (nI b)), (4, .int (nI c)), (5, .int (nI 0)), (6, .int (nI 0)), (7, .int (nI 0))]) rfl ?_
  exact loop_9 5 0 0 0 (by omega) rfl rfl (by omega)
theorem hdVX7_goOn : yX7_goOn.cls = RX7 ∧ yX7_goOn.cls ≠ "java/lang/invoke/MethodHandle" ∧ yX7_goOn.cls ≠ "java/lang/invoke/VarHandle" ∧ (parseMethodDescriptor yX7_goOn.desc).map (fun d => d.parameters.length) = some 4 := by decide +kernel
