/-! the class: words, orders, the whole buffer -/
theorem tx_ff {A : Type} {x : A} {P : Prop} (h : ((false, x) : Bool × A).1 = true) : P := absurd (show false = true from h) (by decide)
def tw_l (w : Nat) : List Nat := match w with
  | 0 => [110, 101, 119]
  | 1 => [108, 105, 116]
  | 2 => [119, 104, 101, 110]
  | _ => [114, 117, 110]
def tw_f (w : Nat) : Nat := match w with
  | 0 => 110
  | 1 => 108
  | 2 => 119
  | _ => 114
theorem tw_at : ∀ w, w < 4 → ∀ j, j < cq_tl (3 + w) → (tw_l w).drop j = (cq_tb (3 + w) j).toNatClampNeg :: (tw_l w).drop (j + 1) := by decide
theorem tw_end : ∀ w, w < 4 → (tw_l w).drop (cq_tl (3 + w)) = [] := by decide
theorem tw_first : ∀ w, w < 4 → (cq_tb (3 + w) 0).toNatClampNeg = tw_f w := by decide
theorem tx_l_c {s : Nat → Nat} {c p : Nat} {cs : List Nat} : tx_l s (c :: cs) p = if s p = c then tx_l s cs (p + 1) else (false, p) := rfl
/-- which word begins here; 4: none -/
def tw_i (s : Nat → Nat) (p : Nat) : Nat := if s p = 110 then 0 else if s p = 108 then 1 else if s p = 119 then 2 else if s p = 114 then 3 else 4
def tx_lw (s : Nat → Nat) (p : Nat) : Bool × Nat := if tw_i s p < 4 then tx_l s ((tw_l (tw_i s p)).drop 1) (p + 1) else (false, p)
theorem tw_i_of {s : Nat → Nat} {p w : Nat} (hw : w < 4) (h : s p = tw_f w) : tw_i s p = w := by
  have h9 : w = 0 ∨ w = 1 ∨ w = 2 ∨ w = 3 := by omega
  unfold tw_i
  rcases h9 with rfl | rfl | rfl | rfl <;> rw [h] <;> rfl
theorem tw_i_no {s : Nat → Nat} {p : Nat} (h : ∀ w, w < 4 → s p ≠ tw_f w) : tw_i s p = 4 := by
  unfold tw_i
  rw [if_neg (show ¬ s p = 110 from h 0 (by omega)), if_neg (show ¬ s p = 108 from h 1 (by omega)), if_neg (show ¬ s p = 119 from h 2 (by omega)), if_neg (show ¬ s p = 114 from h 3 (by omega))]
theorem tx_lw_lt {s : Nat → Nat} {p : Nat} (h : (tx_lw s p).1 = true) : tw_i s p < 4 := by
  by_cases e : tw_i s p < 4
  · exact e
  · unfold tx_lw at h
    rw [if_neg e] at h
    exact tx_ff h
theorem tx_l_snoc {s : Nat → Nat} {c : Nat} : ∀ {cs : List Nat} {p : Nat}, tx_l s (cs ++ [c]) p = if (tx_l s cs p).1 = true then (if s (tx_l s cs p).2 = c then (true, (tx_l s cs p).2 + 1) else (false, (tx_l s cs p).2)) else (false, (tx_l s cs p).2)
  | [], p => rfl
  | d :: cs, p => by
    show tx_l s (d :: (cs ++ [c])) p = _
    rw [tx_l_c, tx_l_c]
    by_cases e : s p = d
    · rw [if_pos e, if_pos e]
      exact tx_l_snoc
    · rw [if_neg e, if_neg e]
      rfl
def tw_k (w : Nat) (s : Nat → Nat) (p : Nat) : tx_R := match w with
  | 0 => tx_new s p
  | 1 => tx_lit s p
  | 2 => tx_when s p
  | _ => tx_run s p
theorem tx_w_l {s : Nat → Nat} {c p : Nat} {cs : List Nat} {k : (Nat → Nat) → Nat → tx_R} (h : s p = c) : tx_w s (c :: (cs ++ [58])) k p = if (tx_l s cs (p + 1)).1 = true then (if s (tx_l s cs (p + 1)).2 = 58 then k s ((tx_l s cs (p + 1)).2 + 1) else (false, (tx_l s cs (p + 1)).2, tx_no)) else (false, (tx_l s cs (p + 1)).2, tx_no) := by
  unfold tx_w
  rw [tx_l_c, if_pos h, tx_l_snoc]
  by_cases e : (tx_l s cs (p + 1)).1 = true
  · rw [if_pos e, if_pos e]
    by_cases e2 : s (tx_l s cs (p + 1)).2 = 58
    · rw [if_pos e2, if_pos e2]; rfl
    · rw [if_neg e2, if_neg e2]; rfl
  · rw [if_neg e, if_neg e]; rfl
theorem tx_ord_w {s : Nat → Nat} {p : Nat} : tx_ord s p = if (tx_lw s p).1 = true then (if s (tx_lw s p).2 = 58 then tw_k (tw_i s p) s ((tx_lw s p).2 + 1) else (false, (tx_lw s p).2, tx_no)) else (false, (tx_lw s p).2, tx_no) := by
  have key : ∀ w, w < 4 → s p = tw_f w → tx_lw s p = tx_l s ((tw_l w).drop 1) (p + 1) := fun w hw h => by
    unfold tx_lw
    rw [tw_i_of hw h, if_pos hw]
  unfold tx_ord
  by_cases h0 : s p = 110
  · rw [if_pos h0, key 0 (by omega) h0, tw_i_of (w := 0) (by omega) h0]
    exact tx_w_l (cs := [101, 119]) h0
  rw [if_neg h0]
  by_cases h1 : s p = 108
  · rw [if_pos h1, key 1 (by omega) h1, tw_i_of (w := 1) (by omega) h1]
    exact tx_w_l (cs := [105, 116]) h1
  rw [if_neg h1]
  by_cases h2 : s p = 119
  · rw [if_pos h2, key 2 (by omega) h2, tw_i_of (w := 2) (by omega) h2]
    exact tx_w_l (cs := [104, 101, 110]) h2
  rw [if_neg h2]
  by_cases h3 : s p = 114
  · rw [if_pos h3, key 3 (by omega) h3, tw_i_of (w := 3) (by omega) h3]
    exact tx_w_l (cs := [117, 110]) h3
  rw [if_neg h3]
  have e4 : tw_i s p = 4 := by unfold tw_i; rw [if_neg h0, if_neg h1, if_neg h2, if_neg h3]
  have e5 : tx_lw s p = (false, p) := by unfold tx_lw; rw [e4]; rfl
  rw [e5]
  rfl
/-- what the reader has of an order -/
def tc_reca (M : cq_M) (a : Nat) (q : tx_O) : Prop := M a 3 = nI q.1 ∧ (q.1 = 0 → M a 5 = nI q.2.1 ∧ ∀ j, j < q.2.1 → M (a + 2) j = nI (q.2.2.2.2.getD j 0)) ∧ (q.1 = 1 → M a 7 = nI q.2.1 ∧ M a 8 = nI q.2.2.2.1) ∧ (q.1 = 2 → M a 6 = nI q.2.1 ∧ M a 7 = nI q.2.2.1 ∧ M a 8 = nI q.2.2.2.1) ∧ (q.1 = 3 → M a 9 = nI q.2.1)
theorem tc_reca.rec {M : cq_M} {b : Nat} {q : tx_O} (h : tc_reca M (b + 50) q) : tc_rec M b q := h
theorem tc_reca.k0 {M : cq_M} {a n : Nat} {l : List Nat} (h3 : M a 3 = nI 0) (h5 : M a 5 = nI n) (hr : ∀ j, j < n → M (a + 2) j = nI (l.getD j 0)) : tc_reca M a (0, n, 0, 0, l) := ⟨h3, fun _ => ⟨h5, hr⟩, fun z => absurd (show (0 : Nat) = 1 from z) (by decide), fun z => absurd (show (0 : Nat) = 2 from z) (by decide), fun z => absurd (show (0 : Nat) = 3 from z) (by decide)⟩
theorem tc_reca.k1 {M : cq_M} {a n y : Nat} (h3 : M a 3 = nI 1) (h7 : M a 7 = nI n) (h8 : M a 8 = nI y) : tc_reca M a (1, n, 0, y, []) := ⟨h3, fun z => absurd (show (1 : Nat) = 0 from z) (by decide), fun _ => ⟨h7, h8⟩, fun z => absurd (show (1 : Nat) = 2 from z) (by decide), fun z => absurd (show (1 : Nat) = 3 from z) (by decide)⟩
theorem tc_reca.k2 {M : cq_M} {a n c y : Nat} (h3 : M a 3 = nI 2) (h6 : M a 6 = nI n) (h7 : M a 7 = nI c) (h8 : M a 8 = nI y) : tc_reca M a (2, n, c, y, []) := ⟨h3, fun z => absurd (show (2 : Nat) = 0 from z) (by decide), fun z => absurd (show (2 : Nat) = 1 from z) (by decide), fun _ => ⟨h6, h7, h8⟩, fun z => absurd (show (2 : Nat) = 3 from z) (by decide)⟩
theorem tc_reca.k3 {M : cq_M} {a n : Nat} (h3 : M a 3 = nI 3) (h9 : M a 9 = nI n) : tc_reca M a (3, n, 0, 0, []) := ⟨h3, fun z => absurd (show (3 : Nat) = 0 from z) (by decide), fun z => absurd (show (3 : Nat) = 1 from z) (by decide), fun z => absurd (show (3 : Nat) = 2 from z) (by decide), fun _ => h9⟩
/-- what the readers change: the places from 2 on, the times -/
def tc_A (M M1 : cq_M) (a : Nat) : Prop := ∀ x j, x ≠ a + 2 → ¬ (x = a ∧ 2 ≤ j) → M1 x j = M x j
theorem tc_A.rf {M : cq_M} {a : Nat} : tc_A M M a := fun _ _ _ _ => rfl
theorem tc_A.trans {M M1 M2 : cq_M} {a : Nat} (h : tc_A M M1 a) (h2 : tc_A M1 M2 a) : tc_A M M2 a := fun x j x2 z => by rw [h2 x j x2 z, h x j x2 z]
theorem tc_2.A {M M1 : cq_M} {a : Nat} (h : tc_2 M M1 a) : tc_A M M1 a := fun x j _ z => h x j (fun y => z ⟨y.1, by omega⟩)
theorem tc_f.A {M M1 : cq_M} {a k : Nat} (h : tc_f M M1 a k) (hk : 2 ≤ k) : tc_A M M1 a := fun x j _ z => h x j (fun y => z ⟨y.1, by omega⟩)
theorem tc_T.A {M M1 : cq_M} {a : Nat} (h : tc_T M M1 a) : tc_A M M1 a := fun x j x2 z => h x j x2 (fun y => z ⟨y.1, by omega⟩)
theorem tc_A.m {M M1 : cq_M} {a len : Nat} {t : Nat → Nat} (h : tc_A M M1 a) (hm : tc_M M a t len) : tc_M M1 a t len := ⟨by rw [h _ _ (by omega) (by omega)]; exact hm.1, fun j hj => by rw [h _ _ (by omega) (by omega)]; exact hm.2.1 j hj, hm.2.2⟩
theorem tx_nw {s : Nat → Nat} {p : Nat} : (tx_new s p).1 = (tx_mg s 6 p).1 ∧ (tx_new s p).2.1 = (tx_mg s 6 p).2.1 ∧ ((tx_mg s 6 p).1 = true → (tx_new s p).2.2 = (0, (tx_mg s 6 p).2.2.length, 0, 0, (tx_mg s 6 p).2.2)) := by
  unfold tx_new
  cases (tx_mg s 6 p).1
  · exact ⟨rfl, rfl, fun z => absurd z (by decide)⟩
  · exact ⟨rfl, rfl, fun _ => rfl⟩
abbrev rmX2_takeRest : Room := ({ frames := 4, cells := 0, slots := 0, locals := 85 })
set_option maxHeartbeats 4000000 in
set_option maxRecDepth 100000 in
theorem kX2_takeRest (l : Launch) (D : va_G) (cA : Nat → ClassId) (X : cq_X) (Bs : Nat) (a len p0 w : Nat) (t : Nat → Nat) (M : cq_M) (ha : cq_isText X a) (hm : tc_M M a t len) (hlen : len ≤ 60) (hp : M a 2 = nI p0) (hp9 : p0 ≤ 60) (hw : w < 4) : cq_C l yX2_takeRest wsX2_takeRest rmX2_takeRest D cA X Bs [.ref a, .ref (D.2 100 (3 + w))] M (cq_PI (fun r M1 => r = (if (tx_l (tx_s t len) ((tw_l w).drop 1) p0).1 = true then 1 else 0) ∧ (M1 a 2 = nI (tx_l (tx_s t len) ((tw_l w).drop 1) p0).2 ∧ (tx_l (tx_s t len) ((tw_l w).drop 1) p0).2 ≤ 60) ∧ tc_2 M M1 a)) 0 0 := by
  refine cq_met (cc := cX2_takeRest) (maxL := 3) (ret := (some .boolean)) (by decide) rfl (Nat.le_of_ble_eq_true rfl) [(0, .ref a), (1, .ref (D.2 100 (3 + w)))] rfl rfl ?_
  intro p9 e9 s9 m9 b9 t9 c9 F hr
  have htl := cq_tl9 (3 + w) (by omega)
  have loop_2 : ∀ (n_2 : Nat) (j p : Nat) (M2 : cq_M), 1 ≤ j → j ≤ cq_tl (3 + w) → (tx_l (tx_s t len) ((tw_l w).drop 1) p0) = tx_l (tx_s t len) ((tw_l w).drop j) p → p ≤ 60 → M2 a 2 = nI p → tc_2 M M2 a → cq_tl (3 + w) + 1 - j < n_2 → cq_V p9 l e9 rmX2_takeRest s9 m9 ([.ref a, .ref (D.2 100 (3 + w))] : List Value).toArray b9 t9 c9 D cA X Bs 3 0 0 (MQ b9 (cq_Q D cA X Bs (cq_PI (fun r M1 => r = (if (tx_l (tx_s t len) ((tw_l w).drop 1) p0).1 = true then 1 else 0) ∧ (M1 a 2 = nI (tx_l (tx_s t len) ((tw_l w).drop 1) p0).2 ∧ (tx_l (tx_s t len) ((tw_l w).drop 1) p0).2 ≤ 60) ∧ tc_2 M M1 a))) ([.ref a, .ref (D.2 100 (3 + w))] : List Value).toArray s9 0 0 (cq_A Bs)) 2 [(0, .ref a), (1, .ref (D.2 100 (3 + w))), (2, .int (nI j))] [] M2 := by
    intro n_2
    induction n_2 with
    | zero =>
      intros
      omega
    | succ n_2 ih_2 =>
      intro j p M2 hj1 hj hres hpl hp2 hF hn
      have hs9 := hm.s p
      refine cq_iload_n F (i := 2) dX2_takeRest_2 rfl rfl ?_
      refine cq_aload_n F (i := 1) dX2_takeRest_3 rfl rfl ?_
      refine cq_callVs F (by omega) (kJ0_length_8abf5 l D cA X Bs (3 + w) M2 (by omega)) (cwV 0 F.1.2.2.2.2 gX2_takeRest_J0_length_8abf5 rfl rfl rfl hdVJ0_length_8abf5 ⟨Nat.le_of_ble_eq_true rfl, Nat.le_of_ble_eq_true rfl⟩) rfl (Nat.le_of_ble_eq_true rfl) dX2_takeRest_4 ⟨Nat.le_of_ble_eq_true rfl, Nat.le_of_ble_eq_true rfl⟩ (cq_kIe ?_)
      refine cq_icmp_ge F (tgt := 30) dX2_takeRest_7 (by decide) (fun c_7 => ?_) (fun c_7 => ?_)
      · have c_7 : (cq_tl (3 + w)) ≤ j := (nI_b (a := (cq_tl (3 + w))) (b := j) (by omega) (by omega)).1.mp c_7
        refine cq_iconst F (v := 1) dX2_takeRest_30 rfl ?_
        refine cq_zret F hr (by rfl) (by decide) (by decide) dX2_takeRest_31 ⟨_, rfl, ?_⟩
        have ej : j = cq_tl (3 + w) := by omega
        rw [hres, ej, tw_end w hw]
        exact ⟨rfl, ⟨hp2, hpl⟩, hF⟩
      · have c_7 : ¬ (cq_tl (3 + w)) ≤ j := fun z => c_7 ((nI_b (a := (cq_tl (3 + w))) (b := j) (by omega) (by omega)).1.mpr z)
        refine cq_aload_n F (i := 0) dX2_takeRest_10 rfl rfl ?_
        refine cq_aload_n F (i := 1) dX2_takeRest_11 rfl rfl ?_
        refine cq_iload_n F (i := 2) dX2_takeRest_12 rfl rfl ?_
        refine cq_callVs F (by omega) (kJ0_charAt_5068e l D cA X Bs (3 + w) j M2 (by omega) (by omega)) (cwV 1 F.1.2.2.2.2 gX2_takeRest_J0_charAt_5068e rfl rfl rfl hdVJ0_charAt_5068e ⟨Nat.le_of_ble_eq_true rfl, Nat.le_of_ble_eq_true rfl⟩) rfl (Nat.le_of_ble_eq_true rfl) dX2_takeRest_13 ⟨Nat.le_of_ble_eq_true rfl, Nat.le_of_ble_eq_true rfl⟩ (cq_kIe ?_)
        refine cq_callV F (C := RX2) (ci := 3) (kX2_take l D cA X Bs a len p t (cq_tb (3 + w) j).toNatClampNeg M2 ha (hF.m hm) hlen hp2 hpl (by have := cq_ch9 (3 + w) (by omega) j (by omega); omega)) (cwV 1 F.1.2.2.2.2 gX2_takeRest_X2_take rfl rfl rfl hdVX2_take ⟨Nat.le_of_ble_eq_true rfl, Nat.le_of_ble_eq_true rfl⟩) ha.kind ⟨by decide, by decide⟩ rfl rfl rfl (Nat.le_of_ble_eq_true rfl) dX2_takeRest_16 ⟨Nat.le_of_ble_eq_true rfl, Nat.le_of_ble_eq_true rfl⟩ (cq_kI fun r_16 M_16 h_16 => ?_)
        refine cq_if_ne F (tgt := 24) dX2_takeRest_19 (by decide) (fun c_19 => ?_) (fun c_19 => ?_)
        · have c_19 := cq_b1 h_16.1 c_19
          refine cq_iinc F dX2_takeRest_24 rfl (by decide) (fun x_24 e_24 => ?_)
          obtain rfl : x_24 = nI (j + 1) := by rw [e_24]; exact nI_1 _
          refine cq_goto F (tgt := 2) dX2_takeRest_27 (by decide) ?_
          refine cq_loc (L2 := [(0, .ref a), (1, .ref (D.2 100 (3 + w))), (2, .int (nI (j + 1)))]) rfl ?_
          exact ih_2 (j + 1) (p + 1) M_16 (by omega) (by omega) (by rw [hres, tw_at w hw j (by omega), tx_l_c, if_pos c_19]) (by have z := h_16.2.1.2; rwa [tx_t, if_pos c_19] at z) (by have z := h_16.2.1.1; rwa [tx_t, if_pos c_19] at z) (hF.trans h_16.2.2) (by omega)
        · have c_19 := cq_b0 h_16.1 c_19
          refine cq_iconst F (v := 0) dX2_takeRest_22 rfl ?_
          refine cq_zret F hr (by rfl) (by decide) (by decide) dX2_takeRest_23 ⟨_, rfl, ?_⟩
          rw [hres, tw_at w hw j (by omega), tx_l_c, if_neg c_19]
          exact ⟨rfl, ⟨by have z := h_16.2.1.1; rwa [tx_t, if_neg c_19] at z, hpl⟩, hF.trans h_16.2.2⟩
  refine cq_iconst F (v := 1) dX2_takeRest_0 rfl ?_
  refine cq_istore_n F (i := 2) dX2_takeRest_1 rfl (by decide) ?_
  refine cq_loc (L2 := [(0, .ref a), (1, .ref (D.2 100 (3 + w))), (2, .int (nI 1))]) rfl ?_
  exact loop_2 6 1 p0 M (by omega) (by omega) rfl hp9 hp tc_2.rf (by omega)
theorem hdVX2_takeRest : yX2_takeRest.cls = RX2 ∧ yX2_takeRest.cls ≠ "java/lang/invoke/MethodHandle" ∧ yX2_takeRest.cls ≠ "java/lang/invoke/VarHandle" ∧ (parseMethodDescriptor yX2_takeRest.desc).map (fun d => d.parameters.length) = some 1 := by decide +kernel
abbrev rmX2_wordText : Room := ({ frames := 0, cells := 0, slots := 0, locals := 0 })
set_option maxHeartbeats 4000000 in
set_option maxRecDepth 100000 in
theorem kX2_wordText (l : Launch) (D : va_G) (cA : Nat → ClassId) (X : cq_X) (Bs : Nat) (i : Nat) (M : cq_M) (hi : i < 4) : cq_C l yX2_wordText wsX2_wordText rmX2_wordText D cA X Bs [.int (nI i)] M (cq_PR (fun a M1 => a = D.2 100 (3 + i) ∧ M1 = M)) 0 0 := by
  refine cq_met (cc := cX2_wordText) (maxL := 1) (ret := (some (.object "java/lang/String"))) (by decide) rfl (Nat.le_of_ble_eq_true rfl) [(0, .int (nI i))] rfl rfl ?_
  intro p9 e9 s9 m9 b9 t9 c9 F hr
  refine cq_iload_n F (i := 0) dX2_wordText_0 rfl rfl ?_
  have sw_1 : i = 0 ∨ i = 1 ∨ i = 2 ∨ i = 3 := by omega
  rcases sw_1 with sw_1 | sw_1 | sw_1 | sw_1
  · subst sw_1
    refine cq_tableIn F (off := 27) (tgt := 28) dX2_wordText_1 (by decide) (by decide) (by decide) (by decide) ?_
    refine cq_ldcS F (i := 3) rfl dX2_wordText_28 ?_
    exact cq_aret F hr (Or.inl ⟨_, rfl⟩) (by decide) (by decide) dX2_wordText_30 ⟨_, rfl, ⟨rfl, rfl⟩⟩
  · subst sw_1
    refine cq_tableIn F (off := 30) (tgt := 31) dX2_wordText_1 (by decide) (by decide) (by decide) (by decide) ?_
    refine cq_ldcS F (i := 4) rfl dX2_wordText_31 ?_
    exact cq_aret F hr (Or.inl ⟨_, rfl⟩) (by decide) (by decide) dX2_wordText_33 ⟨_, rfl, ⟨rfl, rfl⟩⟩
  · subst sw_1
    refine cq_tableIn F (off := 33) (tgt := 34) dX2_wordText_1 (by decide) (by decide) (by decide) (by decide) ?_
    refine cq_ldcS F (i := 5) rfl dX2_wordText_34 ?_
    exact cq_aret F hr (Or.inl ⟨_, rfl⟩) (by decide) (by decide) dX2_wordText_36 ⟨_, rfl, ⟨rfl, rfl⟩⟩
  · subst sw_1
    refine cq_tableOut F (tgt := 37) dX2_wordText_1 (by decide) (by decide) ?_
    refine cq_ldcS F (i := 6) rfl dX2_wordText_37 ?_
    exact cq_aret F hr (Or.inl ⟨_, rfl⟩) (by decide) (by decide) dX2_wordText_39 ⟨_, rfl, ⟨rfl, rfl⟩⟩
theorem hdVX2_wordText : yX2_wordText.cls = RX2 ∧ yX2_wordText.cls ≠ "java/lang/invoke/MethodHandle" ∧ yX2_wordText.cls ≠ "java/lang/invoke/VarHandle" ∧ (parseMethodDescriptor yX2_wordText.desc).map (fun d => d.parameters.length) = some 1 := by decide +kernel
abbrev rmX2_readWord : Room := ({ frames := 5, cells := 0, slots := 0, locals := 107 })
set_option maxHeartbeats 4000000 in
set_option maxRecDepth 100000 in
theorem kX2_readWord (l : Launch) (D : va_G) (cA : Nat → ClassId) (X : cq_X) (Bs : Nat) (a len p : Nat) (t : Nat → Nat) (M : cq_M) (ha : cq_isText X a) (hm : tc_M M a t len) (hlen : len ≤ 60) (hp : M a 2 = nI p) (hp9 : p ≤ 60) : cq_C l yX2_readWord wsX2_readWord rmX2_readWord D cA X Bs [.ref a] M (cq_PI (fun r M1 => r = (if (tx_lw (tx_s t len) p).1 = true then 1 else 0) ∧ (M1 a 2 = nI (tx_lw (tx_s t len) p).2 ∧ (tx_lw (tx_s t len) p).2 ≤ 60) ∧ ((tx_lw (tx_s t len) p).1 = true → M1 a 3 = nI (tw_i (tx_s t len) p)) ∧ tc_f M M1 a 3)) 0 0 := by
  refine cq_met (cc := cX2_readWord) (maxL := 3) (ret := (some .boolean)) (by decide) rfl (Nat.le_of_ble_eq_true rfl) [(0, .ref a)] rfl rfl ?_
  intro p9 e9 s9 m9 b9 t9 c9 F hr
  have inX2 : ∀ w ∈ wsX20, w ∈ wsX2_readWord := (fun w h => List.mem_cons_of_mem _ (List.mem_append_right _ h))
  have hs9 := hm.s p
  have loop_2 : ∀ (n_2 : Nat) (i : Nat) (M2 : cq_M), i ≤ 4 → (∀ w, w < i → (tx_s t len) p ≠ tw_f w) → M2 a 2 = nI p → tc_2 M M2 a → 5 - i < n_2 → cq_V p9 l e9 rmX2_readWord s9 m9 ([.ref a] : List Value).toArray b9 t9 c9 D cA X Bs 3 0 0 (MQ b9 (cq_Q D cA X Bs (cq_PI (fun r M1 => r = (if (tx_lw (tx_s t len) p).1 = true then 1 else 0) ∧ (M1 a 2 = nI (tx_lw (tx_s t len) p).2 ∧ (tx_lw (tx_s t len) p).2 ≤ 60) ∧ ((tx_lw (tx_s t len) p).1 = true → M1 a 3 = nI (tw_i (tx_s t len) p)) ∧ tc_f M M1 a 3))) ([.ref a] : List Value).toArray s9 0 0 (cq_A Bs)) 2 [(0, .ref a), (1, .int (nI i))] [] M2 := by
    intro n_2
    induction n_2 with
    | zero =>
      intros
      omega
    | succ n_2 ih_2 =>
      intro i M2 hi hno h2 hF hn
      refine cq_iload_n F (i := 1) dX2_readWord_2 rfl rfl ?_
      refine cq_iconst F (v := 3) dX2_readWord_3 rfl ?_
      refine cq_icmp_gt F (tgt := 41) dX2_readWord_4 (by decide) (fun c_4 => ?_) (fun c_4 => ?_)
      · have c_4 : 3 < i := (nI_b (a := 3) (b := i) (by omega) (by omega)).2.1.mp c_4
        refine cq_iconst F (v := 0) dX2_readWord_41 rfl ?_
        refine cq_zret F hr (by rfl) (by decide) (by decide) dX2_readWord_42 ⟨_, rfl, ?_⟩
        have e4 : tw_i (tx_s t len) p = 4 := tw_i_no (fun w hw => hno w (by omega))
        have e5 : tx_lw (tx_s t len) p = (false, p) := by unfold tx_lw; rw [e4]; rfl
        rw [e5]
        exact ⟨rfl, ⟨h2, hp9⟩, fun z => absurd (show false = true from z) (by decide), hF.f 3⟩
      · have c_4 : ¬ 3 < i := fun z => c_4 ((nI_b (a := 3) (b := i) (by omega) (by omega)).2.1.mpr z)
        refine cq_iload_n F (i := 1) dX2_readWord_7 rfl rfl ?_
        refine cq_callS F (kX2_wordText l D cA X Bs i M2 (by omega)) (va_cwS 1 F.1.2.2.2.2 gX2_readWord_X2_wordText rfl rfl rfl hdVX2_wordText.2 ⟨Nat.le_of_ble_eq_true rfl, Nat.le_of_ble_eq_true rfl⟩) rfl (Nat.le_of_ble_eq_true rfl) dX2_readWord_8 ⟨Nat.le_of_ble_eq_true rfl, Nat.le_of_ble_eq_true rfl⟩ (cq_kRe ?_)
        refine cq_astore_n F (i := 2) dX2_readWord_11 rfl (by decide) ?_
        refine cq_aload_n F (i := 0) dX2_readWord_12 rfl rfl ?_
        refine cq_aload_n F (i := 2) dX2_readWord_13 rfl rfl ?_
        refine cq_iconst F (v := 0) dX2_readWord_14 rfl ?_
        refine cq_callVs F (by omega) (kJ0_charAt_5068e l D cA X Bs (3 + i) 0 M2 (by omega) (by have := cq_tl9 (3 + i) (by omega); omega)) (cwV 1 F.1.2.2.2.2 gX2_readWord_J0_charAt_5068e rfl rfl rfl hdVJ0_charAt_5068e ⟨Nat.le_of_ble_eq_true rfl, Nat.le_of_ble_eq_true rfl⟩) rfl (Nat.le_of_ble_eq_true rfl) dX2_readWord_15 ⟨Nat.le_of_ble_eq_true rfl, Nat.le_of_ble_eq_true rfl⟩ (cq_kIe ?_)
        refine cq_callV F (C := RX2) (ci := 3) (kX2_take l D cA X Bs a len p t (cq_tb (3 + i) 0).toNatClampNeg M2 ha (hF.m hm) hlen h2 hp9 (by have := cq_ch9 (3 + i) (by omega) 0 (by have := cq_tl9 (3 + i) (by omega); omega); omega)) (cwV 1 F.1.2.2.2.2 gX2_readWord_X2_take rfl rfl rfl hdVX2_take ⟨Nat.le_of_ble_eq_true rfl, Nat.le_of_ble_eq_true rfl⟩) ha.kind ⟨by decide, by decide⟩ rfl rfl rfl (Nat.le_of_ble_eq_true rfl) dX2_readWord_18 ⟨Nat.le_of_ble_eq_true rfl, Nat.le_of_ble_eq_true rfl⟩ (cq_kI fun r_18 M_18 h_18 => ?_)
        refine cq_if_eq F (tgt := 35) dX2_readWord_21 (by decide) (fun c_21 => ?_) (fun c_21 => ?_)
        · have c_21 := cq_b0 h_18.1 c_21
          refine cq_iinc F dX2_readWord_35 rfl (by decide) (fun x_35 e_35 => ?_)
          obtain rfl : x_35 = nI (i + 1) := by rw [e_35]; exact nI_1 _
          refine cq_goto F (tgt := 2) dX2_readWord_38 (by decide) ?_
          refine cq_loc (L2 := [(0, .ref a), (1, .int (nI (i + 1)))]) rfl ?_
          exact ih_2 (i + 1) M_18 (by omega) (fun w hw => by
            by_cases ew : w = i
            · rw [ew, ← tw_first i (by omega)]; exact c_21
            · exact hno w (by omega)) (by have z := h_18.2.1.1; rwa [tx_t, if_neg c_21] at z) (hF.trans h_18.2.2) (by omega)
        · have c_21 := cq_b1 h_18.1 c_21
          refine cq_aload_n F (i := 0) dX2_readWord_24 rfl rfl ?_
          refine cq_iload_n F (i := 1) dX2_readWord_25 rfl rfl ?_
          refine cq_put F (C := RX2) (T := TX2) (N := 10) (ci := 3) ha.kind rfl ⟨⟨by decide, by decide⟩, rfl⟩ inX2 tyX2 tyX2_ok nmX2 3 (by decide) rfl rfl (F.1.2.2.2.2 _ (List.mem_of_getElem? (l := wsX2_readWord) (i := 1) (a := .fieldLink RX2 40 "CordClock$OrderText" "word" "I") (by decide +kernel))) rfl (by rfl) (by rfl) dX2_readWord_26 (fun M_26 h_26 => ?_)
          refine cq_aload_n F (i := 0) dX2_readWord_29 rfl rfl ?_
          refine cq_aload_n F (i := 2) dX2_readWord_30 rfl rfl ?_
          refine cq_callV F (C := RX2) (ci := 3) (kX2_takeRest l D cA X Bs a len (p + 1) i t M_26 ha ((((hF.trans h_18.2.2).f 3).up h_26).m (by omega) hm) hlen (by rw [h_26, cq_up_k (by omega)]; have z := h_18.2.1.1; rwa [tx_t, if_pos c_21] at z) (by have z := h_18.2.1.2; rwa [tx_t, if_pos c_21] at z) (by omega)) (cwV 1 F.1.2.2.2.2 gX2_readWord_X2_takeRest rfl rfl rfl hdVX2_takeRest ⟨Nat.le_of_ble_eq_true rfl, Nat.le_of_ble_eq_true rfl⟩) ha.kind ⟨by decide, by decide⟩ rfl rfl rfl (Nat.le_of_ble_eq_true rfl) dX2_readWord_31 ⟨Nat.le_of_ble_eq_true rfl, Nat.le_of_ble_eq_true rfl⟩ (cq_kI fun r_31 M_31 h_31 => ?_)
          refine cq_zret F hr (cq_zn (by rw [h_31.1]; split <;> simp)) (by decide) (by decide) dX2_readWord_34 ⟨_, rfl, ?_⟩
          have e4 : tw_i (tx_s t len) p = i := tw_i_of (by omega) (c_21.trans (tw_first i (by omega)))
          have e5 : tx_lw (tx_s t len) p = tx_l (tx_s t len) ((tw_l i).drop 1) (p + 1) := by unfold tx_lw; rw [e4, if_pos (by omega)]
          rw [e5, e4]
          exact ⟨h_31.1, h_31.2.1, fun _ => by rw [h_31.2.2 _ _ (by omega), h_26]; exact cq_up_s _ _ _ _, (((hF.trans h_18.2.2).f 3).up h_26).two h_31.2.2⟩
  refine cq_iconst F (v := 0) dX2_readWord_0 rfl ?_
  refine cq_istore_n F (i := 1) dX2_readWord_1 rfl (by decide) ?_
  refine cq_loc (L2 := [(0, .ref a), (1, .int (nI 0))]) rfl ?_
  exact loop_2 6 0 M (by omega) (fun w hw => absurd hw (by omega)) hp tc_2.rf (by omega)
theorem hdVX2_readWord : yX2_readWord.cls = RX2 ∧ yX2_readWord.cls ≠ "java/lang/invoke/MethodHandle" ∧ yX2_readWord.cls ≠ "java/lang/invoke/VarHandle" ∧ (parseMethodDescriptor yX2_readWord.desc).map (fun d => d.parameters.length) = some 0 := by decide +kernel
abbrev rmX2_readOrder : Room := ({ frames := 6, cells := 0, slots := 0, locals := 129 })
set_option maxHeartbeats 4000000 in
set_option maxRecDepth 100000 in
theorem kX2_readOrder (l : Launch) (D : va_G) (cA : Nat → ClassId) (X : cq_X) (Bs : Nat) (a len p : Nat) (t : Nat → Nat) (M : cq_M) (ha : cq_isText X a) (hm : tc_M M a t len) (hlen : len ≤ 60) (hp : M a 2 = nI p) (hp9 : p ≤ 60) : cq_C l yX2_readOrder wsX2_readOrder rmX2_readOrder D cA X Bs [.ref a] M (cq_PI (fun r M1 => r = (if (tx_ord (tx_s t len) p).1 = true then 1 else 0) ∧ (M1 a 2 = nI (tx_ord (tx_s t len) p).2.1 ∧ (tx_ord (tx_s t len) p).2.1 ≤ 60) ∧ ((tx_ord (tx_s t len) p).1 = true → tc_reca M1 a (tx_ord (tx_s t len) p).2.2) ∧ tc_A M M1 a)) 0 0 := by
  refine cq_met (cc := cX2_readOrder) (maxL := 1) (ret := (some .boolean)) (by decide) rfl (Nat.le_of_ble_eq_true rfl) [(0, .ref a)] rfl rfl ?_
  intro p9 e9 s9 m9 b9 t9 c9 F hr
  have inX2 : ∀ w ∈ wsX20, w ∈ wsX2_readOrder := (fun w h => List.mem_cons_of_mem _ (List.mem_append_right _ h))
  refine cq_aload_n F (i := 0) dX2_readOrder_0 rfl rfl ?_
  refine cq_callV F (C := RX2) (ci := 3) (kX2_readWord l D cA X Bs a len p t M ha hm hlen hp hp9) (cwV 0 F.1.2.2.2.2 gX2_readOrder_X2_readWord rfl rfl rfl hdVX2_readWord ⟨Nat.le_of_ble_eq_true rfl, Nat.le_of_ble_eq_true rfl⟩) ha.kind ⟨by decide, by decide⟩ rfl rfl rfl (Nat.le_of_ble_eq_true rfl) dX2_readOrder_1 ⟨Nat.le_of_ble_eq_true rfl, Nat.le_of_ble_eq_true rfl⟩ (cq_kI fun r_1 M_1 h_1 => ?_)
  refine cq_if_eq F (tgt := 16) dX2_readOrder_4 (by decide) (fun c_4 => ?_) (fun c_4 => ?_)
  · have c_4 := cq_b0 h_1.1 c_4
    refine cq_iconst F (v := 0) dX2_readOrder_16 rfl ?_
    refine cq_zret F hr (by rfl) (by decide) (by decide) dX2_readOrder_17 ⟨_, rfl, ?_⟩
    rw [tx_ord_w, if_neg c_4]
    exact ⟨rfl, h_1.2.1, fun z => absurd (show false = true from z) (by decide), h_1.2.2.2.A (by omega)⟩
  · have c_4 := cq_b1 h_1.1 c_4
    refine cq_aload_n F (i := 0) dX2_readOrder_7 rfl rfl ?_
    refine cq_bipush F (v := 58) dX2_readOrder_8 (by decide) ?_
    refine cq_callV F (C := RX2) (ci := 3) (kX2_take l D cA X Bs a len (tx_lw (tx_s t len) p).2 t 58 M_1 ha (h_1.2.2.2.m (by omega) hm) hlen h_1.2.1.1 h_1.2.1.2 (by decide)) (cwV 1 F.1.2.2.2.2 gX2_readOrder_X2_take rfl rfl rfl hdVX2_take ⟨Nat.le_of_ble_eq_true rfl, Nat.le_of_ble_eq_true rfl⟩) ha.kind ⟨by decide, by decide⟩ rfl rfl rfl (Nat.le_of_ble_eq_true rfl) dX2_readOrder_10 ⟨Nat.le_of_ble_eq_true rfl, Nat.le_of_ble_eq_true rfl⟩ (cq_kI fun r_10 M_10 h_10 => ?_)
    refine cq_if_ne F (tgt := 18) dX2_readOrder_13 (by decide) (fun c_13 => ?_) (fun c_13 => ?_)
    · have c_13 := cq_b1 h_10.1 c_13
      have hm9 : tc_M M_10 a t len := h_10.2.2.m (h_1.2.2.2.m (by omega) hm)
      have hp10 : M_10 a 2 = nI ((tx_lw (tx_s t len) p).2 + 1) := by have z := h_10.2.1.1; rwa [tx_t, if_pos c_13] at z
      have hl9 : (tx_lw (tx_s t len) p).2 + 1 ≤ 60 := by have z := h_10.2.1.2; rwa [tx_t, if_pos c_13] at z
      have hw3 : M_10 a 3 = nI (tw_i (tx_s t len) p) := by rw [h_10.2.2 _ _ (by omega)]; exact h_1.2.2.1 c_4
      have hw4 := tx_lw_lt c_4
      have hA : tc_A M M_10 a := (h_1.2.2.2.A (by omega)).trans h_10.2.2.A
      have hO : (tx_ord (tx_s t len) p) = tw_k (tw_i (tx_s t len) p) (tx_s t len) ((tx_lw (tx_s t len) p).2 + 1) := by rw [tx_ord_w, if_pos c_4, if_pos c_13]
      generalize hPe : (tx_lw (tx_s t len) p).2 + 1 = P at *
      generalize hwe : tw_i (tx_s t len) p = wi at *
      refine cq_aload_n F (i := 0) dX2_readOrder_18 rfl rfl ?_
      refine cq_getI F (C := RX2) (T := TX2) (N := 10) (ci := 3) ha.kind rfl ⟨⟨by decide, by decide⟩, rfl⟩ inX2 3 (by decide) rfl rfl (F.1.2.2.2.2 _ (List.mem_of_getElem? (l := wsX2_readOrder) (i := 1) (a := .fieldLink RX2 40 "CordClock$OrderText" "word" "I") (by decide +kernel))) dX2_readOrder_19 ?_
      rw [hw3]
      have sw_22 : wi = 0 ∨ wi = 1 ∨ wi = 2 ∨ wi = 3 := by omega
      rcases sw_22 with sw_22 | sw_22 | sw_22 | sw_22
      · rw [show nI (wi) = nI 0 from by rw [sw_22]]
        refine cq_tableIn F (off := 26) (tgt := 48) dX2_readOrder_22 (by decide) (by decide) (by decide) (by decide) ?_
        refine cq_aload_n F (i := 0) dX2_readOrder_48 rfl rfl ?_
        refine cq_callV F (C := RX2) (ci := 3) (kX2_readTimes l D cA X Bs a len P t M_10 ha hm9 hlen hp10 hl9) (cwV 0 F.1.2.2.2.2 gX2_readOrder_X2_readTimes rfl rfl rfl hdVX2_readTimes ⟨Nat.le_of_ble_eq_true rfl, Nat.le_of_ble_eq_true rfl⟩) ha.kind ⟨by decide, by decide⟩ rfl rfl rfl (Nat.le_of_ble_eq_true rfl) dX2_readOrder_49 ⟨Nat.le_of_ble_eq_true rfl, Nat.le_of_ble_eq_true rfl⟩ (cq_kI fun r_49 M_49 h_49 => ?_)
        refine cq_zret F hr (cq_zn (by rw [h_49.1]; split <;> simp)) (by decide) (by decide) dX2_readOrder_52 ⟨_, rfl, ?_⟩
        rw [hO, sw_22, show tw_k 0 (tx_s t len) P = tx_new (tx_s t len) P from rfl, tx_nw.1, tx_nw.2.1]
        exact ⟨h_49.1, h_49.2.1, fun z => by rw [tx_nw.2.2 z]; exact tc_reca.k0 (by rw [h_49.2.2.2 _ _ (by omega) (by omega), hw3, sw_22]) (h_49.2.2.1 z).1 (h_49.2.2.1 z).2, hA.trans h_49.2.2.2.A⟩
      · rw [show nI (wi) = nI 1 from by rw [sw_22]]
        refine cq_tableIn F (off := 31) (tgt := 53) dX2_readOrder_22 (by decide) (by decide) (by decide) (by decide) ?_
        refine cq_aload_n F (i := 0) dX2_readOrder_53 rfl rfl ?_
        refine cq_callV F (C := RX2) (ci := 3) (kX2_readCord l D cA X Bs a len P t M_10 ha hm9 hlen hp10 hl9) (cwV 0 F.1.2.2.2.2 gX2_readOrder_X2_readCord rfl rfl rfl hdVX2_readCord ⟨Nat.le_of_ble_eq_true rfl, Nat.le_of_ble_eq_true rfl⟩) ha.kind ⟨by decide, by decide⟩ rfl rfl rfl (Nat.le_of_ble_eq_true rfl) dX2_readOrder_54 ⟨Nat.le_of_ble_eq_true rfl, Nat.le_of_ble_eq_true rfl⟩ (cq_kI fun r_54 M_54 h_54 => ?_)
        refine cq_if_eq F (tgt := 71) dX2_readOrder_57 (by decide) (fun c_57 => ?_) (fun c_57 => ?_)
        · have c_57 := cq_b0 h_54.1 c_57
          refine cq_iconst F (v := 0) dX2_readOrder_71 rfl ?_
          refine cq_zret F hr (by rfl) (by decide) (by decide) dX2_readOrder_72 ⟨_, rfl, ?_⟩
          rw [hO, sw_22, show tw_k 1 (tx_s t len) P = tx_lit (tx_s t len) P from rfl, show tx_lit (tx_s t len) P = (false, P, tx_no) from if_neg c_57]
          exact ⟨rfl, ⟨by have z := h_54.2.1; rwa [if_neg c_57] at z, hl9⟩, fun z => absurd (show false = true from z) (by decide), hA.trans (h_54.2.2.2.A (by omega))⟩
        · have c_57 := cq_b1 h_54.1 c_57
          refine cq_aload_n F (i := 0) dX2_readOrder_60 rfl rfl ?_
          refine cq_callV F (C := RX2) (ci := 3) (kX2_readEnd l D cA X Bs a len (P + 1) t M_54 ha (h_54.2.2.2.m (by omega) hm9) hlen (by have z := h_54.2.1; rwa [if_pos c_57] at z) (h_54.2.2.1 c_57).1) (cwV 0 F.1.2.2.2.2 gX2_readOrder_X2_readEnd rfl rfl rfl hdVX2_readEnd ⟨Nat.le_of_ble_eq_true rfl, Nat.le_of_ble_eq_true rfl⟩) ha.kind ⟨by decide, by decide⟩ rfl rfl rfl (Nat.le_of_ble_eq_true rfl) dX2_readOrder_61 ⟨Nat.le_of_ble_eq_true rfl, Nat.le_of_ble_eq_true rfl⟩ (cq_kI fun r_61 M_61 h_61 => ?_)
          refine cq_if_eq F (tgt := 71) dX2_readOrder_64 (by decide) (fun c_64 => ?_) (fun c_64 => ?_)
          · have c_64 := cq_b0 h_61.1 c_64
            refine cq_iconst F (v := 0) dX2_readOrder_71 rfl ?_
            refine cq_zret F hr (by rfl) (by decide) (by decide) dX2_readOrder_72 ⟨_, rfl, ?_⟩
            rw [hO, sw_22, show tw_k 1 (tx_s t len) P = tx_lit (tx_s t len) P from rfl, show tx_lit (tx_s t len) P = ((tx_side (tx_s t len) (P + 1)).1, (tx_side (tx_s t len) (P + 1)).2.1, (1, (tx_s t len) P - 48, 0, (tx_side (tx_s t len) (P + 1)).2.2, [])) from if_pos c_57]
            exact ⟨by first | exact (if_pos c_64).symm | exact (if_neg c_64).symm, h_61.2.1, fun _ => tc_reca.k1 (by rw [h_61.2.2.2 _ _ (by omega), h_54.2.2.2 _ _ (by omega), hw3, sw_22]) (by rw [h_61.2.2.2 _ _ (by omega)]; exact (h_54.2.2.1 c_57).2) h_61.2.2.1, (hA.trans (h_54.2.2.2.A (by omega))).trans (h_61.2.2.2.A (by omega))⟩
          · have c_64 := cq_b1 h_61.1 c_64
            refine cq_iconst F (v := 1) dX2_readOrder_67 rfl ?_
            refine cq_goto F (tgt := 72) dX2_readOrder_68 (by decide) ?_
            refine cq_zret F hr (by rfl) (by decide) (by decide) dX2_readOrder_72 ⟨_, rfl, ?_⟩
            rw [hO, sw_22, show tw_k 1 (tx_s t len) P = tx_lit (tx_s t len) P from rfl, show tx_lit (tx_s t len) P = ((tx_side (tx_s t len) (P + 1)).1, (tx_side (tx_s t len) (P + 1)).2.1, (1, (tx_s t len) P - 48, 0, (tx_side (tx_s t len) (P + 1)).2.2, [])) from if_pos c_57]
            exact ⟨by first | exact (if_pos c_64).symm | exact (if_neg c_64).symm, h_61.2.1, fun _ => tc_reca.k1 (by rw [h_61.2.2.2 _ _ (by omega), h_54.2.2.2 _ _ (by omega), hw3, sw_22]) (by rw [h_61.2.2.2 _ _ (by omega)]; exact (h_54.2.2.1 c_57).2) h_61.2.2.1, (hA.trans (h_54.2.2.2.A (by omega))).trans (h_61.2.2.2.A (by omega))⟩
      · rw [show nI (wi) = nI 2 from by rw [sw_22]]
        refine cq_tableIn F (off := 51) (tgt := 73) dX2_readOrder_22 (by decide) (by decide) (by decide) (by decide) ?_
        refine cq_aload_n F (i := 0) dX2_readOrder_73 rfl rfl ?_
        refine cq_callV F (C := RX2) (ci := 3) (kX2_readOut l D cA X Bs a len P t M_10 ha hm9 hlen hp10 hl9) (cwV 0 F.1.2.2.2.2 gX2_readOrder_X2_readOut rfl rfl rfl hdVX2_readOut ⟨Nat.le_of_ble_eq_true rfl, Nat.le_of_ble_eq_true rfl⟩) ha.kind ⟨by decide, by decide⟩ rfl rfl rfl (Nat.le_of_ble_eq_true rfl) dX2_readOrder_74 ⟨Nat.le_of_ble_eq_true rfl, Nat.le_of_ble_eq_true rfl⟩ (cq_kI fun r_74 M_74 h_74 => ?_)
        refine cq_if_eq F (tgt := 107) dX2_readOrder_77 (by decide) (fun c_77 => ?_) (fun c_77 => ?_)
        · have c_77 := cq_b0 h_74.1 c_77
          refine cq_iconst F (v := 0) dX2_readOrder_107 rfl ?_
          refine cq_zret F hr (by rfl) (by decide) (by decide) dX2_readOrder_108 ⟨_, rfl, ?_⟩
          rw [hO, sw_22, show tw_k 2 (tx_s t len) P = tx_when (tx_s t len) P from rfl]
          unfold tx_when
          rw [if_neg c_77]
          exact ⟨rfl, ⟨by have z := h_74.2.1; rwa [if_neg c_77] at z, hl9⟩, fun z => absurd (show false = true from z) (by decide), hA.trans (h_74.2.2.2.A (by omega))⟩
        · have c_77 := cq_b1 h_74.1 c_77
          refine cq_aload_n F (i := 0) dX2_readOrder_80 rfl rfl ?_
          refine cq_bipush F (v := 44) dX2_readOrder_81 (by decide) ?_
          refine cq_callV F (C := RX2) (ci := 3) (kX2_take l D cA X Bs a len (P + 1) t 44 M_74 ha (h_74.2.2.2.m (by omega) hm9) hlen (by have z := h_74.2.1; rwa [if_pos c_77] at z) (h_74.2.2.1 c_77).1 (by decide)) (cwV 1 F.1.2.2.2.2 gX2_readOrder_X2_take rfl rfl rfl hdVX2_take ⟨Nat.le_of_ble_eq_true rfl, Nat.le_of_ble_eq_true rfl⟩) ha.kind ⟨by decide, by decide⟩ rfl rfl rfl (Nat.le_of_ble_eq_true rfl) dX2_readOrder_83 ⟨Nat.le_of_ble_eq_true rfl, Nat.le_of_ble_eq_true rfl⟩ (cq_kI fun r_83 M_83 h_83 => ?_)
          refine cq_if_eq F (tgt := 107) dX2_readOrder_86 (by decide) (fun c_86 => ?_) (fun c_86 => ?_)
          · have c_86 := cq_b0 h_83.1 c_86
            have hA83 : tc_A M M_83 a := (hA.trans (h_74.2.2.2.A (by omega))).trans h_83.2.2.A
            refine cq_iconst F (v := 0) dX2_readOrder_107 rfl ?_
            refine cq_zret F hr (by rfl) (by decide) (by decide) dX2_readOrder_108 ⟨_, rfl, ?_⟩
            rw [hO, sw_22, show tw_k 2 (tx_s t len) P = tx_when (tx_s t len) P from rfl]
            unfold tx_when
            rw [if_pos c_77, if_neg c_86]
            exact ⟨rfl, ⟨by have z := h_83.2.1.1; rwa [tx_t, if_neg c_86] at z, (h_74.2.2.1 c_77).1⟩, fun z => absurd (show false = true from z) (by decide), hA83⟩
          · have c_86 := cq_b1 h_83.1 c_86
            have hA83 : tc_A M M_83 a := (hA.trans (h_74.2.2.2.A (by omega))).trans h_83.2.2.A
            refine cq_aload_n F (i := 0) dX2_readOrder_89 rfl rfl ?_
            refine cq_callV F (C := RX2) (ci := 3) (kX2_readCord l D cA X Bs a len (P + 2) t M_83 ha (hA83.m hm) hlen (by have z := h_83.2.1.1; rwa [tx_t, if_pos c_86] at z) (by have z := h_83.2.1.2; rwa [tx_t, if_pos c_86] at z)) (cwV 0 F.1.2.2.2.2 gX2_readOrder_X2_readCord rfl rfl rfl hdVX2_readCord ⟨Nat.le_of_ble_eq_true rfl, Nat.le_of_ble_eq_true rfl⟩) ha.kind ⟨by decide, by decide⟩ rfl rfl rfl (Nat.le_of_ble_eq_true rfl) dX2_readOrder_90 ⟨Nat.le_of_ble_eq_true rfl, Nat.le_of_ble_eq_true rfl⟩ (cq_kI fun r_90 M_90 h_90 => ?_)
            refine cq_if_eq F (tgt := 107) dX2_readOrder_93 (by decide) (fun c_93 => ?_) (fun c_93 => ?_)
            · have c_93 := cq_b0 h_90.1 c_93
              refine cq_iconst F (v := 0) dX2_readOrder_107 rfl ?_
              refine cq_zret F hr (by rfl) (by decide) (by decide) dX2_readOrder_108 ⟨_, rfl, ?_⟩
              rw [hO, sw_22, show tw_k 2 (tx_s t len) P = tx_when (tx_s t len) P from rfl]
              unfold tx_when
              rw [if_pos c_77, if_pos c_86, if_neg c_93]
              exact ⟨rfl, ⟨by have z := h_90.2.1; rwa [if_neg c_93] at z, by have z := h_83.2.1.2; rwa [tx_t, if_pos c_86] at z⟩, fun z => absurd (show false = true from z) (by decide), hA83.trans (h_90.2.2.2.A (by omega))⟩
            · have c_93 := cq_b1 h_90.1 c_93
              refine cq_aload_n F (i := 0) dX2_readOrder_96 rfl rfl ?_
              refine cq_callV F (C := RX2) (ci := 3) (kX2_readEnd l D cA X Bs a len (P + 3) t M_90 ha ((hA83.trans (h_90.2.2.2.A (by omega))).m hm) hlen (by have z := h_90.2.1; rwa [if_pos c_93] at z) (h_90.2.2.1 c_93).1) (cwV 0 F.1.2.2.2.2 gX2_readOrder_X2_readEnd rfl rfl rfl hdVX2_readEnd ⟨Nat.le_of_ble_eq_true rfl, Nat.le_of_ble_eq_true rfl⟩) ha.kind ⟨by decide, by decide⟩ rfl rfl rfl (Nat.le_of_ble_eq_true rfl) dX2_readOrder_97 ⟨Nat.le_of_ble_eq_true rfl, Nat.le_of_ble_eq_true rfl⟩ (cq_kI fun r_97 M_97 h_97 => ?_)
              refine cq_if_eq F (tgt := 107) dX2_readOrder_100 (by decide) (fun c_100 => ?_) (fun c_100 => ?_)
              · have c_100 := cq_b0 h_97.1 c_100
                refine cq_iconst F (v := 0) dX2_readOrder_107 rfl ?_
                refine cq_zret F hr (by rfl) (by decide) (by decide) dX2_readOrder_108 ⟨_, rfl, ?_⟩
                rw [hO, sw_22, show tw_k 2 (tx_s t len) P = tx_when (tx_s t len) P from rfl]
                unfold tx_when
                rw [if_pos c_77, if_pos c_86, if_pos c_93]
                exact ⟨by first | exact (if_pos c_100).symm | exact (if_neg c_100).symm, h_97.2.1, fun _ => tc_reca.k2 (by rw [h_97.2.2.2 _ _ (by omega), h_90.2.2.2 _ _ (by omega), h_83.2.2 _ _ (by omega), h_74.2.2.2 _ _ (by omega), hw3, sw_22]) (by rw [h_97.2.2.2 _ _ (by omega), h_90.2.2.2 _ _ (by omega), h_83.2.2 _ _ (by omega)]; exact (h_74.2.2.1 c_77).2) (by rw [h_97.2.2.2 _ _ (by omega)]; exact (h_90.2.2.1 c_93).2) h_97.2.2.1, (hA83.trans (h_90.2.2.2.A (by omega))).trans (h_97.2.2.2.A (by omega))⟩
              · have c_100 := cq_b1 h_97.1 c_100
                refine cq_iconst F (v := 1) dX2_readOrder_103 rfl ?_
                refine cq_goto F (tgt := 108) dX2_readOrder_104 (by decide) ?_
                refine cq_zret F hr (by rfl) (by decide) (by decide) dX2_readOrder_108 ⟨_, rfl, ?_⟩
                rw [hO, sw_22, show tw_k 2 (tx_s t len) P = tx_when (tx_s t len) P from rfl]
                unfold tx_when
                rw [if_pos c_77, if_pos c_86, if_pos c_93]
                exact ⟨by first | exact (if_pos c_100).symm | exact (if_neg c_100).symm, h_97.2.1, fun _ => tc_reca.k2 (by rw [h_97.2.2.2 _ _ (by omega), h_90.2.2.2 _ _ (by omega), h_83.2.2 _ _ (by omega), h_74.2.2.2 _ _ (by omega), hw3, sw_22]) (by rw [h_97.2.2.2 _ _ (by omega), h_90.2.2.2 _ _ (by omega), h_83.2.2 _ _ (by omega)]; exact (h_74.2.2.1 c_77).2) (by rw [h_97.2.2.2 _ _ (by omega)]; exact (h_90.2.2.1 c_93).2) h_97.2.2.1, (hA83.trans (h_90.2.2.2.A (by omega))).trans (h_97.2.2.2.A (by omega))⟩
      · rw [show nI (wi) = nI 3 from by rw [sw_22]]
        refine cq_tableOut F (tgt := 109) dX2_readOrder_22 (by decide) (by decide) ?_
        refine cq_aload_n F (i := 0) dX2_readOrder_109 rfl rfl ?_
        refine cq_callV F (C := RX2) (ci := 3) (kX2_readSteps l D cA X Bs a len P t M_10 ha hm9 hlen hp10 hl9) (cwV 0 F.1.2.2.2.2 gX2_readOrder_X2_readSteps rfl rfl rfl hdVX2_readSteps ⟨Nat.le_of_ble_eq_true rfl, Nat.le_of_ble_eq_true rfl⟩) ha.kind ⟨by decide, by decide⟩ rfl rfl rfl (Nat.le_of_ble_eq_true rfl) dX2_readOrder_110 ⟨Nat.le_of_ble_eq_true rfl, Nat.le_of_ble_eq_true rfl⟩ (cq_kI fun r_110 M_110 h_110 => ?_)
        refine cq_zret F hr (cq_zn (by rw [h_110.1]; split <;> simp)) (by decide) (by decide) dX2_readOrder_113 ⟨_, rfl, ?_⟩
        rw [hO, sw_22, show tw_k 3 (tx_s t len) P = tx_run (tx_s t len) P from rfl]
        unfold tx_run
        by_cases hz : (tx_n (tx_s t len) 200 P).1 = 0
        · rw [if_pos hz]
          exact ⟨by rw [h_110.1, if_pos hz]; rfl, h_110.2.1, fun z => absurd (show false = true from z) (by decide), hA.trans (h_110.2.2.2.A (by omega))⟩
        · rw [if_neg hz]
          exact ⟨by rw [h_110.1, if_neg hz]; rfl, h_110.2.1, fun _ => tc_reca.k3 (by rw [h_110.2.2.2 _ _ (by omega), hw3, sw_22]) (h_110.2.2.1 hz), hA.trans (h_110.2.2.2.A (by omega))⟩
    · have c_13 := cq_b0 h_10.1 c_13
      refine cq_iconst F (v := 0) dX2_readOrder_16 rfl ?_
      refine cq_zret F hr (by rfl) (by decide) (by decide) dX2_readOrder_17 ⟨_, rfl, ?_⟩
      rw [tx_ord_w, if_pos c_4, if_neg c_13]
      exact ⟨rfl, ⟨by have z := h_10.2.1.1; rwa [tx_t, if_neg c_13] at z, h_1.2.1.2⟩, fun z => absurd (show false = true from z) (by decide), (h_1.2.2.2.A (by omega)).trans h_10.2.2.A⟩
theorem hdVX2_readOrder : yX2_readOrder.cls = RX2 ∧ yX2_readOrder.cls ≠ "java/lang/invoke/MethodHandle" ∧ yX2_readOrder.cls ≠ "java/lang/invoke/VarHandle" ∧ (parseMethodDescriptor yX2_readOrder.desc).map (fun d => d.parameters.length) = some 0 := by decide +kernel
def tx_nx (s : Nat → Nat) (p : Nat) : tx_R := if p = 0 then tx_ord s 0 else if s p = 59 then tx_ord s (p + 1) else (false, p, tx_no)
abbrev rmX2_readNextOrder : Room := ({ frames := 7, cells := 0, slots := 0, locals := 149 })
set_option maxHeartbeats 4000000 in
set_option maxRecDepth 100000 in
theorem kX2_readNextOrder (l : Launch) (D : va_G) (cA : Nat → ClassId) (X : cq_X) (Bs : Nat) (a len p : Nat) (t : Nat → Nat) (M : cq_M) (ha : cq_isText X a) (hm : tc_M M a t len) (hlen : len ≤ 60) (hp : M a 2 = nI p) (hp9 : p ≤ 60) : cq_C l yX2_readNextOrder wsX2_readNextOrder rmX2_readNextOrder D cA X Bs [.ref a] M (cq_PI (fun r M1 => r = (if (tx_nx (tx_s t len) p).1 = true then 1 else 0) ∧ (M1 a 2 = nI (tx_nx (tx_s t len) p).2.1 ∧ (tx_nx (tx_s t len) p).2.1 ≤ 60) ∧ ((tx_nx (tx_s t len) p).1 = true → tc_reca M1 a (tx_nx (tx_s t len) p).2.2) ∧ tc_A M M1 a)) 0 0 := by
  refine cq_met (cc := cX2_readNextOrder) (maxL := 1) (ret := (some .boolean)) (by decide) rfl (Nat.le_of_ble_eq_true rfl) [(0, .ref a)] rfl rfl ?_
  intro p9 e9 s9 m9 b9 t9 c9 F hr
  have inX2 : ∀ w ∈ wsX20, w ∈ wsX2_readNextOrder := (fun w h => List.mem_cons_of_mem _ (List.mem_append_right _ h))
  refine cq_aload_n F (i := 0) dX2_readNextOrder_0 rfl rfl ?_
  refine cq_getI F (C := RX2) (T := TX2) (N := 10) (ci := 3) ha.kind rfl ⟨⟨by decide, by decide⟩, rfl⟩ inX2 2 (by decide) rfl rfl (F.1.2.2.2.2 _ (List.mem_of_getElem? (l := wsX2_readNextOrder) (i := 1) (a := .fieldLink RX2 23 "CordClock$OrderText" "at" "I") (by decide +kernel))) dX2_readNextOrder_1 ?_
  rw [show M a 2 = nI (p) from (show M a 2 = nI (p) from hp)]
  refine cq_if_eq F (tgt := 16) dX2_readNextOrder_4 (by decide) (fun c_4 => ?_) (fun c_4 => ?_)
  · have c_4 : p = 0 := (nI_b (a := p) (b := 0) (by omega) (by omega)).2.2.mp c_4
    refine cq_aload_n F (i := 0) dX2_readNextOrder_16 rfl rfl ?_
    refine cq_callV F (C := RX2) (ci := 3) (kX2_readOrder l D cA X Bs a len p t M ha hm hlen hp hp9) (cwV 0 F.1.2.2.2.2 gX2_readNextOrder_X2_readOrder rfl rfl rfl hdVX2_readOrder ⟨Nat.le_of_ble_eq_true rfl, Nat.le_of_ble_eq_true rfl⟩) ha.kind ⟨by decide, by decide⟩ rfl rfl rfl (Nat.le_of_ble_eq_true rfl) dX2_readNextOrder_17 ⟨Nat.le_of_ble_eq_true rfl, Nat.le_of_ble_eq_true rfl⟩ (cq_kI fun r_17 M_17 h_17 => ?_)
    refine cq_if_eq F (tgt := 27) dX2_readNextOrder_20 (by decide) (fun c_20 => ?_) (fun c_20 => ?_)
    · have c_20 := cq_b0 h_17.1 c_20
      refine cq_iconst F (v := 0) dX2_readNextOrder_27 rfl ?_
      refine cq_zret F hr (by rfl) (by decide) (by decide) dX2_readNextOrder_28 ⟨_, rfl, ?_⟩
      unfold tx_nx
      first
      | (rw [if_pos c_4]
         subst c_4
         exact ⟨by first | exact (if_pos c_20).symm | exact (if_neg c_20).symm, h_17.2.1, h_17.2.2.1, h_17.2.2.2⟩)
      | (rw [if_neg c_4, if_pos c_13]
         exact ⟨by first | exact (if_pos c_20).symm | exact (if_neg c_20).symm, h_17.2.1, h_17.2.2.1, h_10.2.2.A.trans h_17.2.2.2⟩)
    · have c_20 := cq_b1 h_17.1 c_20
      refine cq_iconst F (v := 1) dX2_readNextOrder_23 rfl ?_
      refine cq_goto F (tgt := 28) dX2_readNextOrder_24 (by decide) ?_
      refine cq_zret F hr (by rfl) (by decide) (by decide) dX2_readNextOrder_28 ⟨_, rfl, ?_⟩
      unfold tx_nx
      first
      | (rw [if_pos c_4]
         subst c_4
         exact ⟨by first | exact (if_pos c_20).symm | exact (if_neg c_20).symm, h_17.2.1, h_17.2.2.1, h_17.2.2.2⟩)
      | (rw [if_neg c_4, if_pos c_13]
         exact ⟨by first | exact (if_pos c_20).symm | exact (if_neg c_20).symm, h_17.2.1, h_17.2.2.1, h_10.2.2.A.trans h_17.2.2.2⟩)
  · have c_4 : ¬ p = 0 := fun z => c_4 ((nI_b (a := p) (b := 0) (by omega) (by omega)).2.2.mpr z)
    refine cq_aload_n F (i := 0) dX2_readNextOrder_7 rfl rfl ?_
    refine cq_bipush F (v := 59) dX2_readNextOrder_8 (by decide) ?_
    refine cq_callV F (C := RX2) (ci := 3) (kX2_take l D cA X Bs a len p t 59 M ha hm hlen hp hp9 (by decide)) (cwV 1 F.1.2.2.2.2 gX2_readNextOrder_X2_take rfl rfl rfl hdVX2_take ⟨Nat.le_of_ble_eq_true rfl, Nat.le_of_ble_eq_true rfl⟩) ha.kind ⟨by decide, by decide⟩ rfl rfl rfl (Nat.le_of_ble_eq_true rfl) dX2_readNextOrder_10 ⟨Nat.le_of_ble_eq_true rfl, Nat.le_of_ble_eq_true rfl⟩ (cq_kI fun r_10 M_10 h_10 => ?_)
    refine cq_if_eq F (tgt := 27) dX2_readNextOrder_13 (by decide) (fun c_13 => ?_) (fun c_13 => ?_)
    · have c_13 := cq_b0 h_10.1 c_13
      refine cq_iconst F (v := 0) dX2_readNextOrder_27 rfl ?_
      refine cq_zret F hr (by rfl) (by decide) (by decide) dX2_readNextOrder_28 ⟨_, rfl, ?_⟩
      unfold tx_nx
      rw [if_neg c_4, if_neg c_13]
      exact ⟨rfl, ⟨by have z := h_10.2.1.1; rwa [tx_t, if_neg c_13] at z, hp9⟩, fun z => absurd (show false = true from z) (by decide), h_10.2.2.A⟩
    · have c_13 := cq_b1 h_10.1 c_13
      refine cq_aload_n F (i := 0) dX2_readNextOrder_16 rfl rfl ?_
      refine cq_callV F (C := RX2) (ci := 3) (kX2_readOrder l D cA X Bs a len (p + 1) t M_10 ha (h_10.2.2.m hm) hlen (by have z := h_10.2.1.1; rwa [tx_t, if_pos c_13] at z) (by have z := h_10.2.1.2; rwa [tx_t, if_pos c_13] at z)) (cwV 0 F.1.2.2.2.2 gX2_readNextOrder_X2_readOrder rfl rfl rfl hdVX2_readOrder ⟨Nat.le_of_ble_eq_true rfl, Nat.le_of_ble_eq_true rfl⟩) ha.kind ⟨by decide, by decide⟩ rfl rfl rfl (Nat.le_of_ble_eq_true rfl) dX2_readNextOrder_17 ⟨Nat.le_of_ble_eq_true rfl, Nat.le_of_ble_eq_true rfl⟩ (cq_kI fun r_17 M_17 h_17 => ?_)
      refine cq_if_eq F (tgt := 27) dX2_readNextOrder_20 (by decide) (fun c_20 => ?_) (fun c_20 => ?_)
      · have c_20 := cq_b0 h_17.1 c_20
        refine cq_iconst F (v := 0) dX2_readNextOrder_27 rfl ?_
        refine cq_zret F hr (by rfl) (by decide) (by decide) dX2_readNextOrder_28 ⟨_, rfl, ?_⟩
        unfold tx_nx
        first
        | (rw [if_pos c_4]
           subst c_4
           exact ⟨by first | exact (if_pos c_20).symm | exact (if_neg c_20).symm, h_17.2.1, h_17.2.2.1, h_17.2.2.2⟩)
        | (rw [if_neg c_4, if_pos c_13]
           exact ⟨by first | exact (if_pos c_20).symm | exact (if_neg c_20).symm, h_17.2.1, h_17.2.2.1, h_10.2.2.A.trans h_17.2.2.2⟩)
      · have c_20 := cq_b1 h_17.1 c_20
        refine cq_iconst F (v := 1) dX2_readNextOrder_23 rfl ?_
        refine cq_goto F (tgt := 28) dX2_readNextOrder_24 (by decide) ?_
        refine cq_zret F hr (by rfl) (by decide) (by decide) dX2_readNextOrder_28 ⟨_, rfl, ?_⟩
        unfold tx_nx
        first
        | (rw [if_pos c_4]
           subst c_4
           exact ⟨by first | exact (if_pos c_20).symm | exact (if_neg c_20).symm, h_17.2.1, h_17.2.2.1, h_17.2.2.2⟩)
        | (rw [if_neg c_4, if_pos c_13]
           exact ⟨by first | exact (if_pos c_20).symm | exact (if_neg c_20).symm, h_17.2.1, h_17.2.2.1, h_10.2.2.A.trans h_17.2.2.2⟩)
theorem hdVX2_readNextOrder : yX2_readNextOrder.cls = RX2 ∧ yX2_readNextOrder.cls ≠ "java/lang/invoke/MethodHandle" ∧ yX2_readNextOrder.cls ≠ "java/lang/invoke/VarHandle" ∧ (parseMethodDescriptor yX2_readNextOrder.desc).map (fun d => d.parameters.length) = some 0 := by decide +kernel
