/-! the class: the reader of times -/
/-- the place, the number of times and the times are changed -/
def tc_T (M M1 : cq_M) (a : Nat) : Prop := ∀ x j, x ≠ a + 2 → ¬ (x = a ∧ (j = 2 ∨ j = 5)) → M1 x j = M x j
theorem tc_T.two {M M1 M2 : cq_M} {a : Nat} (h : tc_T M M1 a) (h2 : tc_2 M1 M2 a) : tc_T M M2 a := fun x j x2 z => by rw [h2 x j (fun y => z ⟨y.1, Or.inl y.2⟩), h x j x2 z]
theorem tc_T.five {M M1 M2 : cq_M} {a : Nat} {v : Int32} (h : tc_T M M1 a) (h2 : M2 = cq_up M1 a 5 v) : tc_T M M2 a := fun x j x2 z => by
  rw [h2]
  by_cases e : x = a
  · subst e; rw [cq_up_k (fun y => z ⟨rfl, Or.inr y⟩)]; exact h _ j x2 z
  · rw [cq_up_a e]; exact h x j x2 z
theorem tc_T.row {M M1 M2 : cq_M} {a k : Nat} {v : Int32} (h : tc_T M M1 a) (h2 : M2 = cq_up M1 (a + 2) k v) : tc_T M M2 a := fun x j x2 z => by
  rw [h2, cq_up_a x2]; exact h x j x2 z
theorem tc_T.m {M M1 : cq_M} {a len : Nat} {t : Nat → Nat} (h : tc_T M M1 a) (hm : tc_M M a t len) : tc_M M1 a t len := ⟨by rw [h _ _ (by omega) (by omega)]; exact hm.1, fun j hj => by rw [h _ _ (by omega) (by omega)]; exact hm.2.1 j hj, hm.2.2⟩
/-- i times are read, the next begins at P -/
def tc_S (s : Nat → Nat) (p0 i P : Nat) (pre : List Nat) : Prop := i < 6 ∧ tx_mg s 6 p0 = ((tx_mg s (6 - i) P).1, (tx_mg s (6 - i) P).2.1, pre ++ (tx_mg s (6 - i) P).2.2)
/-- i times are read up to q -/
def tc_C (s : Nat → Nat) (p0 i q : Nat) (pre : List Nat) : Prop := (i = 0 ∧ q = p0 ∧ pre = []) ∨ ((1 ≤ i ∧ i ≤ 6) ∧ tx_mg s 6 p0 = if 6 ≤ i ∨ s q ≠ 46 then (true, q, pre) else ((tx_mg s (6 - i) (q + 1)).1, (tx_mg s (6 - i) (q + 1)).2.1, pre ++ (tx_mg s (6 - i) (q + 1)).2.2))
theorem tc_C.first {s : Nat → Nat} {p0 i q : Nat} {pre : List Nat} (h : tc_C s p0 i q pre) (hi : i = 0) : tc_S s p0 i q pre := by
  rcases h with ⟨h1, h2, h3⟩ | ⟨h1, -⟩
  · subst h1 h2 h3; exact ⟨by omega, rfl⟩
  · omega
theorem tc_C.go {s : Nat → Nat} {p0 i q : Nat} {pre : List Nat} (h : tc_C s p0 i q pre) (hi : 1 ≤ i) (h6 : i < 6) (h46 : s q = 46) : tc_S s p0 i (q + 1) pre := by
  rcases h with ⟨h1, -⟩ | ⟨-, h2⟩
  · omega
  · rw [if_neg (fun z => by rcases z with z | z; omega; exact z h46)] at h2
    exact ⟨h6, h2⟩
theorem tc_C.stop {s : Nat → Nat} {p0 i q : Nat} {pre : List Nat} (h : tc_C s p0 i q pre) (hi : 1 ≤ i) (h6 : 6 ≤ i ∨ s q ≠ 46) : tx_mg s 6 p0 = (true, q, pre) := by
  rcases h with ⟨h1, -⟩ | ⟨-, h2⟩
  · omega
  · rwa [if_pos h6] at h2
theorem tc_S.bad {s : Nat → Nat} {p0 i P : Nat} {pre : List Nat} (h : tc_S s p0 i P pre) (hn : (tx_n s 60 P).1 = 0) : tx_mg s 6 p0 = (false, (tx_n s 60 P).2, pre ++ []) := by
  obtain ⟨h1, h2⟩ := h
  rwa [show 6 - i = 6 - (i + 1) + 1 by omega, tx_mg_0 hn] at h2
theorem tc_S.next {s : Nat → Nat} {p0 i P : Nat} {pre : List Nat} (h : tc_S s p0 i P pre) (hn : ¬ (tx_n s 60 P).1 = 0) : tc_C s p0 (i + 1) (tx_n s 60 P).2 (pre ++ [(tx_n s 60 P).1]) := by
  obtain ⟨h1, h2⟩ := h
  rw [show 6 - i = 6 - (i + 1) + 1 by omega] at h2
  refine Or.inr ⟨by omega, ?_⟩
  by_cases e : 6 ≤ i + 1 ∨ s (tx_n s 60 P).2 ≠ 46
  · rw [if_pos e]
    rw [tx_mg_1 hn (by rcases e with z | z; exact Or.inl (by omega); exact Or.inr z)] at h2
    exact h2
  · rw [if_neg e]
    rw [tx_mg_2 hn (fun z => e (by rcases z with z | z; exact Or.inl (by omega); exact Or.inr z))] at h2
    rw [h2, List.append_assoc]
    rfl
abbrev rmX2_readTimes : Room := ({ frames := 2, cells := 0, slots := 0, locals := 47 })
set_option maxHeartbeats 4000000 in
set_option maxRecDepth 100000 in
theorem kX2_readTimes (l : Launch) (D : va_G) (cA : Nat → ClassId) (X : cq_X) (Bs : Nat) (a len p : Nat) (t : Nat → Nat) (M : cq_M) (ha : cq_isText X a) (hm : tc_M M a t len) (hlen : len ≤ 60) (hp : M a 2 = nI p) (hp9 : p ≤ 60) : cq_C l yX2_readTimes wsX2_readTimes rmX2_readTimes D cA X Bs [.ref a] M (cq_PI (fun r M1 => r = (if (tx_mg (tx_s t len) 6 p).1 = true then 1 else 0) ∧ (M1 a 2 = nI (tx_mg (tx_s t len) 6 p).2.1 ∧ (tx_mg (tx_s t len) 6 p).2.1 ≤ 60) ∧ ((tx_mg (tx_s t len) 6 p).1 = true → M1 a 5 = nI (tx_mg (tx_s t len) 6 p).2.2.length ∧ ∀ j, j < (tx_mg (tx_s t len) 6 p).2.2.length → M1 (a + 2) j = nI ((tx_mg (tx_s t len) 6 p).2.2.getD j 0)) ∧ tc_T M M1 a)) 0 0 := by
  refine cq_met (cc := cX2_readTimes) (maxL := 3) (ret := (some .boolean)) (by decide) rfl (Nat.le_of_ble_eq_true rfl) [(0, .ref a)] rfl rfl ?_
  intro p9 e9 s9 m9 b9 t9 c9 F hr
  have inX2 : ∀ w ∈ wsX20, w ∈ wsX2_readTimes := (fun w h => List.mem_cons_of_mem _ (List.mem_append_right _ h))
  have loop_7 : ∀ (n_7 : Nat) (i q : Nat) (pre : List Nat) (M2 : cq_M), i ≤ 6 → tc_C (tx_s t len) p i q pre → M2 a 2 = nI q → q ≤ 60 → M2 a 5 = nI i → pre.length = i → (∀ j, j < i → M2 (a + 2) j = nI (pre.getD j 0)) → tc_T M M2 a → 7 - i < n_7 → cq_V p9 l e9 rmX2_readTimes s9 m9 ([.ref a] : List Value).toArray b9 t9 c9 D cA X Bs 3 0 0 (MQ b9 (cq_Q D cA X Bs (cq_PI (fun r M1 => r = (if (tx_mg (tx_s t len) 6 p).1 = true then 1 else 0) ∧ (M1 a 2 = nI (tx_mg (tx_s t len) 6 p).2.1 ∧ (tx_mg (tx_s t len) 6 p).2.1 ≤ 60) ∧ ((tx_mg (tx_s t len) 6 p).1 = true → M1 a 5 = nI (tx_mg (tx_s t len) 6 p).2.2.length ∧ ∀ j, j < (tx_mg (tx_s t len) 6 p).2.2.length → M1 (a + 2) j = nI ((tx_mg (tx_s t len) 6 p).2.2.getD j 0)) ∧ tc_T M M1 a))) ([.ref a] : List Value).toArray s9 0 0 (cq_A Bs)) 7 [(0, .ref a), (1, .int (nI i))] [] M2 := by
    intro n_7
    induction n_7 with
    | zero =>
      intros
      omega
    | succ n_7 ih_7 =>
      intro i q pre M2 hi6 hC h2 hq9 h5 hpl hrow hT hn
      refine cq_iload_n F (i := 1) dX2_readTimes_7 rfl rfl ?_
      refine cq_bipush F (v := 6) dX2_readTimes_8 (by decide) ?_
      refine cq_icmp_ge F (tgt := 65) dX2_readTimes_10 (by decide) (fun c_10 => ?_) (fun c_10 => ?_)
      · have c_10 : 6 ≤ i := (nI_b (a := 6) (b := i) (by omega) (by omega)).1.mp c_10
        refine cq_iconst F (v := 1) dX2_readTimes_65 rfl ?_
        refine cq_zret F hr (by rfl) (by decide) (by decide) dX2_readTimes_66 ⟨_, rfl, ?_⟩
        rw [hC.stop (by omega) (Or.inl (by omega))]
        subst hpl
        exact ⟨rfl, ⟨h2, hq9⟩, fun _ => ⟨h5, hrow⟩, hT⟩
      · have c_10 : ¬ 6 ≤ i := fun z => c_10 ((nI_b (a := 6) (b := i) (by omega) (by omega)).1.mpr z)
        refine cq_iload_n F (i := 1) dX2_readTimes_13 rfl rfl ?_
        refine cq_if_le F (tgt := 28) dX2_readTimes_14 (by decide) (fun c_14 => ?_) (fun c_14 => ?_)
        · have c_14 : i ≤ 0 := (nI_b (a := i) (b := 0) (by omega) (by omega)).1.mp c_14
          obtain ⟨P, hPS, hP2, hPl, hT9, h59, hr9⟩ : ∃ P, tc_S (tx_s t len) p i P pre ∧ M2 a 2 = nI P ∧ P ≤ 60 ∧ tc_T M M2 a ∧ M2 a 5 = nI i ∧ ∀ j, j < i → M2 (a + 2) j = nI (pre.getD j 0) := ⟨q, (hC.first (by omega)), h2, hq9, hT, h5, hrow⟩
          refine cq_aload_n F (i := 0) dX2_readTimes_28 rfl rfl ?_
          refine cq_bipush F (v := 60) dX2_readTimes_29 (by decide) ?_
          refine cq_callV F (C := RX2) (ci := 3) (kX2_readNumber l D cA X Bs a len P 60 t M2 ha (hT9.m hm) hlen hP2 hPl (by omega)) (cwV 1 F.1.2.2.2.2 gX2_readTimes_X2_readNumber rfl rfl rfl hdVX2_readNumber ⟨Nat.le_of_ble_eq_true rfl, Nat.le_of_ble_eq_true rfl⟩) ha.kind ⟨by decide, by decide⟩ rfl rfl rfl (Nat.le_of_ble_eq_true rfl) dX2_readTimes_31 ⟨Nat.le_of_ble_eq_true rfl, Nat.le_of_ble_eq_true rfl⟩ (cq_kI fun r_31 M_31 h_31 => ?_)
          refine cq_nmi (fun x_34 e_34 => ?_)
          refine cq_istore_n F (i := 2) dX2_readTimes_34 rfl (by decide) ?_
          refine cq_iload_n F (i := 2) dX2_readTimes_35 rfl rfl ?_
          refine cq_iconst F (v := (-1)) dX2_readTimes_36 rfl ?_
          refine cq_icmp_ne F (tgt := 42) dX2_readTimes_37 (by decide) (fun c_37 => ?_) (fun c_37 => ?_)
          · obtain ⟨hg_37, rfl⟩ : ¬ (tx_n (tx_s t len) 60 P).1 = 0 ∧ x_34 = nI (tx_n (tx_s t len) 60 P).1 := by
              have z1 := h_31.1
              rw [← e_34] at z1
              by_cases z2 : (tx_n (tx_s t len) 60 P).1 = 0
              · rw [if_pos z2] at z1; exact absurd z1 c_37
              · rw [if_neg z2] at z1; exact ⟨z2, z1⟩
            refine cq_aload_n F (i := 0) dX2_readTimes_42 rfl rfl ?_
            refine cq_getT (t := (a + 2)) F (C := RX2) (T := TX2) (N := 10) (ci := 3) ha.kind rfl ⟨⟨by decide, by decide⟩, rfl⟩ inX2 4 (by decide) rfl rfl ha.t4 (F.1.2.2.2.2 _ (List.mem_of_getElem? (l := wsX2_readTimes) (i := 2) (a := .fieldLink RX2 15 "CordClock$OrderText" "times" "[I") (by decide +kernel))) dX2_readTimes_43 ?_
            refine cq_iload_n F (i := 1) dX2_readTimes_46 rfl rfl ?_
            refine cq_iload_n F (i := 2) dX2_readTimes_47 rfl rfl ?_
            refine cq_iast_j F (j := i) ha.k2 ha.n2 rfl ⟨(by omega), by decide⟩ dX2_readTimes_48 (fun M_48 h_48 => ?_)
            refine cq_aload_n F (i := 0) dX2_readTimes_49 rfl rfl ?_
            refine cq_dup F dX2_readTimes_50 rfl ?_
            refine cq_getI F (C := RX2) (T := TX2) (N := 10) (ci := 3) ha.kind rfl ⟨⟨by decide, by decide⟩, rfl⟩ inX2 5 (by decide) rfl rfl (F.1.2.2.2.2 _ (List.mem_of_getElem? (l := wsX2_readTimes) (i := 1) (a := .fieldLink RX2 80 "CordClock$OrderText" "timeCount" "I") (by decide +kernel))) dX2_readTimes_51 ?_
            rw [show M_48 a 5 = nI (i) from (show M_48 a 5 = nI (i) from (by rw [h_48, cq_up_a (by omega)]; exact (by rw [h_31.2.2 _ _ (by omega)]; exact h59)))]
            refine cq_iconst F (v := 1) dX2_readTimes_54 rfl ?_
            refine cq_iadd F dX2_readTimes_55 ?_
            rw [show (nI i + 1 : Int32) = nI (i + 1) from nI_add _ _]
            refine cq_put F (C := RX2) (T := TX2) (N := 10) (ci := 3) ha.kind rfl ⟨⟨by decide, by decide⟩, rfl⟩ inX2 tyX2 tyX2_ok nmX2 5 (by decide) rfl rfl (F.1.2.2.2.2 _ (List.mem_of_getElem? (l := wsX2_readTimes) (i := 1) (a := .fieldLink RX2 80 "CordClock$OrderText" "timeCount" "I") (by decide +kernel))) rfl (by rfl) (by rfl) dX2_readTimes_56 (fun M_56 h_56 => ?_)
            refine cq_iinc F dX2_readTimes_59 rfl (by decide) (fun x_59 e_59 => ?_)
            obtain rfl : x_59 = nI (i + 1) := by rw [e_59]; exact nI_1 _
            refine cq_goto F (tgt := 7) dX2_readTimes_62 (by decide) ?_
            refine cq_loc (L2 := [(0, .ref a), (1, .int (nI (i + 1)))]) rfl ?_
            exact ih_7 (i + 1) (tx_n (tx_s t len) 60 P).2 (pre ++ [(tx_n (tx_s t len) 60 P).1]) M_56 (by omega) (hPS.next hg_37) (by rw [h_56, cq_up_k (by omega), h_48, cq_up_a (by omega)]; exact h_31.2.1.1) h_31.2.1.2 (by rw [h_56]; exact cq_up_s _ _ _ _) (by rw [List.length_append, List.length_singleton, hpl]) (by
            have h9 := tm_pre (pre := pre) (f := fun j => M_56 (a + 2) j) (n := (tx_n (tx_s t len) 60 P).1) (fun j hj => by show M_56 _ _ = _; rw [h_56, cq_up_a (by omega), h_48, cq_up_k (by omega), h_31.2.2 _ _ (by omega)]; exact hr9 j (by omega)) (by show M_56 _ _ = _; rw [h_56, cq_up_a (by omega), h_48, hpl]; exact cq_up_s _ _ _ _)
            intro j hj
            exact h9 j (by rw [List.length_append, List.length_singleton]; omega)) (((hT9.two h_31.2.2).row h_48).five h_56) (by omega)
          · have hg_37 : (tx_n (tx_s t len) 60 P).1 = 0 := by
              have z1 := h_31.1
              rw [← e_34, c_37] at z1
              by_cases z2 : (tx_n (tx_s t len) 60 P).1 = 0
              · exact z2
              · rw [if_neg z2] at z1
                have := tx_n_le (s := tx_s t len) (most := 60) (p := P)
                exact absurd z1.symm (nI_nm1 (by omega))
            refine cq_iconst F (v := 0) dX2_readTimes_40 rfl ?_
            refine cq_zret F hr (by rfl) (by decide) (by decide) dX2_readTimes_41 ⟨_, rfl, ?_⟩
            rw [hPS.bad hg_37]
            exact ⟨rfl, ⟨h_31.2.1.1, h_31.2.1.2⟩, fun z => absurd (show false = true from z) (by decide), hT9.two h_31.2.2⟩
        · have c_14 : ¬ i ≤ 0 := fun z => c_14 ((nI_b (a := i) (b := 0) (by omega) (by omega)).1.mpr z)
          refine cq_aload_n F (i := 0) dX2_readTimes_17 rfl rfl ?_
          refine cq_bipush F (v := 46) dX2_readTimes_18 (by decide) ?_
          refine cq_callV F (C := RX2) (ci := 3) (kX2_take l D cA X Bs a len (q) t 46 M2 ha (hT.m hm) hlen h2 hq9 (by decide)) (cwV 1 F.1.2.2.2.2 gX2_readTimes_X2_take rfl rfl rfl hdVX2_take ⟨Nat.le_of_ble_eq_true rfl, Nat.le_of_ble_eq_true rfl⟩) ha.kind ⟨by decide, by decide⟩ rfl rfl rfl (Nat.le_of_ble_eq_true rfl) dX2_readTimes_20 ⟨Nat.le_of_ble_eq_true rfl, Nat.le_of_ble_eq_true rfl⟩ (cq_kI fun r_20 M_20 h_20 => ?_)
          refine cq_if_ne F (tgt := 28) dX2_readTimes_23 (by decide) (fun c_23 => ?_) (fun c_23 => ?_)
          · have c_23 := cq_b1 h_20.1 c_23
            obtain ⟨P, hPS, hP2, hPl, hT9, h59, hr9⟩ : ∃ P, tc_S (tx_s t len) p i P pre ∧ M_20 a 2 = nI P ∧ P ≤ 60 ∧ tc_T M M_20 a ∧ M_20 a 5 = nI i ∧ ∀ j, j < i → M_20 (a + 2) j = nI (pre.getD j 0) := ⟨q + 1, (hC.go (by omega) (by omega) c_23), (by have z := h_20.2.1.1; rwa [tx_t, if_pos c_23] at z), (by have := hm.s q; omega), (hT.two h_20.2.2), (by rw [h_20.2.2 _ _ (by omega)]; exact h5), (fun j hj => by rw [h_20.2.2 _ _ (by omega)]; exact hrow j hj)⟩
            refine cq_aload_n F (i := 0) dX2_readTimes_28 rfl rfl ?_
            refine cq_bipush F (v := 60) dX2_readTimes_29 (by decide) ?_
            refine cq_callV F (C := RX2) (ci := 3) (kX2_readNumber l D cA X Bs a len P 60 t M_20 ha (hT9.m hm) hlen hP2 hPl (by omega)) (cwV 1 F.1.2.2.2.2 gX2_readTimes_X2_readNumber rfl rfl rfl hdVX2_readNumber ⟨Nat.le_of_ble_eq_true rfl, Nat.le_of_ble_eq_true rfl⟩) ha.kind ⟨by decide, by decide⟩ rfl rfl rfl (Nat.le_of_ble_eq_true rfl) dX2_readTimes_31 ⟨Nat.le_of_ble_eq_true rfl, Nat.le_of_ble_eq_true rfl⟩ (cq_kI fun r_31 M_31 h_31 => ?_)
            refine cq_nmi (fun x_34 e_34 => ?_)
            refine cq_istore_n F (i := 2) dX2_readTimes_34 rfl (by decide) ?_
            refine cq_iload_n F (i := 2) dX2_readTimes_35 rfl rfl ?_
            refine cq_iconst F (v := (-1)) dX2_readTimes_36 rfl ?_
            refine cq_icmp_ne F (tgt := 42) dX2_readTimes_37 (by decide) (fun c_37 => ?_) (fun c_37 => ?_)
            · obtain ⟨hg_37, rfl⟩ : ¬ (tx_n (tx_s t len) 60 P).1 = 0 ∧ x_34 = nI (tx_n (tx_s t len) 60 P).1 := by
                have z1 := h_31.1
                rw [← e_34] at z1
                by_cases z2 : (tx_n (tx_s t len) 60 P).1 = 0
                · rw [if_pos z2] at z1; exact absurd z1 c_37
                · rw [if_neg z2] at z1; exact ⟨z2, z1⟩
              refine cq_aload_n F (i := 0) dX2_readTimes_42 rfl rfl ?_
              refine cq_getT (t := (a + 2)) F (C := RX2) (T := TX2) (N := 10) (ci := 3) ha.kind rfl ⟨⟨by decide, by decide⟩, rfl⟩ inX2 4 (by decide) rfl rfl ha.t4 (F.1.2.2.2.2 _ (List.mem_of_getElem? (l := wsX2_readTimes) (i := 2) (a := .fieldLink RX2 15 "CordClock$OrderText" "times" "[I") (by decide +kernel))) dX2_readTimes_43 ?_
              refine cq_iload_n F (i := 1) dX2_readTimes_46 rfl rfl ?_
              refine cq_iload_n F (i := 2) dX2_readTimes_47 rfl rfl ?_
              refine cq_iast_j F (j := i) ha.k2 ha.n2 rfl ⟨(by omega), by decide⟩ dX2_readTimes_48 (fun M_48 h_48 => ?_)
              refine cq_aload_n F (i := 0) dX2_readTimes_49 rfl rfl ?_
              refine cq_dup F dX2_readTimes_50 rfl ?_
              refine cq_getI F (C := RX2) (T := TX2) (N := 10) (ci := 3) ha.kind rfl ⟨⟨by decide, by decide⟩, rfl⟩ inX2 5 (by decide) rfl rfl (F.1.2.2.2.2 _ (List.mem_of_getElem? (l := wsX2_readTimes) (i := 1) (a := .fieldLink RX2 80 "CordClock$OrderText" "timeCount" "I") (by decide +kernel))) dX2_readTimes_51 ?_
              rw [show M_48 a 5 = nI (i) from (show M_48 a 5 = nI (i) from (by rw [h_48, cq_up_a (by omega)]; exact (by rw [h_31.2.2 _ _ (by omega)]; exact h59)))]
              refine cq_iconst F (v := 1) dX2_readTimes_54 rfl ?_
              refine cq_iadd F dX2_readTimes_55 ?_
              rw [show (nI i + 1 : Int32) = nI (i + 1) from nI_add _ _]
              refine cq_put F (C := RX2) (T := TX2) (N := 10) (ci := 3) ha.kind rfl ⟨⟨by decide, by decide⟩, rfl⟩ inX2 tyX2 tyX2_ok nmX2 5 (by decide) rfl rfl (F.1.2.2.2.2 _ (List.mem_of_getElem? (l := wsX2_readTimes) (i := 1) (a := .fieldLink RX2 80 "CordClock$OrderText" "timeCount" "I") (by decide +kernel))) rfl (by rfl) (by rfl) dX2_readTimes_56 (fun M_56 h_56 => ?_)
              refine cq_iinc F dX2_readTimes_59 rfl (by decide) (fun x_59 e_59 => ?_)
              obtain rfl : x_59 = nI (i + 1) := by rw [e_59]; exact nI_1 _
              refine cq_goto F (tgt := 7) dX2_readTimes_62 (by decide) ?_
              refine cq_loc (L2 := [(0, .ref a), (1, .int (nI (i + 1)))]) rfl ?_
              exact ih_7 (i + 1) (tx_n (tx_s t len) 60 P).2 (pre ++ [(tx_n (tx_s t len) 60 P).1]) M_56 (by omega) (hPS.next hg_37) (by rw [h_56, cq_up_k (by omega), h_48, cq_up_a (by omega)]; exact h_31.2.1.1) h_31.2.1.2 (by rw [h_56]; exact cq_up_s _ _ _ _) (by rw [List.length_append, List.length_singleton, hpl]) (by
            have h9 := tm_pre (pre := pre) (f := fun j => M_56 (a + 2) j) (n := (tx_n (tx_s t len) 60 P).1) (fun j hj => by show M_56 _ _ = _; rw [h_56, cq_up_a (by omega), h_48, cq_up_k (by omega), h_31.2.2 _ _ (by omega)]; exact hr9 j (by omega)) (by show M_56 _ _ = _; rw [h_56, cq_up_a (by omega), h_48, hpl]; exact cq_up_s _ _ _ _)
            intro j hj
            exact h9 j (by rw [List.length_append, List.length_singleton]; omega)) (((hT9.two h_31.2.2).row h_48).five h_56) (by omega)
            · have hg_37 : (tx_n (tx_s t len) 60 P).1 = 0 := by
                have z1 := h_31.1
                rw [← e_34, c_37] at z1
                by_cases z2 : (tx_n (tx_s t len) 60 P).1 = 0
                · exact z2
                · rw [if_neg z2] at z1
                  have := tx_n_le (s := tx_s t len) (most := 60) (p := P)
                  exact absurd z1.symm (nI_nm1 (by omega))
              refine cq_iconst F (v := 0) dX2_readTimes_40 rfl ?_
              refine cq_zret F hr (by rfl) (by decide) (by decide) dX2_readTimes_41 ⟨_, rfl, ?_⟩
              rw [hPS.bad hg_37]
              exact ⟨rfl, ⟨h_31.2.1.1, h_31.2.1.2⟩, fun z => absurd (show false = true from z) (by decide), hT9.two h_31.2.2⟩
          · have c_23 := cq_b0 h_20.1 c_23
            refine cq_iconst F (v := 1) dX2_readTimes_26 rfl ?_
            refine cq_zret F hr (by rfl) (by decide) (by decide) dX2_readTimes_27 ⟨_, rfl, ?_⟩
            rw [hC.stop (by omega) (Or.inr c_23)]
            subst hpl
            exact ⟨rfl, ⟨by have z := h_20.2.1.1; rwa [tx_t, if_neg c_23] at z, hq9⟩, fun _ => ⟨by rw [h_20.2.2 _ _ (by omega)]; exact h5, fun j hj => by rw [h_20.2.2 _ _ (by omega)]; exact hrow j hj⟩, hT.two h_20.2.2⟩
  refine cq_aload_n F (i := 0) dX2_readTimes_0 rfl rfl ?_
  refine cq_iconst F (v := 0) dX2_readTimes_1 rfl ?_
  refine cq_put F (C := RX2) (T := TX2) (N := 10) (ci := 3) ha.kind rfl ⟨⟨by decide, by decide⟩, rfl⟩ inX2 tyX2 tyX2_ok nmX2 5 (by decide) rfl rfl (F.1.2.2.2.2 _ (List.mem_of_getElem? (l := wsX2_readTimes) (i := 1) (a := .fieldLink RX2 80 "CordClock$OrderText" "timeCount" "I") (by decide +kernel))) rfl (by rfl) (by rfl) dX2_readTimes_2 (fun M_2 h_2 => ?_)
  refine cq_iconst F (v := 0) dX2_readTimes_5 rfl ?_
  refine cq_istore_n F (i := 1) dX2_readTimes_6 rfl (by decide) ?_
  refine cq_loc (L2 := [(0, .ref a), (1, .int (nI 0))]) rfl ?_
  exact loop_7 8 0 p [] M_2 (by omega) (Or.inl ⟨rfl, rfl, rfl⟩) (by rw [h_2, cq_up_k (by omega)]; exact hp) hp9 (by rw [h_2]; exact cq_up_s _ _ _ _) rfl (fun j hj => absurd hj (by omega)) (tc_T.five (fun _ _ _ _ => rfl) h_2) (by omega)
theorem hdVX2_readTimes : yX2_readTimes.cls = RX2 ∧ yX2_readTimes.cls ≠ "java/lang/invoke/MethodHandle" ∧ yX2_readTimes.cls ≠ "java/lang/invoke/VarHandle" ∧ (parseMethodDescriptor yX2_readTimes.desc).map (fun d => d.parameters.length) = some 0 := by decide +kernel
