/-! the class: the whole buffer; firstError, execute -/
theorem tx_ng_last {s : Nat → Nat} {most : Nat} : ∀ {f n p : Nat}, (tx_ng s most f n p).2 = p ∨ (p < (tx_ng s most f n p).2 ∧ 48 ≤ s ((tx_ng s most f n p).2 - 1))
  | 0, n, p => Or.inl rfl
  | f + 1, n, p => by
    rw [tx_ng]
    by_cases h : tx_d s most n p
    · rw [if_pos h]
      have h1 : 48 ≤ s p := by
        have := h.1.1
        split at this <;> omega
      rcases tx_ng_last (s := s) (most := most) (f := f) (n := 10 * n + s p - 48) (p := p + 1) with e | e
      · rw [e]
        exact Or.inr ⟨by omega, by rw [Nat.add_sub_cancel]; exact h1⟩
      · exact Or.inr ⟨by omega, e.2⟩
    · rw [if_neg h]
      exact Or.inl rfl
theorem tx_n_last {s : Nat → Nat} {most p : Nat} (h : (tx_n s most p).1 ≠ 0) : 48 ≤ s ((tx_n s most p).2 - 1) := by
  have h1 := tx_n_ok h
  have h2 := tx_ng_last (s := s) (most := most) (f := 3) (n := 0) (p := p)
  unfold tx_n at h1 ⊢
  omega
theorem tx_mg_last {s : Nat → Nat} : ∀ {f p : Nat}, (tx_mg s (f + 1) p).1 = true → 48 ≤ s ((tx_mg s (f + 1) p).2.1 - 1)
  | f, p, h => by
    by_cases hn : (tx_n s 60 p).1 = 0
    · rw [tx_mg_0 hn] at h
      exact tx_ff h
    · by_cases e : f = 0 ∨ s (tx_n s 60 p).2 ≠ 46
      · rw [tx_mg_1 hn e]
        exact tx_n_last hn
      · rw [tx_mg_2 hn e] at h ⊢
        cases f with
        | zero => exact absurd (Or.inl rfl) e
        | succ f => exact tx_mg_last (f := f) h
theorem tx_side_last {s : Nat → Nat} {p : Nat} (h : (tx_side s p).1 = true) : 48 ≤ s ((tx_side s p).2.1 - 1) := by
  unfold tx_side at h ⊢
  by_cases h1 : s p = 76
  · rw [if_pos h1]
    show 48 ≤ s (p + 1 - 1)
    rw [Nat.add_sub_cancel]
    omega
  · rw [if_neg h1] at h ⊢
    by_cases h2 : s p = 82
    · rw [if_pos h2]
      show 48 ≤ s (p + 1 - 1)
      rw [Nat.add_sub_cancel]
      omega
    · rw [if_neg h2] at h
      exact tx_ff h
theorem tx_ord_last {s : Nat → Nat} {p : Nat} (h : (tx_ord s p).1 = true) : 48 ≤ s ((tx_ord s p).2.1 - 1) := by
  rw [tx_ord_w] at h ⊢
  by_cases e : (tx_lw s p).1 = true
  · rw [if_pos e] at h ⊢
    by_cases e2 : s (tx_lw s p).2 = 58
    · rw [if_pos e2] at h ⊢
      have h4 := tx_lw_lt e
      generalize (tx_lw s p).2 + 1 = P at h ⊢
      generalize tw_i s p = w at h h4 ⊢
      have h9 : w = 0 ∨ w = 1 ∨ w = 2 ∨ w = 3 := by omega
      rcases h9 with rfl | rfl | rfl | rfl
      · have h1 : (tx_new s P).1 = true := h
        show 48 ≤ s ((tx_new s P).2.1 - 1)
        rw [tx_nw.1] at h1
        rw [tx_nw.2.1]
        exact tx_mg_last h1
      · have h1 : (tx_lit s P).1 = true := h
        show 48 ≤ s ((tx_lit s P).2.1 - 1)
        unfold tx_lit at h1 ⊢
        by_cases c : tx_cd s P
        · rw [if_pos c] at h1 ⊢
          exact tx_side_last h1
        · rw [if_neg c] at h1
          exact tx_ff h1
      · have h1 : (tx_when s P).1 = true := h
        show 48 ≤ s ((tx_when s P).2.1 - 1)
        unfold tx_when at h1 ⊢
        by_cases c : tx_cd s P
        · rw [if_pos c] at h1 ⊢
          by_cases c2 : s (P + 1) = 44
          · rw [if_pos c2] at h1 ⊢
            by_cases c3 : tx_cd s (P + 2)
            · rw [if_pos c3] at h1 ⊢
              exact tx_side_last h1
            · rw [if_neg c3] at h1
              exact tx_ff h1
          · rw [if_neg c2] at h1
            exact tx_ff h1
        · rw [if_neg c] at h1
          exact tx_ff h1
      · have h1 : (tx_run s P).1 = true := h
        show 48 ≤ s ((tx_run s P).2.1 - 1)
        unfold tx_run at h1 ⊢
        by_cases c : (tx_n s 200 P).1 = 0
        · rw [if_pos c] at h1
          exact tx_ff h1
        · rw [if_neg c]
          exact tx_n_last c
    · rw [if_neg e2] at h
      exact tx_ff h
  · rw [if_neg e] at h
    exact tx_ff h
theorem tx_ord_len {t : Nat → Nat} {len p : Nat} (h : (tx_ord (tx_s t len) p).1 = true) : p + 5 ≤ (tx_ord (tx_s t len) p).2.1 ∧ (tx_ord (tx_s t len) p).2.1 ≤ len := by
  have h1 := tx_ord_last h
  have h2 := (tx_ord_ok h).1
  refine ⟨h2, ?_⟩
  by_cases e : (tx_ord (tx_s t len) p).2.1 - 1 < len
  · omega
  · rw [show tx_s t len ((tx_ord (tx_s t len) p).2.1 - 1) = 0 from if_neg e] at h1
    omega
/-- behind an order: the next one, if there is a semicolon -/
def tx_go (s : Nat → Nat) (f q : Nat) : Bool × Nat × List tx_O := if s q = 59 then tx_all s f (q + 1) else (true, q, [])
theorem tx_all_go {s : Nat → Nat} {f p : Nat} : tx_all s (f + 1) p = if (tx_ord s p).1 = true then ((tx_go s f (tx_ord s p).2.1).1, (tx_go s f (tx_ord s p).2.1).2.1, (tx_ord s p).2.2 :: (tx_go s f (tx_ord s p).2.1).2.2) else (false, (tx_ord s p).2.1, []) := by
  rw [tx_all]
  by_cases h : (tx_ord s p).1 = true
  · rw [if_pos h, if_pos h]
    unfold tx_go
    by_cases h2 : s (tx_ord s p).2.1 = 59
    · rw [if_pos h2, if_pos h2]
    · rw [if_neg h2, if_neg h2]
  · rw [if_neg h, if_neg h]
/-- i orders are read, the reader stands at q -/
def tr_I (s : Nat → Nat) (i q : Nat) : Prop := (i = 0 ∧ q = 0) ∨ ((1 ≤ i ∧ 6 * i ≤ q + 1) ∧ (tx_all s 16 0).1 = (tx_go s (16 - i) q).1 ∧ (tx_all s 16 0).2.1 = (tx_go s (16 - i) q).2.1)
theorem tr_I.no {s : Nat → Nat} {i q : Nat} (h : tr_I s i q) (hi : i ≤ 10) (hn : ¬ (tx_nx s q).1 = true) : (tx_all s 16 0).2.1 = (tx_nx s q).2.1 ∧ ((tx_all s 16 0).1 = true → 1 ≤ i ∧ (tx_all s 16 0).2.1 = q) := by
  rcases h with ⟨rfl, rfl⟩ | ⟨⟨h1, h6⟩, h2, h3⟩
  · have e : tx_nx s 0 = tx_ord s 0 := if_pos rfl
    rw [e] at hn ⊢
    rw [tx_all_go, if_neg hn]
    exact ⟨rfl, fun z => tx_ff z⟩
  · rw [h2, h3]
    unfold tx_nx at hn ⊢
    unfold tx_go
    rw [if_neg (show ¬ q = 0 by omega)] at hn ⊢
    by_cases c : s q = 59
    · rw [if_pos c] at hn ⊢
      rw [if_pos c, show 16 - i = 15 - i + 1 by omega, tx_all_go, if_neg hn]
      exact ⟨rfl, fun z => tx_ff z⟩
    · rw [if_neg c, if_neg c]
      exact ⟨rfl, fun _ => ⟨h1, rfl⟩⟩
theorem tr_I.go {t : Nat → Nat} {len i q : Nat} (h : tr_I (tx_s t len) i q) (hi : i ≤ 10) (hn : (tx_nx (tx_s t len) q).1 = true) : tr_I (tx_s t len) (i + 1) (tx_nx (tx_s t len) q).2.1 ∧ (tx_nx (tx_s t len) q).2.1 ≤ len := by
  rcases h with ⟨rfl, rfl⟩ | ⟨⟨h1, h6⟩, h2, h3⟩
  · have e : tx_nx (tx_s t len) 0 = tx_ord (tx_s t len) 0 := if_pos rfl
    rw [e] at hn ⊢
    have hl := tx_ord_len hn
    refine ⟨Or.inr ⟨by omega, ?_⟩, hl.2⟩
    rw [tx_all_go, if_pos hn]
    exact ⟨rfl, rfl⟩
  · unfold tx_nx at hn ⊢
    rw [if_neg (show ¬ q = 0 by omega)] at hn ⊢
    by_cases c : tx_s t len q = 59
    · rw [if_pos c] at hn ⊢
      have hl := tx_ord_len hn
      refine ⟨Or.inr ⟨by omega, ?_⟩, hl.2⟩
      rw [h2, h3]
      unfold tx_go
      rw [if_pos c, show 16 - i = 16 - (i + 1) + 1 by omega, tx_all_go, if_pos hn]
      exact ⟨rfl, rfl⟩
    · rw [if_neg c] at hn
      exact tx_ff hn
theorem tr_I.end_ {t : Nat → Nat} {len i : Nat} (h : tr_I (tx_s t len) i len) (hi : 1 ≤ i) : tx_done (tx_s t len) len := by
  rcases h with ⟨h1, -⟩ | ⟨-, h2, h3⟩
  · omega
  · have e : tx_go (tx_s t len) (16 - i) len = (true, len, []) := if_neg (by rw [show tx_s t len len = 0 from if_neg (Nat.lt_irrefl _)]; decide)
    unfold tx_done
    rw [h2, h3, e]
    exact ⟨rfl, rfl⟩
abbrev rmX2_readAll : Room := ({ frames := 8, cells := 0, slots := 0, locals := 169 })
set_option maxHeartbeats 4000000 in
set_option maxRecDepth 100000 in
theorem kX2_readAll (l : Launch) (D : va_G) (cA : Nat → ClassId) (X : cq_X) (Bs : Nat) (a len : Nat) (t : Nat → Nat) (M : cq_M) (ha : cq_isText X a) (hm : tc_M M a t len) (hlen : len ≤ 60) : cq_C l yX2_readAll wsX2_readAll rmX2_readAll D cA X Bs [.ref a] M (cq_PI (fun r M1 => r = (if ((tx_all (tx_s t len) 16 0).1 = true ∧ (tx_all (tx_s t len) 16 0).2.1 = len) then 1 else 0) ∧ (M1 a 2 = nI (tx_all (tx_s t len) 16 0).2.1 ∧ (tx_all (tx_s t len) 16 0).2.1 ≤ 60) ∧ tc_A M M1 a)) 0 0 := by
  refine cq_met (cc := cX2_readAll) (maxL := 2) (ret := (some .boolean)) (by decide) rfl (Nat.le_of_ble_eq_true rfl) [(0, .ref a)] rfl rfl ?_
  intro p9 e9 s9 m9 b9 t9 c9 F hr
  have inX2 : ∀ w ∈ wsX20, w ∈ wsX2_readAll := (fun w h => List.mem_cons_of_mem _ (List.mem_append_right _ h))
  have loop_7 : ∀ (n_7 : Nat) (i q : Nat) (M2 : cq_M), i ≤ 10 → tr_I (tx_s t len) i q → (1 ≤ i → q < len) → q ≤ 60 → M2 a 2 = nI q → tc_A M M2 a → 11 - i < n_7 → cq_V p9 l e9 rmX2_readAll s9 m9 ([.ref a] : List Value).toArray b9 t9 c9 D cA X Bs 2 0 0 (MQ b9 (cq_Q D cA X Bs (cq_PI (fun r M1 => r = (if ((tx_all (tx_s t len) 16 0).1 = true ∧ (tx_all (tx_s t len) 16 0).2.1 = len) then 1 else 0) ∧ (M1 a 2 = nI (tx_all (tx_s t len) 16 0).2.1 ∧ (tx_all (tx_s t len) 16 0).2.1 ≤ 60) ∧ tc_A M M1 a))) ([.ref a] : List Value).toArray s9 0 0 (cq_A Bs)) 7 [(0, .ref a), (1, .int (nI i))] [] M2 := by
    intro n_7
    induction n_7 with
    | zero =>
      intros
      omega
    | succ n_7 ih_7 =>
      intro i q M2 hi10 hI hq9 hq6 h2 hA hn
      refine cq_iload_n F (i := 1) dX2_readAll_7 rfl rfl ?_
      refine cq_bipush F (v := 60) dX2_readAll_8 (by decide) ?_
      refine cq_icmp_ge F (tgt := 41) dX2_readAll_10 (by decide) (fun c_10 => ?_) (fun c_10 => ?_)
      · have c_10 : 60 ≤ i := (nI_b (a := 60) (b := i) (by omega) (by omega)).1.mp c_10
        omega
      · have c_10 : ¬ 60 ≤ i := fun z => c_10 ((nI_b (a := 60) (b := i) (by omega) (by omega)).1.mpr z)
        refine cq_aload_n F (i := 0) dX2_readAll_13 rfl rfl ?_
        refine cq_callV F (C := RX2) (ci := 3) (kX2_readNextOrder l D cA X Bs a len q t M2 ha (hA.m hm) hlen h2 hq6) (cwV 0 F.1.2.2.2.2 gX2_readAll_X2_readNextOrder rfl rfl rfl hdVX2_readNextOrder ⟨Nat.le_of_ble_eq_true rfl, Nat.le_of_ble_eq_true rfl⟩) ha.kind ⟨by decide, by decide⟩ rfl rfl rfl (Nat.le_of_ble_eq_true rfl) dX2_readAll_14 ⟨Nat.le_of_ble_eq_true rfl, Nat.le_of_ble_eq_true rfl⟩ (cq_kI fun r_14 M_14 h_14 => ?_)
        refine cq_if_ne F (tgt := 22) dX2_readAll_17 (by decide) (fun c_17 => ?_) (fun c_17 => ?_)
        · have c_17 := cq_b1 h_14.1 c_17
          have hnl := (hI.go hi10 c_17).2
          refine cq_aload_n F (i := 0) dX2_readAll_22 rfl rfl ?_
          refine cq_getI F (C := RX2) (T := TX2) (N := 10) (ci := 3) ha.kind rfl ⟨⟨by decide, by decide⟩, rfl⟩ inX2 2 (by decide) rfl rfl (F.1.2.2.2.2 _ (List.mem_of_getElem? (l := wsX2_readAll) (i := 1) (a := .fieldLink RX2 23 "CordClock$OrderText" "at" "I") (by decide +kernel))) dX2_readAll_23 ?_
          rw [show M_14 a 2 = nI ((tx_nx (tx_s t len) q).2.1) from (show M_14 a 2 = nI ((tx_nx (tx_s t len) q).2.1) from h_14.2.1.1)]
          refine cq_aload_n F (i := 0) dX2_readAll_26 rfl rfl ?_
          refine cq_getI F (C := RX2) (T := TX2) (N := 10) (ci := 3) ha.kind rfl ⟨⟨by decide, by decide⟩, rfl⟩ inX2 1 (by decide) rfl rfl (F.1.2.2.2.2 _ (List.mem_of_getElem? (l := wsX2_readAll) (i := 2) (a := .fieldLink RX2 19 "CordClock$OrderText" "length" "I") (by decide +kernel))) dX2_readAll_27 ?_
          rw [show M_14 a 1 = nI (len) from (show M_14 a 1 = nI (len) from (h_14.2.2.2.m (hA.m hm)).1)]
          refine cq_icmp_lt F (tgt := 35) dX2_readAll_30 (by decide) (fun c_30 => ?_) (fun c_30 => ?_)
          · have c_30 : ((tx_nx (tx_s t len) q).2.1) < len := (nI_b (a := ((tx_nx (tx_s t len) q).2.1)) (b := len) (by omega) (by omega)).2.1.mp c_30
            refine cq_iinc F dX2_readAll_35 rfl (by decide) (fun x_35 e_35 => ?_)
            obtain rfl : x_35 = nI (i + 1) := by rw [e_35]; exact nI_1 _
            refine cq_goto F (tgt := 7) dX2_readAll_38 (by decide) ?_
            refine cq_loc (L2 := [(0, .ref a), (1, .int (nI (i + 1)))]) rfl ?_
            exact ih_7 (i + 1) (tx_nx (tx_s t len) q).2.1 M_14 (by have hI3 := (hI.go hi10 c_17).1; unfold tr_I at hI3; omega) (hI.go hi10 c_17).1 (fun _ => by omega) (by omega) h_14.2.1.1 (hA.trans h_14.2.2.2) (by have hI3 := (hI.go hi10 c_17).1; unfold tr_I at hI3; omega)
          · have c_30 : ¬ ((tx_nx (tx_s t len) q).2.1) < len := fun z => c_30 ((nI_b (a := ((tx_nx (tx_s t len) q).2.1)) (b := len) (by omega) (by omega)).2.1.mpr z)
            refine cq_iconst F (v := 1) dX2_readAll_33 rfl ?_
            refine cq_zret F hr (by rfl) (by decide) (by decide) dX2_readAll_34 ⟨_, rfl, ?_⟩
            have hgo := hI.go hi10 c_17
            have eq9 : (tx_nx (tx_s t len) q).2.1 = len := by have := hgo.2; omega
            have hI2 := hgo.1
            rw [eq9] at hI2
            have hd := hI2.end_ (by omega)
            refine ⟨(if_pos ⟨hd.1, hd.2⟩).symm, ⟨?_, ?_⟩, hA.trans h_14.2.2.2⟩
            · rw [hd.2, ← eq9]; exact h_14.2.1.1
            · rw [hd.2]; exact hlen
        · have c_17 := cq_b0 h_14.1 c_17
          refine cq_iconst F (v := 0) dX2_readAll_20 rfl ?_
          refine cq_zret F hr (by rfl) (by decide) (by decide) dX2_readAll_21 ⟨_, rfl, ?_⟩
          have hno := hI.no hi10 c_17
          refine ⟨?_, ⟨by rw [hno.1]; exact h_14.2.1.1, by rw [hno.1]; exact h_14.2.1.2⟩, hA.trans h_14.2.2.2⟩
          rw [if_neg (fun z => ?_)]
          · have z9 := (hno.2 z.1).2
            have z8 := hq9 (hno.2 z.1).1
            omega
  refine cq_aload_n F (i := 0) dX2_readAll_0 rfl rfl ?_
  refine cq_iconst F (v := 0) dX2_readAll_1 rfl ?_
  refine cq_put F (C := RX2) (T := TX2) (N := 10) (ci := 3) ha.kind rfl ⟨⟨by decide, by decide⟩, rfl⟩ inX2 tyX2 tyX2_ok nmX2 2 (by decide) rfl rfl (F.1.2.2.2.2 _ (List.mem_of_getElem? (l := wsX2_readAll) (i := 1) (a := .fieldLink RX2 23 "CordClock$OrderText" "at" "I") (by decide +kernel))) rfl (by rfl) (by rfl) dX2_readAll_2 (fun M_2 h_2 => ?_)
  refine cq_iconst F (v := 0) dX2_readAll_5 rfl ?_
  refine cq_istore_n F (i := 1) dX2_readAll_6 rfl (by decide) ?_
  refine cq_loc (L2 := [(0, .ref a), (1, .int (nI 0))]) rfl ?_
  exact loop_7 12 0 0 M_2 (by omega) (Or.inl ⟨rfl, rfl⟩) (fun z => absurd z (by omega)) (by omega) (by rw [h_2]; exact cq_up_s _ _ _ _) (tc_2.A (tc_2.up h_2)) (by omega)
theorem hdVX2_readAll : yX2_readAll.cls = RX2 ∧ yX2_readAll.cls ≠ "java/lang/invoke/MethodHandle" ∧ yX2_readAll.cls ≠ "java/lang/invoke/VarHandle" ∧ (parseMethodDescriptor yX2_readAll.desc).map (fun d => d.parameters.length) = some 0 := by decide +kernel
theorem ck.tm {M : cq_M} {b B : Nat} {S : as_T} (h : ck M b S) (hk : as_ok S B) : tc_M M (b + 50) (S_t S) (S_l S) := ⟨h.2.2.2.2.1, h.2.2.2.2.2, hk.2.2.2.1⟩
theorem ck.read {M M1 : cq_M} {b B : Nat} {S : as_T} (h : ck M b S) (hk : as_ok S B) (hA : tc_A M M1 (b + 50)) : ck M1 b S ∧ cr_fr M M1 b 249 := by
  have hx : ∀ x, x ≠ b + 50 → x ≠ b + 52 → M1 x = M x := fun x h1 h2 => funext fun j => hA x j (by omega) (by omega)
  exact ⟨h.fr hk (fun x k1 k2 k3 k4 k5 => hx x k5 (by omega)) (hA _ _ (by omega) (by omega)) (h.2.2.1.1.fr (fun x k1 k2 => hx x (by omega) (by omega))), fun x k => hx x (by omega) (by omega)⟩
theorem tc_A.w {M M1 : cq_M} {a : Nat} (h : tc_A M M1 a) : ∀ x, x ≠ a → x ≠ a + 2 → M1 x = M x := fun x h1 h2 => funext fun j => h x j h2 (by omega)
abbrev rmX6_firstError : Room := ({ frames := 9, cells := 0, slots := 0, locals := 190 })
set_option maxHeartbeats 4000000 in
set_option maxRecDepth 100000 in
theorem kX6_firstError (l : Launch) (D : va_G) (cA : Nat → ClassId) (X : cq_X) (Bs : Nat) (b B : Nat) (S : as_T) (M : cq_M) (hb : cq_isClock X b) (h : ck M b S) (hk : as_ok S B) : cq_C l yX6_firstError wsX6_firstError rmX6_firstError D cA X Bs [.ref b] M (cq_PI (fun r M1 => cw (op_error S) r M M1 b)) 0 0 := by
  refine cq_met (cc := cX6_firstError) (maxL := 1) (ret := (some .int)) (by decide) rfl (Nat.le_of_ble_eq_true rfl) [(0, .ref b)] rfl rfl ?_
  intro p9 e9 s9 m9 b9 t9 c9 F hr
  have inX2 : ∀ w ∈ wsX20, w ∈ wsX6_firstError := (fun w h => List.mem_cons_of_mem _ (List.mem_append_right _ h))
  have inX6 : ∀ w ∈ wsX60, w ∈ wsX6_firstError := (fun w h => List.mem_cons_of_mem _ (List.mem_append_left _ (List.mem_append_right _ h)))
  refine cq_aload_n F (i := 0) dX6_firstError_0 rfl rfl ?_
  refine cq_getT (t := (b + 50)) F (C := RX6) (T := TX6) (N := 9) (ci := 7) hb.kind rfl ⟨⟨by decide, by decide⟩, rfl⟩ inX6 7 (by decide) rfl rfl hb.t7 (F.1.2.2.2.2 _ (List.mem_of_getElem? (l := wsX6_firstError) (i := 1) (a := .fieldLink RX6 33 "CordClock" "text" "LCordClock$OrderText;") (by decide +kernel))) dX6_firstError_1 ?_
  refine cq_callV F (C := RX2) (ci := 3) (kX2_readAll l D cA X Bs (b + 50) (S_l S) (S_t S) M hb.text (h.tm hk) hk.pos.2) (cwV 0 F.1.2.2.2.2 gX6_firstError_X2_readAll rfl rfl rfl hdVX2_readAll ⟨Nat.le_of_ble_eq_true rfl, Nat.le_of_ble_eq_true rfl⟩) hb.text.kind ⟨by decide, by decide⟩ rfl rfl rfl (Nat.le_of_ble_eq_true rfl) dX6_firstError_4 ⟨Nat.le_of_ble_eq_true rfl, Nat.le_of_ble_eq_true rfl⟩ (cq_kI fun r_4 M_4 h_4 => ?_)
  refine cq_pop F dX6_firstError_7 rfl ?_
  refine cq_aload_n F (i := 0) dX6_firstError_8 rfl rfl ?_
  refine cq_getT (t := (b + 50)) F (C := RX6) (T := TX6) (N := 9) (ci := 7) hb.kind rfl ⟨⟨by decide, by decide⟩, rfl⟩ inX6 7 (by decide) rfl rfl hb.t7 (F.1.2.2.2.2 _ (List.mem_of_getElem? (l := wsX6_firstError) (i := 1) (a := .fieldLink RX6 33 "CordClock" "text" "LCordClock$OrderText;") (by decide +kernel))) dX6_firstError_9 ?_
  refine cq_getIN F (C := RX2) (T := TX2) (N := 10) (ci := 3) hb.text.kind rfl ⟨⟨by decide, by decide⟩, rfl⟩ inX2 2 (by decide) rfl rfl (cq_nfw F.2.2.2.2 (List.mem_of_getElem? (l := cq_nf) (i := 5) rfl)) dX6_firstError_12 ?_
  rw [show M_4 (b + 50) 2 = nI ((tx_all (tx_s (S_t S) (S_l S)) 16 0).2.1) from (show M_4 (b + 50) 2 = nI ((tx_all (tx_s (S_t S) (S_l S)) 16 0).2.1) from h_4.2.1.1)]
  exact cq_iret F hr (by decide) (by decide) dX6_firstError_15 ⟨_, rfl, (cw_of rfl (h.read hk h_4.2.2).1 (h.read hk h_4.2.2).2)⟩
theorem hdVX6_firstError : yX6_firstError.cls = RX6 ∧ yX6_firstError.cls ≠ "java/lang/invoke/MethodHandle" ∧ yX6_firstError.cls ≠ "java/lang/invoke/VarHandle" ∧ (parseMethodDescriptor yX6_firstError.desc).map (fun d => d.parameters.length) = some 0 := by decide +kernel
