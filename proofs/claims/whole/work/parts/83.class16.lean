/-! the class: execute -/
theorem ck.exec {M0 M1 M2 : cq_M} {b B : Nat} {S : as_T} {g : Nat → Nat} (h0 : ck M0 b S) (hk : as_ok S B) (hg : g 6 ≤ 4 ∧ g 51 ≤ 8) (hs : cr_st M1 (b + 1) g) (hf : ∀ x, x ≠ b + 50 → x ≠ b + 52 → (x < b + 1 ∨ b + 24 ≤ x) → M1 x = M0 x) (hl : M1 (b + 50) 1 = M0 (b + 50) 1) (h2 : M2 = cq_up M1 (b + 50) 1 (nI 0)) (B2 : Nat) (hk2 : as_ok (so_g S g) B2) : ck M2 b (so_text (so_g S g) (S_t S) 0) := by
  obtain ⟨M', hM'⟩ : ∃ M' : cq_M, M' = fun x => if b + 1 ≤ x ∧ x < b + 24 then M1 x else M0 x := ⟨_, rfl⟩
  have e1 : ∀ x, b + 1 ≤ x → x < b + 1 + 23 → M' x = M1 x := fun x k1 k2 => by rw [hM']; exact if_pos ⟨k1, by omega⟩
  have e2 : ∀ x, (x < b + 1 ∨ b + 24 ≤ x) → M' x = M0 x := fun x k => by rw [hM']; exact if_neg (by omega)
  have c1 : ck M' b (so_g S g) := h0.now hk (hs.fr e1 hg.1 hg.2) (fun x k => e2 x (by omega))
  have c2 : ck M1 b (so_g S g) := c1.fr hk2 (fun x k1 k2 k3 k4 k5 => by
    by_cases e : b + 1 ≤ x ∧ x < b + 24
    · exact (e1 x e.1 (by omega)).symm
    · rw [e2 x (by omega)]; exact hf x k5 (by omega) (by omega)) (by rw [e2 _ (by omega)]; exact hl) (h0.2.2.1.1.fr (fun x k1 k2 => hf x (by omega) (by omega) (by omega)))
  exact c2.text hk2 (fun x k1 k2 => by rw [h2, cq_up_row k1]) (by rw [h2]; exact cq_up_s _ _ _ _) (fun j hj => absurd hj (by omega))
/-- i orders are carried out, the reader stands at q, the row is g -/
def te_I (s : Nat → Nat) (g0 : Nat → Nat) (i q : Nat) (g : Nat → Nat) : Prop := (i = 0 ∧ q = 0 ∧ g = g0) ∨ ((1 ≤ i ∧ 6 * i ≤ q + 1) ∧ (tx_go s (16 - i) q).1 = true ∧ ex_all g0 (tx_all s 16 0).2.2 = ((ex_all g (tx_go s (16 - i) q).2.2).1, (ex_all g (tx_go s (16 - i) q).2.2).2 + i))
theorem te_I.no {s : Nat → Nat} {g0 g : Nat → Nat} {i q : Nat} (h : te_I s g0 i q g) (hi : i ≤ 10) (hd : (tx_all s 16 0).1 = true) (hn : ¬ (tx_nx s q).1 = true) : ex_all g0 (tx_all s 16 0).2.2 = (g, i) := by
  rcases h with ⟨rfl, rfl, rfl⟩ | ⟨⟨h1, h6⟩, h2, h3⟩
  · have e : tx_nx s 0 = tx_ord s 0 := if_pos rfl
    rw [e] at hn
    rw [tx_all_go, if_neg hn] at hd
    exact tx_ff hd
  · rw [h3]
    unfold tx_nx at hn
    unfold tx_go at h2 ⊢
    rw [if_neg (show ¬ q = 0 by omega)] at hn
    by_cases c : s q = 59
    · rw [if_pos c] at hn h2
      rw [show 16 - i = 15 - i + 1 by omega, tx_all_go, if_neg hn] at h2
      exact tx_ff h2
    · rw [if_neg c]
      show (g, 0 + i) = _
      rw [Nat.zero_add]
theorem te_I.list {s : Nat → Nat} {g0 g : Nat → Nat} {i q : Nat} (h : te_I s g0 i q g) (hi : i ≤ 10) (hd : (tx_all s 16 0).1 = true) (hn : (tx_nx s q).1 = true) : q + 5 ≤ (tx_nx s q).2.1 ∧ (1 ≤ i → q + 6 ≤ (tx_nx s q).2.1) ∧ tx_okO (tx_nx s q).2.2 ∧ (tx_go s (16 - (i + 1)) (tx_nx s q).2.1).1 = true ∧ ex_all g0 (tx_all s 16 0).2.2 = ((ex_all g ((tx_nx s q).2.2 :: (tx_go s (16 - (i + 1)) (tx_nx s q).2.1).2.2)).1, (ex_all g ((tx_nx s q).2.2 :: (tx_go s (16 - (i + 1)) (tx_nx s q).2.1).2.2)).2 + i) := by
  rcases h with ⟨rfl, rfl, rfl⟩ | ⟨⟨h1, h6⟩, h2, h3⟩
  · have e : tx_nx s 0 = tx_ord s 0 := if_pos rfl
    rw [e] at hn ⊢
    have hok := tx_ord_ok hn
    have e2 : tx_all s 16 0 = ((tx_go s 15 (tx_ord s 0).2.1).1, (tx_go s 15 (tx_ord s 0).2.1).2.1, (tx_ord s 0).2.2 :: (tx_go s 15 (tx_ord s 0).2.1).2.2) := by rw [tx_all_go, if_pos hn]
    rw [e2] at hd ⊢
    exact ⟨hok.1, fun z => absurd z (by omega), hok.2.1, hd, rfl⟩
  · rw [h3]
    unfold tx_nx at hn ⊢
    rw [if_neg (show ¬ q = 0 by omega)] at hn ⊢
    by_cases c : s q = 59
    · rw [if_pos c] at hn ⊢
      have hok := tx_ord_ok hn
      have e2 : tx_go s (16 - i) q = ((tx_go s (16 - (i + 1)) (tx_ord s (q + 1)).2.1).1, (tx_go s (16 - (i + 1)) (tx_ord s (q + 1)).2.1).2.1, (tx_ord s (q + 1)).2.2 :: (tx_go s (16 - (i + 1)) (tx_ord s (q + 1)).2.1).2.2) := by
        rw [show tx_go s (16 - i) q = tx_all s (16 - i) (q + 1) from if_pos c, show 16 - i = 16 - (i + 1) + 1 by omega, tx_all_go, if_pos hn]
      rw [e2] at h2 ⊢
      exact ⟨by omega, fun _ => by omega, hok.2.1, h2, rfl⟩
    · rw [if_neg c] at hn
      exact tx_ff hn
theorem te_I.stop {s : Nat → Nat} {g0 g : Nat → Nat} {i q : Nat} (h : te_I s g0 i q g) (hi : i ≤ 10) (hd : (tx_all s 16 0).1 = true) (hn : (tx_nx s q).1 = true) (hc : ¬ ex_can g (tx_nx s q).2.2) : ex_all g0 (tx_all s 16 0).2.2 = (g, i) := by
  rw [(h.list hi hd hn).2.2.2.2, ex_all, if_neg hc]
  show (g, 0 + i) = _
  rw [Nat.zero_add]
theorem te_I.go {s : Nat → Nat} {g0 g : Nat → Nat} {i q : Nat} (h : te_I s g0 i q g) (hi : i ≤ 10) (hd : (tx_all s 16 0).1 = true) (hn : (tx_nx s q).1 = true) (hc : ex_can g (tx_nx s q).2.2) : te_I s g0 (i + 1) (tx_nx s q).2.1 (ex_do g (tx_nx s q).2.2) := by
  obtain ⟨a1, a2, a3, a4, a5⟩ := h.list hi hd hn
  refine Or.inr ⟨⟨by omega, ?_⟩, a4, ?_⟩
  · rcases h with ⟨rfl, rfl, -⟩ | ⟨⟨h1, h6⟩, -, -⟩
    · omega
    · have := a2 h1
      omega
  · rw [a5, ex_all, if_pos hc]
    show (_, _ + 1 + i) = (_, _ + (i + 1))
    rw [Nat.add_assoc, Nat.add_comm 1 i]
theorem te_I.ix {t : Nat → Nat} {len i q : Nat} {g0 g : Nat → Nat} (h : te_I (tx_s t len) g0 i q g) (hl : len ≤ 60) (hq : q ≤ len) : i ≤ 10 := by
  rcases h with ⟨rfl, -, -⟩ | ⟨⟨h1, h6⟩, -, -⟩ <;> omega
theorem tx_nx_len {t : Nat → Nat} {len q : Nat} (hn : (tx_nx (tx_s t len) q).1 = true) : (tx_nx (tx_s t len) q).2.1 ≤ len := by
  unfold tx_nx at hn ⊢
  by_cases h0 : q = 0
  · rw [if_pos h0] at hn ⊢
    exact (tx_ord_len hn).2
  · rw [if_neg h0] at hn ⊢
    by_cases c : tx_s t len q = 59
    · rw [if_pos c] at hn ⊢
      exact (tx_ord_len hn).2
    · rw [if_neg c] at hn
      exact tx_ff hn
abbrev rmX6_execute : Room := ({ frames := 9, cells := 1, slots := 6, locals := 190 })
set_option maxHeartbeats 4000000 in
set_option maxRecDepth 100000 in
theorem kX6_execute (l : Launch) (hl : l.stackTraces = false) (D : va_G) (cA : Nat → ClassId) (X : cq_X) (Bs : Nat) (b B : Nat) (S : as_T) (M : cq_M) (hb : cq_isClock X b) (h : ck M b S) (hk : as_ok S B) (hB : B < 1999980000) : cq_T l yX6_execute wsX6_execute rmX6_execute D cA X Bs [.ref b] M (cq_PI (fun r M1 => cw (op_exec S) r M M1 b)) (fun E M1 => E = xA ∧ ck M1 b S ∧ cr_fr M M1 b 249 ∧ (op_exec S).1 = 1 ∧ (op_exec S).2.2 = S) 1 6 := by
  refine cq_met9 (cc := cX6_execute) (maxL := 2) (ret := (some .int)) (by decide) rfl (Nat.le_of_ble_eq_true rfl) [(0, .ref b)] rfl rfl ?_
  intro p9 e9 s9 m9 b9 t9 c9 F hr hex
  have inX2 : ∀ w ∈ wsX20, w ∈ wsX6_execute := (fun w h => List.mem_cons_of_mem _ (List.mem_append_left _ (List.mem_append_left _ (List.mem_append_left _ (List.mem_append_left _ (List.mem_append_left _ (List.mem_append_right _ h)))))))
  have inX6 : ∀ w ∈ wsX60, w ∈ wsX6_execute := (fun w h => List.mem_cons_of_mem _ (List.mem_append_left _ (List.mem_append_left _ (List.mem_append_left _ (List.mem_append_left _ (List.mem_append_left _ (List.mem_append_left _ (List.mem_append_right _ h))))))))
  have loop_34 : ∀ (n_34 : Nat) (i q : Nat) (g : Nat → Nat) (M0 M2 : cq_M), ((tx_all (tx_s (S_t S) (S_l S)) 16 0).1 = true ∧ (tx_all (tx_s (S_t S) (S_l S)) 16 0).2.1 = S_l S) → te_I (tx_s (S_t S) (S_l S)) (S_g S) i q g → q ≤ S_l S → i ≤ 10 → M2 (b + 50) 2 = nI q → tc_M M2 (b + 50) (S_t S) (S_l S) → cr_st M2 (b + 1) g → ns_ok g (B + 200 * i) → ck M0 b (so_save S) → cr_fr M M0 b 249 → (∀ x, x ≠ b + 50 → x ≠ b + 52 → (x < b + 1 ∨ b + 24 ≤ x) → M2 x = M0 x) → 11 - i < n_34 → cq_V p9 l e9 rmX6_execute s9 m9 ([.ref b] : List Value).toArray b9 t9 c9 D cA X Bs 2 0 0 (vx_MQ b9 (cq_Q D cA X Bs (cq_PI (fun r M1 => cw (op_exec S) r M M1 b))) (cq_XC D cA X Bs (fun E M1 => E = xA ∧ ck M1 b S ∧ cr_fr M M1 b 249 ∧ (op_exec S).1 = 1 ∧ (op_exec S).2.2 = S)) ([.ref b] : List Value).toArray s9 1 6 (cq_A Bs)) 34 [(0, .ref b), (1, .int (nI i))] [] M2 := by
    intro n_34
    induction n_34 with
    | zero =>
      intros
      omega
    | succ n_34 ih_34 =>
      intro i q g M0 M2 hdn hI hql hi10 h2 hm hs hok hc0 hf0 hf hn
      have hl60 := hk.pos.2
      refine cq_iload_n F (i := 1) dX6_execute_34 rfl rfl ?_
      refine cq_bipush F (v := 60) dX6_execute_35 (by decide) ?_
      refine cq_icmp_ge F (tgt := 63) dX6_execute_37 (by decide) (fun c_37 => ?_) (fun c_37 => ?_)
      · have c_37 : 60 ≤ i := (nI_b (a := 60) (b := i) (by omega) (by omega)).1.mp c_37
        omega
      · have c_37 : ¬ 60 ≤ i := fun z => c_37 ((nI_b (a := 60) (b := i) (by omega) (by omega)).1.mpr z)
        refine cq_aload_n F (i := 0) dX6_execute_40 rfl rfl ?_
        refine cq_getT (t := (b + 50)) F (C := RX6) (T := TX6) (N := 9) (ci := 7) hb.kind rfl ⟨⟨by decide, by decide⟩, rfl⟩ inX6 7 (by decide) rfl rfl hb.t7 (F.1.2.2.2.2 _ (List.mem_of_getElem? (l := wsX6_execute) (i := 3) (a := .fieldLink RX6 33 "CordClock" "text" "LCordClock$OrderText;") (by decide +kernel))) dX6_execute_41 ?_
        refine cq_callV F (C := RX2) (ci := 3) (kX2_readNextOrder l D cA X Bs (b + 50) (S_l S) q (S_t S) M2 hb.text hm hk.pos.2 h2 (by omega)) (cwV 0 F.1.2.2.2.2 gX6_execute_X2_readNextOrder rfl rfl rfl hdVX2_readNextOrder ⟨Nat.le_of_ble_eq_true rfl, Nat.le_of_ble_eq_true rfl⟩) hb.text.kind ⟨by decide, by decide⟩ rfl rfl rfl (Nat.le_of_ble_eq_true rfl) dX6_execute_44 ⟨Nat.le_of_ble_eq_true rfl, Nat.le_of_ble_eq_true rfl⟩ (cq_kI fun r_44 M_44 h_44 => ?_)
        refine cq_if_eq F (tgt := 63) dX6_execute_47 (by decide) (fun c_47 => ?_) (fun c_47 => ?_)
        · have c_47 := cq_b0 h_44.1 c_47
          refine cq_aload_n F (i := 0) dX6_execute_63 rfl rfl ?_
          refine cq_getT (t := (b + 50)) F (C := RX6) (T := TX6) (N := 9) (ci := 7) hb.kind rfl ⟨⟨by decide, by decide⟩, rfl⟩ inX6 7 (by decide) rfl rfl hb.t7 (F.1.2.2.2.2 _ (List.mem_of_getElem? (l := wsX6_execute) (i := 3) (a := .fieldLink RX6 33 "CordClock" "text" "LCordClock$OrderText;") (by decide +kernel))) dX6_execute_64 ?_
          refine cq_iconst F (v := 0) dX6_execute_67 rfl ?_
          refine cq_putN F (C := RX2) (T := TX2) (N := 10) (ci := 3) hb.text.kind rfl ⟨⟨by decide, by decide⟩, rfl⟩ inX2 tyX2 tyX2_ok nmX2 1 (by decide) rfl rfl (cq_nfw F.2.2.2.2 (List.mem_of_getElem? (l := cq_nf) (i := 4) rfl)) rfl (by rfl) (by rfl) dX6_execute_68 (fun M_68 h_68 => ?_)
          refine cq_iload_n F (i := 1) dX6_execute_71 rfl rfl ?_
          refine cq_ret9 ?_
          refine cq_iret F hr (by decide) (by decide) dX6_execute_72 ⟨_, rfl, ?_⟩
          have hall : ex_all (S_g S) (tx_all (tx_s (S_t S) (S_l S)) 16 0).2.2 = (g, i) := by first | exact hI.no hi10 hdn.1 c_47 | exact hI.stop hi10 hdn.1 c_47 c_54
          have hop : op_exec S = (0, nI (ex_all (S_g S) (tx_all (tx_s (S_t S) (S_l S)) 16 0).2.2).2, so_text (so_g (so_save S) (ex_all (S_g S) (tx_all (tx_s (S_t S) (S_l S)) 16 0).2.2).1) (S_t S) 0) := if_pos hdn
          rw [hall] at hop
          have hs9 : cr_st M_44 (b + 1) g := hs.fr (fun x k1 k2 => h_44.2.2.2.w x (by omega) (by omega)) hok.1 hok.2.1
          have hf9 : (∀ x, x ≠ b + 50 → x ≠ b + 52 → (x < b + 1 ∨ b + 24 ≤ x) → M_44 x = M0 x) := fun x k1 k2 k3 => by rw [h_44.2.2.2.w x k1 k2]; exact hf x k1 k2 k3
          have hl9 : M_44 (b + 50) 1 = M0 (b + 50) 1 := by rw [(h_44.2.2.2.m hm).1]; exact hc0.2.2.2.2.1.symm
          have h9 : M_68 = cq_up M_44 (b + 50) 1 (nI 0) := by first | exact h_68 | (rw [h_68, h_51.2.2 c_54]; rfl)
          refine cw_of hop (hc0.exec (B2 := B + 2000) hk.save ⟨hok.1, hok.2.1⟩ hs9 hf9 hl9 h9 ((hk.save.mono (by omega)).g (hok.mono (by omega)))) (hf0.trans (fun x hx => by rw [h9, cq_up_row (by omega)]; exact hf9 x (by omega) (by omega) (by omega)))
        · have c_47 := cq_b1 h_44.1 c_47
          refine cq_aload_n F (i := 0) dX6_execute_50 rfl rfl ?_
          refine cq_callV F (C := RX6) (ci := 7) (kX6_carryOut l D cA X Bs b (B + 200 * i) g (tx_nx (tx_s (S_t S) (S_l S)) q).2.2 M_44 hb (hs.fr (fun x k1 k2 => h_44.2.2.2.w x (by omega) (by omega)) hok.1 hok.2.1) hok (tc_reca.rec (h_44.2.2.1 c_47)) (hI.list hi10 hdn.1 c_47).2.2.1 (by omega)) (cwV 0 F.1.2.2.2.2 gX6_execute_X6_carryOut rfl rfl rfl hdVX6_carryOut ⟨Nat.le_of_ble_eq_true rfl, Nat.le_of_ble_eq_true rfl⟩) hb.kind ⟨by decide, by decide⟩ rfl rfl rfl (Nat.le_of_ble_eq_true rfl) dX6_execute_51 ⟨Nat.le_of_ble_eq_true rfl, Nat.le_of_ble_eq_true rfl⟩ (cq_kI fun r_51 M_51 h_51 => ?_)
          refine cq_if_eq F (tgt := 63) dX6_execute_54 (by decide) (fun c_54 => ?_) (fun c_54 => ?_)
          · have c_54 := cq_b0 h_51.1 c_54
            refine cq_aload_n F (i := 0) dX6_execute_63 rfl rfl ?_
            refine cq_getT (t := (b + 50)) F (C := RX6) (T := TX6) (N := 9) (ci := 7) hb.kind rfl ⟨⟨by decide, by decide⟩, rfl⟩ inX6 7 (by decide) rfl rfl hb.t7 (F.1.2.2.2.2 _ (List.mem_of_getElem? (l := wsX6_execute) (i := 3) (a := .fieldLink RX6 33 "CordClock" "text" "LCordClock$OrderText;") (by decide +kernel))) dX6_execute_64 ?_
            refine cq_iconst F (v := 0) dX6_execute_67 rfl ?_
            refine cq_putN F (C := RX2) (T := TX2) (N := 10) (ci := 3) hb.text.kind rfl ⟨⟨by decide, by decide⟩, rfl⟩ inX2 tyX2 tyX2_ok nmX2 1 (by decide) rfl rfl (cq_nfw F.2.2.2.2 (List.mem_of_getElem? (l := cq_nf) (i := 4) rfl)) rfl (by rfl) (by rfl) dX6_execute_68 (fun M_68 h_68 => ?_)
            refine cq_iload_n F (i := 1) dX6_execute_71 rfl rfl ?_
            refine cq_ret9 ?_
            refine cq_iret F hr (by decide) (by decide) dX6_execute_72 ⟨_, rfl, ?_⟩
            have hall : ex_all (S_g S) (tx_all (tx_s (S_t S) (S_l S)) 16 0).2.2 = (g, i) := by first | exact hI.no hi10 hdn.1 c_47 | exact hI.stop hi10 hdn.1 c_47 c_54
            have hop : op_exec S = (0, nI (ex_all (S_g S) (tx_all (tx_s (S_t S) (S_l S)) 16 0).2.2).2, so_text (so_g (so_save S) (ex_all (S_g S) (tx_all (tx_s (S_t S) (S_l S)) 16 0).2.2).1) (S_t S) 0) := if_pos hdn
            rw [hall] at hop
            have hs9 : cr_st M_44 (b + 1) g := hs.fr (fun x k1 k2 => h_44.2.2.2.w x (by omega) (by omega)) hok.1 hok.2.1
            have hf9 : (∀ x, x ≠ b + 50 → x ≠ b + 52 → (x < b + 1 ∨ b + 24 ≤ x) → M_44 x = M0 x) := fun x k1 k2 k3 => by rw [h_44.2.2.2.w x k1 k2]; exact hf x k1 k2 k3
            have hl9 : M_44 (b + 50) 1 = M0 (b + 50) 1 := by rw [(h_44.2.2.2.m hm).1]; exact hc0.2.2.2.2.1.symm
            have h9 : M_68 = cq_up M_44 (b + 50) 1 (nI 0) := by first | exact h_68 | (rw [h_68, h_51.2.2 c_54]; rfl)
            refine cw_of hop (hc0.exec (B2 := B + 2000) hk.save ⟨hok.1, hok.2.1⟩ hs9 hf9 hl9 h9 ((hk.save.mono (by omega)).g (hok.mono (by omega)))) (hf0.trans (fun x hx => by rw [h9, cq_up_row (by omega)]; exact hf9 x (by omega) (by omega) (by omega)))
          · have c_54 := cq_b1 h_51.1 c_54
            refine cq_iinc F dX6_execute_57 rfl (by decide) (fun x_57 e_57 => ?_)
            obtain rfl : x_57 = nI (i + 1) := by rw [e_57]; exact nI_1 _
            refine cq_goto F (tgt := 34) dX6_execute_60 (by decide) ?_
            refine cq_loc (L2 := [(0, .ref b), (1, .int (nI (i + 1)))]) rfl ?_
            exact ih_34 (i + 1) (tx_nx (tx_s (S_t S) (S_l S)) q).2.1 (ex_do g (tx_nx (tx_s (S_t S) (S_l S)) q).2.2) M0 M_51 hdn (hI.go hi10 hdn.1 c_47 c_54) (tx_nx_len c_47) ((hI.go hi10 hdn.1 c_47 c_54).ix hl60 (tx_nx_len c_47)) (by rw [(h_51.2.1 c_54).2 _ (by omega)]; exact h_44.2.1.1) ⟨by rw [(h_51.2.1 c_54).2 _ (by omega)]; exact (h_44.2.2.2.m hm).1, fun j hj => by rw [(h_51.2.1 c_54).2 _ (by omega)]; exact (h_44.2.2.2.m hm).2.1 j hj, hm.2.2⟩ (h_51.2.1 c_54).1 ((ex_do_ok hok (hI.list hi10 hdn.1 c_47).2.2.1 c_54).mono (by omega)) hc0 hf0 (fun x k1 k2 k3 => by rw [(h_51.2.1 c_54).2 x (by omega), h_44.2.2.2.w x k1 k2]; exact hf x k1 k2 k3) (by have := (hI.go hi10 hdn.1 c_47 c_54).ix hl60 (tx_nx_len c_47); omega)
  refine cq_aload_n F (i := 0) dX6_execute_0 rfl rfl ?_
  refine cq_getT (t := (b + 50)) F (C := RX6) (T := TX6) (N := 9) (ci := 7) hb.kind rfl ⟨⟨by decide, by decide⟩, rfl⟩ inX6 7 (by decide) rfl rfl hb.t7 (F.1.2.2.2.2 _ (List.mem_of_getElem? (l := wsX6_execute) (i := 3) (a := .fieldLink RX6 33 "CordClock" "text" "LCordClock$OrderText;") (by decide +kernel))) dX6_execute_1 ?_
  refine cq_callV F (C := RX2) (ci := 3) (kX2_readAll l D cA X Bs (b + 50) (S_l S) (S_t S) M hb.text (h.tm hk) hk.pos.2) (cwV 0 F.1.2.2.2.2 gX6_execute_X2_readAll rfl rfl rfl hdVX2_readAll ⟨Nat.le_of_ble_eq_true rfl, Nat.le_of_ble_eq_true rfl⟩) hb.text.kind ⟨by decide, by decide⟩ rfl rfl rfl (Nat.le_of_ble_eq_true rfl) dX6_execute_4 ⟨Nat.le_of_ble_eq_true rfl, Nat.le_of_ble_eq_true rfl⟩ (cq_kI fun r_4 M_4 h_4 => ?_)
  refine cq_if_ne F (tgt := 20) dX6_execute_7 (by decide) (fun c_7 => ?_) (fun c_7 => ?_)
  · have c_7 := cq_b1 h_4.1 c_7
    have hdn : ((tx_all (tx_s (S_t S) (S_l S)) 16 0).1 = true ∧ (tx_all (tx_s (S_t S) (S_l S)) 16 0).2.1 = S_l S) := c_7
    refine cq_aload_n F (i := 0) dX6_execute_20 rfl rfl ?_
    refine cq_callV F (C := RX6) (ci := 7) (kX6_save l D cA X Bs b B S M_4 hb (h.read hk h_4.2.2).1 hk) (cwV 0 F.1.2.2.2.2 gX6_execute_X6_save rfl rfl rfl hdVX6_save ⟨Nat.le_of_ble_eq_true rfl, Nat.le_of_ble_eq_true rfl⟩) hb.kind ⟨by decide, by decide⟩ rfl rfl rfl (Nat.le_of_ble_eq_true rfl) dX6_execute_21 ⟨Nat.le_of_ble_eq_true rfl, Nat.le_of_ble_eq_true rfl⟩ (cq_kV fun M_21 h_21 => ?_)
    refine cq_iconst F (v := 0) dX6_execute_24 rfl ?_
    refine cq_istore_n F (i := 1) dX6_execute_25 rfl (by decide) ?_
    refine cq_aload_n F (i := 0) dX6_execute_26 rfl rfl ?_
    refine cq_getT (t := (b + 50)) F (C := RX6) (T := TX6) (N := 9) (ci := 7) hb.kind rfl ⟨⟨by decide, by decide⟩, rfl⟩ inX6 7 (by decide) rfl rfl hb.t7 (F.1.2.2.2.2 _ (List.mem_of_getElem? (l := wsX6_execute) (i := 3) (a := .fieldLink RX6 33 "CordClock" "text" "LCordClock$OrderText;") (by decide +kernel))) dX6_execute_27 ?_
    refine cq_iconst F (v := 0) dX6_execute_30 rfl ?_
    refine cq_putN F (C := RX2) (T := TX2) (N := 10) (ci := 3) hb.text.kind rfl ⟨⟨by decide, by decide⟩, rfl⟩ inX2 tyX2 tyX2_ok nmX2 2 (by decide) rfl rfl (cq_nfw F.2.2.2.2 (List.mem_of_getElem? (l := cq_nf) (i := 5) rfl)) rfl (by rfl) (by rfl) dX6_execute_31 (fun M_31 h_31 => ?_)
    refine cq_loc (L2 := [(0, .ref b), (1, .int (nI 0))]) rfl ?_
    exact loop_34 12 0 0 (S_g S) M_21 M_31 hdn (Or.inl ⟨rfl, rfl, rfl⟩) (Nat.zero_le _) (by omega) (by rw [h_31]; exact cq_up_s _ _ _ _) ((tc_2.A (tc_2.up h_31)).m (show tc_M M_21 (b + 50) (S_t S) (S_l S) from ck.tm (S := so_save S) h_21.1 hk.save)) (h_21.1.1.fr (fun x k1 k2 => by rw [h_31, cq_up_row (by omega)]) hk.1.1 hk.1.2.1) (hk.1.mono (by omega)) h_21.1 ((h.read hk h_4.2.2).2.trans h_21.2) (fun x k1 k2 k3 => by rw [h_31, cq_up_row k1]) (by omega)
  · have c_7 := cq_b0 h_4.1 c_7
    refine cq_throw F hl hex (by decide +kernel) (F.1.2.2.2.2 _ (List.mem_of_getElem? (l := wsX6_execute) (i := 1) (a := .classLink RX6 48 "java/lang/IllegalArgumentException") (by decide +kernel))) (F.1.2.2.2.2 _ (List.mem_of_getElem? (l := wsX6_execute) (i := 2) (a := .initialized "java/lang/IllegalArgumentException") (by decide +kernel))) (List.mem_of_getElem? (l := cq_sr) (i := 11) rfl) (fun w h => F.1.2.2.2.2 w ((fun w h => List.mem_cons_of_mem _ (List.mem_append_right _ h)) w h)) xn_48_52 xg_48_52 dX6_execute_10 dX6_execute_13 dX6_execute_14 dX6_execute_16 dX6_execute_19 ⟨by decide, Nat.le_of_ble_eq_true rfl, by decide, by decide⟩ ⟨by decide, by decide⟩ ?_
    exact ⟨by rfl, (h.read hk h_4.2.2).1, (h.read hk h_4.2.2).2, by rw [show op_exec S = (1, 0, S) from if_neg c_7], by rw [show op_exec S = (1, 0, S) from if_neg c_7]⟩
theorem hdVX6_execute : yX6_execute.cls = RX6 ∧ yX6_execute.cls ≠ "java/lang/invoke/MethodHandle" ∧ yX6_execute.cls ≠ "java/lang/invoke/VarHandle" ∧ (parseMethodDescriptor yX6_execute.desc).map (fun d => d.parameters.length) = some 0 := by decide +kernel
