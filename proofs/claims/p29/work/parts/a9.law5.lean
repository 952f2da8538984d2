/-! the law looks at what would be -/
abbrev rmL_would : Room := ({ frames := 8, cells := 30, slots := 400, locals := 133 })
set_option maxHeartbeats 4000000 in
set_option maxRecDepth 100000 in
theorem kL_would (l : Launch) (D : va_G) (cA : Nat → ClassId) (X : cq_X) (Bs : Nat) (hl : l.stackTraces = false) (o ta ca ra na ba B : Nat) (t c r n b : Nat → Nat) (S : as_T) (M : cq_M) (ha : la X ta ca ra na ba) (hm : lm M ta ca ra na ba t c r n b) (hb : cq_isClock X o) (h : ck M o S) (hk : as_ok S B) (hrel : lr t c r n b (S_g S 1) (S_g S)) (hB : B ≤ 9999) (ho : o + 249 ≤ ta) : cq_C l yL_would wsL_would rmL_would D cA X Bs [.ref o, .ref ta, .ref ca, .ref ra, .ref na, .ref ba] M (cq_PI (fun rv M1 => rv = 1 ∧ ck M1 o S ∧ lm M1 ta ca ra na ba t c r n b)) 30 400 := by
  refine cq_met (cc := cL_would) (maxL := 14) (ret := (some .boolean)) (by decide) rfl (Nat.le_of_ble_eq_true rfl) [(0, .ref o), (1, .ref ta), (2, .ref ca), (3, .ref ra), (4, .ref na), (5, .ref ba)] rfl rfl ?_
  intro p9 e9 s9 m9 b9 t9 c9 F hr
  obtain ⟨ht, hc, hr0, hn0, hb0, hd1, hd2, hd3, hd4⟩ := id ha
  have h6 := hk.1.1
  obtain ⟨n0, n1, n2, n3, n4, n5, n6, n7, n8⟩ := id hrel.1
  have hlsm := ns_lsum_le (g := S_g S) (n := S_g S 6) (fun c hc => hk.1.2.2.2.1 c hc)
  have loop_6 : ∀ (n_6 : Nat) (i : Nat) (M2 : cq_M), i ≤ S_g S 6 → ck M2 o S → lm M2 ta ca ra na ba t c r n b → S_g S 6 - i < n_6 → cq_V p9 l e9 rmL_would s9 m9 ([.ref o, .ref ta, .ref ca, .ref ra, .ref na, .ref ba] : List Value).toArray b9 t9 c9 D cA X Bs 14 ((6 * i)) ((90 * i)) (MQ b9 (cq_Q D cA X Bs (cq_PI (fun rv M1 => rv = 1 ∧ ck M1 o S ∧ lm M1 ta ca ra na ba t c r n b))) ([.ref o, .ref ta, .ref ca, .ref ra, .ref na, .ref ba] : List Value).toArray s9 30 400 (cq_A Bs)) 6 [(0, .ref o), (1, .ref ta), (2, .ref ca), (3, .ref ra), (4, .ref na), (5, .ref ba), (6, .int 1), (7, .int (nI i))] [] M2 := by
    intro n_6
    induction n_6 with
    | zero =>
      intros
      omega
    | succ n_6 ih_6 =>
      intro i M2 hi hck2 hm2 hn
      have loop_74 : ∀ (n_74 : Nat) (X1 : cq_X) (qa qb qc qd k : Nat) (t2 c2 r2 n2 b2 : Nat → Nat) (M3 : cq_M), la X1 ta qa qb qc qd → cq_isClock X1 o → cq_ge X X1 → ba < qa → i < S_g S 6 → (k ≤ 2000 → ns_oi (S_g S) i 0 2000 = ns_oi (S_g S) i k (2000 - k)) → k + ns_lsum (ns_steps (S_g S) k) (S_g S 6) ≤ 1440 → lm M3 ta qa qb qc qd t2 c2 r2 n2 b2 → lr t2 c2 r2 n2 b2 ((ns_steps (S_g S) k) 1) (ns_steps (S_g S) k) → (∀ x, x < qa → M3 x = M2 x) → ns_lsum (ns_steps (S_g S) k) (S_g S 6) < n_74 → cq_V p9 l e9 rmL_would s9 m9 ([.ref o, .ref ta, .ref ca, .ref ra, .ref na, .ref ba] : List Value).toArray b9 t9 c9 D cA X1 Bs 14 ((6 * i + 4)) ((90 * i + 69)) (MQ b9 (cq_Q D cA X Bs (cq_PI (fun rv M1 => rv = 1 ∧ ck M1 o S ∧ lm M1 ta ca ra na ba t c r n b))) ([.ref o, .ref ta, .ref ca, .ref ra, .ref na, .ref ba] : List Value).toArray s9 30 400 (cq_A Bs)) 74 [(0, .ref o), (1, .ref ta), (2, .ref ca), (3, .ref ra), (4, .ref na), (5, .ref ba), (6, .int 1), (7, .int (nI i)), (8, .ref qa), (9, .ref qb), (10, .ref qc), (11, .ref qd), (12, .int (nI k))] [] M3 := by
        intro n_74
        induction n_74 with
        | zero =>
          intros
          omega
        | succ n_74 ih_74 =>
          intro X1 qa qb qc qd k t2 c2 r2 n2 b2 M3 haX hbX hgX hqa hi9 hoi hkb hm3 h3 hf3 hn3
          obtain ⟨hks, e6k, -, -⟩ := ns_steps_ok hk.1 k
          have hqs := (hks.2.2.2.1 i (by omega)).time
          have hlt : ns_left (ns_steps (S_g S) k) i ≤ 360 := by unfold ns_left; omega
          have hfl9 : ns_flames (ns_steps (S_g S) k) (S_g S 6) ≤ 2 * S_g S 6 := ns_flames_le (fun c2 hc2 => (hks.2.2.2.1 c2 (by omega)).2.2.2.1)
          obtain ⟨-, -, -, -, -, hx1, hx2, hx3, hx4⟩ := id haX
          refine cq_aload_n F (i := 1) dL_would_74 rfl rfl ?_
          refine cq_aload F dL_would_75 rfl ?_
          refine cq_iload F dL_would_77 rfl ?_
          refine cq_callS F (nL_left (X := X1) (l := l) (D := D) (cA := cA) (Bs := Bs) haX.1 haX.2.1 hm3.1 hm3.2.1 h3 hks (by omega)) (va_cwS 3 F.1.2.2.2.2 gL_would_L_left rfl rfl rfl hdVL_left.2 ⟨Nat.le_of_ble_eq_true rfl, Nat.le_of_ble_eq_true rfl⟩) rfl (Nat.le_of_ble_eq_true rfl) dL_would_79 ⟨by show _ ≤ 30; omega, by show _ ≤ 400; omega⟩ (cq_kIp fun r_79 h_79 => ?_)
          subst h_79
          refine cq_if_le F (tgt := 115) dL_would_82 (by decide) (fun c_82 => ?_) (fun c_82 => ?_)
          · have c_82 : (ns_left (ns_steps (S_g S) k) i) ≤ 0 := (nI_b (a := (ns_left (ns_steps (S_g S) k) i)) (b := 0) (by omega) (by omega)).1.mp c_82
            have hend : ¬ (0 < ns_left (ns_steps (S_g S) k) i ∧ 0 < ns_flames (ns_steps (S_g S) k) (S_g S 6)) := by omega
            refine cq_aload_n F (i := 0) dL_would_115 rfl rfl ?_
            refine cq_iload F dL_would_116 rfl ?_
            refine cq_callV F (C := RX6) (ci := 7) (nq_outIn (l := l) (D := D) (cA := cA) (Bs := Bs) hl hbX (ck.far hck2 hk (fun x x1 x2 => hf3 x (by omega))) hk (by omega) i hi9) (cwV 1 F.1.2.2.2.2 gL_would_X6_outIn rfl rfl rfl hdVX6_outIn ⟨Nat.le_of_ble_eq_true rfl, Nat.le_of_ble_eq_true rfl⟩) hbX.kind ⟨by decide, by decide⟩ rfl rfl rfl (Nat.le_of_ble_eq_true rfl) dL_would_118 ⟨by show _ ≤ 30; omega, by show _ ≤ 400; omega⟩ (cq_kI fun r_118 M_118 h_118 => ?_)
            have hck118 := h_118.2.1
            have hf118 := h_118.2.2
            refine cq_aload_n F (i := 1) dL_would_121 rfl rfl ?_
            refine cq_aload F dL_would_122 rfl ?_
            refine cq_iload F dL_would_124 rfl ?_
            refine cq_callS F (nL_left (X := X1) (l := l) (D := D) (cA := cA) (Bs := Bs) haX.1 haX.2.1 (hm3.1.same (fun j => congrFun (hf118 _ (by omega)) j)) (hm3.2.1.same (fun j => congrFun (hf118 _ (by omega)) j)) h3 hks (by omega)) (va_cwS 3 F.1.2.2.2.2 gL_would_L_left rfl rfl rfl hdVL_left.2 ⟨Nat.le_of_ble_eq_true rfl, Nat.le_of_ble_eq_true rfl⟩) rfl (Nat.le_of_ble_eq_true rfl) dL_would_126 ⟨by show _ ≤ 30; omega, by show _ ≤ 400; omega⟩ (cq_kIp fun r_126 h_126 => ?_)
            subst h_126
            refine cq_if_ne F (tgt := 137) dL_would_129 (by decide) (fun c_129 => ?_) (fun c_129 => ?_)
            · have c_129 : ¬ (ns_left (ns_steps (S_g S) k) i) = 0 := fun z => c_129 ((nI_b (a := (ns_left (ns_steps (S_g S) k) i)) (b := 0) (by omega) (by omega)).2.2.mpr z)
              refine cq_iconst F (v := (-1)) dL_would_137 rfl ?_
              refine cq_icmp_ne F (tgt := 145) dL_would_138 (by decide) (fun c_138 => ?_) (fun c_138 => ?_)
              · exact absurd c_138 (fun z => z (by rw [h_118.1]; unfold ns_outIn; rw [hoi (by omega), ns_oi_end (by omega) (Or.inr hend)]; exact if_neg c_129))
              · refine cq_iconst F (v := 1) dL_would_141 rfl ?_
                refine cq_goto F (tgt := 146) dL_would_142 (by decide) ?_
                refine cq_istore F dL_would_146 (by decide) ?_
                refine cq_iinc F dL_would_148 rfl (by decide) (fun x_148 e_148 => ?_)
                obtain rfl : x_148 = nI (i + 1) := by rw [e_148]; exact nI_1 _
                refine cq_goto F (tgt := 6) dL_would_151 (by decide) ?_
                refine cq_widen (k := (6 * (i + 1))) (n := (90 * (i + 1))) (by omega) (by omega) ?_
                refine cq_shrink (X0 := X) (M0 := M_118) hgX (fun _ _ => rfl) ?_
                refine cq_loc (L2 := [(0, .ref o), (1, .ref ta), (2, .ref ca), (3, .ref ra), (4, .ref na), (5, .ref ba), (6, .int 1), (7, .int (nI (i + 1)))]) rfl ?_
                exact ih_6 (i + 1) M_118 (by omega) hck118 (hm2.same (fun x hx => by rw [hf118 x (by omega), hf3 x (by omega)])) (by omega)
            · have c_129 : (ns_left (ns_steps (S_g S) k) i) = 0 := (nI_b (a := (ns_left (ns_steps (S_g S) k) i)) (b := 0) (by omega) (by omega)).2.2.mp c_129
              refine cq_iload F dL_would_132 rfl ?_
              refine cq_goto F (tgt := 138) dL_would_134 (by decide) ?_
              refine cq_icmp_ne F (tgt := 145) dL_would_138 (by decide) (fun c_138 => ?_) (fun c_138 => ?_)
              · exact absurd c_138 (fun z => z (by rw [h_118.1]; unfold ns_outIn; rw [hoi (by omega), ns_oi_end (by omega) (Or.inr hend)]; exact if_pos c_129))
              · refine cq_iconst F (v := 1) dL_would_141 rfl ?_
                refine cq_goto F (tgt := 146) dL_would_142 (by decide) ?_
                refine cq_istore F dL_would_146 (by decide) ?_
                refine cq_iinc F dL_would_148 rfl (by decide) (fun x_148 e_148 => ?_)
                obtain rfl : x_148 = nI (i + 1) := by rw [e_148]; exact nI_1 _
                refine cq_goto F (tgt := 6) dL_would_151 (by decide) ?_
                refine cq_widen (k := (6 * (i + 1))) (n := (90 * (i + 1))) (by omega) (by omega) ?_
                refine cq_shrink (X0 := X) (M0 := M_118) hgX (fun _ _ => rfl) ?_
                refine cq_loc (L2 := [(0, .ref o), (1, .ref ta), (2, .ref ca), (3, .ref ra), (4, .ref na), (5, .ref ba), (6, .int 1), (7, .int (nI (i + 1)))]) rfl ?_
                exact ih_6 (i + 1) M_118 (by omega) hck118 (hm2.same (fun x hx => by rw [hf118 x (by omega), hf3 x (by omega)])) (by omega)
          · have c_82 : ¬ (ns_left (ns_steps (S_g S) k) i) ≤ 0 := fun z => c_82 ((nI_b (a := (ns_left (ns_steps (S_g S) k) i)) (b := 0) (by omega) (by omega)).1.mpr z)
            refine cq_aload F dL_would_85 rfl ?_
            refine cq_aload F dL_would_87 rfl ?_
            refine cq_callS F (kL_flames l D cA X1 Bs qa qc ((ns_steps (S_g S) k) 1) (B + k) t2 c2 r2 n2 b2 (ns_steps (S_g S) k) M3 haX.2.1 haX.2.2.2.1 hm3.2.1 hm3.2.2.2.1 h3 hks) (va_cwS 2 F.1.2.2.2.2 gL_would_L_flames rfl rfl rfl hdVL_flames.2 ⟨Nat.le_of_ble_eq_true rfl, Nat.le_of_ble_eq_true rfl⟩) rfl (Nat.le_of_ble_eq_true rfl) dL_would_89 ⟨by show _ ≤ 30; omega, by show _ ≤ 400; omega⟩ (cq_kIp fun r_89 h_89 => ?_)
            rw [e6k] at h_89
            subst h_89
            refine cq_if_le F (tgt := 115) dL_would_92 (by decide) (fun c_92 => ?_) (fun c_92 => ?_)
            · have c_92 : (ns_flames (ns_steps (S_g S) k) (S_g S 6)) ≤ 0 := (nI_b (a := (ns_flames (ns_steps (S_g S) k) (S_g S 6))) (b := 0) (by omega) (by omega)).1.mp c_92
              have hend : ¬ (0 < ns_left (ns_steps (S_g S) k) i ∧ 0 < ns_flames (ns_steps (S_g S) k) (S_g S 6)) := by omega
              refine cq_aload_n F (i := 0) dL_would_115 rfl rfl ?_
              refine cq_iload F dL_would_116 rfl ?_
              refine cq_callV F (C := RX6) (ci := 7) (nq_outIn (l := l) (D := D) (cA := cA) (Bs := Bs) hl hbX (ck.far hck2 hk (fun x x1 x2 => hf3 x (by omega))) hk (by omega) i hi9) (cwV 1 F.1.2.2.2.2 gL_would_X6_outIn rfl rfl rfl hdVX6_outIn ⟨Nat.le_of_ble_eq_true rfl, Nat.le_of_ble_eq_true rfl⟩) hbX.kind ⟨by decide, by decide⟩ rfl rfl rfl (Nat.le_of_ble_eq_true rfl) dL_would_118 ⟨by show _ ≤ 30; omega, by show _ ≤ 400; omega⟩ (cq_kI fun r_118 M_118 h_118 => ?_)
              have hck118 := h_118.2.1
              have hf118 := h_118.2.2
              refine cq_aload_n F (i := 1) dL_would_121 rfl rfl ?_
              refine cq_aload F dL_would_122 rfl ?_
              refine cq_iload F dL_would_124 rfl ?_
              refine cq_callS F (nL_left (X := X1) (l := l) (D := D) (cA := cA) (Bs := Bs) haX.1 haX.2.1 (hm3.1.same (fun j => congrFun (hf118 _ (by omega)) j)) (hm3.2.1.same (fun j => congrFun (hf118 _ (by omega)) j)) h3 hks (by omega)) (va_cwS 3 F.1.2.2.2.2 gL_would_L_left rfl rfl rfl hdVL_left.2 ⟨Nat.le_of_ble_eq_true rfl, Nat.le_of_ble_eq_true rfl⟩) rfl (Nat.le_of_ble_eq_true rfl) dL_would_126 ⟨by show _ ≤ 30; omega, by show _ ≤ 400; omega⟩ (cq_kIp fun r_126 h_126 => ?_)
              subst h_126
              refine cq_if_ne F (tgt := 137) dL_would_129 (by decide) (fun c_129 => ?_) (fun c_129 => ?_)
              · have c_129 : ¬ (ns_left (ns_steps (S_g S) k) i) = 0 := fun z => c_129 ((nI_b (a := (ns_left (ns_steps (S_g S) k) i)) (b := 0) (by omega) (by omega)).2.2.mpr z)
                refine cq_iconst F (v := (-1)) dL_would_137 rfl ?_
                refine cq_icmp_ne F (tgt := 145) dL_would_138 (by decide) (fun c_138 => ?_) (fun c_138 => ?_)
                · exact absurd c_138 (fun z => z (by rw [h_118.1]; unfold ns_outIn; rw [hoi (by omega), ns_oi_end (by omega) (Or.inr hend)]; exact if_neg c_129))
                · refine cq_iconst F (v := 1) dL_would_141 rfl ?_
                  refine cq_goto F (tgt := 146) dL_would_142 (by decide) ?_
                  refine cq_istore F dL_would_146 (by decide) ?_
                  refine cq_iinc F dL_would_148 rfl (by decide) (fun x_148 e_148 => ?_)
                  obtain rfl : x_148 = nI (i + 1) := by rw [e_148]; exact nI_1 _
                  refine cq_goto F (tgt := 6) dL_would_151 (by decide) ?_
                  refine cq_widen (k := (6 * (i + 1))) (n := (90 * (i + 1))) (by omega) (by omega) ?_
                  refine cq_shrink (X0 := X) (M0 := M_118) hgX (fun _ _ => rfl) ?_
                  refine cq_loc (L2 := [(0, .ref o), (1, .ref ta), (2, .ref ca), (3, .ref ra), (4, .ref na), (5, .ref ba), (6, .int 1), (7, .int (nI (i + 1)))]) rfl ?_
                  exact ih_6 (i + 1) M_118 (by omega) hck118 (hm2.same (fun x hx => by rw [hf118 x (by omega), hf3 x (by omega)])) (by omega)
              · have c_129 : (ns_left (ns_steps (S_g S) k) i) = 0 := (nI_b (a := (ns_left (ns_steps (S_g S) k) i)) (b := 0) (by omega) (by omega)).2.2.mp c_129
                refine cq_iload F dL_would_132 rfl ?_
                refine cq_goto F (tgt := 138) dL_would_134 (by decide) ?_
                refine cq_icmp_ne F (tgt := 145) dL_would_138 (by decide) (fun c_138 => ?_) (fun c_138 => ?_)
                · exact absurd c_138 (fun z => z (by rw [h_118.1]; unfold ns_outIn; rw [hoi (by omega), ns_oi_end (by omega) (Or.inr hend)]; exact if_pos c_129))
                · refine cq_iconst F (v := 1) dL_would_141 rfl ?_
                  refine cq_goto F (tgt := 146) dL_would_142 (by decide) ?_
                  refine cq_istore F dL_would_146 (by decide) ?_
                  refine cq_iinc F dL_would_148 rfl (by decide) (fun x_148 e_148 => ?_)
                  obtain rfl : x_148 = nI (i + 1) := by rw [e_148]; exact nI_1 _
                  refine cq_goto F (tgt := 6) dL_would_151 (by decide) ?_
                  refine cq_widen (k := (6 * (i + 1))) (n := (90 * (i + 1))) (by omega) (by omega) ?_
                  refine cq_shrink (X0 := X) (M0 := M_118) hgX (fun _ _ => rfl) ?_
                  refine cq_loc (L2 := [(0, .ref o), (1, .ref ta), (2, .ref ca), (3, .ref ra), (4, .ref na), (5, .ref ba), (6, .int 1), (7, .int (nI (i + 1)))]) rfl ?_
                  exact ih_6 (i + 1) M_118 (by omega) hck118 (hm2.same (fun x hx => by rw [hf118 x (by omega), hf3 x (by omega)])) (by omega)
            · have c_92 : ¬ (ns_flames (ns_steps (S_g S) k) (S_g S 6)) ≤ 0 := fun z => c_92 ((nI_b (a := (ns_flames (ns_steps (S_g S) k) (S_g S 6))) (b := 0) (by omega) (by omega)).1.mpr z)
              refine cq_aload_n F (i := 1) dL_would_95 rfl rfl ?_
              refine cq_aload F dL_would_96 rfl ?_
              refine cq_aload F dL_would_98 rfl ?_
              refine cq_aload F dL_would_100 rfl ?_
              refine cq_aload F dL_would_102 rfl ?_
              refine cq_callS F (kL_steps l D cA X1 Bs ta qa qb qc qd (B + k) t2 c2 r2 n2 b2 (ns_steps (S_g S) k) M3 haX hm3 h3 hks (by omega)) (va_cwS 5 F.1.2.2.2.2 gL_would_L_steps rfl rfl rfl hdVL_steps.2 ⟨Nat.le_of_ble_eq_true rfl, Nat.le_of_ble_eq_true rfl⟩) rfl (Nat.le_of_ble_eq_true rfl) dL_would_104 ⟨by show _ ≤ 30; omega, by show _ ≤ 400; omega⟩ (cq_kI fun r_104 M_104 h_104 => ?_)
              obtain ⟨t4, c4, r4, n4, b4, hm4, h4⟩ := h_104.2.1
              have hdec := ns_lsum_step hks (by rw [e6k]; omega)
              rw [e6k] at hdec
              refine cq_nmi (fun x_107 e_107 => ?_)
              refine cq_istore F dL_would_107 (by decide) ?_
              refine cq_iinc F dL_would_109 rfl (by decide) (fun x_109 e_109 => ?_)
              obtain rfl : x_109 = nI (k + 1) := by rw [e_109]; exact nI_1 _
              refine cq_goto F (tgt := 74) dL_would_112 (by decide) ?_
              refine cq_widen (k := (6 * i + 4)) (n := (90 * i + 69)) (by omega) (by omega) ?_
              refine cq_loc (L2 := [(0, .ref o), (1, .ref ta), (2, .ref ca), (3, .ref ra), (4, .ref na), (5, .ref ba), (6, .int 1), (7, .int (nI i)), (8, .ref qa), (9, .ref qb), (10, .ref qc), (11, .ref qd), (12, .int (nI (k + 1)))]) rfl ?_
              exact ih_74 X1 qa qb qc qd (k + 1) t4 c4 r4 n4 b4 M_104 haX hbX hgX hqa hi9 (fun z => by rw [hoi (by omega), ns_oi_go (by omega) (by omega) (by omega)]) (by show k + 1 + ns_lsum (ns_step (ns_steps (S_g S) k)) (S_g S 6) ≤ 1440; omega) hm4 h4 (fun x hx => by rw [h_104.2.2 x (by omega) (by omega) (by omega) (by omega)]; exact hf3 x hx) (by show ns_lsum (ns_step (ns_steps (S_g S) k)) (S_g S 6) < _; omega)
      refine cq_iload F dL_would_6 rfl ?_
      refine cq_aload F dL_would_8 rfl ?_
      refine cq_bipush F (v := 6) dL_would_10 (by decide) ?_
      refine cq_iald_j F (j := 6) hn0.1 hn0.2 rfl ⟨(by omega), by decide⟩ dL_would_12 ?_
      rw [hm2.2.2.2.1 _ (by omega)]
      refine cq_icmp_ge F (tgt := 154) dL_would_13 (by decide) (fun c_13 => ?_) (fun c_13 => ?_)
      · have c_13 : (n (6)) ≤ i := (nI_b (a := (n (6))) (b := i) (by omega) (by omega)).1.mp c_13
        refine cq_iload F dL_would_154 rfl ?_
        exact cq_zret F hr (by rfl) (by omega) (by omega) dL_would_156 ⟨_, rfl, ⟨rfl, hck2, hm2⟩⟩
      · have c_13 : ¬ (n (6)) ≤ i := fun z => c_13 ((nI_b (a := (n (6))) (b := i) (by omega) (by omega)).1.mpr z)
        have hi9 : i < S_g S 6 := by omega
        refine cq_iload F dL_would_16 rfl ?_
        refine cq_if_eq F (tgt := 154) dL_would_18 (by decide) (fun c_18 => ?_) (fun c_18 => ?_)
        · have c_18 : 1 = 0 := (nI_b (a := 1) (b := 0) (by omega) (by omega)).2.2.mp c_18
          omega
        · have c_18 : ¬ 1 = 0 := fun z => c_18 ((nI_b (a := 1) (b := 0) (by omega) (by omega)).2.2.mpr z)
          refine cq_bipush F (v := 20) dL_would_21 (by decide) ?_
          refine cq_newI F (N := 20) (F.1.2.2.2.2 _ (List.mem_of_getElem? (l := wsL_would) (i := 1) (a := .arrayClass .int) (by decide +kernel))) rfl (by decide) ⟨by show _ ≤ 30; omega, by show _ ≤ 400; omega⟩ dL_would_23 (fun q_23 X_23 M_23 hlt_23 hge_23 hrw_23 hM_23 hz_23 hlt2_23 => ?_)
          have l23 : ba < q_23 := hlt_23 _ (by rw [hb0.1]; decide)
          have hb := hb.ge hge_23
          have ht := ht.ge hge_23
          have hc := hc.ge hge_23
          have hr0 := hr0.ge hge_23
          have hn0 := hn0.ge hge_23
          have hb0 := hb0.ge hge_23
          have v_23_ta := hm2.1.same (fun j => congrFun (hM_23 _ (by omega)) j)
          have v_23_ca := hm2.2.1.same (fun j => congrFun (hM_23 _ (by omega)) j)
          have v_23_ra := hm2.2.2.1.same (fun j => congrFun (hM_23 _ (by omega)) j)
          have v_23_na := hm2.2.2.2.1.same (fun j => congrFun (hM_23 _ (by omega)) j)
          have v_23_ba := hm2.2.2.2.2.same (fun j => congrFun (hM_23 _ (by omega)) j)
          refine cq_astore F dL_would_25 (by decide) ?_
          refine cq_bipush F (v := 32) dL_would_27 (by decide) ?_
          refine cq_newI F (N := 32) (F.1.2.2.2.2 _ (List.mem_of_getElem? (l := wsL_would) (i := 1) (a := .arrayClass .int) (by decide +kernel))) rfl (by decide) ⟨by show _ ≤ 30; omega, by show _ ≤ 400; omega⟩ dL_would_29 (fun q_29 X_29 M_29 hlt_29 hge_29 hrw_29 hM_29 hz_29 hlt2_29 => ?_)
          have l29 : q_23 < q_29 := hlt_29 _ (by rw [hrw_23.1]; decide)
          have hb := hb.ge hge_29
          have ht := ht.ge hge_29
          have hc := hc.ge hge_29
          have hr0 := hr0.ge hge_29
          have hn0 := hn0.ge hge_29
          have hb0 := hb0.ge hge_29
          have hrw_23 := lq_row.ge hrw_23 hge_29
          have v_29_ta := v_23_ta.same (fun j => congrFun (hM_29 _ (by omega)) j)
          have v_29_ca := v_23_ca.same (fun j => congrFun (hM_29 _ (by omega)) j)
          have v_29_ra := v_23_ra.same (fun j => congrFun (hM_29 _ (by omega)) j)
          have v_29_na := v_23_na.same (fun j => congrFun (hM_29 _ (by omega)) j)
          have v_29_ba := v_23_ba.same (fun j => congrFun (hM_29 _ (by omega)) j)
          have v_29_q_23 := hz_23.same (fun j => congrFun (hM_29 _ (by omega)) j)
          refine cq_astore F dL_would_31 (by decide) ?_
          refine cq_bipush F (v := 9) dL_would_33 (by decide) ?_
          refine cq_newI F (N := 9) (F.1.2.2.2.2 _ (List.mem_of_getElem? (l := wsL_would) (i := 1) (a := .arrayClass .int) (by decide +kernel))) rfl (by decide) ⟨by show _ ≤ 30; omega, by show _ ≤ 400; omega⟩ dL_would_35 (fun q_35 X_35 M_35 hlt_35 hge_35 hrw_35 hM_35 hz_35 hlt2_35 => ?_)
          have l35 : q_29 < q_35 := hlt_35 _ (by rw [hrw_29.1]; decide)
          have hb := hb.ge hge_35
          have ht := ht.ge hge_35
          have hc := hc.ge hge_35
          have hr0 := hr0.ge hge_35
          have hn0 := hn0.ge hge_35
          have hb0 := hb0.ge hge_35
          have hrw_23 := lq_row.ge hrw_23 hge_35
          have hrw_29 := lq_row.ge hrw_29 hge_35
          have v_35_ta := v_29_ta.same (fun j => congrFun (hM_35 _ (by omega)) j)
          have v_35_ca := v_29_ca.same (fun j => congrFun (hM_35 _ (by omega)) j)
          have v_35_ra := v_29_ra.same (fun j => congrFun (hM_35 _ (by omega)) j)
          have v_35_na := v_29_na.same (fun j => congrFun (hM_35 _ (by omega)) j)
          have v_35_ba := v_29_ba.same (fun j => congrFun (hM_35 _ (by omega)) j)
          have v_35_q_23 := v_29_q_23.same (fun j => congrFun (hM_35 _ (by omega)) j)
          have v_35_q_29 := hz_29.same (fun j => congrFun (hM_35 _ (by omega)) j)
          refine cq_astore F dL_would_37 (by decide) ?_
          refine cq_bipush F (v := 8) dL_would_39 (by decide) ?_
          refine cq_newI F (N := 8) (F.1.2.2.2.2 _ (List.mem_of_getElem? (l := wsL_would) (i := 1) (a := .arrayClass .int) (by decide +kernel))) rfl (by decide) ⟨by show _ ≤ 30; omega, by show _ ≤ 400; omega⟩ dL_would_41 (fun q_41 X_41 M_41 hlt_41 hge_41 hrw_41 hM_41 hz_41 hlt2_41 => ?_)
          have l41 : q_35 < q_41 := hlt_41 _ (by rw [hrw_35.1]; decide)
          have hb := hb.ge hge_41
          have ht := ht.ge hge_41
          have hc := hc.ge hge_41
          have hr0 := hr0.ge hge_41
          have hn0 := hn0.ge hge_41
          have hb0 := hb0.ge hge_41
          have hrw_23 := lq_row.ge hrw_23 hge_41
          have hrw_29 := lq_row.ge hrw_29 hge_41
          have hrw_35 := lq_row.ge hrw_35 hge_41
          have v_41_ta := v_35_ta.same (fun j => congrFun (hM_41 _ (by omega)) j)
          have v_41_ca := v_35_ca.same (fun j => congrFun (hM_41 _ (by omega)) j)
          have v_41_ra := v_35_ra.same (fun j => congrFun (hM_41 _ (by omega)) j)
          have v_41_na := v_35_na.same (fun j => congrFun (hM_41 _ (by omega)) j)
          have v_41_ba := v_35_ba.same (fun j => congrFun (hM_41 _ (by omega)) j)
          have v_41_q_23 := v_35_q_23.same (fun j => congrFun (hM_41 _ (by omega)) j)
          have v_41_q_29 := v_35_q_29.same (fun j => congrFun (hM_41 _ (by omega)) j)
          have v_41_q_35 := hz_35.same (fun j => congrFun (hM_41 _ (by omega)) j)
          refine cq_astore F dL_would_43 (by decide) ?_
          refine cq_aload_n F (i := 2) dL_would_45 rfl rfl ?_
          refine cq_aload F dL_would_46 rfl ?_
          refine cq_callS F (kL_copy l D cA X_41 Bs ca q_23 20 c M_41 hc hrw_23 (by decide) v_41_ca (by omega)) (va_cwS 2 F.1.2.2.2.2 gL_would_L_copy rfl rfl rfl hdVL_copy.2 ⟨Nat.le_of_ble_eq_true rfl, Nat.le_of_ble_eq_true rfl⟩) rfl (Nat.le_of_ble_eq_true rfl) dL_would_48 ⟨by show _ ≤ 30; omega, by show _ ≤ 400; omega⟩ (cq_kV fun M_48 h_48 => ?_)
          refine cq_aload_n F (i := 3) dL_would_51 rfl rfl ?_
          refine cq_aload F dL_would_52 rfl ?_
          refine cq_callS F (kL_copy l D cA X_41 Bs ra q_29 32 r M_48 hr0 hrw_29 (by decide) (v_41_ra.same (fun j => congrFun (h_48.2 _ (by omega)) j)) (by omega)) (va_cwS 2 F.1.2.2.2.2 gL_would_L_copy rfl rfl rfl hdVL_copy.2 ⟨Nat.le_of_ble_eq_true rfl, Nat.le_of_ble_eq_true rfl⟩) rfl (Nat.le_of_ble_eq_true rfl) dL_would_54 ⟨by show _ ≤ 30; omega, by show _ ≤ 400; omega⟩ (cq_kV fun M_54 h_54 => ?_)
          refine cq_aload F dL_would_57 rfl ?_
          refine cq_aload F dL_would_59 rfl ?_
          refine cq_callS F (kL_copy l D cA X_41 Bs na q_35 9 n M_54 hn0 hrw_35 (by decide) ((v_41_na.same (fun j => congrFun (h_48.2 _ (by omega)) j)).same (fun j => congrFun (h_54.2 _ (by omega)) j)) (by omega)) (va_cwS 2 F.1.2.2.2.2 gL_would_L_copy rfl rfl rfl hdVL_copy.2 ⟨Nat.le_of_ble_eq_true rfl, Nat.le_of_ble_eq_true rfl⟩) rfl (Nat.le_of_ble_eq_true rfl) dL_would_61 ⟨by show _ ≤ 30; omega, by show _ ≤ 400; omega⟩ (cq_kV fun M_61 h_61 => ?_)
          refine cq_aload F dL_would_64 rfl ?_
          refine cq_aload F dL_would_66 rfl ?_
          refine cq_callS F (kL_copy l D cA X_41 Bs ba q_41 8 b M_61 hb0 hrw_41 (by decide) (((v_41_ba.same (fun j => congrFun (h_48.2 _ (by omega)) j)).same (fun j => congrFun (h_54.2 _ (by omega)) j)).same (fun j => congrFun (h_61.2 _ (by omega)) j)) (by omega)) (va_cwS 2 F.1.2.2.2.2 gL_would_L_copy rfl rfl rfl hdVL_copy.2 ⟨Nat.le_of_ble_eq_true rfl, Nat.le_of_ble_eq_true rfl⟩) rfl (Nat.le_of_ble_eq_true rfl) dL_would_68 ⟨by show _ ≤ 30; omega, by show _ ≤ 400; omega⟩ (cq_kV fun M_68 h_68 => ?_)
          refine cq_iconst F (v := 0) dL_would_71 rfl ?_
          refine cq_istore F dL_would_72 (by decide) ?_
          refine cq_widen (k := (6 * i + 4)) (n := (90 * i + 69)) (by omega) (by omega) ?_
          refine cq_loc (L2 := [(0, .ref o), (1, .ref ta), (2, .ref ca), (3, .ref ra), (4, .ref na), (5, .ref ba), (6, .int 1), (7, .int (nI i)), (8, .ref q_23), (9, .ref q_29), (10, .ref q_35), (11, .ref q_41), (12, .int (nI 0))]) rfl ?_
          exact loop_74 1441 X_41 q_23 q_29 q_35 q_41 0 t c r n b M_68 ⟨ht, hrw_23, hrw_29, hrw_35, hrw_41, by omega, l29, l35, l41⟩ hb (((hge_23.trans hge_29).trans hge_35).trans hge_41) l23 hi9 (fun _ => rfl) (by show 0 + ns_lsum (S_g S) (S_g S 6) ≤ 1440; omega) ⟨((((v_41_ta.same (fun j => congrFun (h_48.2 _ (by omega)) j)).same (fun j => congrFun (h_54.2 _ (by omega)) j)).same (fun j => congrFun (h_61.2 _ (by omega)) j)).same (fun j => congrFun (h_68.2 _ (by omega)) j)), (((h_48.1.same (fun j => congrFun (h_54.2 _ (by omega)) j)).same (fun j => congrFun (h_61.2 _ (by omega)) j)).same (fun j => congrFun (h_68.2 _ (by omega)) j)), ((h_54.1.same (fun j => congrFun (h_61.2 _ (by omega)) j)).same (fun j => congrFun (h_68.2 _ (by omega)) j)), (h_61.1.same (fun j => congrFun (h_68.2 _ (by omega)) j)), h_68.1⟩ hrel (fun x hx => by rw [h_68.2 x (by omega), h_61.2 x (by omega), h_54.2 x (by omega), h_48.2 x (by omega), hM_41 x (by omega), hM_35 x (by omega), hM_29 x (by omega), hM_23 x hx]) (by show ns_lsum (S_g S) (S_g S 6) < 1441; omega)
  refine cq_iconst F (v := 1) dL_would_0 rfl ?_
  refine cq_istore F dL_would_1 (by decide) ?_
  refine cq_iconst F (v := 0) dL_would_3 rfl ?_
  refine cq_istore F dL_would_4 (by decide) ?_
  refine cq_widen (k := (6 * 0)) (n := (90 * 0)) (by omega) (by omega) ?_
  refine cq_loc (L2 := [(0, .ref o), (1, .ref ta), (2, .ref ca), (3, .ref ra), (4, .ref na), (5, .ref ba), (6, .int 1), (7, .int (nI 0))]) rfl ?_
  exact loop_6 (S_g S 6 + 1) 0 M (by omega) h hm (by omega)
theorem hdVL_would : yL_would.cls = RL ∧ yL_would.cls ≠ "java/lang/invoke/MethodHandle" ∧ yL_would.cls ≠ "java/lang/invoke/VarHandle" ∧ (parseMethodDescriptor yL_would.desc).map (fun d => d.parameters.length) = some 6 := by decide +kernel
