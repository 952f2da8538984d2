/-! the law's calls -/
theorem lw_fill {t t3 : Nat → Nat} {a k v : Nat} {f : Nat → Nat} (hv : v = f (a + k - a)) (h : ∀ j, t3 j = if a ≤ j ∧ j < a + k then f (j - a) else t j) (j : Nat) : ns_up t3 (a + k) v j = if a ≤ j ∧ j < a + (k + 1) then f (j - a) else t j := by
  unfold ns_up
  by_cases e : j = a + k
  · subst e
    rw [if_pos rfl, if_pos ⟨by omega, by omega⟩]
    exact hv
  · rw [if_neg e, h j]
    by_cases c : a ≤ j ∧ j < a + k
    · rw [if_pos c, if_pos ⟨c.1, by omega⟩]
    · rw [if_neg c, if_neg (by omega)]
abbrev rmL_adds : Room := ({ frames := 7, cells := 5, slots := 40, locals := 114 })
set_option maxHeartbeats 4000000 in
set_option maxRecDepth 100000 in
theorem kL_adds (l : Launch) (D : va_G) (cA : Nat → ClassId) (X : cq_X) (Bs : Nat) (hl : l.stackTraces = false) (o ta ca ra na ba B : Nat) (x : Int32) (t c r n b : Nat → Nat) (S : as_T) (M : cq_M) (ha : la X ta ca ra na ba) (hm : lm M ta ca ra na ba t c r n b) (hb : cq_isClock X o) (h : ck M o S) (hk : as_ok S B) (hrel : lr t c r n b (S_g S 1) (S_g S)) (hB : B ≤ 9999) (ho : o + 249 ≤ ta) : cq_C l yL_adds wsL_adds rmL_adds D cA X Bs [.ref o, .ref ta, .ref ca, .ref na, .int x] M (cq_PI (fun rv M1 => rv = 1 ∧ la_P M1 o ta ca ra na ba B)) 5 40 := by
  refine cq_met (cc := cL_adds) (maxL := 8) (ret := (some .boolean)) (by decide) rfl (Nat.le_of_ble_eq_true rfl) [(0, .ref o), (1, .ref ta), (2, .ref ca), (3, .ref na), (4, .int x)] rfl rfl ?_
  intro p9 e9 s9 m9 b9 t9 c9 F hr
  obtain ⟨ht, hc, hr0, hn0, hb0, hd1, hd2, hd3, hd4⟩ := id ha
  have h6 := hk.1.1
  have h51 := hk.1.2.1
  obtain ⟨n0, n1, n2, n3, n4, n5, n6, n7, n8⟩ := id hrel.1
  have hvn9 := hm.2.2.2.1
  have loop_108 : ∀ (n_108 : Nat) (sg tm k : Nat) (t3 c3 : Nat → Nat) (M2 : cq_M), S_g S 6 < 4 → 1 ≤ sg → sg ≤ 6 → 1 ≤ tm → tm ≤ 60 → k ≤ 5 → cq_nv M2 ta 24 t3 → (∀ j, t3 j = if 6 * (S_g S 6) ≤ j ∧ j < 6 * (S_g S 6) + 6 then (if j - 6 * (S_g S 6) < sg then tm else 0) else t j) → cq_nv M2 ca 20 c3 → (∀ j, c3 j = if 5 * (S_g S 6) ≤ j ∧ j < 5 * (S_g S 6) + k then (if j - 5 * (S_g S 6) < 4 then 0 else 4294967295) else c j) → (∀ x, x ≠ ta → x ≠ ca → M2 x = M x) → 5 - k < n_108 → cq_V p9 l e9 rmL_adds s9 m9 ([.ref o, .ref ta, .ref ca, .ref na, .int x] : List Value).toArray b9 t9 c9 D cA X Bs 8 (0) (0) (MQ b9 (cq_Q D cA X Bs (cq_PI (fun rv M1 => rv = 1 ∧ la_P M1 o ta ca ra na ba B))) ([.ref o, .ref ta, .ref ca, .ref na, .int x] : List Value).toArray s9 5 40 (cq_A Bs)) 108 [(0, .ref o), (1, .ref ta), (2, .ref ca), (3, .ref na), (5, .int (nI sg)), (6, .int (nI tm)), (7, .int (nI k))] [] M2 := by
    intro n_108
    induction n_108 with
    | zero =>
      intros
      omega
    | succ n_108 ih_108 =>
      intro sg tm k t3 c3 M2 h64 hs1 hs6 ht1 ht60 hk6 hv3 h3 hv4 h4 hf2 hn108
      refine cq_iload F dL_adds_108 rfl ?_
      refine cq_iconst F (v := 5) dL_adds_110 rfl ?_
      refine cq_icmp_ge F (tgt := 142) dL_adds_111 (by decide) (fun c_111 => ?_) (fun c_111 => ?_)
      · have c_111 : 5 ≤ k := (nI_b (a := 5) (b := k) (by omega) (by omega)).1.mp c_111
        have hk5 : k = 5 := by omega
        refine cq_aload_n F (i := 3) dL_adds_142 rfl rfl ?_
        refine cq_bipush F (v := 6) dL_adds_143 (by decide) ?_
        refine cq_dup2 F dL_adds_145 rfl rfl ?_
        refine cq_iald_j F (j := 6) hn0.1 hn0.2 rfl ⟨(by omega), by decide⟩ dL_adds_146 ?_
        rw [(show M2 na 6 = nI (S_g S 6) by rw [hf2 na (by omega) (by omega), hvn9 _ (by omega), n6])]
        refine cq_iconst F (v := 1) dL_adds_147 rfl ?_
        refine cq_iadd F dL_adds_148 ?_
        rw [show (nI (S_g S 6) + 1 : Int32) = nI ((S_g S 6) + 1) from nI_add _ _]
        refine cq_iast_j F (j := 6) hn0.1 hn0.2 rfl ⟨(by omega), by decide⟩ dL_adds_149 (fun M_149 h_149 => ?_)
        have v_149_ta := hv3.ne h_149 (by omega)
        have v_149_ca := hv4.ne h_149 (by omega)
        obtain ⟨g_149, eg_149⟩ : ∃ z, z = ns_up n (6) (((S_g S 6) + 1)) := ⟨_, rfl⟩
        have v_149_na : cq_nv M_149 na 9 g_149 := by rw [eg_149]; exact (hm.2.2.2.1.same (fun j => congrFun (hf2 _ (by omega) (by omega)) j)).up h_149
        have e149 : g_149 6 = S_g S 6 + 1 := by rw [eg_149, ns_up_s]
        refine cq_aload_n F (i := 0) dL_adds_150 rfl rfl ?_
        refine cq_iload F dL_adds_151 rfl ?_
        refine cq_iload F dL_adds_153 rfl ?_
        refine cq_callV F (C := RX6) (ci := 7) (nq_cord (l := l) (D := D) (cA := cA) (Bs := Bs) hl hb (ck.far h hk (fun x x1 x2 => by rw [h_149, cq_up_row (by omega)]; exact hf2 x (by omega) (by omega))) hk sg tm ⟨hs1, hs6⟩ ⟨ht1, ht60⟩ h64) (cwV 2 F.1.2.2.2.2 gL_adds_X6_cord rfl rfl rfl hdVX6_cord ⟨Nat.le_of_ble_eq_true rfl, Nat.le_of_ble_eq_true rfl⟩) hb.kind ⟨by decide, by decide⟩ rfl rfl rfl (Nat.le_of_ble_eq_true rfl) dL_adds_155 ⟨by show _ ≤ 5; omega, by show _ ≤ 40; omega⟩ (cq_kI fun r_155 M_155 h_155 => ?_)
        obtain rfl : r_155 = nI (S_g S 6) := h_155.1
        refine cq_aload_n F (i := 3) dL_adds_158 rfl rfl ?_
        refine cq_bipush F (v := 6) dL_adds_159 (by decide) ?_
        refine cq_iald_j F (j := 6) hn0.1 hn0.2 rfl ⟨(by omega), by decide⟩ dL_adds_161 ?_
        rw [(v_149_na.same (fun j => congrFun (h_155.2.2 _ (by omega)) j)) _ (by omega)]
        refine cq_iconst F (v := 1) dL_adds_162 rfl ?_
        refine cq_isub F dL_adds_163 ?_
        rw [show (nI (g_149 (6)) - 1 : Int32) = nI ((g_149 (6)) - 1) from pk_sub (a := (g_149 (6))) (b := 1) (by omega)]
        refine cq_icmp_ne F (tgt := 171) dL_adds_164 (by decide) (fun c_164 => ?_) (fun c_164 => ?_)
        · have c_164 : ¬ (S_g S 6) = ((g_149 (6)) - 1) := fun z => c_164 ((nI_b (a := (S_g S 6)) (b := ((g_149 (6)) - 1)) (by omega) (by omega)).2.2.mpr z)
          omega
        · have c_164 : (S_g S 6) = ((g_149 (6)) - 1) := (nI_b (a := (S_g S 6)) (b := ((g_149 (6)) - 1)) (by omega) (by omega)).2.2.mp c_164
          refine cq_iconst F (v := 1) dL_adds_167 rfl ?_
          refine cq_goto F (tgt := 172) dL_adds_168 (by decide) ?_
          refine cq_zret F hr (by rfl) (by omega) (by omega) dL_adds_172 ⟨_, rfl, ?_⟩
          have hnk := hk.1.newCord h64 ⟨hs1, hs6⟩ (fun _ _ => ⟨ht1, ht60⟩) (tm := fun _ => tm)
          have hnr := hrel.new (t' := t3) (c' := c3) hk.1 h64 ⟨hs1, hs6⟩ (fun q hq => by rw [h3, if_pos (by omega), show 6 * S_g S 6 + q - 6 * S_g S 6 = q by omega]) (fun j hj => by rw [h3, if_neg (by omega)]) (fun q hq => by rw [h4, if_pos (by omega), if_pos (by omega)]) (by rw [h4, if_pos (by omega), if_neg (by omega)]) (fun j hj => by rw [h4, if_neg (by omega)]) (q := tm)
          have hfr : ∀ x, x ≠ ta → x ≠ ca → x ≠ na → (x < o ∨ o + 249 ≤ x) → M_155 x = M x := fun x x1 x2 x3 x4 => by rw [h_155.2.2 x x4, h_149, cq_up_row x3]; exact hf2 x x1 x2
          refine ⟨rfl, _, h_155.2.1, as_sv hk hnk (by omega) |>.mono (by omega), ⟨t3, c3, r, g_149, b, ⟨v_149_ta.same (fun j => congrFun (h_155.2.2 _ (by omega)) j), v_149_ca.same (fun j => congrFun (h_155.2.2 _ (by omega)) j), hm.2.2.1.same (fun j => congrFun (hfr _ (by omega) (by omega) (by omega) (by omega)) j), v_149_na.same (fun j => congrFun (h_155.2.2 _ (by omega)) j), hm.2.2.2.2.same (fun j => congrFun (hfr _ (by omega) (by omega) (by omega) (by omega)) j)⟩, ?_⟩, ?_⟩
          · rw [eg_149]
            show lr _ _ _ _ _ (ns_new (S_g S) sg (fun _ => tm) 1) (ns_new (S_g S) sg (fun _ => tm))
            rw [ns_new_n (by omega) (by omega)]
            exact hnr
          · show 1 ≤ ns_new (S_g S) sg (fun _ => tm) 6
            rw [ns_new_6]
            omega
      · have c_111 : ¬ 5 ≤ k := fun z => c_111 ((nI_b (a := 5) (b := k) (by omega) (by omega)).1.mpr z)
        refine cq_aload_n F (i := 2) dL_adds_114 rfl rfl ?_
        refine cq_iconst F (v := 5) dL_adds_115 rfl ?_
        refine cq_aload_n F (i := 3) dL_adds_116 rfl rfl ?_
        refine cq_bipush F (v := 6) dL_adds_117 (by decide) ?_
        refine cq_iald_j F (j := 6) hn0.1 hn0.2 rfl ⟨(by omega), by decide⟩ dL_adds_119 ?_
        rw [(show M2 na 6 = nI (S_g S 6) by rw [hf2 na (by omega) (by omega), hvn9 _ (by omega), n6])]
        refine cq_imul F dL_adds_120 ?_
        rw [show (5 * nI (S_g S 6) : Int32) = nI (5 * (S_g S 6)) from pk_mul _ _]
        refine cq_iload F dL_adds_121 rfl ?_
        refine cq_iadd F dL_adds_123 ?_
        rw [show (nI (5 * (S_g S 6)) + nI k : Int32) = nI (5 * (S_g S 6) + k) from nI_add _ _]
        refine cq_iload F dL_adds_124 rfl ?_
        refine cq_iconst F (v := 4) dL_adds_126 rfl ?_
        refine cq_icmp_ge F (tgt := 134) dL_adds_127 (by decide) (fun c_127 => ?_) (fun c_127 => ?_)
        · have c_127 : 4 ≤ k := (nI_b (a := 4) (b := k) (by omega) (by omega)).1.mp c_127
          refine cq_iconst F (v := (-1)) dL_adds_134 rfl ?_
          rw [show (-1 : Int32) = nI 4294967295 by decide]
          refine cq_iast_j F (j := (5 * (S_g S 6) + k)) hc.1 hc.2 rfl ⟨(by omega), by decide⟩ dL_adds_135 (fun M_135 h_135 => ?_)
          have v_135_ta := hv3.ne h_135 (by omega)
          obtain ⟨g_135, eg_135⟩ : ∃ z, z = ns_up c3 ((5 * (S_g S 6) + k)) (4294967295) := ⟨_, rfl⟩
          have v_135_ca : cq_nv M_135 ca 20 g_135 := by rw [eg_135]; exact hv4.up h_135
          have v_135_na := (hm.2.2.2.1.same (fun j => congrFun (hf2 _ (by omega) (by omega)) j)).ne h_135 (by omega)
          refine cq_iinc F dL_adds_136 rfl (by decide) (fun x_136 e_136 => ?_)
          obtain rfl : x_136 = nI (k + 1) := by rw [e_136]; exact nI_1 _
          refine cq_goto F (tgt := 108) dL_adds_139 (by decide) ?_
          refine cq_loc (L2 := [(0, .ref o), (1, .ref ta), (2, .ref ca), (3, .ref na), (5, .int (nI sg)), (6, .int (nI tm)), (7, .int (nI (k + 1)))]) rfl ?_
          exact ih_108 sg tm (k + 1) t3 g_135 M_135 h64 hs1 hs6 ht1 ht60 (by omega) v_135_ta h3 v_135_ca (fun j => by rw [eg_135]; exact lw_fill (a := 5 * S_g S 6) (f := fun j => if j < 4 then 0 else 4294967295) (by show _ = (if 5 * S_g S 6 + k - 5 * S_g S 6 < 4 then 0 else 4294967295); first | exact (if_pos (by omega)).symm | exact (if_neg (by omega)).symm) h4 j) (fun x x1 x2 => by rw [h_135, cq_up_row x2]; exact hf2 x x1 x2) (by omega)
        · have c_127 : ¬ 4 ≤ k := fun z => c_127 ((nI_b (a := 4) (b := k) (by omega) (by omega)).1.mpr z)
          refine cq_iconst F (v := 0) dL_adds_130 rfl ?_
          refine cq_goto F (tgt := 135) dL_adds_131 (by decide) ?_
          refine cq_iast_j F (j := (5 * (S_g S 6) + k)) hc.1 hc.2 rfl ⟨(by omega), by decide⟩ dL_adds_135 (fun M_135 h_135 => ?_)
          have v_135_ta := hv3.ne h_135 (by omega)
          obtain ⟨g_135, eg_135⟩ : ∃ z, z = ns_up c3 ((5 * (S_g S 6) + k)) (0) := ⟨_, rfl⟩
          have v_135_ca : cq_nv M_135 ca 20 g_135 := by rw [eg_135]; exact hv4.up h_135
          have v_135_na := (hm.2.2.2.1.same (fun j => congrFun (hf2 _ (by omega) (by omega)) j)).ne h_135 (by omega)
          refine cq_iinc F dL_adds_136 rfl (by decide) (fun x_136 e_136 => ?_)
          obtain rfl : x_136 = nI (k + 1) := by rw [e_136]; exact nI_1 _
          refine cq_goto F (tgt := 108) dL_adds_139 (by decide) ?_
          refine cq_loc (L2 := [(0, .ref o), (1, .ref ta), (2, .ref ca), (3, .ref na), (5, .int (nI sg)), (6, .int (nI tm)), (7, .int (nI (k + 1)))]) rfl ?_
          exact ih_108 sg tm (k + 1) t3 g_135 M_135 h64 hs1 hs6 ht1 ht60 (by omega) v_135_ta h3 v_135_ca (fun j => by rw [eg_135]; exact lw_fill (a := 5 * S_g S 6) (f := fun j => if j < 4 then 0 else 4294967295) (by show _ = (if 5 * S_g S 6 + k - 5 * S_g S 6 < 4 then 0 else 4294967295); first | exact (if_pos (by omega)).symm | exact (if_neg (by omega)).symm) h4 j) (fun x x1 x2 => by rw [h_135, cq_up_row x2]; exact hf2 x x1 x2) (by omega)
  have loop_67 : ∀ (n_67 : Nat) (sg tm k : Nat) (t3 : Nat → Nat) (M2 : cq_M), S_g S 6 < 4 → 1 ≤ sg → sg ≤ 6 → 1 ≤ tm → tm ≤ 60 → k ≤ 6 → cq_nv M2 ta 24 t3 → (∀ j, t3 j = if 6 * (S_g S 6) ≤ j ∧ j < 6 * (S_g S 6) + k then (if j - 6 * (S_g S 6) < sg then tm else 0) else t j) → (∀ x, x ≠ ta → M2 x = M x) → 6 - k < n_67 → cq_V p9 l e9 rmL_adds s9 m9 ([.ref o, .ref ta, .ref ca, .ref na, .int x] : List Value).toArray b9 t9 c9 D cA X Bs 8 (0) (0) (MQ b9 (cq_Q D cA X Bs (cq_PI (fun rv M1 => rv = 1 ∧ la_P M1 o ta ca ra na ba B))) ([.ref o, .ref ta, .ref ca, .ref na, .int x] : List Value).toArray s9 5 40 (cq_A Bs)) 67 [(0, .ref o), (1, .ref ta), (2, .ref ca), (3, .ref na), (5, .int (nI sg)), (6, .int (nI tm)), (7, .int (nI k))] [] M2 := by
    intro n_67
    induction n_67 with
    | zero =>
      intros
      omega
    | succ n_67 ih_67 =>
      intro sg tm k t3 M2 h64 hs1 hs6 ht1 ht60 hk6 hv3 h3 hf2 hn67
      refine cq_iload F dL_adds_67 rfl ?_
      refine cq_bipush F (v := 6) dL_adds_69 (by decide) ?_
      refine cq_icmp_ge F (tgt := 105) dL_adds_71 (by decide) (fun c_71 => ?_) (fun c_71 => ?_)
      · have c_71 : 6 ≤ k := (nI_b (a := 6) (b := k) (by omega) (by omega)).1.mp c_71
        obtain rfl : k = 6 := by omega
        refine cq_iconst F (v := 0) dL_adds_105 rfl ?_
        refine cq_istore F dL_adds_106 (by decide) ?_
        refine cq_loc (L2 := [(0, .ref o), (1, .ref ta), (2, .ref ca), (3, .ref na), (5, .int (nI sg)), (6, .int (nI tm)), (7, .int (nI 0))]) rfl ?_
        exact loop_108 6 sg tm 0 t3 c M2 h64 hs1 hs6 ht1 ht60 (by omega) hv3 h3 (hm.2.1.same (fun j => congrFun (hf2 _ (by omega)) j)) (fun j => (if_neg (by omega)).symm) (fun x x1 x2 => hf2 x x1) (by omega)
      · have c_71 : ¬ 6 ≤ k := fun z => c_71 ((nI_b (a := 6) (b := k) (by omega) (by omega)).1.mpr z)
        refine cq_aload_n F (i := 1) dL_adds_74 rfl rfl ?_
        refine cq_bipush F (v := 6) dL_adds_75 (by decide) ?_
        refine cq_aload_n F (i := 3) dL_adds_77 rfl rfl ?_
        refine cq_bipush F (v := 6) dL_adds_78 (by decide) ?_
        refine cq_iald_j F (j := 6) hn0.1 hn0.2 rfl ⟨(by omega), by decide⟩ dL_adds_80 ?_
        rw [(show M2 na 6 = nI (S_g S 6) by rw [hf2 na (by omega), hvn9 _ (by omega), n6])]
        refine cq_imul F dL_adds_81 ?_
        rw [show (6 * nI (S_g S 6) : Int32) = nI (6 * (S_g S 6)) from pk_mul _ _]
        refine cq_iload F dL_adds_82 rfl ?_
        refine cq_iadd F dL_adds_84 ?_
        rw [show (nI (6 * (S_g S 6)) + nI k : Int32) = nI (6 * (S_g S 6) + k) from nI_add _ _]
        refine cq_iload F dL_adds_85 rfl ?_
        refine cq_iload F dL_adds_87 rfl ?_
        refine cq_icmp_ge F (tgt := 97) dL_adds_89 (by decide) (fun c_89 => ?_) (fun c_89 => ?_)
        · have c_89 : sg ≤ k := (nI_b (a := sg) (b := k) (by omega) (by omega)).1.mp c_89
          refine cq_iconst F (v := 0) dL_adds_97 rfl ?_
          refine cq_iast_j F (j := (6 * (S_g S 6) + k)) ht.1 ht.2 rfl ⟨(by omega), by decide⟩ dL_adds_98 (fun M_98 h_98 => ?_)
          obtain ⟨g_98, eg_98⟩ : ∃ z, z = ns_up t3 ((6 * (S_g S 6) + k)) (0) := ⟨_, rfl⟩
          have v_98_ta : cq_nv M_98 ta 24 g_98 := by rw [eg_98]; exact hv3.up h_98
          have v_98_ca := (hm.2.1.same (fun j => congrFun (hf2 _ (by omega)) j)).ne h_98 (by omega)
          have v_98_na := (hm.2.2.2.1.same (fun j => congrFun (hf2 _ (by omega)) j)).ne h_98 (by omega)
          refine cq_iinc F dL_adds_99 rfl (by decide) (fun x_99 e_99 => ?_)
          obtain rfl : x_99 = nI (k + 1) := by rw [e_99]; exact nI_1 _
          refine cq_goto F (tgt := 67) dL_adds_102 (by decide) ?_
          refine cq_loc (L2 := [(0, .ref o), (1, .ref ta), (2, .ref ca), (3, .ref na), (5, .int (nI sg)), (6, .int (nI tm)), (7, .int (nI (k + 1)))]) rfl ?_
          exact ih_67 sg tm (k + 1) g_98 M_98 h64 hs1 hs6 ht1 ht60 (by omega) v_98_ta (fun j => by rw [eg_98]; exact lw_fill (a := 6 * S_g S 6) (f := fun j => if j < sg then tm else 0) (by show _ = (if 6 * S_g S 6 + k - 6 * S_g S 6 < sg then tm else 0); first | exact (if_pos (by omega)).symm | exact (if_neg (by omega)).symm) h3 j) (fun x hx => by rw [h_98, cq_up_row hx]; exact hf2 x hx) (by omega)
        · have c_89 : ¬ sg ≤ k := fun z => c_89 ((nI_b (a := sg) (b := k) (by omega) (by omega)).1.mpr z)
          refine cq_iload F dL_adds_92 rfl ?_
          refine cq_goto F (tgt := 98) dL_adds_94 (by decide) ?_
          refine cq_iast_j F (j := (6 * (S_g S 6) + k)) ht.1 ht.2 rfl ⟨(by omega), by decide⟩ dL_adds_98 (fun M_98 h_98 => ?_)
          obtain ⟨g_98, eg_98⟩ : ∃ z, z = ns_up t3 ((6 * (S_g S 6) + k)) (tm) := ⟨_, rfl⟩
          have v_98_ta : cq_nv M_98 ta 24 g_98 := by rw [eg_98]; exact hv3.up h_98
          have v_98_ca := (hm.2.1.same (fun j => congrFun (hf2 _ (by omega)) j)).ne h_98 (by omega)
          have v_98_na := (hm.2.2.2.1.same (fun j => congrFun (hf2 _ (by omega)) j)).ne h_98 (by omega)
          refine cq_iinc F dL_adds_99 rfl (by decide) (fun x_99 e_99 => ?_)
          obtain rfl : x_99 = nI (k + 1) := by rw [e_99]; exact nI_1 _
          refine cq_goto F (tgt := 67) dL_adds_102 (by decide) ?_
          refine cq_loc (L2 := [(0, .ref o), (1, .ref ta), (2, .ref ca), (3, .ref na), (5, .int (nI sg)), (6, .int (nI tm)), (7, .int (nI (k + 1)))]) rfl ?_
          exact ih_67 sg tm (k + 1) g_98 M_98 h64 hs1 hs6 ht1 ht60 (by omega) v_98_ta (fun j => by rw [eg_98]; exact lw_fill (a := 6 * S_g S 6) (f := fun j => if j < sg then tm else 0) (by show _ = (if 6 * S_g S 6 + k - 6 * S_g S 6 < sg then tm else 0); first | exact (if_pos (by omega)).symm | exact (if_neg (by omega)).symm) h3 j) (fun x hx => by rw [h_98, cq_up_row hx]; exact hf2 x hx) (by omega)
  refine cq_aload_n F (i := 3) dL_adds_0 rfl rfl ?_
  refine cq_bipush F (v := 6) dL_adds_1 (by decide) ?_
  refine cq_iald_j F (j := 6) hn0.1 hn0.2 rfl ⟨(by omega), by decide⟩ dL_adds_3 ?_
  rw [(show M na 6 = nI (S_g S 6) by rw [hvn9 _ (by omega), n6])]
  refine cq_iconst F (v := 4) dL_adds_4 rfl ?_
  refine cq_icmp_ne F (tgt := 23) dL_adds_5 (by decide) (fun c_5 => ?_) (fun c_5 => ?_)
  · have c_5 : ¬ (S_g S 6) = 4 := fun z => c_5 ((nI_b (a := (S_g S 6)) (b := 4) (by omega) (by omega)).2.2.mpr z)
    refine cq_iconst F (v := 1) dL_adds_23 rfl ?_
    refine cq_iload F dL_adds_24 rfl ?_
    refine cq_bipush F (v := 6) dL_adds_26 (by decide) ?_
    refine cq_callS F (kL_low l D cA X Bs _ 6 M (by omega) (by omega)) (va_cwS 2 F.1.2.2.2.2 gL_adds_L_low rfl rfl rfl hdVL_low.2 ⟨Nat.le_of_ble_eq_true rfl, Nat.le_of_ble_eq_true rfl⟩) rfl (Nat.le_of_ble_eq_true rfl) dL_adds_28 ⟨by show _ ≤ 5; omega, by show _ ≤ 40; omega⟩ (cq_kIp fun r_28 h_28 => ?_)
    obtain ⟨j1, hj1, rfl⟩ := h_28
    refine cq_iadd F dL_adds_31 ?_
    rw [show (1 + nI j1 : Int32) = nI (1 + j1) from nI_add _ _]
    refine cq_istore F dL_adds_32 (by decide) ?_
    refine cq_iconst F (v := 1) dL_adds_34 rfl ?_
    refine cq_iload F dL_adds_35 rfl ?_
    refine cq_iconst F (v := 4) dL_adds_37 rfl ?_
    refine cq_ishr F dL_adds_38 ?_
    refine cq_iload F dL_adds_39 rfl ?_
    refine cq_bipush F (v := 10) dL_adds_41 (by decide) ?_
    refine cq_ishr F dL_adds_43 ?_
    refine cq_iconst F (v := 3) dL_adds_44 rfl ?_
    refine cq_callS F (kL_low l D cA X Bs _ 3 M (by omega) (by omega)) (va_cwS 2 F.1.2.2.2.2 gL_adds_L_low rfl rfl rfl hdVL_low.2 ⟨Nat.le_of_ble_eq_true rfl, Nat.le_of_ble_eq_true rfl⟩) rfl (Nat.le_of_ble_eq_true rfl) dL_adds_45 ⟨by show _ ≤ 5; omega, by show _ ≤ 40; omega⟩ (cq_kIp fun r_45 h_45 => ?_)
    obtain ⟨j2, hj2, rfl⟩ := h_45
    refine cq_if_ne F (tgt := 56) dL_adds_48 (by decide) (fun c_48 => ?_) (fun c_48 => ?_)
    · have c_48 : ¬ j2 = 0 := fun z => c_48 ((nI_b (a := j2) (b := 0) (by omega) (by omega)).2.2.mpr z)
      refine cq_bipush F (v := 9) dL_adds_56 (by decide) ?_
      refine cq_callS F (kL_low l D cA X Bs _ 9 M (by omega) (by omega)) (va_cwS 2 F.1.2.2.2.2 gL_adds_L_low rfl rfl rfl hdVL_low.2 ⟨Nat.le_of_ble_eq_true rfl, Nat.le_of_ble_eq_true rfl⟩) rfl (Nat.le_of_ble_eq_true rfl) dL_adds_58 ⟨by show _ ≤ 5; omega, by show _ ≤ 40; omega⟩ (cq_kIp fun r_58 h_58 => ?_)
      obtain ⟨j3, hj3, rfl⟩ := h_58
      refine cq_iadd F dL_adds_61 ?_
      rw [show (1 + nI j3 : Int32) = nI (1 + j3) from nI_add _ _]
      refine cq_istore F dL_adds_62 (by decide) ?_
      refine cq_iconst F (v := 0) dL_adds_64 rfl ?_
      refine cq_istore F dL_adds_65 (by decide) ?_
      refine cq_loc (L2 := [(0, .ref o), (1, .ref ta), (2, .ref ca), (3, .ref na), (5, .int (nI (1 + j1))), (6, .int (nI (1 + j3))), (7, .int (nI 0))]) rfl ?_
      exact loop_67 7 (1 + j1) (1 + j3) 0 t M (by omega) (by omega) (by omega) (by omega) (by omega) (by omega) hm.1 (fun j => (if_neg (by omega)).symm) (fun _ _ => rfl) (by omega)
    · have c_48 : j2 = 0 := (nI_b (a := j2) (b := 0) (by omega) (by omega)).2.2.mp c_48
      refine cq_bipush F (v := 60) dL_adds_51 (by decide) ?_
      refine cq_goto F (tgt := 58) dL_adds_53 (by decide) ?_
      refine cq_callS F (kL_low l D cA X Bs _ 60 M (by omega) (by omega)) (va_cwS 2 F.1.2.2.2.2 gL_adds_L_low rfl rfl rfl hdVL_low.2 ⟨Nat.le_of_ble_eq_true rfl, Nat.le_of_ble_eq_true rfl⟩) rfl (Nat.le_of_ble_eq_true rfl) dL_adds_58 ⟨by show _ ≤ 5; omega, by show _ ≤ 40; omega⟩ (cq_kIp fun r_58 h_58 => ?_)
      obtain ⟨j3, hj3, rfl⟩ := h_58
      refine cq_iadd F dL_adds_61 ?_
      rw [show (1 + nI j3 : Int32) = nI (1 + j3) from nI_add _ _]
      refine cq_istore F dL_adds_62 (by decide) ?_
      refine cq_iconst F (v := 0) dL_adds_64 rfl ?_
      refine cq_istore F dL_adds_65 (by decide) ?_
      refine cq_loc (L2 := [(0, .ref o), (1, .ref ta), (2, .ref ca), (3, .ref na), (5, .int (nI (1 + j1))), (6, .int (nI (1 + j3))), (7, .int (nI 0))]) rfl ?_
      exact loop_67 7 (1 + j1) (1 + j3) 0 t M (by omega) (by omega) (by omega) (by omega) (by omega) (by omega) hm.1 (fun j => (if_neg (by omega)).symm) (fun _ _ => rfl) (by omega)
  · have c_5 : (S_g S 6) = 4 := (nI_b (a := (S_g S 6)) (b := 4) (by omega) (by omega)).2.2.mp c_5
    refine cq_aload_n F (i := 0) dL_adds_8 rfl rfl ?_
    refine cq_iconst F (v := 1) dL_adds_9 rfl ?_
    refine cq_callV F (C := RX6) (ci := 7) (nq_count (l := l) (D := D) (cA := cA) (Bs := Bs) hl hb h hk 1 (by omega)) (cwV 1 F.1.2.2.2.2 gL_adds_X6_count rfl rfl rfl hdVX6_count ⟨Nat.le_of_ble_eq_true rfl, Nat.le_of_ble_eq_true rfl⟩) hb.kind ⟨by decide, by decide⟩ rfl rfl rfl (Nat.le_of_ble_eq_true rfl) dL_adds_10 ⟨by show _ ≤ 5; omega, by show _ ≤ 40; omega⟩ (cq_kIp fun r_10 h_10 => ?_)
    obtain rfl : r_10 = nI (S_g S 6) := h_10
    refine cq_iconst F (v := 4) dL_adds_13 rfl ?_
    refine cq_icmp_ne F (tgt := 21) dL_adds_14 (by decide) (fun c_14 => ?_) (fun c_14 => ?_)
    · have c_14 : ¬ (S_g S 6) = 4 := fun z => c_14 ((nI_b (a := (S_g S 6)) (b := 4) (by omega) (by omega)).2.2.mpr z)
      omega
    · have c_14 : (S_g S 6) = 4 := (nI_b (a := (S_g S 6)) (b := 4) (by omega) (by omega)).2.2.mp c_14
      refine cq_iconst F (v := 1) dL_adds_17 rfl ?_
      refine cq_goto F (tgt := 22) dL_adds_18 (by decide) ?_
      exact cq_zret F hr (by rfl) (by omega) (by omega) dL_adds_22 ⟨_, rfl, ⟨rfl, S, h, hk.mono (by omega), ⟨t, c, r, n, b, hm, hrel⟩, by omega⟩⟩
theorem hdVL_adds : yL_adds.cls = RL ∧ yL_adds.cls ≠ "java/lang/invoke/MethodHandle" ∧ yL_adds.cls ≠ "java/lang/invoke/VarHandle" ∧ (parseMethodDescriptor yL_adds.desc).map (fun d => d.parameters.length) = some 5 := by decide +kernel
