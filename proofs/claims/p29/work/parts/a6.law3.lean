/-! the law looks at the cords -/
theorem nI_or0 (n : Nat) : nI n ||| 0 = nI n := by
  apply Int32.toBitVec_inj.mp
  simp
abbrev rmL_areCords : Room := ({ frames := 9, cells := 200, slots := 1200, locals := 155 })
set_option maxHeartbeats 4000000 in
set_option maxRecDepth 100000 in
theorem kL_areCords (l : Launch) (D : va_G) (cA : Nat → ClassId) (X : cq_X) (Bs : Nat) (hl : l.stackTraces = false) (o ta ca na B : Nat) (t c r n b : Nat → Nat) (S : as_T) (M : cq_M) (ht : lq_row X ta 24) (hc : lq_row X ca 20) (hn0 : lq_row X na 9) (hvt : cq_nv M ta 24 t) (hvc : cq_nv M ca 20 c) (hvn : cq_nv M na 9 n) (hb : cq_isClock X o) (h : ck M o S) (hk : as_ok S B) (hrel : lr t c r n b (S_g S 1) (S_g S)) (hB : B < 100000000) : cq_C l yL_areCords wsL_areCords rmL_areCords D cA X Bs [.ref o, .ref ta, .ref ca, .ref na] M (cq_PI (fun rv M1 => rv = 1 ∧ M1 = M)) 200 1200 := by
  refine cq_met (cc := cL_areCords) (maxL := 16) (ret := (some .boolean)) (by decide) rfl (Nat.le_of_ble_eq_true rfl) [(0, .ref o), (1, .ref ta), (2, .ref ca), (3, .ref na)] rfl rfl ?_
  intro p9 e9 s9 m9 b9 t9 c9 F hr
  have h6 := hk.1.1
  obtain ⟨n0, n1, n2, n3, n4, n5, n6, n7, n8⟩ := id hrel.1
  have hsm9 := ns_sums (fun c hc => hk.1.2.2.2.1 c hc)
  have loop_31 : ∀ (n_31 : Nat) (i out all brn : Nat), i ≤ S_g S 6 → out = ns_oset (S_g S) i → all = ns_tsum (S_g S) i → brn = ns_bsum (S_g S) i → S_g S 6 - i < n_31 → cq_V p9 l e9 rmL_areCords s9 m9 ([.ref o, .ref ta, .ref ca, .ref na] : List Value).toArray b9 t9 c9 D cA X Bs 16 ((1 + 40 * i)) ((6 + 240 * i)) (MQ b9 (cq_Q D cA X Bs (cq_PI (fun rv M1 => rv = 1 ∧ M1 = M))) ([.ref o, .ref ta, .ref ca, .ref na] : List Value).toArray s9 200 1200 (cq_A Bs)) 31 [(0, .ref o), (1, .ref ta), (2, .ref ca), (3, .ref na), (4, .int (nI out)), (5, .int (nI all)), (6, .int (nI brn)), (7, .int 1), (8, .int (nI i))] [] M := by
    intro n_31
    induction n_31 with
    | zero =>
      intros
      omega
    | succ n_31 ih_31 =>
      intro i out all brn hi hout hall hbrn hn
      have loop_154 : ∀ (n_154 : Nat) (k u : Nat) (fl fr : Int32), i < S_g S 6 → k ≤ S_g S (7 + 11 * i) → u = ns_sum (S_g S) (8 + 11 * i) k → fl = (if 0 < ns_left (S_g S) i ∧ S_g S (14 + 11 * i) < u then ns_front (S_g S) i 1 else -1) → fr = (if 0 < ns_left (S_g S) i ∧ (ns_time (S_g S) i - 1 - S_g S (15 + 11 * i)) < u then ns_front (S_g S) i 0 else -1) → S_g S (7 + 11 * i) - k < n_154 → cq_V p9 l e9 rmL_areCords s9 m9 ([.ref o, .ref ta, .ref ca, .ref na] : List Value).toArray b9 t9 c9 D cA X Bs 16 ((1 + 40 * i + 12)) ((6 + 240 * i + 72)) (MQ b9 (cq_Q D cA X Bs (cq_PI (fun rv M1 => rv = 1 ∧ M1 = M))) ([.ref o, .ref ta, .ref ca, .ref na] : List Value).toArray s9 200 1200 (cq_A Bs)) 154 [(0, .ref o), (1, .ref ta), (2, .ref ca), (3, .ref na), (4, .int (nI out)), (5, .int (nI all)), (6, .int (nI brn)), (7, .int 1), (8, .int (nI i)), (9, .int (nI (S_g S (7 + 11 * i)))), (10, .int (nI (ns_left (S_g S) i))), (11, .int (nI u)), (12, .int fl), (13, .int fr), (14, .int (nI k))] [] M := by
        intro n_154
        induction n_154 with
        | zero =>
          intros
          omega
        | succ n_154 ih_154 =>
          intro k u fl fr hi9 hk7 hu hfl hfr hn7
          obtain ⟨hc0, hc1, hc2, hc3, hc4⟩ := hrel.2.2.1 i hi9
          have hq := hk.1.2.2.2.1 i hi9
          have hTt := hq.time
          have hbt := hq.2.2.1
          have hbd : ns_burned (S_g S) i = S_g S (14 + 11 * i) + S_g S (15 + 11 * i) := rfl
          have hld : ns_left (S_g S) i = ns_time (S_g S) i - ns_burned (S_g S) i := rfl
          have h7 := hq.1
          have hTm := hrel.time hk.1 hi9
          have hff := hq.2.2.2.1
          have loop_164 : ∀ (n_164 : Nat) (j u3 : Nat) (f3 r3 : Int32), k < S_g S (7 + 11 * i) → j ≤ S_g S (8 + 11 * i + k) → u3 = ns_sum (S_g S) (8 + 11 * i) k + j → f3 = (if 0 < ns_left (S_g S) i ∧ S_g S (14 + 11 * i) < u3 then ns_front (S_g S) i 1 else -1) → r3 = (if 0 < ns_left (S_g S) i ∧ (ns_time (S_g S) i - 1 - S_g S (15 + 11 * i)) < u3 then ns_front (S_g S) i 0 else -1) → S_g S (8 + 11 * i + k) - j < n_164 → cq_V p9 l e9 rmL_areCords s9 m9 ([.ref o, .ref ta, .ref ca, .ref na] : List Value).toArray b9 t9 c9 D cA X Bs 16 ((1 + 40 * i + 12)) ((6 + 240 * i + 72)) (MQ b9 (cq_Q D cA X Bs (cq_PI (fun rv M1 => rv = 1 ∧ M1 = M))) ([.ref o, .ref ta, .ref ca, .ref na] : List Value).toArray s9 200 1200 (cq_A Bs)) 164 [(0, .ref o), (1, .ref ta), (2, .ref ca), (3, .ref na), (4, .int (nI out)), (5, .int (nI all)), (6, .int (nI brn)), (7, .int 1), (8, .int (nI i)), (9, .int (nI (S_g S (7 + 11 * i)))), (10, .int (nI (ns_left (S_g S) i))), (11, .int (nI u3)), (12, .int f3), (13, .int r3), (14, .int (nI k)), (15, .int (nI j))] [] M := by
            intro n_164
            induction n_164 with
            | zero =>
              intros
              omega
            | succ n_164 ih_164 =>
              intro j u3 f3 r3 hk8 hj8 hu3 hfl3 hfr3 hn8
              have hseg : ns_sum (S_g S) (8 + 11 * i) (k + 1) = ns_sum (S_g S) (8 + 11 * i) k + S_g S (8 + 11 * i + k) := rfl
              have hmo := ns_sum_mono (g := S_g S) (b := 8 + 11 * i) (show k + 1 ≤ S_g S (7 + 11 * i) by omega)
              have hst : ns_time (S_g S) i = ns_sum (S_g S) (8 + 11 * i) (S_g S (7 + 11 * i)) := rfl
              have htk : t (6 * i + k) = S_g S (8 + 11 * i + k) := by rw [hrel.2.1 i hi9 k (by omega), if_pos hk8]
              have hs60 := (hq.2.1 k hk8).2
              have hnk1 : u3 = S_g S (14 + 11 * i) → 0 < ns_left (S_g S) i → j < S_g S (8 + 11 * i + k) → nI k = ns_front (S_g S) i 1 := fun z1 z2 z3 => by
                unfold ns_front
                rw [if_neg (by omega), if_neg (show ¬ (1 : Int32) = 0 by decide), ns_at_eq (s := k) (by omega) (by omega), if_neg (by omega)]
              have hnk2 : u3 = (ns_time (S_g S) i - 1 - S_g S (15 + 11 * i)) → 0 < ns_left (S_g S) i → j < S_g S (8 + 11 * i + k) → nI k = ns_front (S_g S) i 0 := fun z1 z2 z3 => by
                unfold ns_front
                rw [if_neg (by omega), if_pos rfl, ns_at_eq (s := k) (by omega) (by omega), if_neg (by omega)]
              refine cq_iload F dL_areCords_164 rfl ?_
              refine cq_aload_n F (i := 1) dL_areCords_166 rfl rfl ?_
              refine cq_bipush F (v := 6) dL_areCords_167 (by decide) ?_
              refine cq_iload F dL_areCords_169 rfl ?_
              refine cq_imul F dL_areCords_171 ?_
              rw [show (6 * nI i : Int32) = nI (6 * i) from pk_mul _ _]
              refine cq_iload F dL_areCords_172 rfl ?_
              refine cq_iadd F dL_areCords_174 ?_
              rw [show (nI (6 * i) + nI k : Int32) = nI (6 * i + k) from nI_add _ _]
              refine cq_iald_j F (j := (6 * i + k)) ht.1 ht.2 rfl ⟨(by omega), by decide⟩ dL_areCords_175 ?_
              rw [hvt _ (by omega)]
              refine cq_icmp_ge F (tgt := 249) dL_areCords_176 (by decide) (fun c_176 => ?_) (fun c_176 => ?_)
              · have c_176 : (t ((6 * i + k))) ≤ j := (nI_b (a := (t ((6 * i + k)))) (b := j) (by omega) (by omega)).1.mp c_176
                have hj9 : j = S_g S (8 + 11 * i + k) := by omega
                refine cq_iinc F dL_areCords_249 rfl (by decide) (fun x_249 e_249 => ?_)
                obtain rfl : x_249 = nI (k + 1) := by rw [e_249]; exact nI_1 _
                refine cq_goto F (tgt := 154) dL_areCords_252 (by decide) ?_
                refine cq_widen (k := (1 + 40 * i + 12)) (n := (6 + 240 * i + 72)) (by omega) (by omega) ?_
                refine cq_loc (L2 := [(0, .ref o), (1, .ref ta), (2, .ref ca), (3, .ref na), (4, .int (nI out)), (5, .int (nI all)), (6, .int (nI brn)), (7, .int 1), (8, .int (nI i)), (9, .int (nI (S_g S (7 + 11 * i)))), (10, .int (nI (ns_left (S_g S) i))), (11, .int (nI u3)), (12, .int f3), (13, .int r3), (14, .int (nI (k + 1)))]) rfl ?_
                exact ih_154 (k + 1) u3 f3 r3 hi9 (by omega) (by rw [hu3, hj9]; rfl) hfl3 hfr3 (by omega)
              · have c_176 : ¬ (t ((6 * i + k))) ≤ j := fun z => c_176 ((nI_b (a := (t ((6 * i + k)))) (b := j) (by omega) (by omega)).1.mpr z)
                refine cq_iload F dL_areCords_179 rfl ?_
                refine cq_aload_n F (i := 2) dL_areCords_181 rfl rfl ?_
                refine cq_iconst F (v := 5) dL_areCords_182 rfl ?_
                refine cq_iload F dL_areCords_183 rfl ?_
                refine cq_imul F dL_areCords_185 ?_
                rw [show (5 * nI i : Int32) = nI (5 * i) from pk_mul _ _]
                refine cq_iald_j F (j := 5 * i) hc.1 hc.2 rfl ⟨(by omega), by decide⟩ dL_areCords_186 ?_
                rw [hvc _ (by omega)]
                refine cq_icmp_ne F (tgt := 200) dL_areCords_187 (by decide) (fun c_187 => ?_) (fun c_187 => ?_)
                · have c_187 : ¬ u3 = (c (5 * i)) := fun z => c_187 ((nI_b (a := u3) (b := (c (5 * i))) (by omega) (by omega)).2.2.mpr z)
                  refine cq_iload F dL_areCords_200 rfl ?_
                  refine cq_istore F dL_areCords_202 (by decide) ?_
                  refine cq_iload F dL_areCords_204 rfl ?_
                  refine cq_aload_n F (i := 1) dL_areCords_206 rfl rfl ?_
                  refine cq_iload F dL_areCords_207 rfl ?_
                  refine cq_callS F (kL_time l D cA X Bs ta i t M ht hvt (by omega)) (va_cwS 2 F.1.2.2.2.2 gL_areCords_L_time rfl rfl rfl hdVL_time.2 ⟨Nat.le_of_ble_eq_true rfl, Nat.le_of_ble_eq_true rfl⟩) rfl (Nat.le_of_ble_eq_true rfl) dL_areCords_209 ⟨by show _ ≤ 200; omega, by show _ ≤ 1200; omega⟩ (cq_kIp fun r_209 h_209 => ?_)
                  rw [hTm] at h_209
                  subst h_209
                  refine cq_iconst F (v := 1) dL_areCords_212 rfl ?_
                  refine cq_isub F dL_areCords_213 ?_
                  rw [show (nI (ns_time (S_g S) i) - 1 : Int32) = nI ((ns_time (S_g S) i) - 1) from pk_sub (a := (ns_time (S_g S) i)) (b := 1) (by omega)]
                  refine cq_aload_n F (i := 2) dL_areCords_214 rfl rfl ?_
                  refine cq_iconst F (v := 5) dL_areCords_215 rfl ?_
                  refine cq_iload F dL_areCords_216 rfl ?_
                  refine cq_imul F dL_areCords_218 ?_
                  rw [show (5 * nI i : Int32) = nI (5 * i) from pk_mul _ _]
                  refine cq_iconst F (v := 1) dL_areCords_219 rfl ?_
                  refine cq_iadd F dL_areCords_220 ?_
                  rw [show (nI (5 * i) + 1 : Int32) = nI (5 * i + 1) from nI_add _ _]
                  refine cq_iald_j F (j := (5 * i + 1)) hc.1 hc.2 rfl ⟨(by omega), by decide⟩ dL_areCords_221 ?_
                  rw [hvc _ (by omega)]
                  refine cq_isub F dL_areCords_222 ?_
                  have hx : 0 < ns_left (S_g S) i → (nI ((ns_time (S_g S) i) - 1) - nI (c ((5 * i + 1))) : Int32) = nI (ns_time (S_g S) i - 1 - S_g S (15 + 11 * i)) := fun z => by
                    rw [pk_sub (by omega)]
                    congr 1
                    omega
                  refine cq_icmp_ne F (tgt := 236) dL_areCords_223 (by decide) (fun c_223 => ?_) (fun c_223 => ?_)
                  · have c_223n : ¬ (u3 = (ns_time (S_g S) i - 1 - S_g S (15 + 11 * i)) ∧ 0 < ns_left (S_g S) i) := fun z => c_223 (by rw [hx z.2, ← z.1])
                    refine cq_iload F dL_areCords_236 rfl ?_
                    refine cq_istore F dL_areCords_238 (by decide) ?_
                    refine cq_iinc F dL_areCords_240 rfl (by decide) (fun x_240 e_240 => ?_)
                    obtain rfl : x_240 = nI (u3 + 1) := by rw [e_240]; exact nI_1 _
                    refine cq_iinc F dL_areCords_243 rfl (by decide) (fun x_243 e_243 => ?_)
                    obtain rfl : x_243 = nI (j + 1) := by rw [e_243]; exact nI_1 _
                    refine cq_goto F (tgt := 164) dL_areCords_246 (by decide) ?_
                    refine cq_loc (L2 := [(0, .ref o), (1, .ref ta), (2, .ref ca), (3, .ref na), (4, .int (nI out)), (5, .int (nI all)), (6, .int (nI brn)), (7, .int 1), (8, .int (nI i)), (9, .int (nI (S_g S (7 + 11 * i)))), (10, .int (nI (ns_left (S_g S) i))), (11, .int (nI (u3 + 1))), (12, .int f3), (13, .int r3), (14, .int (nI k)), (15, .int (nI (j + 1)))]) rfl ?_
                    exact ih_164 (j + 1) (u3 + 1) f3 r3 (by omega) (by omega) (by omega) (by rw [hfl3]; exact cq_ifc (by omega)) (by rw [hfr3]; exact cq_ifc (by omega)) (by omega)
                  · have c_223e : 0 < ns_left (S_g S) i → u3 = (ns_time (S_g S) i - 1 - S_g S (15 + 11 * i)) := fun z => (nI_eq (by omega) (by omega)).mp (c_223.trans (hx z))
                    refine cq_iload F dL_areCords_226 rfl ?_
                    refine cq_if_le F (tgt := 236) dL_areCords_228 (by decide) (fun c_228 => ?_) (fun c_228 => ?_)
                    · have c_228 : (ns_left (S_g S) i) ≤ 0 := (nI_b (a := (ns_left (S_g S) i)) (b := 0) (by omega) (by omega)).1.mp c_228
                      refine cq_iload F dL_areCords_236 rfl ?_
                      refine cq_istore F dL_areCords_238 (by decide) ?_
                      refine cq_iinc F dL_areCords_240 rfl (by decide) (fun x_240 e_240 => ?_)
                      obtain rfl : x_240 = nI (u3 + 1) := by rw [e_240]; exact nI_1 _
                      refine cq_iinc F dL_areCords_243 rfl (by decide) (fun x_243 e_243 => ?_)
                      obtain rfl : x_243 = nI (j + 1) := by rw [e_243]; exact nI_1 _
                      refine cq_goto F (tgt := 164) dL_areCords_246 (by decide) ?_
                      refine cq_loc (L2 := [(0, .ref o), (1, .ref ta), (2, .ref ca), (3, .ref na), (4, .int (nI out)), (5, .int (nI all)), (6, .int (nI brn)), (7, .int 1), (8, .int (nI i)), (9, .int (nI (S_g S (7 + 11 * i)))), (10, .int (nI (ns_left (S_g S) i))), (11, .int (nI (u3 + 1))), (12, .int f3), (13, .int r3), (14, .int (nI k)), (15, .int (nI (j + 1)))]) rfl ?_
                      exact ih_164 (j + 1) (u3 + 1) f3 r3 (by omega) (by omega) (by omega) (by rw [hfl3]; exact cq_ifc (by omega)) (by rw [hfr3]; exact cq_ifc (by omega)) (by omega)
                    · have c_228 : ¬ (ns_left (S_g S) i) ≤ 0 := fun z => c_228 ((nI_b (a := (ns_left (S_g S) i)) (b := 0) (by omega) (by omega)).1.mpr z)
                      have c_228e := c_223e (by omega)
                      refine cq_iload F dL_areCords_231 rfl ?_
                      refine cq_goto F (tgt := 238) dL_areCords_233 (by decide) ?_
                      refine cq_istore F dL_areCords_238 (by decide) ?_
                      refine cq_iinc F dL_areCords_240 rfl (by decide) (fun x_240 e_240 => ?_)
                      obtain rfl : x_240 = nI (u3 + 1) := by rw [e_240]; exact nI_1 _
                      refine cq_iinc F dL_areCords_243 rfl (by decide) (fun x_243 e_243 => ?_)
                      obtain rfl : x_243 = nI (j + 1) := by rw [e_243]; exact nI_1 _
                      refine cq_goto F (tgt := 164) dL_areCords_246 (by decide) ?_
                      refine cq_loc (L2 := [(0, .ref o), (1, .ref ta), (2, .ref ca), (3, .ref na), (4, .int (nI out)), (5, .int (nI all)), (6, .int (nI brn)), (7, .int 1), (8, .int (nI i)), (9, .int (nI (S_g S (7 + 11 * i)))), (10, .int (nI (ns_left (S_g S) i))), (11, .int (nI (u3 + 1))), (12, .int f3), (13, .int (nI k)), (14, .int (nI k)), (15, .int (nI (j + 1)))]) rfl ?_
                      exact ih_164 (j + 1) (u3 + 1) f3 (nI k) (by omega) (by omega) (by omega) (by rw [hfl3]; exact cq_ifc (by omega)) (by rw [if_pos ⟨by omega, by omega⟩]; exact hnk2 (by omega) (by omega) (by omega)) (by omega)
                · have c_187 : u3 = (c (5 * i)) := (nI_b (a := u3) (b := (c (5 * i))) (by omega) (by omega)).2.2.mp c_187
                  refine cq_iload F dL_areCords_190 rfl ?_
                  refine cq_if_le F (tgt := 200) dL_areCords_192 (by decide) (fun c_192 => ?_) (fun c_192 => ?_)
                  · have c_192 : (ns_left (S_g S) i) ≤ 0 := (nI_b (a := (ns_left (S_g S) i)) (b := 0) (by omega) (by omega)).1.mp c_192
                    refine cq_iload F dL_areCords_200 rfl ?_
                    refine cq_istore F dL_areCords_202 (by decide) ?_
                    refine cq_iload F dL_areCords_204 rfl ?_
                    refine cq_aload_n F (i := 1) dL_areCords_206 rfl rfl ?_
                    refine cq_iload F dL_areCords_207 rfl ?_
                    refine cq_callS F (kL_time l D cA X Bs ta i t M ht hvt (by omega)) (va_cwS 2 F.1.2.2.2.2 gL_areCords_L_time rfl rfl rfl hdVL_time.2 ⟨Nat.le_of_ble_eq_true rfl, Nat.le_of_ble_eq_true rfl⟩) rfl (Nat.le_of_ble_eq_true rfl) dL_areCords_209 ⟨by show _ ≤ 200; omega, by show _ ≤ 1200; omega⟩ (cq_kIp fun r_209 h_209 => ?_)
                    rw [hTm] at h_209
                    subst h_209
                    refine cq_iconst F (v := 1) dL_areCords_212 rfl ?_
                    refine cq_isub F dL_areCords_213 ?_
                    rw [show (nI (ns_time (S_g S) i) - 1 : Int32) = nI ((ns_time (S_g S) i) - 1) from pk_sub (a := (ns_time (S_g S) i)) (b := 1) (by omega)]
                    refine cq_aload_n F (i := 2) dL_areCords_214 rfl rfl ?_
                    refine cq_iconst F (v := 5) dL_areCords_215 rfl ?_
                    refine cq_iload F dL_areCords_216 rfl ?_
                    refine cq_imul F dL_areCords_218 ?_
                    rw [show (5 * nI i : Int32) = nI (5 * i) from pk_mul _ _]
                    refine cq_iconst F (v := 1) dL_areCords_219 rfl ?_
                    refine cq_iadd F dL_areCords_220 ?_
                    rw [show (nI (5 * i) + 1 : Int32) = nI (5 * i + 1) from nI_add _ _]
                    refine cq_iald_j F (j := (5 * i + 1)) hc.1 hc.2 rfl ⟨(by omega), by decide⟩ dL_areCords_221 ?_
                    rw [hvc _ (by omega)]
                    refine cq_isub F dL_areCords_222 ?_
                    have hx : 0 < ns_left (S_g S) i → (nI ((ns_time (S_g S) i) - 1) - nI (c ((5 * i + 1))) : Int32) = nI (ns_time (S_g S) i - 1 - S_g S (15 + 11 * i)) := fun z => by
                      rw [pk_sub (by omega)]
                      congr 1
                      omega
                    refine cq_icmp_ne F (tgt := 236) dL_areCords_223 (by decide) (fun c_223 => ?_) (fun c_223 => ?_)
                    · have c_223n : ¬ (u3 = (ns_time (S_g S) i - 1 - S_g S (15 + 11 * i)) ∧ 0 < ns_left (S_g S) i) := fun z => c_223 (by rw [hx z.2, ← z.1])
                      refine cq_iload F dL_areCords_236 rfl ?_
                      refine cq_istore F dL_areCords_238 (by decide) ?_
                      refine cq_iinc F dL_areCords_240 rfl (by decide) (fun x_240 e_240 => ?_)
                      obtain rfl : x_240 = nI (u3 + 1) := by rw [e_240]; exact nI_1 _
                      refine cq_iinc F dL_areCords_243 rfl (by decide) (fun x_243 e_243 => ?_)
                      obtain rfl : x_243 = nI (j + 1) := by rw [e_243]; exact nI_1 _
                      refine cq_goto F (tgt := 164) dL_areCords_246 (by decide) ?_
                      refine cq_loc (L2 := [(0, .ref o), (1, .ref ta), (2, .ref ca), (3, .ref na), (4, .int (nI out)), (5, .int (nI all)), (6, .int (nI brn)), (7, .int 1), (8, .int (nI i)), (9, .int (nI (S_g S (7 + 11 * i)))), (10, .int (nI (ns_left (S_g S) i))), (11, .int (nI (u3 + 1))), (12, .int f3), (13, .int r3), (14, .int (nI k)), (15, .int (nI (j + 1)))]) rfl ?_
                      exact ih_164 (j + 1) (u3 + 1) f3 r3 (by omega) (by omega) (by omega) (by rw [hfl3]; exact cq_ifc (by omega)) (by rw [hfr3]; exact cq_ifc (by omega)) (by omega)
                    · have c_223e : 0 < ns_left (S_g S) i → u3 = (ns_time (S_g S) i - 1 - S_g S (15 + 11 * i)) := fun z => (nI_eq (by omega) (by omega)).mp (c_223.trans (hx z))
                      refine cq_iload F dL_areCords_226 rfl ?_
                      refine cq_if_le F (tgt := 236) dL_areCords_228 (by decide) (fun c_228 => ?_) (fun c_228 => ?_)
                      · have c_228 : (ns_left (S_g S) i) ≤ 0 := (nI_b (a := (ns_left (S_g S) i)) (b := 0) (by omega) (by omega)).1.mp c_228
                        refine cq_iload F dL_areCords_236 rfl ?_
                        refine cq_istore F dL_areCords_238 (by decide) ?_
                        refine cq_iinc F dL_areCords_240 rfl (by decide) (fun x_240 e_240 => ?_)
                        obtain rfl : x_240 = nI (u3 + 1) := by rw [e_240]; exact nI_1 _
                        refine cq_iinc F dL_areCords_243 rfl (by decide) (fun x_243 e_243 => ?_)
                        obtain rfl : x_243 = nI (j + 1) := by rw [e_243]; exact nI_1 _
                        refine cq_goto F (tgt := 164) dL_areCords_246 (by decide) ?_
                        refine cq_loc (L2 := [(0, .ref o), (1, .ref ta), (2, .ref ca), (3, .ref na), (4, .int (nI out)), (5, .int (nI all)), (6, .int (nI brn)), (7, .int 1), (8, .int (nI i)), (9, .int (nI (S_g S (7 + 11 * i)))), (10, .int (nI (ns_left (S_g S) i))), (11, .int (nI (u3 + 1))), (12, .int f3), (13, .int r3), (14, .int (nI k)), (15, .int (nI (j + 1)))]) rfl ?_
                        exact ih_164 (j + 1) (u3 + 1) f3 r3 (by omega) (by omega) (by omega) (by rw [hfl3]; exact cq_ifc (by omega)) (by rw [hfr3]; exact cq_ifc (by omega)) (by omega)
                      · have c_228 : ¬ (ns_left (S_g S) i) ≤ 0 := fun z => c_228 ((nI_b (a := (ns_left (S_g S) i)) (b := 0) (by omega) (by omega)).1.mpr z)
                        have c_228e := c_223e (by omega)
                        omega
                  · have c_192 : ¬ (ns_left (S_g S) i) ≤ 0 := fun z => c_192 ((nI_b (a := (ns_left (S_g S) i)) (b := 0) (by omega) (by omega)).1.mpr z)
                    refine cq_iload F dL_areCords_195 rfl ?_
                    refine cq_goto F (tgt := 202) dL_areCords_197 (by decide) ?_
                    refine cq_istore F dL_areCords_202 (by decide) ?_
                    refine cq_iload F dL_areCords_204 rfl ?_
                    refine cq_aload_n F (i := 1) dL_areCords_206 rfl rfl ?_
                    refine cq_iload F dL_areCords_207 rfl ?_
                    refine cq_callS F (kL_time l D cA X Bs ta i t M ht hvt (by omega)) (va_cwS 2 F.1.2.2.2.2 gL_areCords_L_time rfl rfl rfl hdVL_time.2 ⟨Nat.le_of_ble_eq_true rfl, Nat.le_of_ble_eq_true rfl⟩) rfl (Nat.le_of_ble_eq_true rfl) dL_areCords_209 ⟨by show _ ≤ 200; omega, by show _ ≤ 1200; omega⟩ (cq_kIp fun r_209 h_209 => ?_)
                    rw [hTm] at h_209
                    subst h_209
                    refine cq_iconst F (v := 1) dL_areCords_212 rfl ?_
                    refine cq_isub F dL_areCords_213 ?_
                    rw [show (nI (ns_time (S_g S) i) - 1 : Int32) = nI ((ns_time (S_g S) i) - 1) from pk_sub (a := (ns_time (S_g S) i)) (b := 1) (by omega)]
                    refine cq_aload_n F (i := 2) dL_areCords_214 rfl rfl ?_
                    refine cq_iconst F (v := 5) dL_areCords_215 rfl ?_
                    refine cq_iload F dL_areCords_216 rfl ?_
                    refine cq_imul F dL_areCords_218 ?_
                    rw [show (5 * nI i : Int32) = nI (5 * i) from pk_mul _ _]
                    refine cq_iconst F (v := 1) dL_areCords_219 rfl ?_
                    refine cq_iadd F dL_areCords_220 ?_
                    rw [show (nI (5 * i) + 1 : Int32) = nI (5 * i + 1) from nI_add _ _]
                    refine cq_iald_j F (j := (5 * i + 1)) hc.1 hc.2 rfl ⟨(by omega), by decide⟩ dL_areCords_221 ?_
                    rw [hvc _ (by omega)]
                    refine cq_isub F dL_areCords_222 ?_
                    have hx : 0 < ns_left (S_g S) i → (nI ((ns_time (S_g S) i) - 1) - nI (c ((5 * i + 1))) : Int32) = nI (ns_time (S_g S) i - 1 - S_g S (15 + 11 * i)) := fun z => by
                      rw [pk_sub (by omega)]
                      congr 1
                      omega
                    refine cq_icmp_ne F (tgt := 236) dL_areCords_223 (by decide) (fun c_223 => ?_) (fun c_223 => ?_)
                    · have c_223n : ¬ (u3 = (ns_time (S_g S) i - 1 - S_g S (15 + 11 * i)) ∧ 0 < ns_left (S_g S) i) := fun z => c_223 (by rw [hx z.2, ← z.1])
                      refine cq_iload F dL_areCords_236 rfl ?_
                      refine cq_istore F dL_areCords_238 (by decide) ?_
                      refine cq_iinc F dL_areCords_240 rfl (by decide) (fun x_240 e_240 => ?_)
                      obtain rfl : x_240 = nI (u3 + 1) := by rw [e_240]; exact nI_1 _
                      refine cq_iinc F dL_areCords_243 rfl (by decide) (fun x_243 e_243 => ?_)
                      obtain rfl : x_243 = nI (j + 1) := by rw [e_243]; exact nI_1 _
                      refine cq_goto F (tgt := 164) dL_areCords_246 (by decide) ?_
                      refine cq_loc (L2 := [(0, .ref o), (1, .ref ta), (2, .ref ca), (3, .ref na), (4, .int (nI out)), (5, .int (nI all)), (6, .int (nI brn)), (7, .int 1), (8, .int (nI i)), (9, .int (nI (S_g S (7 + 11 * i)))), (10, .int (nI (ns_left (S_g S) i))), (11, .int (nI (u3 + 1))), (12, .int (nI k)), (13, .int r3), (14, .int (nI k)), (15, .int (nI (j + 1)))]) rfl ?_
                      exact ih_164 (j + 1) (u3 + 1) (nI k) r3 (by omega) (by omega) (by omega) (by rw [if_pos ⟨by omega, by omega⟩]; exact hnk1 (by omega) (by omega) (by omega)) (by rw [hfr3]; exact cq_ifc (by omega)) (by omega)
                    · have c_223e : 0 < ns_left (S_g S) i → u3 = (ns_time (S_g S) i - 1 - S_g S (15 + 11 * i)) := fun z => (nI_eq (by omega) (by omega)).mp (c_223.trans (hx z))
                      refine cq_iload F dL_areCords_226 rfl ?_
                      refine cq_if_le F (tgt := 236) dL_areCords_228 (by decide) (fun c_228 => ?_) (fun c_228 => ?_)
                      · have c_228 : (ns_left (S_g S) i) ≤ 0 := (nI_b (a := (ns_left (S_g S) i)) (b := 0) (by omega) (by omega)).1.mp c_228
                        omega
                      · have c_228 : ¬ (ns_left (S_g S) i) ≤ 0 := fun z => c_228 ((nI_b (a := (ns_left (S_g S) i)) (b := 0) (by omega) (by omega)).1.mpr z)
                        have c_228e := c_223e (by omega)
                        refine cq_iload F dL_areCords_231 rfl ?_
                        refine cq_goto F (tgt := 238) dL_areCords_233 (by decide) ?_
                        refine cq_istore F dL_areCords_238 (by decide) ?_
                        refine cq_iinc F dL_areCords_240 rfl (by decide) (fun x_240 e_240 => ?_)
                        obtain rfl : x_240 = nI (u3 + 1) := by rw [e_240]; exact nI_1 _
                        refine cq_iinc F dL_areCords_243 rfl (by decide) (fun x_243 e_243 => ?_)
                        obtain rfl : x_243 = nI (j + 1) := by rw [e_243]; exact nI_1 _
                        refine cq_goto F (tgt := 164) dL_areCords_246 (by decide) ?_
                        refine cq_loc (L2 := [(0, .ref o), (1, .ref ta), (2, .ref ca), (3, .ref na), (4, .int (nI out)), (5, .int (nI all)), (6, .int (nI brn)), (7, .int 1), (8, .int (nI i)), (9, .int (nI (S_g S (7 + 11 * i)))), (10, .int (nI (ns_left (S_g S) i))), (11, .int (nI (u3 + 1))), (12, .int (nI k)), (13, .int (nI k)), (14, .int (nI k)), (15, .int (nI (j + 1)))]) rfl ?_
                        exact ih_164 (j + 1) (u3 + 1) (nI k) (nI k) (by omega) (by omega) (by omega) (by rw [if_pos ⟨by omega, by omega⟩]; exact hnk1 (by omega) (by omega) (by omega)) (by rw [if_pos ⟨by omega, by omega⟩]; exact hnk2 (by omega) (by omega) (by omega)) (by omega)
          refine cq_iload F dL_areCords_154 rfl ?_
          refine cq_iload F dL_areCords_156 rfl ?_
          refine cq_icmp_ge F (tgt := 255) dL_areCords_158 (by decide) (fun c_158 => ?_) (fun c_158 => ?_)
          · have c_158 : (S_g S (7 + 11 * i)) ≤ k := (nI_b (a := (S_g S (7 + 11 * i))) (b := k) (by omega) (by omega)).1.mp c_158
            obtain rfl : k = S_g S (7 + 11 * i) := by omega
            have hu9 : u = ns_time (S_g S) i := hu
            have hfl9 : fl = ns_front (S_g S) i 1 := by
              rw [hfl]
              by_cases e : ns_left (S_g S) i = 0
              · rw [if_neg (by omega)]; unfold ns_front; rw [if_pos e]
              · rw [if_pos ⟨by omega, by omega⟩]
            have hfr9 : fr = ns_front (S_g S) i 0 := by
              rw [hfr]
              by_cases e : ns_left (S_g S) i = 0
              · rw [if_neg (by omega)]; unfold ns_front; rw [if_pos e]
              · rw [if_pos ⟨by omega, by omega⟩]
            have hp9 : 2 ^ i ≤ 8 := Nat.pow_le_pow_right (n := 2) (by decide) (show i ≤ 3 by omega)
            have ho9 : out < 2 ^ i := by rw [hout]; exact ns_oset_lt i
            refine cq_iload F dL_areCords_255 rfl ?_
            refine cq_if_eq F (tgt := 487) dL_areCords_257 (by decide) (fun c_257 => ?_) (fun c_257 => ?_)
            · have c_257 : 1 = 0 := (nI_b (a := 1) (b := 0) (by omega) (by omega)).2.2.mp c_257
              omega
            · have c_257 : ¬ 1 = 0 := fun z => c_257 ((nI_b (a := 1) (b := 0) (by omega) (by omega)).2.2.mpr z)
              refine cq_aload_n F (i := 0) dL_areCords_260 rfl rfl ?_
              refine cq_iload F dL_areCords_261 rfl ?_
              refine cq_iconst F (v := 0) dL_areCords_263 rfl ?_
              refine cq_callV F (C := RX6) (ci := 7) (nq_cordOf (l := l) (D := D) (cA := cA) (Bs := Bs) hl hb h hk i 0 hi9 (by omega)) (cwV 2 F.1.2.2.2.2 gL_areCords_X6_cordOf rfl rfl rfl hdVX6_cordOf ⟨Nat.le_of_ble_eq_true rfl, Nat.le_of_ble_eq_true rfl⟩) hb.kind ⟨by decide, by decide⟩ rfl rfl rfl (Nat.le_of_ble_eq_true rfl) dL_areCords_264 ⟨by show _ ≤ 200; omega, by show _ ≤ 1200; omega⟩ (cq_kIp fun r_264 h_264 => ?_)
              obtain rfl : r_264 = nI (ns_time (S_g S) i) := h_264
              refine cq_iload F dL_areCords_267 rfl ?_
              refine cq_icmp_ne F (tgt := 487) dL_areCords_269 (by decide) (fun c_269 => ?_) (fun c_269 => ?_)
              · have c_269 : ¬ (ns_time (S_g S) i) = u := fun z => c_269 ((nI_b (a := (ns_time (S_g S) i)) (b := u) (by omega) (by omega)).2.2.mpr z)
                omega
              · have c_269 : (ns_time (S_g S) i) = u := (nI_b (a := (ns_time (S_g S) i)) (b := u) (by omega) (by omega)).2.2.mp c_269
                refine cq_aload_n F (i := 0) dL_areCords_272 rfl rfl ?_
                refine cq_iload F dL_areCords_273 rfl ?_
                refine cq_iconst F (v := 1) dL_areCords_275 rfl ?_
                refine cq_callV F (C := RX6) (ci := 7) (nq_cordOf (l := l) (D := D) (cA := cA) (Bs := Bs) hl hb h hk i 1 hi9 (by omega)) (cwV 2 F.1.2.2.2.2 gL_areCords_X6_cordOf rfl rfl rfl hdVX6_cordOf ⟨Nat.le_of_ble_eq_true rfl, Nat.le_of_ble_eq_true rfl⟩) hb.kind ⟨by decide, by decide⟩ rfl rfl rfl (Nat.le_of_ble_eq_true rfl) dL_areCords_276 ⟨by show _ ≤ 200; omega, by show _ ≤ 1200; omega⟩ (cq_kIp fun r_276 h_276 => ?_)
                obtain rfl : r_276 = nI (S_g S (7 + 11 * i)) := h_276
                refine cq_iload F dL_areCords_279 rfl ?_
                refine cq_icmp_ne F (tgt := 487) dL_areCords_281 (by decide) (fun c_281 => ?_) (fun c_281 => ?_)
                · exact absurd rfl c_281
                · refine cq_aload_n F (i := 0) dL_areCords_284 rfl rfl ?_
                  refine cq_iload F dL_areCords_285 rfl ?_
                  refine cq_iconst F (v := 2) dL_areCords_287 rfl ?_
                  refine cq_callV F (C := RX6) (ci := 7) (nq_cordOf (l := l) (D := D) (cA := cA) (Bs := Bs) hl hb h hk i 2 hi9 (by omega)) (cwV 2 F.1.2.2.2.2 gL_areCords_X6_cordOf rfl rfl rfl hdVX6_cordOf ⟨Nat.le_of_ble_eq_true rfl, Nat.le_of_ble_eq_true rfl⟩) hb.kind ⟨by decide, by decide⟩ rfl rfl rfl (Nat.le_of_ble_eq_true rfl) dL_areCords_288 ⟨by show _ ≤ 200; omega, by show _ ≤ 1200; omega⟩ (cq_kIp fun r_288 h_288 => ?_)
                  obtain rfl : r_288 = nI (S_g S (14 + 11 * i)) := h_288
                  refine cq_aload_n F (i := 2) dL_areCords_291 rfl rfl ?_
                  refine cq_iconst F (v := 5) dL_areCords_292 rfl ?_
                  refine cq_iload F dL_areCords_293 rfl ?_
                  refine cq_imul F dL_areCords_295 ?_
                  rw [show (5 * nI i : Int32) = nI (5 * i) from pk_mul _ _]
                  refine cq_iald_j F (j := 5 * i) hc.1 hc.2 rfl ⟨(by omega), by decide⟩ dL_areCords_296 ?_
                  rw [hvc _ (by omega)]
                  refine cq_icmp_ne F (tgt := 487) dL_areCords_297 (by decide) (fun c_297 => ?_) (fun c_297 => ?_)
                  · have c_297 : ¬ (S_g S (14 + 11 * i)) = (c (5 * i)) := fun z => c_297 ((nI_b (a := (S_g S (14 + 11 * i))) (b := (c (5 * i))) (by omega) (by omega)).2.2.mpr z)
                    omega
                  · have c_297 : (S_g S (14 + 11 * i)) = (c (5 * i)) := (nI_b (a := (S_g S (14 + 11 * i))) (b := (c (5 * i))) (by omega) (by omega)).2.2.mp c_297
                    refine cq_aload_n F (i := 0) dL_areCords_300 rfl rfl ?_
                    refine cq_iload F dL_areCords_301 rfl ?_
                    refine cq_iconst F (v := 3) dL_areCords_303 rfl ?_
                    refine cq_callV F (C := RX6) (ci := 7) (nq_cordOf (l := l) (D := D) (cA := cA) (Bs := Bs) hl hb h hk i 3 hi9 (by omega)) (cwV 2 F.1.2.2.2.2 gL_areCords_X6_cordOf rfl rfl rfl hdVX6_cordOf ⟨Nat.le_of_ble_eq_true rfl, Nat.le_of_ble_eq_true rfl⟩) hb.kind ⟨by decide, by decide⟩ rfl rfl rfl (Nat.le_of_ble_eq_true rfl) dL_areCords_304 ⟨by show _ ≤ 200; omega, by show _ ≤ 1200; omega⟩ (cq_kIp fun r_304 h_304 => ?_)
                    obtain rfl : r_304 = nI (S_g S (15 + 11 * i)) := h_304
                    refine cq_aload_n F (i := 2) dL_areCords_307 rfl rfl ?_
                    refine cq_iconst F (v := 5) dL_areCords_308 rfl ?_
                    refine cq_iload F dL_areCords_309 rfl ?_
                    refine cq_imul F dL_areCords_311 ?_
                    rw [show (5 * nI i : Int32) = nI (5 * i) from pk_mul _ _]
                    refine cq_iconst F (v := 1) dL_areCords_312 rfl ?_
                    refine cq_iadd F dL_areCords_313 ?_
                    rw [show (nI (5 * i) + 1 : Int32) = nI (5 * i + 1) from nI_add _ _]
                    refine cq_iald_j F (j := (5 * i + 1)) hc.1 hc.2 rfl ⟨(by omega), by decide⟩ dL_areCords_314 ?_
                    rw [hvc _ (by omega)]
                    refine cq_icmp_ne F (tgt := 487) dL_areCords_315 (by decide) (fun c_315 => ?_) (fun c_315 => ?_)
                    · have c_315 : ¬ (S_g S (15 + 11 * i)) = (c ((5 * i + 1))) := fun z => c_315 ((nI_b (a := (S_g S (15 + 11 * i))) (b := (c ((5 * i + 1)))) (by omega) (by omega)).2.2.mpr z)
                      omega
                    · have c_315 : (S_g S (15 + 11 * i)) = (c ((5 * i + 1))) := (nI_b (a := (S_g S (15 + 11 * i))) (b := (c ((5 * i + 1)))) (by omega) (by omega)).2.2.mp c_315
                      refine cq_aload_n F (i := 0) dL_areCords_318 rfl rfl ?_
                      refine cq_iload F dL_areCords_319 rfl ?_
                      refine cq_iconst F (v := 4) dL_areCords_321 rfl ?_
                      refine cq_callV F (C := RX6) (ci := 7) (nq_cordOf (l := l) (D := D) (cA := cA) (Bs := Bs) hl hb h hk i 4 hi9 (by omega)) (cwV 2 F.1.2.2.2.2 gL_areCords_X6_cordOf rfl rfl rfl hdVX6_cordOf ⟨Nat.le_of_ble_eq_true rfl, Nat.le_of_ble_eq_true rfl⟩) hb.kind ⟨by decide, by decide⟩ rfl rfl rfl (Nat.le_of_ble_eq_true rfl) dL_areCords_322 ⟨by show _ ≤ 200; omega, by show _ ≤ 1200; omega⟩ (cq_kIp fun r_322 h_322 => ?_)
                      obtain rfl : r_322 = nI (ns_left (S_g S) i) := h_322
                      refine cq_iload F dL_areCords_325 rfl ?_
                      refine cq_icmp_ne F (tgt := 487) dL_areCords_327 (by decide) (fun c_327 => ?_) (fun c_327 => ?_)
                      · exact absurd rfl c_327
                      · refine cq_aload_n F (i := 0) dL_areCords_330 rfl rfl ?_
                        refine cq_iload F dL_areCords_331 rfl ?_
                        refine cq_iconst F (v := 5) dL_areCords_333 rfl ?_
                        refine cq_callV F (C := RX6) (ci := 7) (nq_cordOf (l := l) (D := D) (cA := cA) (Bs := Bs) hl hb h hk i 5 hi9 (by omega)) (cwV 2 F.1.2.2.2.2 gL_areCords_X6_cordOf rfl rfl rfl hdVX6_cordOf ⟨Nat.le_of_ble_eq_true rfl, Nat.le_of_ble_eq_true rfl⟩) hb.kind ⟨by decide, by decide⟩ rfl rfl rfl (Nat.le_of_ble_eq_true rfl) dL_areCords_334 ⟨by show _ ≤ 200; omega, by show _ ≤ 1200; omega⟩ (cq_kIp fun r_334 h_334 => ?_)
                        obtain rfl : r_334 = nI (S_g S (16 + 11 * i)) := h_334
                        refine cq_aload_n F (i := 2) dL_areCords_337 rfl rfl ?_
                        refine cq_iconst F (v := 5) dL_areCords_338 rfl ?_
                        refine cq_iload F dL_areCords_339 rfl ?_
                        refine cq_imul F dL_areCords_341 ?_
                        rw [show (5 * nI i : Int32) = nI (5 * i) from pk_mul _ _]
                        refine cq_iconst F (v := 2) dL_areCords_342 rfl ?_
                        refine cq_iadd F dL_areCords_343 ?_
                        rw [show (nI (5 * i) + 2 : Int32) = nI (5 * i + 2) from nI_add _ _]
                        refine cq_iald_j F (j := (5 * i + 2)) hc.1 hc.2 rfl ⟨(by omega), by decide⟩ dL_areCords_344 ?_
                        rw [hvc _ (by omega)]
                        refine cq_iconst F (v := 2) dL_areCords_345 rfl ?_
                        refine cq_aload_n F (i := 2) dL_areCords_346 rfl rfl ?_
                        refine cq_iconst F (v := 5) dL_areCords_347 rfl ?_
                        refine cq_iload F dL_areCords_348 rfl ?_
                        refine cq_imul F dL_areCords_350 ?_
                        rw [show (5 * nI i : Int32) = nI (5 * i) from pk_mul _ _]
                        refine cq_iconst F (v := 3) dL_areCords_351 rfl ?_
                        refine cq_iadd F dL_areCords_352 ?_
                        rw [show (nI (5 * i) + 3 : Int32) = nI (5 * i + 3) from nI_add _ _]
                        refine cq_iald_j F (j := (5 * i + 3)) hc.1 hc.2 rfl ⟨(by omega), by decide⟩ dL_areCords_353 ?_
                        rw [hvc _ (by omega)]
                        refine cq_imul F dL_areCords_354 ?_
                        rw [show (2 * nI (c ((5 * i + 3))) : Int32) = nI (2 * (c ((5 * i + 3)))) from pk_mul _ _]
                        refine cq_iadd F dL_areCords_355 ?_
                        rw [show (nI (c ((5 * i + 2))) + nI (2 * (c ((5 * i + 3)))) : Int32) = nI ((c ((5 * i + 2))) + 2 * (c ((5 * i + 3)))) from nI_add _ _]
                        refine cq_icmp_ne F (tgt := 487) dL_areCords_356 (by decide) (fun c_356 => ?_) (fun c_356 => ?_)
                        · have c_356 : ¬ (S_g S (16 + 11 * i)) = ((c ((5 * i + 2))) + 2 * (c ((5 * i + 3)))) := fun z => c_356 ((nI_b (a := (S_g S (16 + 11 * i))) (b := ((c ((5 * i + 2))) + 2 * (c ((5 * i + 3))))) (by omega) (by omega)).2.2.mpr z)
                          omega
                        · have c_356 : (S_g S (16 + 11 * i)) = ((c ((5 * i + 2))) + 2 * (c ((5 * i + 3)))) := (nI_b (a := (S_g S (16 + 11 * i))) (b := ((c ((5 * i + 2))) + 2 * (c ((5 * i + 3))))) (by omega) (by omega)).2.2.mp c_356
                          refine cq_aload_n F (i := 0) dL_areCords_359 rfl rfl ?_
                          refine cq_iload F dL_areCords_360 rfl ?_
                          refine cq_bipush F (v := 6) dL_areCords_362 (by decide) ?_
                          refine cq_callV F (C := RX6) (ci := 7) (nq_cordOf (l := l) (D := D) (cA := cA) (Bs := Bs) hl hb h hk i 6 hi9 (by omega)) (cwV 2 F.1.2.2.2.2 gL_areCords_X6_cordOf rfl rfl rfl hdVX6_cordOf ⟨Nat.le_of_ble_eq_true rfl, Nat.le_of_ble_eq_true rfl⟩) hb.kind ⟨by decide, by decide⟩ rfl rfl rfl (Nat.le_of_ble_eq_true rfl) dL_areCords_364 ⟨by show _ ≤ 200; omega, by show _ ≤ 1200; omega⟩ (cq_kIp fun r_364 h_364 => ?_)
                          refine cq_iload F dL_areCords_367 rfl ?_
                          refine cq_if_ne F (tgt := 376) dL_areCords_369 (by decide) (fun c_369 => ?_) (fun c_369 => ?_)
                          · have c_369 : ¬ (ns_left (S_g S) i) = 0 := fun z => c_369 ((nI_b (a := (ns_left (S_g S) i)) (b := 0) (by omega) (by omega)).2.2.mpr z)
                            refine cq_iconst F (v := 0) dL_areCords_376 rfl ?_
                            refine cq_icmp_ne F (tgt := 487) dL_areCords_377 (by decide) (fun c_377 => ?_) (fun c_377 => ?_)
                            · exact absurd c_377 (fun z => z (by rw [h_364]; first | exact if_pos c_369 | exact if_neg c_369))
                            · refine cq_aload_n F (i := 0) dL_areCords_380 rfl rfl ?_
                              refine cq_iload F dL_areCords_381 rfl ?_
                              refine cq_bipush F (v := 7) dL_areCords_383 (by decide) ?_
                              refine cq_callV F (C := RX6) (ci := 7) (nq_cordOf (l := l) (D := D) (cA := cA) (Bs := Bs) hl hb h hk i 7 hi9 (by omega)) (cwV 2 F.1.2.2.2.2 gL_areCords_X6_cordOf rfl rfl rfl hdVX6_cordOf ⟨Nat.le_of_ble_eq_true rfl, Nat.le_of_ble_eq_true rfl⟩) hb.kind ⟨by decide, by decide⟩ rfl rfl rfl (Nat.le_of_ble_eq_true rfl) dL_areCords_385 ⟨by show _ ≤ 200; omega, by show _ ≤ 1200; omega⟩ (cq_kIp fun r_385 h_385 => ?_)
                              obtain rfl : r_385 = nI (S_g S (17 + 11 * i)) := h_385
                              refine cq_aload_n F (i := 2) dL_areCords_388 rfl rfl ?_
                              refine cq_iconst F (v := 5) dL_areCords_389 rfl ?_
                              refine cq_iload F dL_areCords_390 rfl ?_
                              refine cq_imul F dL_areCords_392 ?_
                              rw [show (5 * nI i : Int32) = nI (5 * i) from pk_mul _ _]
                              refine cq_iconst F (v := 4) dL_areCords_393 rfl ?_
                              refine cq_iadd F dL_areCords_394 ?_
                              rw [show (nI (5 * i) + 4 : Int32) = nI (5 * i + 4) from nI_add _ _]
                              refine cq_iald_j F (j := (5 * i + 4)) hc.1 hc.2 rfl ⟨(by omega), by decide⟩ dL_areCords_395 ?_
                              rw [(show M ca (5 * i + 4) = nI (S_g S (17 + 11 * i)) by rw [hvc _ (by omega), hc4])]
                              refine cq_icmp_ne F (tgt := 487) dL_areCords_396 (by decide) (fun c_396 => ?_) (fun c_396 => ?_)
                              · exact absurd rfl c_396
                              · refine cq_aload_n F (i := 0) dL_areCords_399 rfl rfl ?_
                                refine cq_iload F dL_areCords_400 rfl ?_
                                refine cq_iconst F (v := 1) dL_areCords_402 rfl ?_
                                refine cq_callV F (C := RX6) (ci := 7) (nq_front (l := l) (D := D) (cA := cA) (Bs := Bs) hl hb h hk i 1 hi9) (cwV 2 F.1.2.2.2.2 gL_areCords_X6_front rfl rfl rfl hdVX6_front ⟨Nat.le_of_ble_eq_true rfl, Nat.le_of_ble_eq_true rfl⟩) hb.kind ⟨by decide, by decide⟩ rfl rfl rfl (Nat.le_of_ble_eq_true rfl) dL_areCords_403 ⟨by show _ ≤ 200; omega, by show _ ≤ 1200; omega⟩ (cq_kIp fun r_403 h_403 => ?_)
                                refine cq_iload F dL_areCords_406 rfl ?_
                                refine cq_icmp_ne F (tgt := 487) dL_areCords_408 (by decide) (fun c_408 => ?_) (fun c_408 => ?_)
                                · exact absurd c_408 (fun z => z (by rw [h_403, hfl9]))
                                · refine cq_aload_n F (i := 0) dL_areCords_411 rfl rfl ?_
                                  refine cq_iload F dL_areCords_412 rfl ?_
                                  refine cq_iconst F (v := 0) dL_areCords_414 rfl ?_
                                  refine cq_callV F (C := RX6) (ci := 7) (nq_front (l := l) (D := D) (cA := cA) (Bs := Bs) hl hb h hk i 0 hi9) (cwV 2 F.1.2.2.2.2 gL_areCords_X6_front rfl rfl rfl hdVX6_front ⟨Nat.le_of_ble_eq_true rfl, Nat.le_of_ble_eq_true rfl⟩) hb.kind ⟨by decide, by decide⟩ rfl rfl rfl (Nat.le_of_ble_eq_true rfl) dL_areCords_415 ⟨by show _ ≤ 200; omega, by show _ ≤ 1200; omega⟩ (cq_kIp fun r_415 h_415 => ?_)
                                  refine cq_iload F dL_areCords_418 rfl ?_
                                  refine cq_icmp_ne F (tgt := 487) dL_areCords_420 (by decide) (fun c_420 => ?_) (fun c_420 => ?_)
                                  · exact absurd c_420 (fun z => z (by rw [h_415, hfr9]))
                                  · refine cq_aload_n F (i := 0) dL_areCords_423 rfl rfl ?_
                                    refine cq_iload F dL_areCords_424 rfl ?_
                                    refine cq_iconst F (v := 1) dL_areCords_426 rfl ?_
                                    refine cq_iconst F (v := 0) dL_areCords_427 rfl ?_
                                    refine cq_callV F (C := RX6) (ci := 7) (nq_lasts (l := l) (D := D) (cA := cA) (Bs := Bs) hl hb h hk i 1 0 hi9 (by omega) (by omega)) (cwV 3 F.1.2.2.2.2 gL_areCords_X6_lasts rfl rfl rfl hdVX6_lasts ⟨Nat.le_of_ble_eq_true rfl, Nat.le_of_ble_eq_true rfl⟩) hb.kind ⟨by decide, by decide⟩ rfl rfl rfl (Nat.le_of_ble_eq_true rfl) dL_areCords_428 ⟨by show _ ≤ 200; omega, by show _ ≤ 1200; omega⟩ (cq_kIp fun r_428 h_428 => ?_)
                                    rw [ns_last_1] at h_428
                                    subst h_428
                                    refine cq_iload F dL_areCords_431 rfl ?_
                                    refine cq_icmp_ne F (tgt := 487) dL_areCords_433 (by decide) (fun c_433 => ?_) (fun c_433 => ?_)
                                    · exact absurd rfl c_433
                                    · refine cq_aload_n F (i := 0) dL_areCords_436 rfl rfl ?_
                                      refine cq_iload F dL_areCords_437 rfl ?_
                                      refine cq_iconst F (v := 1) dL_areCords_439 rfl ?_
                                      refine cq_iconst F (v := 1) dL_areCords_440 rfl ?_
                                      refine cq_callV F (C := RX6) (ci := 7) (nq_lasts (l := l) (D := D) (cA := cA) (Bs := Bs) hl hb h hk i 1 1 hi9 (by omega) (by omega)) (cwV 3 F.1.2.2.2.2 gL_areCords_X6_lasts rfl rfl rfl hdVX6_lasts ⟨Nat.le_of_ble_eq_true rfl, Nat.le_of_ble_eq_true rfl⟩) hb.kind ⟨by decide, by decide⟩ rfl rfl rfl (Nat.le_of_ble_eq_true rfl) dL_areCords_441 ⟨by show _ ≤ 200; omega, by show _ ≤ 1200; omega⟩ (cq_kIp fun r_441 h_441 => ?_)
                                      rw [ns_last_1] at h_441
                                      subst h_441
                                      refine cq_iload F dL_areCords_444 rfl ?_
                                      refine cq_icmp_ne F (tgt := 487) dL_areCords_446 (by decide) (fun c_446 => ?_) (fun c_446 => ?_)
                                      · exact absurd rfl c_446
                                      · refine cq_aload_n F (i := 0) dL_areCords_449 rfl rfl ?_
                                        refine cq_iload F dL_areCords_450 rfl ?_
                                        refine cq_iconst F (v := 2) dL_areCords_452 rfl ?_
                                        refine cq_iconst F (v := 0) dL_areCords_453 rfl ?_
                                        refine cq_callV F (C := RX6) (ci := 7) (nq_lasts (l := l) (D := D) (cA := cA) (Bs := Bs) hl hb h hk i 2 0 hi9 (by omega) (by omega)) (cwV 3 F.1.2.2.2.2 gL_areCords_X6_lasts rfl rfl rfl hdVX6_lasts ⟨Nat.le_of_ble_eq_true rfl, Nat.le_of_ble_eq_true rfl⟩) hb.kind ⟨by decide, by decide⟩ rfl rfl rfl (Nat.le_of_ble_eq_true rfl) dL_areCords_454 ⟨by show _ ≤ 200; omega, by show _ ≤ 1200; omega⟩ (cq_kIp fun r_454 h_454 => ?_)
                                        rw [ns_last_2] at h_454
                                        subst h_454
                                        refine cq_iload F dL_areCords_457 rfl ?_
                                        refine cq_iconst F (v := 1) dL_areCords_459 rfl ?_
                                        refine cq_iadd F dL_areCords_460 ?_
                                        rw [show (nI (ns_left (S_g S) i) + 1 : Int32) = nI ((ns_left (S_g S) i) + 1) from nI_add _ _]
                                        refine cq_iconst F (v := 2) dL_areCords_461 rfl ?_
                                        refine cq_idiv F dL_areCords_462 (by decide) ?_
                                        rw [show (nI (ns_left (S_g S) i + 1) / 2 : Int32) = nI ((ns_left (S_g S) i + 1) / 2) from pk_div (d := 2) (by omega) (by decide) (by decide)]
                                        refine cq_icmp_ne F (tgt := 487) dL_areCords_463 (by decide) (fun c_463 => ?_) (fun c_463 => ?_)
                                        · exact absurd rfl c_463
                                        · refine cq_aload_n F (i := 0) dL_areCords_466 rfl rfl ?_
                                          refine cq_iload F dL_areCords_467 rfl ?_
                                          refine cq_iconst F (v := 2) dL_areCords_469 rfl ?_
                                          refine cq_iconst F (v := 1) dL_areCords_470 rfl ?_
                                          refine cq_callV F (C := RX6) (ci := 7) (nq_lasts (l := l) (D := D) (cA := cA) (Bs := Bs) hl hb h hk i 2 1 hi9 (by omega) (by omega)) (cwV 3 F.1.2.2.2.2 gL_areCords_X6_lasts rfl rfl rfl hdVX6_lasts ⟨Nat.le_of_ble_eq_true rfl, Nat.le_of_ble_eq_true rfl⟩) hb.kind ⟨by decide, by decide⟩ rfl rfl rfl (Nat.le_of_ble_eq_true rfl) dL_areCords_471 ⟨by show _ ≤ 200; omega, by show _ ≤ 1200; omega⟩ (cq_kIp fun r_471 h_471 => ?_)
                                          rw [ns_last_2] at h_471
                                          subst h_471
                                          refine cq_iload F dL_areCords_474 rfl ?_
                                          refine cq_iconst F (v := 1) dL_areCords_476 rfl ?_
                                          refine cq_iadd F dL_areCords_477 ?_
                                          rw [show (nI (ns_left (S_g S) i) + 1 : Int32) = nI ((ns_left (S_g S) i) + 1) from nI_add _ _]
                                          refine cq_iconst F (v := 2) dL_areCords_478 rfl ?_
                                          refine cq_idiv F dL_areCords_479 (by decide) ?_
                                          rw [show (nI (ns_left (S_g S) i + 1) / 2 : Int32) = nI ((ns_left (S_g S) i + 1) / 2) from pk_div (d := 2) (by omega) (by decide) (by decide)]
                                          refine cq_icmp_ne F (tgt := 487) dL_areCords_480 (by decide) (fun c_480 => ?_) (fun c_480 => ?_)
                                          · exact absurd rfl c_480
                                          · refine cq_iconst F (v := 1) dL_areCords_483 rfl ?_
                                            refine cq_goto F (tgt := 488) dL_areCords_484 (by decide) ?_
                                            refine cq_istore F dL_areCords_488 (by decide) ?_
                                            refine cq_iload F dL_areCords_490 rfl ?_
                                            refine cq_iload F dL_areCords_492 rfl ?_
                                            refine cq_if_ne F (tgt := 504) dL_areCords_494 (by decide) (fun c_494 => ?_) (fun c_494 => ?_)
                                            · have c_494 : ¬ (ns_left (S_g S) i) = 0 := fun z => c_494 ((nI_b (a := (ns_left (S_g S) i)) (b := 0) (by omega) (by omega)).2.2.mpr z)
                                              refine cq_iconst F (v := 0) dL_areCords_504 rfl ?_
                                              refine cq_ior F dL_areCords_505 ?_
                                              rw [show (nI out ||| 0 : Int32) = nI out from nI_or0 _]
                                              refine cq_istore F dL_areCords_506 (by decide) ?_
                                              refine cq_iload F dL_areCords_508 rfl ?_
                                              refine cq_iload F dL_areCords_510 rfl ?_
                                              refine cq_iadd F dL_areCords_512 ?_
                                              rw [show (nI all + nI u : Int32) = nI (all + u) from nI_add _ _]
                                              refine cq_istore F dL_areCords_513 (by decide) ?_
                                              refine cq_iload F dL_areCords_515 rfl ?_
                                              refine cq_iload F dL_areCords_517 rfl ?_
                                              refine cq_iload F dL_areCords_519 rfl ?_
                                              refine cq_isub F dL_areCords_521 ?_
                                              rw [show (nI u - nI (ns_left (S_g S) i) : Int32) = nI (u - (ns_left (S_g S) i)) from pk_sub (a := u) (b := (ns_left (S_g S) i)) (by omega)]
                                              refine cq_iadd F dL_areCords_522 ?_
                                              rw [show (nI brn + nI (u - (ns_left (S_g S) i)) : Int32) = nI (brn + (u - (ns_left (S_g S) i))) from nI_add _ _]
                                              refine cq_istore F dL_areCords_523 (by decide) ?_
                                              refine cq_iinc F dL_areCords_525 rfl (by decide) (fun x_525 e_525 => ?_)
                                              obtain rfl : x_525 = nI (i + 1) := by rw [e_525]; exact nI_1 _
                                              refine cq_goto F (tgt := 31) dL_areCords_528 (by decide) ?_
                                              refine cq_widen (k := (1 + 40 * (i + 1))) (n := (6 + 240 * (i + 1))) (by omega) (by omega) ?_
                                              refine cq_loc (L2 := [(0, .ref o), (1, .ref ta), (2, .ref ca), (3, .ref na), (4, .int (nI out)), (5, .int (nI (all + u))), (6, .int (nI (brn + (u - (ns_left (S_g S) i))))), (7, .int 1), (8, .int (nI (i + 1)))]) rfl ?_
                                              exact ih_31 (i + 1) out (all + u) (brn + (u - (ns_left (S_g S) i))) (by omega) (by show _ = ns_oset (S_g S) i + (if ns_left (S_g S) i = 0 then 2 ^ i else 0); rw [if_neg (by omega), Nat.add_zero, hout]) (by rw [hall, hu9]; rfl) (by rw [hbrn]; show _ = ns_bsum (S_g S) i + ns_burned (S_g S) i; omega) (by omega)
                                            · have c_494 : (ns_left (S_g S) i) = 0 := (nI_b (a := (ns_left (S_g S) i)) (b := 0) (by omega) (by omega)).2.2.mp c_494
                                              omega
                          · have c_369 : (ns_left (S_g S) i) = 0 := (nI_b (a := (ns_left (S_g S) i)) (b := 0) (by omega) (by omega)).2.2.mp c_369
                            refine cq_iconst F (v := 1) dL_areCords_372 rfl ?_
                            refine cq_goto F (tgt := 377) dL_areCords_373 (by decide) ?_
                            refine cq_icmp_ne F (tgt := 487) dL_areCords_377 (by decide) (fun c_377 => ?_) (fun c_377 => ?_)
                            · exact absurd c_377 (fun z => z (by rw [h_364]; first | exact if_pos c_369 | exact if_neg c_369))
                            · refine cq_aload_n F (i := 0) dL_areCords_380 rfl rfl ?_
                              refine cq_iload F dL_areCords_381 rfl ?_
                              refine cq_bipush F (v := 7) dL_areCords_383 (by decide) ?_
                              refine cq_callV F (C := RX6) (ci := 7) (nq_cordOf (l := l) (D := D) (cA := cA) (Bs := Bs) hl hb h hk i 7 hi9 (by omega)) (cwV 2 F.1.2.2.2.2 gL_areCords_X6_cordOf rfl rfl rfl hdVX6_cordOf ⟨Nat.le_of_ble_eq_true rfl, Nat.le_of_ble_eq_true rfl⟩) hb.kind ⟨by decide, by decide⟩ rfl rfl rfl (Nat.le_of_ble_eq_true rfl) dL_areCords_385 ⟨by show _ ≤ 200; omega, by show _ ≤ 1200; omega⟩ (cq_kIp fun r_385 h_385 => ?_)
                              obtain rfl : r_385 = nI (S_g S (17 + 11 * i)) := h_385
                              refine cq_aload_n F (i := 2) dL_areCords_388 rfl rfl ?_
                              refine cq_iconst F (v := 5) dL_areCords_389 rfl ?_
                              refine cq_iload F dL_areCords_390 rfl ?_
                              refine cq_imul F dL_areCords_392 ?_
                              rw [show (5 * nI i : Int32) = nI (5 * i) from pk_mul _ _]
                              refine cq_iconst F (v := 4) dL_areCords_393 rfl ?_
                              refine cq_iadd F dL_areCords_394 ?_
                              rw [show (nI (5 * i) + 4 : Int32) = nI (5 * i + 4) from nI_add _ _]
                              refine cq_iald_j F (j := (5 * i + 4)) hc.1 hc.2 rfl ⟨(by omega), by decide⟩ dL_areCords_395 ?_
                              rw [(show M ca (5 * i + 4) = nI (S_g S (17 + 11 * i)) by rw [hvc _ (by omega), hc4])]
                              refine cq_icmp_ne F (tgt := 487) dL_areCords_396 (by decide) (fun c_396 => ?_) (fun c_396 => ?_)
                              · exact absurd rfl c_396
                              · refine cq_aload_n F (i := 0) dL_areCords_399 rfl rfl ?_
                                refine cq_iload F dL_areCords_400 rfl ?_
                                refine cq_iconst F (v := 1) dL_areCords_402 rfl ?_
                                refine cq_callV F (C := RX6) (ci := 7) (nq_front (l := l) (D := D) (cA := cA) (Bs := Bs) hl hb h hk i 1 hi9) (cwV 2 F.1.2.2.2.2 gL_areCords_X6_front rfl rfl rfl hdVX6_front ⟨Nat.le_of_ble_eq_true rfl, Nat.le_of_ble_eq_true rfl⟩) hb.kind ⟨by decide, by decide⟩ rfl rfl rfl (Nat.le_of_ble_eq_true rfl) dL_areCords_403 ⟨by show _ ≤ 200; omega, by show _ ≤ 1200; omega⟩ (cq_kIp fun r_403 h_403 => ?_)
                                refine cq_iload F dL_areCords_406 rfl ?_
                                refine cq_icmp_ne F (tgt := 487) dL_areCords_408 (by decide) (fun c_408 => ?_) (fun c_408 => ?_)
                                · exact absurd c_408 (fun z => z (by rw [h_403, hfl9]))
                                · refine cq_aload_n F (i := 0) dL_areCords_411 rfl rfl ?_
                                  refine cq_iload F dL_areCords_412 rfl ?_
                                  refine cq_iconst F (v := 0) dL_areCords_414 rfl ?_
                                  refine cq_callV F (C := RX6) (ci := 7) (nq_front (l := l) (D := D) (cA := cA) (Bs := Bs) hl hb h hk i 0 hi9) (cwV 2 F.1.2.2.2.2 gL_areCords_X6_front rfl rfl rfl hdVX6_front ⟨Nat.le_of_ble_eq_true rfl, Nat.le_of_ble_eq_true rfl⟩) hb.kind ⟨by decide, by decide⟩ rfl rfl rfl (Nat.le_of_ble_eq_true rfl) dL_areCords_415 ⟨by show _ ≤ 200; omega, by show _ ≤ 1200; omega⟩ (cq_kIp fun r_415 h_415 => ?_)
                                  refine cq_iload F dL_areCords_418 rfl ?_
                                  refine cq_icmp_ne F (tgt := 487) dL_areCords_420 (by decide) (fun c_420 => ?_) (fun c_420 => ?_)
                                  · exact absurd c_420 (fun z => z (by rw [h_415, hfr9]))
                                  · refine cq_aload_n F (i := 0) dL_areCords_423 rfl rfl ?_
                                    refine cq_iload F dL_areCords_424 rfl ?_
                                    refine cq_iconst F (v := 1) dL_areCords_426 rfl ?_
                                    refine cq_iconst F (v := 0) dL_areCords_427 rfl ?_
                                    refine cq_callV F (C := RX6) (ci := 7) (nq_lasts (l := l) (D := D) (cA := cA) (Bs := Bs) hl hb h hk i 1 0 hi9 (by omega) (by omega)) (cwV 3 F.1.2.2.2.2 gL_areCords_X6_lasts rfl rfl rfl hdVX6_lasts ⟨Nat.le_of_ble_eq_true rfl, Nat.le_of_ble_eq_true rfl⟩) hb.kind ⟨by decide, by decide⟩ rfl rfl rfl (Nat.le_of_ble_eq_true rfl) dL_areCords_428 ⟨by show _ ≤ 200; omega, by show _ ≤ 1200; omega⟩ (cq_kIp fun r_428 h_428 => ?_)
                                    rw [ns_last_1] at h_428
                                    subst h_428
                                    refine cq_iload F dL_areCords_431 rfl ?_
                                    refine cq_icmp_ne F (tgt := 487) dL_areCords_433 (by decide) (fun c_433 => ?_) (fun c_433 => ?_)
                                    · exact absurd rfl c_433
                                    · refine cq_aload_n F (i := 0) dL_areCords_436 rfl rfl ?_
                                      refine cq_iload F dL_areCords_437 rfl ?_
                                      refine cq_iconst F (v := 1) dL_areCords_439 rfl ?_
                                      refine cq_iconst F (v := 1) dL_areCords_440 rfl ?_
                                      refine cq_callV F (C := RX6) (ci := 7) (nq_lasts (l := l) (D := D) (cA := cA) (Bs := Bs) hl hb h hk i 1 1 hi9 (by omega) (by omega)) (cwV 3 F.1.2.2.2.2 gL_areCords_X6_lasts rfl rfl rfl hdVX6_lasts ⟨Nat.le_of_ble_eq_true rfl, Nat.le_of_ble_eq_true rfl⟩) hb.kind ⟨by decide, by decide⟩ rfl rfl rfl (Nat.le_of_ble_eq_true rfl) dL_areCords_441 ⟨by show _ ≤ 200; omega, by show _ ≤ 1200; omega⟩ (cq_kIp fun r_441 h_441 => ?_)
                                      rw [ns_last_1] at h_441
                                      subst h_441
                                      refine cq_iload F dL_areCords_444 rfl ?_
                                      refine cq_icmp_ne F (tgt := 487) dL_areCords_446 (by decide) (fun c_446 => ?_) (fun c_446 => ?_)
                                      · exact absurd rfl c_446
                                      · refine cq_aload_n F (i := 0) dL_areCords_449 rfl rfl ?_
                                        refine cq_iload F dL_areCords_450 rfl ?_
                                        refine cq_iconst F (v := 2) dL_areCords_452 rfl ?_
                                        refine cq_iconst F (v := 0) dL_areCords_453 rfl ?_
                                        refine cq_callV F (C := RX6) (ci := 7) (nq_lasts (l := l) (D := D) (cA := cA) (Bs := Bs) hl hb h hk i 2 0 hi9 (by omega) (by omega)) (cwV 3 F.1.2.2.2.2 gL_areCords_X6_lasts rfl rfl rfl hdVX6_lasts ⟨Nat.le_of_ble_eq_true rfl, Nat.le_of_ble_eq_true rfl⟩) hb.kind ⟨by decide, by decide⟩ rfl rfl rfl (Nat.le_of_ble_eq_true rfl) dL_areCords_454 ⟨by show _ ≤ 200; omega, by show _ ≤ 1200; omega⟩ (cq_kIp fun r_454 h_454 => ?_)
                                        rw [ns_last_2] at h_454
                                        subst h_454
                                        refine cq_iload F dL_areCords_457 rfl ?_
                                        refine cq_iconst F (v := 1) dL_areCords_459 rfl ?_
                                        refine cq_iadd F dL_areCords_460 ?_
                                        rw [show (nI (ns_left (S_g S) i) + 1 : Int32) = nI ((ns_left (S_g S) i) + 1) from nI_add _ _]
                                        refine cq_iconst F (v := 2) dL_areCords_461 rfl ?_
                                        refine cq_idiv F dL_areCords_462 (by decide) ?_
                                        rw [show (nI (ns_left (S_g S) i + 1) / 2 : Int32) = nI ((ns_left (S_g S) i + 1) / 2) from pk_div (d := 2) (by omega) (by decide) (by decide)]
                                        refine cq_icmp_ne F (tgt := 487) dL_areCords_463 (by decide) (fun c_463 => ?_) (fun c_463 => ?_)
                                        · exact absurd rfl c_463
                                        · refine cq_aload_n F (i := 0) dL_areCords_466 rfl rfl ?_
                                          refine cq_iload F dL_areCords_467 rfl ?_
                                          refine cq_iconst F (v := 2) dL_areCords_469 rfl ?_
                                          refine cq_iconst F (v := 1) dL_areCords_470 rfl ?_
                                          refine cq_callV F (C := RX6) (ci := 7) (nq_lasts (l := l) (D := D) (cA := cA) (Bs := Bs) hl hb h hk i 2 1 hi9 (by omega) (by omega)) (cwV 3 F.1.2.2.2.2 gL_areCords_X6_lasts rfl rfl rfl hdVX6_lasts ⟨Nat.le_of_ble_eq_true rfl, Nat.le_of_ble_eq_true rfl⟩) hb.kind ⟨by decide, by decide⟩ rfl rfl rfl (Nat.le_of_ble_eq_true rfl) dL_areCords_471 ⟨by show _ ≤ 200; omega, by show _ ≤ 1200; omega⟩ (cq_kIp fun r_471 h_471 => ?_)
                                          rw [ns_last_2] at h_471
                                          subst h_471
                                          refine cq_iload F dL_areCords_474 rfl ?_
                                          refine cq_iconst F (v := 1) dL_areCords_476 rfl ?_
                                          refine cq_iadd F dL_areCords_477 ?_
                                          rw [show (nI (ns_left (S_g S) i) + 1 : Int32) = nI ((ns_left (S_g S) i) + 1) from nI_add _ _]
                                          refine cq_iconst F (v := 2) dL_areCords_478 rfl ?_
                                          refine cq_idiv F dL_areCords_479 (by decide) ?_
                                          rw [show (nI (ns_left (S_g S) i + 1) / 2 : Int32) = nI ((ns_left (S_g S) i + 1) / 2) from pk_div (d := 2) (by omega) (by decide) (by decide)]
                                          refine cq_icmp_ne F (tgt := 487) dL_areCords_480 (by decide) (fun c_480 => ?_) (fun c_480 => ?_)
                                          · exact absurd rfl c_480
                                          · refine cq_iconst F (v := 1) dL_areCords_483 rfl ?_
                                            refine cq_goto F (tgt := 488) dL_areCords_484 (by decide) ?_
                                            refine cq_istore F dL_areCords_488 (by decide) ?_
                                            refine cq_iload F dL_areCords_490 rfl ?_
                                            refine cq_iload F dL_areCords_492 rfl ?_
                                            refine cq_if_ne F (tgt := 504) dL_areCords_494 (by decide) (fun c_494 => ?_) (fun c_494 => ?_)
                                            · have c_494 : ¬ (ns_left (S_g S) i) = 0 := fun z => c_494 ((nI_b (a := (ns_left (S_g S) i)) (b := 0) (by omega) (by omega)).2.2.mpr z)
                                              omega
                                            · have c_494 : (ns_left (S_g S) i) = 0 := (nI_b (a := (ns_left (S_g S) i)) (b := 0) (by omega) (by omega)).2.2.mp c_494
                                              refine cq_iconst F (v := 1) dL_areCords_497 rfl ?_
                                              refine cq_iload F dL_areCords_498 rfl ?_
                                              refine cq_ishl F dL_areCords_500 ?_
                                              refine cq_goto F (tgt := 505) dL_areCords_501 (by decide) ?_
                                              refine cq_ior F dL_areCords_505 ?_
                                              rw [(nI_set i (by omega) out (by omega)).1 ho9]
                                              refine cq_istore F dL_areCords_506 (by decide) ?_
                                              refine cq_iload F dL_areCords_508 rfl ?_
                                              refine cq_iload F dL_areCords_510 rfl ?_
                                              refine cq_iadd F dL_areCords_512 ?_
                                              rw [show (nI all + nI u : Int32) = nI (all + u) from nI_add _ _]
                                              refine cq_istore F dL_areCords_513 (by decide) ?_
                                              refine cq_iload F dL_areCords_515 rfl ?_
                                              refine cq_iload F dL_areCords_517 rfl ?_
                                              refine cq_iload F dL_areCords_519 rfl ?_
                                              refine cq_isub F dL_areCords_521 ?_
                                              rw [show (nI u - nI (ns_left (S_g S) i) : Int32) = nI (u - (ns_left (S_g S) i)) from pk_sub (a := u) (b := (ns_left (S_g S) i)) (by omega)]
                                              refine cq_iadd F dL_areCords_522 ?_
                                              rw [show (nI brn + nI (u - (ns_left (S_g S) i)) : Int32) = nI (brn + (u - (ns_left (S_g S) i))) from nI_add _ _]
                                              refine cq_istore F dL_areCords_523 (by decide) ?_
                                              refine cq_iinc F dL_areCords_525 rfl (by decide) (fun x_525 e_525 => ?_)
                                              obtain rfl : x_525 = nI (i + 1) := by rw [e_525]; exact nI_1 _
                                              refine cq_goto F (tgt := 31) dL_areCords_528 (by decide) ?_
                                              refine cq_widen (k := (1 + 40 * (i + 1))) (n := (6 + 240 * (i + 1))) (by omega) (by omega) ?_
                                              refine cq_loc (L2 := [(0, .ref o), (1, .ref ta), (2, .ref ca), (3, .ref na), (4, .int (nI (out + 2 ^ i))), (5, .int (nI (all + u))), (6, .int (nI (brn + (u - (ns_left (S_g S) i))))), (7, .int 1), (8, .int (nI (i + 1)))]) rfl ?_
                                              exact ih_31 (i + 1) (out + 2 ^ i) (all + u) (brn + (u - (ns_left (S_g S) i))) (by omega) (by show _ = ns_oset (S_g S) i + (if ns_left (S_g S) i = 0 then 2 ^ i else 0); rw [if_pos (by omega), hout]) (by rw [hall, hu9]; rfl) (by rw [hbrn]; show _ = ns_bsum (S_g S) i + ns_burned (S_g S) i; omega) (by omega)
          · have c_158 : ¬ (S_g S (7 + 11 * i)) ≤ k := fun z => c_158 ((nI_b (a := (S_g S (7 + 11 * i))) (b := k) (by omega) (by omega)).1.mpr z)
            have hseg : ns_sum (S_g S) (8 + 11 * i) (k + 1) = ns_sum (S_g S) (8 + 11 * i) k + S_g S (8 + 11 * i + k) := rfl
            have hmo := ns_sum_mono (g := S_g S) (b := 8 + 11 * i) (show k + 1 ≤ S_g S (7 + 11 * i) by omega)
            have hst : ns_time (S_g S) i = ns_sum (S_g S) (8 + 11 * i) (S_g S (7 + 11 * i)) := rfl
            have hs60 := (hq.2.1 k (by omega)).2
            refine cq_iconst F (v := 0) dL_areCords_161 rfl ?_
            refine cq_istore F dL_areCords_162 (by decide) ?_
            refine cq_loc (L2 := [(0, .ref o), (1, .ref ta), (2, .ref ca), (3, .ref na), (4, .int (nI out)), (5, .int (nI all)), (6, .int (nI brn)), (7, .int 1), (8, .int (nI i)), (9, .int (nI (S_g S (7 + 11 * i)))), (10, .int (nI (ns_left (S_g S) i))), (11, .int (nI u)), (12, .int fl), (13, .int fr), (14, .int (nI k)), (15, .int (nI 0))]) rfl ?_
            exact loop_164 61 0 u fl fr (by omega) (by omega) (by omega) hfl hfr (by omega)
      have loop_60 : ∀ (n_60 : Nat) (k m : Nat), i < S_g S 6 → k ≤ 6 → m = (if k < S_g S (7 + 11 * i) then k else S_g S (7 + 11 * i)) → 6 - k < n_60 → cq_V p9 l e9 rmL_areCords s9 m9 ([.ref o, .ref ta, .ref ca, .ref na] : List Value).toArray b9 t9 c9 D cA X Bs 16 ((1 + 40 * i + 2 * k)) ((6 + 240 * i + 12 * k)) (MQ b9 (cq_Q D cA X Bs (cq_PI (fun rv M1 => rv = 1 ∧ M1 = M))) ([.ref o, .ref ta, .ref ca, .ref na] : List Value).toArray s9 200 1200 (cq_A Bs)) 60 [(0, .ref o), (1, .ref ta), (2, .ref ca), (3, .ref na), (4, .int (nI out)), (5, .int (nI all)), (6, .int (nI brn)), (7, .int 1), (8, .int (nI i)), (9, .int (nI m)), (10, .int (nI (ns_left (S_g S) i))), (11, .int (nI k))] [] M := by
        intro n_60
        induction n_60 with
        | zero =>
          intros
          omega
        | succ n_60 ih_60 =>
          intro k m hi9 hk6 hm0 hn6
          obtain ⟨hc0, hc1, hc2, hc3, hc4⟩ := hrel.2.2.1 i hi9
          have hq := hk.1.2.2.2.1 i hi9
          have hTt := hq.time
          have hbt := hq.2.2.1
          have hbd : ns_burned (S_g S) i = S_g S (14 + 11 * i) + S_g S (15 + 11 * i) := rfl
          have hld : ns_left (S_g S) i = ns_time (S_g S) i - ns_burned (S_g S) i := rfl
          have h7 := hq.1
          have hTm := hrel.time hk.1 hi9
          have hff := hq.2.2.2.1
          refine cq_iload F dL_areCords_60 rfl ?_
          refine cq_bipush F (v := 6) dL_areCords_62 (by decide) ?_
          refine cq_icmp_ge F (tgt := 142) dL_areCords_64 (by decide) (fun c_64 => ?_) (fun c_64 => ?_)
          · have c_64 : 6 ≤ k := (nI_b (a := 6) (b := k) (by omega) (by omega)).1.mp c_64
            obtain rfl : k = 6 := by omega
            have hm6 : m = S_g S (7 + 11 * i) := by rw [hm0]; split <;> omega
            subst hm6
            refine cq_iconst F (v := 0) dL_areCords_142 rfl ?_
            refine cq_istore F dL_areCords_143 (by decide) ?_
            refine cq_iconst F (v := (-1)) dL_areCords_145 rfl ?_
            refine cq_istore F dL_areCords_146 (by decide) ?_
            refine cq_iconst F (v := (-1)) dL_areCords_148 rfl ?_
            refine cq_istore F dL_areCords_149 (by decide) ?_
            refine cq_iconst F (v := 0) dL_areCords_151 rfl ?_
            refine cq_istore F dL_areCords_152 (by decide) ?_
            refine cq_widen (k := (1 + 40 * i + 12)) (n := (6 + 240 * i + 72)) (by omega) (by omega) ?_
            refine cq_loc (L2 := [(0, .ref o), (1, .ref ta), (2, .ref ca), (3, .ref na), (4, .int (nI out)), (5, .int (nI all)), (6, .int (nI brn)), (7, .int 1), (8, .int (nI i)), (9, .int (nI (S_g S (7 + 11 * i)))), (10, .int (nI (ns_left (S_g S) i))), (11, .int (nI 0)), (12, .int (-1)), (13, .int (-1)), (14, .int (nI 0))]) rfl ?_
            exact loop_154 8 0 0 (-1) (-1) hi9 (by omega) rfl (if_neg (by omega)).symm (if_neg (by omega)).symm (by omega)
          · have c_64 : ¬ 6 ≤ k := fun z => c_64 ((nI_b (a := 6) (b := k) (by omega) (by omega)).1.mpr z)
            have htk := hrel.2.1 i hi9 k (by omega)
            have hsk := hq.2.1 k
            have htb : t (6 * i + k) ≤ 60 ∧ (0 < t (6 * i + k) ↔ k < S_g S (7 + 11 * i)) ∧ (k < S_g S (7 + 11 * i) → t (6 * i + k) = S_g S (8 + 11 * i + k)) := by
              rw [htk]
              by_cases e : k < S_g S (7 + 11 * i)
              · rw [if_pos e]; have := hsk e; exact ⟨by omega, by omega, fun _ => rfl⟩
              · rw [if_neg e]; exact ⟨by omega, by omega, fun z => absurd z e⟩
            obtain ⟨htb1, htb2, htb3⟩ := htb
            refine cq_iload F dL_areCords_67 rfl ?_
            refine cq_aload_n F (i := 1) dL_areCords_69 rfl rfl ?_
            refine cq_bipush F (v := 6) dL_areCords_70 (by decide) ?_
            refine cq_iload F dL_areCords_72 rfl ?_
            refine cq_imul F dL_areCords_74 ?_
            rw [show (6 * nI i : Int32) = nI (6 * i) from pk_mul _ _]
            refine cq_iload F dL_areCords_75 rfl ?_
            refine cq_iadd F dL_areCords_77 ?_
            rw [show (nI (6 * i) + nI k : Int32) = nI (6 * i + k) from nI_add _ _]
            refine cq_iald_j F (j := (6 * i + k)) ht.1 ht.2 rfl ⟨(by omega), by decide⟩ dL_areCords_78 ?_
            rw [hvt _ (by omega)]
            refine cq_if_le F (tgt := 86) dL_areCords_79 (by decide) (fun c_79 => ?_) (fun c_79 => ?_)
            · have c_79 : (t ((6 * i + k))) ≤ 0 := (nI_b (a := (t ((6 * i + k)))) (b := 0) (by omega) (by omega)).1.mp c_79
              refine cq_iconst F (v := 0) dL_areCords_86 rfl ?_
              refine cq_iadd F dL_areCords_87 ?_
              rw [show (nI m + 0 : Int32) = nI (m + 0) from nI_add _ _]
              refine cq_istore F dL_areCords_88 (by decide) ?_
              refine cq_iload F dL_areCords_90 rfl ?_
              refine cq_if_eq F (tgt := 133) dL_areCords_92 (by decide) (fun c_92 => ?_) (fun c_92 => ?_)
              · have c_92 : 1 = 0 := (nI_b (a := 1) (b := 0) (by omega) (by omega)).2.2.mp c_92
                omega
              · have c_92 : ¬ 1 = 0 := fun z => c_92 ((nI_b (a := 1) (b := 0) (by omega) (by omega)).2.2.mpr z)
                refine cq_aload_n F (i := 1) dL_areCords_95 rfl rfl ?_
                refine cq_bipush F (v := 6) dL_areCords_96 (by decide) ?_
                refine cq_iload F dL_areCords_98 rfl ?_
                refine cq_imul F dL_areCords_100 ?_
                rw [show (6 * nI i : Int32) = nI (6 * i) from pk_mul _ _]
                refine cq_iload F dL_areCords_101 rfl ?_
                refine cq_iadd F dL_areCords_103 ?_
                rw [show (nI (6 * i) + nI k : Int32) = nI (6 * i + k) from nI_add _ _]
                refine cq_iald_j F (j := (6 * i + k)) ht.1 ht.2 rfl ⟨(by omega), by decide⟩ dL_areCords_104 ?_
                rw [hvt _ (by omega)]
                refine cq_if_eq F (tgt := 129) dL_areCords_105 (by decide) (fun c_105 => ?_) (fun c_105 => ?_)
                · have c_105 : (t ((6 * i + k))) = 0 := (nI_b (a := (t ((6 * i + k)))) (b := 0) (by omega) (by omega)).2.2.mp c_105
                  refine cq_iconst F (v := 1) dL_areCords_129 rfl ?_
                  refine cq_goto F (tgt := 134) dL_areCords_130 (by decide) ?_
                  refine cq_istore F dL_areCords_134 (by decide) ?_
                  refine cq_iinc F dL_areCords_136 rfl (by decide) (fun x_136 e_136 => ?_)
                  obtain rfl : x_136 = nI (k + 1) := by rw [e_136]; exact nI_1 _
                  refine cq_goto F (tgt := 60) dL_areCords_139 (by decide) ?_
                  refine cq_widen (k := (1 + 40 * i + 2 * (k + 1))) (n := (6 + 240 * i + 12 * (k + 1))) (by omega) (by omega) ?_
                  refine cq_loc (L2 := [(0, .ref o), (1, .ref ta), (2, .ref ca), (3, .ref na), (4, .int (nI out)), (5, .int (nI all)), (6, .int (nI brn)), (7, .int 1), (8, .int (nI i)), (9, .int (nI (m + 0))), (10, .int (nI (ns_left (S_g S) i))), (11, .int (nI (k + 1)))]) rfl ?_
                  exact ih_60 (k + 1) (m + 0) hi9 (by omega) (by rw [hm0]; split <;> split <;> omega) (by omega)
                · have c_105 : ¬ (t ((6 * i + k))) = 0 := fun z => c_105 ((nI_b (a := (t ((6 * i + k)))) (b := 0) (by omega) (by omega)).2.2.mpr z)
                  have htb4 := htb3 (by omega)
                  refine cq_aload_n F (i := 0) dL_areCords_108 rfl rfl ?_
                  refine cq_iload F dL_areCords_109 rfl ?_
                  refine cq_iload F dL_areCords_111 rfl ?_
                  refine cq_callV F (C := RX6) (ci := 7) (nq_segment (l := l) (D := D) (cA := cA) (Bs := Bs) hl hb h hk i k hi9 (by omega)) (cwV 2 F.1.2.2.2.2 gL_areCords_X6_segment rfl rfl rfl hdVX6_segment ⟨Nat.le_of_ble_eq_true rfl, Nat.le_of_ble_eq_true rfl⟩) hb.kind ⟨by decide, by decide⟩ rfl rfl rfl (Nat.le_of_ble_eq_true rfl) dL_areCords_113 ⟨by show _ ≤ 200; omega, by show _ ≤ 1200; omega⟩ (cq_kIp fun r_113 h_113 => ?_)
                  obtain rfl : r_113 = nI (S_g S (8 + 11 * i + k)) := h_113
                  refine cq_aload_n F (i := 1) dL_areCords_116 rfl rfl ?_
                  refine cq_bipush F (v := 6) dL_areCords_117 (by decide) ?_
                  refine cq_iload F dL_areCords_119 rfl ?_
                  refine cq_imul F dL_areCords_121 ?_
                  rw [show (6 * nI i : Int32) = nI (6 * i) from pk_mul _ _]
                  refine cq_iload F dL_areCords_122 rfl ?_
                  refine cq_iadd F dL_areCords_124 ?_
                  rw [show (nI (6 * i) + nI k : Int32) = nI (6 * i + k) from nI_add _ _]
                  refine cq_iald_j F (j := (6 * i + k)) ht.1 ht.2 rfl ⟨(by omega), by decide⟩ dL_areCords_125 ?_
                  rw [hvt _ (by omega)]
                  refine cq_icmp_ne F (tgt := 133) dL_areCords_126 (by decide) (fun c_126 => ?_) (fun c_126 => ?_)
                  · have c_126 : ¬ (S_g S (8 + 11 * i + k)) = (t ((6 * i + k))) := fun z => c_126 ((nI_b (a := (S_g S (8 + 11 * i + k))) (b := (t ((6 * i + k)))) (by omega) (by omega)).2.2.mpr z)
                    omega
                  · have c_126 : (S_g S (8 + 11 * i + k)) = (t ((6 * i + k))) := (nI_b (a := (S_g S (8 + 11 * i + k))) (b := (t ((6 * i + k)))) (by omega) (by omega)).2.2.mp c_126
                    refine cq_iconst F (v := 1) dL_areCords_129 rfl ?_
                    refine cq_goto F (tgt := 134) dL_areCords_130 (by decide) ?_
                    refine cq_istore F dL_areCords_134 (by decide) ?_
                    refine cq_iinc F dL_areCords_136 rfl (by decide) (fun x_136 e_136 => ?_)
                    obtain rfl : x_136 = nI (k + 1) := by rw [e_136]; exact nI_1 _
                    refine cq_goto F (tgt := 60) dL_areCords_139 (by decide) ?_
                    refine cq_widen (k := (1 + 40 * i + 2 * (k + 1))) (n := (6 + 240 * i + 12 * (k + 1))) (by omega) (by omega) ?_
                    refine cq_loc (L2 := [(0, .ref o), (1, .ref ta), (2, .ref ca), (3, .ref na), (4, .int (nI out)), (5, .int (nI all)), (6, .int (nI brn)), (7, .int 1), (8, .int (nI i)), (9, .int (nI (m + 0))), (10, .int (nI (ns_left (S_g S) i))), (11, .int (nI (k + 1)))]) rfl ?_
                    exact ih_60 (k + 1) (m + 0) hi9 (by omega) (by rw [hm0]; split <;> split <;> omega) (by omega)
            · have c_79 : ¬ (t ((6 * i + k))) ≤ 0 := fun z => c_79 ((nI_b (a := (t ((6 * i + k)))) (b := 0) (by omega) (by omega)).1.mpr z)
              refine cq_iconst F (v := 1) dL_areCords_82 rfl ?_
              refine cq_goto F (tgt := 87) dL_areCords_83 (by decide) ?_
              refine cq_iadd F dL_areCords_87 ?_
              rw [show (nI m + 1 : Int32) = nI (m + 1) from nI_add _ _]
              refine cq_istore F dL_areCords_88 (by decide) ?_
              refine cq_iload F dL_areCords_90 rfl ?_
              refine cq_if_eq F (tgt := 133) dL_areCords_92 (by decide) (fun c_92 => ?_) (fun c_92 => ?_)
              · have c_92 : 1 = 0 := (nI_b (a := 1) (b := 0) (by omega) (by omega)).2.2.mp c_92
                omega
              · have c_92 : ¬ 1 = 0 := fun z => c_92 ((nI_b (a := 1) (b := 0) (by omega) (by omega)).2.2.mpr z)
                refine cq_aload_n F (i := 1) dL_areCords_95 rfl rfl ?_
                refine cq_bipush F (v := 6) dL_areCords_96 (by decide) ?_
                refine cq_iload F dL_areCords_98 rfl ?_
                refine cq_imul F dL_areCords_100 ?_
                rw [show (6 * nI i : Int32) = nI (6 * i) from pk_mul _ _]
                refine cq_iload F dL_areCords_101 rfl ?_
                refine cq_iadd F dL_areCords_103 ?_
                rw [show (nI (6 * i) + nI k : Int32) = nI (6 * i + k) from nI_add _ _]
                refine cq_iald_j F (j := (6 * i + k)) ht.1 ht.2 rfl ⟨(by omega), by decide⟩ dL_areCords_104 ?_
                rw [hvt _ (by omega)]
                refine cq_if_eq F (tgt := 129) dL_areCords_105 (by decide) (fun c_105 => ?_) (fun c_105 => ?_)
                · have c_105 : (t ((6 * i + k))) = 0 := (nI_b (a := (t ((6 * i + k)))) (b := 0) (by omega) (by omega)).2.2.mp c_105
                  refine cq_iconst F (v := 1) dL_areCords_129 rfl ?_
                  refine cq_goto F (tgt := 134) dL_areCords_130 (by decide) ?_
                  refine cq_istore F dL_areCords_134 (by decide) ?_
                  refine cq_iinc F dL_areCords_136 rfl (by decide) (fun x_136 e_136 => ?_)
                  obtain rfl : x_136 = nI (k + 1) := by rw [e_136]; exact nI_1 _
                  refine cq_goto F (tgt := 60) dL_areCords_139 (by decide) ?_
                  refine cq_widen (k := (1 + 40 * i + 2 * (k + 1))) (n := (6 + 240 * i + 12 * (k + 1))) (by omega) (by omega) ?_
                  refine cq_loc (L2 := [(0, .ref o), (1, .ref ta), (2, .ref ca), (3, .ref na), (4, .int (nI out)), (5, .int (nI all)), (6, .int (nI brn)), (7, .int 1), (8, .int (nI i)), (9, .int (nI (m + 1))), (10, .int (nI (ns_left (S_g S) i))), (11, .int (nI (k + 1)))]) rfl ?_
                  exact ih_60 (k + 1) (m + 1) hi9 (by omega) (by rw [hm0]; split <;> split <;> omega) (by omega)
                · have c_105 : ¬ (t ((6 * i + k))) = 0 := fun z => c_105 ((nI_b (a := (t ((6 * i + k)))) (b := 0) (by omega) (by omega)).2.2.mpr z)
                  have htb4 := htb3 (by omega)
                  refine cq_aload_n F (i := 0) dL_areCords_108 rfl rfl ?_
                  refine cq_iload F dL_areCords_109 rfl ?_
                  refine cq_iload F dL_areCords_111 rfl ?_
                  refine cq_callV F (C := RX6) (ci := 7) (nq_segment (l := l) (D := D) (cA := cA) (Bs := Bs) hl hb h hk i k hi9 (by omega)) (cwV 2 F.1.2.2.2.2 gL_areCords_X6_segment rfl rfl rfl hdVX6_segment ⟨Nat.le_of_ble_eq_true rfl, Nat.le_of_ble_eq_true rfl⟩) hb.kind ⟨by decide, by decide⟩ rfl rfl rfl (Nat.le_of_ble_eq_true rfl) dL_areCords_113 ⟨by show _ ≤ 200; omega, by show _ ≤ 1200; omega⟩ (cq_kIp fun r_113 h_113 => ?_)
                  obtain rfl : r_113 = nI (S_g S (8 + 11 * i + k)) := h_113
                  refine cq_aload_n F (i := 1) dL_areCords_116 rfl rfl ?_
                  refine cq_bipush F (v := 6) dL_areCords_117 (by decide) ?_
                  refine cq_iload F dL_areCords_119 rfl ?_
                  refine cq_imul F dL_areCords_121 ?_
                  rw [show (6 * nI i : Int32) = nI (6 * i) from pk_mul _ _]
                  refine cq_iload F dL_areCords_122 rfl ?_
                  refine cq_iadd F dL_areCords_124 ?_
                  rw [show (nI (6 * i) + nI k : Int32) = nI (6 * i + k) from nI_add _ _]
                  refine cq_iald_j F (j := (6 * i + k)) ht.1 ht.2 rfl ⟨(by omega), by decide⟩ dL_areCords_125 ?_
                  rw [hvt _ (by omega)]
                  refine cq_icmp_ne F (tgt := 133) dL_areCords_126 (by decide) (fun c_126 => ?_) (fun c_126 => ?_)
                  · have c_126 : ¬ (S_g S (8 + 11 * i + k)) = (t ((6 * i + k))) := fun z => c_126 ((nI_b (a := (S_g S (8 + 11 * i + k))) (b := (t ((6 * i + k)))) (by omega) (by omega)).2.2.mpr z)
                    omega
                  · have c_126 : (S_g S (8 + 11 * i + k)) = (t ((6 * i + k))) := (nI_b (a := (S_g S (8 + 11 * i + k))) (b := (t ((6 * i + k)))) (by omega) (by omega)).2.2.mp c_126
                    refine cq_iconst F (v := 1) dL_areCords_129 rfl ?_
                    refine cq_goto F (tgt := 134) dL_areCords_130 (by decide) ?_
                    refine cq_istore F dL_areCords_134 (by decide) ?_
                    refine cq_iinc F dL_areCords_136 rfl (by decide) (fun x_136 e_136 => ?_)
                    obtain rfl : x_136 = nI (k + 1) := by rw [e_136]; exact nI_1 _
                    refine cq_goto F (tgt := 60) dL_areCords_139 (by decide) ?_
                    refine cq_widen (k := (1 + 40 * i + 2 * (k + 1))) (n := (6 + 240 * i + 12 * (k + 1))) (by omega) (by omega) ?_
                    refine cq_loc (L2 := [(0, .ref o), (1, .ref ta), (2, .ref ca), (3, .ref na), (4, .int (nI out)), (5, .int (nI all)), (6, .int (nI brn)), (7, .int 1), (8, .int (nI i)), (9, .int (nI (m + 1))), (10, .int (nI (ns_left (S_g S) i))), (11, .int (nI (k + 1)))]) rfl ?_
                    exact ih_60 (k + 1) (m + 1) hi9 (by omega) (by rw [hm0]; split <;> split <;> omega) (by omega)
      refine cq_iload F dL_areCords_31 rfl ?_
      refine cq_aload_n F (i := 3) dL_areCords_33 rfl rfl ?_
      refine cq_bipush F (v := 6) dL_areCords_34 (by decide) ?_
      refine cq_iald_j F (j := 6) hn0.1 hn0.2 rfl ⟨(by omega), by decide⟩ dL_areCords_36 ?_
      rw [hvn _ (by omega)]
      refine cq_icmp_ge F (tgt := 531) dL_areCords_37 (by decide) (fun c_37 => ?_) (fun c_37 => ?_)
      · have c_37 : (n (6)) ≤ i := (nI_b (a := (n (6))) (b := i) (by omega) (by omega)).1.mp c_37
        obtain rfl : i = S_g S 6 := by omega
        have ho16 : ns_oset (S_g S) (S_g S 6) < 16 := Nat.lt_of_lt_of_le (ns_oset_lt _) (Nat.pow_le_pow_right (n := 2) (by decide) h6)
        refine cq_iload F dL_areCords_531 rfl ?_
        refine cq_if_eq F (tgt := 647) dL_areCords_533 (by decide) (fun c_533 => ?_) (fun c_533 => ?_)
        · have c_533 : 1 = 0 := (nI_b (a := 1) (b := 0) (by omega) (by omega)).2.2.mp c_533
          omega
        · have c_533 : ¬ 1 = 0 := fun z => c_533 ((nI_b (a := 1) (b := 0) (by omega) (by omega)).2.2.mpr z)
          refine cq_aload_n F (i := 0) dL_areCords_536 rfl rfl ?_
          refine cq_iconst F (v := 0) dL_areCords_537 rfl ?_
          refine cq_callV F (C := RX6) (ci := 7) (nq_count (l := l) (D := D) (cA := cA) (Bs := Bs) hl hb h hk 0 (by omega)) (cwV 1 F.1.2.2.2.2 gL_areCords_X6_count rfl rfl rfl hdVX6_count ⟨Nat.le_of_ble_eq_true rfl, Nat.le_of_ble_eq_true rfl⟩) hb.kind ⟨by decide, by decide⟩ rfl rfl rfl (Nat.le_of_ble_eq_true rfl) dL_areCords_538 ⟨by show _ ≤ 200; omega, by show _ ≤ 1200; omega⟩ (cq_kIp fun r_538 h_538 => ?_)
          obtain rfl : r_538 = nI (S_g S 0) := h_538
          refine cq_aload_n F (i := 3) dL_areCords_541 rfl rfl ?_
          refine cq_iconst F (v := 0) dL_areCords_542 rfl ?_
          refine cq_iald_j F (j := 0) hn0.1 hn0.2 rfl ⟨(by omega), by decide⟩ dL_areCords_543 ?_
          rw [(show M na 0 = nI (S_g S 0) by rw [hvn _ (by omega), n0])]
          refine cq_icmp_ne F (tgt := 647) dL_areCords_544 (by decide) (fun c_544 => ?_) (fun c_544 => ?_)
          · exact absurd rfl c_544
          · refine cq_aload_n F (i := 0) dL_areCords_547 rfl rfl ?_
            refine cq_iconst F (v := 3) dL_areCords_548 rfl ?_
            refine cq_callV F (C := RX6) (ci := 7) (nq_count (l := l) (D := D) (cA := cA) (Bs := Bs) hl hb h hk 3 (by omega)) (cwV 1 F.1.2.2.2.2 gL_areCords_X6_count rfl rfl rfl hdVX6_count ⟨Nat.le_of_ble_eq_true rfl, Nat.le_of_ble_eq_true rfl⟩) hb.kind ⟨by decide, by decide⟩ rfl rfl rfl (Nat.le_of_ble_eq_true rfl) dL_areCords_549 ⟨by show _ ≤ 200; omega, by show _ ≤ 1200; omega⟩ (cq_kIp fun r_549 h_549 => ?_)
            obtain rfl : r_549 = nI (ns_flames (S_g S) (S_g S 6)) := h_549
            refine cq_aload_n F (i := 2) dL_areCords_552 rfl rfl ?_
            refine cq_aload_n F (i := 3) dL_areCords_553 rfl rfl ?_
            refine cq_callS F (kL_flames l D cA X Bs ca na (S_g S 1) B t c r n b (S_g S) M hc hn0 hvc hvn hrel hk.1) (va_cwS 2 F.1.2.2.2.2 gL_areCords_L_flames rfl rfl rfl hdVL_flames.2 ⟨Nat.le_of_ble_eq_true rfl, Nat.le_of_ble_eq_true rfl⟩) rfl (Nat.le_of_ble_eq_true rfl) dL_areCords_554 ⟨by show _ ≤ 200; omega, by show _ ≤ 1200; omega⟩ (cq_kIp fun r_554 h_554 => ?_)
            subst h_554
            refine cq_icmp_ne F (tgt := 647) dL_areCords_557 (by decide) (fun c_557 => ?_) (fun c_557 => ?_)
            · exact absurd rfl c_557
            · refine cq_aload_n F (i := 0) dL_areCords_560 rfl rfl ?_
              refine cq_iconst F (v := 4) dL_areCords_561 rfl ?_
              refine cq_callV F (C := RX6) (ci := 7) (nq_count (l := l) (D := D) (cA := cA) (Bs := Bs) hl hb h hk 4 (by omega)) (cwV 1 F.1.2.2.2.2 gL_areCords_X6_count rfl rfl rfl hdVX6_count ⟨Nat.le_of_ble_eq_true rfl, Nat.le_of_ble_eq_true rfl⟩) hb.kind ⟨by decide, by decide⟩ rfl rfl rfl (Nat.le_of_ble_eq_true rfl) dL_areCords_562 ⟨by show _ ≤ 200; omega, by show _ ≤ 1200; omega⟩ (cq_kIp fun r_562 h_562 => ?_)
              obtain rfl : r_562 = nI (ns_oset (S_g S) (S_g S 6)) := h_562
              refine cq_iload F dL_areCords_565 rfl ?_
              refine cq_icmp_ne F (tgt := 647) dL_areCords_567 (by decide) (fun c_567 => ?_) (fun c_567 => ?_)
              · have c_567 : ¬ (ns_oset (S_g S) (S_g S 6)) = out := fun z => c_567 ((nI_b (a := (ns_oset (S_g S) (S_g S 6))) (b := out) (by omega) (by omega)).2.2.mpr z)
                omega
              · have c_567 : (ns_oset (S_g S) (S_g S 6)) = out := (nI_b (a := (ns_oset (S_g S) (S_g S 6))) (b := out) (by omega) (by omega)).2.2.mp c_567
                refine cq_aload_n F (i := 0) dL_areCords_570 rfl rfl ?_
                refine cq_iconst F (v := 5) dL_areCords_571 rfl ?_
                refine cq_callV F (C := RX6) (ci := 7) (nq_count (l := l) (D := D) (cA := cA) (Bs := Bs) hl hb h hk 5 (by omega)) (cwV 1 F.1.2.2.2.2 gL_areCords_X6_count rfl rfl rfl hdVX6_count ⟨Nat.le_of_ble_eq_true rfl, Nat.le_of_ble_eq_true rfl⟩) hb.kind ⟨by decide, by decide⟩ rfl rfl rfl (Nat.le_of_ble_eq_true rfl) dL_areCords_572 ⟨by show _ ≤ 200; omega, by show _ ≤ 1200; omega⟩ (cq_kIp fun r_572 h_572 => ?_)
                obtain rfl : r_572 = nI (S_g S 1) := h_572
                refine cq_aload_n F (i := 3) dL_areCords_575 rfl rfl ?_
                refine cq_iconst F (v := 1) dL_areCords_576 rfl ?_
                refine cq_iald_j F (j := 1) hn0.1 hn0.2 rfl ⟨(by omega), by decide⟩ dL_areCords_577 ?_
                rw [(show M na 1 = nI (S_g S 1) by rw [hvn _ (by omega), n1])]
                refine cq_icmp_ne F (tgt := 647) dL_areCords_578 (by decide) (fun c_578 => ?_) (fun c_578 => ?_)
                · exact absurd rfl c_578
                · refine cq_aload_n F (i := 0) dL_areCords_581 rfl rfl ?_
                  refine cq_bipush F (v := 6) dL_areCords_582 (by decide) ?_
                  refine cq_callV F (C := RX6) (ci := 7) (nq_count (l := l) (D := D) (cA := cA) (Bs := Bs) hl hb h hk 6 (by omega)) (cwV 1 F.1.2.2.2.2 gL_areCords_X6_count rfl rfl rfl hdVX6_count ⟨Nat.le_of_ble_eq_true rfl, Nat.le_of_ble_eq_true rfl⟩) hb.kind ⟨by decide, by decide⟩ rfl rfl rfl (Nat.le_of_ble_eq_true rfl) dL_areCords_584 ⟨by show _ ≤ 200; omega, by show _ ≤ 1200; omega⟩ (cq_kIp fun r_584 h_584 => ?_)
                  obtain rfl : r_584 = nI (S_g S 2) := h_584
                  refine cq_aload_n F (i := 3) dL_areCords_587 rfl rfl ?_
                  refine cq_iconst F (v := 2) dL_areCords_588 rfl ?_
                  refine cq_iald_j F (j := 2) hn0.1 hn0.2 rfl ⟨(by omega), by decide⟩ dL_areCords_589 ?_
                  rw [(show M na 2 = nI (S_g S 2) by rw [hvn _ (by omega), n2])]
                  refine cq_icmp_ne F (tgt := 647) dL_areCords_590 (by decide) (fun c_590 => ?_) (fun c_590 => ?_)
                  · exact absurd rfl c_590
                  · refine cq_aload_n F (i := 0) dL_areCords_593 rfl rfl ?_
                    refine cq_bipush F (v := 7) dL_areCords_594 (by decide) ?_
                    refine cq_callV F (C := RX6) (ci := 7) (nq_count (l := l) (D := D) (cA := cA) (Bs := Bs) hl hb h hk 7 (by omega)) (cwV 1 F.1.2.2.2.2 gL_areCords_X6_count rfl rfl rfl hdVX6_count ⟨Nat.le_of_ble_eq_true rfl, Nat.le_of_ble_eq_true rfl⟩) hb.kind ⟨by decide, by decide⟩ rfl rfl rfl (Nat.le_of_ble_eq_true rfl) dL_areCords_596 ⟨by show _ ≤ 200; omega, by show _ ≤ 1200; omega⟩ (cq_kIp fun r_596 h_596 => ?_)
                    obtain rfl : r_596 = nI (S_g S 3) := h_596
                    refine cq_aload_n F (i := 3) dL_areCords_599 rfl rfl ?_
                    refine cq_iconst F (v := 3) dL_areCords_600 rfl ?_
                    refine cq_iald_j F (j := 3) hn0.1 hn0.2 rfl ⟨(by omega), by decide⟩ dL_areCords_601 ?_
                    rw [(show M na 3 = nI (S_g S 3) by rw [hvn _ (by omega), n3])]
                    refine cq_icmp_ne F (tgt := 647) dL_areCords_602 (by decide) (fun c_602 => ?_) (fun c_602 => ?_)
                    · exact absurd rfl c_602
                    · refine cq_aload_n F (i := 0) dL_areCords_605 rfl rfl ?_
                      refine cq_bipush F (v := 8) dL_areCords_606 (by decide) ?_
                      refine cq_callV F (C := RX6) (ci := 7) (nq_count (l := l) (D := D) (cA := cA) (Bs := Bs) hl hb h hk 8 (by omega)) (cwV 1 F.1.2.2.2.2 gL_areCords_X6_count rfl rfl rfl hdVX6_count ⟨Nat.le_of_ble_eq_true rfl, Nat.le_of_ble_eq_true rfl⟩) hb.kind ⟨by decide, by decide⟩ rfl rfl rfl (Nat.le_of_ble_eq_true rfl) dL_areCords_608 ⟨by show _ ≤ 200; omega, by show _ ≤ 1200; omega⟩ (cq_kIp fun r_608 h_608 => ?_)
                      obtain rfl : r_608 = nI (S_g S 5) := h_608
                      refine cq_aload_n F (i := 3) dL_areCords_611 rfl rfl ?_
                      refine cq_iconst F (v := 5) dL_areCords_612 rfl ?_
                      refine cq_iald_j F (j := 5) hn0.1 hn0.2 rfl ⟨(by omega), by decide⟩ dL_areCords_613 ?_
                      rw [(show M na 5 = nI (S_g S 5) by rw [hvn _ (by omega), n5])]
                      refine cq_icmp_ne F (tgt := 647) dL_areCords_614 (by decide) (fun c_614 => ?_) (fun c_614 => ?_)
                      · exact absurd rfl c_614
                      · refine cq_aload_n F (i := 0) dL_areCords_617 rfl rfl ?_
                        refine cq_callV F (C := RX6) (ci := 7) (kX6_burned l D cA X Bs o B S M hb h hk) (cwV 0 F.1.2.2.2.2 gL_areCords_X6_burned rfl rfl rfl hdVX6_burned ⟨Nat.le_of_ble_eq_true rfl, Nat.le_of_ble_eq_true rfl⟩) hb.kind ⟨by decide, by decide⟩ rfl rfl rfl (Nat.le_of_ble_eq_true rfl) dL_areCords_618 ⟨by show _ ≤ 200; omega, by show _ ≤ 1200; omega⟩ (cq_kFe ?_)
                        refine cq_aload_n F (i := 3) dL_areCords_621 rfl rfl ?_
                        refine cq_bipush F (v := 6) dL_areCords_622 (by decide) ?_
                        refine cq_iald_j F (j := 6) hn0.1 hn0.2 rfl ⟨(by omega), by decide⟩ dL_areCords_624 ?_
                        rw [hvn _ (by omega)]
                        refine cq_if_ne F (tgt := 632) dL_areCords_625 (by decide) (fun c_625 => ?_) (fun c_625 => ?_)
                        · have c_625 : ¬ (n (6)) = 0 := fun z => c_625 ((nI_b (a := (n (6))) (b := 0) (by omega) (by omega)).2.2.mpr z)
                          refine cq_iload F dL_areCords_632 rfl ?_
                          refine cq_i2f F dL_areCords_634 ?_
                          refine cq_iload F dL_areCords_635 rfl ?_
                          refine cq_i2f F dL_areCords_637 ?_
                          refine cq_fdiv F dL_areCords_638 (by rw [hbrn, hall]; exact ns_share_n hk.1 (by omega)) ?_
                          have hsh : ns_share (S_g S) = FP.fdiv (FP.i2f (nI brn)) (FP.i2f (nI all)) := by
                            unfold ns_share
                            rw [if_neg (by omega), hbrn, hall]
                          rw [hsh]
                          refine cq_fcmp F (by rw [← hsh]; exact ns_share_ok hk.1) dL_areCords_639 ?_
                          refine cq_if_ne F (tgt := 647) dL_areCords_640 (by decide) (fun c_640 => ?_) (fun c_640 => ?_)
                          · have c_640 : ¬ 0 = 0 := fun z => c_640 ((nI_b (a := 0) (b := 0) (by omega) (by omega)).2.2.mpr z)
                            omega
                          · have c_640 : 0 = 0 := (nI_b (a := 0) (b := 0) (by omega) (by omega)).2.2.mp c_640
                            refine cq_iconst F (v := 1) dL_areCords_643 rfl ?_
                            refine cq_goto F (tgt := 648) dL_areCords_644 (by decide) ?_
                            exact cq_zret F hr (by rfl) (by omega) (by omega) dL_areCords_648 ⟨_, rfl, ⟨rfl, rfl⟩⟩
                        · have c_625 : (n (6)) = 0 := (nI_b (a := (n (6))) (b := 0) (by omega) (by omega)).2.2.mp c_625
                          refine cq_fconst0 F dL_areCords_628 ?_
                          refine cq_goto F (tgt := 639) dL_areCords_629 (by decide) ?_
                          have hsh : ns_share (S_g S) = FP.fconst0 := if_pos (by omega)
                          rw [hsh]
                          refine cq_fcmp F (by rw [← hsh]; exact ns_share_ok hk.1) dL_areCords_639 ?_
                          refine cq_if_ne F (tgt := 647) dL_areCords_640 (by decide) (fun c_640 => ?_) (fun c_640 => ?_)
                          · have c_640 : ¬ 0 = 0 := fun z => c_640 ((nI_b (a := 0) (b := 0) (by omega) (by omega)).2.2.mpr z)
                            omega
                          · have c_640 : 0 = 0 := (nI_b (a := 0) (b := 0) (by omega) (by omega)).2.2.mp c_640
                            refine cq_iconst F (v := 1) dL_areCords_643 rfl ?_
                            refine cq_goto F (tgt := 648) dL_areCords_644 (by decide) ?_
                            exact cq_zret F hr (by rfl) (by omega) (by omega) dL_areCords_648 ⟨_, rfl, ⟨rfl, rfl⟩⟩
      · have c_37 : ¬ (n (6)) ≤ i := fun z => c_37 ((nI_b (a := (n (6))) (b := i) (by omega) (by omega)).1.mpr z)
        have hi9 : i < S_g S 6 := by omega
        obtain ⟨hc0, hc1, hc2, hc3, hc4⟩ := hrel.2.2.1 i hi9
        have hq := hk.1.2.2.2.1 i hi9
        have hTt := hq.time
        have hbt := hq.2.2.1
        have hbd : ns_burned (S_g S) i = S_g S (14 + 11 * i) + S_g S (15 + 11 * i) := rfl
        have hld : ns_left (S_g S) i = ns_time (S_g S) i - ns_burned (S_g S) i := rfl
        have h7 := hq.1
        have hTm := hrel.time hk.1 hi9
        have hff := hq.2.2.2.1
        refine cq_iload F dL_areCords_40 rfl ?_
        refine cq_if_eq F (tgt := 531) dL_areCords_42 (by decide) (fun c_42 => ?_) (fun c_42 => ?_)
        · have c_42 : 1 = 0 := (nI_b (a := 1) (b := 0) (by omega) (by omega)).2.2.mp c_42
          omega
        · have c_42 : ¬ 1 = 0 := fun z => c_42 ((nI_b (a := 1) (b := 0) (by omega) (by omega)).2.2.mpr z)
          refine cq_iconst F (v := 0) dL_areCords_45 rfl ?_
          refine cq_istore F dL_areCords_46 (by decide) ?_
          refine cq_aload_n F (i := 1) dL_areCords_48 rfl rfl ?_
          refine cq_aload_n F (i := 2) dL_areCords_49 rfl rfl ?_
          refine cq_iload F dL_areCords_50 rfl ?_
          refine cq_callS F (nL_left (l := l) (D := D) (cA := cA) (Bs := Bs) ht hc hvt hvc hrel hk.1 hi9) (va_cwS 3 F.1.2.2.2.2 gL_areCords_L_left rfl rfl rfl hdVL_left.2 ⟨Nat.le_of_ble_eq_true rfl, Nat.le_of_ble_eq_true rfl⟩) rfl (Nat.le_of_ble_eq_true rfl) dL_areCords_52 ⟨by show _ ≤ 200; omega, by show _ ≤ 1200; omega⟩ (cq_kIp fun r_52 h_52 => ?_)
          subst h_52
          refine cq_istore F dL_areCords_55 (by decide) ?_
          refine cq_iconst F (v := 0) dL_areCords_57 rfl ?_
          refine cq_istore F dL_areCords_58 (by decide) ?_
          refine cq_widen (k := (1 + 40 * i + 2 * 0)) (n := (6 + 240 * i + 12 * 0)) (by omega) (by omega) ?_
          refine cq_loc (L2 := [(0, .ref o), (1, .ref ta), (2, .ref ca), (3, .ref na), (4, .int (nI out)), (5, .int (nI all)), (6, .int (nI brn)), (7, .int 1), (8, .int (nI i)), (9, .int (nI 0)), (10, .int (nI (ns_left (S_g S) i))), (11, .int (nI 0))]) rfl ?_
          exact loop_60 7 0 0 hi9 (by omega) (by split <;> omega) (by omega)
  refine cq_iconst F (v := 0) dL_areCords_0 rfl ?_
  refine cq_istore F dL_areCords_1 (by decide) ?_
  refine cq_iconst F (v := 0) dL_areCords_3 rfl ?_
  refine cq_istore F dL_areCords_4 (by decide) ?_
  refine cq_iconst F (v := 0) dL_areCords_6 rfl ?_
  refine cq_istore F dL_areCords_7 (by decide) ?_
  refine cq_aload_n F (i := 0) dL_areCords_9 rfl rfl ?_
  refine cq_iconst F (v := 1) dL_areCords_10 rfl ?_
  refine cq_callV F (C := RX6) (ci := 7) (nq_count (l := l) (D := D) (cA := cA) (Bs := Bs) hl hb h hk 1 (by omega)) (cwV 1 F.1.2.2.2.2 gL_areCords_X6_count rfl rfl rfl hdVX6_count ⟨Nat.le_of_ble_eq_true rfl, Nat.le_of_ble_eq_true rfl⟩) hb.kind ⟨by decide, by decide⟩ rfl rfl rfl (Nat.le_of_ble_eq_true rfl) dL_areCords_11 ⟨by show _ ≤ 200; omega, by show _ ≤ 1200; omega⟩ (cq_kIp fun r_11 h_11 => ?_)
  obtain rfl : r_11 = nI (S_g S 6) := h_11
  refine cq_aload_n F (i := 3) dL_areCords_14 rfl rfl ?_
  refine cq_bipush F (v := 6) dL_areCords_15 (by decide) ?_
  refine cq_iald_j F (j := 6) hn0.1 hn0.2 rfl ⟨(by omega), by decide⟩ dL_areCords_17 ?_
  rw [hvn _ (by omega)]
  refine cq_icmp_ne F (tgt := 25) dL_areCords_18 (by decide) (fun c_18 => ?_) (fun c_18 => ?_)
  · have c_18 : ¬ (S_g S 6) = (n (6)) := fun z => c_18 ((nI_b (a := (S_g S 6)) (b := (n (6))) (by omega) (by omega)).2.2.mpr z)
    omega
  · have c_18 : (S_g S 6) = (n (6)) := (nI_b (a := (S_g S 6)) (b := (n (6))) (by omega) (by omega)).2.2.mp c_18
    refine cq_iconst F (v := 1) dL_areCords_21 rfl ?_
    refine cq_goto F (tgt := 26) dL_areCords_22 (by decide) ?_
    refine cq_istore F dL_areCords_26 (by decide) ?_
    refine cq_iconst F (v := 0) dL_areCords_28 rfl ?_
    refine cq_istore F dL_areCords_29 (by decide) ?_
    refine cq_widen (k := (1 + 40 * 0)) (n := (6 + 240 * 0)) (by omega) (by omega) ?_
    refine cq_loc (L2 := [(0, .ref o), (1, .ref ta), (2, .ref ca), (3, .ref na), (4, .int (nI 0)), (5, .int (nI 0)), (6, .int (nI 0)), (7, .int 1), (8, .int (nI 0))]) rfl ?_
    exact loop_31 (S_g S 6 + 1) 0 0 0 0 (by omega) rfl rfl rfl (by omega)
theorem hdVL_areCords : yL_areCords.cls = RL ∧ yL_areCords.cls ≠ "java/lang/invoke/MethodHandle" ∧ yL_areCords.cls ≠ "java/lang/invoke/VarHandle" ∧ (parseMethodDescriptor yL_areCords.desc).map (fun d => d.parameters.length) = some 4 := by decide +kernel
