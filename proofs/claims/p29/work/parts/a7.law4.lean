/-! the law looks at the rules and the book -/
theorem en_l0_lt : ∀ (d n : Nat), d < en_l0 n ↔ 0 < n / 10 ^ d
  | 0, n => by
    by_cases h : n = 0
    · subst h; simp [en_l0_z]
    · rw [en_l0_s h]; simp; omega
  | d + 1, n => by
    by_cases h : n = 0
    · subst h; simp [en_l0_z]
    · rw [en_l0_s h]
      have ih := en_l0_lt d (n / 10)
      rw [Nat.div_div_eq_div_mul, ← Nat.pow_succ'] at ih
      rw [← ih]
      omega
theorem en_len_lt (d n : Nat) : d + 1 < en_len n ↔ 0 < n / 10 ^ d / 10 := by
  unfold en_len
  have := en_l0_lt d (n / 10)
  rw [Nat.div_div_eq_div_mul, Nat.mul_comm] at this
  rw [Nat.div_div_eq_div_mul]
  omega
theorem en_len_4 {n : Nat} (h : n ≤ 9999) : (999 < n → en_len n = 4) ∧ (n ≤ 999 → 99 < n → en_len n = 3) ∧ (n ≤ 99 → 9 < n → en_len n = 2) ∧ (n ≤ 9 → en_len n = 1) := by
  have h0 : 0 < en_len n := by unfold en_len; omega
  have h1 := en_len_lt 0 n
  have h2 := en_len_lt 1 n
  have h3 := en_len_lt 2 n
  have h4 := en_len_lt 3 n
  simp only [Nat.pow_zero, Nat.div_one, Nat.pow_one, show (10 : Nat) ^ 2 = 100 from rfl, show (10 : Nat) ^ 3 = 1000 from rfl] at h1 h2 h3 h4
  exact ⟨fun _ => by omega, fun _ _ => by omega, fun _ _ => by omega, fun _ => by omega⟩
def en_k (k : Nat) : Nat := if k = 2 then 3 else 5
theorem en_at_k {k c n j : Nat} (h : en_k k ≤ j) : en_at k c n j = en_tl c n (j - en_k k) := by
  unfold en_k at h ⊢
  unfold en_at
  by_cases e : k = 2
  · rw [if_pos e] at h ⊢
    rw [if_pos e, if_neg (by omega)]
  · rw [if_neg e] at h ⊢
    rw [if_neg e, if_neg (by omega)]
theorem en_e_end {k c n j : Nat} (h : j = en_k k + 3 + en_len n) : en_at k c n j = -1 := by
  rw [en_at_k (by omega)]
  unfold en_tl
  rw [if_neg (by omega), if_neg (by omega), if_neg (by omega), if_neg (by omega)]
theorem en_e_dig {k c n j d : Nat} (hd : d < en_len n) (h : j + 1 + d = en_k k + 3 + en_len n) : en_at k c n j = nI (48 + n / 10 ^ d % 10) := by
  rw [en_at_k (by omega)]
  unfold en_tl
  rw [if_neg (by omega), if_neg (by omega), if_neg (by omega), if_pos (by omega), show en_len n - 1 - (j - en_k k - 3) = d by omega]
theorem en_e_at {k c n j : Nat} (h : j = en_k k + 2) : en_at k c n j = 64 := by
  rw [en_at_k (by omega)]
  unfold en_tl
  rw [if_neg (by omega), if_neg (by omega), if_pos (by omega)]
theorem en_e_cord {k c n j : Nat} (h : j = en_k k + 1) : en_at k c n j = nI (48 + c) := by
  rw [en_at_k (by omega)]
  unfold en_tl
  rw [if_neg (by omega), if_pos (by omega)]
theorem en_e_sp {k c n j : Nat} (h : j = en_k k) : en_at k c n j = 32 := by
  rw [en_at_k (by omega)]
  unfold en_tl
  rw [if_pos (by omega)]
theorem en_k_v (k : Nat) : (k = 2 → en_k k = 3) ∧ (¬ k = 2 → en_k k = 5) := by
  unfold en_k
  exact ⟨fun h => if_pos h, fun h => if_neg h⟩
theorem lr.rp {t c r n b g : Nat → Nat} {v p B : Nat} (h : lr t c r n b v g) (hk : ns_ok g B) (hp : p / 4 < g 51) : (¬ p % 4 = 2 → r p = g (52 + 4 * (p / 4) + p % 4)) ∧ (p % 4 = 2 → r p = 1 - g (52 + 4 * (p / 4) + p % 4) ∧ g (52 + 4 * (p / 4) + p % 4) ≤ 1) := by
  obtain ⟨r0, r1, r2, r3⟩ := h.2.2.2.1 _ hp
  have h5 := (hk.2.2.2.2.1 _ hp).2.2
  have h9 : p % 4 = 0 ∨ p % 4 = 1 ∨ p % 4 = 2 ∨ p % 4 = 3 := by omega
  rcases h9 with e | e | e | e <;> rw [e]
  · refine ⟨fun _ => ?_, fun z => absurd z (by decide)⟩
    rw [show p = 4 * (p / 4) by omega, r0]
    congr 1
    omega
  · refine ⟨fun _ => ?_, fun z => absurd z (by decide)⟩
    rw [show p = 4 * (p / 4) + 1 by omega, r1]
    congr 1
    omega
  · refine ⟨fun z => absurd rfl z, fun _ => ⟨?_, ?_⟩⟩
    · rw [show p = 4 * (p / 4) + 2 by omega, r2]
      congr 2
      omega
    · rw [show 52 + 4 * (p / 4) + 2 = 54 + 4 * (p / 4) by omega]
      exact h5
  · refine ⟨fun _ => ?_, fun z => absurd z (by decide)⟩
    rw [show p = 4 * (p / 4) + 3 by omega, r3]
    congr 1
    omega
abbrev rmL_isBook : Room := ({ frames := 7, cells := 400, slots := 4000, locals := 224 })
set_option maxHeartbeats 4000000 in
set_option maxRecDepth 100000 in
theorem kL_isBook (l : Launch) (D : va_G) (cA : Nat → ClassId) (X : cq_X) (Bs : Nat) (hl : l.stackTraces = false) (o ra na ba B : Nat) (t c r n b : Nat → Nat) (S : as_T) (M : cq_M) (hr0 : lq_row X ra 32) (hn0 : lq_row X na 9) (hb0 : lq_row X ba 8) (hvr : cq_nv M ra 32 r) (hvn : cq_nv M na 9 n) (hvb : cq_nv M ba 8 b) (hb : cq_isClock X o) (h : ck M o S) (hk : as_ok S B) (hrel : lr t c r n b (S_g S 1) (S_g S)) (hB : B ≤ 9999) : cq_C l yL_isBook wsL_isBook rmL_isBook D cA X Bs [.ref o, .ref ra, .ref na, .ref ba] M (cq_PI (fun rv M1 => rv = 1 ∧ M1 = M)) 400 4000 := by
  refine cq_met (cc := cL_isBook) (maxL := 10) (ret := (some .boolean)) (by decide) rfl (Nat.le_of_ble_eq_true rfl) [(0, .ref o), (1, .ref ra), (2, .ref na), (3, .ref ba)] rfl rfl ?_
  intro p9 e9 s9 m9 b9 t9 c9 F hr
  have h6 := hk.1.1
  have h51 := hk.1.2.1
  have h84 := hk.1.2.2.1
  obtain ⟨n0, n1, n2, n3, n4, n5, n6, n7, n8⟩ := id hrel.1
  have loop_116 : ∀ (n_116 : Nat) (k : Nat), k ≤ S_g S 84 → S_g S 84 - k < n_116 → cq_V p9 l e9 rmL_isBook s9 m9 ([.ref o, .ref ra, .ref na, .ref ba] : List Value).toArray b9 t9 c9 D cA X Bs 10 ((50 + 30 * k)) ((300 + 300 * k)) (MQ b9 (cq_Q D cA X Bs (cq_PI (fun rv M1 => rv = 1 ∧ M1 = M))) ([.ref o, .ref ra, .ref na, .ref ba] : List Value).toArray s9 400 4000 (cq_A Bs)) 116 [(0, .ref o), (1, .ref ra), (2, .ref na), (3, .ref ba), (4, .int 1), (5, .int (nI k))] [] M := by
    intro n_116
    induction n_116 with
    | zero =>
      intros
      omega
    | succ n_116 ih_116 =>
      intro k hk8 hn
      have loop_228 : ∀ (n_228 : Nat) (d w at9 : Nat), k < S_g S 84 → d < en_len (S_g S (86 + 3 * k)) → w = (S_g S (86 + 3 * k)) / 10 ^ d → at9 + 1 + d = en_k (S_g S (85 + 3 * k)) + 3 + en_len (S_g S (86 + 3 * k)) → 5 - d < n_228 → cq_V p9 l e9 rmL_isBook s9 m9 ([.ref o, .ref ra, .ref na, .ref ba] : List Value).toArray b9 t9 c9 D cA X Bs 10 ((50 + 30 * k + 2 + 2 * d)) ((300 + 300 * k + 20 + 20 * d)) (MQ b9 (cq_Q D cA X Bs (cq_PI (fun rv M1 => rv = 1 ∧ M1 = M))) ([.ref o, .ref ra, .ref na, .ref ba] : List Value).toArray s9 400 4000 (cq_A Bs)) 228 [(0, .ref o), (1, .ref ra), (2, .ref na), (3, .ref ba), (4, .int 1), (5, .int (nI k)), (6, .int (nI (S_g S (85 + 3 * k)))), (7, .int (nI w)), (9, .int (nI at9))] [] M := by
        intro n_228
        induction n_228 with
        | zero =>
          intros
          omega
        | succ n_228 ih_228 =>
          intro d w at9 hk9 hd9 hw hat hn9
          have hbk := hrel.2.2.2.2 k hk9
          obtain ⟨hz1, hz2, hz3⟩ := hk.1.2.2.2.2.2.1 k hk9
          have hz0 := hk.1.2.2.2.2.2.2.1
          have hst9 : (S_g S (86 + 3 * k)) ≤ 9999 := by omega
          obtain ⟨hl4, hl3, hl2, hl1⟩ := en_len_4 hst9
          obtain ⟨htk1, htk2⟩ := en_k_v (S_g S (85 + 3 * k))
          have hlp : 1 ≤ en_len (S_g S (86 + 3 * k)) := by unfold en_len; omega
          have hd4 : d ≤ 3 := by omega
          have hw4 : w ≤ 9999 := by rw [hw]; exact Nat.le_trans (Nat.div_le_self _ _) hst9
          refine cq_iload F dL_isBook_228 rfl ?_
          refine cq_if_eq F (tgt := 256) dL_isBook_230 (by decide) (fun c_230 => ?_) (fun c_230 => ?_)
          · have c_230 : 1 = 0 := (nI_b (a := 1) (b := 0) (by omega) (by omega)).2.2.mp c_230
            omega
          · have c_230 : ¬ 1 = 0 := fun z => c_230 ((nI_b (a := 1) (b := 0) (by omega) (by omega)).2.2.mpr z)
            refine cq_aload_n F (i := 0) dL_isBook_233 rfl rfl ?_
            refine cq_iload F dL_isBook_234 rfl ?_
            refine cq_iload F dL_isBook_236 rfl ?_
            refine cq_callV F (C := RX6) (ci := 7) (nq_entry (l := l) (D := D) (cA := cA) (Bs := Bs) hl hb h hk (by omega) k at9 (by omega) (by omega)) (cwV 2 F.1.2.2.2.2 gL_isBook_X6_entry rfl rfl rfl hdVX6_entry ⟨Nat.le_of_ble_eq_true rfl, Nat.le_of_ble_eq_true rfl⟩) hb.kind ⟨by decide, by decide⟩ rfl rfl rfl (Nat.le_of_ble_eq_true rfl) dL_isBook_238 ⟨by show _ ≤ 400; omega, by show _ ≤ 4000; omega⟩ (cq_kIp fun r_238 h_238 => ?_)
            refine cq_bipush F (v := 48) dL_isBook_241 (by decide) ?_
            refine cq_iload F dL_isBook_243 rfl ?_
            refine cq_bipush F (v := 10) dL_isBook_245 (by decide) ?_
            refine cq_irem F dL_isBook_247 (by decide) ?_
            rw [show (nI w - nI w / 10 * 10 : Int32) = nI (w % 10) from pk_rem (d := 10) (by omega) (by omega) (by omega)]
            refine cq_iadd F dL_isBook_248 ?_
            rw [show (48 + nI (w % 10) : Int32) = nI (48 + (w % 10)) from nI_add _ _]
            refine cq_icmp_ne F (tgt := 256) dL_isBook_249 (by decide) (fun c_249 => ?_) (fun c_249 => ?_)
            · exact absurd c_249 (fun z => z (by rw [h_238, if_pos hk9]; rw [hw]; exact en_e_dig hd9 (by omega)))
            · refine cq_iconst F (v := 1) dL_isBook_252 rfl ?_
              refine cq_goto F (tgt := 257) dL_isBook_253 (by decide) ?_
              refine cq_istore F dL_isBook_257 (by decide) ?_
              refine cq_iload F dL_isBook_259 rfl ?_
              refine cq_bipush F (v := 10) dL_isBook_261 (by decide) ?_
              refine cq_idiv F dL_isBook_263 (by decide) ?_
              rw [show (nI w / 10 : Int32) = nI (w / 10) from pk_div (d := 10) (by omega) (by decide) (by decide)]
              refine cq_istore F dL_isBook_264 (by decide) ?_
              refine cq_iinc F dL_isBook_266 rfl (by decide) (fun x_266 e_266 => ?_)
              obtain rfl : x_266 = nI (at9 - 1) := by rw [e_266]; exact nI_dn (by omega)
              refine cq_iload F dL_isBook_269 rfl ?_
              refine cq_if_gt F (tgt := 228) dL_isBook_271 (by decide) (fun c_271 => ?_) (fun c_271 => ?_)
              · have c_271 : 0 < (w / 10) := (nI_b (a := 0) (b := (w / 10)) (by omega) (by omega)).2.1.mp c_271
                refine cq_widen (k := (50 + 30 * k + 2 + 2 * (d + 1))) (n := (300 + 300 * k + 20 + 20 * (d + 1))) (by omega) (by omega) ?_
                refine cq_loc (L2 := [(0, .ref o), (1, .ref ra), (2, .ref na), (3, .ref ba), (4, .int 1), (5, .int (nI k)), (6, .int (nI (S_g S (85 + 3 * k)))), (7, .int (nI (w / 10))), (9, .int (nI (at9 - 1)))]) rfl ?_
                exact ih_228 (d + 1) (w / 10) (at9 - 1) hk9 ((en_len_lt d _).mpr (by rw [← hw]; omega)) (by rw [hw, Nat.div_div_eq_div_mul, ← Nat.pow_succ]) (by omega) (by omega)
              · have c_271 : ¬ 0 < (w / 10) := fun z => c_271 ((nI_b (a := 0) (b := (w / 10)) (by omega) (by omega)).2.1.mpr z)
                have hlen : en_len (S_g S (86 + 3 * k)) = d + 1 := by
                  have z9 := (en_len_lt d (S_g S (86 + 3 * k))).mp
                  rw [← hw] at z9
                  omega
                refine cq_iload F dL_isBook_274 rfl ?_
                refine cq_if_eq F (tgt := 432) dL_isBook_276 (by decide) (fun c_276 => ?_) (fun c_276 => ?_)
                · have c_276 : 1 = 0 := (nI_b (a := 1) (b := 0) (by omega) (by omega)).2.2.mp c_276
                  omega
                · have c_276 : ¬ 1 = 0 := fun z => c_276 ((nI_b (a := 1) (b := 0) (by omega) (by omega)).2.2.mpr z)
                  refine cq_aload_n F (i := 0) dL_isBook_279 rfl rfl ?_
                  refine cq_iload F dL_isBook_280 rfl ?_
                  refine cq_iload F dL_isBook_282 rfl ?_
                  refine cq_callV F (C := RX6) (ci := 7) (nq_entry (l := l) (D := D) (cA := cA) (Bs := Bs) hl hb h hk (by omega) k (at9 - 1) (by omega) (by omega)) (cwV 2 F.1.2.2.2.2 gL_isBook_X6_entry rfl rfl rfl hdVX6_entry ⟨Nat.le_of_ble_eq_true rfl, Nat.le_of_ble_eq_true rfl⟩) hb.kind ⟨by decide, by decide⟩ rfl rfl rfl (Nat.le_of_ble_eq_true rfl) dL_isBook_284 ⟨by show _ ≤ 400; omega, by show _ ≤ 4000; omega⟩ (cq_kIp fun r_284 h_284 => ?_)
                  refine cq_bipush F (v := 64) dL_isBook_287 (by decide) ?_
                  refine cq_icmp_ne F (tgt := 432) dL_isBook_289 (by decide) (fun c_289 => ?_) (fun c_289 => ?_)
                  · exact absurd c_289 (fun z => z (by rw [h_284, if_pos hk9]; exact en_e_at (by omega)))
                  · refine cq_aload_n F (i := 0) dL_isBook_292 rfl rfl ?_
                    refine cq_iload F dL_isBook_293 rfl ?_
                    refine cq_iload F dL_isBook_295 rfl ?_
                    refine cq_iconst F (v := 1) dL_isBook_297 rfl ?_
                    refine cq_isub F dL_isBook_298 ?_
                    rw [show (nI (at9 - 1) - 1 : Int32) = nI (at9 - 1 - 1) from pk_sub (a := at9 - 1) (b := 1) (by omega)]
                    refine cq_callV F (C := RX6) (ci := 7) (nq_entry (l := l) (D := D) (cA := cA) (Bs := Bs) hl hb h hk (by omega) k (at9 - 1 - 1) (by omega) (by omega)) (cwV 2 F.1.2.2.2.2 gL_isBook_X6_entry rfl rfl rfl hdVX6_entry ⟨Nat.le_of_ble_eq_true rfl, Nat.le_of_ble_eq_true rfl⟩) hb.kind ⟨by decide, by decide⟩ rfl rfl rfl (Nat.le_of_ble_eq_true rfl) dL_isBook_299 ⟨by show _ ≤ 400; omega, by show _ ≤ 4000; omega⟩ (cq_kIp fun r_299 h_299 => ?_)
                    refine cq_bipush F (v := 48) dL_isBook_302 (by decide) ?_
                    refine cq_aload_n F (i := 3) dL_isBook_304 rfl rfl ?_
                    refine cq_iload F dL_isBook_305 rfl ?_
                    refine cq_iald_j F (j := k) hb0.1 hb0.2 rfl ⟨(by omega), by decide⟩ dL_isBook_307 ?_
                    rw [hvb _ (by omega)]
                    refine cq_bipush F (v := 10) dL_isBook_308 (by decide) ?_
                    refine cq_irem F dL_isBook_310 (by decide) ?_
                    rw [show (nI (b (k)) - nI (b (k)) / 10 * 10 : Int32) = nI ((b (k)) % 10) from pk_rem (d := 10) (by omega) (by omega) (by omega)]
                    refine cq_iadd F dL_isBook_311 ?_
                    rw [show (48 + nI ((b (k)) % 10) : Int32) = nI (48 + ((b (k)) % 10)) from nI_add _ _]
                    refine cq_icmp_ne F (tgt := 432) dL_isBook_312 (by decide) (fun c_312 => ?_) (fun c_312 => ?_)
                    · exact absurd c_312 (fun z => z (by rw [h_299, if_pos hk9]; rw [en_e_cord (by omega)]; exact congrArg nI (by omega)))
                    · refine cq_aload_n F (i := 0) dL_isBook_315 rfl rfl ?_
                      refine cq_iload F dL_isBook_316 rfl ?_
                      refine cq_iload F dL_isBook_318 rfl ?_
                      refine cq_iconst F (v := 2) dL_isBook_320 rfl ?_
                      refine cq_isub F dL_isBook_321 ?_
                      rw [show (nI (at9 - 1) - 2 : Int32) = nI (at9 - 1 - 2) from pk_sub (a := at9 - 1) (b := 2) (by omega)]
                      refine cq_callV F (C := RX6) (ci := 7) (nq_entry (l := l) (D := D) (cA := cA) (Bs := Bs) hl hb h hk (by omega) k (at9 - 1 - 2) (by omega) (by omega)) (cwV 2 F.1.2.2.2.2 gL_isBook_X6_entry rfl rfl rfl hdVX6_entry ⟨Nat.le_of_ble_eq_true rfl, Nat.le_of_ble_eq_true rfl⟩) hb.kind ⟨by decide, by decide⟩ rfl rfl rfl (Nat.le_of_ble_eq_true rfl) dL_isBook_322 ⟨by show _ ≤ 400; omega, by show _ ≤ 4000; omega⟩ (cq_kIp fun r_322 h_322 => ?_)
                      refine cq_bipush F (v := 32) dL_isBook_325 (by decide) ?_
                      refine cq_icmp_ne F (tgt := 432) dL_isBook_327 (by decide) (fun c_327 => ?_) (fun c_327 => ?_)
                      · exact absurd c_327 (fun z => z (by rw [h_322, if_pos hk9]; exact en_e_sp (by omega)))
                      · refine cq_aload_n F (i := 0) dL_isBook_330 rfl rfl ?_
                        refine cq_iload F dL_isBook_331 rfl ?_
                        refine cq_iconst F (v := 0) dL_isBook_333 rfl ?_
                        refine cq_callV F (C := RX6) (ci := 7) (nq_entry (l := l) (D := D) (cA := cA) (Bs := Bs) hl hb h hk (by omega) k 0 (by omega) (by omega)) (cwV 2 F.1.2.2.2.2 gL_isBook_X6_entry rfl rfl rfl hdVX6_entry ⟨Nat.le_of_ble_eq_true rfl, Nat.le_of_ble_eq_true rfl⟩) hb.kind ⟨by decide, by decide⟩ rfl rfl rfl (Nat.le_of_ble_eq_true rfl) dL_isBook_334 ⟨by show _ ≤ 400; omega, by show _ ≤ 4000; omega⟩ (cq_kIp fun r_334 h_334 => ?_)
                        refine cq_iload F dL_isBook_337 rfl ?_
                        refine cq_iconst F (v := 2) dL_isBook_339 rfl ?_
                        refine cq_icmp_ne F (tgt := 348) dL_isBook_340 (by decide) (fun c_340 => ?_) (fun c_340 => ?_)
                        · have c_340 : ¬ (S_g S (85 + 3 * k)) = 2 := fun z => c_340 ((nI_b (a := (S_g S (85 + 3 * k))) (b := 2) (by omega) (by omega)).2.2.mpr z)
                          refine cq_bipush F (v := 108) dL_isBook_348 (by decide) ?_
                          refine cq_icmp_ne F (tgt := 432) dL_isBook_350 (by decide) (fun c_350 => ?_) (fun c_350 => ?_)
                          · exact absurd c_350 (fun z => z (by rw [h_334, if_pos hk9]; unfold en_at; first | (rw [if_pos c_340, if_pos (by omega), if_pos rfl]) | (rw [if_neg c_340, if_pos (by omega), if_pos rfl])))
                          · refine cq_aload_n F (i := 0) dL_isBook_353 rfl rfl ?_
                            refine cq_iload F dL_isBook_354 rfl ?_
                            refine cq_iconst F (v := 1) dL_isBook_356 rfl ?_
                            refine cq_callV F (C := RX6) (ci := 7) (nq_entry (l := l) (D := D) (cA := cA) (Bs := Bs) hl hb h hk (by omega) k 1 (by omega) (by omega)) (cwV 2 F.1.2.2.2.2 gL_isBook_X6_entry rfl rfl rfl hdVX6_entry ⟨Nat.le_of_ble_eq_true rfl, Nat.le_of_ble_eq_true rfl⟩) hb.kind ⟨by decide, by decide⟩ rfl rfl rfl (Nat.le_of_ble_eq_true rfl) dL_isBook_357 ⟨by show _ ≤ 400; omega, by show _ ≤ 4000; omega⟩ (cq_kIp fun r_357 h_357 => ?_)
                            refine cq_iload F dL_isBook_360 rfl ?_
                            refine cq_iconst F (v := 2) dL_isBook_362 rfl ?_
                            refine cq_icmp_ne F (tgt := 371) dL_isBook_363 (by decide) (fun c_363 => ?_) (fun c_363 => ?_)
                            · have c_363 : ¬ (S_g S (85 + 3 * k)) = 2 := fun z => c_363 ((nI_b (a := (S_g S (85 + 3 * k))) (b := 2) (by omega) (by omega)).2.2.mpr z)
                              refine cq_bipush F (v := 105) dL_isBook_371 (by decide) ?_
                              refine cq_icmp_ne F (tgt := 432) dL_isBook_373 (by decide) (fun c_373 => ?_) (fun c_373 => ?_)
                              · exact absurd c_373 (fun z => z (by rw [h_357, if_pos hk9]; unfold en_at; first | (rw [if_pos c_340, if_pos (by omega), if_neg (by omega), if_pos rfl]) | (rw [if_neg c_340, if_pos (by omega), if_neg (by omega), if_pos rfl])))
                              · refine cq_aload_n F (i := 0) dL_isBook_376 rfl rfl ?_
                                refine cq_iload F dL_isBook_377 rfl ?_
                                refine cq_iconst F (v := 2) dL_isBook_379 rfl ?_
                                refine cq_callV F (C := RX6) (ci := 7) (nq_entry (l := l) (D := D) (cA := cA) (Bs := Bs) hl hb h hk (by omega) k 2 (by omega) (by omega)) (cwV 2 F.1.2.2.2.2 gL_isBook_X6_entry rfl rfl rfl hdVX6_entry ⟨Nat.le_of_ble_eq_true rfl, Nat.le_of_ble_eq_true rfl⟩) hb.kind ⟨by decide, by decide⟩ rfl rfl rfl (Nat.le_of_ble_eq_true rfl) dL_isBook_380 ⟨by show _ ≤ 400; omega, by show _ ≤ 4000; omega⟩ (cq_kIp fun r_380 h_380 => ?_)
                                refine cq_bipush F (v := 116) dL_isBook_383 (by decide) ?_
                                refine cq_icmp_ne F (tgt := 432) dL_isBook_385 (by decide) (fun c_385 => ?_) (fun c_385 => ?_)
                                · exact absurd c_385 (fun z => z (by rw [h_380, if_pos hk9]; unfold en_at; first | (rw [if_pos c_340, if_pos (by omega), if_neg (by omega), if_neg (by omega)]) | (rw [if_neg c_340, if_pos (by omega), if_neg (by omega), if_neg (by omega), if_pos rfl])))
                                · refine cq_iload F dL_isBook_388 rfl ?_
                                  refine cq_iconst F (v := 2) dL_isBook_390 rfl ?_
                                  refine cq_icmp_eq F (tgt := 428) dL_isBook_391 (by decide) (fun c_391 => ?_) (fun c_391 => ?_)
                                  · have c_391 : (S_g S (85 + 3 * k)) = 2 := (nI_b (a := (S_g S (85 + 3 * k))) (b := 2) (by omega) (by omega)).2.2.mp c_391
                                    omega
                                  · have c_391 : ¬ (S_g S (85 + 3 * k)) = 2 := fun z => c_391 ((nI_b (a := (S_g S (85 + 3 * k))) (b := 2) (by omega) (by omega)).2.2.mpr z)
                                    refine cq_aload_n F (i := 0) dL_isBook_394 rfl rfl ?_
                                    refine cq_iload F dL_isBook_395 rfl ?_
                                    refine cq_iconst F (v := 3) dL_isBook_397 rfl ?_
                                    refine cq_callV F (C := RX6) (ci := 7) (nq_entry (l := l) (D := D) (cA := cA) (Bs := Bs) hl hb h hk (by omega) k 3 (by omega) (by omega)) (cwV 2 F.1.2.2.2.2 gL_isBook_X6_entry rfl rfl rfl hdVX6_entry ⟨Nat.le_of_ble_eq_true rfl, Nat.le_of_ble_eq_true rfl⟩) hb.kind ⟨by decide, by decide⟩ rfl rfl rfl (Nat.le_of_ble_eq_true rfl) dL_isBook_398 ⟨by show _ ≤ 400; omega, by show _ ≤ 4000; omega⟩ (cq_kIp fun r_398 h_398 => ?_)
                                    refine cq_bipush F (v := 32) dL_isBook_401 (by decide) ?_
                                    refine cq_icmp_ne F (tgt := 432) dL_isBook_403 (by decide) (fun c_403 => ?_) (fun c_403 => ?_)
                                    · exact absurd c_403 (fun z => z (by rw [h_398, if_pos hk9]; unfold en_at; rw [if_neg c_340, if_pos (by omega), if_neg (by omega), if_neg (by omega), if_neg (by omega), if_pos rfl]))
                                    · refine cq_aload_n F (i := 0) dL_isBook_406 rfl rfl ?_
                                      refine cq_iload F dL_isBook_407 rfl ?_
                                      refine cq_iconst F (v := 4) dL_isBook_409 rfl ?_
                                      refine cq_callV F (C := RX6) (ci := 7) (nq_entry (l := l) (D := D) (cA := cA) (Bs := Bs) hl hb h hk (by omega) k 4 (by omega) (by omega)) (cwV 2 F.1.2.2.2.2 gL_isBook_X6_entry rfl rfl rfl hdVX6_entry ⟨Nat.le_of_ble_eq_true rfl, Nat.le_of_ble_eq_true rfl⟩) hb.kind ⟨by decide, by decide⟩ rfl rfl rfl (Nat.le_of_ble_eq_true rfl) dL_isBook_410 ⟨by show _ ≤ 400; omega, by show _ ≤ 4000; omega⟩ (cq_kIp fun r_410 h_410 => ?_)
                                      refine cq_iload F dL_isBook_413 rfl ?_
                                      refine cq_if_ne F (tgt := 423) dL_isBook_415 (by decide) (fun c_415 => ?_) (fun c_415 => ?_)
                                      · have c_415 : ¬ (S_g S (85 + 3 * k)) = 0 := fun z => c_415 ((nI_b (a := (S_g S (85 + 3 * k))) (b := 0) (by omega) (by omega)).2.2.mpr z)
                                        refine cq_bipush F (v := 82) dL_isBook_423 (by decide) ?_
                                        refine cq_icmp_ne F (tgt := 432) dL_isBook_425 (by decide) (fun c_425 => ?_) (fun c_425 => ?_)
                                        · exact absurd c_425 (fun z => z (by rw [h_410, if_pos hk9]; unfold en_at; rw [if_neg c_340, if_pos (by omega), if_neg (by omega), if_neg (by omega), if_neg (by omega), if_neg (by omega)]; first | exact if_pos c_415 | exact if_neg c_415))
                                        · refine cq_iconst F (v := 1) dL_isBook_428 rfl ?_
                                          refine cq_goto F (tgt := 433) dL_isBook_429 (by decide) ?_
                                          refine cq_istore F dL_isBook_433 (by decide) ?_
                                          refine cq_iinc F dL_isBook_435 rfl (by decide) (fun x_435 e_435 => ?_)
                                          obtain rfl : x_435 = nI (k + 1) := by rw [e_435]; exact nI_1 _
                                          refine cq_goto F (tgt := 116) dL_isBook_438 (by decide) ?_
                                          refine cq_widen (k := (50 + 30 * (k + 1))) (n := (300 + 300 * (k + 1))) (by omega) (by omega) ?_
                                          refine cq_loc (L2 := [(0, .ref o), (1, .ref ra), (2, .ref na), (3, .ref ba), (4, .int 1), (5, .int (nI (k + 1)))]) rfl ?_
                                          exact ih_116 (k + 1) (by omega) (by omega)
                                      · have c_415 : (S_g S (85 + 3 * k)) = 0 := (nI_b (a := (S_g S (85 + 3 * k))) (b := 0) (by omega) (by omega)).2.2.mp c_415
                                        refine cq_bipush F (v := 76) dL_isBook_418 (by decide) ?_
                                        refine cq_goto F (tgt := 425) dL_isBook_420 (by decide) ?_
                                        refine cq_icmp_ne F (tgt := 432) dL_isBook_425 (by decide) (fun c_425 => ?_) (fun c_425 => ?_)
                                        · exact absurd c_425 (fun z => z (by rw [h_410, if_pos hk9]; unfold en_at; rw [if_neg c_340, if_pos (by omega), if_neg (by omega), if_neg (by omega), if_neg (by omega), if_neg (by omega)]; first | exact if_pos c_415 | exact if_neg c_415))
                                        · refine cq_iconst F (v := 1) dL_isBook_428 rfl ?_
                                          refine cq_goto F (tgt := 433) dL_isBook_429 (by decide) ?_
                                          refine cq_istore F dL_isBook_433 (by decide) ?_
                                          refine cq_iinc F dL_isBook_435 rfl (by decide) (fun x_435 e_435 => ?_)
                                          obtain rfl : x_435 = nI (k + 1) := by rw [e_435]; exact nI_1 _
                                          refine cq_goto F (tgt := 116) dL_isBook_438 (by decide) ?_
                                          refine cq_widen (k := (50 + 30 * (k + 1))) (n := (300 + 300 * (k + 1))) (by omega) (by omega) ?_
                                          refine cq_loc (L2 := [(0, .ref o), (1, .ref ra), (2, .ref na), (3, .ref ba), (4, .int 1), (5, .int (nI (k + 1)))]) rfl ?_
                                          exact ih_116 (k + 1) (by omega) (by omega)
                            · have c_363 : (S_g S (85 + 3 * k)) = 2 := (nI_b (a := (S_g S (85 + 3 * k))) (b := 2) (by omega) (by omega)).2.2.mp c_363
                              omega
                        · have c_340 : (S_g S (85 + 3 * k)) = 2 := (nI_b (a := (S_g S (85 + 3 * k))) (b := 2) (by omega) (by omega)).2.2.mp c_340
                          refine cq_bipush F (v := 111) dL_isBook_343 (by decide) ?_
                          refine cq_goto F (tgt := 350) dL_isBook_345 (by decide) ?_
                          refine cq_icmp_ne F (tgt := 432) dL_isBook_350 (by decide) (fun c_350 => ?_) (fun c_350 => ?_)
                          · exact absurd c_350 (fun z => z (by rw [h_334, if_pos hk9]; unfold en_at; first | (rw [if_pos c_340, if_pos (by omega), if_pos rfl]) | (rw [if_neg c_340, if_pos (by omega), if_pos rfl])))
                          · refine cq_aload_n F (i := 0) dL_isBook_353 rfl rfl ?_
                            refine cq_iload F dL_isBook_354 rfl ?_
                            refine cq_iconst F (v := 1) dL_isBook_356 rfl ?_
                            refine cq_callV F (C := RX6) (ci := 7) (nq_entry (l := l) (D := D) (cA := cA) (Bs := Bs) hl hb h hk (by omega) k 1 (by omega) (by omega)) (cwV 2 F.1.2.2.2.2 gL_isBook_X6_entry rfl rfl rfl hdVX6_entry ⟨Nat.le_of_ble_eq_true rfl, Nat.le_of_ble_eq_true rfl⟩) hb.kind ⟨by decide, by decide⟩ rfl rfl rfl (Nat.le_of_ble_eq_true rfl) dL_isBook_357 ⟨by show _ ≤ 400; omega, by show _ ≤ 4000; omega⟩ (cq_kIp fun r_357 h_357 => ?_)
                            refine cq_iload F dL_isBook_360 rfl ?_
                            refine cq_iconst F (v := 2) dL_isBook_362 rfl ?_
                            refine cq_icmp_ne F (tgt := 371) dL_isBook_363 (by decide) (fun c_363 => ?_) (fun c_363 => ?_)
                            · have c_363 : ¬ (S_g S (85 + 3 * k)) = 2 := fun z => c_363 ((nI_b (a := (S_g S (85 + 3 * k))) (b := 2) (by omega) (by omega)).2.2.mpr z)
                              omega
                            · have c_363 : (S_g S (85 + 3 * k)) = 2 := (nI_b (a := (S_g S (85 + 3 * k))) (b := 2) (by omega) (by omega)).2.2.mp c_363
                              refine cq_bipush F (v := 117) dL_isBook_366 (by decide) ?_
                              refine cq_goto F (tgt := 373) dL_isBook_368 (by decide) ?_
                              refine cq_icmp_ne F (tgt := 432) dL_isBook_373 (by decide) (fun c_373 => ?_) (fun c_373 => ?_)
                              · exact absurd c_373 (fun z => z (by rw [h_357, if_pos hk9]; unfold en_at; first | (rw [if_pos c_340, if_pos (by omega), if_neg (by omega), if_pos rfl]) | (rw [if_neg c_340, if_pos (by omega), if_neg (by omega), if_pos rfl])))
                              · refine cq_aload_n F (i := 0) dL_isBook_376 rfl rfl ?_
                                refine cq_iload F dL_isBook_377 rfl ?_
                                refine cq_iconst F (v := 2) dL_isBook_379 rfl ?_
                                refine cq_callV F (C := RX6) (ci := 7) (nq_entry (l := l) (D := D) (cA := cA) (Bs := Bs) hl hb h hk (by omega) k 2 (by omega) (by omega)) (cwV 2 F.1.2.2.2.2 gL_isBook_X6_entry rfl rfl rfl hdVX6_entry ⟨Nat.le_of_ble_eq_true rfl, Nat.le_of_ble_eq_true rfl⟩) hb.kind ⟨by decide, by decide⟩ rfl rfl rfl (Nat.le_of_ble_eq_true rfl) dL_isBook_380 ⟨by show _ ≤ 400; omega, by show _ ≤ 4000; omega⟩ (cq_kIp fun r_380 h_380 => ?_)
                                refine cq_bipush F (v := 116) dL_isBook_383 (by decide) ?_
                                refine cq_icmp_ne F (tgt := 432) dL_isBook_385 (by decide) (fun c_385 => ?_) (fun c_385 => ?_)
                                · exact absurd c_385 (fun z => z (by rw [h_380, if_pos hk9]; unfold en_at; first | (rw [if_pos c_340, if_pos (by omega), if_neg (by omega), if_neg (by omega)]) | (rw [if_neg c_340, if_pos (by omega), if_neg (by omega), if_neg (by omega), if_pos rfl])))
                                · refine cq_iload F dL_isBook_388 rfl ?_
                                  refine cq_iconst F (v := 2) dL_isBook_390 rfl ?_
                                  refine cq_icmp_eq F (tgt := 428) dL_isBook_391 (by decide) (fun c_391 => ?_) (fun c_391 => ?_)
                                  · have c_391 : (S_g S (85 + 3 * k)) = 2 := (nI_b (a := (S_g S (85 + 3 * k))) (b := 2) (by omega) (by omega)).2.2.mp c_391
                                    refine cq_iconst F (v := 1) dL_isBook_428 rfl ?_
                                    refine cq_goto F (tgt := 433) dL_isBook_429 (by decide) ?_
                                    refine cq_istore F dL_isBook_433 (by decide) ?_
                                    refine cq_iinc F dL_isBook_435 rfl (by decide) (fun x_435 e_435 => ?_)
                                    obtain rfl : x_435 = nI (k + 1) := by rw [e_435]; exact nI_1 _
                                    refine cq_goto F (tgt := 116) dL_isBook_438 (by decide) ?_
                                    refine cq_widen (k := (50 + 30 * (k + 1))) (n := (300 + 300 * (k + 1))) (by omega) (by omega) ?_
                                    refine cq_loc (L2 := [(0, .ref o), (1, .ref ra), (2, .ref na), (3, .ref ba), (4, .int 1), (5, .int (nI (k + 1)))]) rfl ?_
                                    exact ih_116 (k + 1) (by omega) (by omega)
                                  · have c_391 : ¬ (S_g S (85 + 3 * k)) = 2 := fun z => c_391 ((nI_b (a := (S_g S (85 + 3 * k))) (b := 2) (by omega) (by omega)).2.2.mpr z)
                                    omega
      refine cq_iload F dL_isBook_116 rfl ?_
      refine cq_aload_n F (i := 2) dL_isBook_118 rfl rfl ?_
      refine cq_bipush F (v := 8) dL_isBook_119 (by decide) ?_
      refine cq_iald_j F (j := 8) hn0.1 hn0.2 rfl ⟨(by omega), by decide⟩ dL_isBook_121 ?_
      rw [hvn _ (by omega)]
      refine cq_icmp_ge F (tgt := 441) dL_isBook_122 (by decide) (fun c_122 => ?_) (fun c_122 => ?_)
      · have c_122 : (n (8)) ≤ k := (nI_b (a := (n (8))) (b := k) (by omega) (by omega)).1.mp c_122
        refine cq_iload F dL_isBook_441 rfl ?_
        exact cq_zret F hr (by rfl) (by omega) (by omega) dL_isBook_443 ⟨_, rfl, ⟨rfl, rfl⟩⟩
      · have c_122 : ¬ (n (8)) ≤ k := fun z => c_122 ((nI_b (a := (n (8))) (b := k) (by omega) (by omega)).1.mpr z)
        have hk9 : k < S_g S 84 := by omega
        have hbk := hrel.2.2.2.2 k hk9
        obtain ⟨hz1, hz2, hz3⟩ := hk.1.2.2.2.2.2.1 k hk9
        have hz0 := hk.1.2.2.2.2.2.2.1
        have hst9 : (S_g S (86 + 3 * k)) ≤ 9999 := by omega
        obtain ⟨hl4, hl3, hl2, hl1⟩ := en_len_4 hst9
        obtain ⟨htk1, htk2⟩ := en_k_v (S_g S (85 + 3 * k))
        have hlp : 1 ≤ en_len (S_g S (86 + 3 * k)) := by unfold en_len; omega
        refine cq_iload F dL_isBook_125 rfl ?_
        refine cq_if_eq F (tgt := 441) dL_isBook_127 (by decide) (fun c_127 => ?_) (fun c_127 => ?_)
        · have c_127 : 1 = 0 := (nI_b (a := 1) (b := 0) (by omega) (by omega)).2.2.mp c_127
          omega
        · have c_127 : ¬ 1 = 0 := fun z => c_127 ((nI_b (a := 1) (b := 0) (by omega) (by omega)).2.2.mpr z)
          refine cq_aload_n F (i := 3) dL_isBook_130 rfl rfl ?_
          refine cq_iload F dL_isBook_131 rfl ?_
          refine cq_iald_j F (j := k) hb0.1 hb0.2 rfl ⟨(by omega), by decide⟩ dL_isBook_133 ?_
          rw [hvb _ (by omega)]
          refine cq_ldc F (F.1.2.2.2.2 _ (List.mem_of_getElem? (l := wsL_isBook) (i := 1) (a := .constant RL 15 (100000)) (by decide +kernel))) dL_isBook_134 ?_
          refine cq_idiv F dL_isBook_136 (by decide) ?_
          rw [show (nI (b k) / 100000 : Int32) = nI (S_g S (85 + 3 * k)) from (pk_div (d := 100000) (by omega) (by decide) (by decide)).trans (congrArg nI (by omega))]
          refine cq_istore F dL_isBook_137 (by decide) ?_
          refine cq_aload_n F (i := 3) dL_isBook_139 rfl rfl ?_
          refine cq_iload F dL_isBook_140 rfl ?_
          refine cq_iald_j F (j := k) hb0.1 hb0.2 rfl ⟨(by omega), by decide⟩ dL_isBook_142 ?_
          rw [hvb _ (by omega)]
          refine cq_bipush F (v := 10) dL_isBook_143 (by decide) ?_
          refine cq_idiv F dL_isBook_145 (by decide) ?_
          rw [show (nI (b k) / 10 : Int32) = nI (b k / 10) from pk_div (d := 10) (by omega) (by decide) (by decide)]
          refine cq_sipush F (v := 10000) dL_isBook_146 (by decide) ?_
          refine cq_irem F dL_isBook_149 (by decide) ?_
          rw [show (nI (b k / 10) - nI (b k / 10) / 10000 * 10000 : Int32) = nI (S_g S (86 + 3 * k)) from (pk_rem (d := 10000) (by omega) (by decide) (by decide)).trans (congrArg nI (by omega))]
          refine cq_istore F dL_isBook_150 (by decide) ?_
          refine cq_iload F dL_isBook_152 rfl ?_
          refine cq_iconst F (v := 2) dL_isBook_154 rfl ?_
          refine cq_icmp_ne F (tgt := 163) dL_isBook_155 (by decide) (fun c_155 => ?_) (fun c_155 => ?_)
          · have c_155 : ¬ (S_g S (85 + 3 * k)) = 2 := fun z => c_155 ((nI_b (a := (S_g S (85 + 3 * k))) (b := 2) (by omega) (by omega)).2.2.mpr z)
            refine cq_bipush F (v := 8) dL_isBook_163 (by decide) ?_
            refine cq_iload F dL_isBook_165 rfl ?_
            refine cq_sipush F (v := 999) dL_isBook_167 (by decide) ?_
            refine cq_icmp_le F (tgt := 177) dL_isBook_170 (by decide) (fun c_170 => ?_) (fun c_170 => ?_)
            · have c_170 : (S_g S (86 + 3 * k)) ≤ 999 := (nI_b (a := (S_g S (86 + 3 * k))) (b := 999) (by omega) (by omega)).1.mp c_170
              refine cq_iload F dL_isBook_177 rfl ?_
              refine cq_bipush F (v := 99) dL_isBook_179 (by decide) ?_
              refine cq_icmp_le F (tgt := 188) dL_isBook_181 (by decide) (fun c_181 => ?_) (fun c_181 => ?_)
              · have c_181 : (S_g S (86 + 3 * k)) ≤ 99 := (nI_b (a := (S_g S (86 + 3 * k))) (b := 99) (by omega) (by omega)).1.mp c_181
                refine cq_iload F dL_isBook_188 rfl ?_
                refine cq_bipush F (v := 9) dL_isBook_190 (by decide) ?_
                refine cq_icmp_le F (tgt := 199) dL_isBook_192 (by decide) (fun c_192 => ?_) (fun c_192 => ?_)
                · have c_192 : (S_g S (86 + 3 * k)) ≤ 9 := (nI_b (a := (S_g S (86 + 3 * k))) (b := 9) (by omega) (by omega)).1.mp c_192
                  refine cq_iconst F (v := 1) dL_isBook_199 rfl ?_
                  refine cq_iadd F dL_isBook_200 ?_
                  rw [show (8 + 1 : Int32) = 9 from by decide]
                  refine cq_istore F dL_isBook_201 (by decide) ?_
                  refine cq_aload_n F (i := 0) dL_isBook_203 rfl rfl ?_
                  refine cq_iload F dL_isBook_204 rfl ?_
                  refine cq_iload F dL_isBook_206 rfl ?_
                  refine cq_callV F (C := RX6) (ci := 7) (nq_entry (l := l) (D := D) (cA := cA) (Bs := Bs) hl hb h hk (by omega) k 9 (by omega) (by omega)) (cwV 2 F.1.2.2.2.2 gL_isBook_X6_entry rfl rfl rfl hdVX6_entry ⟨Nat.le_of_ble_eq_true rfl, Nat.le_of_ble_eq_true rfl⟩) hb.kind ⟨by decide, by decide⟩ rfl rfl rfl (Nat.le_of_ble_eq_true rfl) dL_isBook_208 ⟨by show _ ≤ 400; omega, by show _ ≤ 4000; omega⟩ (cq_kIp fun r_208 h_208 => ?_)
                  refine cq_iconst F (v := (-1)) dL_isBook_211 rfl ?_
                  refine cq_icmp_ne F (tgt := 219) dL_isBook_212 (by decide) (fun c_212 => ?_) (fun c_212 => ?_)
                  · exact absurd c_212 (fun z => z (by rw [h_208, if_pos hk9]; exact en_e_end (by omega)))
                  · refine cq_iconst F (v := 1) dL_isBook_215 rfl ?_
                    refine cq_goto F (tgt := 220) dL_isBook_216 (by decide) ?_
                    refine cq_istore F dL_isBook_220 (by decide) ?_
                    refine cq_iload F dL_isBook_222 rfl ?_
                    refine cq_iconst F (v := 1) dL_isBook_224 rfl ?_
                    refine cq_isub F dL_isBook_225 ?_
                    rw [show (9 - 1 : Int32) = nI (9 - 1) from pk_sub (a := 9) (b := 1) (by omega)]
                    refine cq_istore F dL_isBook_226 (by decide) ?_
                    refine cq_widen (k := (50 + 30 * k + 2 + 2 * 0)) (n := (300 + 300 * k + 20 + 20 * 0)) (by omega) (by omega) ?_
                    refine cq_loc (L2 := [(0, .ref o), (1, .ref ra), (2, .ref na), (3, .ref ba), (4, .int 1), (5, .int (nI k)), (6, .int (nI (S_g S (85 + 3 * k)))), (7, .int (nI (S_g S (86 + 3 * k)))), (9, .int (nI (9 - 1)))]) rfl ?_
                    exact loop_228 6 0 _ (9 - 1) hk9 (by omega) (by rw [Nat.pow_zero, Nat.div_one]) (by omega) (by omega)
                · have c_192 : ¬ (S_g S (86 + 3 * k)) ≤ 9 := fun z => c_192 ((nI_b (a := (S_g S (86 + 3 * k))) (b := 9) (by omega) (by omega)).1.mpr z)
                  refine cq_iconst F (v := 2) dL_isBook_195 rfl ?_
                  refine cq_goto F (tgt := 200) dL_isBook_196 (by decide) ?_
                  refine cq_iadd F dL_isBook_200 ?_
                  rw [show (8 + 2 : Int32) = 10 from by decide]
                  refine cq_istore F dL_isBook_201 (by decide) ?_
                  refine cq_aload_n F (i := 0) dL_isBook_203 rfl rfl ?_
                  refine cq_iload F dL_isBook_204 rfl ?_
                  refine cq_iload F dL_isBook_206 rfl ?_
                  refine cq_callV F (C := RX6) (ci := 7) (nq_entry (l := l) (D := D) (cA := cA) (Bs := Bs) hl hb h hk (by omega) k 10 (by omega) (by omega)) (cwV 2 F.1.2.2.2.2 gL_isBook_X6_entry rfl rfl rfl hdVX6_entry ⟨Nat.le_of_ble_eq_true rfl, Nat.le_of_ble_eq_true rfl⟩) hb.kind ⟨by decide, by decide⟩ rfl rfl rfl (Nat.le_of_ble_eq_true rfl) dL_isBook_208 ⟨by show _ ≤ 400; omega, by show _ ≤ 4000; omega⟩ (cq_kIp fun r_208 h_208 => ?_)
                  refine cq_iconst F (v := (-1)) dL_isBook_211 rfl ?_
                  refine cq_icmp_ne F (tgt := 219) dL_isBook_212 (by decide) (fun c_212 => ?_) (fun c_212 => ?_)
                  · exact absurd c_212 (fun z => z (by rw [h_208, if_pos hk9]; exact en_e_end (by omega)))
                  · refine cq_iconst F (v := 1) dL_isBook_215 rfl ?_
                    refine cq_goto F (tgt := 220) dL_isBook_216 (by decide) ?_
                    refine cq_istore F dL_isBook_220 (by decide) ?_
                    refine cq_iload F dL_isBook_222 rfl ?_
                    refine cq_iconst F (v := 1) dL_isBook_224 rfl ?_
                    refine cq_isub F dL_isBook_225 ?_
                    rw [show (10 - 1 : Int32) = nI (10 - 1) from pk_sub (a := 10) (b := 1) (by omega)]
                    refine cq_istore F dL_isBook_226 (by decide) ?_
                    refine cq_widen (k := (50 + 30 * k + 2 + 2 * 0)) (n := (300 + 300 * k + 20 + 20 * 0)) (by omega) (by omega) ?_
                    refine cq_loc (L2 := [(0, .ref o), (1, .ref ra), (2, .ref na), (3, .ref ba), (4, .int 1), (5, .int (nI k)), (6, .int (nI (S_g S (85 + 3 * k)))), (7, .int (nI (S_g S (86 + 3 * k)))), (9, .int (nI (10 - 1)))]) rfl ?_
                    exact loop_228 6 0 _ (10 - 1) hk9 (by omega) (by rw [Nat.pow_zero, Nat.div_one]) (by omega) (by omega)
              · have c_181 : ¬ (S_g S (86 + 3 * k)) ≤ 99 := fun z => c_181 ((nI_b (a := (S_g S (86 + 3 * k))) (b := 99) (by omega) (by omega)).1.mpr z)
                refine cq_iconst F (v := 3) dL_isBook_184 rfl ?_
                refine cq_goto F (tgt := 200) dL_isBook_185 (by decide) ?_
                refine cq_iadd F dL_isBook_200 ?_
                rw [show (8 + 3 : Int32) = 11 from by decide]
                refine cq_istore F dL_isBook_201 (by decide) ?_
                refine cq_aload_n F (i := 0) dL_isBook_203 rfl rfl ?_
                refine cq_iload F dL_isBook_204 rfl ?_
                refine cq_iload F dL_isBook_206 rfl ?_
                refine cq_callV F (C := RX6) (ci := 7) (nq_entry (l := l) (D := D) (cA := cA) (Bs := Bs) hl hb h hk (by omega) k 11 (by omega) (by omega)) (cwV 2 F.1.2.2.2.2 gL_isBook_X6_entry rfl rfl rfl hdVX6_entry ⟨Nat.le_of_ble_eq_true rfl, Nat.le_of_ble_eq_true rfl⟩) hb.kind ⟨by decide, by decide⟩ rfl rfl rfl (Nat.le_of_ble_eq_true rfl) dL_isBook_208 ⟨by show _ ≤ 400; omega, by show _ ≤ 4000; omega⟩ (cq_kIp fun r_208 h_208 => ?_)
                refine cq_iconst F (v := (-1)) dL_isBook_211 rfl ?_
                refine cq_icmp_ne F (tgt := 219) dL_isBook_212 (by decide) (fun c_212 => ?_) (fun c_212 => ?_)
                · exact absurd c_212 (fun z => z (by rw [h_208, if_pos hk9]; exact en_e_end (by omega)))
                · refine cq_iconst F (v := 1) dL_isBook_215 rfl ?_
                  refine cq_goto F (tgt := 220) dL_isBook_216 (by decide) ?_
                  refine cq_istore F dL_isBook_220 (by decide) ?_
                  refine cq_iload F dL_isBook_222 rfl ?_
                  refine cq_iconst F (v := 1) dL_isBook_224 rfl ?_
                  refine cq_isub F dL_isBook_225 ?_
                  rw [show (11 - 1 : Int32) = nI (11 - 1) from pk_sub (a := 11) (b := 1) (by omega)]
                  refine cq_istore F dL_isBook_226 (by decide) ?_
                  refine cq_widen (k := (50 + 30 * k + 2 + 2 * 0)) (n := (300 + 300 * k + 20 + 20 * 0)) (by omega) (by omega) ?_
                  refine cq_loc (L2 := [(0, .ref o), (1, .ref ra), (2, .ref na), (3, .ref ba), (4, .int 1), (5, .int (nI k)), (6, .int (nI (S_g S (85 + 3 * k)))), (7, .int (nI (S_g S (86 + 3 * k)))), (9, .int (nI (11 - 1)))]) rfl ?_
                  exact loop_228 6 0 _ (11 - 1) hk9 (by omega) (by rw [Nat.pow_zero, Nat.div_one]) (by omega) (by omega)
            · have c_170 : ¬ (S_g S (86 + 3 * k)) ≤ 999 := fun z => c_170 ((nI_b (a := (S_g S (86 + 3 * k))) (b := 999) (by omega) (by omega)).1.mpr z)
              refine cq_iconst F (v := 4) dL_isBook_173 rfl ?_
              refine cq_goto F (tgt := 200) dL_isBook_174 (by decide) ?_
              refine cq_iadd F dL_isBook_200 ?_
              rw [show (8 + 4 : Int32) = 12 from by decide]
              refine cq_istore F dL_isBook_201 (by decide) ?_
              refine cq_aload_n F (i := 0) dL_isBook_203 rfl rfl ?_
              refine cq_iload F dL_isBook_204 rfl ?_
              refine cq_iload F dL_isBook_206 rfl ?_
              refine cq_callV F (C := RX6) (ci := 7) (nq_entry (l := l) (D := D) (cA := cA) (Bs := Bs) hl hb h hk (by omega) k 12 (by omega) (by omega)) (cwV 2 F.1.2.2.2.2 gL_isBook_X6_entry rfl rfl rfl hdVX6_entry ⟨Nat.le_of_ble_eq_true rfl, Nat.le_of_ble_eq_true rfl⟩) hb.kind ⟨by decide, by decide⟩ rfl rfl rfl (Nat.le_of_ble_eq_true rfl) dL_isBook_208 ⟨by show _ ≤ 400; omega, by show _ ≤ 4000; omega⟩ (cq_kIp fun r_208 h_208 => ?_)
              refine cq_iconst F (v := (-1)) dL_isBook_211 rfl ?_
              refine cq_icmp_ne F (tgt := 219) dL_isBook_212 (by decide) (fun c_212 => ?_) (fun c_212 => ?_)
              · exact absurd c_212 (fun z => z (by rw [h_208, if_pos hk9]; exact en_e_end (by omega)))
              · refine cq_iconst F (v := 1) dL_isBook_215 rfl ?_
                refine cq_goto F (tgt := 220) dL_isBook_216 (by decide) ?_
                refine cq_istore F dL_isBook_220 (by decide) ?_
                refine cq_iload F dL_isBook_222 rfl ?_
                refine cq_iconst F (v := 1) dL_isBook_224 rfl ?_
                refine cq_isub F dL_isBook_225 ?_
                rw [show (12 - 1 : Int32) = nI (12 - 1) from pk_sub (a := 12) (b := 1) (by omega)]
                refine cq_istore F dL_isBook_226 (by decide) ?_
                refine cq_widen (k := (50 + 30 * k + 2 + 2 * 0)) (n := (300 + 300 * k + 20 + 20 * 0)) (by omega) (by omega) ?_
                refine cq_loc (L2 := [(0, .ref o), (1, .ref ra), (2, .ref na), (3, .ref ba), (4, .int 1), (5, .int (nI k)), (6, .int (nI (S_g S (85 + 3 * k)))), (7, .int (nI (S_g S (86 + 3 * k)))), (9, .int (nI (12 - 1)))]) rfl ?_
                exact loop_228 6 0 _ (12 - 1) hk9 (by omega) (by rw [Nat.pow_zero, Nat.div_one]) (by omega) (by omega)
          · have c_155 : (S_g S (85 + 3 * k)) = 2 := (nI_b (a := (S_g S (85 + 3 * k))) (b := 2) (by omega) (by omega)).2.2.mp c_155
            refine cq_bipush F (v := 6) dL_isBook_158 (by decide) ?_
            refine cq_goto F (tgt := 165) dL_isBook_160 (by decide) ?_
            refine cq_iload F dL_isBook_165 rfl ?_
            refine cq_sipush F (v := 999) dL_isBook_167 (by decide) ?_
            refine cq_icmp_le F (tgt := 177) dL_isBook_170 (by decide) (fun c_170 => ?_) (fun c_170 => ?_)
            · have c_170 : (S_g S (86 + 3 * k)) ≤ 999 := (nI_b (a := (S_g S (86 + 3 * k))) (b := 999) (by omega) (by omega)).1.mp c_170
              refine cq_iload F dL_isBook_177 rfl ?_
              refine cq_bipush F (v := 99) dL_isBook_179 (by decide) ?_
              refine cq_icmp_le F (tgt := 188) dL_isBook_181 (by decide) (fun c_181 => ?_) (fun c_181 => ?_)
              · have c_181 : (S_g S (86 + 3 * k)) ≤ 99 := (nI_b (a := (S_g S (86 + 3 * k))) (b := 99) (by omega) (by omega)).1.mp c_181
                refine cq_iload F dL_isBook_188 rfl ?_
                refine cq_bipush F (v := 9) dL_isBook_190 (by decide) ?_
                refine cq_icmp_le F (tgt := 199) dL_isBook_192 (by decide) (fun c_192 => ?_) (fun c_192 => ?_)
                · have c_192 : (S_g S (86 + 3 * k)) ≤ 9 := (nI_b (a := (S_g S (86 + 3 * k))) (b := 9) (by omega) (by omega)).1.mp c_192
                  refine cq_iconst F (v := 1) dL_isBook_199 rfl ?_
                  refine cq_iadd F dL_isBook_200 ?_
                  rw [show (6 + 1 : Int32) = 7 from by decide]
                  refine cq_istore F dL_isBook_201 (by decide) ?_
                  refine cq_aload_n F (i := 0) dL_isBook_203 rfl rfl ?_
                  refine cq_iload F dL_isBook_204 rfl ?_
                  refine cq_iload F dL_isBook_206 rfl ?_
                  refine cq_callV F (C := RX6) (ci := 7) (nq_entry (l := l) (D := D) (cA := cA) (Bs := Bs) hl hb h hk (by omega) k 7 (by omega) (by omega)) (cwV 2 F.1.2.2.2.2 gL_isBook_X6_entry rfl rfl rfl hdVX6_entry ⟨Nat.le_of_ble_eq_true rfl, Nat.le_of_ble_eq_true rfl⟩) hb.kind ⟨by decide, by decide⟩ rfl rfl rfl (Nat.le_of_ble_eq_true rfl) dL_isBook_208 ⟨by show _ ≤ 400; omega, by show _ ≤ 4000; omega⟩ (cq_kIp fun r_208 h_208 => ?_)
                  refine cq_iconst F (v := (-1)) dL_isBook_211 rfl ?_
                  refine cq_icmp_ne F (tgt := 219) dL_isBook_212 (by decide) (fun c_212 => ?_) (fun c_212 => ?_)
                  · exact absurd c_212 (fun z => z (by rw [h_208, if_pos hk9]; exact en_e_end (by omega)))
                  · refine cq_iconst F (v := 1) dL_isBook_215 rfl ?_
                    refine cq_goto F (tgt := 220) dL_isBook_216 (by decide) ?_
                    refine cq_istore F dL_isBook_220 (by decide) ?_
                    refine cq_iload F dL_isBook_222 rfl ?_
                    refine cq_iconst F (v := 1) dL_isBook_224 rfl ?_
                    refine cq_isub F dL_isBook_225 ?_
                    rw [show (7 - 1 : Int32) = nI (7 - 1) from pk_sub (a := 7) (b := 1) (by omega)]
                    refine cq_istore F dL_isBook_226 (by decide) ?_
                    refine cq_widen (k := (50 + 30 * k + 2 + 2 * 0)) (n := (300 + 300 * k + 20 + 20 * 0)) (by omega) (by omega) ?_
                    refine cq_loc (L2 := [(0, .ref o), (1, .ref ra), (2, .ref na), (3, .ref ba), (4, .int 1), (5, .int (nI k)), (6, .int (nI (S_g S (85 + 3 * k)))), (7, .int (nI (S_g S (86 + 3 * k)))), (9, .int (nI (7 - 1)))]) rfl ?_
                    exact loop_228 6 0 _ (7 - 1) hk9 (by omega) (by rw [Nat.pow_zero, Nat.div_one]) (by omega) (by omega)
                · have c_192 : ¬ (S_g S (86 + 3 * k)) ≤ 9 := fun z => c_192 ((nI_b (a := (S_g S (86 + 3 * k))) (b := 9) (by omega) (by omega)).1.mpr z)
                  refine cq_iconst F (v := 2) dL_isBook_195 rfl ?_
                  refine cq_goto F (tgt := 200) dL_isBook_196 (by decide) ?_
                  refine cq_iadd F dL_isBook_200 ?_
                  rw [show (6 + 2 : Int32) = 8 from by decide]
                  refine cq_istore F dL_isBook_201 (by decide) ?_
                  refine cq_aload_n F (i := 0) dL_isBook_203 rfl rfl ?_
                  refine cq_iload F dL_isBook_204 rfl ?_
                  refine cq_iload F dL_isBook_206 rfl ?_
                  refine cq_callV F (C := RX6) (ci := 7) (nq_entry (l := l) (D := D) (cA := cA) (Bs := Bs) hl hb h hk (by omega) k 8 (by omega) (by omega)) (cwV 2 F.1.2.2.2.2 gL_isBook_X6_entry rfl rfl rfl hdVX6_entry ⟨Nat.le_of_ble_eq_true rfl, Nat.le_of_ble_eq_true rfl⟩) hb.kind ⟨by decide, by decide⟩ rfl rfl rfl (Nat.le_of_ble_eq_true rfl) dL_isBook_208 ⟨by show _ ≤ 400; omega, by show _ ≤ 4000; omega⟩ (cq_kIp fun r_208 h_208 => ?_)
                  refine cq_iconst F (v := (-1)) dL_isBook_211 rfl ?_
                  refine cq_icmp_ne F (tgt := 219) dL_isBook_212 (by decide) (fun c_212 => ?_) (fun c_212 => ?_)
                  · exact absurd c_212 (fun z => z (by rw [h_208, if_pos hk9]; exact en_e_end (by omega)))
                  · refine cq_iconst F (v := 1) dL_isBook_215 rfl ?_
                    refine cq_goto F (tgt := 220) dL_isBook_216 (by decide) ?_
                    refine cq_istore F dL_isBook_220 (by decide) ?_
                    refine cq_iload F dL_isBook_222 rfl ?_
                    refine cq_iconst F (v := 1) dL_isBook_224 rfl ?_
                    refine cq_isub F dL_isBook_225 ?_
                    rw [show (8 - 1 : Int32) = nI (8 - 1) from pk_sub (a := 8) (b := 1) (by omega)]
                    refine cq_istore F dL_isBook_226 (by decide) ?_
                    refine cq_widen (k := (50 + 30 * k + 2 + 2 * 0)) (n := (300 + 300 * k + 20 + 20 * 0)) (by omega) (by omega) ?_
                    refine cq_loc (L2 := [(0, .ref o), (1, .ref ra), (2, .ref na), (3, .ref ba), (4, .int 1), (5, .int (nI k)), (6, .int (nI (S_g S (85 + 3 * k)))), (7, .int (nI (S_g S (86 + 3 * k)))), (9, .int (nI (8 - 1)))]) rfl ?_
                    exact loop_228 6 0 _ (8 - 1) hk9 (by omega) (by rw [Nat.pow_zero, Nat.div_one]) (by omega) (by omega)
              · have c_181 : ¬ (S_g S (86 + 3 * k)) ≤ 99 := fun z => c_181 ((nI_b (a := (S_g S (86 + 3 * k))) (b := 99) (by omega) (by omega)).1.mpr z)
                refine cq_iconst F (v := 3) dL_isBook_184 rfl ?_
                refine cq_goto F (tgt := 200) dL_isBook_185 (by decide) ?_
                refine cq_iadd F dL_isBook_200 ?_
                rw [show (6 + 3 : Int32) = 9 from by decide]
                refine cq_istore F dL_isBook_201 (by decide) ?_
                refine cq_aload_n F (i := 0) dL_isBook_203 rfl rfl ?_
                refine cq_iload F dL_isBook_204 rfl ?_
                refine cq_iload F dL_isBook_206 rfl ?_
                refine cq_callV F (C := RX6) (ci := 7) (nq_entry (l := l) (D := D) (cA := cA) (Bs := Bs) hl hb h hk (by omega) k 9 (by omega) (by omega)) (cwV 2 F.1.2.2.2.2 gL_isBook_X6_entry rfl rfl rfl hdVX6_entry ⟨Nat.le_of_ble_eq_true rfl, Nat.le_of_ble_eq_true rfl⟩) hb.kind ⟨by decide, by decide⟩ rfl rfl rfl (Nat.le_of_ble_eq_true rfl) dL_isBook_208 ⟨by show _ ≤ 400; omega, by show _ ≤ 4000; omega⟩ (cq_kIp fun r_208 h_208 => ?_)
                refine cq_iconst F (v := (-1)) dL_isBook_211 rfl ?_
                refine cq_icmp_ne F (tgt := 219) dL_isBook_212 (by decide) (fun c_212 => ?_) (fun c_212 => ?_)
                · exact absurd c_212 (fun z => z (by rw [h_208, if_pos hk9]; exact en_e_end (by omega)))
                · refine cq_iconst F (v := 1) dL_isBook_215 rfl ?_
                  refine cq_goto F (tgt := 220) dL_isBook_216 (by decide) ?_
                  refine cq_istore F dL_isBook_220 (by decide) ?_
                  refine cq_iload F dL_isBook_222 rfl ?_
                  refine cq_iconst F (v := 1) dL_isBook_224 rfl ?_
                  refine cq_isub F dL_isBook_225 ?_
                  rw [show (9 - 1 : Int32) = nI (9 - 1) from pk_sub (a := 9) (b := 1) (by omega)]
                  refine cq_istore F dL_isBook_226 (by decide) ?_
                  refine cq_widen (k := (50 + 30 * k + 2 + 2 * 0)) (n := (300 + 300 * k + 20 + 20 * 0)) (by omega) (by omega) ?_
                  refine cq_loc (L2 := [(0, .ref o), (1, .ref ra), (2, .ref na), (3, .ref ba), (4, .int 1), (5, .int (nI k)), (6, .int (nI (S_g S (85 + 3 * k)))), (7, .int (nI (S_g S (86 + 3 * k)))), (9, .int (nI (9 - 1)))]) rfl ?_
                  exact loop_228 6 0 _ (9 - 1) hk9 (by omega) (by rw [Nat.pow_zero, Nat.div_one]) (by omega) (by omega)
            · have c_170 : ¬ (S_g S (86 + 3 * k)) ≤ 999 := fun z => c_170 ((nI_b (a := (S_g S (86 + 3 * k))) (b := 999) (by omega) (by omega)).1.mpr z)
              refine cq_iconst F (v := 4) dL_isBook_173 rfl ?_
              refine cq_goto F (tgt := 200) dL_isBook_174 (by decide) ?_
              refine cq_iadd F dL_isBook_200 ?_
              rw [show (6 + 4 : Int32) = 10 from by decide]
              refine cq_istore F dL_isBook_201 (by decide) ?_
              refine cq_aload_n F (i := 0) dL_isBook_203 rfl rfl ?_
              refine cq_iload F dL_isBook_204 rfl ?_
              refine cq_iload F dL_isBook_206 rfl ?_
              refine cq_callV F (C := RX6) (ci := 7) (nq_entry (l := l) (D := D) (cA := cA) (Bs := Bs) hl hb h hk (by omega) k 10 (by omega) (by omega)) (cwV 2 F.1.2.2.2.2 gL_isBook_X6_entry rfl rfl rfl hdVX6_entry ⟨Nat.le_of_ble_eq_true rfl, Nat.le_of_ble_eq_true rfl⟩) hb.kind ⟨by decide, by decide⟩ rfl rfl rfl (Nat.le_of_ble_eq_true rfl) dL_isBook_208 ⟨by show _ ≤ 400; omega, by show _ ≤ 4000; omega⟩ (cq_kIp fun r_208 h_208 => ?_)
              refine cq_iconst F (v := (-1)) dL_isBook_211 rfl ?_
              refine cq_icmp_ne F (tgt := 219) dL_isBook_212 (by decide) (fun c_212 => ?_) (fun c_212 => ?_)
              · exact absurd c_212 (fun z => z (by rw [h_208, if_pos hk9]; exact en_e_end (by omega)))
              · refine cq_iconst F (v := 1) dL_isBook_215 rfl ?_
                refine cq_goto F (tgt := 220) dL_isBook_216 (by decide) ?_
                refine cq_istore F dL_isBook_220 (by decide) ?_
                refine cq_iload F dL_isBook_222 rfl ?_
                refine cq_iconst F (v := 1) dL_isBook_224 rfl ?_
                refine cq_isub F dL_isBook_225 ?_
                rw [show (10 - 1 : Int32) = nI (10 - 1) from pk_sub (a := 10) (b := 1) (by omega)]
                refine cq_istore F dL_isBook_226 (by decide) ?_
                refine cq_widen (k := (50 + 30 * k + 2 + 2 * 0)) (n := (300 + 300 * k + 20 + 20 * 0)) (by omega) (by omega) ?_
                refine cq_loc (L2 := [(0, .ref o), (1, .ref ra), (2, .ref na), (3, .ref ba), (4, .int 1), (5, .int (nI k)), (6, .int (nI (S_g S (85 + 3 * k)))), (7, .int (nI (S_g S (86 + 3 * k)))), (9, .int (nI (10 - 1)))]) rfl ?_
                exact loop_228 6 0 _ (10 - 1) hk9 (by omega) (by rw [Nat.pow_zero, Nat.div_one]) (by omega) (by omega)
  have loop_48 : ∀ (n_48 : Nat) (p : Nat), p ≤ 4 * S_g S 51 → 4 * S_g S 51 - p < n_48 → cq_V p9 l e9 rmL_isBook s9 m9 ([.ref o, .ref ra, .ref na, .ref ba] : List Value).toArray b9 t9 c9 D cA X Bs 10 ((10 + p)) ((40 + 6 * p)) (MQ b9 (cq_Q D cA X Bs (cq_PI (fun rv M1 => rv = 1 ∧ M1 = M))) ([.ref o, .ref ra, .ref na, .ref ba] : List Value).toArray s9 400 4000 (cq_A Bs)) 48 [(0, .ref o), (1, .ref ra), (2, .ref na), (3, .ref ba), (4, .int 1), (5, .int (nI p))] [] M := by
    intro n_48
    induction n_48 with
    | zero =>
      intros
      omega
    | succ n_48 ih_48 =>
      intro p hp hn
      refine cq_iload F dL_isBook_48 rfl ?_
      refine cq_iconst F (v := 4) dL_isBook_50 rfl ?_
      refine cq_aload_n F (i := 2) dL_isBook_51 rfl rfl ?_
      refine cq_bipush F (v := 7) dL_isBook_52 (by decide) ?_
      refine cq_iald_j F (j := 7) hn0.1 hn0.2 rfl ⟨(by omega), by decide⟩ dL_isBook_54 ?_
      rw [hvn _ (by omega)]
      refine cq_imul F dL_isBook_55 ?_
      rw [show (4 * nI (n (7)) : Int32) = nI (4 * (n (7))) from pk_mul _ _]
      refine cq_icmp_ge F (tgt := 113) dL_isBook_56 (by decide) (fun c_56 => ?_) (fun c_56 => ?_)
      · have c_56 : 4 * (n (7)) ≤ p := (nI_b (a := 4 * (n (7))) (b := p) (by omega) (by omega)).1.mp c_56
        refine cq_iconst F (v := 0) dL_isBook_113 rfl ?_
        refine cq_istore F dL_isBook_114 (by decide) ?_
        refine cq_widen (k := (50 + 30 * 0)) (n := (300 + 300 * 0)) (by omega) (by omega) ?_
        refine cq_loc (L2 := [(0, .ref o), (1, .ref ra), (2, .ref na), (3, .ref ba), (4, .int 1), (5, .int (nI 0))]) rfl ?_
        exact loop_116 (S_g S 84 + 1) 0 (by omega) (by omega)
      · have c_56 : ¬ 4 * (n (7)) ≤ p := fun z => c_56 ((nI_b (a := 4 * (n (7))) (b := p) (by omega) (by omega)).1.mpr z)
        have hp51 : p / 4 < S_g S 51 := by omega
        have hrp := hrel.rp hk.1 hp51
        refine cq_iload F dL_isBook_59 rfl ?_
        refine cq_if_eq F (tgt := 104) dL_isBook_61 (by decide) (fun c_61 => ?_) (fun c_61 => ?_)
        · have c_61 : 1 = 0 := (nI_b (a := 1) (b := 0) (by omega) (by omega)).2.2.mp c_61
          omega
        · have c_61 : ¬ 1 = 0 := fun z => c_61 ((nI_b (a := 1) (b := 0) (by omega) (by omega)).2.2.mpr z)
          refine cq_aload_n F (i := 0) dL_isBook_64 rfl rfl ?_
          refine cq_iload F dL_isBook_65 rfl ?_
          refine cq_iconst F (v := 4) dL_isBook_67 rfl ?_
          refine cq_idiv F dL_isBook_68 (by decide) ?_
          rw [show (nI p / 4 : Int32) = nI (p / 4) from pk_div (d := 4) (by omega) (by decide) (by decide)]
          refine cq_iload F dL_isBook_69 rfl ?_
          refine cq_iconst F (v := 4) dL_isBook_71 rfl ?_
          refine cq_irem F dL_isBook_72 (by decide) ?_
          rw [show (nI p - nI p / 4 * 4 : Int32) = nI (p % 4) from pk_rem (d := 4) (by omega) (by omega) (by omega)]
          refine cq_callV F (C := RX6) (ci := 7) (nq_ruleOf (l := l) (D := D) (cA := cA) (Bs := Bs) hl hb h hk (p / 4) (p % 4) (by omega) (by omega)) (cwV 2 F.1.2.2.2.2 gL_isBook_X6_ruleOf rfl rfl rfl hdVX6_ruleOf ⟨Nat.le_of_ble_eq_true rfl, Nat.le_of_ble_eq_true rfl⟩) hb.kind ⟨by decide, by decide⟩ rfl rfl rfl (Nat.le_of_ble_eq_true rfl) dL_isBook_73 ⟨by show _ ≤ 400; omega, by show _ ≤ 4000; omega⟩ (cq_kIp fun r_73 h_73 => ?_)
          obtain rfl : r_73 = nI (S_g S (52 + 4 * (p / 4) + p % 4)) := h_73
          refine cq_iload F dL_isBook_76 rfl ?_
          refine cq_iconst F (v := 4) dL_isBook_78 rfl ?_
          refine cq_irem F dL_isBook_79 (by decide) ?_
          rw [show (nI p - nI p / 4 * 4 : Int32) = nI (p % 4) from pk_rem (d := 4) (by omega) (by omega) (by omega)]
          refine cq_iconst F (v := 2) dL_isBook_80 rfl ?_
          refine cq_icmp_ne F (tgt := 93) dL_isBook_81 (by decide) (fun c_81 => ?_) (fun c_81 => ?_)
          · have c_81 : ¬ (p % 4) = 2 := fun z => c_81 ((nI_b (a := (p % 4)) (b := 2) (by omega) (by omega)).2.2.mpr z)
            refine cq_aload_n F (i := 1) dL_isBook_93 rfl rfl ?_
            refine cq_iload F dL_isBook_94 rfl ?_
            refine cq_iald_j F (j := p) hr0.1 hr0.2 rfl ⟨(by omega), by decide⟩ dL_isBook_96 ?_
            rw [(show M ra p = nI (S_g S (52 + 4 * (p / 4) + p % 4)) by rw [hvr _ (by omega), hrp.1 (by omega)])]
            refine cq_icmp_ne F (tgt := 104) dL_isBook_97 (by decide) (fun c_97 => ?_) (fun c_97 => ?_)
            · exact absurd rfl c_97
            · refine cq_iconst F (v := 1) dL_isBook_100 rfl ?_
              refine cq_goto F (tgt := 105) dL_isBook_101 (by decide) ?_
              refine cq_istore F dL_isBook_105 (by decide) ?_
              refine cq_iinc F dL_isBook_107 rfl (by decide) (fun x_107 e_107 => ?_)
              obtain rfl : x_107 = nI (p + 1) := by rw [e_107]; exact nI_1 _
              refine cq_goto F (tgt := 48) dL_isBook_110 (by decide) ?_
              refine cq_widen (k := (10 + (p + 1))) (n := (40 + 6 * (p + 1))) (by omega) (by omega) ?_
              refine cq_loc (L2 := [(0, .ref o), (1, .ref ra), (2, .ref na), (3, .ref ba), (4, .int 1), (5, .int (nI (p + 1)))]) rfl ?_
              exact ih_48 (p + 1) (by omega) (by omega)
          · have c_81 : (p % 4) = 2 := (nI_b (a := (p % 4)) (b := 2) (by omega) (by omega)).2.2.mp c_81
            refine cq_iconst F (v := 1) dL_isBook_84 rfl ?_
            refine cq_aload_n F (i := 1) dL_isBook_85 rfl rfl ?_
            refine cq_iload F dL_isBook_86 rfl ?_
            refine cq_iald_j F (j := p) hr0.1 hr0.2 rfl ⟨(by omega), by decide⟩ dL_isBook_88 ?_
            rw [(show M ra p = nI (1 - (S_g S (52 + 4 * (p / 4) + p % 4))) by rw [hvr _ (by omega), (hrp.2 (by omega)).1])]
            refine cq_isub F dL_isBook_89 ?_
            rw [show (1 - nI (1 - (S_g S (52 + 4 * (p / 4) + p % 4))) : Int32) = nI (S_g S (52 + 4 * (p / 4) + p % 4)) from (pk_sub (a := 1) (b := 1 - (S_g S (52 + 4 * (p / 4) + p % 4))) (by omega)).trans (congrArg nI (by have := (hrp.2 (by omega)).2; omega))]
            refine cq_goto F (tgt := 97) dL_isBook_90 (by decide) ?_
            refine cq_icmp_ne F (tgt := 104) dL_isBook_97 (by decide) (fun c_97 => ?_) (fun c_97 => ?_)
            · exact absurd rfl c_97
            · refine cq_iconst F (v := 1) dL_isBook_100 rfl ?_
              refine cq_goto F (tgt := 105) dL_isBook_101 (by decide) ?_
              refine cq_istore F dL_isBook_105 (by decide) ?_
              refine cq_iinc F dL_isBook_107 rfl (by decide) (fun x_107 e_107 => ?_)
              obtain rfl : x_107 = nI (p + 1) := by rw [e_107]; exact nI_1 _
              refine cq_goto F (tgt := 48) dL_isBook_110 (by decide) ?_
              refine cq_widen (k := (10 + (p + 1))) (n := (40 + 6 * (p + 1))) (by omega) (by omega) ?_
              refine cq_loc (L2 := [(0, .ref o), (1, .ref ra), (2, .ref na), (3, .ref ba), (4, .int 1), (5, .int (nI (p + 1)))]) rfl ?_
              exact ih_48 (p + 1) (by omega) (by omega)
  refine cq_aload_n F (i := 0) dL_isBook_0 rfl rfl ?_
  refine cq_iconst F (v := 2) dL_isBook_1 rfl ?_
  refine cq_callV F (C := RX6) (ci := 7) (nq_count (l := l) (D := D) (cA := cA) (Bs := Bs) hl hb h hk 2 (by omega)) (cwV 1 F.1.2.2.2.2 gL_isBook_X6_count rfl rfl rfl hdVX6_count ⟨Nat.le_of_ble_eq_true rfl, Nat.le_of_ble_eq_true rfl⟩) hb.kind ⟨by decide, by decide⟩ rfl rfl rfl (Nat.le_of_ble_eq_true rfl) dL_isBook_2 ⟨by show _ ≤ 400; omega, by show _ ≤ 4000; omega⟩ (cq_kIp fun r_2 h_2 => ?_)
  obtain rfl : r_2 = nI (S_g S 51) := h_2
  refine cq_aload_n F (i := 2) dL_isBook_5 rfl rfl ?_
  refine cq_bipush F (v := 7) dL_isBook_6 (by decide) ?_
  refine cq_iald_j F (j := 7) hn0.1 hn0.2 rfl ⟨(by omega), by decide⟩ dL_isBook_8 ?_
  rw [hvn _ (by omega)]
  refine cq_icmp_ne F (tgt := 42) dL_isBook_9 (by decide) (fun c_9 => ?_) (fun c_9 => ?_)
  · have c_9 : ¬ (S_g S 51) = (n (7)) := fun z => c_9 ((nI_b (a := (S_g S 51)) (b := (n (7))) (by omega) (by omega)).2.2.mpr z)
    omega
  · have c_9 : (S_g S 51) = (n (7)) := (nI_b (a := (S_g S 51)) (b := (n (7))) (by omega) (by omega)).2.2.mp c_9
    refine cq_aload_n F (i := 0) dL_isBook_12 rfl rfl ?_
    refine cq_bipush F (v := 9) dL_isBook_13 (by decide) ?_
    refine cq_callV F (C := RX6) (ci := 7) (nq_count (l := l) (D := D) (cA := cA) (Bs := Bs) hl hb h hk 9 (by omega)) (cwV 1 F.1.2.2.2.2 gL_isBook_X6_count rfl rfl rfl hdVX6_count ⟨Nat.le_of_ble_eq_true rfl, Nat.le_of_ble_eq_true rfl⟩) hb.kind ⟨by decide, by decide⟩ rfl rfl rfl (Nat.le_of_ble_eq_true rfl) dL_isBook_15 ⟨by show _ ≤ 400; omega, by show _ ≤ 4000; omega⟩ (cq_kIp fun r_15 h_15 => ?_)
    obtain rfl : r_15 = nI (S_g S 84) := h_15
    refine cq_aload_n F (i := 2) dL_isBook_18 rfl rfl ?_
    refine cq_bipush F (v := 8) dL_isBook_19 (by decide) ?_
    refine cq_iald_j F (j := 8) hn0.1 hn0.2 rfl ⟨(by omega), by decide⟩ dL_isBook_21 ?_
    rw [hvn _ (by omega)]
    refine cq_icmp_ne F (tgt := 42) dL_isBook_22 (by decide) (fun c_22 => ?_) (fun c_22 => ?_)
    · have c_22 : ¬ (S_g S 84) = (n (8)) := fun z => c_22 ((nI_b (a := (S_g S 84)) (b := (n (8))) (by omega) (by omega)).2.2.mpr z)
      omega
    · have c_22 : (S_g S 84) = (n (8)) := (nI_b (a := (S_g S 84)) (b := (n (8))) (by omega) (by omega)).2.2.mp c_22
      refine cq_aload_n F (i := 0) dL_isBook_25 rfl rfl ?_
      refine cq_aload_n F (i := 2) dL_isBook_26 rfl rfl ?_
      refine cq_bipush F (v := 8) dL_isBook_27 (by decide) ?_
      refine cq_iald_j F (j := 8) hn0.1 hn0.2 rfl ⟨(by omega), by decide⟩ dL_isBook_29 ?_
      rw [hvn _ (by omega)]
      refine cq_iconst F (v := 0) dL_isBook_30 rfl ?_
      refine cq_callV F (C := RX6) (ci := 7) (nq_entry (l := l) (D := D) (cA := cA) (Bs := Bs) hl hb h hk (by omega) (n (8)) 0 (by omega) (by omega)) (cwV 2 F.1.2.2.2.2 gL_isBook_X6_entry rfl rfl rfl hdVX6_entry ⟨Nat.le_of_ble_eq_true rfl, Nat.le_of_ble_eq_true rfl⟩) hb.kind ⟨by decide, by decide⟩ rfl rfl rfl (Nat.le_of_ble_eq_true rfl) dL_isBook_31 ⟨by show _ ≤ 400; omega, by show _ ≤ 4000; omega⟩ (cq_kIp fun r_31 h_31 => ?_)
      refine cq_iconst F (v := (-1)) dL_isBook_34 rfl ?_
      refine cq_icmp_ne F (tgt := 42) dL_isBook_35 (by decide) (fun c_35 => ?_) (fun c_35 => ?_)
      · exact absurd c_35 (fun z => z (by rw [h_31, if_neg (by omega)]))
      · refine cq_iconst F (v := 1) dL_isBook_38 rfl ?_
        refine cq_goto F (tgt := 43) dL_isBook_39 (by decide) ?_
        refine cq_istore F dL_isBook_43 (by decide) ?_
        refine cq_iconst F (v := 0) dL_isBook_45 rfl ?_
        refine cq_istore F dL_isBook_46 (by decide) ?_
        refine cq_widen (k := (10 + 0)) (n := (40 + 6 * 0)) (by omega) (by omega) ?_
        refine cq_loc (L2 := [(0, .ref o), (1, .ref ra), (2, .ref na), (3, .ref ba), (4, .int 1), (5, .int (nI 0))]) rfl ?_
        exact loop_48 (4 * S_g S 51 + 1) 0 (by omega) (by omega)
theorem hdVL_isBook : yL_isBook.cls = RL ∧ yL_isBook.cls ≠ "java/lang/invoke/MethodHandle" ∧ yL_isBook.cls ≠ "java/lang/invoke/VarHandle" ∧ (parseMethodDescriptor yL_isBook.desc).map (fun d => d.parameters.length) = some 4 := by decide +kernel
