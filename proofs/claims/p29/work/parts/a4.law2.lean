/-! the law's steps -/
theorem ns_up_id (g : Nat → Nat) (k : Nat) : ns_up g k (g k) = g := by
  funext j
  unfold ns_up
  split
  · rename_i h; rw [h]
  · rfl
theorem lr.burn0 {t c r n b g : Nat → Nat} {v B i : Nat} (h : lr t c r n b v g) (hk : ns_ok g B) (hi : i < g 6) : c (5 * i) + c (5 * i + 2) + c (5 * i + 1) ≤ ns_time g i ∧ c (5 * i + 2) ≤ 1 ∧ c (5 * i + 3) ≤ 1 := by
  obtain ⟨c0, c1, c2, c3, c4⟩ := h.2.2.1 i hi
  obtain ⟨q1, q2, q3, q4, q5⟩ := hk.2.2.2.1 i hi
  unfold ns_burned at q3 q5
  rw [c0, c1, c2, c3]
  refine ⟨?_, by omega, by omega⟩
  by_cases z : g (16 + 11 * i) = 0
  · rw [z]; omega
  · have := q5 z; omega
theorem lr.burnA {t c r n b g d : Nat → Nat} {v B i : Nat} (h : lr t c r n b v g) (hk : ns_ok g B) (hi : i < g 6) (kd : ∀ k, k ≠ 5 * i → k ≠ 5 * i + 1 → d k = c k) (k0 : d (5 * i) = c (5 * i) + c (5 * i + 2)) (k1 : d (5 * i + 1) = c (5 * i + 1) + (if 0 < ns_time g i - (c (5 * i) + c (5 * i + 2)) - c (5 * i + 1) then c (5 * i + 3) else 0)) :
    d (5 * i) + d (5 * i + 1) ≤ ns_time g i ∧ (0 < c (5 * i + 2) + c (5 * i + 3) → ns_time g i - d (5 * i) - d (5 * i + 1) = 0 → lr t (ns_up (ns_up d (5 * i + 2) 0) (5 * i + 3) 0) r n b v (ns_bstep g i) ∧ ns_outs g i) ∧ (¬ (0 < c (5 * i + 2) + c (5 * i + 3) ∧ ns_time g i - d (5 * i) - d (5 * i + 1) = 0) → lr t d r n b v (ns_bstep g i) ∧ ¬ ns_outs g i) := by
  have u0 : ns_up (ns_up d (5 * i + 2) 0) (5 * i + 3) 0 (5 * i) = d (5 * i) := by rw [ns_up_n (by omega), ns_up_n (by omega)]
  have u1 : ns_up (ns_up d (5 * i + 2) 0) (5 * i + 3) 0 (5 * i + 1) = d (5 * i + 1) := by rw [ns_up_n (by omega), ns_up_n (by omega)]
  have u2 : ns_up (ns_up d (5 * i + 2) 0) (5 * i + 3) 0 (5 * i + 2) = 0 := by rw [ns_up_n (by omega), ns_up_s]
  have u3 : ns_up (ns_up d (5 * i + 2) 0) (5 * i + 3) 0 (5 * i + 3) = 0 := by rw [ns_up_s]
  have ud : ∀ k, (k < 5 * i ∨ 5 * i + 4 ≤ k) → ns_up (ns_up d (5 * i + 2) 0) (5 * i + 3) 0 k = c k := fun k hk => by rw [ns_up_n (by omega), ns_up_n (by omega), kd k (by omega) (by omega)]
  have hy : ∀ (z1 : 0 < c (5 * i + 2) + c (5 * i + 3)) (z2 : ns_time g i - d (5 * i) - d (5 * i + 1) = 0), lr t (ns_up (ns_up d (5 * i + 2) 0) (5 * i + 3) 0) r n b v (ns_bstep g i) ∧ ns_outs g i ∧ d (5 * i) + d (5 * i + 1) ≤ ns_time g i := by
    intro z1 z2
    obtain ⟨a1, a2, a3, a4⟩ := h.burn hk hi (c' := ns_up (ns_up d (5 * i + 2) 0) (5 * i + 3) 0) ud (by rw [u0]; exact k0) (by rw [u1]; exact k1) ⟨fun _ => ⟨u2, u3⟩, fun z => absurd ⟨z1, by rw [u0, u1]; exact z2⟩ z⟩
    rw [u0, u1] at a2 a4
    exact ⟨a1, a2.mpr ⟨z1, z2⟩, a4⟩
  have hn : ∀ (z : ¬ (0 < c (5 * i + 2) + c (5 * i + 3) ∧ ns_time g i - d (5 * i) - d (5 * i + 1) = 0)), lr t d r n b v (ns_bstep g i) ∧ ¬ ns_outs g i ∧ d (5 * i) + d (5 * i + 1) ≤ ns_time g i := by
    intro z
    obtain ⟨a1, a2, a3, a4⟩ := h.burn hk hi (c' := d) (fun k hk => kd k (by omega) (by omega)) k0 k1 ⟨fun z1 => absurd z1 z, fun _ => ⟨kd _ (by omega) (by omega), kd _ (by omega) (by omega)⟩⟩
    exact ⟨a1, fun w => z (a2.mp w), a4⟩
  refine ⟨?_, fun z1 z2 => ⟨(hy z1 z2).1, (hy z1 z2).2.1⟩, fun z => ⟨(hn z).1, (hn z).2.1⟩⟩
  by_cases z : 0 < c (5 * i + 2) + c (5 * i + 3) ∧ ns_time g i - d (5 * i) - d (5 * i + 1) = 0
  · exact (hy z.1 z.2).2.2
  · exact (hn z).2.2
theorem lr.ruleN {t c r n b g : Nat → Nat} {v B i k d : Nat} (hk : ns_ok g B) (hr : k < g 51) (h : lr t c r n b v g) (hd : d = g (55 + 4 * k)) (hn : ¬ (g (52 + 4 * k) = i ∧ ns_canLight g (g (53 + 4 * k)) (ns_x g k))) : lr t c (ns_up r (4 * k + 3) (d + 0)) n b v (ns_rule1 g i k) := by
  unfold ns_rule1
  rw [if_neg hn, show d + 0 = r (4 * k + 3) by rw [hd, (h.2.2.2.1 k hr).2.2.2]; rfl, ns_up_id]
  exact h
theorem lr.ruleY {t c r n b g : Nat → Nat} {v B i k d : Nat} (hk : ns_ok g B) (hr : k < g 51) (hd : d = g (55 + 4 * k)) (hy : g (52 + 4 * k) = i ∧ ns_canLight g (g (53 + 4 * k)) (ns_x g k)) (h : lr t c r n b v (ns_lightNow g (g (53 + 4 * k)) (ns_x g k))) : lr t c (ns_up r (4 * k + 3) (d + 1)) n b v (ns_rule1 g i k) := by
  have h5 := hk.2.2.2.2.1 k hr
  have h51 := hk.2.1
  have h6 := hk.1
  have hk2 := hk.light h5.2.1 hy.2
  have e51 : ns_lightNow g (g (53 + 4 * k)) (ns_x g k) 51 = g 51 := ns_light_n (by omega) (by omega) (by omega)
  have e55 : ns_lightNow g (g (53 + 4 * k)) (ns_x g k) (55 + 4 * k) = g (55 + 4 * k) := ns_light_n (by omega) (by omega) (by omega)
  unfold ns_rule1
  rw [if_pos hy]
  exact h.rule hk2 (by rw [e51]; exact hr) (by rw [e55]; exact hd)
theorem ns_sA_51 {g : Nat → Nat} {B S : Nat} (h : ns_ok g B) : ∀ n, n ≤ g 6 → ns_sA g S n 51 = g 51
  | 0, _ => rfl
  | n + 1, hn => by
    have ih := ns_sA_51 (S := S) h n (by omega)
    have hA := ns_sA_ok (S := S) h n (by omega)
    have h6 := h.1
    show (if S / 2 ^ n % 2 = 1 then ns_signal (ns_sA g S n) n else ns_sA g S n) 51 = g 51
    split
    · rw [(ns_signal_ok hA.1 (by rw [hA.2.1]; omega)).2 51 (by omega) (by omega) (by omega) (fun c hc => by omega) (fun c hc => by omega) (fun r hr => by omega), ih]
    · exact ih
theorem ns_s4_6 (g : Nat → Nat) : ns_s4 g 6 = g 6 ∧ ns_s4 g 51 = g 51 ∧ ns_s4 g 1 = g 1 := by
  obtain ⟨a3, a4, a5, ae⟩ := ns_s3_at g
  have e : ∀ k, k ≠ 0 → ns_s4 g k = ns_s3 g k := fun k hk9 => ns_up_n hk9
  exact ⟨by rw [e _ (by omega), ae _ (by omega) (by omega) (by omega)], by rw [e _ (by omega), ae _ (by omega) (by omega) (by omega)], by rw [e _ (by omega), ae _ (by omega) (by omega) (by omega)]⟩
abbrev rmL_steps : Room := ({ frames := 3, cells := 0, slots := 0, locals := 71 })
set_option maxHeartbeats 4000000 in
set_option maxRecDepth 100000 in
theorem kL_steps (l : Launch) (D : va_G) (cA : Nat → ClassId) (X : cq_X) (Bs : Nat) (ta ca ra na ba B : Nat) (t c r n b g : Nat → Nat) (M : cq_M) (ha : la X ta ca ra na ba) (hm : lm M ta ca ra na ba t c r n b) (h : lr t c r n b (g 1) g) (hk : ns_ok g B) (hB : B < 100000000) : cq_C l yL_steps wsL_steps rmL_steps D cA X Bs [.ref ta, .ref ca, .ref ra, .ref na, .ref ba] M (cq_PI (fun rv M1 => rv = nI (ns_sigs g) ∧ lst M1 ta ca ra na ba (ns_step g 1) (ns_step g) ∧ lf M M1 ca ra na ba)) 0 0 := by
  refine cq_met (cc := cL_steps) (maxL := 10) (ret := (some .int)) (by decide) rfl (Nat.le_of_ble_eq_true rfl) [(0, .ref ta), (1, .ref ca), (2, .ref ra), (3, .ref na), (4, .ref ba)] rfl rfl ?_
  intro p9 e9 s9 m9 b9 t9 c9 F hr
  obtain ⟨ht, hc, hr0, hn0, hb0, hd1, hd2, hd3, hd4⟩ := id ha
  have h6 := hk.1
  have h51 := hk.2.1
  have hk4 := ns_s4_ok hk
  obtain ⟨e46, e451, e41⟩ := ns_s4_6 g
  have hfl : ns_flames g (g 6) ≤ 2 * g 6 := ns_flames_le (fun c2 hc2 => (hk.2.2.2.1 c2 hc2).2.2.2.1)
  have hG := ns_bA_ok hk4 (g 6) (by rw [e46]; exact Nat.le_refl _)
  have e6G : (ns_bA (ns_s4 g) (g 6)) 6 = g 6 := by rw [hG.2.1 6 (fun c hc => by omega)]; exact e46
  have e51G : (ns_bA (ns_s4 g) (g 6)) 51 = g 51 := by rw [hG.2.1 51 (fun c hc => by omega)]; exact e451
  have e1G : (ns_bA (ns_s4 g) (g 6)) 1 = g 1 := by rw [hG.2.1 1 (fun c hc => by omega)]; exact e41
  have hS16 : (ns_bS (ns_s4 g) (g 6)) < 16 := Nat.lt_of_lt_of_le hG.2.2 (Nat.pow_le_pow_right (n := 2) (by decide) h6)
  obtain ⟨n0, n1, n2, n3, n4, n5, n6, n7, n8⟩ := id h.1
  have hn4 := hk.2.2.2.2.2.2.2.1
  have hn5 := hk.2.2.2.2.2.2.2.2
  have loop_222 : ∀ (n_222 : Nat) (i q : Nat) (t2 c2 r2 n2 b2 : Nat → Nat) (M2 : cq_M), i ≤ g 6 → q = ns_cnt (ns_bS (ns_s4 g) (g 6)) i → lm M2 ta ca ra na ba t2 c2 r2 n2 b2 → lr t2 c2 r2 n2 b2 (g 1) (ns_sA (ns_bA (ns_s4 g) (g 6)) (ns_bS (ns_s4 g) (g 6)) i) → lf M M2 ca ra na ba → g 6 - i < n_222 → cq_V p9 l e9 rmL_steps s9 m9 ([.ref ta, .ref ca, .ref ra, .ref na, .ref ba] : List Value).toArray b9 t9 c9 D cA X Bs 10 (0) (0) (MQ b9 (cq_Q D cA X Bs (cq_PI (fun rv M1 => rv = nI (ns_sigs g) ∧ lst M1 ta ca ra na ba (ns_step g 1) (ns_step g) ∧ lf M M1 ca ra na ba))) ([.ref ta, .ref ca, .ref ra, .ref na, .ref ba] : List Value).toArray s9 0 0 (cq_A Bs)) 222 [(0, .ref ta), (1, .ref ca), (2, .ref ra), (3, .ref na), (4, .ref ba), (6, .int (nI (ns_bS (ns_s4 g) (g 6)))), (7, .int (nI q)), (8, .int (nI i))] [] M2 := by
    intro n_222
    induction n_222 with
    | zero =>
      intros
      omega
    | succ n_222 ih_222 =>
      intro i q t2 c2 r2 n2 b2 M2 hi hq hm2 h2 hf2 hn
      have hA := ns_sA_ok (S := (ns_bS (ns_s4 g) (g 6))) hG.1 i (by rw [e6G]; exact hi)
      have e6A : ns_sA (ns_bA (ns_s4 g) (g 6)) (ns_bS (ns_s4 g) (g 6)) i 6 = g 6 := hA.2.1.trans e6G
      have e51A : ns_sA (ns_bA (ns_s4 g) (g 6)) (ns_bS (ns_s4 g) (g 6)) i 51 = g 51 := (ns_sA_51 hG.1 i (by rw [e6G]; exact hi)).trans e51G
      have en6 : n2 6 = g 6 := h2.1.2.2.2.2.2.2.1.trans e6A
      have loop_268 : ∀ (n_268 : Nat) (k : Nat) (t3 c3 r3 n3 b3 : Nat → Nat) (M3 : cq_M), k ≤ g 51 → i < g 6 → (ns_bS (ns_s4 g) (g 6)) / 2 ^ i % 2 = 1 → lm M3 ta ca ra na ba t3 c3 r3 n3 b3 → lr t3 c3 r3 n3 b3 (g 1) (ns_rules (ns_sig0 (ns_sA (ns_bA (ns_s4 g) (g 6)) (ns_bS (ns_s4 g) (g 6)) i) i) i k) → lf M M3 ca ra na ba → g 51 - k < n_268 → cq_V p9 l e9 rmL_steps s9 m9 ([.ref ta, .ref ca, .ref ra, .ref na, .ref ba] : List Value).toArray b9 t9 c9 D cA X Bs 10 (0) (0) (MQ b9 (cq_Q D cA X Bs (cq_PI (fun rv M1 => rv = nI (ns_sigs g) ∧ lst M1 ta ca ra na ba (ns_step g 1) (ns_step g) ∧ lf M M1 ca ra na ba))) ([.ref ta, .ref ca, .ref ra, .ref na, .ref ba] : List Value).toArray s9 0 0 (cq_A Bs)) 268 [(0, .ref ta), (1, .ref ca), (2, .ref ra), (3, .ref na), (4, .ref ba), (6, .int (nI (ns_bS (ns_s4 g) (g 6)))), (7, .int (nI (q + 1))), (8, .int (nI i)), (9, .int (nI k))] [] M3 := by
        intro n_268
        induction n_268 with
        | zero =>
          intros
          omega
        | succ n_268 ih_268 =>
          intro k t3 c3 r3 n3 b3 M3 hk0 hi9 hbit hm3 h3 hf3 hn3
          have hs1 := ns_sig0_ok hA.1 (show i < ns_sA (ns_bA (ns_s4 g) (g 6)) (ns_bS (ns_s4 g) (g 6)) i 6 by rw [e6A]; exact hi9)
          have e51S : ns_sig0 (ns_sA (ns_bA (ns_s4 g) (g 6)) (ns_bS (ns_s4 g) (g 6)) i) i 51 = g 51 := by rw [hs1.2 51 (by omega) (by omega) (by omega)]; exact e51A
          have hR := ns_rules_ok (c := i) hs1.1 k (by rw [e51S]; exact hk0)
          have e51R : ns_rules (ns_sig0 (ns_sA (ns_bA (ns_s4 g) (g 6)) (ns_bS (ns_s4 g) (g 6)) i) i) i k 51 = g 51 := by rw [hR.2 51 (by omega) (by omega) (fun c hc => by omega) (fun r hr => by omega)]; exact e51S
          have en7 : n3 7 = g 51 := h3.1.2.2.2.2.2.2.2.1.trans e51R
          refine cq_iload F dL_steps_268 rfl ?_
          refine cq_aload_n F (i := 3) dL_steps_270 rfl rfl ?_
          refine cq_bipush F (v := 7) dL_steps_271 (by decide) ?_
          refine cq_iald_j F (j := 7) hn0.1 hn0.2 rfl ⟨(by omega), by decide⟩ dL_steps_273 ?_
          rw [hm3.2.2.2.1 _ (by omega)]
          refine cq_icmp_ge F (tgt := 337) dL_steps_274 (by decide) (fun c_274 => ?_) (fun c_274 => ?_)
          · have c_274 : (n3 (7)) ≤ k := (nI_b (a := (n3 (7))) (b := k) (by omega) (by omega)).1.mp c_274
            obtain rfl : k = g 51 := by omega
            refine cq_iinc F dL_steps_337 rfl (by decide) (fun x_337 e_337 => ?_)
            obtain rfl : x_337 = nI (i + 1) := by rw [e_337]; exact nI_1 _
            refine cq_goto F (tgt := 222) dL_steps_340 (by decide) ?_
            refine cq_loc (L2 := [(0, .ref ta), (1, .ref ca), (2, .ref ra), (3, .ref na), (4, .ref ba), (6, .int (nI (ns_bS (ns_s4 g) (g 6)))), (7, .int (nI (q + 1))), (8, .int (nI (i + 1)))]) rfl ?_
            exact ih_222 (i + 1) (q + 1) t3 c3 r3 n3 b3 M3 (by omega) (by rw [hq]; show _ = ns_cnt (ns_bS (ns_s4 g) (g 6)) i + (ns_bS (ns_s4 g) (g 6)) / 2 ^ i % 2; omega) hm3 (by show lr _ _ _ _ _ _ (if (ns_bS (ns_s4 g) (g 6)) / 2 ^ i % 2 = 1 then ns_signal (ns_sA (ns_bA (ns_s4 g) (g 6)) (ns_bS (ns_s4 g) (g 6)) i) i else _); rw [if_pos hbit]; show lr _ _ _ _ _ _ (ns_rules (ns_sig0 (ns_sA (ns_bA (ns_s4 g) (g 6)) (ns_bS (ns_s4 g) (g 6)) i) i) i (ns_sA (ns_bA (ns_s4 g) (g 6)) (ns_bS (ns_s4 g) (g 6)) i 51)); rw [e51A]; exact h3) hf3 (by omega)
          · have c_274 : ¬ (n3 (7)) ≤ k := fun z => c_274 ((nI_b (a := (n3 (7))) (b := k) (by omega) (by omega)).1.mpr z)
            have hk9 : k < g 51 := by omega
            have hrr := h3.2.2.2.1 k (by rw [e51R]; exact hk9)
            have h5 := hR.1.2.2.2.2.1 k (by rw [e51R]; exact hk9)
            have hr6 := hR.1.1
            refine cq_aload_n F (i := 2) dL_steps_277 rfl rfl ?_
            refine cq_iconst F (v := 4) dL_steps_278 rfl ?_
            refine cq_iload F dL_steps_279 rfl ?_
            refine cq_imul F dL_steps_281 ?_
            rw [show (4 * nI k : Int32) = nI (4 * k) from pk_mul _ _]
            refine cq_iconst F (v := 3) dL_steps_282 rfl ?_
            refine cq_iadd F dL_steps_283 ?_
            rw [show (nI (4 * k) + 3 : Int32) = nI (4 * k + 3) from nI_add _ _]
            refine cq_dup2 F dL_steps_284 rfl rfl ?_
            refine cq_iald_j F (j := (4 * k + 3)) hr0.1 hr0.2 rfl ⟨(by omega), by decide⟩ dL_steps_285 ?_
            rw [hm3.2.2.1 _ (by omega)]
            refine cq_aload_n F (i := 2) dL_steps_286 rfl rfl ?_
            refine cq_iconst F (v := 4) dL_steps_287 rfl ?_
            refine cq_iload F dL_steps_288 rfl ?_
            refine cq_imul F dL_steps_290 ?_
            rw [show (4 * nI k : Int32) = nI (4 * k) from pk_mul _ _]
            refine cq_iald_j F (j := 4 * k) hr0.1 hr0.2 rfl ⟨(by omega), by decide⟩ dL_steps_291 ?_
            rw [hm3.2.2.1 _ (by omega)]
            refine cq_iload F dL_steps_292 rfl ?_
            refine cq_icmp_ne F (tgt := 328) dL_steps_294 (by decide) (fun c_294 => ?_) (fun c_294 => ?_)
            · have c_294 : ¬ (r3 (4 * k)) = i := fun z => c_294 ((nI_b (a := (r3 (4 * k))) (b := i) (by omega) (by omega)).2.2.mpr z)
              refine cq_iconst F (v := 0) dL_steps_328 rfl ?_
              refine cq_iadd F dL_steps_329 ?_
              rw [show (nI (r3 ((4 * k + 3))) + 0 : Int32) = nI ((r3 ((4 * k + 3))) + 0) from nI_add _ _]
              refine cq_iast_j F (j := (4 * k + 3)) hr0.1 hr0.2 rfl ⟨(by omega), by decide⟩ dL_steps_330 (fun M_330 h_330 => ?_)
              have v_330_ta := hm3.1.ne h_330 (by omega)
              have v_330_ca := hm3.2.1.ne h_330 (by omega)
              obtain ⟨g_330, eg_330⟩ : ∃ z, z = ns_up r3 ((4 * k + 3)) (((r3 ((4 * k + 3))) + 0)) := ⟨_, rfl⟩
              have v_330_ra : cq_nv M_330 ra 32 g_330 := by rw [eg_330]; exact hm3.2.2.1.up h_330
              have v_330_na := hm3.2.2.2.1.ne h_330 (by omega)
              have v_330_ba := hm3.2.2.2.2.ne h_330 (by omega)
              refine cq_iinc F dL_steps_331 rfl (by decide) (fun x_331 e_331 => ?_)
              obtain rfl : x_331 = nI (k + 1) := by rw [e_331]; exact nI_1 _
              refine cq_goto F (tgt := 268) dL_steps_334 (by decide) ?_
              refine cq_loc (L2 := [(0, .ref ta), (1, .ref ca), (2, .ref ra), (3, .ref na), (4, .ref ba), (6, .int (nI (ns_bS (ns_s4 g) (g 6)))), (7, .int (nI (q + 1))), (8, .int (nI i)), (9, .int (nI (k + 1)))]) rfl ?_
              exact ih_268 (k + 1) t3 c3 g_330 n3 b3 M_330 (by omega) hi9 hbit ⟨v_330_ta, v_330_ca, v_330_ra, v_330_na, v_330_ba⟩ (by rw [eg_330]; exact lr.ruleN hR.1 (by rw [e51R]; exact hk9) h3 hrr.2.2.2 (fun z => c_294 (by rw [hrr.1]; exact z.1))) (hf3.up h_330 (by simp)) (by omega)
            · have c_294 : (r3 (4 * k)) = i := (nI_b (a := (r3 (4 * k))) (b := i) (by omega) (by omega)).2.2.mp c_294
              refine cq_aload_n F (i := 0) dL_steps_297 rfl rfl ?_
              refine cq_aload_n F (i := 1) dL_steps_298 rfl rfl ?_
              refine cq_aload_n F (i := 3) dL_steps_299 rfl rfl ?_
              refine cq_aload F dL_steps_300 rfl ?_
              refine cq_aload_n F (i := 2) dL_steps_302 rfl rfl ?_
              refine cq_iconst F (v := 4) dL_steps_303 rfl ?_
              refine cq_iload F dL_steps_304 rfl ?_
              refine cq_imul F dL_steps_306 ?_
              rw [show (4 * nI k : Int32) = nI (4 * k) from pk_mul _ _]
              refine cq_iconst F (v := 1) dL_steps_307 rfl ?_
              refine cq_iadd F dL_steps_308 ?_
              rw [show (nI (4 * k) + 1 : Int32) = nI (4 * k + 1) from nI_add _ _]
              refine cq_iald_j F (j := (4 * k + 1)) hr0.1 hr0.2 rfl ⟨(by omega), by decide⟩ dL_steps_309 ?_
              rw [hm3.2.2.1 _ (by omega)]
              refine cq_aload_n F (i := 2) dL_steps_310 rfl rfl ?_
              refine cq_iconst F (v := 4) dL_steps_311 rfl ?_
              refine cq_iload F dL_steps_312 rfl ?_
              refine cq_imul F dL_steps_314 ?_
              rw [show (4 * nI k : Int32) = nI (4 * k) from pk_mul _ _]
              refine cq_iconst F (v := 2) dL_steps_315 rfl ?_
              refine cq_iadd F dL_steps_316 ?_
              rw [show (nI (4 * k) + 2 : Int32) = nI (4 * k + 2) from nI_add _ _]
              refine cq_iald_j F (j := (4 * k + 2)) hr0.1 hr0.2 rfl ⟨(by omega), by decide⟩ dL_steps_317 ?_
              rw [hm3.2.2.1 _ (by omega)]
              refine cq_callS F (kL_lights l D cA X Bs ta ca ra na ba (r3 ((4 * k + 1))) (r3 ((4 * k + 2))) (g 1) (B + 1) t3 c3 r3 n3 b3 (ns_rules (ns_sig0 (ns_sA (ns_bA (ns_s4 g) (g 6)) (ns_bS (ns_s4 g) (g 6)) i) i) i k) M3 ha hm3 h3 hR.1 (by rw [hrr.2.1]; exact h5.2.1) (by rw [hrr.2.2.1]; omega)) (va_cwS 6 F.1.2.2.2.2 gL_steps_L_lights rfl rfl rfl hdVL_lights.2 ⟨Nat.le_of_ble_eq_true rfl, Nat.le_of_ble_eq_true rfl⟩) rfl (Nat.le_of_ble_eq_true rfl) dL_steps_318 ⟨Nat.le_of_ble_eq_true rfl, Nat.le_of_ble_eq_true rfl⟩ (cq_kI fun r_318 M_318 h_318 => ?_)
              obtain ⟨t4, c4, r4, n4, b4, hm4, h4⟩ := h_318.2.1
              refine cq_if_eq F (tgt := 328) dL_steps_321 (by decide) (fun c_321 => ?_) (fun c_321 => ?_)
              · have c_321 := cq_b0 h_318.1 c_321
                refine cq_iconst F (v := 0) dL_steps_328 rfl ?_
                refine cq_iadd F dL_steps_329 ?_
                rw [show (nI (r3 ((4 * k + 3))) + 0 : Int32) = nI ((r3 ((4 * k + 3))) + 0) from nI_add _ _]
                refine cq_iast_j F (j := (4 * k + 3)) hr0.1 hr0.2 rfl ⟨(by omega), by decide⟩ dL_steps_330 (fun M_330 h_330 => ?_)
                have v_330_ta := hm4.1.ne h_330 (by omega)
                have v_330_ca := hm4.2.1.ne h_330 (by omega)
                obtain ⟨g_330, eg_330⟩ : ∃ z, z = ns_up r4 ((4 * k + 3)) (((r3 ((4 * k + 3))) + 0)) := ⟨_, rfl⟩
                have v_330_ra : cq_nv M_330 ra 32 g_330 := by rw [eg_330]; exact hm4.2.2.1.up h_330
                have v_330_na := hm4.2.2.2.1.ne h_330 (by omega)
                have v_330_ba := hm4.2.2.2.2.ne h_330 (by omega)
                refine cq_iinc F dL_steps_331 rfl (by decide) (fun x_331 e_331 => ?_)
                obtain rfl : x_331 = nI (k + 1) := by rw [e_331]; exact nI_1 _
                refine cq_goto F (tgt := 268) dL_steps_334 (by decide) ?_
                refine cq_loc (L2 := [(0, .ref ta), (1, .ref ca), (2, .ref ra), (3, .ref na), (4, .ref ba), (6, .int (nI (ns_bS (ns_s4 g) (g 6)))), (7, .int (nI (q + 1))), (8, .int (nI i)), (9, .int (nI (k + 1)))]) rfl ?_
                exact ih_268 (k + 1) t4 c4 g_330 n4 b4 M_330 (by omega) hi9 hbit ⟨v_330_ta, v_330_ca, v_330_ra, v_330_na, v_330_ba⟩ (by rw [eg_330]; rw [if_neg c_321] at h4; exact lr.ruleN hR.1 (by rw [e51R]; exact hk9) h4 hrr.2.2.2 (fun z => c_321 (by rw [hrr.2.1, hrr.2.2.1, ls_rx h5.2.2]; exact z.2))) ((hf3.trans h_318.2.2).up h_330 (by simp)) (by omega)
              · have c_321 := cq_b1 h_318.1 c_321
                refine cq_iconst F (v := 1) dL_steps_324 rfl ?_
                refine cq_goto F (tgt := 329) dL_steps_325 (by decide) ?_
                refine cq_iadd F dL_steps_329 ?_
                rw [show (nI (r3 ((4 * k + 3))) + 1 : Int32) = nI ((r3 ((4 * k + 3))) + 1) from nI_add _ _]
                refine cq_iast_j F (j := (4 * k + 3)) hr0.1 hr0.2 rfl ⟨(by omega), by decide⟩ dL_steps_330 (fun M_330 h_330 => ?_)
                have v_330_ta := hm4.1.ne h_330 (by omega)
                have v_330_ca := hm4.2.1.ne h_330 (by omega)
                obtain ⟨g_330, eg_330⟩ : ∃ z, z = ns_up r4 ((4 * k + 3)) (((r3 ((4 * k + 3))) + 1)) := ⟨_, rfl⟩
                have v_330_ra : cq_nv M_330 ra 32 g_330 := by rw [eg_330]; exact hm4.2.2.1.up h_330
                have v_330_na := hm4.2.2.2.1.ne h_330 (by omega)
                have v_330_ba := hm4.2.2.2.2.ne h_330 (by omega)
                refine cq_iinc F dL_steps_331 rfl (by decide) (fun x_331 e_331 => ?_)
                obtain rfl : x_331 = nI (k + 1) := by rw [e_331]; exact nI_1 _
                refine cq_goto F (tgt := 268) dL_steps_334 (by decide) ?_
                refine cq_loc (L2 := [(0, .ref ta), (1, .ref ca), (2, .ref ra), (3, .ref na), (4, .ref ba), (6, .int (nI (ns_bS (ns_s4 g) (g 6)))), (7, .int (nI (q + 1))), (8, .int (nI i)), (9, .int (nI (k + 1)))]) rfl ?_
                exact ih_268 (k + 1) t4 c4 g_330 n4 b4 M_330 (by omega) hi9 hbit ⟨v_330_ta, v_330_ca, v_330_ra, v_330_na, v_330_ba⟩ (by rw [eg_330]; rw [if_pos c_321, hrr.2.1, hrr.2.2.1, ls_rx h5.2.2] at h4; rw [hrr.2.1, hrr.2.2.1, ls_rx h5.2.2] at c_321; exact lr.ruleY hR.1 (by rw [e51R]; exact hk9) hrr.2.2.2 ⟨by rw [← hrr.1]; exact c_294, c_321⟩ h4) ((hf3.trans h_318.2.2).up h_330 (by simp)) (by omega)
      refine cq_iload F dL_steps_222 rfl ?_
      refine cq_aload_n F (i := 3) dL_steps_224 rfl rfl ?_
      refine cq_bipush F (v := 6) dL_steps_225 (by decide) ?_
      refine cq_iald_j F (j := 6) hn0.1 hn0.2 rfl ⟨(by omega), by decide⟩ dL_steps_227 ?_
      rw [hm2.2.2.2.1 _ (by omega)]
      refine cq_icmp_ge F (tgt := 343) dL_steps_228 (by decide) (fun c_228 => ?_) (fun c_228 => ?_)
      · have c_228 : (n2 (6)) ≤ i := (nI_b (a := (n2 (6))) (b := i) (by omega) (by omega)).1.mp c_228
        obtain rfl : i = g 6 := by omega
        refine cq_aload_n F (i := 3) dL_steps_343 rfl rfl ?_
        refine cq_iconst F (v := 1) dL_steps_344 rfl ?_
        refine cq_dup2 F dL_steps_345 rfl rfl ?_
        refine cq_iald_j F (j := 1) hn0.1 hn0.2 rfl ⟨(by omega), by decide⟩ dL_steps_346 ?_
        rw [hm2.2.2.2.1 _ (by omega)]
        refine cq_iload F dL_steps_347 rfl ?_
        refine cq_iadd F dL_steps_349 ?_
        rw [show (nI (n2 (1)) + nI q : Int32) = nI ((n2 (1)) + q) from nI_add _ _]
        refine cq_iast_j F (j := 1) hn0.1 hn0.2 rfl ⟨(by omega), by decide⟩ dL_steps_350 (fun M_350 h_350 => ?_)
        have v_350_ta := hm2.1.ne h_350 (by omega)
        have v_350_ca := hm2.2.1.ne h_350 (by omega)
        have v_350_ra := hm2.2.2.1.ne h_350 (by omega)
        obtain ⟨g_350, eg_350⟩ : ∃ z, z = ns_up n2 (1) (((n2 (1)) + q)) := ⟨_, rfl⟩
        have v_350_na : cq_nv M_350 na 9 g_350 := by rw [eg_350]; exact hm2.2.2.2.1.up h_350
        have v_350_ba := hm2.2.2.2.2.ne h_350 (by omega)
        refine cq_iload F dL_steps_351 rfl ?_
        refine cq_iret F hr (by decide) (by decide) dL_steps_353 ⟨_, rfl, ?_⟩
        refine ⟨by rw [hq]; rfl, ⟨t2, c2, r2, g_350, b2, ⟨v_350_ta, v_350_ca, v_350_ra, v_350_na, v_350_ba⟩, ?_⟩, hf2.up h_350 (by simp)⟩
        have e9 : ns_step g 1 = n2 1 + q := by
          rw [hq, h2.1.2.1, ← e1G]
          exact hA.2.2.2
        rw [eg_350, e9]
        exact h2.n1
      · have c_228 : ¬ (n2 (6)) ≤ i := fun z => c_228 ((nI_b (a := (n2 (6))) (b := i) (by omega) (by omega)).1.mpr z)
        have hi9 : i < g 6 := by omega
        have hn8 : n2 8 < 1000000 := by have z := h2.1.2.2.2.2.2.2.2.2; have := hA.1.2.2.1; omega
        refine cq_iload F dL_steps_231 rfl ?_
        refine cq_iload F dL_steps_233 rfl ?_
        refine cq_ishr F dL_steps_235 ?_
        refine cq_iconst F (v := 1) dL_steps_236 rfl ?_
        refine cq_iand F dL_steps_237 ?_
        rw [(nI_set i (by omega) _ hS16).2]
        refine cq_iconst F (v := 1) dL_steps_238 rfl ?_
        refine cq_icmp_ne F (tgt := 337) dL_steps_239 (by decide) (fun c_239 => ?_) (fun c_239 => ?_)
        · have c_239 : ¬ ((ns_bS (ns_s4 g) (g 6)) / 2 ^ i % 2) = 1 := fun z => c_239 ((nI_b (a := ((ns_bS (ns_s4 g) (g 6)) / 2 ^ i % 2)) (b := 1) (by omega) (by omega)).2.2.mpr z)
          refine cq_iinc F dL_steps_337 rfl (by decide) (fun x_337 e_337 => ?_)
          obtain rfl : x_337 = nI (i + 1) := by rw [e_337]; exact nI_1 _
          refine cq_goto F (tgt := 222) dL_steps_340 (by decide) ?_
          refine cq_loc (L2 := [(0, .ref ta), (1, .ref ca), (2, .ref ra), (3, .ref na), (4, .ref ba), (6, .int (nI (ns_bS (ns_s4 g) (g 6)))), (7, .int (nI q)), (8, .int (nI (i + 1)))]) rfl ?_
          exact ih_222 (i + 1) q t2 c2 r2 n2 b2 M2 (by omega) (by rw [hq]; show _ = ns_cnt (ns_bS (ns_s4 g) (g 6)) i + (ns_bS (ns_s4 g) (g 6)) / 2 ^ i % 2; omega) hm2 (by show lr _ _ _ _ _ _ (if (ns_bS (ns_s4 g) (g 6)) / 2 ^ i % 2 = 1 then _ else _); rw [if_neg c_239]; exact h2) hf2 (by omega)
        · have c_239 : ((ns_bS (ns_s4 g) (g 6)) / 2 ^ i % 2) = 1 := (nI_b (a := ((ns_bS (ns_s4 g) (g 6)) / 2 ^ i % 2)) (b := 1) (by omega) (by omega)).2.2.mp c_239
          have hbit := c_239
          refine cq_iinc F dL_steps_242 rfl (by decide) (fun x_242 e_242 => ?_)
          obtain rfl : x_242 = nI (q + 1) := by rw [e_242]; exact nI_1 _
          refine cq_aload_n F (i := 1) dL_steps_245 rfl rfl ?_
          refine cq_iconst F (v := 5) dL_steps_246 rfl ?_
          refine cq_iload F dL_steps_247 rfl ?_
          refine cq_imul F dL_steps_249 ?_
          rw [show (5 * nI i : Int32) = nI (5 * i) from pk_mul _ _]
          refine cq_iconst F (v := 4) dL_steps_250 rfl ?_
          refine cq_iadd F dL_steps_251 ?_
          rw [show (nI (5 * i) + 4 : Int32) = nI (5 * i + 4) from nI_add _ _]
          refine cq_aload_n F (i := 3) dL_steps_252 rfl rfl ?_
          refine cq_iconst F (v := 0) dL_steps_253 rfl ?_
          refine cq_iald_j F (j := 0) hn0.1 hn0.2 rfl ⟨(by omega), by decide⟩ dL_steps_254 ?_
          rw [hm2.2.2.2.1 _ (by omega)]
          refine cq_iast_j F (j := (5 * i + 4)) hc.1 hc.2 rfl ⟨(by omega), by decide⟩ dL_steps_255 (fun M_255 h_255 => ?_)
          have v_255_ta := hm2.1.ne h_255 (by omega)
          obtain ⟨g_255, eg_255⟩ : ∃ z, z = ns_up c2 ((5 * i + 4)) ((n2 (0))) := ⟨_, rfl⟩
          have v_255_ca : cq_nv M_255 ca 20 g_255 := by rw [eg_255]; exact hm2.2.1.up h_255
          have v_255_ra := hm2.2.2.1.ne h_255 (by omega)
          have v_255_na := hm2.2.2.2.1.ne h_255 (by omega)
          have v_255_ba := hm2.2.2.2.2.ne h_255 (by omega)
          refine cq_aload F dL_steps_256 rfl ?_
          refine cq_aload_n F (i := 3) dL_steps_258 rfl rfl ?_
          refine cq_iconst F (v := 2) dL_steps_259 rfl ?_
          refine cq_iload F dL_steps_260 rfl ?_
          refine cq_callS F (kL_writes l D cA X Bs ba na 2 i b2 n2 M_255 hb0 hn0 v_255_ba v_255_na (by omega) hn8) (va_cwS 4 F.1.2.2.2.2 gL_steps_L_writes rfl rfl rfl hdVL_writes.2 ⟨Nat.le_of_ble_eq_true rfl, Nat.le_of_ble_eq_true rfl⟩) rfl (Nat.le_of_ble_eq_true rfl) dL_steps_262 ⟨Nat.le_of_ble_eq_true rfl, Nat.le_of_ble_eq_true rfl⟩ (cq_kV fun M_262 h_262 => ?_)
          have hs0 := h2.sig0 hA.1 (by rw [e6A]; exact hi9)
          refine cq_iconst F (v := 0) dL_steps_265 rfl ?_
          refine cq_istore F dL_steps_266 (by decide) ?_
          refine cq_loc (L2 := [(0, .ref ta), (1, .ref ca), (2, .ref ra), (3, .ref na), (4, .ref ba), (6, .int (nI (ns_bS (ns_s4 g) (g 6)))), (7, .int (nI (q + 1))), (8, .int (nI i)), (9, .int (nI 0))]) rfl ?_
          exact loop_268 (g 51 + 1) 0 t2 _ r2 _ _ M_262 (by omega) hi9 (by omega) ⟨v_255_ta.same (fun j => congrFun (h_262.2.2 _ (by omega) (by omega)) j), v_255_ca.same (fun j => congrFun (h_262.2.2 _ (by omega) (by omega)) j), v_255_ra.same (fun j => congrFun (h_262.2.2 _ (by omega) (by omega)) j), h_262.2.1, h_262.1⟩ (by rw [eg_255]; exact hs0) (fun x x1 x2 x3 x4 => by rw [h_262.2.2 x x4 x3]; exact hf2.up h_255 (by simp) x x1 x2 x3 x4) (by omega)
  have loop_82 : ∀ (n_82 : Nat) (i S : Nat) (t2 c2 r2 n2 b2 : Nat → Nat) (M2 : cq_M), i ≤ g 6 → S = ns_bS (ns_s4 g) i → lm M2 ta ca ra na ba t2 c2 r2 n2 b2 → lr t2 c2 r2 n2 b2 (g 1) (ns_bA (ns_s4 g) i) → lf M M2 ca ra na ba → g 6 - i < n_82 → cq_V p9 l e9 rmL_steps s9 m9 ([.ref ta, .ref ca, .ref ra, .ref na, .ref ba] : List Value).toArray b9 t9 c9 D cA X Bs 10 (0) (0) (MQ b9 (cq_Q D cA X Bs (cq_PI (fun rv M1 => rv = nI (ns_sigs g) ∧ lst M1 ta ca ra na ba (ns_step g 1) (ns_step g) ∧ lf M M1 ca ra na ba))) ([.ref ta, .ref ca, .ref ra, .ref na, .ref ba] : List Value).toArray s9 0 0 (cq_A Bs)) 82 [(0, .ref ta), (1, .ref ca), (2, .ref ra), (3, .ref na), (4, .ref ba), (6, .int (nI S)), (7, .int (nI i))] [] M2 := by
    intro n_82
    induction n_82 with
    | zero =>
      intros
      omega
    | succ n_82 ih_82 =>
      intro i S t2 c2 r2 n2 b2 M2 hi hS hm2 h2 hf2 hn
      have hA := ns_bA_ok hk4 i (by rw [e46]; exact hi)
      have e6A : ns_bA (ns_s4 g) i 6 = g 6 := by rw [hA.2.1 6 (fun c hc => by omega)]; exact e46
      have en6 : n2 6 = g 6 := h2.1.2.2.2.2.2.2.1.trans e6A
      refine cq_iload F dL_steps_82 rfl ?_
      refine cq_aload_n F (i := 3) dL_steps_84 rfl rfl ?_
      refine cq_bipush F (v := 6) dL_steps_85 (by decide) ?_
      refine cq_iald_j F (j := 6) hn0.1 hn0.2 rfl ⟨(by omega), by decide⟩ dL_steps_87 ?_
      rw [hm2.2.2.2.1 _ (by omega)]
      refine cq_icmp_ge F (tgt := 216) dL_steps_88 (by decide) (fun c_88 => ?_) (fun c_88 => ?_)
      · have c_88 : (n2 (6)) ≤ i := (nI_b (a := (n2 (6))) (b := i) (by omega) (by omega)).1.mp c_88
        obtain rfl : i = g 6 := by omega
        subst hS
        refine cq_iconst F (v := 0) dL_steps_216 rfl ?_
        refine cq_istore F dL_steps_217 (by decide) ?_
        refine cq_iconst F (v := 0) dL_steps_219 rfl ?_
        refine cq_istore F dL_steps_220 (by decide) ?_
        refine cq_loc (L2 := [(0, .ref ta), (1, .ref ca), (2, .ref ra), (3, .ref na), (4, .ref ba), (6, .int (nI (ns_bS (ns_s4 g) (g 6)))), (7, .int (nI 0)), (8, .int (nI 0))]) rfl ?_
        exact loop_222 (g 6 + 1) 0 0 t2 c2 r2 n2 b2 M2 (by omega) rfl hm2 h2 hf2 (by omega)
      · have c_88 : ¬ (n2 (6)) ≤ i := fun z => c_88 ((nI_b (a := (n2 (6))) (b := i) (by omega) (by omega)).1.mpr z)
        have hi9 : i < g 6 := by omega
        have hz0 := h2.burn0 hA.1 (by rw [e6A]; exact hi9)
        have hT := h2.time hA.1 (by rw [e6A]; exact hi9)
        have hTb := (hA.1.2.2.2.1 i (by rw [e6A]; exact hi9)).time
        have hp : 2 ^ i ≤ 8 := Nat.pow_le_pow_right (n := 2) (by decide) (show i ≤ 3 by omega)
        have hS9 : S < 2 ^ i := by rw [hS]; exact hA.2.2
        refine cq_aload_n F (i := 1) dL_steps_91 rfl rfl ?_
        refine cq_iconst F (v := 5) dL_steps_92 rfl ?_
        refine cq_iload F dL_steps_93 rfl ?_
        refine cq_imul F dL_steps_95 ?_
        rw [show (5 * nI i : Int32) = nI (5 * i) from pk_mul _ _]
        refine cq_iconst F (v := 2) dL_steps_96 rfl ?_
        refine cq_iadd F dL_steps_97 ?_
        rw [show (nI (5 * i) + 2 : Int32) = nI (5 * i + 2) from nI_add _ _]
        refine cq_iald_j F (j := (5 * i + 2)) hc.1 hc.2 rfl ⟨(by omega), by decide⟩ dL_steps_98 ?_
        rw [hm2.2.1 _ (by omega)]
        refine cq_aload_n F (i := 1) dL_steps_99 rfl rfl ?_
        refine cq_iconst F (v := 5) dL_steps_100 rfl ?_
        refine cq_iload F dL_steps_101 rfl ?_
        refine cq_imul F dL_steps_103 ?_
        rw [show (5 * nI i : Int32) = nI (5 * i) from pk_mul _ _]
        refine cq_iconst F (v := 3) dL_steps_104 rfl ?_
        refine cq_iadd F dL_steps_105 ?_
        rw [show (nI (5 * i) + 3 : Int32) = nI (5 * i + 3) from nI_add _ _]
        refine cq_iald_j F (j := (5 * i + 3)) hc.1 hc.2 rfl ⟨(by omega), by decide⟩ dL_steps_106 ?_
        rw [hm2.2.1 _ (by omega)]
        refine cq_iadd F dL_steps_107 ?_
        rw [show (nI (c2 ((5 * i + 2))) + nI (c2 ((5 * i + 3))) : Int32) = nI ((c2 ((5 * i + 2))) + (c2 ((5 * i + 3)))) from nI_add _ _]
        refine cq_if_le F (tgt := 115) dL_steps_108 (by decide) (fun c_108 => ?_) (fun c_108 => ?_)
        · have c_108 : ((c2 ((5 * i + 2))) + (c2 ((5 * i + 3)))) ≤ 0 := (nI_b (a := ((c2 ((5 * i + 2))) + (c2 ((5 * i + 3))))) (b := 0) (by omega) (by omega)).1.mp c_108
          refine cq_iconst F (v := 0) dL_steps_115 rfl ?_
          refine cq_istore F dL_steps_116 (by decide) ?_
          refine cq_aload_n F (i := 1) dL_steps_118 rfl rfl ?_
          refine cq_iconst F (v := 5) dL_steps_119 rfl ?_
          refine cq_iload F dL_steps_120 rfl ?_
          refine cq_imul F dL_steps_122 ?_
          rw [show (5 * nI i : Int32) = nI (5 * i) from pk_mul _ _]
          refine cq_dup2 F dL_steps_123 rfl rfl ?_
          refine cq_iald_j F (j := 5 * i) hc.1 hc.2 rfl ⟨(by omega), by decide⟩ dL_steps_124 ?_
          rw [hm2.2.1 _ (by omega)]
          refine cq_aload_n F (i := 1) dL_steps_125 rfl rfl ?_
          refine cq_iconst F (v := 5) dL_steps_126 rfl ?_
          refine cq_iload F dL_steps_127 rfl ?_
          refine cq_imul F dL_steps_129 ?_
          rw [show (5 * nI i : Int32) = nI (5 * i) from pk_mul _ _]
          refine cq_iconst F (v := 2) dL_steps_130 rfl ?_
          refine cq_iadd F dL_steps_131 ?_
          rw [show (nI (5 * i) + 2 : Int32) = nI (5 * i + 2) from nI_add _ _]
          refine cq_iald_j F (j := (5 * i + 2)) hc.1 hc.2 rfl ⟨(by omega), by decide⟩ dL_steps_132 ?_
          rw [hm2.2.1 _ (by omega)]
          refine cq_iadd F dL_steps_133 ?_
          rw [show (nI (c2 (5 * i)) + nI (c2 ((5 * i + 2))) : Int32) = nI ((c2 (5 * i)) + (c2 ((5 * i + 2)))) from nI_add _ _]
          refine cq_iast_j F (j := 5 * i) hc.1 hc.2 rfl ⟨(by omega), by decide⟩ dL_steps_134 (fun M_134 h_134 => ?_)
          have v_134_ta := hm2.1.ne h_134 (by omega)
          obtain ⟨g_134, eg_134⟩ : ∃ z, z = ns_up c2 (5 * i) (((c2 (5 * i)) + (c2 ((5 * i + 2))))) := ⟨_, rfl⟩
          have v_134_ca : cq_nv M_134 ca 20 g_134 := by rw [eg_134]; exact hm2.2.1.up h_134
          have v_134_ra := hm2.2.2.1.ne h_134 (by omega)
          have v_134_na := hm2.2.2.2.1.ne h_134 (by omega)
          have v_134_ba := hm2.2.2.2.2.ne h_134 (by omega)
          have x0 : g_134 (5 * i) = c2 (5 * i) + c2 (5 * i + 2) := by rw [eg_134, ns_up_s]
          have x1 : g_134 (5 * i + 1) = c2 (5 * i + 1) := by rw [eg_134, ns_up_n (by omega)]
          refine cq_aload_n F (i := 1) dL_steps_135 rfl rfl ?_
          refine cq_iconst F (v := 5) dL_steps_136 rfl ?_
          refine cq_iload F dL_steps_137 rfl ?_
          refine cq_imul F dL_steps_139 ?_
          rw [show (5 * nI i : Int32) = nI (5 * i) from pk_mul _ _]
          refine cq_iconst F (v := 1) dL_steps_140 rfl ?_
          refine cq_iadd F dL_steps_141 ?_
          rw [show (nI (5 * i) + 1 : Int32) = nI (5 * i + 1) from nI_add _ _]
          refine cq_dup2 F dL_steps_142 rfl rfl ?_
          refine cq_iald_j F (j := (5 * i + 1)) hc.1 hc.2 rfl ⟨(by omega), by decide⟩ dL_steps_143 ?_
          rw [v_134_ca _ (by omega)]
          refine cq_aload_n F (i := 0) dL_steps_144 rfl rfl ?_
          refine cq_aload_n F (i := 1) dL_steps_145 rfl rfl ?_
          refine cq_iload F dL_steps_146 rfl ?_
          refine cq_callS F (kL_left l D cA X Bs ta ca i t2 g_134 M_134 ht hc v_134_ta v_134_ca (by omega) (by rw [hT, x0, x1]; omega)) (va_cwS 3 F.1.2.2.2.2 gL_steps_L_left rfl rfl rfl hdVL_left.2 ⟨Nat.le_of_ble_eq_true rfl, Nat.le_of_ble_eq_true rfl⟩) rfl (Nat.le_of_ble_eq_true rfl) dL_steps_148 ⟨Nat.le_of_ble_eq_true rfl, Nat.le_of_ble_eq_true rfl⟩ (cq_kIp fun r_148 h_148 => ?_)
          subst h_148
          refine cq_if_le F (tgt := 165) dL_steps_151 (by decide) (fun c_151 => ?_) (fun c_151 => ?_)
          · have c_151 : (ns_sum t2 (6 * i) 6 - g_134 (5 * i) - g_134 (5 * i + 1)) ≤ 0 := (nI_b (a := (ns_sum t2 (6 * i) 6 - g_134 (5 * i) - g_134 (5 * i + 1))) (b := 0) (by omega) (by omega)).1.mp c_151
            refine cq_iconst F (v := 0) dL_steps_165 rfl ?_
            refine cq_iadd F dL_steps_166 ?_
            rw [show (nI (g_134 ((5 * i + 1))) + 0 : Int32) = nI ((g_134 ((5 * i + 1))) + 0) from nI_add _ _]
            refine cq_iast_j F (j := (5 * i + 1)) hc.1 hc.2 rfl ⟨(by omega), by decide⟩ dL_steps_167 (fun M_167 h_167 => ?_)
            have v_167_ta := v_134_ta.ne h_167 (by omega)
            obtain ⟨g_167, eg_167⟩ : ∃ z, z = ns_up g_134 ((5 * i + 1)) (((g_134 ((5 * i + 1))) + 0)) := ⟨_, rfl⟩
            have v_167_ca : cq_nv M_167 ca 20 g_167 := by rw [eg_167]; exact v_134_ca.up h_167
            have v_167_ra := v_134_ra.ne h_167 (by omega)
            have v_167_na := v_134_na.ne h_167 (by omega)
            have v_167_ba := v_134_ba.ne h_167 (by omega)
            have y0 : g_167 (5 * i) = c2 (5 * i) + c2 (5 * i + 2) := by rw [eg_167, ns_up_n (by omega)]; exact x0
            have yd : ∀ k, k ≠ 5 * i → k ≠ 5 * i + 1 → g_167 k = c2 k := fun k k1 k2 => by rw [eg_167, ns_up_n k2, eg_134, ns_up_n k1]
            have x3 : g_134 (5 * i + 3) = c2 (5 * i + 3) := by rw [eg_134, ns_up_n (by omega)]
            have c_151b := c_151
            rw [x0, x1, hT] at c_151b
            have y1 : g_167 (5 * i + 1) = c2 (5 * i + 1) + (if 0 < ns_time (ns_bA (ns_s4 g) i) i - (c2 (5 * i) + c2 (5 * i + 2)) - c2 (5 * i + 1) then c2 (5 * i + 3) else 0) := by
              rw [eg_167, ns_up_s, x1]
              first | (rw [if_pos (by omega), x3]) | (rw [if_neg (by omega)])
            have hbA := h2.burnA hA.1 (by rw [e6A]; exact hi9) yd y0 y1
            refine cq_iload F dL_steps_168 rfl ?_
            refine cq_if_eq F (tgt := 210) dL_steps_170 (by decide) (fun c_170 => ?_) (fun c_170 => ?_)
            · have c_170 : 0 = 0 := (nI_b (a := 0) (b := 0) (by omega) (by omega)).2.2.mp c_170
              refine cq_iinc F dL_steps_210 rfl (by decide) (fun x_210 e_210 => ?_)
              obtain rfl : x_210 = nI (i + 1) := by rw [e_210]; exact nI_1 _
              refine cq_goto F (tgt := 82) dL_steps_213 (by decide) ?_
              refine cq_loc (L2 := [(0, .ref ta), (1, .ref ca), (2, .ref ra), (3, .ref na), (4, .ref ba), (6, .int (nI S)), (7, .int (nI (i + 1)))]) rfl ?_
              exact ih_82 (i + 1) S t2 g_167 r2 n2 b2 M_167 (by omega) (by show _ = ns_bS (ns_s4 g) i + (if ns_outs (ns_bA (ns_s4 g) i) i then 2 ^ i else 0); rw [if_neg (hbA.2.2 (fun z => by have z1 := z.1; have z2 := z.2; rw [← hT] at z2; omega)).2, hS, Nat.add_zero]) ⟨v_167_ta, v_167_ca, v_167_ra, v_167_na, v_167_ba⟩ (hbA.2.2 (fun z => by have z1 := z.1; have z2 := z.2; rw [← hT] at z2; omega)).1 ((hf2.up h_134 (by simp)).up h_167 (by simp)) (by omega)
            · have c_170 : ¬ 0 = 0 := fun z => c_170 ((nI_b (a := 0) (b := 0) (by omega) (by omega)).2.2.mpr z)
              omega
          · have c_151 : ¬ (ns_sum t2 (6 * i) 6 - g_134 (5 * i) - g_134 (5 * i + 1)) ≤ 0 := fun z => c_151 ((nI_b (a := (ns_sum t2 (6 * i) 6 - g_134 (5 * i) - g_134 (5 * i + 1))) (b := 0) (by omega) (by omega)).1.mpr z)
            refine cq_aload_n F (i := 1) dL_steps_154 rfl rfl ?_
            refine cq_iconst F (v := 5) dL_steps_155 rfl ?_
            refine cq_iload F dL_steps_156 rfl ?_
            refine cq_imul F dL_steps_158 ?_
            rw [show (5 * nI i : Int32) = nI (5 * i) from pk_mul _ _]
            refine cq_iconst F (v := 3) dL_steps_159 rfl ?_
            refine cq_iadd F dL_steps_160 ?_
            rw [show (nI (5 * i) + 3 : Int32) = nI (5 * i + 3) from nI_add _ _]
            refine cq_iald_j F (j := (5 * i + 3)) hc.1 hc.2 rfl ⟨(by omega), by decide⟩ dL_steps_161 ?_
            rw [v_134_ca _ (by omega)]
            refine cq_goto F (tgt := 166) dL_steps_162 (by decide) ?_
            refine cq_iadd F dL_steps_166 ?_
            rw [show (nI (g_134 ((5 * i + 1))) + nI (g_134 ((5 * i + 3))) : Int32) = nI ((g_134 ((5 * i + 1))) + (g_134 ((5 * i + 3)))) from nI_add _ _]
            refine cq_iast_j F (j := (5 * i + 1)) hc.1 hc.2 rfl ⟨(by omega), by decide⟩ dL_steps_167 (fun M_167 h_167 => ?_)
            have v_167_ta := v_134_ta.ne h_167 (by omega)
            obtain ⟨g_167, eg_167⟩ : ∃ z, z = ns_up g_134 ((5 * i + 1)) (((g_134 ((5 * i + 1))) + (g_134 ((5 * i + 3))))) := ⟨_, rfl⟩
            have v_167_ca : cq_nv M_167 ca 20 g_167 := by rw [eg_167]; exact v_134_ca.up h_167
            have v_167_ra := v_134_ra.ne h_167 (by omega)
            have v_167_na := v_134_na.ne h_167 (by omega)
            have v_167_ba := v_134_ba.ne h_167 (by omega)
            have y0 : g_167 (5 * i) = c2 (5 * i) + c2 (5 * i + 2) := by rw [eg_167, ns_up_n (by omega)]; exact x0
            have yd : ∀ k, k ≠ 5 * i → k ≠ 5 * i + 1 → g_167 k = c2 k := fun k k1 k2 => by rw [eg_167, ns_up_n k2, eg_134, ns_up_n k1]
            have x3 : g_134 (5 * i + 3) = c2 (5 * i + 3) := by rw [eg_134, ns_up_n (by omega)]
            have c_151b := c_151
            rw [x0, x1, hT] at c_151b
            have y1 : g_167 (5 * i + 1) = c2 (5 * i + 1) + (if 0 < ns_time (ns_bA (ns_s4 g) i) i - (c2 (5 * i) + c2 (5 * i + 2)) - c2 (5 * i + 1) then c2 (5 * i + 3) else 0) := by
              rw [eg_167, ns_up_s, x1]
              first | (rw [if_pos (by omega), x3]) | (rw [if_neg (by omega)])
            have hbA := h2.burnA hA.1 (by rw [e6A]; exact hi9) yd y0 y1
            refine cq_iload F dL_steps_168 rfl ?_
            refine cq_if_eq F (tgt := 210) dL_steps_170 (by decide) (fun c_170 => ?_) (fun c_170 => ?_)
            · have c_170 : 0 = 0 := (nI_b (a := 0) (b := 0) (by omega) (by omega)).2.2.mp c_170
              refine cq_iinc F dL_steps_210 rfl (by decide) (fun x_210 e_210 => ?_)
              obtain rfl : x_210 = nI (i + 1) := by rw [e_210]; exact nI_1 _
              refine cq_goto F (tgt := 82) dL_steps_213 (by decide) ?_
              refine cq_loc (L2 := [(0, .ref ta), (1, .ref ca), (2, .ref ra), (3, .ref na), (4, .ref ba), (6, .int (nI S)), (7, .int (nI (i + 1)))]) rfl ?_
              exact ih_82 (i + 1) S t2 g_167 r2 n2 b2 M_167 (by omega) (by show _ = ns_bS (ns_s4 g) i + (if ns_outs (ns_bA (ns_s4 g) i) i then 2 ^ i else 0); rw [if_neg (hbA.2.2 (fun z => by have z1 := z.1; have z2 := z.2; rw [← hT] at z2; omega)).2, hS, Nat.add_zero]) ⟨v_167_ta, v_167_ca, v_167_ra, v_167_na, v_167_ba⟩ (hbA.2.2 (fun z => by have z1 := z.1; have z2 := z.2; rw [← hT] at z2; omega)).1 ((hf2.up h_134 (by simp)).up h_167 (by simp)) (by omega)
            · have c_170 : ¬ 0 = 0 := fun z => c_170 ((nI_b (a := 0) (b := 0) (by omega) (by omega)).2.2.mpr z)
              omega
        · have c_108 : ¬ ((c2 ((5 * i + 2))) + (c2 ((5 * i + 3)))) ≤ 0 := fun z => c_108 ((nI_b (a := ((c2 ((5 * i + 2))) + (c2 ((5 * i + 3))))) (b := 0) (by omega) (by omega)).1.mpr z)
          refine cq_iconst F (v := 1) dL_steps_111 rfl ?_
          refine cq_goto F (tgt := 116) dL_steps_112 (by decide) ?_
          refine cq_istore F dL_steps_116 (by decide) ?_
          refine cq_aload_n F (i := 1) dL_steps_118 rfl rfl ?_
          refine cq_iconst F (v := 5) dL_steps_119 rfl ?_
          refine cq_iload F dL_steps_120 rfl ?_
          refine cq_imul F dL_steps_122 ?_
          rw [show (5 * nI i : Int32) = nI (5 * i) from pk_mul _ _]
          refine cq_dup2 F dL_steps_123 rfl rfl ?_
          refine cq_iald_j F (j := 5 * i) hc.1 hc.2 rfl ⟨(by omega), by decide⟩ dL_steps_124 ?_
          rw [hm2.2.1 _ (by omega)]
          refine cq_aload_n F (i := 1) dL_steps_125 rfl rfl ?_
          refine cq_iconst F (v := 5) dL_steps_126 rfl ?_
          refine cq_iload F dL_steps_127 rfl ?_
          refine cq_imul F dL_steps_129 ?_
          rw [show (5 * nI i : Int32) = nI (5 * i) from pk_mul _ _]
          refine cq_iconst F (v := 2) dL_steps_130 rfl ?_
          refine cq_iadd F dL_steps_131 ?_
          rw [show (nI (5 * i) + 2 : Int32) = nI (5 * i + 2) from nI_add _ _]
          refine cq_iald_j F (j := (5 * i + 2)) hc.1 hc.2 rfl ⟨(by omega), by decide⟩ dL_steps_132 ?_
          rw [hm2.2.1 _ (by omega)]
          refine cq_iadd F dL_steps_133 ?_
          rw [show (nI (c2 (5 * i)) + nI (c2 ((5 * i + 2))) : Int32) = nI ((c2 (5 * i)) + (c2 ((5 * i + 2)))) from nI_add _ _]
          refine cq_iast_j F (j := 5 * i) hc.1 hc.2 rfl ⟨(by omega), by decide⟩ dL_steps_134 (fun M_134 h_134 => ?_)
          have v_134_ta := hm2.1.ne h_134 (by omega)
          obtain ⟨g_134, eg_134⟩ : ∃ z, z = ns_up c2 (5 * i) (((c2 (5 * i)) + (c2 ((5 * i + 2))))) := ⟨_, rfl⟩
          have v_134_ca : cq_nv M_134 ca 20 g_134 := by rw [eg_134]; exact hm2.2.1.up h_134
          have v_134_ra := hm2.2.2.1.ne h_134 (by omega)
          have v_134_na := hm2.2.2.2.1.ne h_134 (by omega)
          have v_134_ba := hm2.2.2.2.2.ne h_134 (by omega)
          have x0 : g_134 (5 * i) = c2 (5 * i) + c2 (5 * i + 2) := by rw [eg_134, ns_up_s]
          have x1 : g_134 (5 * i + 1) = c2 (5 * i + 1) := by rw [eg_134, ns_up_n (by omega)]
          refine cq_aload_n F (i := 1) dL_steps_135 rfl rfl ?_
          refine cq_iconst F (v := 5) dL_steps_136 rfl ?_
          refine cq_iload F dL_steps_137 rfl ?_
          refine cq_imul F dL_steps_139 ?_
          rw [show (5 * nI i : Int32) = nI (5 * i) from pk_mul _ _]
          refine cq_iconst F (v := 1) dL_steps_140 rfl ?_
          refine cq_iadd F dL_steps_141 ?_
          rw [show (nI (5 * i) + 1 : Int32) = nI (5 * i + 1) from nI_add _ _]
          refine cq_dup2 F dL_steps_142 rfl rfl ?_
          refine cq_iald_j F (j := (5 * i + 1)) hc.1 hc.2 rfl ⟨(by omega), by decide⟩ dL_steps_143 ?_
          rw [v_134_ca _ (by omega)]
          refine cq_aload_n F (i := 0) dL_steps_144 rfl rfl ?_
          refine cq_aload_n F (i := 1) dL_steps_145 rfl rfl ?_
          refine cq_iload F dL_steps_146 rfl ?_
          refine cq_callS F (kL_left l D cA X Bs ta ca i t2 g_134 M_134 ht hc v_134_ta v_134_ca (by omega) (by rw [hT, x0, x1]; omega)) (va_cwS 3 F.1.2.2.2.2 gL_steps_L_left rfl rfl rfl hdVL_left.2 ⟨Nat.le_of_ble_eq_true rfl, Nat.le_of_ble_eq_true rfl⟩) rfl (Nat.le_of_ble_eq_true rfl) dL_steps_148 ⟨Nat.le_of_ble_eq_true rfl, Nat.le_of_ble_eq_true rfl⟩ (cq_kIp fun r_148 h_148 => ?_)
          subst h_148
          refine cq_if_le F (tgt := 165) dL_steps_151 (by decide) (fun c_151 => ?_) (fun c_151 => ?_)
          · have c_151 : (ns_sum t2 (6 * i) 6 - g_134 (5 * i) - g_134 (5 * i + 1)) ≤ 0 := (nI_b (a := (ns_sum t2 (6 * i) 6 - g_134 (5 * i) - g_134 (5 * i + 1))) (b := 0) (by omega) (by omega)).1.mp c_151
            refine cq_iconst F (v := 0) dL_steps_165 rfl ?_
            refine cq_iadd F dL_steps_166 ?_
            rw [show (nI (g_134 ((5 * i + 1))) + 0 : Int32) = nI ((g_134 ((5 * i + 1))) + 0) from nI_add _ _]
            refine cq_iast_j F (j := (5 * i + 1)) hc.1 hc.2 rfl ⟨(by omega), by decide⟩ dL_steps_167 (fun M_167 h_167 => ?_)
            have v_167_ta := v_134_ta.ne h_167 (by omega)
            obtain ⟨g_167, eg_167⟩ : ∃ z, z = ns_up g_134 ((5 * i + 1)) (((g_134 ((5 * i + 1))) + 0)) := ⟨_, rfl⟩
            have v_167_ca : cq_nv M_167 ca 20 g_167 := by rw [eg_167]; exact v_134_ca.up h_167
            have v_167_ra := v_134_ra.ne h_167 (by omega)
            have v_167_na := v_134_na.ne h_167 (by omega)
            have v_167_ba := v_134_ba.ne h_167 (by omega)
            have y0 : g_167 (5 * i) = c2 (5 * i) + c2 (5 * i + 2) := by rw [eg_167, ns_up_n (by omega)]; exact x0
            have yd : ∀ k, k ≠ 5 * i → k ≠ 5 * i + 1 → g_167 k = c2 k := fun k k1 k2 => by rw [eg_167, ns_up_n k2, eg_134, ns_up_n k1]
            have x3 : g_134 (5 * i + 3) = c2 (5 * i + 3) := by rw [eg_134, ns_up_n (by omega)]
            have c_151b := c_151
            rw [x0, x1, hT] at c_151b
            have y1 : g_167 (5 * i + 1) = c2 (5 * i + 1) + (if 0 < ns_time (ns_bA (ns_s4 g) i) i - (c2 (5 * i) + c2 (5 * i + 2)) - c2 (5 * i + 1) then c2 (5 * i + 3) else 0) := by
              rw [eg_167, ns_up_s, x1]
              first | (rw [if_pos (by omega), x3]) | (rw [if_neg (by omega)])
            have hbA := h2.burnA hA.1 (by rw [e6A]; exact hi9) yd y0 y1
            refine cq_iload F dL_steps_168 rfl ?_
            refine cq_if_eq F (tgt := 210) dL_steps_170 (by decide) (fun c_170 => ?_) (fun c_170 => ?_)
            · have c_170 : 1 = 0 := (nI_b (a := 1) (b := 0) (by omega) (by omega)).2.2.mp c_170
              omega
            · have c_170 : ¬ 1 = 0 := fun z => c_170 ((nI_b (a := 1) (b := 0) (by omega) (by omega)).2.2.mpr z)
              refine cq_aload_n F (i := 0) dL_steps_173 rfl rfl ?_
              refine cq_aload_n F (i := 1) dL_steps_174 rfl rfl ?_
              refine cq_iload F dL_steps_175 rfl ?_
              refine cq_callS F (kL_left l D cA X Bs ta ca i t2 g_167 M_167 ht hc v_167_ta v_167_ca (by omega) (by rw [hT]; exact hbA.1)) (va_cwS 3 F.1.2.2.2.2 gL_steps_L_left rfl rfl rfl hdVL_left.2 ⟨Nat.le_of_ble_eq_true rfl, Nat.le_of_ble_eq_true rfl⟩) rfl (Nat.le_of_ble_eq_true rfl) dL_steps_177 ⟨Nat.le_of_ble_eq_true rfl, Nat.le_of_ble_eq_true rfl⟩ (cq_kIp fun r_177 h_177 => ?_)
              subst h_177
              refine cq_if_ne F (tgt := 210) dL_steps_180 (by decide) (fun c_180 => ?_) (fun c_180 => ?_)
              · have c_180 : ¬ (ns_sum t2 (6 * i) 6 - g_167 (5 * i) - g_167 (5 * i + 1)) = 0 := fun z => c_180 ((nI_b (a := (ns_sum t2 (6 * i) 6 - g_167 (5 * i) - g_167 (5 * i + 1))) (b := 0) (by omega) (by omega)).2.2.mpr z)
                refine cq_iinc F dL_steps_210 rfl (by decide) (fun x_210 e_210 => ?_)
                obtain rfl : x_210 = nI (i + 1) := by rw [e_210]; exact nI_1 _
                refine cq_goto F (tgt := 82) dL_steps_213 (by decide) ?_
                refine cq_loc (L2 := [(0, .ref ta), (1, .ref ca), (2, .ref ra), (3, .ref na), (4, .ref ba), (6, .int (nI S)), (7, .int (nI (i + 1)))]) rfl ?_
                exact ih_82 (i + 1) S t2 g_167 r2 n2 b2 M_167 (by omega) (by show _ = ns_bS (ns_s4 g) i + (if ns_outs (ns_bA (ns_s4 g) i) i then 2 ^ i else 0); rw [if_neg (hbA.2.2 (fun z => by have z1 := z.1; have z2 := z.2; rw [← hT] at z2; omega)).2, hS, Nat.add_zero]) ⟨v_167_ta, v_167_ca, v_167_ra, v_167_na, v_167_ba⟩ (hbA.2.2 (fun z => by have z1 := z.1; have z2 := z.2; rw [← hT] at z2; omega)).1 ((hf2.up h_134 (by simp)).up h_167 (by simp)) (by omega)
              · have c_180 : (ns_sum t2 (6 * i) 6 - g_167 (5 * i) - g_167 (5 * i + 1)) = 0 := (nI_b (a := (ns_sum t2 (6 * i) 6 - g_167 (5 * i) - g_167 (5 * i + 1))) (b := 0) (by omega) (by omega)).2.2.mp c_180
                refine cq_aload_n F (i := 1) dL_steps_183 rfl rfl ?_
                refine cq_iconst F (v := 5) dL_steps_184 rfl ?_
                refine cq_iload F dL_steps_185 rfl ?_
                refine cq_imul F dL_steps_187 ?_
                rw [show (5 * nI i : Int32) = nI (5 * i) from pk_mul _ _]
                refine cq_iconst F (v := 2) dL_steps_188 rfl ?_
                refine cq_iadd F dL_steps_189 ?_
                rw [show (nI (5 * i) + 2 : Int32) = nI (5 * i + 2) from nI_add _ _]
                refine cq_iconst F (v := 0) dL_steps_190 rfl ?_
                refine cq_iast_j F (j := (5 * i + 2)) hc.1 hc.2 rfl ⟨(by omega), by decide⟩ dL_steps_191 (fun M_191 h_191 => ?_)
                have v_191_ta := v_167_ta.ne h_191 (by omega)
                obtain ⟨g_191, eg_191⟩ : ∃ z, z = ns_up g_167 ((5 * i + 2)) (0) := ⟨_, rfl⟩
                have v_191_ca : cq_nv M_191 ca 20 g_191 := by rw [eg_191]; exact v_167_ca.up h_191
                have v_191_ra := v_167_ra.ne h_191 (by omega)
                have v_191_na := v_167_na.ne h_191 (by omega)
                have v_191_ba := v_167_ba.ne h_191 (by omega)
                refine cq_aload_n F (i := 1) dL_steps_192 rfl rfl ?_
                refine cq_iconst F (v := 5) dL_steps_193 rfl ?_
                refine cq_iload F dL_steps_194 rfl ?_
                refine cq_imul F dL_steps_196 ?_
                rw [show (5 * nI i : Int32) = nI (5 * i) from pk_mul _ _]
                refine cq_iconst F (v := 3) dL_steps_197 rfl ?_
                refine cq_iadd F dL_steps_198 ?_
                rw [show (nI (5 * i) + 3 : Int32) = nI (5 * i + 3) from nI_add _ _]
                refine cq_iconst F (v := 0) dL_steps_199 rfl ?_
                refine cq_iast_j F (j := (5 * i + 3)) hc.1 hc.2 rfl ⟨(by omega), by decide⟩ dL_steps_200 (fun M_200 h_200 => ?_)
                have v_200_ta := v_191_ta.ne h_200 (by omega)
                obtain ⟨g_200, eg_200⟩ : ∃ z, z = ns_up g_191 ((5 * i + 3)) (0) := ⟨_, rfl⟩
                have v_200_ca : cq_nv M_200 ca 20 g_200 := by rw [eg_200]; exact v_191_ca.up h_200
                have v_200_ra := v_191_ra.ne h_200 (by omega)
                have v_200_na := v_191_na.ne h_200 (by omega)
                have v_200_ba := v_191_ba.ne h_200 (by omega)
                refine cq_iload F dL_steps_201 rfl ?_
                refine cq_iconst F (v := 1) dL_steps_203 rfl ?_
                refine cq_iload F dL_steps_204 rfl ?_
                refine cq_ishl F dL_steps_206 ?_
                refine cq_ior F dL_steps_207 ?_
                rw [(nI_set i (by omega) S (by omega)).1 hS9]
                refine cq_istore F dL_steps_208 (by decide) ?_
                refine cq_iinc F dL_steps_210 rfl (by decide) (fun x_210 e_210 => ?_)
                obtain rfl : x_210 = nI (i + 1) := by rw [e_210]; exact nI_1 _
                refine cq_goto F (tgt := 82) dL_steps_213 (by decide) ?_
                refine cq_loc (L2 := [(0, .ref ta), (1, .ref ca), (2, .ref ra), (3, .ref na), (4, .ref ba), (6, .int (nI (S + 2 ^ i))), (7, .int (nI (i + 1)))]) rfl ?_
                exact ih_82 (i + 1) (S + 2 ^ i) t2 g_200 r2 n2 b2 M_200 (by omega) (by show _ = ns_bS (ns_s4 g) i + (if ns_outs (ns_bA (ns_s4 g) i) i then 2 ^ i else 0); rw [if_pos (hbA.2.1 (by omega) (by rw [← hT]; omega)).2, hS]) ⟨v_200_ta, v_200_ca, v_200_ra, v_200_na, v_200_ba⟩ (by rw [eg_200, eg_191]; exact (hbA.2.1 (by omega) (by rw [← hT]; omega)).1) ((((hf2.up h_134 (by simp)).up h_167 (by simp)).up h_191 (by simp)).up h_200 (by simp)) (by omega)
          · have c_151 : ¬ (ns_sum t2 (6 * i) 6 - g_134 (5 * i) - g_134 (5 * i + 1)) ≤ 0 := fun z => c_151 ((nI_b (a := (ns_sum t2 (6 * i) 6 - g_134 (5 * i) - g_134 (5 * i + 1))) (b := 0) (by omega) (by omega)).1.mpr z)
            refine cq_aload_n F (i := 1) dL_steps_154 rfl rfl ?_
            refine cq_iconst F (v := 5) dL_steps_155 rfl ?_
            refine cq_iload F dL_steps_156 rfl ?_
            refine cq_imul F dL_steps_158 ?_
            rw [show (5 * nI i : Int32) = nI (5 * i) from pk_mul _ _]
            refine cq_iconst F (v := 3) dL_steps_159 rfl ?_
            refine cq_iadd F dL_steps_160 ?_
            rw [show (nI (5 * i) + 3 : Int32) = nI (5 * i + 3) from nI_add _ _]
            refine cq_iald_j F (j := (5 * i + 3)) hc.1 hc.2 rfl ⟨(by omega), by decide⟩ dL_steps_161 ?_
            rw [v_134_ca _ (by omega)]
            refine cq_goto F (tgt := 166) dL_steps_162 (by decide) ?_
            refine cq_iadd F dL_steps_166 ?_
            rw [show (nI (g_134 ((5 * i + 1))) + nI (g_134 ((5 * i + 3))) : Int32) = nI ((g_134 ((5 * i + 1))) + (g_134 ((5 * i + 3)))) from nI_add _ _]
            refine cq_iast_j F (j := (5 * i + 1)) hc.1 hc.2 rfl ⟨(by omega), by decide⟩ dL_steps_167 (fun M_167 h_167 => ?_)
            have v_167_ta := v_134_ta.ne h_167 (by omega)
            obtain ⟨g_167, eg_167⟩ : ∃ z, z = ns_up g_134 ((5 * i + 1)) (((g_134 ((5 * i + 1))) + (g_134 ((5 * i + 3))))) := ⟨_, rfl⟩
            have v_167_ca : cq_nv M_167 ca 20 g_167 := by rw [eg_167]; exact v_134_ca.up h_167
            have v_167_ra := v_134_ra.ne h_167 (by omega)
            have v_167_na := v_134_na.ne h_167 (by omega)
            have v_167_ba := v_134_ba.ne h_167 (by omega)
            have y0 : g_167 (5 * i) = c2 (5 * i) + c2 (5 * i + 2) := by rw [eg_167, ns_up_n (by omega)]; exact x0
            have yd : ∀ k, k ≠ 5 * i → k ≠ 5 * i + 1 → g_167 k = c2 k := fun k k1 k2 => by rw [eg_167, ns_up_n k2, eg_134, ns_up_n k1]
            have x3 : g_134 (5 * i + 3) = c2 (5 * i + 3) := by rw [eg_134, ns_up_n (by omega)]
            have c_151b := c_151
            rw [x0, x1, hT] at c_151b
            have y1 : g_167 (5 * i + 1) = c2 (5 * i + 1) + (if 0 < ns_time (ns_bA (ns_s4 g) i) i - (c2 (5 * i) + c2 (5 * i + 2)) - c2 (5 * i + 1) then c2 (5 * i + 3) else 0) := by
              rw [eg_167, ns_up_s, x1]
              first | (rw [if_pos (by omega), x3]) | (rw [if_neg (by omega)])
            have hbA := h2.burnA hA.1 (by rw [e6A]; exact hi9) yd y0 y1
            refine cq_iload F dL_steps_168 rfl ?_
            refine cq_if_eq F (tgt := 210) dL_steps_170 (by decide) (fun c_170 => ?_) (fun c_170 => ?_)
            · have c_170 : 1 = 0 := (nI_b (a := 1) (b := 0) (by omega) (by omega)).2.2.mp c_170
              omega
            · have c_170 : ¬ 1 = 0 := fun z => c_170 ((nI_b (a := 1) (b := 0) (by omega) (by omega)).2.2.mpr z)
              refine cq_aload_n F (i := 0) dL_steps_173 rfl rfl ?_
              refine cq_aload_n F (i := 1) dL_steps_174 rfl rfl ?_
              refine cq_iload F dL_steps_175 rfl ?_
              refine cq_callS F (kL_left l D cA X Bs ta ca i t2 g_167 M_167 ht hc v_167_ta v_167_ca (by omega) (by rw [hT]; exact hbA.1)) (va_cwS 3 F.1.2.2.2.2 gL_steps_L_left rfl rfl rfl hdVL_left.2 ⟨Nat.le_of_ble_eq_true rfl, Nat.le_of_ble_eq_true rfl⟩) rfl (Nat.le_of_ble_eq_true rfl) dL_steps_177 ⟨Nat.le_of_ble_eq_true rfl, Nat.le_of_ble_eq_true rfl⟩ (cq_kIp fun r_177 h_177 => ?_)
              subst h_177
              refine cq_if_ne F (tgt := 210) dL_steps_180 (by decide) (fun c_180 => ?_) (fun c_180 => ?_)
              · have c_180 : ¬ (ns_sum t2 (6 * i) 6 - g_167 (5 * i) - g_167 (5 * i + 1)) = 0 := fun z => c_180 ((nI_b (a := (ns_sum t2 (6 * i) 6 - g_167 (5 * i) - g_167 (5 * i + 1))) (b := 0) (by omega) (by omega)).2.2.mpr z)
                refine cq_iinc F dL_steps_210 rfl (by decide) (fun x_210 e_210 => ?_)
                obtain rfl : x_210 = nI (i + 1) := by rw [e_210]; exact nI_1 _
                refine cq_goto F (tgt := 82) dL_steps_213 (by decide) ?_
                refine cq_loc (L2 := [(0, .ref ta), (1, .ref ca), (2, .ref ra), (3, .ref na), (4, .ref ba), (6, .int (nI S)), (7, .int (nI (i + 1)))]) rfl ?_
                exact ih_82 (i + 1) S t2 g_167 r2 n2 b2 M_167 (by omega) (by show _ = ns_bS (ns_s4 g) i + (if ns_outs (ns_bA (ns_s4 g) i) i then 2 ^ i else 0); rw [if_neg (hbA.2.2 (fun z => by have z1 := z.1; have z2 := z.2; rw [← hT] at z2; omega)).2, hS, Nat.add_zero]) ⟨v_167_ta, v_167_ca, v_167_ra, v_167_na, v_167_ba⟩ (hbA.2.2 (fun z => by have z1 := z.1; have z2 := z.2; rw [← hT] at z2; omega)).1 ((hf2.up h_134 (by simp)).up h_167 (by simp)) (by omega)
              · have c_180 : (ns_sum t2 (6 * i) 6 - g_167 (5 * i) - g_167 (5 * i + 1)) = 0 := (nI_b (a := (ns_sum t2 (6 * i) 6 - g_167 (5 * i) - g_167 (5 * i + 1))) (b := 0) (by omega) (by omega)).2.2.mp c_180
                refine cq_aload_n F (i := 1) dL_steps_183 rfl rfl ?_
                refine cq_iconst F (v := 5) dL_steps_184 rfl ?_
                refine cq_iload F dL_steps_185 rfl ?_
                refine cq_imul F dL_steps_187 ?_
                rw [show (5 * nI i : Int32) = nI (5 * i) from pk_mul _ _]
                refine cq_iconst F (v := 2) dL_steps_188 rfl ?_
                refine cq_iadd F dL_steps_189 ?_
                rw [show (nI (5 * i) + 2 : Int32) = nI (5 * i + 2) from nI_add _ _]
                refine cq_iconst F (v := 0) dL_steps_190 rfl ?_
                refine cq_iast_j F (j := (5 * i + 2)) hc.1 hc.2 rfl ⟨(by omega), by decide⟩ dL_steps_191 (fun M_191 h_191 => ?_)
                have v_191_ta := v_167_ta.ne h_191 (by omega)
                obtain ⟨g_191, eg_191⟩ : ∃ z, z = ns_up g_167 ((5 * i + 2)) (0) := ⟨_, rfl⟩
                have v_191_ca : cq_nv M_191 ca 20 g_191 := by rw [eg_191]; exact v_167_ca.up h_191
                have v_191_ra := v_167_ra.ne h_191 (by omega)
                have v_191_na := v_167_na.ne h_191 (by omega)
                have v_191_ba := v_167_ba.ne h_191 (by omega)
                refine cq_aload_n F (i := 1) dL_steps_192 rfl rfl ?_
                refine cq_iconst F (v := 5) dL_steps_193 rfl ?_
                refine cq_iload F dL_steps_194 rfl ?_
                refine cq_imul F dL_steps_196 ?_
                rw [show (5 * nI i : Int32) = nI (5 * i) from pk_mul _ _]
                refine cq_iconst F (v := 3) dL_steps_197 rfl ?_
                refine cq_iadd F dL_steps_198 ?_
                rw [show (nI (5 * i) + 3 : Int32) = nI (5 * i + 3) from nI_add _ _]
                refine cq_iconst F (v := 0) dL_steps_199 rfl ?_
                refine cq_iast_j F (j := (5 * i + 3)) hc.1 hc.2 rfl ⟨(by omega), by decide⟩ dL_steps_200 (fun M_200 h_200 => ?_)
                have v_200_ta := v_191_ta.ne h_200 (by omega)
                obtain ⟨g_200, eg_200⟩ : ∃ z, z = ns_up g_191 ((5 * i + 3)) (0) := ⟨_, rfl⟩
                have v_200_ca : cq_nv M_200 ca 20 g_200 := by rw [eg_200]; exact v_191_ca.up h_200
                have v_200_ra := v_191_ra.ne h_200 (by omega)
                have v_200_na := v_191_na.ne h_200 (by omega)
                have v_200_ba := v_191_ba.ne h_200 (by omega)
                refine cq_iload F dL_steps_201 rfl ?_
                refine cq_iconst F (v := 1) dL_steps_203 rfl ?_
                refine cq_iload F dL_steps_204 rfl ?_
                refine cq_ishl F dL_steps_206 ?_
                refine cq_ior F dL_steps_207 ?_
                rw [(nI_set i (by omega) S (by omega)).1 hS9]
                refine cq_istore F dL_steps_208 (by decide) ?_
                refine cq_iinc F dL_steps_210 rfl (by decide) (fun x_210 e_210 => ?_)
                obtain rfl : x_210 = nI (i + 1) := by rw [e_210]; exact nI_1 _
                refine cq_goto F (tgt := 82) dL_steps_213 (by decide) ?_
                refine cq_loc (L2 := [(0, .ref ta), (1, .ref ca), (2, .ref ra), (3, .ref na), (4, .ref ba), (6, .int (nI (S + 2 ^ i))), (7, .int (nI (i + 1)))]) rfl ?_
                exact ih_82 (i + 1) (S + 2 ^ i) t2 g_200 r2 n2 b2 M_200 (by omega) (by show _ = ns_bS (ns_s4 g) i + (if ns_outs (ns_bA (ns_s4 g) i) i then 2 ^ i else 0); rw [if_pos (hbA.2.1 (by omega) (by rw [← hT]; omega)).2, hS]) ⟨v_200_ta, v_200_ca, v_200_ra, v_200_na, v_200_ba⟩ (by rw [eg_200, eg_191]; exact (hbA.2.1 (by omega) (by rw [← hT]; omega)).1) ((((hf2.up h_134 (by simp)).up h_167 (by simp)).up h_191 (by simp)).up h_200 (by simp)) (by omega)
  refine cq_aload_n F (i := 1) dL_steps_0 rfl rfl ?_
  refine cq_aload_n F (i := 3) dL_steps_1 rfl rfl ?_
  refine cq_callS F (kL_flames l D cA X Bs ca na (g 1) B t c r n b g M hc hn0 hm.2.1 hm.2.2.2.1 h hk) (va_cwS 2 F.1.2.2.2.2 gL_steps_L_flames rfl rfl rfl hdVL_flames.2 ⟨Nat.le_of_ble_eq_true rfl, Nat.le_of_ble_eq_true rfl⟩) rfl (Nat.le_of_ble_eq_true rfl) dL_steps_2 ⟨Nat.le_of_ble_eq_true rfl, Nat.le_of_ble_eq_true rfl⟩ (cq_kIp fun r_2 h_2 => ?_)
  subst h_2
  refine cq_if_le F (tgt := 12) dL_steps_5 (by decide) (fun c_5 => ?_) (fun c_5 => ?_)
  · have c_5 : (ns_flames g (g 6)) ≤ 0 := (nI_b (a := (ns_flames g (g 6))) (b := 0) (by omega) (by omega)).1.mp c_5
    refine cq_iconst F (v := 0) dL_steps_12 rfl ?_
    refine cq_istore F dL_steps_13 (by decide) ?_
    refine cq_aload_n F (i := 3) dL_steps_15 rfl rfl ?_
    refine cq_iconst F (v := 3) dL_steps_16 rfl ?_
    refine cq_dup2 F dL_steps_17 rfl rfl ?_
    refine cq_iald_j F (j := 3) hn0.1 hn0.2 rfl ⟨(by omega), by decide⟩ dL_steps_18 ?_
    rw [hm.2.2.2.1 _ (by omega)]
    refine cq_iload F dL_steps_19 rfl ?_
    refine cq_if_eq F (tgt := 28) dL_steps_21 (by decide) (fun c_21 => ?_) (fun c_21 => ?_)
    · have c_21 : 0 = 0 := (nI_b (a := 0) (b := 0) (by omega) (by omega)).2.2.mp c_21
      refine cq_iconst F (v := 0) dL_steps_28 rfl ?_
      refine cq_iadd F dL_steps_29 ?_
      rw [show (nI (n (3)) + 0 : Int32) = nI ((n (3)) + 0) from nI_add _ _]
      refine cq_iast_j F (j := 3) hn0.1 hn0.2 rfl ⟨(by omega), by decide⟩ dL_steps_30 (fun M_30 h_30 => ?_)
      have v_30_ta := hm.1.ne h_30 (by omega)
      have v_30_ca := hm.2.1.ne h_30 (by omega)
      have v_30_ra := hm.2.2.1.ne h_30 (by omega)
      obtain ⟨g_30, eg_30⟩ : ∃ z, z = ns_up n (3) (((n (3)) + 0)) := ⟨_, rfl⟩
      have v_30_na : cq_nv M_30 na 9 g_30 := by rw [eg_30]; exact hm.2.2.2.1.up h_30
      have v_30_ba := hm.2.2.2.2.ne h_30 (by omega)
      refine cq_aload_n F (i := 3) dL_steps_31 rfl rfl ?_
      refine cq_iconst F (v := 4) dL_steps_32 rfl ?_
      refine cq_iload F dL_steps_33 rfl ?_
      refine cq_if_eq F (tgt := 42) dL_steps_35 (by decide) (fun c_35 => ?_) (fun c_35 => ?_)
      · have c_35 : 0 = 0 := (nI_b (a := 0) (b := 0) (by omega) (by omega)).2.2.mp c_35
        refine cq_aload_n F (i := 3) dL_steps_42 rfl rfl ?_
        refine cq_iconst F (v := 4) dL_steps_43 rfl ?_
        refine cq_iald_j F (j := 4) hn0.1 hn0.2 rfl ⟨(by omega), by decide⟩ dL_steps_44 ?_
        rw [v_30_na _ (by omega)]
        refine cq_iconst F (v := 1) dL_steps_45 rfl ?_
        refine cq_iadd F dL_steps_46 ?_
        rw [show (nI (g_30 (4)) + 1 : Int32) = nI ((g_30 (4)) + 1) from nI_add _ _]
        refine cq_iast_j F (j := 4) hn0.1 hn0.2 rfl ⟨(by omega), by decide⟩ dL_steps_47 (fun M_47 h_47 => ?_)
        have v_47_ta := v_30_ta.ne h_47 (by omega)
        have v_47_ca := v_30_ca.ne h_47 (by omega)
        have v_47_ra := v_30_ra.ne h_47 (by omega)
        obtain ⟨g_47, eg_47⟩ : ∃ z, z = ns_up g_30 (4) (((g_30 (4)) + 1)) := ⟨_, rfl⟩
        have v_47_na : cq_nv M_47 na 9 g_47 := by rw [eg_47]; exact v_30_na.up h_47
        have v_47_ba := v_30_ba.ne h_47 (by omega)
        have z47 : g_47 4 = n 4 + 1 := by rw [eg_47, ns_up_s, eg_30, ns_up_n (by omega)]
        have z5 : g_47 5 = n 5 := by rw [eg_47, ns_up_n (by omega), eg_30, ns_up_n (by omega)]
        refine cq_aload_n F (i := 3) dL_steps_48 rfl rfl ?_
        refine cq_iconst F (v := 5) dL_steps_49 rfl ?_
        refine cq_aload_n F (i := 3) dL_steps_50 rfl rfl ?_
        refine cq_iconst F (v := 5) dL_steps_51 rfl ?_
        refine cq_iald_j F (j := 5) hn0.1 hn0.2 rfl ⟨(by omega), by decide⟩ dL_steps_52 ?_
        rw [v_47_na _ (by omega)]
        refine cq_aload_n F (i := 3) dL_steps_53 rfl rfl ?_
        refine cq_iconst F (v := 4) dL_steps_54 rfl ?_
        refine cq_iald_j F (j := 4) hn0.1 hn0.2 rfl ⟨(by omega), by decide⟩ dL_steps_55 ?_
        rw [v_47_na _ (by omega)]
        refine cq_icmp_le F (tgt := 65) dL_steps_56 (by decide) (fun c_56 => ?_) (fun c_56 => ?_)
        · have c_56 : (g_47 (5)) ≤ (g_47 (4)) := (nI_b (a := (g_47 (5))) (b := (g_47 (4))) (by omega) (by omega)).1.mp c_56
          have z56 := z47
          refine cq_aload_n F (i := 3) dL_steps_65 rfl rfl ?_
          refine cq_iconst F (v := 4) dL_steps_66 rfl ?_
          refine cq_iald_j F (j := 4) hn0.1 hn0.2 rfl ⟨(by omega), by decide⟩ dL_steps_67 ?_
          rw [v_47_na _ (by omega)]
          refine cq_iast_j F (j := 5) hn0.1 hn0.2 rfl ⟨(by omega), by decide⟩ dL_steps_68 (fun M_68 h_68 => ?_)
          have v_68_ta := v_47_ta.ne h_68 (by omega)
          have v_68_ca := v_47_ca.ne h_68 (by omega)
          have v_68_ra := v_47_ra.ne h_68 (by omega)
          obtain ⟨g_68, eg_68⟩ : ∃ z, z = ns_up g_47 (5) ((g_47 (4))) := ⟨_, rfl⟩
          have v_68_na : cq_nv M_68 na 9 g_68 := by rw [eg_68]; exact v_47_na.up h_68
          have v_68_ba := v_47_ba.ne h_68 (by omega)
          refine cq_aload_n F (i := 3) dL_steps_69 rfl rfl ?_
          refine cq_iconst F (v := 0) dL_steps_70 rfl ?_
          refine cq_dup2 F dL_steps_71 rfl rfl ?_
          refine cq_iald_j F (j := 0) hn0.1 hn0.2 rfl ⟨(by omega), by decide⟩ dL_steps_72 ?_
          rw [v_68_na _ (by omega)]
          refine cq_iconst F (v := 1) dL_steps_73 rfl ?_
          refine cq_iadd F dL_steps_74 ?_
          rw [show (nI (g_68 (0)) + 1 : Int32) = nI ((g_68 (0)) + 1) from nI_add _ _]
          refine cq_iast_j F (j := 0) hn0.1 hn0.2 rfl ⟨(by omega), by decide⟩ dL_steps_75 (fun M_75 h_75 => ?_)
          have v_75_ta := v_68_ta.ne h_75 (by omega)
          have v_75_ca := v_68_ca.ne h_75 (by omega)
          have v_75_ra := v_68_ra.ne h_75 (by omega)
          obtain ⟨g_75, eg_75⟩ : ∃ z, z = ns_up g_68 (0) (((g_68 (0)) + 1)) := ⟨_, rfl⟩
          have v_75_na : cq_nv M_75 na 9 g_75 := by rw [eg_75]; exact v_68_na.up h_75
          have v_75_ba := v_68_ba.ne h_75 (by omega)
          have z4 : g_75 4 = n 4 + 1 := by rw [eg_75, ns_up_n (by omega), eg_68, ns_up_n (by omega)]; exact z47
          refine cq_iconst F (v := 0) dL_steps_76 rfl ?_
          refine cq_istore F dL_steps_77 (by decide) ?_
          refine cq_iconst F (v := 0) dL_steps_79 rfl ?_
          refine cq_istore F dL_steps_80 (by decide) ?_
          refine cq_loc (L2 := [(0, .ref ta), (1, .ref ca), (2, .ref ra), (3, .ref na), (4, .ref ba), (6, .int (nI 0)), (7, .int (nI 0))]) rfl ?_
          exact loop_82 (g 6 + 1) 0 0 t c r g_75 b M_75 (by omega) rfl ⟨v_75_ta, v_75_ca, v_75_ra, v_75_na, v_75_ba⟩ (h.s4 hk rfl (by rw [eg_75, ns_up_s, eg_68, ns_up_n (by omega), eg_47, ns_up_n (by omega), eg_30, ns_up_n (by omega)]) (by rw [eg_75, ns_up_n (by omega), eg_68, ns_up_n (by omega), eg_47, ns_up_n (by omega), eg_30, ns_up_n (by omega)]) (by rw [eg_75, ns_up_n (by omega), eg_68, ns_up_n (by omega), eg_47, ns_up_n (by omega), eg_30, ns_up_n (by omega)]) (by rw [eg_75, ns_up_n (by omega), eg_68, ns_up_n (by omega), eg_47, ns_up_n (by omega), eg_30, ns_up_s]; split <;> omega) (by rw [z4]; first | exact (if_pos (by omega)).symm | exact (if_neg (by omega)).symm) (show g_75 5 = if g_75 4 < n 5 then n 5 else g_75 4 by rw [z4, show g_75 5 = g_68 5 by rw [eg_75, ns_up_n (by omega)], eg_68, ns_up_s]; split <;> omega) (by rw [eg_75, ns_up_n (by omega), eg_68, ns_up_n (by omega), eg_47, ns_up_n (by omega), eg_30, ns_up_n (by omega)]) (by rw [eg_75, ns_up_n (by omega), eg_68, ns_up_n (by omega), eg_47, ns_up_n (by omega), eg_30, ns_up_n (by omega)]) (by rw [eg_75, ns_up_n (by omega), eg_68, ns_up_n (by omega), eg_47, ns_up_n (by omega), eg_30, ns_up_n (by omega)])) ((((lf.rf.up h_30 (by simp)).up h_47 (by simp)).up h_68 (by simp)).up h_75 (by simp)) (by omega)
        · have c_56 : ¬ (g_47 (5)) ≤ (g_47 (4)) := fun z => c_56 ((nI_b (a := (g_47 (5))) (b := (g_47 (4))) (by omega) (by omega)).1.mpr z)
          refine cq_aload_n F (i := 3) dL_steps_59 rfl rfl ?_
          refine cq_iconst F (v := 5) dL_steps_60 rfl ?_
          refine cq_iald_j F (j := 5) hn0.1 hn0.2 rfl ⟨(by omega), by decide⟩ dL_steps_61 ?_
          rw [v_47_na _ (by omega)]
          refine cq_goto F (tgt := 68) dL_steps_62 (by decide) ?_
          refine cq_iast_j F (j := 5) hn0.1 hn0.2 rfl ⟨(by omega), by decide⟩ dL_steps_68 (fun M_68 h_68 => ?_)
          have v_68_ta := v_47_ta.ne h_68 (by omega)
          have v_68_ca := v_47_ca.ne h_68 (by omega)
          have v_68_ra := v_47_ra.ne h_68 (by omega)
          obtain ⟨g_68, eg_68⟩ : ∃ z, z = ns_up g_47 (5) ((g_47 (5))) := ⟨_, rfl⟩
          have v_68_na : cq_nv M_68 na 9 g_68 := by rw [eg_68]; exact v_47_na.up h_68
          have v_68_ba := v_47_ba.ne h_68 (by omega)
          refine cq_aload_n F (i := 3) dL_steps_69 rfl rfl ?_
          refine cq_iconst F (v := 0) dL_steps_70 rfl ?_
          refine cq_dup2 F dL_steps_71 rfl rfl ?_
          refine cq_iald_j F (j := 0) hn0.1 hn0.2 rfl ⟨(by omega), by decide⟩ dL_steps_72 ?_
          rw [v_68_na _ (by omega)]
          refine cq_iconst F (v := 1) dL_steps_73 rfl ?_
          refine cq_iadd F dL_steps_74 ?_
          rw [show (nI (g_68 (0)) + 1 : Int32) = nI ((g_68 (0)) + 1) from nI_add _ _]
          refine cq_iast_j F (j := 0) hn0.1 hn0.2 rfl ⟨(by omega), by decide⟩ dL_steps_75 (fun M_75 h_75 => ?_)
          have v_75_ta := v_68_ta.ne h_75 (by omega)
          have v_75_ca := v_68_ca.ne h_75 (by omega)
          have v_75_ra := v_68_ra.ne h_75 (by omega)
          obtain ⟨g_75, eg_75⟩ : ∃ z, z = ns_up g_68 (0) (((g_68 (0)) + 1)) := ⟨_, rfl⟩
          have v_75_na : cq_nv M_75 na 9 g_75 := by rw [eg_75]; exact v_68_na.up h_75
          have v_75_ba := v_68_ba.ne h_75 (by omega)
          have z4 : g_75 4 = n 4 + 1 := by rw [eg_75, ns_up_n (by omega), eg_68, ns_up_n (by omega)]; exact z47
          refine cq_iconst F (v := 0) dL_steps_76 rfl ?_
          refine cq_istore F dL_steps_77 (by decide) ?_
          refine cq_iconst F (v := 0) dL_steps_79 rfl ?_
          refine cq_istore F dL_steps_80 (by decide) ?_
          refine cq_loc (L2 := [(0, .ref ta), (1, .ref ca), (2, .ref ra), (3, .ref na), (4, .ref ba), (6, .int (nI 0)), (7, .int (nI 0))]) rfl ?_
          exact loop_82 (g 6 + 1) 0 0 t c r g_75 b M_75 (by omega) rfl ⟨v_75_ta, v_75_ca, v_75_ra, v_75_na, v_75_ba⟩ (h.s4 hk rfl (by rw [eg_75, ns_up_s, eg_68, ns_up_n (by omega), eg_47, ns_up_n (by omega), eg_30, ns_up_n (by omega)]) (by rw [eg_75, ns_up_n (by omega), eg_68, ns_up_n (by omega), eg_47, ns_up_n (by omega), eg_30, ns_up_n (by omega)]) (by rw [eg_75, ns_up_n (by omega), eg_68, ns_up_n (by omega), eg_47, ns_up_n (by omega), eg_30, ns_up_n (by omega)]) (by rw [eg_75, ns_up_n (by omega), eg_68, ns_up_n (by omega), eg_47, ns_up_n (by omega), eg_30, ns_up_s]; split <;> omega) (by rw [z4]; first | exact (if_pos (by omega)).symm | exact (if_neg (by omega)).symm) (show g_75 5 = if g_75 4 < n 5 then n 5 else g_75 4 by rw [z4, show g_75 5 = g_68 5 by rw [eg_75, ns_up_n (by omega)], eg_68, ns_up_s]; split <;> omega) (by rw [eg_75, ns_up_n (by omega), eg_68, ns_up_n (by omega), eg_47, ns_up_n (by omega), eg_30, ns_up_n (by omega)]) (by rw [eg_75, ns_up_n (by omega), eg_68, ns_up_n (by omega), eg_47, ns_up_n (by omega), eg_30, ns_up_n (by omega)]) (by rw [eg_75, ns_up_n (by omega), eg_68, ns_up_n (by omega), eg_47, ns_up_n (by omega), eg_30, ns_up_n (by omega)])) ((((lf.rf.up h_30 (by simp)).up h_47 (by simp)).up h_68 (by simp)).up h_75 (by simp)) (by omega)
      · have c_35 : ¬ 0 = 0 := fun z => c_35 ((nI_b (a := 0) (b := 0) (by omega) (by omega)).2.2.mpr z)
        omega
    · have c_21 : ¬ 0 = 0 := fun z => c_21 ((nI_b (a := 0) (b := 0) (by omega) (by omega)).2.2.mpr z)
      omega
  · have c_5 : ¬ (ns_flames g (g 6)) ≤ 0 := fun z => c_5 ((nI_b (a := (ns_flames g (g 6))) (b := 0) (by omega) (by omega)).1.mpr z)
    refine cq_iconst F (v := 1) dL_steps_8 rfl ?_
    refine cq_goto F (tgt := 13) dL_steps_9 (by decide) ?_
    refine cq_istore F dL_steps_13 (by decide) ?_
    refine cq_aload_n F (i := 3) dL_steps_15 rfl rfl ?_
    refine cq_iconst F (v := 3) dL_steps_16 rfl ?_
    refine cq_dup2 F dL_steps_17 rfl rfl ?_
    refine cq_iald_j F (j := 3) hn0.1 hn0.2 rfl ⟨(by omega), by decide⟩ dL_steps_18 ?_
    rw [hm.2.2.2.1 _ (by omega)]
    refine cq_iload F dL_steps_19 rfl ?_
    refine cq_if_eq F (tgt := 28) dL_steps_21 (by decide) (fun c_21 => ?_) (fun c_21 => ?_)
    · have c_21 : 1 = 0 := (nI_b (a := 1) (b := 0) (by omega) (by omega)).2.2.mp c_21
      omega
    · have c_21 : ¬ 1 = 0 := fun z => c_21 ((nI_b (a := 1) (b := 0) (by omega) (by omega)).2.2.mpr z)
      refine cq_iconst F (v := 1) dL_steps_24 rfl ?_
      refine cq_goto F (tgt := 29) dL_steps_25 (by decide) ?_
      refine cq_iadd F dL_steps_29 ?_
      rw [show (nI (n (3)) + 1 : Int32) = nI ((n (3)) + 1) from nI_add _ _]
      refine cq_iast_j F (j := 3) hn0.1 hn0.2 rfl ⟨(by omega), by decide⟩ dL_steps_30 (fun M_30 h_30 => ?_)
      have v_30_ta := hm.1.ne h_30 (by omega)
      have v_30_ca := hm.2.1.ne h_30 (by omega)
      have v_30_ra := hm.2.2.1.ne h_30 (by omega)
      obtain ⟨g_30, eg_30⟩ : ∃ z, z = ns_up n (3) (((n (3)) + 1)) := ⟨_, rfl⟩
      have v_30_na : cq_nv M_30 na 9 g_30 := by rw [eg_30]; exact hm.2.2.2.1.up h_30
      have v_30_ba := hm.2.2.2.2.ne h_30 (by omega)
      refine cq_aload_n F (i := 3) dL_steps_31 rfl rfl ?_
      refine cq_iconst F (v := 4) dL_steps_32 rfl ?_
      refine cq_iload F dL_steps_33 rfl ?_
      refine cq_if_eq F (tgt := 42) dL_steps_35 (by decide) (fun c_35 => ?_) (fun c_35 => ?_)
      · have c_35 : 1 = 0 := (nI_b (a := 1) (b := 0) (by omega) (by omega)).2.2.mp c_35
        omega
      · have c_35 : ¬ 1 = 0 := fun z => c_35 ((nI_b (a := 1) (b := 0) (by omega) (by omega)).2.2.mpr z)
        refine cq_iconst F (v := 0) dL_steps_38 rfl ?_
        refine cq_goto F (tgt := 47) dL_steps_39 (by decide) ?_
        refine cq_iast_j F (j := 4) hn0.1 hn0.2 rfl ⟨(by omega), by decide⟩ dL_steps_47 (fun M_47 h_47 => ?_)
        have v_47_ta := v_30_ta.ne h_47 (by omega)
        have v_47_ca := v_30_ca.ne h_47 (by omega)
        have v_47_ra := v_30_ra.ne h_47 (by omega)
        obtain ⟨g_47, eg_47⟩ : ∃ z, z = ns_up g_30 (4) (0) := ⟨_, rfl⟩
        have v_47_na : cq_nv M_47 na 9 g_47 := by rw [eg_47]; exact v_30_na.up h_47
        have v_47_ba := v_30_ba.ne h_47 (by omega)
        have z47 : g_47 4 = 0 := by rw [eg_47, ns_up_s]
        have z5 : g_47 5 = n 5 := by rw [eg_47, ns_up_n (by omega), eg_30, ns_up_n (by omega)]
        refine cq_aload_n F (i := 3) dL_steps_48 rfl rfl ?_
        refine cq_iconst F (v := 5) dL_steps_49 rfl ?_
        refine cq_aload_n F (i := 3) dL_steps_50 rfl rfl ?_
        refine cq_iconst F (v := 5) dL_steps_51 rfl ?_
        refine cq_iald_j F (j := 5) hn0.1 hn0.2 rfl ⟨(by omega), by decide⟩ dL_steps_52 ?_
        rw [v_47_na _ (by omega)]
        refine cq_aload_n F (i := 3) dL_steps_53 rfl rfl ?_
        refine cq_iconst F (v := 4) dL_steps_54 rfl ?_
        refine cq_iald_j F (j := 4) hn0.1 hn0.2 rfl ⟨(by omega), by decide⟩ dL_steps_55 ?_
        rw [v_47_na _ (by omega)]
        refine cq_icmp_le F (tgt := 65) dL_steps_56 (by decide) (fun c_56 => ?_) (fun c_56 => ?_)
        · have c_56 : (g_47 (5)) ≤ (g_47 (4)) := (nI_b (a := (g_47 (5))) (b := (g_47 (4))) (by omega) (by omega)).1.mp c_56
          have z56 := z47
          refine cq_aload_n F (i := 3) dL_steps_65 rfl rfl ?_
          refine cq_iconst F (v := 4) dL_steps_66 rfl ?_
          refine cq_iald_j F (j := 4) hn0.1 hn0.2 rfl ⟨(by omega), by decide⟩ dL_steps_67 ?_
          rw [v_47_na _ (by omega)]
          refine cq_iast_j F (j := 5) hn0.1 hn0.2 rfl ⟨(by omega), by decide⟩ dL_steps_68 (fun M_68 h_68 => ?_)
          have v_68_ta := v_47_ta.ne h_68 (by omega)
          have v_68_ca := v_47_ca.ne h_68 (by omega)
          have v_68_ra := v_47_ra.ne h_68 (by omega)
          obtain ⟨g_68, eg_68⟩ : ∃ z, z = ns_up g_47 (5) ((g_47 (4))) := ⟨_, rfl⟩
          have v_68_na : cq_nv M_68 na 9 g_68 := by rw [eg_68]; exact v_47_na.up h_68
          have v_68_ba := v_47_ba.ne h_68 (by omega)
          refine cq_aload_n F (i := 3) dL_steps_69 rfl rfl ?_
          refine cq_iconst F (v := 0) dL_steps_70 rfl ?_
          refine cq_dup2 F dL_steps_71 rfl rfl ?_
          refine cq_iald_j F (j := 0) hn0.1 hn0.2 rfl ⟨(by omega), by decide⟩ dL_steps_72 ?_
          rw [v_68_na _ (by omega)]
          refine cq_iconst F (v := 1) dL_steps_73 rfl ?_
          refine cq_iadd F dL_steps_74 ?_
          rw [show (nI (g_68 (0)) + 1 : Int32) = nI ((g_68 (0)) + 1) from nI_add _ _]
          refine cq_iast_j F (j := 0) hn0.1 hn0.2 rfl ⟨(by omega), by decide⟩ dL_steps_75 (fun M_75 h_75 => ?_)
          have v_75_ta := v_68_ta.ne h_75 (by omega)
          have v_75_ca := v_68_ca.ne h_75 (by omega)
          have v_75_ra := v_68_ra.ne h_75 (by omega)
          obtain ⟨g_75, eg_75⟩ : ∃ z, z = ns_up g_68 (0) (((g_68 (0)) + 1)) := ⟨_, rfl⟩
          have v_75_na : cq_nv M_75 na 9 g_75 := by rw [eg_75]; exact v_68_na.up h_75
          have v_75_ba := v_68_ba.ne h_75 (by omega)
          have z4 : g_75 4 = 0 := by rw [eg_75, ns_up_n (by omega), eg_68, ns_up_n (by omega)]; exact z47
          refine cq_iconst F (v := 0) dL_steps_76 rfl ?_
          refine cq_istore F dL_steps_77 (by decide) ?_
          refine cq_iconst F (v := 0) dL_steps_79 rfl ?_
          refine cq_istore F dL_steps_80 (by decide) ?_
          refine cq_loc (L2 := [(0, .ref ta), (1, .ref ca), (2, .ref ra), (3, .ref na), (4, .ref ba), (6, .int (nI 0)), (7, .int (nI 0))]) rfl ?_
          exact loop_82 (g 6 + 1) 0 0 t c r g_75 b M_75 (by omega) rfl ⟨v_75_ta, v_75_ca, v_75_ra, v_75_na, v_75_ba⟩ (h.s4 hk rfl (by rw [eg_75, ns_up_s, eg_68, ns_up_n (by omega), eg_47, ns_up_n (by omega), eg_30, ns_up_n (by omega)]) (by rw [eg_75, ns_up_n (by omega), eg_68, ns_up_n (by omega), eg_47, ns_up_n (by omega), eg_30, ns_up_n (by omega)]) (by rw [eg_75, ns_up_n (by omega), eg_68, ns_up_n (by omega), eg_47, ns_up_n (by omega), eg_30, ns_up_n (by omega)]) (by rw [eg_75, ns_up_n (by omega), eg_68, ns_up_n (by omega), eg_47, ns_up_n (by omega), eg_30, ns_up_s]; split <;> omega) (by rw [z4]; first | exact (if_pos (by omega)).symm | exact (if_neg (by omega)).symm) (show g_75 5 = if g_75 4 < n 5 then n 5 else g_75 4 by rw [z4, show g_75 5 = g_68 5 by rw [eg_75, ns_up_n (by omega)], eg_68, ns_up_s]; split <;> omega) (by rw [eg_75, ns_up_n (by omega), eg_68, ns_up_n (by omega), eg_47, ns_up_n (by omega), eg_30, ns_up_n (by omega)]) (by rw [eg_75, ns_up_n (by omega), eg_68, ns_up_n (by omega), eg_47, ns_up_n (by omega), eg_30, ns_up_n (by omega)]) (by rw [eg_75, ns_up_n (by omega), eg_68, ns_up_n (by omega), eg_47, ns_up_n (by omega), eg_30, ns_up_n (by omega)])) ((((lf.rf.up h_30 (by simp)).up h_47 (by simp)).up h_68 (by simp)).up h_75 (by simp)) (by omega)
        · have c_56 : ¬ (g_47 (5)) ≤ (g_47 (4)) := fun z => c_56 ((nI_b (a := (g_47 (5))) (b := (g_47 (4))) (by omega) (by omega)).1.mpr z)
          refine cq_aload_n F (i := 3) dL_steps_59 rfl rfl ?_
          refine cq_iconst F (v := 5) dL_steps_60 rfl ?_
          refine cq_iald_j F (j := 5) hn0.1 hn0.2 rfl ⟨(by omega), by decide⟩ dL_steps_61 ?_
          rw [v_47_na _ (by omega)]
          refine cq_goto F (tgt := 68) dL_steps_62 (by decide) ?_
          refine cq_iast_j F (j := 5) hn0.1 hn0.2 rfl ⟨(by omega), by decide⟩ dL_steps_68 (fun M_68 h_68 => ?_)
          have v_68_ta := v_47_ta.ne h_68 (by omega)
          have v_68_ca := v_47_ca.ne h_68 (by omega)
          have v_68_ra := v_47_ra.ne h_68 (by omega)
          obtain ⟨g_68, eg_68⟩ : ∃ z, z = ns_up g_47 (5) ((g_47 (5))) := ⟨_, rfl⟩
          have v_68_na : cq_nv M_68 na 9 g_68 := by rw [eg_68]; exact v_47_na.up h_68
          have v_68_ba := v_47_ba.ne h_68 (by omega)
          refine cq_aload_n F (i := 3) dL_steps_69 rfl rfl ?_
          refine cq_iconst F (v := 0) dL_steps_70 rfl ?_
          refine cq_dup2 F dL_steps_71 rfl rfl ?_
          refine cq_iald_j F (j := 0) hn0.1 hn0.2 rfl ⟨(by omega), by decide⟩ dL_steps_72 ?_
          rw [v_68_na _ (by omega)]
          refine cq_iconst F (v := 1) dL_steps_73 rfl ?_
          refine cq_iadd F dL_steps_74 ?_
          rw [show (nI (g_68 (0)) + 1 : Int32) = nI ((g_68 (0)) + 1) from nI_add _ _]
          refine cq_iast_j F (j := 0) hn0.1 hn0.2 rfl ⟨(by omega), by decide⟩ dL_steps_75 (fun M_75 h_75 => ?_)
          have v_75_ta := v_68_ta.ne h_75 (by omega)
          have v_75_ca := v_68_ca.ne h_75 (by omega)
          have v_75_ra := v_68_ra.ne h_75 (by omega)
          obtain ⟨g_75, eg_75⟩ : ∃ z, z = ns_up g_68 (0) (((g_68 (0)) + 1)) := ⟨_, rfl⟩
          have v_75_na : cq_nv M_75 na 9 g_75 := by rw [eg_75]; exact v_68_na.up h_75
          have v_75_ba := v_68_ba.ne h_75 (by omega)
          have z4 : g_75 4 = 0 := by rw [eg_75, ns_up_n (by omega), eg_68, ns_up_n (by omega)]; exact z47
          refine cq_iconst F (v := 0) dL_steps_76 rfl ?_
          refine cq_istore F dL_steps_77 (by decide) ?_
          refine cq_iconst F (v := 0) dL_steps_79 rfl ?_
          refine cq_istore F dL_steps_80 (by decide) ?_
          refine cq_loc (L2 := [(0, .ref ta), (1, .ref ca), (2, .ref ra), (3, .ref na), (4, .ref ba), (6, .int (nI 0)), (7, .int (nI 0))]) rfl ?_
          exact loop_82 (g 6 + 1) 0 0 t c r g_75 b M_75 (by omega) rfl ⟨v_75_ta, v_75_ca, v_75_ra, v_75_na, v_75_ba⟩ (h.s4 hk rfl (by rw [eg_75, ns_up_s, eg_68, ns_up_n (by omega), eg_47, ns_up_n (by omega), eg_30, ns_up_n (by omega)]) (by rw [eg_75, ns_up_n (by omega), eg_68, ns_up_n (by omega), eg_47, ns_up_n (by omega), eg_30, ns_up_n (by omega)]) (by rw [eg_75, ns_up_n (by omega), eg_68, ns_up_n (by omega), eg_47, ns_up_n (by omega), eg_30, ns_up_n (by omega)]) (by rw [eg_75, ns_up_n (by omega), eg_68, ns_up_n (by omega), eg_47, ns_up_n (by omega), eg_30, ns_up_s]; split <;> omega) (by rw [z4]; first | exact (if_pos (by omega)).symm | exact (if_neg (by omega)).symm) (show g_75 5 = if g_75 4 < n 5 then n 5 else g_75 4 by rw [z4, show g_75 5 = g_68 5 by rw [eg_75, ns_up_n (by omega)], eg_68, ns_up_s]; split <;> omega) (by rw [eg_75, ns_up_n (by omega), eg_68, ns_up_n (by omega), eg_47, ns_up_n (by omega), eg_30, ns_up_n (by omega)]) (by rw [eg_75, ns_up_n (by omega), eg_68, ns_up_n (by omega), eg_47, ns_up_n (by omega), eg_30, ns_up_n (by omega)]) (by rw [eg_75, ns_up_n (by omega), eg_68, ns_up_n (by omega), eg_47, ns_up_n (by omega), eg_30, ns_up_n (by omega)])) ((((lf.rf.up h_30 (by simp)).up h_47 (by simp)).up h_68 (by simp)).up h_75 (by simp)) (by omega)
theorem hdVL_steps : yL_steps.cls = RL ∧ yL_steps.cls ≠ "java/lang/invoke/MethodHandle" ∧ yL_steps.cls ≠ "java/lang/invoke/VarHandle" ∧ (parseMethodDescriptor yL_steps.desc).map (fun d => d.parameters.length) = some 5 := by decide +kernel
