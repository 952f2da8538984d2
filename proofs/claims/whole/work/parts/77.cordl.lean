/-! the class: a cord of given times -/
def tm_sum (tm : Nat → Nat) : Nat → Nat
  | 0 => 0
  | n + 1 => tm_sum tm n + tm n
theorem tm_sum_ns {g tm : Nat → Nat} {b : Nat} : ∀ {n : Nat}, (∀ k, k < n → g (b + k) = tm k) → ns_sum g b n = tm_sum tm n
  | 0, _ => rfl
  | n + 1, h => by
    show ns_sum g b n + g (b + n) = tm_sum tm n + tm n
    rw [tm_sum_ns (fun k hk => h k (by omega)), h n (by omega)]
theorem cr_st.newCordL {M M1 : cq_M} {b B sg : Nat} {tm : Nat → Nat} {g : Nat → Nat} (h : cr_st M b g) (hk : ns_ok g B) (hc : g 6 < 4) (hs1 : 1 ≤ sg) (hs6 : sg ≤ 6) (hM : ∀ x, x ≠ b → x ≠ b + 7 + 2 * g 6 → x ≠ b + 7 + 2 * g 6 + 1 → M1 x = M x) (hb : M1 b = cq_up M b 1 (nI (g 6 + 1)) b) (e1 : M1 (b + 7 + 2 * g 6) 1 = nI sg) (e2 : M1 (b + 7 + 2 * g 6) 2 = nI (tm_sum tm sg)) (e3 : M1 (b + 7 + 2 * g 6) 3 = 0) (e4 : M1 (b + 7 + 2 * g 6) 4 = 0) (e5 : M1 (b + 7 + 2 * g 6) 5 = 0) (e6 : M1 (b + 7 + 2 * g 6) 6 = 0) (e7 : M1 (b + 7 + 2 * g 6) 7 = -1) (et : ∀ k, k < sg → M1 (b + 7 + 2 * g 6 + 1) k = nI (tm k)) : cr_st M1 b (ns_new g sg tm) ∧ cr_fr M M1 b 23 := by
  obtain ⟨q1, q2, q3, q4, q5⟩ := h
  have h51 := hk.2.1
  have e : ∀ k, k ≠ 6 → (k < 7 + 11 * g 6 ∨ 18 + 11 * g 6 ≤ k) → g k = ns_new g sg tm k := fun k k1 k2 => (ns_new_n k1 k2).symm
  have n6 : ns_new g sg tm 6 = g 6 + 1 := by unfold ns_new; rw [if_pos rfl]
  have n7 : ns_new g sg tm (7 + 11 * g 6) = sg := by unfold ns_new; rw [if_neg (by omega), if_neg (by omega), if_pos rfl]
  have nt : ∀ k, k < sg → ns_new g sg tm (8 + 11 * g 6 + k) = tm k := fun k hk => by unfold ns_new; rw [if_neg (by omega), if_neg (by omega), if_neg (by omega), if_pos (by omega), show 8 + 11 * g 6 + k - (8 + 11 * g 6) = k by omega]
  have nz : ∀ k, k = 14 + 11 * g 6 ∨ k = 15 + 11 * g 6 ∨ k = 16 + 11 * g 6 → ns_new g sg tm k = 0 := fun k hk => by unfold ns_new; rw [if_neg (by omega), if_neg (by omega), if_neg (by omega), if_neg (by omega), if_neg (by omega)]
  have n17 : ns_new g sg tm (17 + 11 * g 6) = 4294967295 := by unfold ns_new; rw [if_neg (by omega), if_neg (by omega), if_neg (by omega), if_neg (by omega), if_pos rfl]
  have ei : ∀ j, j ≠ 1 → M1 b j = M b j := fun j hj => by rw [hb, cq_up_k hj]
  refine ⟨⟨?_, fun c2 hc2 => ?_, fun r hr2 => ?_, q4.ext (fun x k1 k2 => hM x (by omega) (by omega) (by omega)) (fun k hk => e k (by omega) (by omega)), fun c2 hc2 => ?_, fun r hr2 => ?_⟩, fun x hx => hM x (by omega) (by omega) (by omega)⟩
  · obtain ⟨i1, i2, i3, i4, i5, i6, i7, i8⟩ := q1
    refine ⟨?_, ?_, ?_, ?_, ?_, ?_, ?_, ?_⟩
    · rw [hb, cq_up_s, n6]
    · rw [ei _ (by omega), ← e _ (by omega) (by omega)]; exact i2
    · rw [ei _ (by omega), ← e _ (by omega) (by omega)]; exact i3
    · rw [ei _ (by omega), ← e _ (by omega) (by omega)]; exact i4
    · rw [ei _ (by omega), ← e _ (by omega) (by omega)]; exact i5
    · rw [ei _ (by omega), ← e _ (by omega) (by omega)]; exact i6
    · rw [ei _ (by omega), ← e _ (by omega) (by omega)]; exact i7
    · rw [ei _ (by omega), ← e _ (by omega) (by omega)]; exact i8
  · rw [n6] at hc2
    by_cases ec : c2 = g 6
    · subst ec
      refine ⟨by rw [e1, n7], ?_, by rw [e3, nz _ (by omega)]; rfl, by rw [e4, nz _ (by omega)]; rfl, by rw [e5, nz _ (by omega)]; rfl, by rw [e6, nz _ (by omega)]; rfl, by rw [e7, n17]; decide, fun k hk9 => ?_⟩
      · rw [e2]
        unfold ns_time
        rw [n7, tm_sum_ns nt]
      · rw [n7] at hk9
        rw [et k hk9, nt k hk9]
    · exact (q2 c2 (by omega)).ext (hk.2.2.2.1 c2 (by omega)).1.2 (hM _ (by omega) (by omega) (by omega)) (hM _ (by omega) (by omega) (by omega)) (fun k k1 k2 => e k (by omega) (by omega))
  · rw [← e 51 (by omega) (by omega)] at hr2
    exact (q3 r hr2).ext (hM _ (by omega) (by omega) (by omega)) (fun k k1 k2 => e k (by omega) (by omega))
  · by_cases ec : c2 = g 6
    · subst ec
      exact ⟨Or.inl e5, Or.inl e6⟩
    · rw [hM _ (by omega) (by omega) (by omega)]; exact q5.1 c2 hc2
  · rw [hM _ (by omega) (by omega) (by omega)]; exact q5.2 r hr2
/-- a cord is added: its segments so far -/
def ad_L (Ms M2 : cq_M) (b n k : Nat) (tm : Nat → Nat) : Prop := (∀ x, x ≠ b → x ≠ b + 7 + 2 * n → x ≠ b + 7 + 2 * n + 1 → M2 x = Ms x) ∧ M2 b = cq_up Ms b 1 (nI (n + 1)) b ∧ M2 (b + 7 + 2 * n) 1 = nI k ∧ M2 (b + 7 + 2 * n) 2 = nI (tm_sum tm k) ∧ M2 (b + 7 + 2 * n) 3 = 0 ∧ M2 (b + 7 + 2 * n) 4 = 0 ∧ M2 (b + 7 + 2 * n) 5 = 0 ∧ M2 (b + 7 + 2 * n) 6 = 0 ∧ M2 (b + 7 + 2 * n) 7 = -1 ∧ ∀ j, j < k → M2 (b + 7 + 2 * n + 1) j = nI (tm j)
theorem ad_L.first {M M1 : cq_M} {b n : Nat} {tm : Nat → Nat} (h : M1 = cq_up (cq_up (cq_up (cq_up (cq_up (cq_up (cq_up (cq_up M (b + 7 + 2 * n) 1 0) (b + 7 + 2 * n) 2 0) (b + 7 + 2 * n) 7 (-1)) (b + 7 + 2 * n) 3 0) (b + 7 + 2 * n) 4 0) (b + 7 + 2 * n) 5 0) (b + 7 + 2 * n) 6 0) b 1 (nI (n + 1))) : ad_L M M1 b n 0 tm := by
  subst h
  refine ⟨fun x x1 x2 x3 => ?_, ?_, ?_, ?_, ?_, ?_, ?_, ?_, ?_, fun j hj => absurd hj (by omega)⟩
  · rw [cq_up_row x1, cq_up_row x2, cq_up_row x2, cq_up_row x2, cq_up_row x2, cq_up_row x2, cq_up_row x2, cq_up_row x2]
  · funext j
    by_cases e : j = 1
    · subst e; rw [cq_up_s, cq_up_s]
    · rw [cq_up_k e, cq_up_k e, cq_up_a (by omega), cq_up_a (by omega), cq_up_a (by omega), cq_up_a (by omega), cq_up_a (by omega), cq_up_a (by omega), cq_up_a (by omega)]
  · rw [cq_up_a (by omega), cq_up_k (by omega), cq_up_k (by omega), cq_up_k (by omega), cq_up_k (by omega), cq_up_k (by omega), cq_up_k (by omega), cq_up_s]; rfl
  · rw [cq_up_a (by omega), cq_up_k (by omega), cq_up_k (by omega), cq_up_k (by omega), cq_up_k (by omega), cq_up_k (by omega), cq_up_s]; rfl
  · rw [cq_up_a (by omega), cq_up_k (by omega), cq_up_k (by omega), cq_up_k (by omega), cq_up_s]
  · rw [cq_up_a (by omega), cq_up_k (by omega), cq_up_k (by omega), cq_up_s]
  · rw [cq_up_a (by omega), cq_up_k (by omega), cq_up_s]
  · rw [cq_up_a (by omega), cq_up_s]
  · rw [cq_up_a (by omega), cq_up_k (by omega), cq_up_k (by omega), cq_up_k (by omega), cq_up_k (by omega), cq_up_s]
theorem ad_L.next {Ms M2 M3 : cq_M} {b n k : Nat} {tm : Nat → Nat} (h : ad_L Ms M2 b n k tm) (h3 : M3 = cq_up (cq_up (cq_up M2 (b + 7 + 2 * n + 1) k (nI (tm k))) (b + 7 + 2 * n) 1 (nI (k + 1))) (b + 7 + 2 * n) 2 (M2 (b + 7 + 2 * n) 2 + nI (tm k))) : ad_L Ms M3 b n (k + 1) tm := by
  obtain ⟨a1, a2, a3, a4, a5, a6, a7, a8, a9, a10⟩ := h
  subst h3
  refine ⟨fun x x1 x2 x3 => ?_, ?_, ?_, ?_, ?_, ?_, ?_, ?_, ?_, fun j hj => ?_⟩
  · rw [cq_up_row x2, cq_up_row x2, cq_up_row x3]; exact a1 x x1 x2 x3
  · rw [cq_up_row (by omega), cq_up_row (by omega), cq_up_row (by omega)]; exact a2
  · rw [cq_up_k (by omega), cq_up_s]
  · rw [cq_up_s, a4, nI_add]; rfl
  · rw [cq_up_k (by omega), cq_up_k (by omega), cq_up_a (by omega)]; exact a5
  · rw [cq_up_k (by omega), cq_up_k (by omega), cq_up_a (by omega)]; exact a6
  · rw [cq_up_k (by omega), cq_up_k (by omega), cq_up_a (by omega)]; exact a7
  · rw [cq_up_k (by omega), cq_up_k (by omega), cq_up_a (by omega)]; exact a8
  · rw [cq_up_k (by omega), cq_up_k (by omega), cq_up_a (by omega)]; exact a9
  · rw [cq_up_a (by omega), cq_up_a (by omega)]
    by_cases e : j = k
    · subst e; exact cq_up_s _ _ _ _
    · rw [cq_up_k e]; exact a10 j (by omega)
theorem ad_L.fin {Ms M2 : cq_M} {b sg B : Nat} {g tm : Nat → Nat} (h : ad_L Ms M2 b (g 6) sg tm) (hs : cr_st Ms b g) (hk : ns_ok g B) (hc : g 6 < 4) (h1 : 1 ≤ sg) (h6 : sg ≤ 6) : cr_st M2 b (ns_new g sg tm) ∧ cr_fr Ms M2 b 23 := by
  obtain ⟨a1, a2, a3, a4, a5, a6, a7, a8, a9, a10⟩ := h
  exact hs.newCordL hk hc h1 h6 a1 a2 a3 a4 a5 a6 a7 a8 a9 a10
