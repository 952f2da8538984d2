/-! the class's State after a call's own change -/
def ns_renew (g : Nat → Nat) (c : Nat) : Nat → Nat := ns_up (ns_up (ns_up g (14 + 11 * c) 0) (15 + 11 * c) 0) (16 + 11 * c) 0
theorem ns_renew_n {g : Nat → Nat} {c k : Nat} (h : k ≠ 14 + 11 * c) (h2 : k ≠ 15 + 11 * c) (h3 : k ≠ 16 + 11 * c) : ns_renew g c k = g k := by
  unfold ns_renew
  rw [ns_up_n h3, ns_up_n h2, ns_up_n h]
theorem ns_renew_z {g : Nat → Nat} {c k : Nat} (h : k = 14 + 11 * c ∨ k = 15 + 11 * c ∨ k = 16 + 11 * c) : ns_renew g c k = 0 := by
  unfold ns_renew ns_up
  rcases h with h | h | h <;> subst h <;> simp
theorem cr_st.renew {M M1 : cq_M} {b B c : Nat} {g : Nat → Nat} (hs : cr_st M b g) (hk : ns_ok g B) (hc : c < g 6) (h1 : M1 = cq_up (cq_up (cq_up (cq_up M (b + 7 + 2 * c) 3 0) (b + 7 + 2 * c) 4 0) (b + 7 + 2 * c) 5 0) (b + 7 + 2 * c) 6 0) : cr_st M1 b (ns_renew g c) ∧ cr_fr M M1 b 23 := by
  have hq := hk.2.2.2.1 c hc
  have h6 := hk.1
  obtain ⟨q1, q2, q3, q4, q5, q6, q7, q8⟩ := hs.2.1 c hc
  have et : ns_time (ns_renew g c) c = ns_time g c := (ns_time_ext hq.1.2 (fun k k1 k2 => (ns_renew_n (by omega) (by omega) (by omega)).symm)).symm
  have hM : ∀ y, y ≠ b + 7 + 2 * c → M1 y = M y := fun y hy => by rw [h1, cq_up_row hy, cq_up_row hy, cq_up_row hy, cq_up_row hy]
  have e3 : M1 (b + 7 + 2 * c) 3 = 0 := by rw [h1, cq_up_k (by omega), cq_up_k (by omega), cq_up_k (by omega), cq_up_s]
  have e4 : M1 (b + 7 + 2 * c) 4 = 0 := by rw [h1, cq_up_k (by omega), cq_up_k (by omega), cq_up_s]
  have e5 : M1 (b + 7 + 2 * c) 5 = 0 := by rw [h1, cq_up_k (by omega), cq_up_s]
  have e6 : M1 (b + 7 + 2 * c) 6 = 0 := by rw [h1, cq_up_s]
  have ej : ∀ j, j ≠ 3 → j ≠ 4 → j ≠ 5 → j ≠ 6 → M1 (b + 7 + 2 * c) j = M (b + 7 + 2 * c) j := fun j j1 j2 j3 j4 => by rw [h1, cq_up_k j4, cq_up_k j3, cq_up_k j2, cq_up_k j1]
  refine ⟨hs.cord hk hc (fun y hy _ => hM y hy) ⟨?_, ?_, ?_, ?_, ?_, ?_, ?_, fun k hk9 => ?_⟩ ⟨Or.inl e5, Or.inl e6⟩ (fun k hk9 => (ns_renew_n (by omega) (by omega) (by omega)).symm), fun y hy => hM y (by omega)⟩
  · rw [ej _ (by omega) (by omega) (by omega) (by omega), ns_renew_n (by omega) (by omega) (by omega)]; exact q1
  · rw [ej _ (by omega) (by omega) (by omega) (by omega), et]; exact q2
  · rw [e3, ns_renew_z (by omega)]; rfl
  · rw [e4, ns_renew_z (by omega)]; rfl
  · rw [e5, ns_renew_z (by omega)]; rfl
  · rw [e6, ns_renew_z (by omega)]; rfl
  · rw [ej _ (by omega) (by omega) (by omega) (by omega), ns_renew_n (by omega) (by omega) (by omega)]; exact q7
  · rw [ns_renew_n (by omega) (by omega) (by omega)] at hk9
    have hs6 := hq.1.2
    rw [hM _ (by omega), ns_renew_n (by omega) (by omega) (by omega)]
    exact q8 k hk9
theorem cr_st.put {M M1 : cq_M} {b B c : Nat} {x : Int32} {g : Nat → Nat} (hs : cr_st M b g) (hk : ns_ok g B) (hc : c < g 6) (hl : ¬ ns_bit (g (16 + 11 * c)) x = 0) (h1 : M1 = if x = 0 then cq_up M (b + 7 + 2 * c) 6 0 else cq_up M (b + 7 + 2 * c) 5 0) : cr_st M1 b (ns_put g c x) ∧ cr_fr M M1 b 23 := by
  have hq := hk.2.2.2.1 c hc
  have h6 := hk.1
  have hf := hq.2.2.2.1
  obtain ⟨q1, q2, q3, q4, q5, q6, q7, q8⟩ := hs.2.1 c hc
  have e : ∀ k, k ≠ 16 + 11 * c → ns_put g c x k = g k := fun k z => ns_up_n z
  have es : ns_put g c x (16 + 11 * c) = g (16 + 11 * c) - ns_side x := ns_up_s _ _ _
  have et : ns_time (ns_put g c x) c = ns_time g c := (ns_time_ext hq.1.2 (fun k k1 k2 => (e k (by omega)).symm)).symm
  have hM : ∀ y, y ≠ b + 7 + 2 * c → M1 y = M y := fun y hy => by rw [h1]; split <;> exact cq_up_row hy
  have hM2 : ∀ j, j ≠ 5 → j ≠ 6 → M1 (b + 7 + 2 * c) j = M (b + 7 + 2 * c) j := fun j h5 h6 => by
    rw [h1]; split
    · exact cq_up_k h6
    · exact cq_up_k h5
  have h56 : M1 (b + 7 + 2 * c) 5 = nI ((g (16 + 11 * c) - ns_side x) % 2) ∧ M1 (b + 7 + 2 * c) 6 = nI ((g (16 + 11 * c) - ns_side x) / 2) := by
    unfold ns_bit at hl
    unfold ns_side
    by_cases hx : x = 0
    · rw [if_pos hx] at hl
      rw [h1, if_pos hx, if_pos hx, cq_up_k (by omega), q5, cq_up_s]
      refine ⟨congrArg nI (by omega), ?_⟩
      rw [show (g (16 + 11 * c) - 2) / 2 = 0 by omega]
      rfl
    · rw [if_neg hx] at hl
      rw [h1, if_neg hx, if_neg hx, cq_up_s, cq_up_k (by omega), q6]
      refine ⟨?_, congrArg nI (by omega)⟩
      rw [show (g (16 + 11 * c) - 1) % 2 = 0 by omega]
      rfl
  refine ⟨hs.cord hk hc (fun y hy _ => hM y hy) ⟨?_, ?_, ?_, ?_, ?_, ?_, ?_, fun k hk9 => ?_⟩ ⟨by rw [h56.1]; exact cr_01m _, by rw [h56.2]; exact cr_01d (by omega)⟩ (fun k hk9 => (e k (by omega)).symm), fun y hy => hM y (by omega)⟩
  · rw [hM2 _ (by omega) (by omega), e _ (by omega)]; exact q1
  · rw [hM2 _ (by omega) (by omega), et]; exact q2
  · rw [hM2 _ (by omega) (by omega), e _ (by omega)]; exact q3
  · rw [hM2 _ (by omega) (by omega), e _ (by omega)]; exact q4
  · rw [es]; exact h56.1
  · rw [es]; exact h56.2
  · rw [hM2 _ (by omega) (by omega), e _ (by omega)]; exact q7
  · rw [e _ (by omega)] at hk9
    have hs6 := hq.1.2
    rw [hM _ (by omega), e _ (by omega)]
    exact q8 k hk9
theorem ns_sum_up {g : Nat → Nat} {b k v : Nat} : ∀ {n : Nat}, k < n → ns_sum (ns_up g (b + k) v) b n + g (b + k) = ns_sum g b n + v
  | 0, h => absurd h (by omega)
  | n + 1, h => by
    by_cases e : k = n
    · subst e
      show ns_sum (ns_up g (b + k) v) b k + ns_up g (b + k) v (b + k) + g (b + k) = ns_sum g b k + g (b + k) + v
      rw [ns_up_s, ns_sum_ext (g := ns_up g (b + k) v) (g' := g) (fun j hj => ns_up_n (by omega))]
      omega
    · have := ns_sum_up (g := g) (b := b) (k := k) (v := v) (n := n) (by omega)
      show ns_sum (ns_up g (b + k) v) b n + ns_up g (b + k) v (b + n) + g (b + k) = ns_sum g b n + g (b + n) + v
      rw [ns_up_n (by omega)]
      omega
theorem nI_swap {T o q T' : Nat} (h : T' + o = T + q) : nI T + (nI q - nI o) = nI T' := by
  have h2 : nI T' + nI o = nI T + nI q := by rw [nI_add, nI_add, h]
  calc nI T + (nI q - nI o) = (nI T + nI q) - nI o := by rw [Int32.sub_eq_add_neg, Int32.sub_eq_add_neg, Int32.add_assoc]
    _ = nI T' := by rw [← h2, Int32.add_sub_cancel]
theorem cr_st.seg {M M1 : cq_M} {b B c s q : Nat} {g : Nat → Nat} (hs : cr_st M b g) (hk : ns_ok g B) (hc : c < g 6) (hs9 : s < g (7 + 11 * c)) (h1 : M1 = cq_up (cq_up M (b + 7 + 2 * c) 2 (M (b + 7 + 2 * c) 2 + (nI q - M (b + 7 + 2 * c + 1) s))) (b + 7 + 2 * c + 1) s (nI q)) : cr_st M1 b (ns_up g (8 + 11 * c + s) q) ∧ cr_fr M M1 b 23 := by
  have hq := hk.2.2.2.1 c hc
  have h6 := hk.1
  have h7 := hq.1.2
  have hb := hs.2.2.2.2.1 c (by omega)
  obtain ⟨q1, q2, q3, q4, q5, q6, q7, q8⟩ := hs.2.1 c hc
  have e : ∀ k, k ≠ 8 + 11 * c + s → ns_up g (8 + 11 * c + s) q k = g k := fun k z => ns_up_n z
  have et : ns_time (ns_up g (8 + 11 * c + s) q) c + g (8 + 11 * c + s) = ns_time g c + q := by
    unfold ns_time
    rw [e (7 + 11 * c) (by omega)]
    exact ns_sum_up hs9
  have hM : ∀ y, y ≠ b + 7 + 2 * c → y ≠ b + 7 + 2 * c + 1 → M1 y = M y := fun y hy hy2 => by rw [h1, cq_up_row hy2, cq_up_row hy]
  have ej : ∀ j, j ≠ 2 → M1 (b + 7 + 2 * c) j = M (b + 7 + 2 * c) j := fun j j1 => by rw [h1, cq_up_a (by omega), cq_up_k j1]
  refine ⟨hs.cord hk hc hM ⟨?_, ?_, ?_, ?_, ?_, ?_, ?_, fun k hk9 => ?_⟩ (by rw [ej _ (by omega), ej _ (by omega)]; exact hb) (fun k hk9 => (e k (by omega)).symm), fun y hy => hM y (by omega) (by omega)⟩
  · rw [ej _ (by omega), e _ (by omega)]; exact q1
  · rw [h1, cq_up_a (by omega), cq_up_s, q2, q8 s hs9]
    exact nI_swap et
  · rw [ej _ (by omega), e _ (by omega)]; exact q3
  · rw [ej _ (by omega), e _ (by omega)]; exact q4
  · rw [ej _ (by omega), e _ (by omega)]; exact q5
  · rw [ej _ (by omega), e _ (by omega)]; exact q6
  · rw [ej _ (by omega), e _ (by omega)]; exact q7
  · rw [e _ (by omega)] at hk9
    by_cases ek : k = s
    · subst ek; rw [h1, cq_up_s, ns_up_s]
    · rw [h1, cq_up_k ek, cq_up_a (by omega), e _ (by omega)]
      exact q8 k hk9
theorem cr_st.newRule {M M1 : cq_M} {b B a c y : Nat} {g : Nat → Nat} (h : cr_st M b g) (hk : ns_ok g B) (hr : g 51 < 8) (hy : y ≤ 1) (h1 : M1 = cq_up (cq_up (cq_up (cq_up (cq_up M (b + 15 + g 51) 0 (nI a)) (b + 15 + g 51) 1 (nI c)) (b + 15 + g 51) 2 (nI y)) (b + 15 + g 51) 3 0) b 3 (nI (g 51 + 1))) : cr_st M1 b (ns_newRule g a c y) ∧ cr_fr M M1 b 23 := by
  obtain ⟨q1, q2, q3, q4, q5⟩ := h
  have h6 := hk.1
  have hM : ∀ x, x ≠ b → x ≠ b + 15 + g 51 → M1 x = M x := fun x x1 x2 => by rw [h1, cq_up_row x1, cq_up_row x2, cq_up_row x2, cq_up_row x2, cq_up_row x2]
  have e : ∀ k, k ≠ 51 → (k < 52 + 4 * g 51 ∨ 56 + 4 * g 51 ≤ k) → g k = ns_newRule g a c y k := fun k k1 k2 => by
    unfold ns_newRule
    rw [ns_up_n k1, ns_up_n (by omega), ns_up_n (by omega), ns_up_n (by omega), ns_up_n (by omega)]
  have e51 : ns_newRule g a c y 51 = g 51 + 1 := ns_up_s _ _ _
  have ei : ∀ j, j ≠ 3 → M1 b j = M b j := fun j hj => by rw [h1, cq_up_k hj, cq_up_a (by omega), cq_up_a (by omega), cq_up_a (by omega), cq_up_a (by omega)]
  refine ⟨⟨?_, fun c2 hc2 => ?_, fun r hr2 => ?_, q4.ext (fun x k1 k2 => hM x (by omega) (by omega)) (fun k hk => e k (by omega) (by omega)), fun c2 hc2 => ?_, fun r hr2 => ?_⟩, fun x hx => hM x (by omega) (by omega)⟩
  · obtain ⟨i1, i2, i3, i4, i5, i6, i7, i8⟩ := q1
    refine ⟨?_, ?_, ?_, ?_, ?_, ?_, ?_, ?_⟩
    · rw [ei _ (by omega), ← e _ (by omega) (by omega)]; exact i1
    · rw [h1, cq_up_s, e51]
    · rw [ei _ (by omega), ← e _ (by omega) (by omega)]; exact i3
    · rw [ei _ (by omega), ← e _ (by omega) (by omega)]; exact i4
    · rw [ei _ (by omega), ← e _ (by omega) (by omega)]; exact i5
    · rw [ei _ (by omega), ← e _ (by omega) (by omega)]; exact i6
    · rw [ei _ (by omega), ← e _ (by omega) (by omega)]; exact i7
    · rw [ei _ (by omega), ← e _ (by omega) (by omega)]; exact i8
  · rw [← e 6 (by omega) (by omega)] at hc2
    exact (q2 c2 hc2).ext (hk.2.2.2.1 c2 hc2).1.2 (hM _ (by omega) (by omega)) (hM _ (by omega) (by omega)) (fun k k1 k2 => e k (by omega) (by omega))
  · rw [e51] at hr2
    by_cases er : r = g 51
    · subst er
      refine ⟨?_, ?_, ?_, ?_⟩
      · rw [h1, cq_up_a (by omega), cq_up_k (by omega), cq_up_k (by omega), cq_up_k (by omega), cq_up_s]
        unfold ns_newRule
        rw [ns_up_n (by omega), ns_up_n (by omega), ns_up_n (by omega), ns_up_n (by omega), ns_up_s]
      · rw [h1, cq_up_a (by omega), cq_up_k (by omega), cq_up_k (by omega), cq_up_s]
        unfold ns_newRule
        rw [ns_up_n (by omega), ns_up_n (by omega), ns_up_n (by omega), ns_up_s]
      · rw [h1, cq_up_a (by omega), cq_up_k (by omega), cq_up_s]
        unfold ns_newRule
        rw [ns_up_n (by omega), ns_up_n (by omega), ns_up_s]
      · rw [h1, cq_up_a (by omega), cq_up_s]
        unfold ns_newRule
        rw [ns_up_n (by omega), ns_up_s]
        rfl
    · exact (q3 r (by omega)).ext (hM _ (by omega) (by omega)) (fun k k1 k2 => e k (by omega) (by omega))
  · rw [hM _ (by omega) (by omega)]; exact q5.1 c2 hc2
  · by_cases er : r = g 51
    · subst er
      rw [h1, cq_up_a (by omega), cq_up_k (by omega), cq_up_s]
      have hy2 : y = 0 ∨ y = 1 := by omega
      rcases hy2 with z | z <;> subst z
      · exact Or.inl rfl
      · exact Or.inr rfl
    · rw [hM _ (by omega) (by omega)]; exact q5.2 r hr2
theorem cr_st.drop {M M1 : cq_M} {b B : Nat} {g : Nat → Nat} (h : cr_st M b g) (hk : ns_ok g B) (h1 : M1 = cq_up M b 3 0) : cr_st M1 b (ns_drop g) ∧ cr_fr M M1 b 23 := by
  obtain ⟨q1, q2, q3, q4, q5⟩ := h
  have h6 := hk.1
  have hM : ∀ x, x ≠ b → M1 x = M x := fun x x1 => by rw [h1, cq_up_row x1]
  have e : ∀ k, (k < 51 ∨ 84 ≤ k) → g k = ns_drop g k := fun k k2 => by
    unfold ns_drop
    rw [if_neg (by omega)]
  have e51 : ns_drop g 51 = 0 := by
    unfold ns_drop
    rw [if_pos (by omega)]
  have ei : ∀ j, j ≠ 3 → M1 b j = M b j := fun j hj => by rw [h1, cq_up_k hj]
  refine ⟨⟨?_, fun c2 hc2 => ?_, fun r hr2 => ?_, q4.ext (fun x k1 k2 => hM x (by omega)) (fun k hk => e k (by omega)), fun c2 hc2 => ?_, fun r hr2 => ?_⟩, fun x hx => hM x (by omega)⟩
  · obtain ⟨i1, i2, i3, i4, i5, i6, i7, i8⟩ := q1
    refine ⟨?_, ?_, ?_, ?_, ?_, ?_, ?_, ?_⟩
    · rw [ei _ (by omega), ← e _ (by omega)]; exact i1
    · rw [h1, cq_up_s, e51]; rfl
    · rw [ei _ (by omega), ← e _ (by omega)]; exact i3
    · rw [ei _ (by omega), ← e _ (by omega)]; exact i4
    · rw [ei _ (by omega), ← e _ (by omega)]; exact i5
    · rw [ei _ (by omega), ← e _ (by omega)]; exact i6
    · rw [ei _ (by omega), ← e _ (by omega)]; exact i7
    · rw [ei _ (by omega), ← e _ (by omega)]; exact i8
  · rw [← e 6 (by omega)] at hc2
    exact (q2 c2 hc2).ext (hk.2.2.2.1 c2 hc2).1.2 (hM _ (by omega)) (hM _ (by omega)) (fun k k1 k2 => e k (by omega))
  · rw [e51] at hr2
    exact absurd hr2 (by omega)
  · rw [hM _ (by omega)]; exact q5.1 c2 hc2
  · rw [hM _ (by omega)]; exact q5.2 r hr2
theorem ns_new_n {g : Nat → Nat} {sg k : Nat} {tm : Nat → Nat} (h : k ≠ 6) (h2 : k < 7 + 11 * g 6 ∨ 18 + 11 * g 6 ≤ k) : ns_new g sg tm k = g k := by
  unfold ns_new
  rw [if_neg h, if_pos h2]
theorem ns_sum_const {g : Nat → Nat} {b t : Nat} : ∀ {n : Nat}, (∀ k, k < n → g (b + k) = t) → ns_sum g b n = n * t
  | 0, _ => by show 0 = 0 * t; omega
  | n + 1, h => by
    show ns_sum g b n + g (b + n) = (n + 1) * t
    rw [ns_sum_const (fun k hk => h k (by omega)), h n (by omega), Nat.add_mul, Nat.one_mul]
theorem cr_st.newCord {M M1 : cq_M} {b B sg t : Nat} {g : Nat → Nat} (h : cr_st M b g) (hk : ns_ok g B) (hc : g 6 < 4) (hs1 : 1 ≤ sg) (hs6 : sg ≤ 6) (hM : ∀ x, x ≠ b → x ≠ b + 7 + 2 * g 6 → x ≠ b + 7 + 2 * g 6 + 1 → M1 x = M x) (hb : M1 b = cq_up M b 1 (nI (g 6 + 1)) b) (e1 : M1 (b + 7 + 2 * g 6) 1 = nI sg) (e2 : M1 (b + 7 + 2 * g 6) 2 = nI (sg * t)) (e3 : M1 (b + 7 + 2 * g 6) 3 = 0) (e4 : M1 (b + 7 + 2 * g 6) 4 = 0) (e5 : M1 (b + 7 + 2 * g 6) 5 = 0) (e6 : M1 (b + 7 + 2 * g 6) 6 = 0) (e7 : M1 (b + 7 + 2 * g 6) 7 = -1) (et : ∀ k, k < sg → M1 (b + 7 + 2 * g 6 + 1) k = nI t) : cr_st M1 b (ns_new g sg (fun _ => t)) ∧ cr_fr M M1 b 23 := by
  obtain ⟨q1, q2, q3, q4, q5⟩ := h
  have h51 := hk.2.1
  have e : ∀ k, k ≠ 6 → (k < 7 + 11 * g 6 ∨ 18 + 11 * g 6 ≤ k) → g k = ns_new g sg (fun _ => t) k := fun k k1 k2 => (ns_new_n k1 k2).symm
  have n6 : ns_new g sg (fun _ => t) 6 = g 6 + 1 := by unfold ns_new; rw [if_pos rfl]
  have n7 : ns_new g sg (fun _ => t) (7 + 11 * g 6) = sg := by unfold ns_new; rw [if_neg (by omega), if_neg (by omega), if_pos rfl]
  have nt : ∀ k, k < sg → ns_new g sg (fun _ => t) (8 + 11 * g 6 + k) = t := fun k hk => by unfold ns_new; rw [if_neg (by omega), if_neg (by omega), if_neg (by omega), if_pos (by omega)]
  have nz : ∀ k, k = 14 + 11 * g 6 ∨ k = 15 + 11 * g 6 ∨ k = 16 + 11 * g 6 → ns_new g sg (fun _ => t) k = 0 := fun k hk => by unfold ns_new; rw [if_neg (by omega), if_neg (by omega), if_neg (by omega), if_neg (by omega), if_neg (by omega)]
  have n17 : ns_new g sg (fun _ => t) (17 + 11 * g 6) = 4294967295 := by unfold ns_new; rw [if_neg (by omega), if_neg (by omega), if_neg (by omega), if_neg (by omega), if_pos rfl]
  have ei : ∀ j, j ≠ 1 → M1 b j = M b j := fun j hj => by rw [hb, cq_up_k hj]
  refine ⟨⟨?_, fun c2 hc2 => ?_, fun r hr2 => ?_, q4.ext (fun x k1 k2 => hM x (by omega) (by omega) (by omega)) (fun k hk => e k (by omega) (by omega)), fun c2 hc2 => ?_, fun r hr2 => ?_⟩, fun x hx => hM x (by omega) (by omega) (by omega)⟩
  · obtain ⟨i1, i2, i3, i4, i5, i6, i7, i8⟩ := q1
    refine ⟨?_, ?_, ?_, ?_, ?_, ?_, ?_, ?_⟩
    · rw [hb, cq_up_s, n6]
    · rw [ei _ (by omega), ← e _ (by omega) (by omega)]; exact i2
    · rw [ei _ (by omega), ← e _ (by omega) (by omega)]; exact i3
    · rw [ei _ (by omega), ← e _ (by omega) (by omega)]; exact i4
    · rw [ei _ (by omega), ← e _ (by omega) (by omega)]; exact i5
    · rw [ei _ (by omega), ← e _ (by omega) (by omega)]; exact i6
    · rw [ei _ (by omega), ← e _ (by omega) (by omega)]; exact i7
    · rw [ei _ (by omega), ← e _ (by omega) (by omega)]; exact i8
  · rw [n6] at hc2
    by_cases ec : c2 = g 6
    · subst ec
      refine ⟨by rw [e1, n7], ?_, by rw [e3, nz _ (by omega)]; rfl, by rw [e4, nz _ (by omega)]; rfl, by rw [e5, nz _ (by omega)]; rfl, by rw [e6, nz _ (by omega)]; rfl, by rw [e7, n17]; decide, fun k hk9 => ?_⟩
      · rw [e2]
        unfold ns_time
        rw [n7, ns_sum_const (t := t) nt]
      · rw [n7] at hk9
        rw [et k hk9, nt k hk9]
    · exact (q2 c2 (by omega)).ext (hk.2.2.2.1 c2 (by omega)).1.2 (hM _ (by omega) (by omega) (by omega)) (hM _ (by omega) (by omega) (by omega)) (fun k k1 k2 => e k (by omega) (by omega))
  · rw [← e 51 (by omega) (by omega)] at hr2
    exact (q3 r hr2).ext (hM _ (by omega) (by omega) (by omega)) (fun k k1 k2 => e k (by omega) (by omega))
  · by_cases ec : c2 = g 6
    · subst ec
      exact ⟨Or.inl e5, Or.inl e6⟩
    · rw [hM _ (by omega) (by omega) (by omega)]; exact q5.1 c2 hc2
  · rw [hM _ (by omega) (by omega) (by omega)]; exact q5.2 r hr2
/-- a state is taken from the saved ones -/
theorem ck.pop {M M1 : cq_M} {b B : Nat} {S : as_T} (h : ck M b S) (hk : as_ok S B) (hn : S_n S ≠ 0) (h1 : M1 = cq_up M b 4 (nI (S_n S - 1))) : ck M1 b (S.1, S.2.1, S_n S - 1, S.2.2.2) ∧ as_ok (S.1, S.2.1, S_n S - 1, S.2.2.2) B := by
  obtain ⟨a1, ⟨od, h2, h3, h4, h5⟩, h6, h7, h8⟩ := h
  have hM : ∀ x, x ≠ b → M1 x = M x := fun x hx => by rw [h1, cq_up_row hx]
  have hn6 := hk.2.2.2.2.1
  refine ⟨⟨a1.fr (fun x k1 k2 => hM x (by omega)) hk.1.1 hk.1.2.1, ⟨od, h2, by rw [h1, cq_up_k (by omega)]; exact h3, by rw [h1, cq_up_s], fun i hi => ?_⟩, ⟨h6.1.fr (fun x k1 k2 => hM x (by omega)), fun i hi => (h6.2.1 i hi).fr (fun x k1 k2 => hM x (by omega)), fun i hi => (h6.2.2 i hi).fr (fun x k1 k2 => hM x (by omega))⟩, fun i hi => ?_, ?_, fun j hj => ?_⟩, hk.1, fun i hi => hk.2.1 i ?_, hk.2.2.1, hk.2.2.2.1, ?_, hk.2.2.2.2.2⟩
  · have hi2 : i < S_n S - 1 := hi
    have := hk.2.1 i (by omega)
    exact (h5 i (by omega)).fr (fun x k1 k2 => hM x (by omega)) this.1 this.2.1
  · obtain ⟨x1, x2⟩ := h7 i hi
    refine ⟨by rw [hM _ (by omega)]; exact x1, fun z => ?_⟩
    have := hk.2.2.1 i hi z
    exact (x2 z).fr (fun x k1 k2 => hM x (by omega)) this.1 this.2.1
  · rw [hM _ (by omega)]; exact h8.1
  · rw [hM _ (by omega)]; exact h8.2 j hj
  · have hi2 : i < S_n S - 1 := hi
    omega
  · show S_n S - 1 ≤ 6
    omega
theorem ck.keep {M M1 : cq_M} {b B i : Nat} {S : as_T} (h : ck M b S) (hk : as_ok S B) (hi : i < 2) (hC : cp_C M M1 (b + 1) (b + 203 + 23 * i) 4) (hR : cp_R M M1 (b + 1) (b + 203 + 23 * i) 8) (hB : cp_B M M1 (b + 1 + 3) (b + 203 + 23 * i + 3)) (hI : cp_I M M1 (b + 1) (b + 203 + 23 * i)) (hf : ∀ x, x ≠ b + 49 → (x < b + 203 + 23 * i ∨ b + 203 + 23 * i + 23 ≤ x) → M1 x = M x) (h49 : ∀ j, j < 2 → M1 (b + 49) j = if j = i then 1 else M (b + 49) j) : ck M1 b (so_keep S i) := by
  obtain ⟨a1, ⟨od, h2, h3, h4, h5⟩, h6, h7, h8⟩ := h
  have hnew := cr_copy a1 hk.1 hC hR hB hI
  have hnewb := cr_copy_bool a1.2.2.2.2 hC hR
  refine ⟨a1.fr (fun x k1 k2 => hf x (by omega) (by omega)) hk.1.1 hk.1.2.1, ⟨od, h2, by rw [hf _ (by omega) (by omega)]; exact h3, by rw [hf _ (by omega) (by omega)]; exact h4, fun i2 hi2 => ?_⟩, ⟨h6.1.fr (fun x k1 k2 => hf x (by omega) (by omega)), fun i2 hi2 => (h6.2.1 i2 hi2).fr (fun x k1 k2 => hf x (by omega) (by omega)), fun i2 hi2 => ?_⟩, fun i2 hi2 => ?_, ?_, fun j hj => ?_⟩
  · have := hk.2.1 i2 hi2
    exact (h5 i2 hi2).fr (fun x k1 k2 => hf x (by omega) (by omega)) this.1 this.2.1
  · by_cases e : i2 = i
    · subst e; exact hnewb
    · exact (h6.2.2 i2 hi2).fr (fun x k1 k2 => hf x (by omega) (by omega))
  · obtain ⟨x1, x2⟩ := h7 i2 hi2
    show M1 (b + 49) i2 = nI (if i2 = i then 1 else S_k S i2) ∧ ((if i2 = i then 1 else S_k S i2) = 1 → cr_st M1 (b + 203 + 23 * i2) (if i2 = i then S.1 else S_s S i2))
    rw [h49 _ hi2]
    by_cases e : i2 = i
    · subst e
      rw [if_pos rfl, if_pos rfl, if_pos rfl]
      exact ⟨rfl, fun _ => hnew⟩
    · rw [if_neg e, if_neg e, if_neg e]
      refine ⟨x1, fun z => ?_⟩
      have := hk.2.2.1 i2 hi2 z
      exact (x2 z).fr (fun x k1 k2 => hf x (by omega) (by omega)) this.1 this.2.1
  · rw [hf _ (by omega) (by omega)]; exact h8.1
  · rw [hf _ (by omega) (by omega)]; exact h8.2 j hj
/-- a change of the buffer -/
theorem ck.text {M M1 : cq_M} {b B n : Nat} {t : Nat → Nat} {S : as_T} (h : ck M b S) (hk : as_ok S B) (hf : ∀ x, x ≠ b + 50 → x ≠ b + 51 → M1 x = M x) (e1 : M1 (b + 50) 1 = nI n) (e2 : ∀ j, j < n → M1 (b + 51) j = nI (t j)) : ck M1 b (so_text S t n) := by
  obtain ⟨a1, ⟨od, h2, h3, h4, h5⟩, h6, h7, h8⟩ := h
  refine ⟨a1.fr (fun x k1 k2 => hf x (by omega) (by omega)) hk.1.1 hk.1.2.1, ⟨od, h2, by rw [hf _ (by omega) (by omega)]; exact h3, by rw [hf _ (by omega) (by omega)]; exact h4, fun i2 hi2 => ?_⟩, ⟨h6.1.fr (fun x k1 k2 => hf x (by omega) (by omega)), fun i2 hi2 => (h6.2.1 i2 hi2).fr (fun x k1 k2 => hf x (by omega) (by omega)), fun i2 hi2 => (h6.2.2 i2 hi2).fr (fun x k1 k2 => hf x (by omega) (by omega))⟩, fun i2 hi2 => ?_, e1, e2⟩
  · have := hk.2.1 i2 hi2
    exact (h5 i2 hi2).fr (fun x k1 k2 => hf x (by omega) (by omega)) this.1 this.2.1
  · obtain ⟨x1, x2⟩ := h7 i2 hi2
    refine ⟨by rw [hf _ (by omega) (by omega)]; exact x1, fun z => ?_⟩
    have := hk.2.2.1 i2 hi2 z
    exact (x2 z).fr (fun x k1 k2 => hf x (by omega) (by omega)) this.1 this.2.1
/-- a kept copy becomes the State `now` -/
theorem ck.back {M M1 : cq_M} {b B o : Nat} {S : as_T} {g : Nat → Nat} (h : ck M b S) (hk : as_ok S B) (ho : cr_st M o g) (hg : ns_ok g B) (hC : cp_C M M1 o (b + 1) 4) (hR : cp_R M M1 o (b + 1) 8) (hB : cp_B M M1 (o + 3) (b + 1 + 3)) (hI : cp_I M M1 o (b + 1)) (hf : cr_fr M M1 (b + 1) 23) : ck M1 b (so_g S g) := h.now hk (cr_copy ho hg hC hR hB hI) hf
/-- a cord is added: its segments so far -/
def ad_R (Ms M2 : cq_M) (b n k q : Nat) : Prop := (∀ x, x ≠ b → x ≠ b + 7 + 2 * n → x ≠ b + 7 + 2 * n + 1 → M2 x = Ms x) ∧ M2 b = cq_up Ms b 1 (nI (n + 1)) b ∧ M2 (b + 7 + 2 * n) 1 = nI k ∧ M2 (b + 7 + 2 * n) 2 = nI (k * q) ∧ M2 (b + 7 + 2 * n) 3 = 0 ∧ M2 (b + 7 + 2 * n) 4 = 0 ∧ M2 (b + 7 + 2 * n) 5 = 0 ∧ M2 (b + 7 + 2 * n) 6 = 0 ∧ M2 (b + 7 + 2 * n) 7 = -1 ∧ ∀ j, j < k → M2 (b + 7 + 2 * n + 1) j = nI q
theorem ad_R.first {M M1 : cq_M} {b n q : Nat} (h : M1 = cq_up (cq_up (cq_up (cq_up (cq_up (cq_up (cq_up (cq_up M (b + 7 + 2 * n) 1 0) (b + 7 + 2 * n) 2 0) (b + 7 + 2 * n) 7 (-1)) (b + 7 + 2 * n) 3 0) (b + 7 + 2 * n) 4 0) (b + 7 + 2 * n) 5 0) (b + 7 + 2 * n) 6 0) b 1 (nI (n + 1))) : ad_R M M1 b n 0 q := by
  subst h
  refine ⟨fun x x1 x2 x3 => ?_, ?_, ?_, ?_, ?_, ?_, ?_, ?_, ?_, fun j hj => absurd hj (by omega)⟩
  · rw [cq_up_row x1, cq_up_row x2, cq_up_row x2, cq_up_row x2, cq_up_row x2, cq_up_row x2, cq_up_row x2, cq_up_row x2]
  · funext j
    by_cases e : j = 1
    · subst e; rw [cq_up_s, cq_up_s]
    · rw [cq_up_k e, cq_up_k e, cq_up_a (by omega), cq_up_a (by omega), cq_up_a (by omega), cq_up_a (by omega), cq_up_a (by omega), cq_up_a (by omega), cq_up_a (by omega)]
  · rw [cq_up_a (by omega), cq_up_k (by omega), cq_up_k (by omega), cq_up_k (by omega), cq_up_k (by omega), cq_up_k (by omega), cq_up_k (by omega), cq_up_s]; rfl
  · rw [cq_up_a (by omega), cq_up_k (by omega), cq_up_k (by omega), cq_up_k (by omega), cq_up_k (by omega), cq_up_k (by omega), cq_up_s, Nat.zero_mul]; rfl
  · rw [cq_up_a (by omega), cq_up_k (by omega), cq_up_k (by omega), cq_up_k (by omega), cq_up_s]
  · rw [cq_up_a (by omega), cq_up_k (by omega), cq_up_k (by omega), cq_up_s]
  · rw [cq_up_a (by omega), cq_up_k (by omega), cq_up_s]
  · rw [cq_up_a (by omega), cq_up_s]
  · rw [cq_up_a (by omega), cq_up_k (by omega), cq_up_k (by omega), cq_up_k (by omega), cq_up_k (by omega), cq_up_s]
theorem ad_R.next {Ms M2 M3 : cq_M} {b n k q : Nat} (h : ad_R Ms M2 b n k q) (h3 : M3 = cq_up (cq_up (cq_up M2 (b + 7 + 2 * n + 1) k (nI q)) (b + 7 + 2 * n) 1 (nI (k + 1))) (b + 7 + 2 * n) 2 (M2 (b + 7 + 2 * n) 2 + nI q)) : ad_R Ms M3 b n (k + 1) q := by
  obtain ⟨a1, a2, a3, a4, a5, a6, a7, a8, a9, a10⟩ := h
  subst h3
  refine ⟨fun x x1 x2 x3 => ?_, ?_, ?_, ?_, ?_, ?_, ?_, ?_, ?_, fun j hj => ?_⟩
  · rw [cq_up_row x2, cq_up_row x2, cq_up_row x3]; exact a1 x x1 x2 x3
  · rw [cq_up_row (by omega), cq_up_row (by omega), cq_up_row (by omega)]; exact a2
  · rw [cq_up_k (by omega), cq_up_s]
  · rw [cq_up_s, a4, nI_add, Nat.add_mul, Nat.one_mul]
  · rw [cq_up_k (by omega), cq_up_k (by omega), cq_up_a (by omega)]; exact a5
  · rw [cq_up_k (by omega), cq_up_k (by omega), cq_up_a (by omega)]; exact a6
  · rw [cq_up_k (by omega), cq_up_k (by omega), cq_up_a (by omega)]; exact a7
  · rw [cq_up_k (by omega), cq_up_k (by omega), cq_up_a (by omega)]; exact a8
  · rw [cq_up_k (by omega), cq_up_k (by omega), cq_up_a (by omega)]; exact a9
  · rw [cq_up_a (by omega), cq_up_a (by omega)]
    by_cases e : j = k
    · subst e; exact cq_up_s _ _ _ _
    · rw [cq_up_k e]; exact a10 j (by omega)
theorem ad_R.fin {Ms M2 : cq_M} {b sg q B : Nat} {g : Nat → Nat} (h : ad_R Ms M2 b (g 6) sg q) (hs : cr_st Ms b g) (hk : ns_ok g B) (hc : g 6 < 4) (h1 : 1 ≤ sg) (h6 : sg ≤ 6) : cr_st M2 b (ns_new g sg (fun _ => q)) ∧ cr_fr Ms M2 b 23 := by
  obtain ⟨a1, a2, a3, a4, a5, a6, a7, a8, a9, a10⟩ := h
  exact hs.newCord hk hc h1 h6 a1 a2 a3 a4 a5 a6 a7 a8 a9 a10
theorem nX1_hasFlame {l : Launch} {D : va_G} {cA : Nat → ClassId} {X : cq_X} {Bs : Nat} {a c : Nat} {g : Nat → Nat} {M : cq_M} (x : Int32) (ha : cq_isCord X a) (h : cr_cord M a g c) (hf : g (16 + 11 * c) ≤ 3) : cq_C l yX1_hasFlame wsX1_hasFlame rmX1_hasFlame D cA X Bs [.ref a, .int x] M (cq_PI (fun r M1 => r = (if ¬ ns_bit (g (16 + 11 * c)) x = 0 then 1 else 0) ∧ M1 = M)) 0 0 :=
  (kX1_hasFlame l D cA X Bs a x M ha h.b5 (h.b6 hf)).impI (fun r M1 hp => ⟨by
    rw [hp.1, h.2.2.2.2.1, h.2.2.2.2.2.1]
    unfold ns_bit
    by_cases hx : x = 0
    · rw [if_pos hx, if_pos hx]
      by_cases h2 : g (16 + 11 * c) / 2 = 0
      · rw [h2, if_neg (by omega)]; rfl
      · rw [show g (16 + 11 * c) / 2 = 1 by omega, if_pos (by omega)]; rfl
    · rw [if_neg hx, if_neg hx]
      by_cases h2 : g (16 + 11 * c) % 2 = 0
      · rw [h2, if_neg (by omega)]; rfl
      · rw [show g (16 + 11 * c) % 2 = 1 by omega, if_pos (by omega)]; rfl, hp.2⟩)
theorem nI_01 {y : Nat} (h : y ≤ 1) : nI y = 0 ∨ nI y = 1 := by
  have h2 : y = 0 ∨ y = 1 := by omega
  rcases h2 with z | z <;> subst z
  · exact Or.inl rfl
  · exact Or.inr rfl
theorem nI_char : ∀ c, c < 128 → vp_nar .char ((nI c).toUInt32 % 65536).toInt32 = nI c := by decide
theorem as_ok.pos {S : as_T} {B : Nat} (h : as_ok S B) : S_n S ≤ 6 ∧ S_l S ≤ 60 := ⟨h.2.2.2.2.1, h.2.2.2.2.2.1⟩
theorem nI_yn {y : Nat} (h : y ≤ 1) : (if nI y = 0 then 0 else 1) = y := by
  have h2 : y = 0 ∨ y = 1 := by omega
  rcases h2 with z | z <;> subst z <;> rfl
