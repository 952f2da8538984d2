/-! facts of the row of counts -/
theorem ns_sum_ext {g g' : Nat → Nat} {b : Nat} : ∀ {n : Nat}, (∀ k, k < n → g (b + k) = g' (b + k)) → ns_sum g b n = ns_sum g' b n
  | 0, _ => rfl
  | n + 1, h => by
    simp only [ns_sum]
    rw [ns_sum_ext (n := n) (fun k hk => h k (by omega)), h n (by omega)]
/-- the cord c is the same in both rows, as far as its segments -/
theorem ns_time_ext {g g' : Nat → Nat} {c : Nat} (hs : g (7 + 11 * c) ≤ 6) (h : ∀ k, 7 + 11 * c ≤ k → k < 14 + 11 * c → g k = g' k) : ns_time g c = ns_time g' c := by
  unfold ns_time
  rw [← h (7 + 11 * c) (by omega) (by omega)]
  exact ns_sum_ext (fun k hk => h _ (by omega) (by omega))
theorem ns_left_ext {g g' : Nat → Nat} {c : Nat} (hs : g (7 + 11 * c) ≤ 6) (h : ∀ k, 7 + 11 * c ≤ k → k < 16 + 11 * c → g k = g' k) : ns_left g c = ns_left g' c := by
  unfold ns_left ns_burned
  rw [ns_time_ext hs (fun k h1 h2 => h k h1 (by omega)), h _ (by omega) (by omega), h _ (by omega) (by omega)]
/-- the same cord -/
theorem ns_cord.ext {g g' : Nat → Nat} {c : Nat} (hq : ns_cord g c) (h : ∀ k, 7 + 11 * c ≤ k → k < 17 + 11 * c → g k = g' k) : ns_cord g' c := by
  obtain ⟨h1, h2, h3, h4, h5⟩ := hq
  have e1 := h (7 + 11 * c) (by omega) (by omega)
  have e2 := ns_time_ext h1.2 (fun k k1 k2 => h k k1 (by omega))
  have e3 := h (14 + 11 * c) (by omega) (by omega)
  have e4 := h (15 + 11 * c) (by omega) (by omega)
  have e5 := h (16 + 11 * c) (by omega) (by omega)
  unfold ns_burned at h3 h5
  refine ⟨⟨by omega, by omega⟩, fun k hk => ?_, ?_, by omega, ?_⟩
  · rw [← h _ (by omega) (by omega)]
    exact h2 k (by omega)
  · unfold ns_burned
    omega
  · unfold ns_burned
    omega
theorem ns_b1 {g : Nat → Nat} {c : Nat} (hq : ns_cord g c) : (∀ k, k ≠ 14 + 11 * c → ns_burn1 g c k = g k) ∧ ns_burn1 g c (14 + 11 * c) = g (14 + 11 * c) + g (16 + 11 * c) % 2 ∧ ns_time (ns_burn1 g c) c = ns_time g c ∧ ns_burned (ns_burn1 g c) c = ns_burned g c + g (16 + 11 * c) % 2 ∧ ns_burned (ns_burn1 g c) c ≤ ns_time g c := by
  have h0 : ∀ k, k ≠ 14 + 11 * c → ns_burn1 g c k = g k := fun k hk => by
    unfold ns_burn1
    split
    · exact ns_up_n hk
    · rfl
  have h1 : ns_burn1 g c (14 + 11 * c) = g (14 + 11 * c) + g (16 + 11 * c) % 2 := by
    unfold ns_burn1
    split
    · rw [ns_up_s]; omega
    · omega
  have h2 : ns_time (ns_burn1 g c) c = ns_time g c := (ns_time_ext hq.1.2 (fun k k1 k2 => (h0 k (by omega)).symm)).symm
  have h3 : ns_burned (ns_burn1 g c) c = ns_burned g c + g (16 + 11 * c) % 2 := by
    unfold ns_burned
    rw [h1, h0 _ (by omega)]
    omega
  obtain ⟨-, -, q3, q4, q5⟩ := hq
  refine ⟨h0, h1, h2, h3, ?_⟩
  rw [h3]
  by_cases hz : g (16 + 11 * c) = 0
  · rw [hz]; simpa using q3
  · have := q5 hz
    omega
theorem ns_b2 {g : Nat → Nat} {c : Nat} (hq : ns_cord g c) : (∀ k, k ≠ 14 + 11 * c → k ≠ 15 + 11 * c → ns_burn2 g c k = g k) ∧ ns_time (ns_burn2 g c) c = ns_time g c ∧ ns_burned (ns_burn2 g c) c ≤ ns_time g c := by
  obtain ⟨h0, h1, h2, h3, h4⟩ := ns_b1 hq
  have k0 : ∀ k, k ≠ 15 + 11 * c → ns_burn2 g c k = ns_burn1 g c k := fun k hk => by
    unfold ns_burn2
    split
    · exact ns_up_n hk
    · rfl
  have k2 : ns_time (ns_burn2 g c) c = ns_time g c := by
    rw [← h2]
    exact (ns_time_ext (by rw [h0 _ (by omega)]; exact hq.1.2) (fun k k1 k2 => (k0 k (by omega)).symm)).symm
  refine ⟨fun k a b => by rw [k0 k b, h0 k a], k2, ?_⟩
  unfold ns_burned
  rw [k0 _ (by omega)]
  unfold ns_burn2
  split
  · rename_i hz
    rw [ns_up_s]
    have h5 := hz.2
    unfold ns_left at h5
    rw [h2] at h5
    unfold ns_burned at h5 h4
    omega
  · unfold ns_burned at h4
    exact h4
