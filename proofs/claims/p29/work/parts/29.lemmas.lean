/-! facts of the row of counts -/
theorem ns_sum_ext {g g' : Nat → Nat} {b : Nat} : ∀ {n : Nat}, (∀ k, k < n → g (b + k) = g' (b + k)) → ns_sum g b n = ns_sum g' b n
  | 0, _ => rfl
  | n + 1, h => by
    simp only [ns_sum]
    rw [ns_sum_ext (n := n) (fun k hk => h k (by omega)), h n (by omega)]
/-- the cord c is the same in both rows, as far as its segments -/
theorem ns_time_ext {g g' : Nat → Nat} {c : Nat} (hs : g (7 + 11 * c) ≤ 6) (h : ∀ k, 7 + 11 * c ≤ k → k < 14 + 11 * c → g k = g' k) : ns_time g c = ns_time g' c := by
  unfold ns_time
  rw [← h (7 + 11 * c) (by omega) (by omega)]
  exact ns_sum_ext (fun k hk => h _ (by omega) (by omega))
theorem ns_left_ext {g g' : Nat → Nat} {c : Nat} (hs : g (7 + 11 * c) ≤ 6) (h : ∀ k, 7 + 11 * c ≤ k → k < 16 + 11 * c → g k = g' k) : ns_left g c = ns_left g' c := by
  unfold ns_left ns_burned
  rw [ns_time_ext hs (fun k h1 h2 => h k h1 (by omega)), h _ (by omega) (by omega), h _ (by omega) (by omega)]
/-- the same cord -/
theorem ns_cord.ext {g g' : Nat → Nat} {c : Nat} (hq : ns_cord g c) (h : ∀ k, 7 + 11 * c ≤ k → k < 17 + 11 * c → g k = g' k) : ns_cord g' c := by
  obtain ⟨h1, h2, h3, h4, h5⟩ := hq
  have e1 := h (7 + 11 * c) (by omega) (by omega)
  have e2 := ns_time_ext h1.2 (fun k k1 k2 => h k k1 (by omega))
  have e3 := h (14 + 11 * c) (by omega) (by omega)
  have e4 := h (15 + 11 * c) (by omega) (by omega)
  have e5 := h (16 + 11 * c) (by omega) (by omega)
  unfold ns_burned at h3 h5
  refine ⟨⟨by omega, by omega⟩, fun k hk => ?_, ?_, by omega, ?_⟩
  · rw [← h _ (by omega) (by omega)]
    exact h2 k (by omega)
  · unfold ns_burned
    omega
  · unfold ns_burned
    omega
theorem ns_b1 {g : Nat → Nat} {c : Nat} (hq : ns_cord g c) : (∀ k, k ≠ 14 + 11 * c → ns_burn1 g c k = g k) ∧ ns_burn1 g c (14 + 11 * c) = g (14 + 11 * c) + g (16 + 11 * c) % 2 ∧ ns_time (ns_burn1 g c) c = ns_time g c ∧ ns_burned (ns_burn1 g c) c = ns_burned g c + g (16 + 11 * c) % 2 ∧ ns_burned (ns_burn1 g c) c ≤ ns_time g c := by
  have h0 : ∀ k, k ≠ 14 + 11 * c → ns_burn1 g c k = g k := fun k hk => by
    unfold ns_burn1
    split
    · exact ns_up_n hk
    · rfl
  have h1 : ns_burn1 g c (14 + 11 * c) = g (14 + 11 * c) + g (16 + 11 * c) % 2 := by
    unfold ns_burn1
    split
    · rw [ns_up_s]; omega
    · omega
  have h2 : ns_time (ns_burn1 g c) c = ns_time g c := (ns_time_ext hq.1.2 (fun k k1 k2 => (h0 k (by omega)).symm)).symm
  have h3 : ns_burned (ns_burn1 g c) c = ns_burned g c + g (16 + 11 * c) % 2 := by
    unfold ns_burned
    rw [h1, h0 _ (by omega)]
    omega
  obtain ⟨-, -, q3, q4, q5⟩ := hq
  refine ⟨h0, h1, h2, h3, ?_⟩
  rw [h3]
  by_cases hz : g (16 + 11 * c) = 0
  · rw [hz]; simpa using q3
  · have := q5 hz
    omega
theorem ns_b2 {g : Nat → Nat} {c : Nat} (hq : ns_cord g c) : (∀ k, k ≠ 14 + 11 * c → k ≠ 15 + 11 * c → ns_burn2 g c k = g k) ∧ ns_time (ns_burn2 g c) c = ns_time g c ∧ ns_burned (ns_burn2 g c) c ≤ ns_time g c := by
  obtain ⟨h0, h1, h2, h3, h4⟩ := ns_b1 hq
  have k0 : ∀ k, k ≠ 15 + 11 * c → ns_burn2 g c k = ns_burn1 g c k := fun k hk => by
    unfold ns_burn2
    split
    · exact ns_up_n hk
    · rfl
  have k2 : ns_time (ns_burn2 g c) c = ns_time g c := by
    rw [← h2]
    exact (ns_time_ext (by rw [h0 _ (by omega)]; exact hq.1.2) (fun k k1 k2 => (k0 k (by omega)).symm)).symm
  refine ⟨fun k a b => by rw [k0 k b, h0 k a], k2, ?_⟩
  unfold ns_burned
  rw [k0 _ (by omega)]
  unfold ns_burn2
  split
  · rename_i hz
    rw [ns_up_s]
    have h5 := hz.2
    unfold ns_left at h5
    rw [h2] at h5
    unfold ns_burned at h5 h4
    omega
  · unfold ns_burned at h4
    exact h4
theorem ns_write_n {g : Nat → Nat} {kd c k : Nat} (h : k < 84 ∨ 108 < k) : ns_write g kd c k = g k := by
  unfold ns_write
  rw [if_neg (by omega), if_neg (by omega), if_neg (by omega), if_neg (by omega), if_neg (by omega)]
/-- places of which ns_ok says nothing -/
def ns_free (k : Nat) : Prop := k = 1 ∨ k = 2 ∨ k = 3 ∨ (∃ c, c < 4 ∧ k = 17 + 11 * c) ∨ ∃ r, r < 8 ∧ k = 55 + 4 * r
theorem ns_ok.ext {g g' : Nat → Nat} {B : Nat} (h : ns_ok g B) (e : ∀ k, ¬ ns_free k → g k = g' k) : ns_ok g' B := by
  obtain ⟨h1, h2, h3, h4, h5, h6, h7, h8, h9⟩ := h
  have f : ∀ k, (∀ c, c < 4 → k ≠ 17 + 11 * c) → (∀ r, r < 8 → k ≠ 55 + 4 * r) → k ≠ 1 → k ≠ 2 → k ≠ 3 → g k = g' k := by
    intro k a b c1 c2 c3
    refine e k (fun z => ?_)
    rcases z with z | z | z | ⟨c, hc, z⟩ | ⟨r, hr, z⟩
    · exact c1 z
    · exact c2 z
    · exact c3 z
    · exact a c hc z
    · exact b r hr z
  have e6 := f 6 (by intros; omega) (by intros; omega) (by omega) (by omega) (by omega)
  have e51 := f 51 (by intros; omega) (by intros; omega) (by omega) (by omega) (by omega)
  have e84 := f 84 (by intros; omega) (by intros; omega) (by omega) (by omega) (by omega)
  have e0 := f 0 (by intros; omega) (by intros; omega) (by omega) (by omega) (by omega)
  have e4 := f 4 (by intros; omega) (by intros; omega) (by omega) (by omega) (by omega)
  have e5 := f 5 (by intros; omega) (by intros; omega) (by omega) (by omega) (by omega)
  refine ⟨by omega, by omega, by omega, fun c hc => ?_, fun r hr => ?_, fun i hi => ?_, by omega, by omega, by omega⟩
  · have hc4 : c < 4 := by omega
    refine (h4 c (by omega)).ext (fun k k1 k2 => f k (fun c2 hc2 => ?_) (fun r hr => ?_) (by omega) (by omega) (by omega))
    · omega
    · omega
  · rw [← f (52 + 4 * r) (by intros; omega) (by intros; omega) (by omega) (by omega) (by omega), ← f (53 + 4 * r) (by intros; omega) (by intros; omega) (by omega) (by omega) (by omega), ← f (54 + 4 * r) (by intros; omega) (by intros; omega) (by omega) (by omega) (by omega), ← e6]
    exact h5 r (by omega)
  · rw [← f (85 + 3 * i) (by intros; omega) (by intros; omega) (by omega) (by omega) (by omega), ← f (86 + 3 * i) (by intros; omega) (by intros; omega) (by omega) (by omega) (by omega), ← f (87 + 3 * i) (by intros; omega) (by intros; omega) (by omega) (by omega) (by omega), ← e0]
    exact h6 i (by omega)
theorem ns_ok.free {g : Nat → Nat} {B k v : Nat} (h : ns_ok g B) (hk : ns_free k) : ns_ok (ns_up g k v) B :=
  h.ext (fun j hj => (ns_up_n (fun z => hj (by rw [z]; exact hk))).symm)
theorem ns_ok.write {g : Nat → Nat} {B kd c : Nat} (h : ns_ok g B) (hk : kd ≤ 2) (hc : c < 4) : ns_ok (ns_write g kd c) B := by
  obtain ⟨h1, h2, h3, h4, h5, h6, h7, h8, h9⟩ := h
  have e : ∀ k, k < 84 → ns_write g kd c k = g k := fun k z => ns_write_n (Or.inl z)
  have e84 : ns_write g kd c 84 = if g 84 < 8 then g 84 + 1 else 8 := by simp [ns_write]
  refine ⟨by rw [e _ (by omega)]; exact h1, by rw [e _ (by omega)]; exact h2, by rw [e84]; split <;> omega, fun c2 hc2 => ?_, fun r hr => ?_, fun i hi => ?_, by rw [e _ (by omega)]; exact h7, by rw [e _ (by omega)]; exact h8, by rw [e _ (by omega)]; exact h9⟩
  · rw [e _ (by omega)] at hc2
    exact (h4 c2 hc2).ext (fun k k1 k2 => (e k (by omega)).symm)
  · rw [e _ (by omega)] at hr
    rw [e _ (by omega), e _ (by omega), e _ (by omega), e _ (by omega)]
    exact h5 r hr
  · rw [e84] at hi
    have hi8 : i < 8 := by split at hi <;> omega
    rw [e 0 (by omega)]
    cases i with
    | zero => simp [ns_write]; omega
    | succ j =>
      have hj : j < g 84 := by split at hi <;> omega
      have h10 := h6 j hj
      have w : ∀ q, q < 3 → ns_write g kd c (85 + 3 * (j + 1) + q) = g (85 + 3 * j + q) := by
        intro q hq
        unfold ns_write
        rw [if_neg (by omega), if_neg (by omega), if_neg (by omega), if_pos (by omega)]
        congr 1
        omega
      have w0 := w 0 (by omega)
      have w1 := w 1 (by omega)
      have w2 := w 2 (by omega)
      rw [show 86 + 3 * (j + 1) = 85 + 3 * (j + 1) + 1 by omega, show 87 + 3 * (j + 1) = 85 + 3 * (j + 1) + 2 by omega, show 85 + 3 * (j + 1) = 85 + 3 * (j + 1) + 0 by omega, w0, w1, w2]
      exact ⟨h10.1, by rw [show 85 + 3 * j + 1 = 86 + 3 * j by omega]; exact h10.2.1, by rw [show 85 + 3 * j + 2 = 87 + 3 * j by omega]; exact h10.2.2⟩
theorem ns_ok.flame {g : Nat → Nat} {B c f : Nat} (h : ns_ok g B) (hc : c < g 6) (hf : f ≤ 3) (hz : f ≠ 0 → ns_burned g c < ns_time g c) : ns_ok (ns_up g (16 + 11 * c) f) B := by
  obtain ⟨h1, h2, h3, h4, h5, h6, h7, h8, h9⟩ := h
  have hc4 : c < 4 := by omega
  have e : ∀ k, k ≠ 16 + 11 * c → ns_up g (16 + 11 * c) f k = g k := fun k z => ns_up_n z
  refine ⟨by rw [e _ (by omega)]; exact h1, by rw [e _ (by omega)]; exact h2, by rw [e _ (by omega)]; exact h3, fun c2 hc2 => ?_, fun r hr => ?_, fun i hi => ?_, by rw [e _ (by omega)]; exact h7, by rw [e _ (by omega)]; exact h8, by rw [e _ (by omega)]; exact h9⟩
  · rw [e _ (by omega)] at hc2
    by_cases hcc : c2 = c
    · subst hcc
      obtain ⟨q1, q2, q3, q4, q5⟩ := h4 c2 hc2
      have t : ns_time (ns_up g (16 + 11 * c2) f) c2 = ns_time g c2 := (ns_time_ext q1.2 (fun k k1 k2 => (e k (by omega)).symm)).symm
      have b : ns_burned (ns_up g (16 + 11 * c2) f) c2 = ns_burned g c2 := by unfold ns_burned; rw [e _ (by omega), e _ (by omega)]
      refine ⟨by rw [e _ (by omega)]; exact q1, fun k hk => ?_, by rw [t, b]; exact q3, by rw [ns_up_s]; exact hf, fun z => ?_⟩
      · rw [e _ (by omega)] at hk
        rw [e _ (by omega)]
        exact q2 k hk
      · rw [ns_up_s] at z
        rw [t, b]
        exact hz z
    · exact (h4 c2 hc2).ext (fun k k1 k2 => (e k (by omega)).symm)
  · rw [e _ (by omega)] at hr
    rw [e _ (by omega), e _ (by omega), e _ (by omega), e _ (by omega)]
    exact h5 r hr
  · rw [e _ (by omega)] at hi
    rw [e _ (by omega), e _ (by omega), e _ (by omega), e _ (by omega)]
    exact h6 i hi
theorem ns_bit_le {f : Nat} {x : Int32} (hf : f ≤ 3) (h : ns_bit f x = 0) : f + ns_side x ≤ 3 := by
  unfold ns_bit at h
  unfold ns_side
  split at h <;> split <;> first | omega | (exfalso; simp_all)
theorem ns_ok.light {g : Nat → Nat} {B c : Nat} {x : Int32} (h : ns_ok g B) (hc : c < g 6) (hl : ns_canLight g c x) : ns_ok (ns_lightNow g c x) B := by
  have hq := h.2.2.2.1 c hc
  have h6 := h.1
  unfold ns_lightNow
  refine ns_ok.write (ns_ok.free (ns_ok.flame h hc (ns_bit_le hq.2.2.2.1 hl.2) (fun _ => ?_)) (Or.inr (Or.inl rfl))) (by split <;> omega) (by omega)
  have := hl.1
  unfold ns_left at this
  omega
/-- what a lighting leaves as it is -/
theorem ns_light_n {g : Nat → Nat} {c k : Nat} {x : Int32} (h : k < 84) (h2 : k ≠ 2) (h3 : k ≠ 16 + 11 * c) : ns_lightNow g c x k = g k := by
  unfold ns_lightNow
  rw [ns_write_n (Or.inl h), ns_up_n h2, ns_up_n h3]
theorem ns_rule1_n {g : Nat → Nat} {c r k : Nat} (hc : g (53 + 4 * r) < 4) (h : k < 84) (h2 : k ≠ 2) (h3 : ∀ c, c < 4 → k ≠ 16 + 11 * c) (h4 : k ≠ 55 + 4 * r) : ns_rule1 g c r k = g k := by
  unfold ns_rule1
  split
  · rw [ns_up_n h4, ns_light_n h h2 (h3 _ hc)]
  · rfl
theorem ns_ok.rule1 {g : Nat → Nat} {B c r : Nat} (h : ns_ok g B) (hr : r < g 51) : ns_ok (ns_rule1 g c r) B := by
  unfold ns_rule1
  have h51 := h.2.1
  split
  · rename_i hz
    exact (h.light (h.2.2.2.2.1 r hr).2.1 hz.2).free (Or.inr (Or.inr (Or.inr (Or.inr ⟨r, by omega, rfl⟩))))
  · exact h
theorem ns_rules_ok {g : Nat → Nat} {B c : Nat} (h : ns_ok g B) : ∀ n, n ≤ g 51 → ns_ok (ns_rules g c n) B ∧ ∀ k, k < 84 → k ≠ 2 → (∀ c, c < 4 → k ≠ 16 + 11 * c) → (∀ r, r < 8 → k ≠ 55 + 4 * r) → ns_rules g c n k = g k
  | 0, _ => ⟨h, fun _ _ _ _ _ => rfl⟩
  | n + 1, hn => by
    obtain ⟨h1, h2⟩ := ns_rules_ok (c := c) h n (by omega)
    have h51 := h.2.1
    have e51 := h2 51 (by omega) (by omega) (by intros; omega) (by intros; omega)
    have hr := h1.2.2.2.2.1 n (by omega)
    have h6 := h1.1
    refine ⟨h1.rule1 (by omega), fun k a b c1 d => ?_⟩
    show ns_rule1 (ns_rules g c n) c n k = g k
    rw [ns_rule1_n (by omega) a b c1 (d n (by omega)), h2 k a b c1 d]
theorem ns_sig0_ok {g : Nat → Nat} {B c : Nat} (h : ns_ok g B) (hc : c < g 6) : ns_ok (ns_sig0 g c) B ∧ ∀ k, k < 84 → k ≠ 1 → k ≠ 17 + 11 * c → ns_sig0 g c k = g k := by
  have h6 := h.1
  refine ⟨((h.free (Or.inl rfl)).free (Or.inr (Or.inr (Or.inr (Or.inl ⟨c, by omega, rfl⟩))))).write (by omega) (by omega), fun k a b d => ?_⟩
  unfold ns_sig0
  rw [ns_write_n (Or.inl a), ns_up_n d, ns_up_n b]
theorem ns_signal_ok {g : Nat → Nat} {B c : Nat} (h : ns_ok g B) (hc : c < g 6) : ns_ok (ns_signal g c) B ∧ ∀ k, k < 84 → k ≠ 1 → k ≠ 2 → (∀ c, c < 4 → k ≠ 16 + 11 * c) → (∀ c, c < 4 → k ≠ 17 + 11 * c) → (∀ r, r < 8 → k ≠ 55 + 4 * r) → ns_signal g c k = g k := by
  have h6 := h.1
  obtain ⟨h1, h2⟩ := ns_sig0_ok h hc
  have e51 := h2 51 (by omega) (by omega) (by omega)
  obtain ⟨h3, h4⟩ := ns_rules_ok (c := c) h1 (g 51) (by omega)
  refine ⟨h3, fun k a b c1 d d2 d3 => ?_⟩
  show ns_rules (ns_sig0 g c) c (g 51) k = g k
  rw [h4 k a c1 d d3, h2 k a b (d2 c (by omega))]
theorem ns_s4_at (g : Nat → Nat) : ns_s4 g 0 = g 0 + 1 ∧ ns_s4 g 3 = g 3 + (if 0 < ns_flames g (g 6) then 1 else 0) ∧ ns_s4 g 4 = (if 0 < ns_flames g (g 6) then 0 else g 4 + 1) ∧ ns_s4 g 5 = (if ns_s2 g 5 < ns_s2 g 4 then ns_s2 g 4 else ns_s2 g 5) ∧ ns_s2 g 4 = (if 0 < ns_flames g (g 6) then 0 else g 4 + 1) ∧ ns_s2 g 5 = g 5 ∧ ∀ k, k ≠ 0 → k ≠ 3 → k ≠ 4 → k ≠ 5 → ns_s4 g k = g k := by
  refine ⟨ns_up_s _ _ _, ?_, ?_, ?_, ns_up_s _ _ _, ?_, fun k a b c d => ?_⟩
  · unfold ns_s4 ns_s3 ns_s2 ns_s1
    rw [ns_up_n (by omega), ns_up_n (by omega), ns_up_n (by omega), ns_up_s]
  · unfold ns_s4 ns_s3
    rw [ns_up_n (by omega), ns_up_n (by omega)]
    exact ns_up_s _ _ _
  · unfold ns_s4 ns_s3
    rw [ns_up_n (by omega), ns_up_s]
  · unfold ns_s2 ns_s1
    rw [ns_up_n (by omega), ns_up_n (by omega)]
  · unfold ns_s4 ns_s3 ns_s2 ns_s1
    rw [ns_up_n a, ns_up_n d, ns_up_n c, ns_up_n b]
theorem ns_s4_ok {g : Nat → Nat} {B : Nat} (h : ns_ok g B) : ns_ok (ns_s4 g) (B + 1) := by
  obtain ⟨a0, a3, a4, a5, b4, b5, e⟩ := ns_s4_at g
  obtain ⟨h1, h2, h3, h4, h5, h6, h7, h8, h9⟩ := h
  refine ⟨by rw [e _ (by omega) (by omega) (by omega) (by omega)]; exact h1, by rw [e _ (by omega) (by omega) (by omega) (by omega)]; exact h2, by rw [e _ (by omega) (by omega) (by omega) (by omega)]; exact h3, fun c hc => ?_, fun r hr => ?_, fun i hi => ?_, by omega, ?_, ?_⟩
  · rw [e _ (by omega) (by omega) (by omega) (by omega)] at hc
    exact (h4 c hc).ext (fun k k1 k2 => (e k (by omega) (by omega) (by omega) (by omega)).symm)
  · rw [e _ (by omega) (by omega) (by omega) (by omega)] at hr
    rw [e _ (by omega) (by omega) (by omega) (by omega), e _ (by omega) (by omega) (by omega) (by omega), e _ (by omega) (by omega) (by omega) (by omega), e _ (by omega) (by omega) (by omega) (by omega)]
    exact h5 r hr
  · rw [e _ (by omega) (by omega) (by omega) (by omega)] at hi
    rw [e (85 + 3 * i) (by omega) (by omega) (by omega) (by omega), e (86 + 3 * i) (by omega) (by omega) (by omega) (by omega), e (87 + 3 * i) (by omega) (by omega) (by omega) (by omega), a0]
    have := h6 i hi
    exact ⟨this.1, by omega, this.2.2⟩
  · rw [a4]; split <;> omega
  · rw [a5, b4, b5]
    split <;> split <;> omega
theorem ns_bstep_ok {g : Nat → Nat} {B c : Nat} (h : ns_ok g B) (hc : c < g 6) : ns_ok (ns_bstep g c) B ∧ ∀ k, k ≠ 14 + 11 * c → k ≠ 15 + 11 * c → k ≠ 16 + 11 * c → ns_bstep g c k = g k := by
  have hq := h.2.2.2.1 c hc
  obtain ⟨b1, b2, b3⟩ := ns_b2 hq
  have e : ∀ k, k ≠ 14 + 11 * c → k ≠ 15 + 11 * c → k ≠ 16 + 11 * c → ns_bstep g c k = g k := fun k k1 k2 k3 => by
    unfold ns_bstep
    split
    · rw [ns_up_n k3, b1 k k1 k2]
    · exact b1 k k1 k2
  have h6 := h.1
  refine ⟨⟨by rw [e _ (by omega) (by omega) (by omega)]; exact h.1, by rw [e _ (by omega) (by omega) (by omega)]; exact h.2.1, by rw [e _ (by omega) (by omega) (by omega)]; exact h.2.2.1, fun c2 hc2 => ?_, fun r hr => ?_, fun i hi => ?_, by rw [e _ (by omega) (by omega) (by omega)]; exact h.2.2.2.2.2.2.1, by rw [e _ (by omega) (by omega) (by omega)]; exact h.2.2.2.2.2.2.2.1, by rw [e _ (by omega) (by omega) (by omega)]; exact h.2.2.2.2.2.2.2.2⟩, e⟩
  · rw [e _ (by omega) (by omega) (by omega)] at hc2
    by_cases hcc : c2 = c
    · subst hcc
      obtain ⟨q1, q2, q3, q4, q5⟩ := hq
      have t : ns_time (ns_bstep g c2) c2 = ns_time g c2 := (ns_time_ext q1.2 (fun k k1 k2 => (e k (by omega) (by omega) (by omega)).symm)).symm
      have bb : ns_burned (ns_bstep g c2) c2 = ns_burned (ns_burn2 g c2) c2 := by
        unfold ns_burned ns_bstep
        split
        · rw [ns_up_n (by omega), ns_up_n (by omega)]
        · rfl
      refine ⟨by rw [e _ (by omega) (by omega) (by omega)]; exact q1, fun k hk => ?_, by rw [t, bb]; exact b3, ?_, fun z => ?_⟩
      · rw [e _ (by omega) (by omega) (by omega)] at hk
        rw [e _ (by omega) (by omega) (by omega)]
        exact q2 k hk
      · unfold ns_bstep
        split
        · rw [ns_up_s]; omega
        · rw [b1 _ (by omega) (by omega)]; exact q4
      · rw [t, bb]
        unfold ns_bstep at z
        split at z
        · rw [ns_up_s] at z; exact absurd rfl z
        · rename_i hz
          rw [b1 _ (by omega) (by omega)] at z
          have : ¬ ns_left (ns_burn2 g c2) c2 = 0 := fun w => hz ⟨z, w⟩
          unfold ns_left at this
          rw [b2] at this
          omega
    · exact (h.2.2.2.1 c2 hc2).ext (fun k k1 k2 => (e k (by omega) (by omega) (by omega)).symm)
  · rw [e _ (by omega) (by omega) (by omega)] at hr
    have h51 := h.2.1
    rw [e _ (by omega) (by omega) (by omega), e _ (by omega) (by omega) (by omega), e _ (by omega) (by omega) (by omega), e _ (by omega) (by omega) (by omega)]
    exact h.2.2.2.2.1 r hr
  · rw [e _ (by omega) (by omega) (by omega)] at hi
    rw [e _ (by omega) (by omega) (by omega), e _ (by omega) (by omega) (by omega), e _ (by omega) (by omega) (by omega), e _ (by omega) (by omega) (by omega)]
    exact h.2.2.2.2.2.1 i hi
theorem ns_bA_ok {g : Nat → Nat} {B : Nat} (h : ns_ok g B) : ∀ n, n ≤ g 6 → ns_ok (ns_bA g n) B ∧ (∀ k, (∀ c, c < 4 → k ≠ 14 + 11 * c ∧ k ≠ 15 + 11 * c ∧ k ≠ 16 + 11 * c) → ns_bA g n k = g k) ∧ ns_bS g n < 2 ^ n
  | 0, _ => ⟨h, fun _ _ => rfl, by simp [ns_bS]⟩
  | n + 1, hn => by
    obtain ⟨h1, h2, h3⟩ := ns_bA_ok h n (by omega)
    have h6 := h.1
    have e6 := h2 6 (by intros; omega)
    obtain ⟨h4, h5⟩ := ns_bstep_ok h1 (c := n) (by omega)
    refine ⟨h4, fun k hk => ?_, ?_⟩
    · have := hk n (by omega)
      show ns_bstep (ns_bA g n) n k = g k
      rw [h5 k this.1 this.2.1 this.2.2, h2 k hk]
    · simp only [ns_bS]
      rw [Nat.pow_succ]
      split <;> omega
theorem ns_signal_1 {g : Nat → Nat} {B c : Nat} (h : ns_ok g B) (hc : c < g 6) : ns_signal g c 1 = g 1 + 1 := by
  obtain ⟨h1, h2⟩ := ns_sig0_ok h hc
  have h6 := h.1
  have e51 := h2 51 (by omega) (by omega) (by omega)
  obtain ⟨h3, h4⟩ := ns_rules_ok (c := c) h1 (g 51) (by omega)
  show ns_rules (ns_sig0 g c) c (g 51) 1 = g 1 + 1
  rw [h4 1 (by omega) (by omega) (by intros; omega) (by intros; omega)]
  unfold ns_sig0
  rw [ns_write_n (by omega), ns_up_n (by omega), ns_up_s]
theorem ns_sA_ok {g : Nat → Nat} {B S : Nat} (h : ns_ok g B) : ∀ n, n ≤ g 6 → ns_ok (ns_sA g S n) B ∧ ns_sA g S n 6 = g 6 ∧ ns_sA g S n 0 = g 0 ∧ ns_sA g S n 1 = g 1 + ns_cnt S n
  | 0, _ => ⟨h, rfl, rfl, rfl⟩
  | n + 1, hn => by
    obtain ⟨h1, h2, h3, h4⟩ := ns_sA_ok (S := S) h n (by omega)
    obtain ⟨h5, h7⟩ := ns_signal_ok h1 (c := n) (by omega)
    have h8 := ns_signal_1 h1 (c := n) (by omega)
    simp only [ns_sA, ns_cnt]
    split
    · refine ⟨h5, ?_, ?_, by omega⟩
      · rw [h7 6 (by omega) (by omega) (by omega) (by intros; omega) (by intros; omega) (by intros; omega), h2]
      · rw [h7 0 (by omega) (by omega) (by omega) (by intros; omega) (by intros; omega) (by intros; omega), h3]
    · exact ⟨h1, h2, h3, by omega⟩
theorem ns_step_ok {g : Nat → Nat} {B : Nat} (h : ns_ok g B) : ns_ok (ns_step g) (B + 1) ∧ ns_step g 6 = g 6 ∧ ns_step g 0 = g 0 + 1 := by
  have h1 := ns_s4_ok h
  obtain ⟨a0, -, -, -, -, -, e⟩ := ns_s4_at g
  have e6 := e 6 (by omega) (by omega) (by omega) (by omega)
  obtain ⟨h2, h3, -⟩ := ns_bA_ok h1 (g 6) (by omega)
  have f6 := h3 6 (by intros; omega)
  have f0 := h3 0 (by intros; omega)
  obtain ⟨h4, h5, h6, -⟩ := ns_sA_ok (S := ns_bS (ns_s4 g) (g 6)) h2 (g 6) (by omega)
  exact ⟨h4, by show ns_sA _ _ _ 6 = _; omega, by show ns_sA _ _ _ 0 = _; omega⟩
theorem ns_cnt_le {S : Nat} : ∀ n, ns_cnt S n ≤ n
  | 0 => Nat.le_refl _
  | n + 1 => by
    have := ns_cnt_le (S := S) n
    simp only [ns_cnt]
    omega
theorem ns_steps_ok {g : Nat → Nat} {B : Nat} (h : ns_ok g B) : ∀ n, ns_ok (ns_steps g n) (B + n) ∧ ns_steps g n 6 = g 6 ∧ ns_steps g n 0 = g 0 + n ∧ ns_sigsN g n ≤ 4 * n
  | 0 => ⟨h, rfl, rfl, by simp [ns_sigsN]⟩
  | n + 1 => by
    obtain ⟨h1, h2, h3, h4⟩ := ns_steps_ok h n
    obtain ⟨h5, h6, h7⟩ := ns_step_ok h1
    have h8 := ns_cnt_le (S := ns_bS (ns_s4 (ns_steps g n)) (ns_steps g n 6)) (ns_steps g n 6)
    have h9 := h1.1
    refine ⟨h5, by show ns_step _ 6 = _; omega, by show ns_step _ 0 = _; omega, ?_⟩
    simp only [ns_sigsN, ns_sigs]
    omega
theorem ns_bstep_at {g : Nat → Nat} {c : Nat} (hq : ns_cord g c) : ns_bstep g c (14 + 11 * c) = g (14 + 11 * c) + g (16 + 11 * c) % 2 ∧ ns_bstep g c (15 + 11 * c) = g (15 + 11 * c) + (if g (16 + 11 * c) / 2 = 1 ∧ g (14 + 11 * c) + g (16 + 11 * c) % 2 + g (15 + 11 * c) < ns_time g c then 1 else 0) ∧ ns_bstep g c (16 + 11 * c) = (if ns_outs g c then 0 else g (16 + 11 * c)) ∧ (∀ k, k ≠ 14 + 11 * c → k ≠ 15 + 11 * c → k ≠ 16 + 11 * c → ns_bstep g c k = g k) ∧ (ns_outs g c ↔ g (16 + 11 * c) ≠ 0 ∧ g (14 + 11 * c) + g (16 + 11 * c) % 2 + (g (15 + 11 * c) + (if g (16 + 11 * c) / 2 = 1 ∧ g (14 + 11 * c) + g (16 + 11 * c) % 2 + g (15 + 11 * c) < ns_time g c then 1 else 0)) = ns_time g c) ∧ ns_time (ns_bstep g c) c = ns_time g c := by
  obtain ⟨b1, b2, b3, b4, b5⟩ := ns_b1 hq
  obtain ⟨k1, k2, k3⟩ := ns_b2 hq
  have hT : ns_left (ns_burn1 g c) c = ns_time g c - (g (14 + 11 * c) + g (16 + 11 * c) % 2 + g (15 + 11 * c)) := by
    unfold ns_left
    rw [b3, b4]
    unfold ns_burned
    omega
  have e14 : ns_burn2 g c (14 + 11 * c) = g (14 + 11 * c) + g (16 + 11 * c) % 2 := by
    unfold ns_burn2
    split
    · rw [ns_up_n (by omega), b2]
    · exact b2
  have e15 : ns_burn2 g c (15 + 11 * c) = g (15 + 11 * c) + (if g (16 + 11 * c) / 2 = 1 ∧ g (14 + 11 * c) + g (16 + 11 * c) % 2 + g (15 + 11 * c) < ns_time g c then 1 else 0) := by
    unfold ns_burn2
    rw [hT]
    by_cases hz : g (16 + 11 * c) / 2 = 1 ∧ g (14 + 11 * c) + g (16 + 11 * c) % 2 + g (15 + 11 * c) < ns_time g c
    · rw [if_pos hz, if_pos ⟨hz.1, by omega⟩, ns_up_s, b1 _ (by omega)]
    · rw [if_neg hz, if_neg (fun w => hz ⟨w.1, by omega⟩), b1 _ (by omega)]
      rfl
  have ho : ns_outs g c ↔ g (16 + 11 * c) ≠ 0 ∧ g (14 + 11 * c) + g (16 + 11 * c) % 2 + (g (15 + 11 * c) + (if g (16 + 11 * c) / 2 = 1 ∧ g (14 + 11 * c) + g (16 + 11 * c) % 2 + g (15 + 11 * c) < ns_time g c then 1 else 0)) = ns_time g c := by
    have : ns_left (ns_burn2 g c) c = ns_time g c - (ns_burn2 g c (14 + 11 * c) + ns_burn2 g c (15 + 11 * c)) := by
      unfold ns_left
      rw [k2]
      rfl
    unfold ns_burned at k3
    unfold ns_outs
    rw [this, ← e15, ← e14]
    constructor
    · intro h; exact ⟨h.1, by omega⟩
    · intro h; exact ⟨h.1, by omega⟩
  refine ⟨?_, ?_, ?_, fun k a1 a2 a3 => ?_, ho, ?_⟩
  · unfold ns_bstep
    split
    · rw [ns_up_n (by omega), e14]
    · exact e14
  · unfold ns_bstep
    split
    · rw [ns_up_n (by omega), e15]
    · exact e15
  · unfold ns_bstep
    split
    · rw [ns_up_s]
    · exact k1 _ (by omega) (by omega)
  · unfold ns_bstep
    split
    · rw [ns_up_n a3, k1 k a1 a2]
    · exact k1 k a1 a2
  · unfold ns_bstep
    split
    · rw [← k2]
      exact (ns_time_ext (by rw [k1 _ (by omega) (by omega)]; exact hq.1.2) (fun k q1 q2 => (ns_up_n (by omega)).symm)).symm
    · exact k2
theorem ns_up_comm {g : Nat → Nat} {j k v w : Nat} (h : j ≠ k) : ns_up (ns_up g j v) k w = ns_up (ns_up g k w) j v := by
  funext x
  unfold ns_up
  split
  · rename_i h1
    rw [if_neg (by omega)]
  · rfl
/-- the number of the step has no say in how the cords burn -/
theorem ns_sum_0 {g : Nat → Nat} {v b : Nat} (hb : b ≠ 0) (n : Nat) : ns_sum (ns_up g 0 v) b n = ns_sum g b n := ns_sum_ext (fun k _ => ns_up_n (by omega))
theorem ns_left_0 {g : Nat → Nat} {v c : Nat} : ns_left (ns_up g 0 v) c = ns_left g c := by
  unfold ns_left ns_time ns_burned
  rw [ns_sum_0 (by omega), ns_up_n (by omega), ns_up_n (by omega), ns_up_n (by omega)]
theorem ns_burn1_0 {g : Nat → Nat} {v c : Nat} : ns_burn1 (ns_up g 0 v) c = ns_up (ns_burn1 g c) 0 v := by
  unfold ns_burn1
  rw [ns_up_n (by omega), ns_up_n (by omega)]
  split
  · exact ns_up_comm (by omega)
  · rfl
theorem ns_burn2_0 {g : Nat → Nat} {v c : Nat} : ns_burn2 (ns_up g 0 v) c = ns_up (ns_burn2 g c) 0 v := by
  unfold ns_burn2
  rw [ns_burn1_0, ns_left_0, ns_up_n (by omega), ns_up_n (by omega)]
  split
  · exact ns_up_comm (by omega)
  · rfl
theorem ns_outs_0 {g : Nat → Nat} {v c : Nat} : ns_outs (ns_up g 0 v) c ↔ ns_outs g c := by
  unfold ns_outs
  rw [ns_burn2_0, ns_left_0, ns_up_n (by omega)]
theorem ns_bstep_0 {g : Nat → Nat} {v c : Nat} : ns_bstep (ns_up g 0 v) c = ns_up (ns_bstep g c) 0 v := by
  unfold ns_bstep
  by_cases h : ns_outs g c
  · rw [if_pos h, if_pos (ns_outs_0.mpr h), ns_burn2_0]
    exact ns_up_comm (by omega)
  · rw [if_neg h, if_neg (fun z => h (ns_outs_0.mp z)), ns_burn2_0]
theorem ns_bA_0 {g : Nat → Nat} {v : Nat} : ∀ n, ns_bA (ns_up g 0 v) n = ns_up (ns_bA g n) 0 v
  | 0 => rfl
  | n + 1 => by
    simp only [ns_bA]
    rw [ns_bA_0 n, ns_bstep_0]
theorem ns_bS_0 {g : Nat → Nat} {v : Nat} : ∀ n, ns_bS (ns_up g 0 v) n = ns_bS g n
  | 0 => rfl
  | n + 1 => by
    simp only [ns_bS]
    have e := ns_bA_0 (g := g) (v := v) n
    by_cases h : ns_outs (ns_bA g n) n
    · rw [if_pos h, if_pos (by rw [e]; exact ns_outs_0.mpr h), ns_bS_0 n]
    · rw [if_neg h, if_neg (fun z => h (by rw [e] at z; exact ns_outs_0.mp z)), ns_bS_0 n]
theorem ns_s3_at (g : Nat → Nat) : ns_s3 g 3 = g 3 + (if 0 < ns_flames g (g 6) then 1 else 0) ∧ ns_s3 g 4 = (if 0 < ns_flames g (g 6) then 0 else g 4 + 1) ∧ ns_s3 g 5 = (if g 5 < (if 0 < ns_flames g (g 6) then 0 else g 4 + 1) then (if 0 < ns_flames g (g 6) then 0 else g 4 + 1) else g 5) ∧ ∀ k, k ≠ 3 → k ≠ 4 → k ≠ 5 → ns_s3 g k = g k := by
  obtain ⟨a0, a3, a4, a5, b4, b5, e⟩ := ns_s4_at g
  have h : ∀ k, k ≠ 0 → ns_s4 g k = ns_s3 g k := fun k hk => ns_up_n hk
  refine ⟨by rw [← h _ (by omega)]; exact a3, by rw [← h _ (by omega)]; exact a4, by rw [← h _ (by omega), a5, b4, b5], fun k h3 h4 h5 => ?_⟩
  by_cases h0 : k = 0
  · subst h0
    unfold ns_s3 ns_s2 ns_s1
    rw [ns_up_n (by omega), ns_up_n (by omega), ns_up_n (by omega)]
  · rw [← h k h0]; exact e k h0 h3 h4 h5
theorem ns_s3_ok {g : Nat → Nat} {B : Nat} (h : ns_ok g B) : ns_ok (ns_s3 g) (B + 1) := by
  obtain ⟨a3, a4, a5, e⟩ := ns_s3_at g
  obtain ⟨h1, h2, h3, h4, h5, h6, h7, h8, h9⟩ := h
  refine ⟨by rw [e _ (by omega) (by omega) (by omega)]; exact h1, by rw [e _ (by omega) (by omega) (by omega)]; exact h2, by rw [e _ (by omega) (by omega) (by omega)]; exact h3, fun c hc => ?_, fun r hr => ?_, fun i hi => ?_, by rw [e _ (by omega) (by omega) (by omega)]; omega, ?_, ?_⟩
  · rw [e _ (by omega) (by omega) (by omega)] at hc
    exact (h4 c hc).ext (fun k k1 k2 => (e k (by omega) (by omega) (by omega)).symm)
  · rw [e _ (by omega) (by omega) (by omega)] at hr
    rw [e (52 + 4 * r) (by omega) (by omega) (by omega), e (53 + 4 * r) (by omega) (by omega) (by omega), e (54 + 4 * r) (by omega) (by omega) (by omega), e 6 (by omega) (by omega) (by omega)]
    exact h5 r hr
  · rw [e _ (by omega) (by omega) (by omega)] at hi
    rw [e (85 + 3 * i) (by omega) (by omega) (by omega), e (86 + 3 * i) (by omega) (by omega) (by omega), e (87 + 3 * i) (by omega) (by omega) (by omega), e 0 (by omega) (by omega) (by omega)]
    exact h6 i hi
  · rw [a4]; split <;> omega
  · rw [a5]; (repeat' split) <;> omega
theorem ns_x_eq {g : Nat → Nat} {r : Nat} (h : g (54 + 4 * r) ≤ 1) : nI (g (54 + 4 * r)) = ns_x g r := by
  unfold ns_x
  have : g (54 + 4 * r) = 0 ∨ g (54 + 4 * r) = 1 := by omega
  rcases this with e | e <;> rw [e] <;> rfl
theorem nI_max {x y : Nat} (hx : x < 2147483648) (hy : y < 2147483648) : (if nI x < nI y then nI y else nI x) = nI (if x < y then y else x) := by
  by_cases h : x < y
  · rw [if_pos h, if_pos ((nI_ltI hx hy).mpr h)]
  · rw [if_neg h, if_neg (fun z => h ((nI_ltI hx hy).mp z))]
