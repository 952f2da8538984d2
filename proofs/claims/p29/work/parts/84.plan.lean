/-! PLANS: a state of a plan is a row of 8 counts: the time, what is left of three cords, their flames, the lightings so far -/
def pl_f (a b c k : Nat) : Nat := if k = 0 then a else if k = 1 then b else c
def pl_l (g : Nat → Nat) (a b c k : Nat) : Nat := if pl_f a b c k = 0 then 0 else (g (1 + k) + pl_f a b c k - 1) / pl_f a b c k
def pl_s (st x : Nat) : Nat := if 0 < x ∧ (st = 0 ∨ x < st) then x else st
/-- the steps to the next signal, over the first n cords; 0: none -/
def pl_st (g : Nat → Nat) (a b c : Nat) : Nat → Nat
  | 0 => 0
  | n + 1 => pl_s (pl_st g a b c n) (pl_l g a b c n)
def pl_m (g : Nat → Nat) (a b c : Nat) : Nat → Nat
  | 0 => 0
  | n + 1 => pl_m g a b c n + (pl_f a b c n - g (4 + n))
def pl_r (g : Nat → Nat) (a b c k : Nat) : Nat := g (1 + k) - pl_f a b c k * pl_st g a b c 3
def pl_nx (g : Nat → Nat) (a b c : Nat) : Nat → Nat := fun k => if k = 0 then g 0 + pl_st g a b c 3 else if k < 4 then pl_r g a b c (k - 1) else if k < 7 then (if 0 < pl_r g a b c (k - 4) then pl_f a b c (k - 4) else 0) else g 7 + pl_m g a b c 3
def pl_go (g : Nat → Nat) (a b c : Nat) : List (Nat → Nat) := if pl_st g a b c 3 = 0 then [] else [pl_nx g a b c]
/-- how many choices a cord has -/
def pl_n (g : Nat → Nat) (k : Nat) : Nat := (if 0 < g (1 + k) then 3 else 1) - g (4 + k)
def pl_c (g : Nat → Nat) (a b : Nat) : Nat → List (Nat → Nat)
  | 0 => []
  | n + 1 => pl_c g a b n ++ pl_go g a b (g 6 + n)
def pl_b (g : Nat → Nat) (a : Nat) : Nat → List (Nat → Nat)
  | 0 => []
  | n + 1 => pl_b g a n ++ pl_c g a (g 5 + n) (pl_n g 2)
def pl_a (g : Nat → Nat) : Nat → List (Nat → Nat)
  | 0 => []
  | n + 1 => pl_a g n ++ pl_b g (g 4 + n) (pl_n g 1)
/-- the states behind one signal -/
def pl_all (g : Nat → Nat) : List (Nat → Nat) := pl_a g (pl_n g 0)
/-- what a state keeps to -/
def pl_ok (g : Nat → Nat) (t : Nat) : Prop := g 0 ≤ t ∧ (∀ k, k < 3 → g (1 + k) ≤ 360 ∧ g (4 + k) ≤ 2 ∧ (g (1 + k) = 0 → g (4 + k) = 0)) ∧ g 7 ≤ t ∧ (g 7 = 0 → ∀ k, k < 3 → g (4 + k) = 0)
/-- what a choice keeps to -/
def pl_v (g : Nat → Nat) (a b c : Nat) : Prop := ∀ k, k < 3 → g (4 + k) ≤ pl_f a b c k ∧ pl_f a b c k ≤ 2 ∧ (g (1 + k) = 0 → pl_f a b c k = 0)
theorem pl_l_le {g : Nat → Nat} {a b c k t : Nat} (h : pl_ok g t) (hv : pl_v g a b c) (hk : k < 3) : pl_l g a b c k ≤ 360 ∧ g (1 + k) ≤ pl_f a b c k * pl_l g a b c k + (if pl_f a b c k = 0 then g (1 + k) else 0) ∧ (0 < pl_l g a b c k → 0 < g (1 + k)) := by
  obtain ⟨h1, h2, h3⟩ := h.2.1 k hk
  obtain ⟨v1, v2, v3⟩ := hv k hk
  unfold pl_l
  generalize pl_f a b c k = f at *
  have hf : f = 0 ∨ f = 1 ∨ f = 2 := by omega
  rcases hf with rfl | rfl | rfl
  · simp
  · rw [if_neg (by omega), if_neg (by omega)]
    simp only [Nat.div_one]
    omega
  · rw [if_neg (by omega), if_neg (by omega)]
    refine ⟨by omega, by omega, fun z => ?_⟩
    by_cases e : g (1 + k) = 0
    · exact absurd (v3 e) (by decide)
    · omega
theorem pl_s_le {st x m : Nat} (h1 : st ≤ m) (h2 : x ≤ m) : pl_s st x ≤ m := by unfold pl_s; split <;> omega
theorem pl_st_le {g : Nat → Nat} {a b c t : Nat} (h : pl_ok g t) (hv : pl_v g a b c) : ∀ n, n ≤ 3 → pl_st g a b c n ≤ 360
  | 0, _ => Nat.zero_le _
  | n + 1, hn => pl_s_le (pl_st_le h hv n (by omega)) (pl_l_le h hv (by omega)).1
/-- the least time of a burning cord is one of theirs -/
theorem pl_st_at {g : Nat → Nat} {a b c : Nat} : ∀ n, pl_st g a b c n ≠ 0 → ∃ k, k < n ∧ pl_l g a b c k = pl_st g a b c n
  | 0, h => absurd rfl h
  | n + 1, h => by
    have e : pl_st g a b c (n + 1) = pl_s (pl_st g a b c n) (pl_l g a b c n) := rfl
    rw [e] at h ⊢
    unfold pl_s at h ⊢
    by_cases q : 0 < pl_l g a b c n ∧ (pl_st g a b c n = 0 ∨ pl_l g a b c n < pl_st g a b c n)
    · rw [if_pos q]
      exact ⟨n, by omega, rfl⟩
    · rw [if_neg q] at h ⊢
      obtain ⟨k, k1, k2⟩ := pl_st_at n h
      exact ⟨k, by omega, k2⟩
theorem pl_m_le {g : Nat → Nat} {a b c : Nat} (hv : pl_v g a b c) : ∀ n, n ≤ 3 → pl_m g a b c n ≤ 2 * n
  | 0, _ => Nat.zero_le _
  | n + 1, hn => by
    have h1 := pl_m_le hv n (by omega)
    have h2 := (hv n (by omega)).2.1
    simp only [pl_m]
    omega
theorem pl_m_ge {g : Nat → Nat} {a b c k : Nat} : ∀ n, k < n → pl_f a b c k - g (4 + k) ≤ pl_m g a b c n
  | 0, h => absurd h (by omega)
  | n + 1, h => by
    simp only [pl_m]
    by_cases e : k = n
    · subst e; omega
    · have := pl_m_ge (g := g) (a := a) (b := b) (c := c) n (show k < n by omega)
      omega
theorem pl_nx_0 {g : Nat → Nat} {a b c : Nat} : pl_nx g a b c 0 = g 0 + pl_st g a b c 3 := if_pos rfl
theorem pl_nx_r {g : Nat → Nat} {a b c k : Nat} (hk : k < 3) : pl_nx g a b c (1 + k) = pl_r g a b c k := by
  unfold pl_nx
  rw [if_neg (by omega), if_pos (by omega), Nat.add_sub_cancel_left]
theorem pl_nx_f {g : Nat → Nat} {a b c k : Nat} (hk : k < 3) : pl_nx g a b c (4 + k) = if 0 < pl_r g a b c k then pl_f a b c k else 0 := by
  unfold pl_nx
  rw [if_neg (by omega), if_neg (by omega), if_pos (by omega), Nat.add_sub_cancel_left]
theorem pl_nx_7 {g : Nat → Nat} {a b c : Nat} : pl_nx g a b c 7 = g 7 + pl_m g a b c 3 := by
  unfold pl_nx
  rw [if_neg (by omega), if_neg (by omega), if_neg (by omega)]
/-- a lighting is needed for a signal -/
theorem pl_nx_lit {g : Nat → Nat} {a b c t : Nat} (h : pl_ok g t) (hs : pl_st g a b c 3 ≠ 0) : 1 ≤ pl_nx g a b c 7 := by
  rw [pl_nx_7]
  obtain ⟨k, k1, k2⟩ := pl_st_at 3 hs
  by_cases e : g 7 = 0
  · have h1 := h.2.2.2 e k k1
    have h2 := pl_m_ge (g := g) (a := a) (b := b) (c := c) 3 k1
    have h3 : pl_f a b c k ≠ 0 := fun z => by
      unfold pl_l at k2
      rw [if_pos z] at k2
      exact hs k2.symm
    omega
  · omega
theorem pl_nx_ok {g : Nat → Nat} {a b c t : Nat} (h : pl_ok g t) (hv : pl_v g a b c) (hs : pl_st g a b c 3 ≠ 0) : pl_ok (pl_nx g a b c) (t + 360) := by
  refine ⟨?_, fun k hk => ?_, ?_, fun z => absurd z (by have := pl_nx_lit h hs; omega)⟩
  · rw [pl_nx_0]
    have := pl_st_le h hv 3 (by omega)
    have := h.1
    omega
  · rw [pl_nx_r hk, pl_nx_f hk]
    have h1 := (h.2.1 k hk).1
    have h2 := (hv k hk).2.1
    refine ⟨by unfold pl_r; omega, by split <;> omega, fun z => if_neg (by omega)⟩
  · rw [pl_nx_7]
    have := pl_m_le hv 3 (by omega)
    have := h.2.2.1
    omega
/-- the weight: a bound for the number of choices -/
def pl_w1 (x : Nat) : Nat := if 0 < x then 3 else 1
def pl_w (g : Nat → Nat) : Nat := pl_w1 (g 1) * (pl_w1 (g 2) * pl_w1 (g 3))
theorem pl_w1_le {x y : Nat} (h : x ≤ y) : pl_w1 x ≤ pl_w1 y := by unfold pl_w1; split <;> split <;> omega
theorem pl_w1_le3 {x : Nat} : pl_w1 x ≤ 3 ∧ 1 ≤ pl_w1 x := by unfold pl_w1; split <;> omega
theorem pl_nx_w {g : Nat → Nat} {a b c t : Nat} (h : pl_ok g t) (hv : pl_v g a b c) (hs : pl_st g a b c 3 ≠ 0) : 3 * pl_w (pl_nx g a b c) ≤ pl_w g := by
  obtain ⟨k, k1, k2⟩ := pl_st_at 3 hs
  have hle : ∀ j, j < 3 → pl_w1 (pl_nx g a b c (1 + j)) ≤ pl_w1 (g (1 + j)) := fun j hj => by
    rw [pl_nx_r hj]
    exact pl_w1_le (Nat.sub_le _ _)
  have hk : pl_w1 (pl_nx g a b c (1 + k)) = 1 ∧ pl_w1 (g (1 + k)) = 3 := by
    obtain ⟨l1, l2, l3⟩ := pl_l_le h hv k1
    have hf : pl_f a b c k ≠ 0 := fun z => by
      unfold pl_l at k2
      rw [if_pos z] at k2
      exact hs k2.symm
    rw [if_neg hf, k2] at l2
    rw [k2] at l3
    refine ⟨?_, if_pos (l3 (by omega))⟩
    rw [pl_nx_r k1]
    unfold pl_r pl_w1
    exact if_neg (by omega)
  have e0 : pl_w1 (pl_nx g a b c 1) ≤ pl_w1 (g 1) := hle 0 (by omega)
  have e1 : pl_w1 (pl_nx g a b c 2) ≤ pl_w1 (g 2) := hle 1 (by omega)
  have e2 : pl_w1 (pl_nx g a b c 3) ≤ pl_w1 (g 3) := hle 2 (by omega)
  have h9 : k = 0 ∨ k = 1 ∨ k = 2 := by omega
  have c0 : k = 0 → pl_w1 (pl_nx g a b c 1) = 1 ∧ pl_w1 (g 1) = 3 := fun z => by subst z; exact hk
  have c1 : k = 1 → pl_w1 (pl_nx g a b c 2) = 1 ∧ pl_w1 (g 2) = 3 := fun z => by subst z; exact hk
  have c2 : k = 2 → pl_w1 (pl_nx g a b c 3) = 1 ∧ pl_w1 (g 3) = 3 := fun z => by subst z; exact hk
  clear hk hle
  unfold pl_w
  generalize pl_w1 (pl_nx g a b c 1) = x0 at *
  generalize pl_w1 (pl_nx g a b c 2) = x1 at *
  generalize pl_w1 (pl_nx g a b c 3) = x2 at *
  generalize pl_w1 (g 1) = y0 at *
  generalize pl_w1 (g 2) = y1 at *
  generalize pl_w1 (g 3) = y2 at *
  rcases h9 with h9 | h9 | h9
  · obtain ⟨q1, q2⟩ := c0 h9
    subst q1 q2
    have := Nat.mul_le_mul e1 e2
    omega
  · obtain ⟨q1, q2⟩ := c1 h9
    subst q1 q2
    have := Nat.mul_le_mul e0 e2
    rw [Nat.one_mul, Nat.mul_left_comm y0 3 y2]
    omega
  · obtain ⟨q1, q2⟩ := c2 h9
    subst q1 q2
    have := Nat.mul_le_mul e0 e1
    rw [Nat.mul_one, ← Nat.mul_assoc y0 y1 3]
    omega
theorem pl_n_le {g : Nat → Nat} {k : Nat} : pl_n g k ≤ pl_w1 (g (1 + k)) := by unfold pl_n pl_w1; split <;> omega
theorem pl_go_len {g : Nat → Nat} {a b c : Nat} : (pl_go g a b c).length ≤ 1 := by unfold pl_go; split <;> simp
theorem pl_c_len {g : Nat → Nat} {a b : Nat} : ∀ n, (pl_c g a b n).length ≤ n
  | 0 => Nat.le_refl _
  | n + 1 => by
    have h1 := pl_c_len (g := g) (a := a) (b := b) n
    have h2 := pl_go_len (g := g) (a := a) (b := b) (c := g 6 + n)
    simp only [pl_c, List.length_append]
    omega
theorem pl_b_len {g : Nat → Nat} {a : Nat} : ∀ n, (pl_b g a n).length ≤ n * pl_n g 2
  | 0 => Nat.zero_le _
  | n + 1 => by
    have h1 := pl_b_len (g := g) (a := a) n
    have h2 := pl_c_len (g := g) (a := a) (b := g 5 + n) (pl_n g 2)
    simp only [pl_b, List.length_append, Nat.succ_mul]
    omega
theorem pl_a_len {g : Nat → Nat} : ∀ n, (pl_a g n).length ≤ n * (pl_n g 1 * pl_n g 2)
  | 0 => Nat.zero_le _
  | n + 1 => by
    have h1 := pl_a_len (g := g) n
    have h2 := pl_b_len (g := g) (a := g 4 + n) (pl_n g 1)
    simp only [pl_a, List.length_append, Nat.succ_mul]
    omega
theorem pl_all_len {g : Nat → Nat} : (pl_all g).length ≤ pl_w g := Nat.le_trans (pl_a_len _) (Nat.mul_le_mul pl_n_le (Nat.mul_le_mul pl_n_le pl_n_le))
theorem pl_c_mono {g : Nat → Nat} {a b n : Nat} : ∀ m, n ≤ m → (pl_c g a b n).length ≤ (pl_c g a b m).length
  | 0, h => by rw [show n = 0 by omega]; exact Nat.le_refl _
  | m + 1, h => by
    by_cases e : n = m + 1
    · rw [e]; exact Nat.le_refl _
    · have := pl_c_mono (g := g) (a := a) (b := b) (n := n) m (by omega)
      simp only [pl_c, List.length_append]
      omega
theorem pl_b_mono {g : Nat → Nat} {a n : Nat} : ∀ m, n ≤ m → (pl_b g a n).length ≤ (pl_b g a m).length
  | 0, h => by rw [show n = 0 by omega]; exact Nat.le_refl _
  | m + 1, h => by
    by_cases e : n = m + 1
    · rw [e]; exact Nat.le_refl _
    · have := pl_b_mono (g := g) (a := a) (n := n) m (by omega)
      simp only [pl_b, List.length_append]
      omega
theorem pl_a_mono {g : Nat → Nat} {n : Nat} : ∀ m, n ≤ m → (pl_a g n).length ≤ (pl_a g m).length
  | 0, h => by rw [show n = 0 by omega]; exact Nat.le_refl _
  | m + 1, h => by
    by_cases e : n = m + 1
    · rw [e]; exact Nat.le_refl _
    · have := pl_a_mono (g := g) (n := n) m (by omega)
      simp only [pl_a, List.length_append]
      omega
/-- who stands in the lists -/
theorem pl_all_mem {g g' : Nat → Nat} {t : Nat} (h : pl_ok g t) (hm : g' ∈ pl_all g) : ∃ a b c, pl_v g a b c ∧ pl_st g a b c 3 ≠ 0 ∧ g' = pl_nx g a b c := by
  have hv : ∀ i j k, i < pl_n g 0 → j < pl_n g 1 → k < pl_n g 2 → pl_v g (g 4 + i) (g 5 + j) (g 6 + k) := fun i j k h0 h1 h2 q hq => by
    have h9 : q = 0 ∨ q = 1 ∨ q = 2 := by omega
    unfold pl_n at h0 h1 h2
    have r0 := (h.2.1 0 (by omega)).2.2
    have r1 := (h.2.1 1 (by omega)).2.2
    have r2 := (h.2.1 2 (by omega)).2.2
    rcases h9 with rfl | rfl | rfl
    · show g 4 ≤ g 4 + i ∧ g 4 + i ≤ 2 ∧ (g 1 = 0 → g 4 + i = 0)
      have r0 : g 1 = 0 → g 4 = 0 := r0
      have h0 : i < (if 0 < g 1 then 3 else 1) - g 4 := h0
      split at h0 <;> omega
    · show g 5 ≤ g 5 + j ∧ g 5 + j ≤ 2 ∧ (g 2 = 0 → g 5 + j = 0)
      have r1 : g 2 = 0 → g 5 = 0 := r1
      have h1 : j < (if 0 < g 2 then 3 else 1) - g 5 := h1
      split at h1 <;> omega
    · show g 6 ≤ g 6 + k ∧ g 6 + k ≤ 2 ∧ (g 3 = 0 → g 6 + k = 0)
      have r2 : g 3 = 0 → g 6 = 0 := r2
      have h2 : k < (if 0 < g 3 then 3 else 1) - g 6 := h2
      split at h2 <;> omega
  have hc : ∀ i j, i < pl_n g 0 → j < pl_n g 1 → ∀ n, n ≤ pl_n g 2 → g' ∈ pl_c g (g 4 + i) (g 5 + j) n → ∃ a b c, pl_v g a b c ∧ pl_st g a b c 3 ≠ 0 ∧ g' = pl_nx g a b c := by
    intro i j hi hj n
    induction n with
    | zero => intro _ h; exact absurd h (List.not_mem_nil)
    | succ n ih =>
      intro hn h
      rcases List.mem_append.mp h with h | h
      · exact ih (by omega) h
      · unfold pl_go at h
        by_cases e : pl_st g (g 4 + i) (g 5 + j) (g 6 + n) 3 = 0
        · rw [if_pos e] at h
          exact absurd h List.not_mem_nil
        · rw [if_neg e] at h
          exact ⟨_, _, _, hv i j n hi hj (by omega), e, List.mem_singleton.mp h⟩
  have hb : ∀ i, i < pl_n g 0 → ∀ n, n ≤ pl_n g 1 → g' ∈ pl_b g (g 4 + i) n → ∃ a b c, pl_v g a b c ∧ pl_st g a b c 3 ≠ 0 ∧ g' = pl_nx g a b c := by
    intro i hi n
    induction n with
    | zero => intro _ h; exact absurd h (List.not_mem_nil)
    | succ n ih =>
      intro hn h
      rcases List.mem_append.mp h with h | h
      · exact ih (by omega) h
      · exact hc i n hi (by omega) _ (Nat.le_refl _) h
  have ha : ∀ n, n ≤ pl_n g 0 → g' ∈ pl_a g n → ∃ a b c, pl_v g a b c ∧ pl_st g a b c 3 ≠ 0 ∧ g' = pl_nx g a b c := by
    intro n
    induction n with
    | zero => intro _ h; exact absurd h (List.not_mem_nil)
    | succ n ih =>
      intro hn h
      rcases List.mem_append.mp h with h | h
      · exact ih (by omega) h
      · exact hb n (by omega) _ (Nat.le_refl _) h
  exact ha _ (Nat.le_refl _) hm
theorem pl_all_ok {g g' : Nat → Nat} {t : Nat} (h : pl_ok g t) (hm : g' ∈ pl_all g) : pl_ok g' (t + 360) ∧ 3 * pl_w g' ≤ pl_w g ∧ 1 ≤ g' 7 := by
  obtain ⟨a, b, c, hv, hs, rfl⟩ := pl_all_mem h hm
  exact ⟨pl_nx_ok h hv hs, pl_nx_w h hv hs, pl_nx_lit h hs⟩
/-- the beginning: no flames -/
theorem pl_go_0 {g : Nat → Nat} : pl_go g 0 0 0 = [] := by
  have h : ∀ n, pl_st g 0 0 0 n = 0 := fun n => by
    induction n with
    | zero => rfl
    | succ n ih =>
      show pl_s (pl_st g 0 0 0 n) (pl_l g 0 0 0 n) = 0
      rw [ih]
      have e : pl_l g 0 0 0 n = 0 := by
        unfold pl_l
        exact if_pos (by unfold pl_f; split; rfl; split <;> rfl)
      rw [e]
      rfl
  unfold pl_go
  rw [if_pos (h 3)]
theorem pl_all_26 {g : Nat → Nat} (h4 : g 4 = 0) (h5 : g 5 = 0) (h6 : g 6 = 0) : (pl_all g).length ≤ 26 := by
  by_cases h : 0 < g 1 ∧ 0 < g 2 ∧ 0 < g 3
  · have n0 : pl_n g 0 = 3 := by unfold pl_n; rw [if_pos h.1, show g (4 + 0) = 0 from h4]
    have n1 : pl_n g 1 = 3 := by unfold pl_n; rw [if_pos h.2.1, show g (4 + 1) = 0 from h5]
    have n2 : pl_n g 2 = 3 := by unfold pl_n; rw [if_pos h.2.2, show g (4 + 2) = 0 from h6]
    have c0 : (pl_c g 0 0 3).length ≤ 2 := by
      have h1 := pl_go_len (g := g) (a := 0) (b := 0) (c := g 6 + 1)
      have h2 := pl_go_len (g := g) (a := 0) (b := 0) (c := g 6 + 2)
      have h0 : pl_go g 0 0 (g 6 + 0) = [] := by rw [h6]; exact pl_go_0
      simp only [pl_c, List.length_append, h0]
      simp only [List.length_nil]
      omega
    have b0 : (pl_b g 0 3).length ≤ 8 := by
      have h1 := pl_c_len (g := g) (a := 0) (b := g 5 + 1) 3
      have h2 := pl_c_len (g := g) (a := 0) (b := g 5 + 2) 3
      simp only [pl_b, List.length_append, n2]
      rw [show g 5 + 0 = 0 by omega]
      simp only [List.length_nil]
      omega
    have b1 := pl_b_len (g := g) (a := g 4 + 1) 3
    have b2 := pl_b_len (g := g) (a := g 4 + 2) 3
    unfold pl_all
    rw [n0]
    simp only [pl_a, List.length_append, n1]
    rw [show g 4 + 0 = 0 by omega]
    rw [n2] at b1 b2
    simp only [List.length_nil]
    omega
  · have h1 := pl_all_len (g := g)
    have h2 : pl_w g ≤ 9 := by
      unfold pl_w
      have e1 := pl_w1_le3 (x := g 1)
      have e2 := pl_w1_le3 (x := g 2)
      have e3 := pl_w1_le3 (x := g 3)
      have key : pl_w1 (g 1) = 1 ∨ pl_w1 (g 2) = 1 ∨ pl_w1 (g 3) = 1 := by
        unfold pl_w1
        by_cases q1 : 0 < g 1
        · by_cases q2 : 0 < g 2
          · exact Or.inr (Or.inr (if_neg (fun q3 => h ⟨q1, q2, q3⟩)))
          · exact Or.inr (Or.inl (if_neg q2))
        · exact Or.inl (if_neg q1)
      generalize pl_w1 (g 1) = x at *
      generalize pl_w1 (g 2) = y at *
      generalize pl_w1 (g 3) = z at *
      have hx : x = 1 ∨ x = 2 ∨ x = 3 := by omega
      have hy : y = 1 ∨ y = 2 ∨ y = 3 := by omega
      have hz : z = 1 ∨ z = 2 ∨ z = 3 := by omega
      rcases hx with rfl | rfl | rfl <;> rcases hy with rfl | rfl | rfl <;> rcases hz with rfl | rfl | rfl <;> omega
    omega
theorem pl_flat_len {m : Nat} : ∀ {l : List (Nat → Nat)}, (∀ g ∈ l, (pl_all g).length ≤ m) → (l.flatMap pl_all).length ≤ l.length * m
  | [], _ => Nat.zero_le _
  | g :: l, h => by
    have h1 := h g (List.mem_cons_self)
    have h2 := pl_flat_len (l := l) (fun x hx => h x (List.mem_cons_of_mem _ hx))
    rw [List.flatMap_cons, List.length_append, List.length_cons, Nat.succ_mul]
    omega
/-- the states behind the first, the second, the third signal -/
def pl_1 (g : Nat → Nat) : List (Nat → Nat) := pl_all g
def pl_2 (g : Nat → Nat) : List (Nat → Nat) := (pl_1 g).flatMap pl_all
def pl_3 (g : Nat → Nat) : List (Nat → Nat) := (pl_2 g).flatMap pl_all
/-- a beginning: the times, no flames -/
def pl_beg (g : Nat → Nat) : Prop := g 0 = 0 ∧ g 7 = 0 ∧ ∀ k, k < 3 → g (1 + k) ≤ 360 ∧ g (4 + k) = 0
theorem pl_beg.ok {g : Nat → Nat} (h : pl_beg g) : pl_ok g 0 := ⟨by rw [h.1]; exact Nat.le_refl _, fun k hk => ⟨(h.2.2 k hk).1, by rw [(h.2.2 k hk).2]; omega, fun _ => (h.2.2 k hk).2⟩, by rw [h.2.1]; exact Nat.le_refl _, fun _ k hk => (h.2.2 k hk).2⟩
theorem pl_w_27 {g : Nat → Nat} : pl_w g ≤ 27 := Nat.mul_le_mul pl_w1_le3.1 (Nat.mul_le_mul pl_w1_le3.1 pl_w1_le3.1)
theorem pl_1_ok {g x : Nat → Nat} (h : pl_beg g) (hx : x ∈ pl_1 g) : pl_ok x 360 ∧ pl_w x ≤ 9 ∧ 1 ≤ x 7 := by
  have h1 := pl_all_ok h.ok hx
  have h2 := pl_w_27 (g := g)
  exact ⟨h1.1, by omega, h1.2.2⟩
theorem pl_2_ok {g x : Nat → Nat} (h : pl_beg g) (hx : x ∈ pl_2 g) : pl_ok x 720 ∧ pl_w x ≤ 3 ∧ 1 ≤ x 7 := by
  obtain ⟨y, hy, hxy⟩ := List.mem_flatMap.mp hx
  have h1 := pl_1_ok h hy
  have h2 := pl_all_ok h1.1 hxy
  exact ⟨h2.1, by omega, h2.2.2⟩
theorem pl_3_ok {g x : Nat → Nat} (h : pl_beg g) (hx : x ∈ pl_3 g) : pl_ok x 1080 ∧ 1 ≤ x 7 := by
  obtain ⟨y, hy, hxy⟩ := List.mem_flatMap.mp hx
  have h1 := pl_2_ok h hy
  have h2 := pl_all_ok h1.1 hxy
  exact ⟨h2.1, h2.2.2⟩
theorem pl_1_len {g : Nat → Nat} (h : pl_beg g) : (pl_1 g).length ≤ 26 := pl_all_26 (h.2.2 0 (by omega)).2 (h.2.2 1 (by omega)).2 (h.2.2 2 (by omega)).2
theorem pl_2_len {g : Nat → Nat} (h : pl_beg g) : (pl_2 g).length ≤ 234 := by
  have h1 := pl_flat_len (l := pl_1 g) (m := 9) (fun x hx => Nat.le_trans pl_all_len (pl_1_ok h hx).2.1)
  have h2 := pl_1_len h
  have h3 : ((pl_1 g).flatMap pl_all).length = (pl_2 g).length := rfl
  omega
theorem pl_3_len {g : Nat → Nat} (h : pl_beg g) : (pl_3 g).length ≤ 702 := by
  have h1 := pl_flat_len (l := pl_2 g) (m := 3) (fun x hx => Nat.le_trans pl_all_len (pl_2_ok h hx).2.1)
  have h2 := pl_2_len h
  have h3 : ((pl_2 g).flatMap pl_all).length = (pl_3 g).length := rfl
  omega
/-- a state is noted: the fewest lightings of its time; 0: none yet -/
def pl_note (F g : Nat → Nat) : Nat → Nat := ns_up F (g 0) (if F (g 0) = 0 ∨ g 7 < F (g 0) then g 7 else F (g 0))
/-- the told times -/
def pl_F (g : Nat → Nat) : Nat → Nat := (pl_1 g ++ (pl_2 g ++ pl_3 g)).foldl pl_note (fun _ => 0)
/-- depth first -/
def pl_dfs : Nat → (Nat → Nat) → List (Nat → Nat)
  | 0, _ => []
  | n + 1, g => (pl_all g).flatMap (fun x => x :: pl_dfs n x)
/-- F is the least of what P holds -/
def pl_P (F : Nat → Nat) (P : Nat → Nat → Prop) : Prop := ∀ t, (F t = 0 ∧ ∀ x, ¬ P t x) ∨ (1 ≤ F t ∧ P t (F t) ∧ ∀ x, P t x → F t ≤ x)
theorem pl_P.note {F g : Nat → Nat} {P : Nat → Nat → Prop} (h : pl_P F P) (hg : 1 ≤ g 7) : pl_P (pl_note F g) (fun t x => P t x ∨ (g 0 = t ∧ g 7 = x)) := by
  intro t
  unfold pl_note
  by_cases e : t = g 0
  · subst e
    rw [ns_up_s]
    refine Or.inr ?_
    rcases h (g 0) with ⟨h1, h2⟩ | ⟨h1, h2, h3⟩
    · rw [if_pos (Or.inl h1)]
      refine ⟨hg, Or.inr ⟨rfl, rfl⟩, fun x hx => ?_⟩
      rcases hx with hx | hx
      · exact absurd hx (h2 x)
      · omega
    · by_cases q : g 7 < F (g 0)
      · rw [if_pos (Or.inr q)]
        refine ⟨hg, Or.inr ⟨rfl, rfl⟩, fun x hx => ?_⟩
        rcases hx with hx | hx
        · have := h3 x hx; omega
        · omega
      · rw [if_neg (by omega)]
        refine ⟨h1, Or.inl h2, fun x hx => ?_⟩
        rcases hx with hx | hx
        · exact h3 x hx
        · omega
  · rw [ns_up_n e]
    rcases h t with ⟨h1, h2⟩ | ⟨h1, h2, h3⟩
    · refine Or.inl ⟨h1, fun x hx => ?_⟩
      rcases hx with hx | hx
      · exact h2 x hx
      · exact e hx.1.symm
    · refine Or.inr ⟨h1, Or.inl h2, fun x hx => ?_⟩
      rcases hx with hx | hx
      · exact h3 x hx
      · exact absurd hx.1.symm e
theorem pl_P.ext {F : Nat → Nat} {P Q : Nat → Nat → Prop} (h : pl_P F P) (e : ∀ t x, P t x ↔ Q t x) : pl_P F Q := by
  intro t
  rcases h t with ⟨h1, h2⟩ | ⟨h1, h2, h3⟩
  · exact Or.inl ⟨h1, fun x hx => h2 x ((e t x).mpr hx)⟩
  · exact Or.inr ⟨h1, (e _ _).mp h2, fun x hx => h3 x ((e t x).mpr hx)⟩
theorem pl_P.fold : ∀ {l : List (Nat → Nat)} {F : Nat → Nat} {P : Nat → Nat → Prop}, pl_P F P → (∀ g ∈ l, 1 ≤ g 7) → pl_P (l.foldl pl_note F) (fun t x => P t x ∨ ∃ g ∈ l, g 0 = t ∧ g 7 = x)
  | [], F, P, h, _ => h.ext (fun t x => by simp)
  | g :: l, F, P, h, hl => (pl_P.fold (h.note (hl g List.mem_cons_self)) (fun x hx => hl x (List.mem_cons_of_mem _ hx))).ext (fun t x => by
      simp only [List.mem_cons, exists_eq_or_imp]
      exact or_assoc)
theorem pl_P.uniq {F G : Nat → Nat} {P : Nat → Nat → Prop} (h : pl_P F P) (h2 : pl_P G P) : F = G := by
  funext t
  rcases h t with ⟨a1, a2⟩ | ⟨a1, a2, a3⟩
  · rcases h2 t with ⟨b1, b2⟩ | ⟨b1, b2, b3⟩
    · rw [a1, b1]
    · exact absurd b2 (a2 _)
  · rcases h2 t with ⟨b1, b2⟩ | ⟨b1, b2, b3⟩
    · exact absurd a2 (b2 _)
    · have := a3 _ b2
      have := b3 _ a2
      omega
theorem pl_same {l1 l2 : List (Nat → Nat)} (h : ∀ x, x ∈ l1 ↔ x ∈ l2) (h1 : ∀ g ∈ l1, 1 ≤ g 7) : l1.foldl pl_note (fun _ => 0) = l2.foldl pl_note (fun _ => 0) := by
  have h0 : pl_P (fun _ => 0) (fun _ _ => False) := fun t => Or.inl ⟨rfl, fun _ hx => hx⟩
  refine (h0.fold h1).uniq ((h0.fold (fun g hg => h1 g ((h g).mpr hg))).ext (fun t x => ?_))
  constructor
  · rintro (hx | ⟨g, hg, hx⟩)
    · exact Or.inl hx
    · exact Or.inr ⟨g, (h g).mpr hg, hx⟩
  · rintro (hx | ⟨g, hg, hx⟩)
    · exact Or.inl hx
    · exact Or.inr ⟨g, (h g).mp hg, hx⟩
theorem pl_dfs_mem {g x : Nat → Nat} : x ∈ pl_dfs 3 g ↔ x ∈ pl_1 g ++ (pl_2 g ++ pl_3 g) := by
  have e0 : ∀ y z, z ∈ pl_dfs 1 y ↔ z ∈ pl_all y := fun y z => by
    simp only [pl_dfs, List.mem_flatMap, List.mem_cons, List.not_mem_nil, or_false]
    exact ⟨fun ⟨a, h1, h2⟩ => by rw [h2]; exact h1, fun h => ⟨z, h, rfl⟩⟩
  have e1 : ∀ y z, z ∈ pl_dfs 2 y ↔ z ∈ pl_all y ∨ ∃ a ∈ pl_all y, z ∈ pl_all a := fun y z => by
    rw [show pl_dfs 2 y = (pl_all y).flatMap (fun x => x :: pl_dfs 1 x) from rfl]
    simp only [List.mem_flatMap, List.mem_cons, e0]
    constructor
    · rintro ⟨a, h1, h2 | h2⟩
      · exact Or.inl (by rw [h2]; exact h1)
      · exact Or.inr ⟨a, h1, h2⟩
    · rintro (h | ⟨a, h1, h2⟩)
      · exact ⟨z, h, Or.inl rfl⟩
      · exact ⟨a, h1, Or.inr h2⟩
  rw [show pl_dfs 3 g = (pl_all g).flatMap (fun x => x :: pl_dfs 2 x) from rfl]
  unfold pl_3 pl_2 pl_1
  simp only [List.mem_append, List.mem_flatMap, List.mem_cons, e1]
  constructor
  · rintro ⟨a, h1, h2 | h2 | ⟨b, h2, h3⟩⟩
    · exact Or.inl (by rw [h2]; exact h1)
    · exact Or.inr (Or.inl ⟨a, h1, h2⟩)
    · exact Or.inr (Or.inr ⟨b, ⟨a, h1, h2⟩, h3⟩)
  · rintro (h | ⟨a, h1, h2⟩ | ⟨b, ⟨a, h1, h2⟩, h3⟩)
    · exact ⟨x, h, Or.inl rfl⟩
    · exact ⟨a, h1, Or.inr (Or.inl h2)⟩
    · exact ⟨a, h1, Or.inr (Or.inr ⟨b, h2, h3⟩)⟩
theorem pl_lits {g : Nat → Nat} (h : pl_beg g) : ∀ x ∈ pl_1 g ++ (pl_2 g ++ pl_3 g), 1 ≤ x 7 ∧ x 0 ≤ 1080 := by
  intro x hx
  rcases List.mem_append.mp hx with hx | hx
  · have := pl_1_ok h hx
    exact ⟨this.2.2, Nat.le_trans this.1.1 (by decide)⟩
  · rcases List.mem_append.mp hx with hx | hx
    · have := pl_2_ok h hx
      exact ⟨this.2.2, Nat.le_trans this.1.1 (by decide)⟩
    · have := pl_3_ok h hx
      exact ⟨this.2, this.1.1⟩
/-- both orders tell the same -/
theorem pl_dfs_F {g : Nat → Nat} (h : pl_beg g) : (pl_dfs 3 g).foldl pl_note (fun _ => 0) = pl_F g := pl_same (fun _ => pl_dfs_mem) (fun x hx => (pl_lits h x (pl_dfs_mem.mp hx)).1)
/-- how many times are told; the time of a rank -/
def pl_cnt (F : Nat → Nat) : Nat → Nat
  | 0 => 0
  | n + 1 => pl_cnt F n + (if F (n + 1) = 0 then 0 else 1)
def pl_rank (F : Nat → Nat) (r : Int32) : Nat → Nat → Nat → Int32
  | 0, _, _ => -1
  | f + 1, t, m => if F t = 0 then pl_rank F r f (t + 1) m else if nI m = r then nI t else pl_rank F r f (t + 1) (m + 1)
