/-! THE LAW'S OWN CLOCK, five rows of counts, and the row g of the class's side -/
def ls_x (s : Nat) : Int32 := if s = 0 then 1 else 0
def lw_b (b : Nat → Nat) (v : Nat) : Nat → Nat := fun k => if k = 0 then v else b (k - 1)
def lw_n (n : Nat → Nat) : Nat → Nat := ns_up n 8 (if n 8 < 8 then n 8 + 1 else n 8)
def lr_n (n : Nat → Nat) (v : Nat) (g : Nat → Nat) : Prop := n 0 = g 0 ∧ n 1 = v ∧ n 2 = g 2 ∧ n 3 = g 3 ∧ n 4 = g 4 ∧ n 5 = g 5 ∧ n 6 = g 6 ∧ n 7 = g 51 ∧ n 8 = g 84
def lr_t (t g : Nat → Nat) : Prop := ∀ i, i < g 6 → ∀ k, k < 6 → t (6 * i + k) = if k < g (7 + 11 * i) then g (8 + 11 * i + k) else 0
def lr_c (c g : Nat → Nat) : Prop := ∀ i, i < g 6 → c (5 * i) = g (14 + 11 * i) ∧ c (5 * i + 1) = g (15 + 11 * i) ∧ c (5 * i + 2) = g (16 + 11 * i) % 2 ∧ c (5 * i + 3) = g (16 + 11 * i) / 2 ∧ c (5 * i + 4) = g (17 + 11 * i)
def lr_r (r g : Nat → Nat) : Prop := ∀ k, k < g 51 → r (4 * k) = g (52 + 4 * k) ∧ r (4 * k + 1) = g (53 + 4 * k) ∧ r (4 * k + 2) = 1 - g (54 + 4 * k) ∧ r (4 * k + 3) = g (55 + 4 * k)
def lr_b (b g : Nat → Nat) : Prop := ∀ k, k < g 84 → b k = 100000 * g (85 + 3 * k) + 10 * g (86 + 3 * k) + g (87 + 3 * k)
def lr (t c r n b : Nat → Nat) (v : Nat) (g : Nat → Nat) : Prop := lr_n n v g ∧ lr_t t g ∧ lr_c c g ∧ lr_r r g ∧ lr_b b g
theorem lr_t.ext {t g g' : Nat → Nat} (h : lr_t t g) (e6 : g' 6 = g 6) (e : ∀ i, i < g 6 → ∀ k, 7 + 11 * i ≤ k → k < 14 + 11 * i → g' k = g k) : lr_t t g' := fun i hi k hk => by
  rw [e6] at hi
  rw [e i hi _ (by omega) (by omega), e i hi (8 + 11 * i + k) (by omega) (by omega)]
  exact h i hi k hk
theorem lr_c.ext {c g g' : Nat → Nat} (h : lr_c c g) (e6 : g' 6 = g 6) (e : ∀ i, i < g 6 → ∀ k, 14 + 11 * i ≤ k → k < 18 + 11 * i → g' k = g k) : lr_c c g' := fun i hi => by
  rw [e6] at hi
  rw [e i hi (14 + 11 * i) (by omega) (by omega), e i hi (15 + 11 * i) (by omega) (by omega), e i hi (16 + 11 * i) (by omega) (by omega), e i hi (17 + 11 * i) (by omega) (by omega)]
  exact h i hi
theorem lr_r.ext {r g g' : Nat → Nat} (h : lr_r r g) (e6 : g' 51 = g 51) (e : ∀ k, k < g 51 → ∀ j, 52 + 4 * k ≤ j → j < 56 + 4 * k → g' j = g j) : lr_r r g' := fun i hi => by
  rw [e6] at hi
  rw [e i hi (52 + 4 * i) (by omega) (by omega), e i hi (53 + 4 * i) (by omega) (by omega), e i hi (54 + 4 * i) (by omega) (by omega), e i hi (55 + 4 * i) (by omega) (by omega)]
  exact h i hi
theorem lr_b.ext {b g g' : Nat → Nat} (h : lr_b b g) (e : ∀ k, 84 ≤ k → g' k = g k) : lr_b b g' := fun i hi => by
  rw [e _ (Nat.le_refl _)] at hi
  rw [e (85 + 3 * i) (by omega), e (86 + 3 * i) (by omega), e (87 + 3 * i) (by omega)]
  exact h i hi
theorem lr_time {t c r n b g : Nat → Nat} {v B i : Nat} (h : lr t c r n b v g) (hk : ns_ok g B) (hi : i < g 6) : ns_sum t (6 * i) 6 = ns_time g i := by
  have hq := hk.2.2.2.1 i hi
  have e := h.2.1 i hi
  have hs : ∀ m, m ≤ 6 → ns_sum t (6 * i) m = ns_sum g (8 + 11 * i) (if m < g (7 + 11 * i) then m else g (7 + 11 * i)) := by
    intro m
    induction m with
    | zero =>
      intro _
      rw [if_pos (by have := hq.1.1; omega)]
      rfl
    | succ m ih =>
      intro hm
      have e1 := e m (by omega)
      simp only [ns_sum]
      rw [ih (by omega), e1]
      by_cases h1 : m < g (7 + 11 * i)
      · rw [if_pos h1, if_pos h1]
        by_cases h2 : m + 1 < g (7 + 11 * i)
        · rw [if_pos h2]; rfl
        · rw [if_neg h2, show g (7 + 11 * i) = m + 1 by omega]; rfl
      · rw [if_neg h1, if_neg h1, if_neg (by omega)]; rfl
  rw [hs 6 (Nat.le_refl _)]
  unfold ns_time
  have := hq.1.2
  congr 1
  split <;> omega
theorem lr.write {t c r n b g : Nat → Nat} {v kd q B : Nat} (h : lr t c r n b v g) (hk : ns_ok g B) : lr t c r (lw_n n) (lw_b b (100000 * kd + 10 * n 0 + q)) v (ns_write g kd q) := by
  have h6 := hk.1
  have h51 := hk.2.1
  have h84 := hk.2.2.1
  obtain ⟨⟨n0, n1, n2, n3, n4, n5, n6, n7, n8⟩, ht, hc, hr, hb⟩ := h
  have e : ∀ k, k < 84 → ns_write g kd q k = g k := fun k hk => ns_write_n (Or.inl hk)
  have w84 : ns_write g kd q 84 = if g 84 < 8 then g 84 + 1 else 8 := by simp [ns_write]
  have z : ∀ k, k ≠ 8 → lw_n n k = n k := fun k hk => ns_up_n hk
  refine ⟨⟨?_, ?_, ?_, ?_, ?_, ?_, ?_, ?_, ?_⟩, ht.ext (e 6 (by omega)) (fun i hi k k1 k2 => e k (by omega)), hc.ext (e 6 (by omega)) (fun i hi k k1 k2 => e k (by omega)), hr.ext (e 51 (by omega)) (fun i hi k k1 k2 => e k (by omega)), fun k hk9 => ?_⟩
  · rw [z _ (by omega), e _ (by omega)]; exact n0
  · rw [z _ (by omega)]; exact n1
  · rw [z _ (by omega), e _ (by omega)]; exact n2
  · rw [z _ (by omega), e _ (by omega)]; exact n3
  · rw [z _ (by omega), e _ (by omega)]; exact n4
  · rw [z _ (by omega), e _ (by omega)]; exact n5
  · rw [z _ (by omega), e _ (by omega)]; exact n6
  · rw [z _ (by omega), e _ (by omega)]; exact n7
  · rw [w84]
    unfold lw_n
    rw [ns_up_s, n8]
    split <;> omega
  · rw [w84] at hk9
    cases k with
    | zero =>
      show 100000 * kd + 10 * n 0 + q = _
      rw [n0]
      simp [ns_write]
    | succ j =>
      have hj : j < g 84 := by split at hk9 <;> omega
      have hj7 : j < 7 := by split at hk9 <;> omega
      have w : ∀ q9, q9 < 3 → ns_write g kd q (85 + 3 * (j + 1) + q9) = g (85 + 3 * j + q9) := by
        intro q9 hq9
        unfold ns_write
        rw [if_neg (by omega), if_neg (by omega), if_neg (by omega), if_pos (by omega)]
        congr 1
        omega
      have w0 := w 0 (by omega)
      have w1 := w 1 (by omega)
      have w2 := w 2 (by omega)
      rw [show 86 + 3 * (j + 1) = 85 + 3 * (j + 1) + 1 by omega, show 87 + 3 * (j + 1) = 85 + 3 * (j + 1) + 2 by omega, show 85 + 3 * (j + 1) = 85 + 3 * (j + 1) + 0 by omega, w0, w1, w2]
      show b (j + 1 - 1) = _
      rw [Nat.add_sub_cancel, show 85 + 3 * j + 1 = 86 + 3 * j by omega, show 85 + 3 * j + 2 = 87 + 3 * j by omega]
      exact hb j hj
/-- the numbers of the clock: one of them set -/
theorem lr.n {t c r n b g n' g' : Nat → Nat} {v v' B : Nat} (h : lr t c r n b v g) (hk : ns_ok g B) (hn : lr_n n' v' g') (e : ∀ k, 5 < k → g' k = g k) : lr t c r n' b v' g' := by
  have h6 := hk.1
  have h51 := hk.2.1
  exact ⟨hn, h.2.1.ext (e 6 (by omega)) (fun i hi k k1 k2 => e k (by omega)), h.2.2.1.ext (e 6 (by omega)) (fun i hi k k1 k2 => e k (by omega)), h.2.2.2.1.ext (e 51 (by omega)) (fun i hi k k1 k2 => e k (by omega)), h.2.2.2.2.ext (fun k k1 => e k (by omega))⟩
/-- the numbers of one cord alone -/
theorem lr.c {t c r n b g c' g' : Nat → Nat} {v i B : Nat} (h : lr t c r n b v g) (hk : ns_ok g B) (hi : i < g 6) (e : ∀ k, k ≠ 14 + 11 * i → k ≠ 15 + 11 * i → k ≠ 16 + 11 * i → k ≠ 17 + 11 * i → g' k = g k) (ec : ∀ k, (k < 5 * i ∨ 5 * i + 5 ≤ k) → c' k = c k) (h1 : c' (5 * i) = g' (14 + 11 * i) ∧ c' (5 * i + 1) = g' (15 + 11 * i) ∧ c' (5 * i + 2) = g' (16 + 11 * i) % 2 ∧ c' (5 * i + 3) = g' (16 + 11 * i) / 2 ∧ c' (5 * i + 4) = g' (17 + 11 * i)) : lr t c' r n b v g' := by
  have h6 := hk.1
  have h51 := hk.2.1
  obtain ⟨⟨n0, n1, n2, n3, n4, n5, n6, n7, n8⟩, ht, hc, hr, hb⟩ := h
  refine ⟨⟨?_, n1, ?_, ?_, ?_, ?_, ?_, ?_, ?_⟩, ht.ext (e 6 (by omega) (by omega) (by omega) (by omega)) (fun j hj k k1 k2 => e k (by omega) (by omega) (by omega) (by omega)), fun j hj => ?_, hr.ext (e 51 (by omega) (by omega) (by omega) (by omega)) (fun j hj k k1 k2 => e k (by omega) (by omega) (by omega) (by omega)), hb.ext (fun k k1 => e k (by omega) (by omega) (by omega) (by omega))⟩
  · rw [e _ (by omega) (by omega) (by omega) (by omega)]; exact n0
  · rw [e _ (by omega) (by omega) (by omega) (by omega)]; exact n2
  · rw [e _ (by omega) (by omega) (by omega) (by omega)]; exact n3
  · rw [e _ (by omega) (by omega) (by omega) (by omega)]; exact n4
  · rw [e _ (by omega) (by omega) (by omega) (by omega)]; exact n5
  · rw [e _ (by omega) (by omega) (by omega) (by omega)]; exact n6
  · rw [e _ (by omega) (by omega) (by omega) (by omega)]; exact n7
  · rw [e _ (by omega) (by omega) (by omega) (by omega)]; exact n8
  · rw [e 6 (by omega) (by omega) (by omega) (by omega)] at hj
    by_cases z : j = i
    · subst z; exact h1
    · rw [ec (5 * j) (by omega), ec (5 * j + 1) (by omega), ec (5 * j + 2) (by omega), ec (5 * j + 3) (by omega), ec (5 * j + 4) (by omega), e (14 + 11 * j) (by omega) (by omega) (by omega) (by omega), e (15 + 11 * j) (by omega) (by omega) (by omega) (by omega), e (16 + 11 * j) (by omega) (by omega) (by omega) (by omega), e (17 + 11 * j) (by omega) (by omega) (by omega) (by omega)]
      exact hc j hj
theorem ls_bit {f s : Nat} (hs : s ≤ 1) : ns_bit f (ls_x s) = if s = 0 then f % 2 else f / 2 := by
  have h : s = 0 ∨ s = 1 := by omega
  rcases h with rfl | rfl
  · rfl
  · rfl
theorem ls_side {s : Nat} (hs : s ≤ 1) : ns_side (ls_x s) = s + 1 := by
  have h : s = 0 ∨ s = 1 := by omega
  rcases h with rfl | rfl
  · rfl
  · rfl
theorem lr.bit {t c r n b g : Nat → Nat} {v i s : Nat} (h : lr t c r n b v g) (hi : i < g 6) (hs : s ≤ 1) : c (5 * i + 2 + s) = ns_bit (g (16 + 11 * i)) (ls_x s) := by
  obtain ⟨-, -, c2, c3, -⟩ := h.2.2.1 i hi
  rw [ls_bit hs]
  have h9 : s = 0 ∨ s = 1 := by omega
  rcases h9 with rfl | rfl
  · exact c2
  · exact c3
/-- a flame is lit: the law's c and n, then the book -/
theorem lr.light {t c r n b g : Nat → Nat} {v B i s : Nat} (h : lr t c r n b v g) (hk : ns_ok g B) (hi : i < g 6) (hs : s ≤ 1) (hl : ns_canLight g i (ls_x s)) : lr t (ns_up c (5 * i + 2 + s) 1) r (lw_n (ns_up n 2 (n 2 + 1))) (lw_b b (100000 * s + 10 * n 0 + i)) v (ns_lightNow g i (ls_x s)) := by
  have h6 := hk.1
  have hq := hk.2.2.2.1 i hi
  have hf := hq.2.2.2.1
  have hb := hl.2
  obtain ⟨c0, c1, c2, c3, c4⟩ := h.2.2.1 i hi
  have hk1 : ns_ok (ns_up g (16 + 11 * i) (g (16 + 11 * i) + ns_side (ls_x s))) B := hk.flame hi (ns_bit_le hf hb) (fun _ => by have := hl.1; unfold ns_left at this; omega)
  have h1 : lr t (ns_up c (5 * i + 2 + s) 1) r n b v (ns_up g (16 + 11 * i) (g (16 + 11 * i) + ns_side (ls_x s))) := by
    refine h.c hk hi (fun k k1 k2 k3 k4 => ns_up_n k3) (fun k hk9 => ns_up_n (by omega)) ?_
    rw [ns_up_n (show 5 * i ≠ 5 * i + 2 + s by omega), ns_up_n (show 5 * i + 1 ≠ 5 * i + 2 + s by omega), ns_up_n (show 5 * i + 4 ≠ 5 * i + 2 + s by omega), ns_up_n (show 14 + 11 * i ≠ 16 + 11 * i by omega), ns_up_n (show 15 + 11 * i ≠ 16 + 11 * i by omega), ns_up_n (show 17 + 11 * i ≠ 16 + 11 * i by omega), ns_up_s]
    refine ⟨c0, c1, ?_, ?_, c4⟩
    · rw [ls_side hs]
      rw [ls_bit hs] at hb
      have h9 : s = 0 ∨ s = 1 := by omega
      rcases h9 with rfl | rfl
      · rw [ns_up_s]
        rw [if_pos rfl] at hb
        omega
      · rw [ns_up_n (by omega), c2]
        omega
    · rw [ls_side hs]
      rw [ls_bit hs] at hb
      have h9 : s = 0 ∨ s = 1 := by omega
      rcases h9 with rfl | rfl
      · rw [ns_up_n (by omega), c3]
        rw [if_pos rfl] at hb
        omega
      · rw [ns_up_s]
        rw [if_neg (by omega)] at hb
        omega
  obtain ⟨n0, n1, n2, n3, n4, n5, n6, n7, n8⟩ := h1.1
  have e16 : ∀ k, k < 6 → ns_up g (16 + 11 * i) (g (16 + 11 * i) + ns_side (ls_x s)) k = g k := fun k hk9 => ns_up_n (by omega)
  have h2 : lr t (ns_up c (5 * i + 2 + s) 1) r (ns_up n 2 (n 2 + 1)) b v (ns_up (ns_up g (16 + 11 * i) (g (16 + 11 * i) + ns_side (ls_x s))) 2 (g 2 + 1)) := by
    refine h1.n hk1 ⟨?_, ?_, ?_, ?_, ?_, ?_, ?_, ?_, ?_⟩ (fun k hk9 => ns_up_n (by omega))
    · rw [ns_up_n (by omega), ns_up_n (by omega)]; exact n0
    · rw [ns_up_n (by omega)]; exact n1
    · rw [ns_up_s, ns_up_s, n2, e16 2 (by omega)]
    · rw [ns_up_n (by omega), ns_up_n (by omega)]; exact n3
    · rw [ns_up_n (by omega), ns_up_n (by omega)]; exact n4
    · rw [ns_up_n (by omega), ns_up_n (by omega)]; exact n5
    · rw [ns_up_n (by omega), ns_up_n (by omega)]; exact n6
    · rw [ns_up_n (by omega), ns_up_n (by omega)]; exact n7
    · rw [ns_up_n (by omega), ns_up_n (by omega)]; exact n8
  have h3 := h2.write (kd := s) (q := i) (hk1.free (k := 2) (v := g 2 + 1) (Or.inr (Or.inl rfl)))
  rw [ns_up_n (show 0 ≠ 2 by omega)] at h3
  unfold ns_lightNow
  rw [show (if ls_x s = 0 then 1 else 0) = s from by
    have h9 : s = 0 ∨ s = 1 := by omega
    rcases h9 with rfl | rfl <;> rfl]
  exact h3
theorem ns_time_16 {g : Nat → Nat} {i k v : Nat} (hk : k = 14 + 11 * i ∨ k = 15 + 11 * i ∨ k = 16 + 11 * i ∨ k = 17 + 11 * i) (hs : g (7 + 11 * i) ≤ 6) : ns_time (ns_up g k v) i = ns_time g i := (ns_time_ext hs (fun j j1 j2 => (ns_up_n (by omega)).symm)).symm
theorem lr.time {t c r n b g : Nat → Nat} {v B i : Nat} (h : lr t c r n b v g) (hk : ns_ok g B) (hi : i < g 6) : ns_sum t (6 * i) 6 = ns_time g i := lr_time h hk hi
/-- a cord burns for a step -/
theorem lr.burn {t c r n b g c' : Nat → Nat} {v B i : Nat} (h : lr t c r n b v g) (hk : ns_ok g B) (hi : i < g 6) (ec : ∀ k, (k < 5 * i ∨ 5 * i + 4 ≤ k) → c' k = c k)
    (h0 : c' (5 * i) = c (5 * i) + c (5 * i + 2)) (h1 : c' (5 * i + 1) = c (5 * i + 1) + (if 0 < ns_time g i - (c (5 * i) + c (5 * i + 2)) - c (5 * i + 1) then c (5 * i + 3) else 0))
    (h2 : (0 < c (5 * i + 2) + c (5 * i + 3) ∧ ns_time g i - c' (5 * i) - c' (5 * i + 1) = 0 → c' (5 * i + 2) = 0 ∧ c' (5 * i + 3) = 0) ∧ (¬ (0 < c (5 * i + 2) + c (5 * i + 3) ∧ ns_time g i - c' (5 * i) - c' (5 * i + 1) = 0) → c' (5 * i + 2) = c (5 * i + 2) ∧ c' (5 * i + 3) = c (5 * i + 3))) :
    lr t c' r n b v (ns_bstep g i) ∧ (ns_outs g i ↔ 0 < c (5 * i + 2) + c (5 * i + 3) ∧ ns_time g i - c' (5 * i) - c' (5 * i + 1) = 0) ∧ c (5 * i) + c (5 * i + 2) + c (5 * i + 1) ≤ ns_time g i ∧ c' (5 * i) + c' (5 * i + 1) ≤ ns_time g i := by
  have hq := hk.2.2.2.1 i hi
  obtain ⟨c0, c1, c2, c3, c4⟩ := h.2.2.1 i hi
  obtain ⟨b14, b15, b16, bn, bo, bt⟩ := ns_bstep_at hq
  obtain ⟨q1, q2, q3, q4, q5⟩ := hq
  unfold ns_burned at q3 q5
  have hf : g (16 + 11 * i) = 0 ∨ g (16 + 11 * i) = 1 ∨ g (16 + 11 * i) = 2 ∨ g (16 + 11 * i) = 3 := by omega
  have e15 : c' (5 * i + 1) = ns_bstep g i (15 + 11 * i) := by
    rw [h1, b15, c0, c1, c2, c3]
    rcases hf with f | f | f | f <;> rw [f] at q5 ⊢ <;> simp <;> split <;> split <;> omega
  have e14 : c' (5 * i) = ns_bstep g i (14 + 11 * i) := by rw [h0, b14, c0, c2]
  have hle : g (14 + 11 * i) + g (16 + 11 * i) % 2 + g (15 + 11 * i) ≤ ns_time g i := by
    by_cases z : g (16 + 11 * i) = 0
    · rw [z]; omega
    · have := q5 z; omega
  have hle2 : ns_bstep g i (14 + 11 * i) + ns_bstep g i (15 + 11 * i) ≤ ns_time g i := by
    rw [b14, b15]
    split <;> omega
  have ho : ns_outs g i ↔ 0 < c (5 * i + 2) + c (5 * i + 3) ∧ ns_time g i - c' (5 * i) - c' (5 * i + 1) = 0 := by
    rw [bo, e14, e15, ← b15, ← b14, c2, c3]
    constructor
    · intro ⟨z1, z2⟩
      exact ⟨by omega, by omega⟩
    · intro ⟨z1, z2⟩
      exact ⟨by omega, by omega⟩
  refine ⟨h.c hk hi (fun k k1 k2 k3 k4 => bn k k1 k2 k3) (fun k hk9 => ec k (by omega)) ⟨e14, e15, ?_, ?_, ?_⟩, ho, by rw [c0, c1, c2]; exact hle, by rw [e14, e15]; exact hle2⟩
  · rw [b16]
    by_cases z : ns_outs g i
    · rw [if_pos z, (h2.1 (ho.mp z)).1]
    · rw [if_neg z, (h2.2 (fun w => z (ho.mpr w))).1, c2]
  · rw [b16]
    by_cases z : ns_outs g i
    · rw [if_pos z, (h2.1 (ho.mp z)).2]
    · rw [if_neg z, (h2.2 (fun w => z (ho.mpr w))).2, c3]
  · rw [ec _ (by omega), bn _ (by omega) (by omega) (by omega), c4]
/-- the step at which a cord was burned out, and the book -/
theorem lr.sig0 {t c r n b g : Nat → Nat} {v B i : Nat} (h : lr t c r n b v g) (hk : ns_ok g B) (hi : i < g 6) : lr t (ns_up c (5 * i + 4) (n 0)) r (lw_n n) (lw_b b (100000 * 2 + 10 * n 0 + i)) v (ns_sig0 g i) := by
  have h6 := hk.1
  obtain ⟨c0, c1, c2, c3, c4⟩ := h.2.2.1 i hi
  have k1 : ns_ok (ns_up g 1 (g 1 + 1)) B := hk.free (Or.inl rfl)
  have k2 : ns_ok (ns_up (ns_up g 1 (g 1 + 1)) (17 + 11 * i) (g 0)) B := k1.free (Or.inr (Or.inr (Or.inr (Or.inl ⟨i, by omega, rfl⟩))))
  obtain ⟨n0, n1, n2, n3, n4, n5, n6, n7, n8⟩ := id h.1
  have h1 : lr t c r n b v (ns_up g 1 (g 1 + 1)) := h.n hk ⟨by rw [ns_up_n (by omega)]; exact n0, n1, by rw [ns_up_n (by omega)]; exact n2, by rw [ns_up_n (by omega)]; exact n3, by rw [ns_up_n (by omega)]; exact n4, by rw [ns_up_n (by omega)]; exact n5, by rw [ns_up_n (by omega)]; exact n6, by rw [ns_up_n (by omega)]; exact n7, by rw [ns_up_n (by omega)]; exact n8⟩ (fun k hk9 => ns_up_n (by omega))
  have h2 : lr t (ns_up c (5 * i + 4) (n 0)) r n b v (ns_up (ns_up g 1 (g 1 + 1)) (17 + 11 * i) (g 0)) := by
    refine h1.c k1 (by rw [ns_up_n (by omega)]; exact hi) (fun k k1 k2 k3 k4 => ns_up_n k4) (fun k hk9 => ns_up_n (by omega)) ?_
    rw [ns_up_n (show 5 * i ≠ 5 * i + 4 by omega), ns_up_n (show 5 * i + 1 ≠ 5 * i + 4 by omega), ns_up_n (show 5 * i + 2 ≠ 5 * i + 4 by omega), ns_up_n (show 5 * i + 3 ≠ 5 * i + 4 by omega), ns_up_s, ns_up_s, ns_up_n (show 14 + 11 * i ≠ 17 + 11 * i by omega), ns_up_n (show 15 + 11 * i ≠ 17 + 11 * i by omega), ns_up_n (show 16 + 11 * i ≠ 17 + 11 * i by omega), ns_up_n (show 14 + 11 * i ≠ 1 by omega), ns_up_n (show 15 + 11 * i ≠ 1 by omega), ns_up_n (show 16 + 11 * i ≠ 1 by omega)]
    exact ⟨c0, c1, c2, c3, n0⟩
  exact h2.write k2
theorem ls_rx {g : Nat → Nat} {k : Nat} (h : g (54 + 4 * k) ≤ 1) : ls_x (1 - g (54 + 4 * k)) = ns_x g k := by
  unfold ls_x ns_x
  have h9 : g (54 + 4 * k) = 0 ∨ g (54 + 4 * k) = 1 := by omega
  rcases h9 with e | e <;> rw [e] <;> rfl
/-- a rule that lit an end -/
theorem lr.rule {t c r n b g : Nat → Nat} {v B k d : Nat} (h : lr t c r n b v g) (hk : ns_ok g B) (hr : k < g 51) (hd : d = g (55 + 4 * k)) : lr t c (ns_up r (4 * k + 3) (d + 1)) n b v (ns_up g (55 + 4 * k) (g (55 + 4 * k) + 1)) := by
  have h6 := hk.1
  have h51 := hk.2.1
  have e : ∀ j, j ≠ 55 + 4 * k → ns_up g (55 + 4 * k) (g (55 + 4 * k) + 1) j = g j := fun j hj => ns_up_n hj
  obtain ⟨⟨n0, n1, n2, n3, n4, n5, n6, n7, n8⟩, ht, hc, hrr, hb⟩ := h
  refine ⟨⟨?_, n1, ?_, ?_, ?_, ?_, ?_, ?_, ?_⟩, ht.ext (e 6 (by omega)) (fun j hj q k1 k2 => e q (by omega)), hc.ext (e 6 (by omega)) (fun j hj q k1 k2 => e q (by omega)), fun j hj => ?_, hb.ext (fun q k1 => e q (by omega))⟩
  · rw [e _ (by omega)]; exact n0
  · rw [e _ (by omega)]; exact n2
  · rw [e _ (by omega)]; exact n3
  · rw [e _ (by omega)]; exact n4
  · rw [e _ (by omega)]; exact n5
  · rw [e _ (by omega)]; exact n6
  · rw [e _ (by omega)]; exact n7
  · rw [e _ (by omega)]; exact n8
  · rw [e _ (by omega)] at hj
    obtain ⟨r0, r1, r2, r3⟩ := hrr j hj
    by_cases z : j = k
    · subst z
      rw [ns_up_n (show 4 * j ≠ 4 * j + 3 by omega), ns_up_n (show 4 * j + 1 ≠ 4 * j + 3 by omega), ns_up_n (show 4 * j + 2 ≠ 4 * j + 3 by omega), ns_up_s, ns_up_s, e _ (by omega), e _ (by omega), e _ (by omega), hd]
      exact ⟨r0, r1, r2, rfl⟩
    · rw [ns_up_n (show 4 * j ≠ 4 * k + 3 by omega), ns_up_n (show 4 * j + 1 ≠ 4 * k + 3 by omega), ns_up_n (show 4 * j + 2 ≠ 4 * k + 3 by omega), ns_up_n (show 4 * j + 3 ≠ 4 * k + 3 by omega), e _ (by omega), e _ (by omega), e _ (by omega), e _ (by omega)]
      exact ⟨r0, r1, r2, r3⟩
/-- what stands behind a rule -/
theorem lr.rule1 {t c r n b g c' n' b' : Nat → Nat} {v B i k : Nat} (hr : k < g 51) (hk : ns_ok g B) (h : lr t c r n b v g) (hc : g (52 + 4 * k) = i ∧ ns_canLight g (g (53 + 4 * k)) (ns_x g k)) (hl : lr t c' r n' b' v (ns_lightNow g (g (53 + 4 * k)) (ns_x g k))) : lr t c' (ns_up r (4 * k + 3) (r (4 * k + 3) + 1)) n' b' v (ns_rule1 g i k) := by
  have h5 := hk.2.2.2.2.1 k hr
  have h51 := hk.2.1
  have h6 := hk.1
  have hk2 := hk.light h5.2.1 hc.2
  have e51 : ns_lightNow g (g (53 + 4 * k)) (ns_x g k) 51 = g 51 := ns_light_n (by omega) (by omega) (by omega)
  have e55 : ns_lightNow g (g (53 + 4 * k)) (ns_x g k) (55 + 4 * k) = g (55 + 4 * k) := ns_light_n (by omega) (by omega) (by omega)
  unfold ns_rule1
  rw [if_pos hc]
  exact hl.rule hk2 (by rw [e51]; exact hr) (by rw [e55]; exact (h.2.2.2.1 k hr).2.2.2)
/-- a step's beginning -/
theorem lr.s4 {t c r n b g n' : Nat → Nat} {v B F : Nat} (h : lr t c r n b v g) (hk : ns_ok g B) (hF : F = ns_flames g (g 6)) (m0 : n' 0 = n 0 + 1) (m1 : n' 1 = n 1) (m2 : n' 2 = n 2) (m3 : n' 3 = n 3 + (if 0 < F then 1 else 0)) (m4 : n' 4 = if 0 < F then 0 else n 4 + 1) (m5 : n' 5 = if n' 4 < n 5 then n 5 else n' 4) (m6 : n' 6 = n 6) (m7 : n' 7 = n 7) (m8 : n' 8 = n 8) : lr t c r n' b v (ns_s4 g) := by
  subst hF
  obtain ⟨n0, n1, n2, n3, n4, n5, n6, n7, n8⟩ := id h.1
  obtain ⟨a3, a4, a5, ae⟩ := ns_s3_at g
  have e : ∀ k, k ≠ 0 → ns_s4 g k = ns_s3 g k := fun k hk9 => ns_up_n hk9
  refine h.n hk ⟨?_, ?_, ?_, ?_, ?_, ?_, ?_, ?_, ?_⟩ (fun k hk9 => by rw [e k (by omega), ae k (by omega) (by omega) (by omega)])
  · rw [m0, n0]; exact (ns_up_s _ _ _).symm
  · rw [m1]; exact n1
  · rw [m2, n2, e _ (by omega), ae _ (by omega) (by omega) (by omega)]
  · rw [m3, n3, e _ (by omega), a3]
  · rw [m4, n4, e _ (by omega), a4]
  · rw [m5, m4, n4, n5, e _ (by omega), a5]
    generalize (if 0 < ns_flames g (g 6) then 0 else g 4 + 1) = y
    split <;> split <;> omega
  · rw [m6, n6, e _ (by omega), ae _ (by omega) (by omega) (by omega)]
  · rw [m7, n7, e _ (by omega), ae _ (by omega) (by omega) (by omega)]
  · rw [m8, n8, e _ (by omega), ae _ (by omega) (by omega) (by omega)]
/-- the number of signals, behind them -/
theorem lr.n1 {t c r n b g : Nat → Nat} {v w : Nat} (h : lr t c r n b v g) : lr t c r (ns_up n 1 w) b w g := by
  obtain ⟨⟨n0, n1, n2, n3, n4, n5, n6, n7, n8⟩, h2⟩ := h
  exact ⟨⟨by rw [ns_up_n (by omega)]; exact n0, ns_up_s _ _ _, by rw [ns_up_n (by omega)]; exact n2, by rw [ns_up_n (by omega)]; exact n3, by rw [ns_up_n (by omega)]; exact n4, by rw [ns_up_n (by omega)]; exact n5, by rw [ns_up_n (by omega)]; exact n6, by rw [ns_up_n (by omega)]; exact n7, by rw [ns_up_n (by omega)]; exact n8⟩, h2⟩
/-- the law's flames -/
theorem lr.flames {t c r n b g : Nat → Nat} {v : Nat} (h : lr t c r n b v g) {i : Nat} (hi : i < g 6) : ns_flames g (i + 1) = ns_flames g i + (c (5 * i + 2) + c (5 * i + 3)) := by
  obtain ⟨-, -, c2, c3, -⟩ := h.2.2.1 i hi
  rw [c2, c3]
  rfl
theorem lr.left {t c r n b g : Nat → Nat} {v B i : Nat} (h : lr t c r n b v g) (hk : ns_ok g B) (hi : i < g 6) : ns_sum t (6 * i) 6 - c (5 * i) - c (5 * i + 1) = ns_left g i ∧ c (5 * i) + c (5 * i + 1) ≤ ns_sum t (6 * i) 6 := by
  obtain ⟨c0, c1, -⟩ := h.2.2.1 i hi
  have h3 := (hk.2.2.2.1 i hi).2.2.1
  rw [h.time hk hi, c0, c1]
  unfold ns_left ns_burned at *
  omega
