/-! THE CLOCK AS A ROW OF COUNTS: what both sides do, over Nat -/
def ns_up (g : Nat → Nat) (k v : Nat) : Nat → Nat := fun j => if j = k then v else g j
theorem ns_up_s (g : Nat → Nat) (k v : Nat) : ns_up g k v k = v := by simp [ns_up]
theorem ns_up_n {g : Nat → Nat} {k v j : Nat} (h : j ≠ k) : ns_up g k v j = g j := by simp [ns_up, h]
/-- a row of the memory is a row of counts -/
def cq_nv (M : cq_M) (a n : Nat) (g : Nat → Nat) : Prop := ∀ k, k < n → M a k = nI (g k)
theorem cq_nv.up {M M1 : cq_M} {a n j v : Nat} {g : Nat → Nat} (h : cq_nv M a n g) (h1 : M1 = cq_up M a j (nI v)) : cq_nv M1 a n (ns_up g j v) := by
  intro k hk
  rw [h1]
  by_cases e : k = j
  · subst e; rw [cq_up_s, ns_up_s]
  · rw [cq_up_k e, ns_up_n e]; exact h k hk
theorem cq_nv.ne {M M1 : cq_M} {a n x j : Nat} {w : Int32} {g : Nat → Nat} (h : cq_nv M a n g) (h1 : M1 = cq_up M x j w) (hx : a ≠ x) : cq_nv M1 a n g := by
  intro k hk
  rw [h1, cq_up_a hx]
  exact h k hk
theorem cq_nv.same {M M1 : cq_M} {a n : Nat} {g : Nat → Nat} (h : cq_nv M a n g) (h1 : ∀ j, M1 a j = M a j) : cq_nv M1 a n g := fun k hk => by rw [h1]; exact h k hk
theorem cq_b1 {P : Prop} [Decidable P] {r : Int32} (h : r = if P then 1 else 0) (c : ¬ r = 0) : P := by
  by_cases hp : P
  · exact hp
  · rw [if_neg hp] at h; exact absurd h c
theorem cq_b0 {P : Prop} [Decidable P] {r : Int32} (h : r = if P then 1 else 0) (c : r = 0) : ¬ P := by
  intro hp
  rw [if_pos hp] at h
  rw [h] at c
  exact absurd c (by decide)
def ns_sum (g : Nat → Nat) (b : Nat) : Nat → Nat
  | 0 => 0
  | n + 1 => ns_sum g b n + g (b + n)
/-- the time of a cord, its burned part, what is left -/
def ns_time (g : Nat → Nat) (c : Nat) : Nat := ns_sum g (8 + 11 * c) (g (7 + 11 * c))
def ns_burned (g : Nat → Nat) (c : Nat) : Nat := g (14 + 11 * c) + g (15 + 11 * c)
def ns_left (g : Nat → Nat) (c : Nat) : Nat := ns_time g c - ns_burned g c
def ns_fl (x : Nat) : Nat := x % 2 + x / 2
def ns_flames (g : Nat → Nat) : Nat → Nat
  | 0 => 0
  | n + 1 => ns_flames g n + ns_fl (g (16 + 11 * n))
def ns_side (x : Int32) : Nat := if x = 0 then 2 else 1
def ns_bit (f : Nat) (x : Int32) : Nat := if x = 0 then f / 2 else f % 2
abbrev ns_canLight (g : Nat → Nat) (c : Nat) (x : Int32) : Prop := 0 < ns_left g c ∧ ns_bit (g (16 + 11 * c)) x = 0
def ns_write (g : Nat → Nat) (kind c : Nat) : Nat → Nat := fun k => if k = 85 then kind else if k = 86 then g 0 else if k = 87 then c else if 87 < k ∧ k < 109 then g (k - 3) else if k = 84 then (if g 84 < 8 then g 84 + 1 else 8) else g k
def ns_lightNow (g : Nat → Nat) (c : Nat) (x : Int32) : Nat → Nat := ns_write (ns_up (ns_up g (16 + 11 * c) (g (16 + 11 * c) + ns_side x)) 2 (g 2 + 1)) (if x = 0 then 1 else 0) c
/-- the burned parts behind a step of a cord -/
def ns_burn1 (g : Nat → Nat) (c : Nat) : Nat → Nat := if g (16 + 11 * c) % 2 = 1 then ns_up g (14 + 11 * c) (g (14 + 11 * c) + 1) else g
def ns_burn2 (g : Nat → Nat) (c : Nat) : Nat → Nat := if g (16 + 11 * c) / 2 = 1 ∧ 0 < ns_left (ns_burn1 g c) c then ns_up (ns_burn1 g c) (15 + 11 * c) (ns_burn1 g c (15 + 11 * c) + 1) else ns_burn1 g c
/-- whether the step burns it out -/
abbrev ns_outs (g : Nat → Nat) (c : Nat) : Prop := g (16 + 11 * c) ≠ 0 ∧ ns_left (ns_burn2 g c) c = 0
/-- what a row of the clock keeps to -/
def ns_cord (g : Nat → Nat) (c : Nat) : Prop := (1 ≤ g (7 + 11 * c) ∧ g (7 + 11 * c) ≤ 6) ∧ (∀ k, k < g (7 + 11 * c) → 1 ≤ g (8 + 11 * c + k) ∧ g (8 + 11 * c + k) ≤ 60) ∧ ns_burned g c ≤ ns_time g c ∧ g (16 + 11 * c) ≤ 3 ∧ (g (16 + 11 * c) ≠ 0 → ns_burned g c < ns_time g c)
def ns_ok (g : Nat → Nat) (B : Nat) : Prop := g 6 ≤ 4 ∧ g 51 ≤ 8 ∧ g 84 ≤ 8 ∧ (∀ c, c < g 6 → ns_cord g c) ∧ (∀ r, r < g 51 → g (52 + 4 * r) < g 6 ∧ g (53 + 4 * r) < g 6 ∧ g (54 + 4 * r) ≤ 1) ∧ (∀ i, i < g 84 → g (85 + 3 * i) ≤ 2 ∧ g (86 + 3 * i) ≤ g 0 ∧ g (87 + 3 * i) < 4) ∧ g 0 ≤ B ∧ g 4 ≤ B ∧ g 5 ≤ B
theorem ns_sum_le {g : Nat → Nat} {b : Nat} : ∀ {n : Nat}, (∀ k, k < n → g (b + k) ≤ 60) → ns_sum g b n ≤ 60 * n
  | 0, _ => by simp [ns_sum]
  | n + 1, h => by
    have h1 := ns_sum_le (n := n) (fun k hk => h k (by omega))
    have h2 := h n (by omega)
    simp only [ns_sum]
    omega
theorem ns_cord.time {g : Nat → Nat} {c : Nat} (h : ns_cord g c) : ns_time g c ≤ 360 := by
  have h1 := ns_sum_le (g := g) (b := 8 + 11 * c) (n := g (7 + 11 * c)) (fun k hk => (h.2.1 k hk).2)
  have h2 := h.1.2
  unfold ns_time
  omega
theorem ns_flames_le {g : Nat → Nat} : ∀ {n : Nat}, (∀ c, c < n → g (16 + 11 * c) ≤ 3) → ns_flames g n ≤ 2 * n
  | 0, _ => by simp [ns_flames]
  | n + 1, h => by
    have h1 := ns_flames_le (n := n) (fun c hc => h c (by omega))
    have h2 := h n (by omega)
    simp only [ns_flames, ns_fl]
    omega
theorem nI_and1 {f : Nat} (h : f ≤ 3) : (nI f &&& 1 = nI (f % 2)) ∧ (nI f &&& 2 = nI (2 * (f / 2))) ∧ nI f >>> ((1 : Int32) &&& 31) = nI (f / 2) := by
  have h9 : f = 0 ∨ f = 1 ∨ f = 2 ∨ f = 3 := by omega
  rcases h9 with rfl | rfl | rfl | rfl <;> decide
theorem nI_side {f : Nat} (x : Int32) (h : f ≤ 3) : (nI f &&& nI (ns_side x) = nI (if x = 0 then 2 * (f / 2) else f % 2)) ∧ (ns_bit f x = 0 → nI f ||| nI (ns_side x) = nI (f + ns_side x)) ∧ (¬ ns_bit f x = 0 → nI f - nI (ns_side x) = nI (f - ns_side x)) := by
  have h9 : f = 0 ∨ f = 1 ∨ f = 2 ∨ f = 3 := by omega
  by_cases hx : x = 0
  · simp only [ns_side, ns_bit, hx, if_true]
    rcases h9 with rfl | rfl | rfl | rfl <;> decide
  · simp only [ns_side, ns_bit, hx, if_false]
    rcases h9 with rfl | rfl | rfl | rfl <;> decide
theorem nI_dn {n : Nat} (h : 0 < n) : nI n + Int32.ofInt (-1) = nI (n - 1) := sb_m1 h
/-- outside of a nothing changed -/
def cq_only (M M1 : cq_M) (a : Nat) : Prop := ∀ x, x ≠ a → M1 x = M x
theorem cq_only.rf {M : cq_M} {a : Nat} : cq_only M M a := fun _ _ => rfl
theorem cq_only.up {M M1 M2 : cq_M} {a j : Nat} {v : Int32} (h : cq_only M M1 a) (h2 : M2 = cq_up M1 a j v) : cq_only M M2 a := fun x hx => by rw [h2, cq_up_row hx, h x hx]
theorem cq_only.trans {M M1 M2 : cq_M} {a : Nat} (h : cq_only M M1 a) (h2 : cq_only M1 M2 a) : cq_only M M2 a := fun x hx => by rw [h2 x hx, h x hx]
theorem cq_only1 {M M2 : cq_M} {a j : Nat} {v : Int32} (h2 : M2 = cq_up M a j v) : cq_only M M2 a := cq_only.rf.up h2
theorem cq_nv.ext {M : cq_M} {a n : Nat} {g g' : Nat → Nat} (h : cq_nv M a n g) (e : ∀ k, k < n → g k = g' k) : cq_nv M a n g' := fun k hk => by rw [h k hk, e k hk]
/-- a rule when the cord c gives its signal; the rules in their order; the signal -/
def ns_x (g : Nat → Nat) (r : Nat) : Int32 := if g (54 + 4 * r) = 1 then 1 else 0
def ns_rule1 (g : Nat → Nat) (c r : Nat) : Nat → Nat := if g (52 + 4 * r) = c ∧ ns_canLight g (g (53 + 4 * r)) (ns_x g r) then ns_up (ns_lightNow g (g (53 + 4 * r)) (ns_x g r)) (55 + 4 * r) (ns_lightNow g (g (53 + 4 * r)) (ns_x g r) (55 + 4 * r) + 1) else g
def ns_rules (g : Nat → Nat) (c : Nat) : Nat → Nat → Nat
  | 0 => g
  | n + 1 => ns_rule1 (ns_rules g c n) c n
def ns_sig0 (g : Nat → Nat) (c : Nat) : Nat → Nat := ns_write (ns_up (ns_up g 1 (g 1 + 1)) (17 + 11 * c) (g 0)) 2 c
def ns_signal (g : Nat → Nat) (c : Nat) : Nat → Nat := ns_rules (ns_sig0 g c) c (g 51)
/-- a step: the cords burn; the set of those that it burns out; the signals -/
def ns_bstep (g : Nat → Nat) (c : Nat) : Nat → Nat := if ns_outs g c then ns_up (ns_burn2 g c) (16 + 11 * c) 0 else ns_burn2 g c
def ns_bA (g : Nat → Nat) : Nat → Nat → Nat
  | 0 => g
  | n + 1 => ns_bstep (ns_bA g n) n
def ns_bS (g : Nat → Nat) : Nat → Nat
  | 0 => 0
  | n + 1 => ns_bS g n + (if ns_outs (ns_bA g n) n then 2 ^ n else 0)
def ns_sA (g : Nat → Nat) (S : Nat) : Nat → Nat → Nat
  | 0 => g
  | n + 1 => if S / 2 ^ n % 2 = 1 then ns_signal (ns_sA g S n) n else ns_sA g S n
def ns_cnt (S : Nat) : Nat → Nat
  | 0 => 0
  | n + 1 => ns_cnt S n + S / 2 ^ n % 2
def ns_s1 (g : Nat → Nat) : Nat → Nat := ns_up g 3 (g 3 + (if 0 < ns_flames g (g 6) then 1 else 0))
def ns_s2 (g : Nat → Nat) : Nat → Nat := ns_up (ns_s1 g) 4 (if 0 < ns_flames g (g 6) then 0 else g 4 + 1)
def ns_s3 (g : Nat → Nat) : Nat → Nat := ns_up (ns_s2 g) 5 (if ns_s2 g 5 < ns_s2 g 4 then ns_s2 g 4 else ns_s2 g 5)
def ns_s4 (g : Nat → Nat) : Nat → Nat := ns_up (ns_s3 g) 0 (g 0 + 1)
def ns_step (g : Nat → Nat) : Nat → Nat := ns_sA (ns_bA (ns_s4 g) (g 6)) (ns_bS (ns_s4 g) (g 6)) (g 6)
def ns_steps (g : Nat → Nat) : Nat → Nat → Nat
  | 0 => g
  | n + 1 => ns_step (ns_steps g n)
/-- how many signals a step gives; steps give -/
def ns_sigs (g : Nat → Nat) : Nat := ns_cnt (ns_bS (ns_s4 g) (g 6)) (g 6)
def ns_sigsN (g : Nat → Nat) : Nat → Nat
  | 0 => 0
  | n + 1 => ns_sigsN g n + ns_sigs (ns_steps g n)
theorem nI_set : ∀ n, n < 4 → ∀ S, S < 16 → (S < 2 ^ n → nI S ||| ((1 : Int32) <<< (nI n &&& 31)) = nI (S + 2 ^ n)) ∧ (nI S >>> (nI n &&& 31)) &&& 1 = nI (S / 2 ^ n % 2) := by decide
