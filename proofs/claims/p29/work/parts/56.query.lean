/-! THE QUERIES, for both sides -/
theorem sw_ne {x : Int32} (j : Nat) (hj : j < 2147483648) (h : ¬ x = nI j) : x.toInt ≠ (j : Int) := fun z => h (Int32.toInt_inj.mp (by rw [z, nI_toInt hj]))
theorem sw_ge {x : Int32} {n : Nat} (hn : n < 2147483648) (h : x.toInt < 0 ∨ (n : Int) < x.toInt) : ¬ (0 ≤ x ∧ x ≤ nI n) := fun z => by
  obtain ⟨z1, z2⟩ := z
  rw [Int32.le_iff_toInt_le, Int32.toInt_zero] at z1
  rw [Int32.le_iff_toInt_le, nI_toInt hn] at z2
  omega
def ns_ofCord (g : Nat → Nat) (c : Nat) : Nat → Int32
  | 0 => nI (ns_time g c)
  | 1 => nI (g (7 + 11 * c))
  | 2 => nI (g (14 + 11 * c))
  | 3 => nI (g (15 + 11 * c))
  | 4 => nI (ns_left g c)
  | 5 => nI (g (16 + 11 * c))
  | 6 => if ns_left g c = 0 then 1 else 0
  | _ => nI (g (17 + 11 * c))
def op_cordOf (S : as_T) (x w : Int32) : op_T := if op_cd S x then (if 0 ≤ w ∧ w ≤ 7 then (0, ns_ofCord (S_g S) x.toNatClampNeg w.toNatClampNeg, S) else (2, 0, S)) else (1, 0, S)
def op_segment (S : as_T) (x w : Int32) : op_T := if op_cd S x ∧ 0 ≤ w ∧ w < nI (S_g S (7 + 11 * x.toNatClampNeg)) then (0, nI (S_g S (8 + 11 * x.toNatClampNeg + w.toNatClampNeg)), S) else (1, 0, S)
/-- in which segment the unit u lies: how many of the first n end at or ahead of u -/
def ns_at (g : Nat → Nat) (b u : Nat) : Nat → Nat
  | 0 => 0
  | n + 1 => ns_at g b u n + if ns_sum g b (n + 1) ≤ u then 1 else 0
theorem ns_sum_mono {g : Nat → Nat} {b m : Nat} : ∀ {n : Nat}, m ≤ n → ns_sum g b m ≤ ns_sum g b n
  | 0, h => by rw [show m = 0 by omega]; exact Nat.le_refl _
  | n + 1, h => by
    by_cases e : m = n + 1
    · rw [e]; exact Nat.le_refl _
    · exact Nat.le_trans (ns_sum_mono (show m ≤ n by omega)) (Nat.le_add_right _ _)
theorem ns_at_eq {g : Nat → Nat} {b u s : Nat} (h1 : ns_sum g b s ≤ u) (h2 : u < ns_sum g b (s + 1)) : ∀ n, ns_at g b u n = if n ≤ s then n else s
  | 0 => by rw [if_pos (Nat.zero_le _)]; rfl
  | n + 1 => by
    rw [ns_at, ns_at_eq h1 h2 n]
    by_cases e : n < s
    · rw [if_pos (show n ≤ s by omega), if_pos (Nat.le_trans (ns_sum_mono (show n + 1 ≤ s by omega)) h1), if_pos (show n + 1 ≤ s by omega)]
    · rw [if_neg (show ¬ n + 1 ≤ s by omega), if_neg (show ¬ ns_sum g b (n + 1) ≤ u from Nat.not_le.mpr (Nat.lt_of_lt_of_le h2 (ns_sum_mono (by omega))))]
      split <;> omega
def ns_front (g : Nat → Nat) (c : Nat) (y : Int32) : Int32 := if ns_left g c = 0 then -1 else nI (ns_at g (8 + 11 * c) (if y = 0 then ns_time g c - 1 - g (15 + 11 * c) else g (14 + 11 * c)) (g (7 + 11 * c)))
def op_front (S : as_T) (x y : Int32) : op_T := if op_cd S x then (0, ns_front (S_g S) x.toNatClampNeg y, S) else (1, 0, S)
def op_ruleOf (S : as_T) (x w : Int32) : op_T := if 0 ≤ x ∧ x < nI (S_g S 51) then (if 0 ≤ w ∧ w ≤ 3 then (0, nI (S_g S (52 + 4 * x.toNatClampNeg + w.toNatClampNeg)), S) else (2, 0, S)) else (1, 0, S)
def ns_count (S : as_T) : Nat → Nat
  | 0 => S_g S 0
  | 1 => S_g S 6
  | 2 => S_g S 51
  | 3 => ns_flames (S_g S) (S_g S 6)
  | 4 => ns_oset (S_g S) (S_g S 6)
  | 5 => S_g S 1
  | 6 => S_g S 2
  | 7 => S_g S 3
  | 8 => S_g S 5
  | 9 => S_g S 84
  | 10 => S_n S
  | _ => S_l S
def op_count (S : as_T) (w : Int32) : op_T := if 0 ≤ w ∧ w ≤ 11 then (0, nI (ns_count S w.toNatClampNeg), S) else (1, 0, S)
theorem cw_q {q : op_T} {S : as_T} {r r' : Int32} {M : cq_M} {b : Nat} (h : q = (0, r', S)) (hr : r = r') (hc : ck M b S) : cw q r M M b := ⟨by rw [h], by rw [h]; exact hr, by rw [h]; exact hc, cr_fr.rf⟩
theorem mq_q {q : op_T} {S : as_T} {r r' : Int32} {M M1 : cq_M} {o : Nat} (h : q = (0, r', S)) (hr : r = r') (h6 : M1 o 6 = 0) (hc : cm M1 o S) (hf : cr_fr M M1 o 15) : mq q r M M1 o := by
  rw [h]
  exact ⟨h6, fun _ => hr, hc, hf⟩
theorem mq_x {q : op_T} {S : as_T} {r r' : Int32} {M M1 : cq_M} {o k : Nat} (h : q = (k + 1, r', S)) (h6 : M1 o 6 = nI (k + 1)) (hc : cm M1 o S) (hf : cr_fr M M1 o 15) : mq q r M M1 o := by
  rw [h]
  exact ⟨h6, fun z => absurd z (by show ¬ k + 1 = 0; omega), hc, hf⟩
/-- how many steps are looked ahead -/
def ns_oi (g : Nat → Nat) (c : Nat) : Nat → Nat → Nat
  | k, 0 => k
  | k, f + 1 => if 0 < ns_left (ns_steps g k) c ∧ 0 < ns_flames (ns_steps g k) (g 6) then ns_oi g c (k + 1) f else k
def ns_outIn (g : Nat → Nat) (c : Nat) : Int32 := if ns_left (ns_steps g (ns_oi g c 0 2000)) c = 0 then nI (ns_oi g c 0 2000) else -1
def op_outIn (S : as_T) (x : Int32) : op_T := if op_cd S x then (0, ns_outIn (S_g S) x.toNatClampNeg, S) else (1, 0, S)
theorem ns_oi_go {g : Nat → Nat} {c k : Nat} (h : k < 2000) (h1 : 0 < ns_left (ns_steps g k) c) (h2 : 0 < ns_flames (ns_steps g k) (g 6)) : ns_oi g c k (2000 - k) = ns_oi g c (k + 1) (2000 - (k + 1)) := by
  rw [show 2000 - k = 2000 - (k + 1) + 1 by omega, ns_oi, if_pos ⟨h1, h2⟩]
theorem ns_oi_end {g : Nat → Nat} {c k : Nat} (h : k ≤ 2000) (h1 : 2000 ≤ k ∨ ¬ (0 < ns_left (ns_steps g k) c ∧ 0 < ns_flames (ns_steps g k) (g 6))) : ns_oi g c k (2000 - k) = k := by
  by_cases e : k = 2000
  · subst e; rfl
  · rw [show 2000 - k = 2000 - (k + 1) + 1 by omega, ns_oi, if_neg (by rcases h1 with z | z; exact absurd z (by omega); exact z)]
def ns_last (L f : Nat) : Nat := (L + f - 1) / f
def op_lasts (S : as_T) (x f w : Int32) : op_T := if op_cd S x then (if (1 ≤ f ∧ f ≤ 2) ∧ 0 ≤ w ∧ w ≤ 1 then (0, nI (ns_last (ns_left (S_g S) x.toNatClampNeg) f.toNatClampNeg), S) else (2, 0, S)) else (1, 0, S)
theorem i32_sub {x y : Int32} (h1 : -2147483648 ≤ x.toInt - y.toInt) (h2 : x.toInt - y.toInt < 2147483648) : (x - y).toInt = x.toInt - y.toInt := by
  rw [Int32.toInt_sub]
  exact Int.bmod_eq_of_le (by omega) (by omega)
theorem i32_pos {x : Int32} : 0 < x ↔ 0 < x.toInt := by rw [Int32.lt_iff_toInt_lt, Int32.toInt_zero]
theorem i32_npos {x : Int32} : x ≤ 0 ↔ x.toInt ≤ 0 := by rw [Int32.le_iff_toInt_le, Int32.toInt_zero]
theorem ns_last_eq {L f k : Nat} (hf : f = 1 ∨ f = 2) (h1 : L ≤ k * f) (h2 : k * f < L + f) : ns_last L f = k := by
  unfold ns_last
  rcases hf with e | e <;> subst e <;> omega
