/-! ORDER TEXTS, for both sides. s: the letter at a place, 0 behind the end -/
def tx_s (t : Nat → Nat) (n : Nat) : Nat → Nat := fun p => if p < n then t p else 0
theorem tx_in {t : Nat → Nat} {n p : Nat} (h : tx_s t n p ≠ 0) : p < n := by
  unfold tx_s at h
  by_cases e : p < n
  · exact e
  · rw [if_neg e] at h; exact absurd rfl h
/-- the place behind a letter, if it stands there -/
def tx_t (s : Nat → Nat) (c p : Nat) : Nat := if s p = c then p + 1 else p
/-- digits of a number of at most `most` -/
abbrev tx_d (s : Nat → Nat) (most n p : Nat) : Prop := ((if n = 0 then 49 else 48) ≤ s p ∧ s p ≤ 57) ∧ 10 * n + s p - 48 ≤ most
def tx_ng (s : Nat → Nat) (most : Nat) : Nat → Nat → Nat → Nat × Nat
  | 0, n, p => (n, p)
  | f + 1, n, p => if tx_d s most n p then tx_ng s most f (10 * n + s p - 48) (p + 1) else (n, p)
def tx_n (s : Nat → Nat) (most p : Nat) : Nat × Nat := tx_ng s most 3 0 p
/-- times, divided by points: complete?, the place, the times -/
def tx_mg (s : Nat → Nat) : Nat → Nat → Bool × Nat × List Nat
  | 0, p => (true, p, [])
  | f + 1, p => if (tx_n s 60 p).1 = 0 then (false, (tx_n s 60 p).2, []) else if f = 0 ∨ s (tx_n s 60 p).2 ≠ 46 then (true, (tx_n s 60 p).2, [(tx_n s 60 p).1]) else ((tx_mg s f ((tx_n s 60 p).2 + 1)).1, (tx_mg s f ((tx_n s 60 p).2 + 1)).2.1, (tx_n s 60 p).1 :: (tx_mg s f ((tx_n s 60 p).2 + 1)).2.2)
/-- letters one behind another -/
def tx_l (s : Nat → Nat) : List Nat → Nat → Bool × Nat
  | [], p => (true, p)
  | c :: cs, p => if s p = c then tx_l s cs (p + 1) else (false, p)
/-- an order: kind (0 new, 1 lit, 2 when, 3 run), the first number, the second, the side, the times -/
abbrev tx_O : Type := Nat × Nat × Nat × Nat × List Nat
abbrev tx_R : Type := Bool × Nat × tx_O
def tx_no : tx_O := (4, 0, 0, 0, [])
abbrev tx_cd (s : Nat → Nat) (p : Nat) : Prop := 48 ≤ s p ∧ s p ≤ 51
/-- the side: L or R -/
def tx_side (s : Nat → Nat) (p : Nat) : Bool × Nat × Nat := if s p = 76 then (true, p + 1, 1) else if s p = 82 then (true, p + 1, 0) else (false, p, 0)
def tx_new (s : Nat → Nat) (p : Nat) : tx_R := (tx_mg s 6 p).1.casesOn (false, (tx_mg s 6 p).2.1, tx_no) (true, (tx_mg s 6 p).2.1, (0, (tx_mg s 6 p).2.2.length, 0, 0, (tx_mg s 6 p).2.2))
def tx_lit (s : Nat → Nat) (p : Nat) : tx_R := if tx_cd s p then ((tx_side s (p + 1)).1, (tx_side s (p + 1)).2.1, (1, s p - 48, 0, (tx_side s (p + 1)).2.2, [])) else (false, p, tx_no)
def tx_when (s : Nat → Nat) (p : Nat) : tx_R := if tx_cd s p then (if s (p + 1) = 44 then (if tx_cd s (p + 2) then ((tx_side s (p + 3)).1, (tx_side s (p + 3)).2.1, (2, s p - 48, s (p + 2) - 48, (tx_side s (p + 3)).2.2, [])) else (false, p + 2, tx_no)) else (false, p + 1, tx_no)) else (false, p, tx_no)
def tx_run (s : Nat → Nat) (p : Nat) : tx_R := if (tx_n s 200 p).1 = 0 then (false, (tx_n s 200 p).2, tx_no) else (true, (tx_n s 200 p).2, (3, (tx_n s 200 p).1, 0, 0, []))
def tx_w (s : Nat → Nat) (cs : List Nat) (k : (Nat → Nat) → Nat → tx_R) (p : Nat) : tx_R := if (tx_l s cs p).1 = true then k s (tx_l s cs p).2 else (false, (tx_l s cs p).2, tx_no)
def tx_ord (s : Nat → Nat) (p : Nat) : tx_R := if s p = 110 then tx_w s [110, 101, 119, 58] tx_new p else if s p = 108 then tx_w s [108, 105, 116, 58] tx_lit p else if s p = 119 then tx_w s [119, 104, 101, 110, 58] tx_when p else if s p = 114 then tx_w s [114, 117, 110, 58] tx_run p else (false, p, tx_no)
/-- all orders: read so far?, the place, the orders -/
def tx_all (s : Nat → Nat) : Nat → Nat → Bool × Nat × List tx_O
  | 0, p => (false, p, [])
  | f + 1, p => if (tx_ord s p).1 = true then (if s (tx_ord s p).2.1 = 59 then ((tx_all s f ((tx_ord s p).2.1 + 1)).1, (tx_all s f ((tx_ord s p).2.1 + 1)).2.1, (tx_ord s p).2.2 :: (tx_all s f ((tx_ord s p).2.1 + 1)).2.2) else (true, (tx_ord s p).2.1, [(tx_ord s p).2.2])) else (false, (tx_ord s p).2.1, [])
def tx_done (s : Nat → Nat) (n : Nat) : Prop := (tx_all s 16 0).1 = true ∧ (tx_all s 16 0).2.1 = n
def op_error (S : as_T) : op_T := (0, nI (tx_all (tx_s (S_t S) (S_l S)) 16 0).2.1, S)
