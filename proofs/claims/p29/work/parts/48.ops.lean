/-! THE CALLS, for both sides: the exception's place in the throws clause (0 without one), the answer, the state behind it -/
abbrev op_T : Type := Nat × Int32 × as_T
abbrev op_cd (S : as_T) (x : Int32) : Prop := 0 ≤ x ∧ x < nI (S_g S 6)
def op_cord (S : as_T) (a t : Int32) : op_T := if (1 ≤ a ∧ a ≤ 6) ∧ 1 ≤ t ∧ t ≤ 60 then (if S_g S 6 < 4 then (0, nI (S_g S 6), so_g (so_save S) (ns_new (S_g S) a.toNatClampNeg (fun _ => t.toNatClampNeg))) else (2, 0, S)) else (1, 0, S)
def op_uneven (S : as_T) (x y t : Int32) : op_T := if op_cd S x ∧ 0 ≤ y ∧ y < nI (S_g S (7 + 11 * x.toNatClampNeg)) then (if 1 ≤ t ∧ t ≤ 60 then (if ns_burned (S_g S) x.toNatClampNeg = 0 ∧ S_g S (16 + 11 * x.toNatClampNeg) = 0 then (0, nI (S_g S (8 + 11 * x.toNatClampNeg + y.toNatClampNeg)), so_g (so_save S) (ns_up (S_g S) (8 + 11 * x.toNatClampNeg + y.toNatClampNeg) t.toNatClampNeg)) else (3, 0, S)) else (2, 0, S)) else (1, 0, S)
def op_renew (S : as_T) (x : Int32) : op_T := if op_cd S x then (0, nI (ns_burned (S_g S) x.toNatClampNeg), so_g (so_save S) (ns_up (ns_up (ns_up (S_g S) (14 + 11 * x.toNatClampNeg) 0) (15 + 11 * x.toNatClampNeg) 0) (16 + 11 * x.toNatClampNeg) 0)) else (1, 0, S)
def op_light (S : as_T) (x y : Int32) : op_T := if op_cd S x then (if ns_canLight (S_g S) x.toNatClampNeg y then (0, nI (ns_flames (ns_lightNow (S_g S) x.toNatClampNeg y) (S_g S 6)), so_g (so_save S) (ns_lightNow (S_g S) x.toNatClampNeg y)) else (2, 0, S)) else (1, 0, S)
def ns_put (g : Nat → Nat) (c : Nat) (y : Int32) : Nat → Nat := ns_up g (16 + 11 * c) (g (16 + 11 * c) - ns_side y)
def op_putOut (S : as_T) (x y : Int32) : op_T := if op_cd S x then (if ns_bit (S_g S (16 + 11 * x.toNatClampNeg)) y = 0 then (2, 0, S) else (0, nI (ns_flames (ns_put (S_g S) x.toNatClampNeg y) (S_g S 6)), so_g (so_save S) (ns_put (S_g S) x.toNatClampNeg y))) else (1, 0, S)
def op_rule (S : as_T) (a x y : Int32) : op_T := if op_cd S a ∧ op_cd S x then (if a = x then (2, 0, S) else (if S_g S 51 < 8 then (0, nI (S_g S 51), so_g (so_save S) (ns_newRule (S_g S) a.toNatClampNeg x.toNatClampNeg (if y = 0 then 0 else 1))) else (3, 0, S))) else (1, 0, S)
def ns_drop (g : Nat → Nat) : Nat → Nat := fun k => if k = 51 ∨ (52 ≤ k ∧ k < 84) then 0 else g k
def op_drop (S : as_T) : op_T := (0, nI (S_g S 51), so_g (so_save S) (ns_drop (S_g S)))
def op_run (S : as_T) (x : Int32) : op_T := if 1 ≤ x ∧ x ≤ 200 then (0, nI (ns_sigsN (S_g S) x.toNatClampNeg), so_g (so_save S) (ns_steps (S_g S) x.toNatClampNeg)) else (1, 0, S)
def op_append (S : as_T) (x : Int32) : op_T := if 33 ≤ x ∧ x ≤ 126 then (if S_l S < 60 then (0, nI (S_l S + 1), so_text S (ns_up (S_t S) (S_l S) x.toNatClampNeg) (S_l S + 1)) else (2, 0, S)) else (1, 0, S)
def op_clear (S : as_T) : op_T := (0, nI (S_l S), so_text S (S_t S) 0)
def op_undo (S : as_T) : op_T := if S_n S = 0 then (1, 0, S) else (0, nI (S_n S - 1), so_pop S)
def op_keep (S : as_T) (x : Int32) : op_T := if 0 ≤ x ∧ x ≤ 1 then (0, nI (S_g S 0), so_keep S x.toNatClampNeg) else (1, 0, S)
def op_back (S : as_T) (x : Int32) : op_T := if 0 ≤ x ∧ x ≤ 1 then (if S_k S x.toNatClampNeg = 1 then (0, nI (S_s S x.toNatClampNeg 0), so_g (so_save S) (S_s S x.toNatClampNeg)) else (2, 0, S)) else (1, 0, S)
/-- the reference's side: what a call leaves -/
def mq (q : op_T) (r : Int32) (M M1 : cq_M) (o : Nat) : Prop := mp q.1 r q.2.1 M M1 o q.2.2
/-- the class's side: a return, a throw -/
def cw (q : op_T) (r : Int32) (M M1 : cq_M) (b : Nat) : Prop := q.1 = 0 ∧ r = q.2.1 ∧ ck M1 b q.2.2 ∧ cr_fr M M1 b 249
def cx (q : op_T) (S : as_T) (names : List String) (E : String) (M M1 : cq_M) : Prop := M1 = M ∧ q.2.2 = S ∧ ∃ k, q.1 = k + 1 ∧ names[k]? = some E
theorem nI_pm1 {x : Int32} {n : Nat} (hn : n < 1000000) : x ≤ nI n - 1 ↔ x < nI n := by
  rw [Int32.le_iff_toInt_le, Int32.lt_iff_toInt_lt, show (nI n - 1) = nI n - nI 1 from rfl, pk_sub_toInt (by omega) (by omega), nI_toInt (by omega)]
  omega
/-- a ≤ x ≤ b as a count -/
theorem nI_ab {x : Int32} {a b : Nat} (hb : b < 2147483648) (ha : a < 2147483648) (h : nI a ≤ x ∧ x ≤ nI b) : ∃ c : Nat, a ≤ c ∧ c ≤ b ∧ x = nI c := by
  have h0 : ¬ x < 0 := by
    have := h.1
    rw [Int32.le_iff_toInt_le, nI_toInt ha] at this
    rw [Int32.lt_iff_toInt_lt, Int32.toInt_zero]
    omega
  obtain ⟨c, hc, rfl⟩ := nI_of h0
  exact ⟨c, (nI_leI ha (by omega)).mp h.1, (nI_leI (by omega) hb).mp h.2, rfl⟩
theorem nI_ab2 {a b c : Nat} (hb : b < 2147483648) (h1 : a ≤ c) (h2 : c ≤ b) : nI a ≤ nI c ∧ nI c ≤ nI b := ⟨nI_le h1 (by omega), nI_le h2 (by omega)⟩
theorem cx_of {q : op_T} {S : as_T} {names : List String} {E : String} {M M1 : cq_M} {k : Nat} {r : Int32} (h : q = (k + 1, r, S)) (hE : names[k]? = some E) (hM : M1 = M) : cx q S names E M M1 := ⟨hM, by rw [h], k, by rw [h], hE⟩
theorem cw_of {q : op_T} {S' : as_T} {r : Int32} {M M1 : cq_M} {b : Nat} (h : q = (0, r, S')) (h1 : ck M1 b S') (h2 : cr_fr M M1 b 249) : cw q r M M1 b := ⟨by rw [h], by rw [h], by rw [h]; exact h1, h2⟩
