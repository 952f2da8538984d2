/-! copying a State: what has been copied -/
def cp_C (M M1 : cq_M) (o b n : Nat) : Prop := ∀ c, c < n → (∀ j, 1 ≤ j → j ≤ 7 → M1 (b + 7 + 2 * c) j = M (o + 7 + 2 * c) j) ∧ ∀ j, j < 6 → M1 (b + 7 + 2 * c + 1) j = M (o + 7 + 2 * c + 1) j
def cp_R (M M1 : cq_M) (o b n : Nat) : Prop := ∀ r, r < n → ∀ j, j ≤ 3 → M1 (b + 15 + r) j = M (o + 15 + r) j
def cp_B (M M1 : cq_M) (o a : Nat) : Prop := M1 a 3 = M o 3 ∧ M1 a 4 = M o 4 ∧ ∀ j, j < 8 → M1 (a + 1) j = M (o + 1) j ∧ M1 (a + 2) j = M (o + 2) j ∧ M1 (a + 3) j = M (o + 3) j
def cp_I (M M1 : cq_M) (o b : Nat) : Prop := M1 b 1 = M o 1 ∧ M1 b 3 = M o 3 ∧ M1 b 5 = M o 5 ∧ M1 b 6 = M o 6 ∧ M1 b 7 = M o 7 ∧ M1 b 8 = M o 8 ∧ M1 b 9 = M o 9 ∧ M1 b 10 = M o 10
theorem cp_C.keep {M M1 M2 : cq_M} {o b n : Nat} (h : cp_C M M1 o b n) (hn : n ≤ 4) (e : ∀ x, b + 7 ≤ x → x < b + 15 → M2 x = M1 x) : cp_C M M2 o b n := fun c hc => by
  rw [e _ (by omega) (by omega), e (b + 7 + 2 * c + 1) (by omega) (by omega)]
  exact h c hc
theorem cp_R.keep {M M1 M2 : cq_M} {o b n : Nat} (h : cp_R M M1 o b n) (hn : n ≤ 8) (e : ∀ x, b + 15 ≤ x → x < b + 23 → M2 x = M1 x) : cp_R M M2 o b n := fun r hr => by
  rw [e _ (by omega) (by omega)]
  exact h r hr
theorem cp_B.keep {M M1 M2 : cq_M} {o a : Nat} (h : cp_B M M1 o a) (e : ∀ x, a ≤ x → x < a + 4 → M2 x = M1 x) : cp_B M M2 o a := by
  unfold cp_B
  rw [e a (by omega) (by omega), e (a + 1) (by omega) (by omega), e (a + 2) (by omega) (by omega), e (a + 3) (by omega) (by omega)]
  exact h
/-- the copy holds what the other holds -/
theorem cr_copy {M M1 : cq_M} {o b B : Nat} {g : Nat → Nat} (h : cr_st M o g) (hk : ns_ok g B) (hC : cp_C M M1 o b 4) (hR : cp_R M M1 o b 8) (hB : cp_B M M1 (o + 3) (b + 3)) (hI : cp_I M M1 o b) : cr_st M1 b g := by
  obtain ⟨q1, q2, q3, q4, q5⟩ := h
  obtain ⟨i1, i2, i3, i4, i5, i6, i7, i8⟩ := hI
  have h6 := hk.1
  have h51 := hk.2.1
  refine ⟨?_, fun c hc => ?_, fun r hr => ?_, ?_, fun c hc => ?_, fun r hr => ?_⟩
  · unfold cr_int
    rw [i1, i2, i3, i4, i5, i6, i7, i8]
    exact q1
  · obtain ⟨e1, e2⟩ := hC c (by omega)
    have hs6 := (hk.2.2.2.1 c hc).1.2
    unfold cr_cord
    rw [e1 1 (by omega) (by omega), e1 2 (by omega) (by omega), e1 3 (by omega) (by omega), e1 4 (by omega) (by omega), e1 5 (by omega) (by omega), e1 6 (by omega) (by omega), e1 7 (by omega) (by omega)]
    obtain ⟨p1, p2, p3, p4, p5, p6, p7, p8⟩ := q2 c hc
    exact ⟨p1, p2, p3, p4, p5, p6, p7, fun k hk9 => by rw [e2 k (by omega)]; exact p8 k hk9⟩
  · have e := hR r (by omega)
    unfold cr_rule
    rw [e 0 (by omega), e 1 (by omega), e 2 (by omega), e 3 (by omega)]
    exact q3 r hr
  · obtain ⟨b1, b2, b3⟩ := hB
    obtain ⟨p1, nx, p2, p3, p4⟩ := q4
    refine ⟨by rw [b2]; exact p1, nx, p2, by rw [b1]; exact p3, fun i hi => ?_⟩
    obtain ⟨e1, e2, e3⟩ := b3 ((nx + 7 - i) % 8) (by omega)
    rw [e1, e2, e3]
    exact p4 i hi
  · obtain ⟨e1, e2⟩ := hC c hc
    rw [e1 5 (by omega) (by omega), e1 6 (by omega) (by omega)]
    exact q5.1 c hc
  · rw [hR r hr 2 (by omega)]
    exact q5.2 r hr
theorem cr_copy_bool {M M1 : cq_M} {o b : Nat} (h : cr_bool M o) (hC : cp_C M M1 o b 4) (hR : cp_R M M1 o b 8) : cr_bool M1 b := by
  refine ⟨fun c hc => ?_, fun r hr => ?_⟩
  · obtain ⟨e1, e2⟩ := hC c hc
    rw [e1 5 (by omega) (by omega), e1 6 (by omega) (by omega)]
    exact h.1 c hc
  · rw [hR r hr 2 (by omega)]
    exact h.2 r hr
def ns_oset (g : Nat → Nat) : Nat → Nat
  | 0 => 0
  | n + 1 => ns_oset g n + (if ns_left g n = 0 then 2 ^ n else 0)
theorem ns_oset_lt {g : Nat → Nat} : ∀ n, ns_oset g n < 2 ^ n
  | 0 => by simp [ns_oset]
  | n + 1 => by
    have := ns_oset_lt (g := g) n
    simp only [ns_oset]
    rw [Nat.pow_succ]
    split <;> omega
/-- a new cord behind the others -/
def ns_new (g : Nat → Nat) (sg : Nat) (tm : Nat → Nat) : Nat → Nat := fun k => if k = 6 then g 6 + 1 else if k < 7 + 11 * g 6 ∨ 18 + 11 * g 6 ≤ k then g k else if k = 7 + 11 * g 6 then sg else if k < 8 + 11 * g 6 + sg then tm (k - (8 + 11 * g 6)) else if k = 17 + 11 * g 6 then 4294967295 else 0
/-- a new rule behind the others -/
def ns_newRule (g : Nat → Nat) (a c y : Nat) : Nat → Nat := ns_up (ns_up (ns_up (ns_up (ns_up g (52 + 4 * g 51) a) (53 + 4 * g 51) c) (54 + 4 * g 51) y) (55 + 4 * g 51) 0) 51 (g 51 + 1)
theorem cp_C.pre {M M' M1 : cq_M} {o b n : Nat} (h : cp_C M' M1 o b n) (hn : n ≤ 4) (e : ∀ x, o ≤ x → x < o + 23 → M' x = M x) : cp_C M M1 o b n := fun c hc => by
  rw [← e (o + 7 + 2 * c) (by omega) (by omega), ← e (o + 7 + 2 * c + 1) (by omega) (by omega)]
  exact h c hc
theorem cp_R.pre {M M' M1 : cq_M} {o b n : Nat} (h : cp_R M' M1 o b n) (hn : n ≤ 8) (e : ∀ x, o ≤ x → x < o + 23 → M' x = M x) : cp_R M M1 o b n := fun r hr => by
  rw [← e (o + 15 + r) (by omega) (by omega)]
  exact h r hr
theorem cp_B.pre {M M' M1 : cq_M} {o a : Nat} (h : cp_B M' M1 o a) (e : ∀ x, o ≤ x → x < o + 4 → M' x = M x) : cp_B M M1 o a := by
  unfold cp_B
  rw [← e o (by omega) (by omega), ← e (o + 1) (by omega) (by omega), ← e (o + 2) (by omega) (by omega), ← e (o + 3) (by omega) (by omega)]
  exact h
theorem cp_I.pre {M M' M1 : cq_M} {o b : Nat} (h : cp_I M' M1 o b) (e : M' o = M o) : cp_I M M1 o b := by
  unfold cp_I
  rw [← e]
  exact h
