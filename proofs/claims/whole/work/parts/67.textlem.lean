/-! what a read order is -/
theorem tx_l_ok {s : Nat → Nat} : ∀ {cs : List Nat} {p : Nat}, (tx_l s cs p).1 = true → tx_l s cs p = (true, p + cs.length)
  | [], p, _ => rfl
  | c :: cs, p, h => by
    rw [tx_l] at h ⊢
    by_cases e : s p = c
    · rw [if_pos e] at h ⊢
      rw [tx_l_ok h, List.length_cons, show p + 1 + cs.length = p + (cs.length + 1) by omega]
    · rw [if_neg e] at h
      exact absurd (show false = true from h) (by decide)
theorem tx_ng_le {s : Nat → Nat} {most : Nat} : ∀ {f n p : Nat}, p ≤ (tx_ng s most f n p).2 ∧ (n ≤ most → (tx_ng s most f n p).1 ≤ most)
  | 0, n, p => ⟨Nat.le_refl _, fun h => h⟩
  | f + 1, n, p => by
    rw [tx_ng]
    by_cases e : tx_d s most n p
    · rw [if_pos e]
      have h := tx_ng_le (s := s) (most := most) (f := f) (n := 10 * n + s p - 48) (p := p + 1)
      exact ⟨by omega, fun _ => h.2 e.2⟩
    · rw [if_neg e]
      exact ⟨Nat.le_refl _, fun h => h⟩
theorem tx_n_ok {s : Nat → Nat} {most p : Nat} (h : (tx_n s most p).1 ≠ 0) : p + 1 ≤ (tx_n s most p).2 := by
  unfold tx_n at h ⊢
  rw [tx_ng] at h ⊢
  by_cases e : tx_d s most 0 p
  · rw [if_pos e]
    exact tx_ng_le.1
  · rw [if_neg e] at h
    exact absurd rfl h
theorem tx_n_le {s : Nat → Nat} {most p : Nat} : (tx_n s most p).1 ≤ most := tx_ng_le.2 (Nat.zero_le _)
theorem tx_mg_ok {s : Nat → Nat} : ∀ {f p : Nat}, (tx_mg s (f + 1) p).1 = true → p + 1 ≤ (tx_mg s (f + 1) p).2.1 ∧ (1 ≤ (tx_mg s (f + 1) p).2.2.length ∧ (tx_mg s (f + 1) p).2.2.length ≤ f + 1) ∧ ∀ x ∈ (tx_mg s (f + 1) p).2.2, 1 ≤ x ∧ x ≤ 60
  | f, p, h => by
    have h60 := tx_n_le (s := s) (most := 60) (p := p)
    by_cases h0 : (tx_n s 60 p).1 = 0
    · rw [tx_mg_0 h0] at h
      exact absurd (show false = true from h) (by decide)
    · have h1 := tx_n_ok h0
      by_cases h2 : f = 0 ∨ s (tx_n s 60 p).2 ≠ 46
      · rw [tx_mg_1 h0 h2]
        refine ⟨h1, ⟨Nat.le_refl _, by show 1 ≤ f + 1; omega⟩, fun x hx => ?_⟩
        rw [List.mem_singleton] at hx
        subst hx
        omega
      · rw [tx_mg_2 h0 h2] at h ⊢
        obtain ⟨f', rfl⟩ : ∃ f', f = f' + 1 := ⟨f - 1, by omega⟩
        obtain ⟨a1, ⟨a2, a3⟩, a4⟩ := tx_mg_ok (f := f') h
        refine ⟨by show p + 1 ≤ (tx_mg s (f' + 1) ((tx_n s 60 p).2 + 1)).2.1; omega, ⟨by rw [List.length_cons]; omega, by rw [List.length_cons]; omega⟩, fun x hx => ?_⟩
        rcases List.mem_cons.mp hx with e | e
        · subst e; omega
        · exact a4 x e
def tx_okO (q : tx_O) : Prop := (q.1 = 0 ∧ (1 ≤ q.2.1 ∧ q.2.1 ≤ 6) ∧ q.2.2.2.2.length = q.2.1 ∧ ∀ x ∈ q.2.2.2.2, 1 ≤ x ∧ x ≤ 60) ∨ (q.1 = 1 ∧ q.2.1 ≤ 3 ∧ q.2.2.2.1 ≤ 1) ∨ (q.1 = 2 ∧ q.2.1 ≤ 3 ∧ q.2.2.1 ≤ 3 ∧ q.2.2.2.1 ≤ 1) ∨ (q.1 = 3 ∧ 1 ≤ q.2.1 ∧ q.2.1 ≤ 200)
def tx_let (k : Nat) : Nat := if k = 0 then 110 else if k = 1 then 108 else if k = 2 then 119 else 114
theorem tx_side_ok {s : Nat → Nat} {p : Nat} (h : (tx_side s p).1 = true) : (tx_side s p).2.1 = p + 1 ∧ (tx_side s p).2.2 ≤ 1 := by
  unfold tx_side at h ⊢
  split at h
  · rename_i e; rw [if_pos e]; exact ⟨rfl, Nat.le_refl _⟩
  · rename_i e
    rw [if_neg e]
    split at h
    · rename_i e2; rw [if_pos e2]; exact ⟨rfl, Nat.zero_le _⟩
    · exact absurd (show false = true from h) (by decide)
theorem tx_w_ok {s : Nat → Nat} {cs : List Nat} {f : (Nat → Nat) → Nat → tx_R} {p : Nat} (h : (tx_w s cs f p).1 = true) : tx_w s cs f p = f s (p + cs.length) := by
  by_cases e : (tx_l s cs p).1 = true
  · exact tx_w_yes (tx_l_ok e)
  · unfold tx_w at h
    rw [if_neg e] at h
    exact absurd (show false = true from h) (by decide)
theorem tx_new_ok {s : Nat → Nat} {p : Nat} (h : (tx_new s p).1 = true) : p + 1 ≤ (tx_new s p).2.1 ∧ tx_okO (tx_new s p).2.2 ∧ (tx_new s p).2.2.1 = 0 := by
  by_cases e : (tx_mg s 6 p).1 = true
  · obtain ⟨a1, a2, a3⟩ := tx_mg_ok (f := 5) e
    rw [tx_new_1 e]
    exact ⟨a1, Or.inl ⟨rfl, a2, rfl, a3⟩, rfl⟩
  · rw [tx_new_0 e] at h
    exact absurd (show false = true from h) (by decide)
theorem tx_lit_ok {s : Nat → Nat} {p : Nat} (h : (tx_lit s p).1 = true) : p + 2 ≤ (tx_lit s p).2.1 ∧ tx_okO (tx_lit s p).2.2 ∧ (tx_lit s p).2.2.1 = 1 := by
  by_cases e : tx_cd s p
  · rw [tx_lit_1 e] at h ⊢
    obtain ⟨a1, a2⟩ := tx_side_ok h
    refine ⟨by show p + 2 ≤ (tx_side s (p + 1)).2.1; omega, Or.inr (Or.inl ⟨rfl, ?_, a2⟩), rfl⟩
    have := e.2
    show s p - 48 ≤ 3
    omega
  · rw [tx_lit_0 e] at h
    exact absurd (show false = true from h) (by decide)
theorem tx_when_ok {s : Nat → Nat} {p : Nat} (h : (tx_when s p).1 = true) : p + 4 ≤ (tx_when s p).2.1 ∧ tx_okO (tx_when s p).2.2 ∧ (tx_when s p).2.2.1 = 2 := by
  unfold tx_when at h ⊢
  by_cases e : tx_cd s p
  · rw [if_pos e] at h ⊢
    by_cases e2 : s (p + 1) = 44
    · rw [if_pos e2] at h ⊢
      by_cases e3 : tx_cd s (p + 2)
      · rw [if_pos e3] at h ⊢
        obtain ⟨a1, a2⟩ := tx_side_ok h
        have := e.2
        have := e3.2
        refine ⟨by show p + 4 ≤ (tx_side s (p + 3)).2.1; omega, Or.inr (Or.inr (Or.inl ⟨rfl, ?_, ?_, a2⟩)), rfl⟩
        · show s p - 48 ≤ 3; omega
        · show s (p + 2) - 48 ≤ 3; omega
      · rw [if_neg e3] at h
        exact absurd (show false = true from h) (by decide)
    · rw [if_neg e2] at h
      exact absurd (show false = true from h) (by decide)
  · rw [if_neg e] at h
    exact absurd (show false = true from h) (by decide)
theorem tx_run_ok {s : Nat → Nat} {p : Nat} (h : (tx_run s p).1 = true) : p + 1 ≤ (tx_run s p).2.1 ∧ tx_okO (tx_run s p).2.2 ∧ (tx_run s p).2.2.1 = 3 := by
  unfold tx_run at h ⊢
  by_cases e : (tx_n s 200 p).1 = 0
  · rw [if_pos e] at h
    exact absurd (show false = true from h) (by decide)
  · rw [if_neg e] at h ⊢
    have h2 := tx_n_le (s := s) (most := 200) (p := p)
    exact ⟨tx_n_ok e, Or.inr (Or.inr (Or.inr ⟨rfl, Nat.pos_of_ne_zero e, h2⟩)), rfl⟩
theorem tx_ord_ok {s : Nat → Nat} {p : Nat} (h : (tx_ord s p).1 = true) : p + 5 ≤ (tx_ord s p).2.1 ∧ tx_okO (tx_ord s p).2.2 ∧ s p = tx_let (tx_ord s p).2.2.1 := by
  unfold tx_ord at h ⊢
  by_cases e1 : s p = 110
  · rw [if_pos e1] at h ⊢
    have hw := tx_w_ok h
    rw [hw] at h ⊢
    obtain ⟨a1, a2, a3⟩ := tx_new_ok h
    exact ⟨a1, a2, by rw [a3, e1]; rfl⟩
  · rw [if_neg e1] at h ⊢
    by_cases e2 : s p = 108
    · rw [if_pos e2] at h ⊢
      have hw := tx_w_ok h
      rw [hw] at h ⊢
      obtain ⟨a1, a2, a3⟩ := tx_lit_ok h
      exact ⟨by have a4 : p + 4 + 2 ≤ (tx_lit s (p + 4)).2.1 := a1; show p + 5 ≤ (tx_lit s (p + 4)).2.1; omega, a2, by rw [a3, e2]; rfl⟩
    · rw [if_neg e2] at h ⊢
      by_cases e3 : s p = 119
      · rw [if_pos e3] at h ⊢
        have hw := tx_w_ok h
        rw [hw] at h ⊢
        obtain ⟨a1, a2, a3⟩ := tx_when_ok h
        exact ⟨by have a4 : p + 5 + 4 ≤ (tx_when s (p + 5)).2.1 := a1; show p + 5 ≤ (tx_when s (p + 5)).2.1; omega, a2, by rw [a3, e3]; rfl⟩
      · rw [if_neg e3] at h ⊢
        by_cases e4 : s p = 114
        · rw [if_pos e4] at h ⊢
          have hw := tx_w_ok h
          rw [hw] at h ⊢
          obtain ⟨a1, a2, a3⟩ := tx_run_ok h
          exact ⟨a1, a2, by rw [a3, e4]; rfl⟩
        · rw [if_neg e4] at h
          exact absurd (show false = true from h) (by decide)
