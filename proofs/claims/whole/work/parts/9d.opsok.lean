/-! the first state; what the operations keep -/
def w9_S : as_T := (fun _ => 0, fun _ _ => 0, 0, fun _ _ => 0, fun _ => 0, fun _ => 0, 0)
theorem w9_as : as_ok w9_S 0 := ⟨⟨by decide, by decide, by decide, fun c hc => absurd hc (Nat.not_lt_zero _), fun r hr => absurd hr (Nat.not_lt_zero _), fun i hi => absurd hi (Nat.not_lt_zero _), by decide, by decide, by decide⟩, fun i hi => absurd hi (Nat.not_lt_zero _), fun i _ h => absurd (show (0 : Nat) = 1 from h) (by decide), fun j hj => absurd hj (Nat.not_lt_zero _), by decide, by decide, fun i _ => by show 0 ≤ 1; decide⟩
theorem w9_ck (b : Nat) : ck (w9_M (w9_X b)) b w9_S := by
  have z : ∀ a k, k ≠ 7 → w9_M (w9_X b) a k = 0 := fun a k h => if_neg (fun q => h q.2)
  have z2 : ∀ k, w9_M (w9_X b) (b + 1) k = 0 := fun k => if_neg (fun q => by have := (w9_clock b).now.kind; omega)
  have hb : ∀ a, cr_bool (w9_M (w9_X b)) a := fun a => ⟨fun c _ => ⟨.inl (z _ _ (by decide)), .inl (z _ _ (by decide))⟩, fun r _ => .inl (z _ _ (by decide))⟩
  exact ⟨⟨⟨z2 _, z2 _, z2 _, z2 _, z2 _, z2 _, z2 _, z2 _⟩, fun c hc => absurd hc (Nat.not_lt_zero _), fun r hr => absurd hr (Nat.not_lt_zero _), ⟨z _ _ (by decide), 0, by decide, z _ _ (by decide), fun i hi => absurd hi (Nat.not_lt_zero _)⟩, hb _⟩, ⟨0, by decide, z _ _ (by decide), z _ _ (by decide), fun i hi => absurd hi (Nat.not_lt_zero _)⟩, ⟨hb _, fun i _ => hb _, fun i _ => hb _⟩, fun i hi => ⟨z _ _ (by omega), fun h => absurd (show (0 : Nat) = 1 from h) (by decide)⟩, ⟨z _ _ (by decide), fun j hj => absurd hj (Nat.not_lt_zero _)⟩⟩
theorem w9_cm (b : Nat) : cm (w9_M (w9_X b)) (b + 249) w9_S := by
  have z : ∀ a k, k ≠ 7 → w9_M (w9_X b) a k = 0 := fun a k h => if_neg (fun q => h q.2)
  have z2 : ∀ k, w9_M (w9_X b) (b + 249 + 1) k = 0 := fun k => if_neg (fun q => by have := (w9_model b).k1; omega)
  exact ⟨fun j _ => z2 j, z _ _ (by decide), fun i hi => absurd hi (Nat.not_lt_zero _), fun i hi => ⟨z _ _ (by omega), fun h => absurd (show (0 : Nat) = 1 from h) (by decide)⟩, z _ _ (by decide), fun j hj => absurd hj (Nat.not_lt_zero _)⟩
theorem ao_ab {x : Int32} {a b : Nat} (hb : b < 2147483648) (ha : a < 2147483648) (h : nI a ≤ x ∧ x ≤ nI b) : a ≤ x.toNatClampNeg ∧ x.toNatClampNeg ≤ b := by
  obtain ⟨c, h1, h2, rfl⟩ := nI_ab hb ha h
  rw [nI_clamp (by omega)]
  exact ⟨h1, h2⟩
theorem ao_lt {x : Int32} {n : Nat} (hn : n < 2147483648) (h : 0 ≤ x ∧ x < nI n) : x.toNatClampNeg < n := by
  obtain ⟨c, h1, rfl⟩ := nI_cd hn h
  rw [nI_clamp (by omega)]
  exact h1
theorem ao_sv {S : as_T} {g : Nat → Nat} {B B1 : Nat} (h : as_ok S B) (hg : ns_ok g B1) (hB : B ≤ B1 ∧ B1 ≤ B + 4000) : as_ok (so_g (so_save S) g) (B + 4000) := ((h.save.mono hB.1).g hg).mono hB.2
/-- a cord that hasn't burned, one segment's time set -/
theorem ao_up {g : Nat → Nat} {B c s t : Nat} (h : ns_ok g B) (hc : c < g 6) (hs : s < g (7 + 11 * c)) (ht : 1 ≤ t ∧ t ≤ 60) (h0 : ns_burned g c = 0) (hf : g (16 + 11 * c) = 0) : ns_ok (ns_up g (8 + 11 * c + s) t) B := by
  obtain ⟨a1, a2, a3, a4, a5, a6, a7, a8, a9⟩ := h
  have hq := a4 c hc
  have hs6 := hq.1.2
  have e : ∀ k, k ≠ 8 + 11 * c + s → ns_up g (8 + 11 * c + s) t k = g k := fun k hk => ns_up_n hk
  have hb : ns_burned (ns_up g (8 + 11 * c + s) t) c = 0 := by
    unfold ns_burned at h0 ⊢
    rw [e _ (by omega), e _ (by omega)]
    exact h0
  refine ⟨by rw [e _ (by omega)]; exact a1, by rw [e _ (by omega)]; exact a2, by rw [e _ (by omega)]; exact a3, fun c1 hc1 => ?_, fun r hr => ?_, fun i hi => ?_, by rw [e _ (by omega)]; exact a7, by rw [e _ (by omega)]; exact a8, by rw [e _ (by omega)]; exact a9⟩
  · rw [e _ (by omega)] at hc1
    by_cases e1 : c1 = c
    · subst e1
      refine ⟨by rw [e _ (by omega)]; exact hq.1, fun k hk => ?_, by rw [hb]; exact Nat.zero_le _, by rw [e _ (by omega)]; exact hq.2.2.2.1, fun z => absurd hf (by rw [e _ (by omega)] at z; exact z)⟩
      rw [e _ (by omega)] at hk
      by_cases e2 : k = s
      · subst e2
        rw [ns_up_s]
        exact ht
      · rw [e _ (by omega)]
        exact hq.2.1 k hk
    · exact (a4 c1 hc1).ext (fun k k1 k2 => (e k (by omega)).symm)
  · rw [e _ (by omega)] at hr ⊢
    rw [e _ (by omega), e _ (by omega), e _ (by omega)]
    exact a5 r hr
  · rw [e _ (by omega)] at hi
    rw [e _ (by omega), e _ (by omega), e _ (by omega), e _ (by omega)]
    exact a6 i hi
/-- a cord made new -/
theorem ao_renew {g : Nat → Nat} {B c : Nat} (h : ns_ok g B) (hc : c < g 6) : ns_ok (ns_up (ns_up (ns_up g (14 + 11 * c) 0) (15 + 11 * c) 0) (16 + 11 * c) 0) B := by
  obtain ⟨a1, a2, a3, a4, a5, a6, a7, a8, a9⟩ := h
  obtain ⟨g', hg'⟩ : ∃ g', g' = ns_up (ns_up (ns_up g (14 + 11 * c) 0) (15 + 11 * c) 0) (16 + 11 * c) 0 := ⟨_, rfl⟩
  rw [← hg']
  have hq := a4 c hc
  have e : ∀ k, k ≠ 14 + 11 * c → k ≠ 15 + 11 * c → k ≠ 16 + 11 * c → g' k = g k := fun k h1 h2 h3 => by rw [hg', ns_up_n h3, ns_up_n h2, ns_up_n h1]
  have f4 : g' (14 + 11 * c) = 0 := by rw [hg', ns_up_n (by omega), ns_up_n (by omega), ns_up_s]
  have f5 : g' (15 + 11 * c) = 0 := by rw [hg', ns_up_n (by omega), ns_up_s]
  have f6 : g' (16 + 11 * c) = 0 := by rw [hg', ns_up_s]
  have hb : ns_burned g' c = 0 := by unfold ns_burned; rw [f4, f5]
  refine ⟨by rw [e _ (by omega) (by omega) (by omega)]; exact a1, by rw [e _ (by omega) (by omega) (by omega)]; exact a2, by rw [e _ (by omega) (by omega) (by omega)]; exact a3, fun c1 hc1 => ?_, fun r hr => ?_, fun i hi => ?_, by rw [e _ (by omega) (by omega) (by omega)]; exact a7, by rw [e _ (by omega) (by omega) (by omega)]; exact a8, by rw [e _ (by omega) (by omega) (by omega)]; exact a9⟩
  · rw [e _ (by omega) (by omega) (by omega)] at hc1
    by_cases e1 : c1 = c
    · subst e1
      refine ⟨by rw [e _ (by omega) (by omega) (by omega)]; exact hq.1, fun k hk => ?_, by rw [hb]; exact Nat.zero_le _, by rw [f6]; decide, fun z => absurd f6 z⟩
      rw [e _ (by omega) (by omega) (by omega)] at hk
      have := hq.1.2
      rw [e _ (by omega) (by omega) (by omega)]
      exact hq.2.1 k hk
    · exact (a4 c1 hc1).ext (fun k k1 k2 => (e k (by omega) (by omega) (by omega)).symm)
  · rw [e _ (by omega) (by omega) (by omega)] at hr ⊢
    rw [e _ (by omega) (by omega) (by omega), e _ (by omega) (by omega) (by omega), e _ (by omega) (by omega) (by omega)]
    exact a5 r hr
  · rw [e _ (by omega) (by omega) (by omega)] at hi
    rw [e _ (by omega) (by omega) (by omega), e _ (by omega) (by omega) (by omega), e _ (by omega) (by omega) (by omega), e _ (by omega) (by omega) (by omega)]
    exact a6 i hi
theorem ao_drop {g : Nat → Nat} {B : Nat} (h : ns_ok g B) : ns_ok (ns_drop g) B := by
  obtain ⟨a1, a2, a3, a4, a5, a6, a7, a8, a9⟩ := h
  have e : ∀ k, ¬ (k = 51 ∨ (52 ≤ k ∧ k < 84)) → ns_drop g k = g k := fun k hk => if_neg hk
  have e51 : ns_drop g 51 = 0 := if_pos (.inl rfl)
  refine ⟨by rw [e _ (by omega)]; exact a1, by rw [e51]; decide, by rw [e _ (by omega)]; exact a3, fun c1 hc1 => ?_, fun r hr => ?_, fun i hi => ?_, by rw [e _ (by omega)]; exact a7, by rw [e _ (by omega)]; exact a8, by rw [e _ (by omega)]; exact a9⟩
  · rw [e _ (by omega)] at hc1
    exact (a4 c1 hc1).ext (fun k k1 k2 => (e k (by omega)).symm)
  · rw [e51] at hr
    omega
  · rw [e _ (by omega)] at hi
    rw [e _ (by omega), e _ (by omega), e _ (by omega), e _ (by omega)]
    exact a6 i hi
theorem ao_cord {S : as_T} {B : Nat} (a t : Int32) (h : as_ok S B) : as_ok (op_cord S a t).2.2 (B + 4000) := by
  unfold op_cord
  split
  · rename_i c1
    split
    · rename_i c2
      have h1 := ao_ab (a := 1) (b := 6) (by decide) (by decide) c1.1
      have h2 := ao_ab (a := 1) (b := 60) (by decide) (by decide) c1.2
      exact ao_sv h (h.1.newCord c2 h1 (fun _ _ => h2)) ⟨by omega, by omega⟩
    · exact h.mono (by omega)
  · exact h.mono (by omega)
theorem ao_uneven {S : as_T} {B : Nat} (x y t : Int32) (h : as_ok S B) : as_ok (op_uneven S x y t).2.2 (B + 4000) := by
  have h6 := h.1.1
  unfold op_uneven
  split
  · rename_i c1
    have hc := ao_lt (by omega) c1.1
    have hq := (h.1.2.2.2.1 _ hc).1.2
    have hy := ao_lt (by omega) c1.2
    split
    · rename_i c2
      split
      · rename_i c3
        exact ao_sv h (ao_up h.1 hc hy (ao_ab (a := 1) (b := 60) (by decide) (by decide) c2) c3.1 c3.2) ⟨by omega, by omega⟩
      · exact h.mono (by omega)
    · exact h.mono (by omega)
  · exact h.mono (by omega)
theorem ao_renewed {S : as_T} {B : Nat} (x : Int32) (h : as_ok S B) : as_ok (op_renew S x).2.2 (B + 4000) := by
  have h6 := h.1.1
  unfold op_renew
  split
  · rename_i c1
    exact ao_sv h (ao_renew h.1 (ao_lt (by omega) c1)) ⟨by omega, by omega⟩
  · exact h.mono (by omega)
theorem ao_light {S : as_T} {B : Nat} (x y : Int32) (h : as_ok S B) : as_ok (op_light S x y).2.2 (B + 4000) := by
  have h6 := h.1.1
  unfold op_light
  split
  · rename_i c1
    split
    · rename_i c2
      exact ao_sv h (h.1.light (ao_lt (by omega) c1) c2) ⟨by omega, by omega⟩
    · exact h.mono (by omega)
  · exact h.mono (by omega)
theorem ao_putOut {S : as_T} {B : Nat} (x y : Int32) (h : as_ok S B) : as_ok (op_putOut S x y).2.2 (B + 4000) := by
  have h6 := h.1.1
  unfold op_putOut
  split
  · rename_i c1
    split
    · exact h.mono (by omega)
    · have hc := ao_lt (by omega) c1
      have hq := h.1.2.2.2.1 _ hc
      exact ao_sv h (h.1.flame (f := S_g S (16 + 11 * x.toNatClampNeg) - ns_side y) hc (by have := hq.2.2.2.1; omega) (fun z => hq.2.2.2.2 (by omega))) ⟨by omega, by omega⟩
  · exact h.mono (by omega)
theorem ao_rule {S : as_T} {B : Nat} (a x y : Int32) (h : as_ok S B) : as_ok (op_rule S a x y).2.2 (B + 4000) := by
  have h6 := h.1.1
  unfold op_rule
  split
  · rename_i c1
    split
    · exact h.mono (by omega)
    · split
      · rename_i c3
        exact ao_sv h (h.1.newRule c3 (ao_lt (by omega) c1.1) (ao_lt (by omega) c1.2) (by split <;> omega)) ⟨by omega, by omega⟩
      · exact h.mono (by omega)
  · exact h.mono (by omega)
theorem ao_dropped {S : as_T} {B : Nat} (h : as_ok S B) : as_ok (op_drop S).2.2 (B + 4000) := ao_sv h (ao_drop h.1) ⟨by omega, by omega⟩
theorem ao_run {S : as_T} {B : Nat} (x : Int32) (h : as_ok S B) : as_ok (op_run S x).2.2 (B + 4000) := by
  unfold op_run
  split
  · rename_i c1
    have h1 := ao_ab (a := 1) (b := 200) (by decide) (by decide) c1
    exact ao_sv h (ns_steps_ok h.1 x.toNatClampNeg).1 ⟨by omega, by omega⟩
  · exact h.mono (by omega)
theorem ao_append {S : as_T} {B : Nat} (x : Int32) (h : as_ok S B) : as_ok (op_append S x).2.2 (B + 4000) := by
  unfold op_append
  split
  · rename_i c1
    have h1 := ao_ab (a := 33) (b := 126) (by decide) (by decide) c1
    split
    · rename_i c2
      obtain ⟨a1, a2, a3, a4, a5, a6, a7⟩ := h.mono (show B ≤ B + 4000 by omega)
      refine ⟨a1, a2, a3, fun j hj => ?_, a5, c2, a7⟩
      have hj2 : j < S_l S + 1 := hj
      show 33 ≤ ns_up (S_t S) (S_l S) x.toNatClampNeg j ∧ ns_up (S_t S) (S_l S) x.toNatClampNeg j ≤ 126
      by_cases e : j = S_l S
      · rw [e, ns_up_s]
        exact h1
      · rw [ns_up_n e]
        exact a4 j (by omega)
    · exact h.mono (by omega)
  · exact h.mono (by omega)
theorem ao_clear {S : as_T} {B : Nat} (h : as_ok S B) : as_ok (op_clear S).2.2 (B + 4000) := by
  obtain ⟨a1, a2, a3, a4, a5, a6, a7⟩ := h.mono (show B ≤ B + 4000 by omega)
  exact ⟨a1, a2, a3, fun j hj => absurd hj (Nat.not_lt_zero _), a5, Nat.zero_le _, a7⟩
theorem ao_undo {S : as_T} {B : Nat} (h : as_ok S B) : as_ok (op_undo S).2.2 (B + 4000) := by
  unfold op_undo
  split
  · exact h.mono (by omega)
  · rename_i c1
    obtain ⟨a1, a2, a3, a4, a5, a6, a7⟩ := h.mono (show B ≤ B + 4000 by omega)
    refine ⟨a2 _ (by omega), fun i hi => a2 i ?_, a3, a4, ?_, a6, a7⟩
    · have hi2 : i < S_n S - 1 := hi
      omega
    · show S_n S - 1 ≤ 6
      omega
theorem ao_keep {S : as_T} {B : Nat} (x : Int32) (h : as_ok S B) : as_ok (op_keep S x).2.2 (B + 4000) := by
  unfold op_keep
  split
  · obtain ⟨a1, a2, a3, a4, a5, a6, a7⟩ := h.mono (show B ≤ B + 4000 by omega)
    refine ⟨a1, a2, fun i hi hk => ?_, a4, a5, a6, fun i hi => ?_⟩
    · show ns_ok ((fun j => if j = x.toNatClampNeg then S.1 else S_s S j) i) (B + 4000)
      dsimp only
      split
      · exact a1
      · rename_i e
        refine a3 i hi ?_
        have hk2 : (if i = x.toNatClampNeg then 1 else S_k S i) = 1 := hk
        rw [if_neg e] at hk2
        exact hk2
    · show (if i = x.toNatClampNeg then 1 else S_k S i) ≤ 1
      split
      · exact Nat.le_refl _
      · exact a7 i hi
  · exact h.mono (by omega)
theorem ao_back {S : as_T} {B : Nat} (x : Int32) (h : as_ok S B) : as_ok (op_back S x).2.2 (B + 4000) := by
  unfold op_back
  split
  · rename_i c1
    have h1 := ao_ab (a := 0) (b := 1) (by decide) (by decide) c1
    split
    · rename_i c2
      exact ao_sv h (h.2.2.1 _ (by omega) c2) ⟨by omega, by omega⟩
    · exact h.mono (by omega)
  · exact h.mono (by omega)
theorem ao_list {s : Nat → Nat} : ∀ (f p : Nat), (∀ q ∈ (tx_all s f p).2.2, tx_okO q) ∧ (tx_all s f p).2.2.length ≤ f
  | 0, p => ⟨fun q hq => (by cases hq), Nat.le_refl _⟩
  | f + 1, p => by
    by_cases h : (tx_ord s p).1 = true
    · by_cases h2 : s (tx_ord s p).2.1 = 59
      · obtain ⟨i1, i2⟩ := ao_list (s := s) f ((tx_ord s p).2.1 + 1)
        rw [tx_all_2 h h2]
        refine ⟨fun q hq => ?_, by rw [List.length_cons]; omega⟩
        rcases List.mem_cons.mp hq with rfl | hq
        · exact (tx_ord_ok h).2.1
        · exact i1 q hq
      · rw [tx_all_1 h h2]
        refine ⟨fun q hq => ?_, by simp⟩
        rcases List.mem_cons.mp hq with rfl | hq
        · exact (tx_ord_ok h).2.1
        · cases hq
    · rw [tx_all_0 h]
      exact ⟨fun q hq => (by cases hq), Nat.zero_le _⟩
theorem ao_all : ∀ (l : List tx_O) (g : Nat → Nat) (B : Nat), ns_ok g B → (∀ q ∈ l, tx_okO q) → ns_ok (ex_all g l).1 (B + 200 * l.length)
  | [], g, B, h, _ => by rw [ex_all]; exact h.mono (by omega)
  | q :: l, g, B, h, hl => by
    rw [ex_all]
    split
    · rename_i hc
      have := ao_all l (ex_do g q) (B + 200) (ex_do_ok h (hl q List.mem_cons_self) hc) (fun x hx => hl x (List.mem_cons_of_mem _ hx))
      exact this.mono (by rw [List.length_cons]; omega)
    · exact h.mono (by omega)
theorem ao_exec {S : as_T} {B : Nat} (h : as_ok S B) : as_ok (op_exec S).2.2 (B + 4000) := by
  unfold op_exec
  split
  · obtain ⟨i1, i2⟩ := ao_list (s := tx_s (S_t S) (S_l S)) 16 0
    have h1 := ao_all _ (S_g S) B h.1 i1
    obtain ⟨a1, a2, a3, a4, a5, a6, a7⟩ := ao_sv h (h1.mono (B' := B + 3200) (by omega)) ⟨by omega, by omega⟩
    exact ⟨a1, a2, a3, fun j hj => absurd hj (Nat.not_lt_zero _), a5, Nat.zero_le _, a7⟩
  · exact h.mono (by omega)
theorem ao_error {S : as_T} {B : Nat} (h : as_ok S B) : as_ok (op_error S).2.2 (B + 4000) := h.mono (by omega)
theorem ao_cordOf {S : as_T} {B : Nat} (u w : Int32) (h : as_ok S B) : as_ok (op_cordOf S u w).2.2 (B + 4000) := by
  unfold op_cordOf
  repeat split
  all_goals exact h.mono (by omega)
theorem ao_segment {S : as_T} {B : Nat} (u w : Int32) (h : as_ok S B) : as_ok (op_segment S u w).2.2 (B + 4000) := by
  unfold op_segment
  repeat split
  all_goals exact h.mono (by omega)
theorem ao_front {S : as_T} {B : Nat} (u y : Int32) (h : as_ok S B) : as_ok (op_front S u y).2.2 (B + 4000) := by
  unfold op_front
  repeat split
  all_goals exact h.mono (by omega)
theorem ao_ruleOf {S : as_T} {B : Nat} (u w : Int32) (h : as_ok S B) : as_ok (op_ruleOf S u w).2.2 (B + 4000) := by
  unfold op_ruleOf
  repeat split
  all_goals exact h.mono (by omega)
theorem ao_count {S : as_T} {B : Nat} (u : Int32) (h : as_ok S B) : as_ok (op_count S u).2.2 (B + 4000) := by
  unfold op_count
  repeat split
  all_goals exact h.mono (by omega)
theorem ao_outIn {S : as_T} {B : Nat} (u : Int32) (h : as_ok S B) : as_ok (op_outIn S u).2.2 (B + 4000) := by
  unfold op_outIn
  repeat split
  all_goals exact h.mono (by omega)
theorem ao_lasts {S : as_T} {B : Nat} (u y w : Int32) (h : as_ok S B) : as_ok (op_lasts S u y w).2.2 (B + 4000) := by
  unfold op_lasts
  repeat split
  all_goals exact h.mono (by omega)
theorem ao_tell {S : as_T} {B : Nat} (u v : Int32) (h : as_ok S B) : as_ok (op_tell S u v).2.2 (B + 4000) := by
  unfold op_tell
  repeat split
  all_goals exact h.mono (by omega)
theorem ao_few {S : as_T} {B : Nat} (u v : Int32) (h : as_ok S B) : as_ok (op_few S u v).2.2 (B + 4000) := by
  unfold op_few
  repeat split
  all_goals exact h.mono (by omega)
theorem ao_entry {S : as_T} {B : Nat} (u v : Int32) (h : as_ok S B) : as_ok (op_entry S u v).2.2 (B + 4000) := by
  unfold op_entry
  repeat split
  all_goals exact h.mono (by omega)
