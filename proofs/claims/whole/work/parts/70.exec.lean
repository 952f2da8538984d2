/-! ORDERS ARE CARRIED OUT, for both sides -/
abbrev ex_can (g : Nat → Nat) (q : tx_O) : Prop := (q.1 = 0 ∧ g 6 < 4) ∨ (q.1 = 1 ∧ q.2.1 < g 6 ∧ ns_canLight g q.2.1 (nI q.2.2.2.1)) ∨ (q.1 = 2 ∧ (q.2.1 < g 6 ∧ q.2.2.1 < g 6) ∧ q.2.1 ≠ q.2.2.1 ∧ g 51 < 8) ∨ q.1 = 3
def ex_do (g : Nat → Nat) (q : tx_O) : Nat → Nat := if q.1 = 0 then ns_new g q.2.1 (fun i => q.2.2.2.2.getD i 0) else if q.1 = 1 then ns_lightNow g q.2.1 (nI q.2.2.2.1) else if q.1 = 2 then ns_newRule g q.2.1 q.2.2.1 q.2.2.2.1 else ns_steps g q.2.1
def ex_all (g : Nat → Nat) : List tx_O → (Nat → Nat) × Nat
  | [] => (g, 0)
  | q :: l => if ex_can g q then ((ex_all (ex_do g q) l).1, (ex_all (ex_do g q) l).2 + 1) else (g, 0)
def op_exec (S : as_T) : op_T := if (tx_all (tx_s (S_t S) (S_l S)) 16 0).1 = true ∧ (tx_all (tx_s (S_t S) (S_l S)) 16 0).2.1 = S_l S then (0, nI (ex_all (S_g S) (tx_all (tx_s (S_t S) (S_l S)) 16 0).2.2).2, so_text (so_g (so_save S) (ex_all (S_g S) (tx_all (tx_s (S_t S) (S_l S)) 16 0).2.2).1) (S_t S) 0) else (1, 0, S)
theorem ns_ok.newCord {g : Nat → Nat} {B sg : Nat} {tm : Nat → Nat} (h : ns_ok g B) (h6 : g 6 < 4) (hs : 1 ≤ sg ∧ sg ≤ 6) (ht : ∀ i, i < sg → 1 ≤ tm i ∧ tm i ≤ 60) : ns_ok (ns_new g sg tm) B := by
  obtain ⟨a1, a2, a3, a4, a5, a6, a7, a8, a9⟩ := h
  have e : ∀ k, k ≠ 6 → (k < 7 + 11 * g 6 ∨ 18 + 11 * g 6 ≤ k) → g k = ns_new g sg tm k := fun k k1 k2 => (ns_new_n k1 k2).symm
  have n6 : ns_new g sg tm 6 = g 6 + 1 := by unfold ns_new; rw [if_pos rfl]
  have n7 : ns_new g sg tm (7 + 11 * g 6) = sg := by unfold ns_new; rw [if_neg (by omega), if_neg (by omega), if_pos rfl]
  have nt : ∀ k, k < sg → ns_new g sg tm (8 + 11 * g 6 + k) = tm k := fun k hk => by unfold ns_new; rw [if_neg (by omega), if_neg (by omega), if_neg (by omega), if_pos (by omega), show 8 + 11 * g 6 + k - (8 + 11 * g 6) = k by omega]
  have nz : ∀ k, k = 14 + 11 * g 6 ∨ k = 15 + 11 * g 6 ∨ k = 16 + 11 * g 6 → ns_new g sg tm k = 0 := fun k hk => by unfold ns_new; rw [if_neg (by omega), if_neg (by omega), if_neg (by omega), if_neg (by omega), if_neg (by omega)]
  refine ⟨by rw [n6]; omega, by rw [← e 51 (by omega) (by omega)]; exact a2, by rw [← e 84 (by omega) (by omega)]; exact a3, fun c hc => ?_, fun r hr => ?_, fun i hi => ?_, by rw [← e 0 (by omega) (by omega)]; exact a7, by rw [← e 4 (by omega) (by omega)]; exact a8, by rw [← e 5 (by omega) (by omega)]; exact a9⟩
  · rw [n6] at hc
    by_cases ec : c = g 6
    · subst ec
      refine ⟨by rw [n7]; exact hs, fun k hk => ?_, ?_, by rw [nz _ (by omega)]; omega, fun z => absurd (nz _ (by omega)) z⟩
      · rw [n7] at hk
        rw [nt k hk]
        exact ht k hk
      · unfold ns_burned
        rw [nz _ (by omega), nz _ (by omega)]
        exact Nat.zero_le _
    · exact (a4 c (by omega)).ext (fun k k1 k2 => e k (by omega) (by omega))
  · rw [← e 51 (by omega) (by omega)] at hr
    rw [← e (52 + 4 * r) (by omega) (by omega), ← e (53 + 4 * r) (by omega) (by omega), ← e (54 + 4 * r) (by omega) (by omega), n6]
    have := a5 r hr
    omega
  · rw [← e 84 (by omega) (by omega)] at hi
    rw [← e (85 + 3 * i) (by omega) (by omega), ← e (86 + 3 * i) (by omega) (by omega), ← e (87 + 3 * i) (by omega) (by omega), ← e 0 (by omega) (by omega)]
    exact a6 i hi
theorem ns_ok.newRule {g : Nat → Nat} {B a c y : Nat} (h : ns_ok g B) (h51 : g 51 < 8) (ha : a < g 6) (hc : c < g 6) (hy : y ≤ 1) : ns_ok (ns_newRule g a c y) B := by
  obtain ⟨a1, a2, a3, a4, a5, a6, a7, a8, a9⟩ := h
  have e : ∀ k, k ≠ 51 → (k < 52 + 4 * g 51 ∨ 56 + 4 * g 51 ≤ k) → g k = ns_newRule g a c y k := fun k k1 k2 => by
    unfold ns_newRule
    rw [ns_up_n k1, ns_up_n (by omega), ns_up_n (by omega), ns_up_n (by omega), ns_up_n (by omega)]
  have e51 : ns_newRule g a c y 51 = g 51 + 1 := ns_up_s _ _ _
  have b0 : ns_newRule g a c y (52 + 4 * g 51) = a := by
    unfold ns_newRule
    rw [ns_up_n (by omega), ns_up_n (by omega), ns_up_n (by omega), ns_up_n (by omega), ns_up_s]
  have b1 : ns_newRule g a c y (53 + 4 * g 51) = c := by
    unfold ns_newRule
    rw [ns_up_n (by omega), ns_up_n (by omega), ns_up_n (by omega), ns_up_s]
  have b2 : ns_newRule g a c y (54 + 4 * g 51) = y := by
    unfold ns_newRule
    rw [ns_up_n (by omega), ns_up_n (by omega), ns_up_s]
  refine ⟨by rw [← e 6 (by omega) (by omega)]; exact a1, by rw [e51]; omega, by rw [← e 84 (by omega) (by omega)]; exact a3, fun c2 hc2 => ?_, fun r hr => ?_, fun i hi => ?_, by rw [← e 0 (by omega) (by omega)]; exact a7, by rw [← e 4 (by omega) (by omega)]; exact a8, by rw [← e 5 (by omega) (by omega)]; exact a9⟩
  · rw [← e 6 (by omega) (by omega)] at hc2
    exact (a4 c2 hc2).ext (fun k k1 k2 => e k (by omega) (by omega))
  · rw [e51] at hr
    rw [← e 6 (by omega) (by omega)]
    by_cases er : r = g 51
    · subst er
      rw [b0, b1, b2]
      exact ⟨ha, hc, hy⟩
    · rw [← e (52 + 4 * r) (by omega) (by omega), ← e (53 + 4 * r) (by omega) (by omega), ← e (54 + 4 * r) (by omega) (by omega)]
      exact a5 r (by omega)
  · rw [← e 84 (by omega) (by omega)] at hi
    rw [← e (85 + 3 * i) (by omega) (by omega), ← e (86 + 3 * i) (by omega) (by omega), ← e (87 + 3 * i) (by omega) (by omega), ← e 0 (by omega) (by omega)]
    exact a6 i hi
theorem ex_do_ok {g : Nat → Nat} {B : Nat} {q : tx_O} (h : ns_ok g B) (hq : tx_okO q) (hc : ex_can g q) : ns_ok (ex_do g q) (B + 200) := by
  unfold ex_do
  rcases hc with ⟨k0, c1⟩ | ⟨k1, c1, c2⟩ | ⟨k2, ⟨c1, c2⟩, c3, c4⟩ | k3
  · rw [if_pos k0]
    have hq2 := (hq.resolve_right (fun z => by omega)).2
    refine (h.newCord c1 hq2.1 (fun i hi => ?_)).mono (by omega)
    rw [List.getD_eq_getElem?_getD, List.getElem?_eq_getElem (by rw [hq2.2.1]; exact hi)]
    exact hq2.2.2 _ (List.getElem_mem _)
  · rw [if_neg (by omega), if_pos k1]
    exact (h.light c1 c2).mono (by omega)
  · rw [if_neg (by omega), if_neg (by omega), if_pos k2]
    refine (h.newRule c4 c1 c2 ?_).mono (by omega)
    unfold tx_okO at hq
    omega
  · rw [if_neg (by omega), if_neg (by omega), if_neg (by omega)]
    have hq2 : q.2.1 ≤ 200 := by unfold tx_okO at hq; omega
    exact (ns_steps_ok h q.2.1).1.mono (by omega)
