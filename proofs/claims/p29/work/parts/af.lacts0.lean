/-! what the calls leave: the class's row, the law's rows -/
/-- a cord that hasn't burned, one segment's time set -/
theorem ao_up {g : Nat → Nat} {B c s t : Nat} (h : ns_ok g B) (hc : c < g 6) (hs : s < g (7 + 11 * c)) (ht : 1 ≤ t ∧ t ≤ 60) (h0 : ns_burned g c = 0) (hf : g (16 + 11 * c) = 0) : ns_ok (ns_up g (8 + 11 * c + s) t) B := by
  obtain ⟨a1, a2, a3, a4, a5, a6, a7, a8, a9⟩ := h
  have hq := a4 c hc
  have hs6 := hq.1.2
  have e : ∀ k, k ≠ 8 + 11 * c + s → ns_up g (8 + 11 * c + s) t k = g k := fun k hk => ns_up_n hk
  have hb : ns_burned (ns_up g (8 + 11 * c + s) t) c = 0 := by
    unfold ns_burned at h0 ⊢
    rw [e _ (by omega), e _ (by omega)]
    exact h0
  refine ⟨by rw [e _ (by omega)]; exact a1, by rw [e _ (by omega)]; exact a2, by rw [e _ (by omega)]; exact a3, fun c1 hc1 => ?_, fun r hr => ?_, fun i hi => ?_, by rw [e _ (by omega)]; exact a7, by rw [e _ (by omega)]; exact a8, by rw [e _ (by omega)]; exact a9⟩
  · rw [e _ (by omega)] at hc1
    by_cases e1 : c1 = c
    · subst e1
      refine ⟨by rw [e _ (by omega)]; exact hq.1, fun k hk => ?_, by rw [hb]; exact Nat.zero_le _, by rw [e _ (by omega)]; exact hq.2.2.2.1, fun z => absurd hf (by rw [e _ (by omega)] at z; exact z)⟩
      rw [e _ (by omega)] at hk
      by_cases e2 : k = s
      · subst e2
        rw [ns_up_s]
        exact ht
      · rw [e _ (by omega)]
        exact hq.2.1 k hk
    · exact (a4 c1 hc1).ext (fun k k1 k2 => (e k (by omega)).symm)
  · rw [e _ (by omega)] at hr ⊢
    rw [e _ (by omega), e _ (by omega), e _ (by omega)]
    exact a5 r hr
  · rw [e _ (by omega)] at hi
    rw [e _ (by omega), e _ (by omega), e _ (by omega), e _ (by omega)]
    exact a6 i hi
/-- a cord made new -/
theorem ao_renew {g : Nat → Nat} {B c : Nat} (h : ns_ok g B) (hc : c < g 6) : ns_ok (ns_up (ns_up (ns_up g (14 + 11 * c) 0) (15 + 11 * c) 0) (16 + 11 * c) 0) B := by
  obtain ⟨a1, a2, a3, a4, a5, a6, a7, a8, a9⟩ := h
  obtain ⟨g', hg'⟩ : ∃ g', g' = ns_up (ns_up (ns_up g (14 + 11 * c) 0) (15 + 11 * c) 0) (16 + 11 * c) 0 := ⟨_, rfl⟩
  rw [← hg']
  have hq := a4 c hc
  have e : ∀ k, k ≠ 14 + 11 * c → k ≠ 15 + 11 * c → k ≠ 16 + 11 * c → g' k = g k := fun k h1 h2 h3 => by rw [hg', ns_up_n h3, ns_up_n h2, ns_up_n h1]
  have f4 : g' (14 + 11 * c) = 0 := by rw [hg', ns_up_n (by omega), ns_up_n (by omega), ns_up_s]
  have f5 : g' (15 + 11 * c) = 0 := by rw [hg', ns_up_n (by omega), ns_up_s]
  have f6 : g' (16 + 11 * c) = 0 := by rw [hg', ns_up_s]
  have hb : ns_burned g' c = 0 := by unfold ns_burned; rw [f4, f5]
  refine ⟨by rw [e _ (by omega) (by omega) (by omega)]; exact a1, by rw [e _ (by omega) (by omega) (by omega)]; exact a2, by rw [e _ (by omega) (by omega) (by omega)]; exact a3, fun c1 hc1 => ?_, fun r hr => ?_, fun i hi => ?_, by rw [e _ (by omega) (by omega) (by omega)]; exact a7, by rw [e _ (by omega) (by omega) (by omega)]; exact a8, by rw [e _ (by omega) (by omega) (by omega)]; exact a9⟩
  · rw [e _ (by omega) (by omega) (by omega)] at hc1
    by_cases e1 : c1 = c
    · subst e1
      refine ⟨by rw [e _ (by omega) (by omega) (by omega)]; exact hq.1, fun k hk => ?_, by rw [hb]; exact Nat.zero_le _, by rw [f6]; decide, fun z => absurd f6 z⟩
      rw [e _ (by omega) (by omega) (by omega)] at hk
      have := hq.1.2
      rw [e _ (by omega) (by omega) (by omega)]
      exact hq.2.1 k hk
    · exact (a4 c1 hc1).ext (fun k k1 k2 => (e k (by omega) (by omega) (by omega)).symm)
  · rw [e _ (by omega) (by omega) (by omega)] at hr ⊢
    rw [e _ (by omega) (by omega) (by omega), e _ (by omega) (by omega) (by omega), e _ (by omega) (by omega) (by omega)]
    exact a5 r hr
  · rw [e _ (by omega) (by omega) (by omega)] at hi
    rw [e _ (by omega) (by omega) (by omega), e _ (by omega) (by omega) (by omega), e _ (by omega) (by omega) (by omega), e _ (by omega) (by omega) (by omega)]
    exact a6 i hi
theorem ao_drop {g : Nat → Nat} {B : Nat} (h : ns_ok g B) : ns_ok (ns_drop g) B := by
  obtain ⟨a1, a2, a3, a4, a5, a6, a7, a8, a9⟩ := h
  have e : ∀ k, ¬ (k = 51 ∨ (52 ≤ k ∧ k < 84)) → ns_drop g k = g k := fun k hk => if_neg hk
  have e51 : ns_drop g 51 = 0 := if_pos (.inl rfl)
  refine ⟨by rw [e _ (by omega)]; exact a1, by rw [e51]; decide, by rw [e _ (by omega)]; exact a3, fun c1 hc1 => ?_, fun r hr => ?_, fun i hi => ?_, by rw [e _ (by omega)]; exact a7, by rw [e _ (by omega)]; exact a8, by rw [e _ (by omega)]; exact a9⟩
  · rw [e _ (by omega)] at hc1
    exact (a4 c1 hc1).ext (fun k k1 k2 => (e k (by omega)).symm)
  · rw [e51] at hr
    omega
  · rw [e _ (by omega)] at hi
    rw [e _ (by omega), e _ (by omega), e _ (by omega), e _ (by omega)]
    exact a6 i hi
theorem ns_ok.newCord {g : Nat → Nat} {B sg : Nat} {tm : Nat → Nat} (h : ns_ok g B) (h6 : g 6 < 4) (hs : 1 ≤ sg ∧ sg ≤ 6) (ht : ∀ i, i < sg → 1 ≤ tm i ∧ tm i ≤ 60) : ns_ok (ns_new g sg tm) B := by
  obtain ⟨a1, a2, a3, a4, a5, a6, a7, a8, a9⟩ := h
  have e : ∀ k, k ≠ 6 → (k < 7 + 11 * g 6 ∨ 18 + 11 * g 6 ≤ k) → g k = ns_new g sg tm k := fun k k1 k2 => (ns_new_n k1 k2).symm
  have n6 : ns_new g sg tm 6 = g 6 + 1 := by unfold ns_new; rw [if_pos rfl]
  have n7 : ns_new g sg tm (7 + 11 * g 6) = sg := by unfold ns_new; rw [if_neg (by omega), if_neg (by omega), if_pos rfl]
  have nt : ∀ k, k < sg → ns_new g sg tm (8 + 11 * g 6 + k) = tm k := fun k hk => by unfold ns_new; rw [if_neg (by omega), if_neg (by omega), if_neg (by omega), if_pos (by omega), show 8 + 11 * g 6 + k - (8 + 11 * g 6) = k by omega]
  have nz : ∀ k, k = 14 + 11 * g 6 ∨ k = 15 + 11 * g 6 ∨ k = 16 + 11 * g 6 → ns_new g sg tm k = 0 := fun k hk => by unfold ns_new; rw [if_neg (by omega), if_neg (by omega), if_neg (by omega), if_neg (by omega), if_neg (by omega)]
  refine ⟨by rw [n6]; omega, by rw [← e 51 (by omega) (by omega)]; exact a2, by rw [← e 84 (by omega) (by omega)]; exact a3, fun c hc => ?_, fun r hr => ?_, fun i hi => ?_, by rw [← e 0 (by omega) (by omega)]; exact a7, by rw [← e 4 (by omega) (by omega)]; exact a8, by rw [← e 5 (by omega) (by omega)]; exact a9⟩
  · rw [n6] at hc
    by_cases ec : c = g 6
    · subst ec
      refine ⟨by rw [n7]; exact hs, fun k hk => ?_, ?_, by rw [nz _ (by omega)]; omega, fun z => absurd (nz _ (by omega)) z⟩
      · rw [n7] at hk
        rw [nt k hk]
        exact ht k hk
      · unfold ns_burned
        rw [nz _ (by omega), nz _ (by omega)]
        exact Nat.zero_le _
    · exact (a4 c (by omega)).ext (fun k k1 k2 => e k (by omega) (by omega))
  · rw [← e 51 (by omega) (by omega)] at hr
    rw [← e (52 + 4 * r) (by omega) (by omega), ← e (53 + 4 * r) (by omega) (by omega), ← e (54 + 4 * r) (by omega) (by omega), n6]
    have := a5 r hr
    omega
  · rw [← e 84 (by omega) (by omega)] at hi
    rw [← e (85 + 3 * i) (by omega) (by omega), ← e (86 + 3 * i) (by omega) (by omega), ← e (87 + 3 * i) (by omega) (by omega), ← e 0 (by omega) (by omega)]
    exact a6 i hi
theorem ns_ok.newRule {g : Nat → Nat} {B a c y : Nat} (h : ns_ok g B) (h51 : g 51 < 8) (ha : a < g 6) (hc : c < g 6) (hy : y ≤ 1) : ns_ok (ns_newRule g a c y) B := by
  obtain ⟨a1, a2, a3, a4, a5, a6, a7, a8, a9⟩ := h
  have e : ∀ k, k ≠ 51 → (k < 52 + 4 * g 51 ∨ 56 + 4 * g 51 ≤ k) → g k = ns_newRule g a c y k := fun k k1 k2 => by
    unfold ns_newRule
    rw [ns_up_n k1, ns_up_n (by omega), ns_up_n (by omega), ns_up_n (by omega), ns_up_n (by omega)]
  have e51 : ns_newRule g a c y 51 = g 51 + 1 := ns_up_s _ _ _
  have b0 : ns_newRule g a c y (52 + 4 * g 51) = a := by
    unfold ns_newRule
    rw [ns_up_n (by omega), ns_up_n (by omega), ns_up_n (by omega), ns_up_n (by omega), ns_up_s]
  have b1 : ns_newRule g a c y (53 + 4 * g 51) = c := by
    unfold ns_newRule
    rw [ns_up_n (by omega), ns_up_n (by omega), ns_up_n (by omega), ns_up_s]
  have b2 : ns_newRule g a c y (54 + 4 * g 51) = y := by
    unfold ns_newRule
    rw [ns_up_n (by omega), ns_up_n (by omega), ns_up_s]
  refine ⟨by rw [← e 6 (by omega) (by omega)]; exact a1, by rw [e51]; omega, by rw [← e 84 (by omega) (by omega)]; exact a3, fun c2 hc2 => ?_, fun r hr => ?_, fun i hi => ?_, by rw [← e 0 (by omega) (by omega)]; exact a7, by rw [← e 4 (by omega) (by omega)]; exact a8, by rw [← e 5 (by omega) (by omega)]; exact a9⟩
  · rw [← e 6 (by omega) (by omega)] at hc2
    exact (a4 c2 hc2).ext (fun k k1 k2 => e k (by omega) (by omega))
  · rw [e51] at hr
    rw [← e 6 (by omega) (by omega)]
    by_cases er : r = g 51
    · subst er
      rw [b0, b1, b2]
      exact ⟨ha, hc, hy⟩
    · rw [← e (52 + 4 * r) (by omega) (by omega), ← e (53 + 4 * r) (by omega) (by omega), ← e (54 + 4 * r) (by omega) (by omega)]
      exact a5 r (by omega)
  · rw [← e 84 (by omega) (by omega)] at hi
    rw [← e (85 + 3 * i) (by omega) (by omega), ← e (86 + 3 * i) (by omega) (by omega), ← e (87 + 3 * i) (by omega) (by omega), ← e 0 (by omega) (by omega)]
    exact a6 i hi
theorem ns_new_6 {g : Nat → Nat} {sg : Nat} {tm : Nat → Nat} : ns_new g sg tm 6 = g 6 + 1 := by unfold ns_new; rw [if_pos rfl]
theorem as_sv {S : as_T} {g : Nat → Nat} {B B1 : Nat} (h : as_ok S B) (hg : ns_ok g B1) (hB : B ≤ B1) : as_ok (so_g (so_save S) g) B1 := (h.save.mono hB).g hg
theorem lr.new {t c r n b g t' c' : Nat → Nat} {v B sg q : Nat} (h : lr t c r n b v g) (hk : ns_ok g B) (h6 : g 6 < 4) (hs : 1 ≤ sg ∧ sg ≤ 6) (ht : ∀ k, k < 6 → t' (6 * g 6 + k) = if k < sg then q else 0) (ht2 : ∀ j, j < 6 * g 6 → t' j = t j) (hc : ∀ k, k < 4 → c' (5 * g 6 + k) = 0) (hc4 : c' (5 * g 6 + 4) = 4294967295) (hc2 : ∀ j, j < 5 * g 6 → c' j = c j) : lr t' c' r (ns_up n 6 (g 6 + 1)) b v (ns_new g sg (fun _ => q)) := by
  have h51 := hk.2.1
  obtain ⟨⟨n0, n1, n2, n3, n4, n5, n6, n7, n8⟩, hT, hC, hR, hBk⟩ := h
  have e6 : ns_new g sg (fun _ => q) 6 = g 6 + 1 := ns_new_6
  have en : ∀ k, k ≠ 6 → (k < 7 + 11 * g 6 ∨ 18 + 11 * g 6 ≤ k) → ns_new g sg (fun _ => q) k = g k := fun k h1 h2 => ns_new_n h1 h2
  have e7 : ns_new g sg (fun _ => q) (7 + 11 * g 6) = sg := by
    unfold ns_new
    rw [if_neg (by omega), if_neg (by omega), if_pos rfl]
  have e17 : ns_new g sg (fun _ => q) (17 + 11 * g 6) = 4294967295 := by
    unfold ns_new
    rw [if_neg (by omega), if_neg (by omega), if_neg (by omega), if_neg (by omega), if_pos rfl]
  have e14 : ∀ k, 14 + 11 * g 6 ≤ k → k < 17 + 11 * g 6 → ns_new g sg (fun _ => q) k = 0 := fun k h1 h2 => by
    unfold ns_new
    rw [if_neg (by omega), if_neg (by omega), if_neg (by omega), if_neg (by omega), if_neg (by omega)]
  have et : ∀ k, k < sg → ns_new g sg (fun _ => q) (8 + 11 * g 6 + k) = q := fun k h1 => by
    unfold ns_new
    rw [if_neg (by omega), if_neg (by omega), if_neg (by omega), if_pos (by omega)]
  refine ⟨⟨?_, ?_, ?_, ?_, ?_, ?_, ?_, ?_, ?_⟩, fun i hi k hk6 => ?_, fun i hi => ?_, hR.ext (en 51 (by omega) (by omega)) (fun k hk9 j j1 j2 => en j (by omega) (by omega)), hBk.ext (fun k hk9 => en k (by omega) (by omega))⟩
  · rw [ns_up_n (by omega), en _ (by omega) (by omega)]; exact n0
  · rw [ns_up_n (by omega)]; exact n1
  · rw [ns_up_n (by omega), en _ (by omega) (by omega)]; exact n2
  · rw [ns_up_n (by omega), en _ (by omega) (by omega)]; exact n3
  · rw [ns_up_n (by omega), en _ (by omega) (by omega)]; exact n4
  · rw [ns_up_n (by omega), en _ (by omega) (by omega)]; exact n5
  · rw [ns_up_s, e6]
  · rw [ns_up_n (by omega), en _ (by omega) (by omega)]; exact n7
  · rw [ns_up_n (by omega), en _ (by omega) (by omega)]; exact n8
  · rw [e6] at hi
    by_cases z : i = g 6
    · subst z
      rw [ht k hk6, e7]
      by_cases w : k < sg
      · rw [if_pos w, if_pos w, et k w]
      · rw [if_neg w, if_neg w]
    · rw [ht2 _ (by omega), en _ (by omega) (by omega), en _ (by omega) (by omega)]
      exact hT i (by omega) k hk6
  · rw [e6] at hi
    by_cases z : i = g 6
    · subst z
      rw [show 5 * g 6 = 5 * g 6 + 0 by omega, hc 0 (by omega), show 5 * g 6 + 0 + 1 = 5 * g 6 + 1 by omega, show 5 * g 6 + 0 + 2 = 5 * g 6 + 2 by omega, show 5 * g 6 + 0 + 3 = 5 * g 6 + 3 by omega, show 5 * g 6 + 0 + 4 = 5 * g 6 + 4 by omega, hc 1 (by omega), hc 2 (by omega), hc 3 (by omega), hc4, e14 _ (by omega) (by omega), e14 _ (by omega) (by omega), e14 _ (by omega) (by omega), e17]
      exact ⟨rfl, rfl, rfl, rfl, rfl⟩
    · rw [hc2 _ (by omega), hc2 _ (by omega), hc2 _ (by omega), hc2 _ (by omega), hc2 _ (by omega), en _ (by omega) (by omega), en _ (by omega) (by omega), en _ (by omega) (by omega), en _ (by omega) (by omega)]
      exact hC i (by omega)
theorem lr.uneven {t c r n b g : Nat → Nat} {v B i s q : Nat} (h : lr t c r n b v g) (hk : ns_ok g B) (hi : i < g 6) (hs : s < g (7 + 11 * i)) : lr (ns_up t (6 * i + s) q) c r n b v (ns_up g (8 + 11 * i + s) q) := by
  have h6 := hk.1
  have h51 := hk.2.1
  have h7 := (hk.2.2.2.1 i hi).1.2
  obtain ⟨⟨n0, n1, n2, n3, n4, n5, n6, n7, n8⟩, hT, hC, hR, hBk⟩ := h
  have e : ∀ k, k ≠ 8 + 11 * i + s → ns_up g (8 + 11 * i + s) q k = g k := fun k hk9 => ns_up_n hk9
  refine ⟨⟨?_, n1, ?_, ?_, ?_, ?_, ?_, ?_, ?_⟩, fun j hj k hk6 => ?_, hC.ext (e 6 (by omega)) (fun j hj k k1 k2 => e k (by omega)), hR.ext (e 51 (by omega)) (fun j hj k k1 k2 => e k (by omega)), hBk.ext (fun k k1 => e k (by omega))⟩
  · rw [e _ (by omega)]; exact n0
  · rw [e _ (by omega)]; exact n2
  · rw [e _ (by omega)]; exact n3
  · rw [e _ (by omega)]; exact n4
  · rw [e _ (by omega)]; exact n5
  · rw [e _ (by omega)]; exact n6
  · rw [e _ (by omega)]; exact n7
  · rw [e _ (by omega)]; exact n8
  · rw [e _ (by omega)] at hj
    rw [e (7 + 11 * j) (by omega)]
    by_cases z : j = i ∧ k = s
    · obtain ⟨rfl, rfl⟩ := z
      rw [ns_up_s, ns_up_s, if_pos hs]
    · rw [ns_up_n (by omega), e (8 + 11 * j + k) (by omega)]
      exact hT j hj k hk6
theorem lr.newRule {t c r n b g r' : Nat → Nat} {v B a x s : Nat} (h : lr t c r n b v g) (hk : ns_ok g B) (h8 : g 51 < 8) (hs : s ≤ 1) (hr : ∀ j, j < 4 * g 51 → r' j = r j) (h0 : r' (4 * g 51) = a) (h1 : r' (4 * g 51 + 1) = x) (h2 : r' (4 * g 51 + 2) = s) (h3 : r' (4 * g 51 + 3) = 0) : lr t c r' (ns_up n 7 (g 51 + 1)) b v (ns_newRule g a x (1 - s)) := by
  have h6 := hk.1
  obtain ⟨⟨n0, n1, n2, n3, n4, n5, n6, n7, n8⟩, hT, hC, hR, hBk⟩ := h
  have en : ∀ k, (k < 51 ∨ (51 < k ∧ k < 52 + 4 * g 51) ∨ 56 + 4 * g 51 ≤ k) → ns_newRule g a x (1 - s) k = g k := fun k hk9 => by
    unfold ns_newRule
    rw [ns_up_n (by omega), ns_up_n (by omega), ns_up_n (by omega), ns_up_n (by omega), ns_up_n (by omega)]
  have e51 : ns_newRule g a x (1 - s) 51 = g 51 + 1 := ns_up_s _ _ _
  refine ⟨⟨?_, ?_, ?_, ?_, ?_, ?_, ?_, ?_, ?_⟩, hT.ext (en 6 (by omega)) (fun i hi k k1 k2 => en k (by omega)), hC.ext (en 6 (by omega)) (fun i hi k k1 k2 => en k (by omega)), fun k hk9 => ?_, hBk.ext (fun k k1 => en k (by omega))⟩
  · rw [ns_up_n (by omega), en _ (by omega)]; exact n0
  · rw [ns_up_n (by omega)]; exact n1
  · rw [ns_up_n (by omega), en _ (by omega)]; exact n2
  · rw [ns_up_n (by omega), en _ (by omega)]; exact n3
  · rw [ns_up_n (by omega), en _ (by omega)]; exact n4
  · rw [ns_up_n (by omega), en _ (by omega)]; exact n5
  · rw [ns_up_n (by omega), en _ (by omega)]; exact n6
  · rw [ns_up_s, e51]
  · rw [ns_up_n (by omega), en _ (by omega)]; exact n8
  · rw [e51] at hk9
    by_cases z : k = g 51
    · subst z
      rw [h0, h1, h2, h3]
      unfold ns_newRule
      refine ⟨?_, ?_, ?_, ?_⟩
      · rw [ns_up_n (by omega), ns_up_n (by omega), ns_up_n (by omega), ns_up_n (by omega), ns_up_s]
      · rw [ns_up_n (by omega), ns_up_n (by omega), ns_up_n (by omega), ns_up_s]
      · rw [ns_up_n (by omega), ns_up_n (by omega), ns_up_s]; omega
      · rw [ns_up_n (by omega), ns_up_s]
    · rw [hr _ (by omega), hr _ (by omega), hr _ (by omega), hr _ (by omega), en _ (by omega), en _ (by omega), en _ (by omega), en _ (by omega)]
      exact hR k (by omega)
theorem lr.drop {t c r n b g : Nat → Nat} {v B : Nat} (h : lr t c r n b v g) (hk : ns_ok g B) : lr t c r (ns_up n 7 0) b v (ns_drop g) := by
  have h6 := hk.1
  obtain ⟨⟨n0, n1, n2, n3, n4, n5, n6, n7, n8⟩, hT, hC, hR, hBk⟩ := h
  have en : ∀ k, (k < 51 ∨ 84 ≤ k) → ns_drop g k = g k := fun k hk9 => by
    unfold ns_drop
    exact if_neg (by omega)
  have e51 : ns_drop g 51 = 0 := by
    unfold ns_drop
    exact if_pos (by omega)
  refine ⟨⟨?_, ?_, ?_, ?_, ?_, ?_, ?_, ?_, ?_⟩, hT.ext (en 6 (by omega)) (fun i hi k k1 k2 => en k (by omega)), hC.ext (en 6 (by omega)) (fun i hi k k1 k2 => en k (by omega)), fun k hk9 => ?_, hBk.ext (fun k k1 => en k (by omega))⟩
  · rw [ns_up_n (by omega), en _ (by omega)]; exact n0
  · rw [ns_up_n (by omega)]; exact n1
  · rw [ns_up_n (by omega), en _ (by omega)]; exact n2
  · rw [ns_up_n (by omega), en _ (by omega)]; exact n3
  · rw [ns_up_n (by omega), en _ (by omega)]; exact n4
  · rw [ns_up_n (by omega), en _ (by omega)]; exact n5
  · rw [ns_up_n (by omega), en _ (by omega)]; exact n6
  · rw [ns_up_s, e51]
  · rw [ns_up_n (by omega), en _ (by omega)]; exact n8
  · rw [e51] at hk9
    exact absurd hk9 (by omega)
theorem lr.renew {t c r n b g c' : Nat → Nat} {v B i : Nat} (h : lr t c r n b v g) (hk : ns_ok g B) (hi : i < g 6) (hc : ∀ j, c' j = if 5 * i ≤ j ∧ j < 5 * i + 4 then 0 else c j) : lr t c' r n b v (ns_up (ns_up (ns_up g (14 + 11 * i) 0) (15 + 11 * i) 0) (16 + 11 * i) 0) := by
  have h6 := hk.1
  obtain ⟨c0, c1, c2, c3, c4⟩ := h.2.2.1 i hi
  refine h.c hk hi (fun k k1 k2 k3 k4 => by rw [ns_up_n k3, ns_up_n k2, ns_up_n k1]) (fun k hk9 => by rw [hc, if_neg (by omega)]) ?_
  rw [hc, hc, hc, hc, hc, if_pos (by omega), if_pos (by omega), if_pos (by omega), if_pos (by omega), if_neg (by omega), ns_up_n (show 14 + 11 * i ≠ 16 + 11 * i by omega), ns_up_n (show 14 + 11 * i ≠ 15 + 11 * i by omega), ns_up_s, ns_up_n (show 15 + 11 * i ≠ 16 + 11 * i by omega), ns_up_s, ns_up_s, ns_up_n (show 17 + 11 * i ≠ 16 + 11 * i by omega), ns_up_n (show 17 + 11 * i ≠ 15 + 11 * i by omega), ns_up_n (show 17 + 11 * i ≠ 14 + 11 * i by omega)]
  exact ⟨rfl, rfl, rfl, rfl, c4⟩
theorem lr.put {t c r n b g : Nat → Nat} {v B i s : Nat} (h : lr t c r n b v g) (hk : ns_ok g B) (hi : i < g 6) (hs : s ≤ 1) (hb : c (5 * i + 2 + s) ≠ 0) : lr t (ns_up c (5 * i + 2 + s) 0) r n b v (ns_put g i (ls_x s)) ∧ ns_ok (ns_put g i (ls_x s)) B ∧ ¬ ns_bit (g (16 + 11 * i)) (ls_x s) = 0 := by
  have h6 := hk.1
  have hq := hk.2.2.2.1 i hi
  have hf := hq.2.2.2.1
  obtain ⟨c0, c1, c2, c3, c4⟩ := h.2.2.1 i hi
  have hbit := h.bit hi hs
  have hn : ¬ ns_bit (g (16 + 11 * i)) (ls_x s) = 0 := fun z => hb (by rw [hbit]; exact z)
  have hb2 := hn
  rw [ls_bit hs] at hb2
  refine ⟨?_, ?_, hn⟩
  · unfold ns_put
    rw [ls_side hs]
    refine h.c hk hi (fun k k1 k2 k3 k4 => ns_up_n k3) (fun k hk9 => ns_up_n (by omega)) ?_
    rw [ns_up_n (show 5 * i ≠ 5 * i + 2 + s by omega), ns_up_n (show 5 * i + 1 ≠ 5 * i + 2 + s by omega), ns_up_n (show 5 * i + 4 ≠ 5 * i + 2 + s by omega), ns_up_n (show 14 + 11 * i ≠ 16 + 11 * i by omega), ns_up_n (show 15 + 11 * i ≠ 16 + 11 * i by omega), ns_up_n (show 17 + 11 * i ≠ 16 + 11 * i by omega), ns_up_s]
    refine ⟨c0, c1, ?_, ?_, c4⟩
    · have h9 : s = 0 ∨ s = 1 := by omega
      rcases h9 with rfl | rfl
      · rw [ns_up_s]
        rw [if_pos rfl] at hb2
        omega
      · rw [ns_up_n (by omega), c2]
        rw [if_neg (by omega)] at hb2
        omega
    · have h9 : s = 0 ∨ s = 1 := by omega
      rcases h9 with rfl | rfl
      · rw [ns_up_n (by omega), c3]
        rw [if_pos rfl] at hb2
        omega
      · rw [ns_up_s]
        rw [if_neg (by omega)] at hb2
        omega
  · unfold ns_put
    rw [ls_side hs]
    refine hk.flame hi (by omega) (fun z => ?_)
    exact hq.2.2.2.2 (by
      intro z2
      rw [z2] at z
      omega)
section NQ2
variable {l : Launch} {D : va_G} {cA : Nat → ClassId} {X : cq_X} {Bs : Nat} {M : cq_M} {S : as_T} {o B : Nat}
theorem nq_cord (hl : l.stackTraces = false) (hb : cq_isClock X o) (h : ck M o S) (hk : as_ok S B) (a q : Nat) (ha : 1 ≤ a ∧ a ≤ 6) (hq : 1 ≤ q ∧ q ≤ 60) (h6 : S_g S 6 < 4) : cq_C l yX6_cord wsX6_cord rmX6_cord D cA X Bs [.ref o, .int (nI a), .int (nI q)] M (cq_PI (fun r M1 => r = nI (S_g S 6) ∧ ck M1 o (so_g (so_save S) (ns_new (S_g S) a (fun _ => q))) ∧ cr_fr M M1 o 249)) 1 6 :=
  (kX6_cord l hl D cA X Bs o B S (nI a) (nI q) M hb h hk).chg (by
    unfold op_cord
    rw [if_pos (show (1 ≤ nI a ∧ nI a ≤ 6) ∧ 1 ≤ nI q ∧ nI q ≤ 60 from ⟨⟨nI_le (a := 1) ha.1 (by omega), nI_le (b := 6) ha.2 (by omega)⟩, nI_le (a := 1) hq.1 (by omega), nI_le (b := 60) hq.2 (by omega)⟩), if_pos h6, nI_clamp (by omega), nI_clamp (by omega)])
theorem nq_uneven (hl : l.stackTraces = false) (hb : cq_isClock X o) (h : ck M o S) (hk : as_ok S B) (i s q : Nat) (hi : i < S_g S 6) (hs : s < S_g S (7 + 11 * i)) (hq : 1 ≤ q ∧ q ≤ 60) (h0 : ns_burned (S_g S) i = 0) (hf : S_g S (16 + 11 * i) = 0) : cq_C l yX6_uneven wsX6_uneven rmX6_uneven D cA X Bs [.ref o, .int (nI i), .int (nI s), .int (nI q)] M (cq_PI (fun r M1 => r = nI (S_g S (8 + 11 * i + s)) ∧ ck M1 o (so_g (so_save S) (ns_up (S_g S) (8 + 11 * i + s) q)) ∧ cr_fr M M1 o 249)) 3 18 :=
  (kX6_uneven l hl D cA X Bs o B S (nI i) (nI s) (nI q) M hb h hk).chg (by
    obtain ⟨a1, a2⟩ := op_cd_n hk hi
    have h7 := (hk.1.2.2.2.1 i hi).1.2
    unfold op_uneven
    rw [a2, nI_clamp (show s < 2 ^ 31 by omega), nI_clamp (show q < 2 ^ 31 by omega), if_pos ⟨a1, nI_cd2 (by omega) hs⟩, if_pos (show 1 ≤ nI q ∧ nI q ≤ 60 from ⟨nI_le (a := 1) hq.1 (by omega), nI_le (b := 60) hq.2 (by omega)⟩), if_pos ⟨h0, hf⟩])
theorem nq_renew (hl : l.stackTraces = false) (hb : cq_isClock X o) (h : ck M o S) (hk : as_ok S B) (i : Nat) (hi : i < S_g S 6) : cq_C l yX6_renew wsX6_renew rmX6_renew D cA X Bs [.ref o, .int (nI i)] M (cq_PI (fun r M1 => r = nI (ns_burned (S_g S) i) ∧ ck M1 o (so_g (so_save S) (ns_up (ns_up (ns_up (S_g S) (14 + 11 * i) 0) (15 + 11 * i) 0) (16 + 11 * i) 0)) ∧ cr_fr M M1 o 249)) 1 6 :=
  (kX6_renew l hl D cA X Bs o B S (nI i) M hb h hk).chg (by
    obtain ⟨a1, a2⟩ := op_cd_n hk hi
    unfold op_renew
    rw [if_pos a1, a2])
theorem nq_putOut (hl : l.stackTraces = false) (hb : cq_isClock X o) (h : ck M o S) (hk : as_ok S B) (i s : Nat) (x : Int32) (hx : x = ls_x s) (hi : i < S_g S 6) (hbit : ¬ ns_bit (S_g S (16 + 11 * i)) (ls_x s) = 0) : cq_C l yX6_putOut wsX6_putOut rmX6_putOut D cA X Bs [.ref o, .int (nI i), .int x] M (cq_PI (fun r M1 => r = nI (ns_flames (ns_put (S_g S) i (ls_x s)) (S_g S 6)) ∧ ck M1 o (so_g (so_save S) (ns_put (S_g S) i (ls_x s))) ∧ cr_fr M M1 o 249)) 2 12 :=
  (kX6_putOut l hl D cA X Bs o B S (nI i) x M hb h hk).chg (by
    obtain ⟨a1, a2⟩ := op_cd_n hk hi
    unfold op_putOut
    rw [hx, if_pos a1, a2, if_neg hbit])
theorem nq_light (hl : l.stackTraces = false) (hb : cq_isClock X o) (h : ck M o S) (hk : as_ok S B) (i s : Nat) (x : Int32) (hx : x = ls_x s) (hi : i < S_g S 6) (hc : ns_canLight (S_g S) i (ls_x s)) : cq_C l yX6_light wsX6_light rmX6_light D cA X Bs [.ref o, .int (nI i), .int x] M (cq_PI (fun r M1 => r = nI (ns_flames (ns_lightNow (S_g S) i (ls_x s)) (S_g S 6)) ∧ ck M1 o (so_g (so_save S) (ns_lightNow (S_g S) i (ls_x s))) ∧ cr_fr M M1 o 249)) 2 12 :=
  (kX6_light l hl D cA X Bs o B S (nI i) x M hb h hk).chg (by
    obtain ⟨a1, a2⟩ := op_cd_n hk hi
    unfold op_light
    rw [hx, if_pos a1, a2, if_pos hc])
theorem nq_rule (hl : l.stackTraces = false) (hb : cq_isClock X o) (h : ck M o S) (hk : as_ok S B) (i x y : Nat) (hi : i < S_g S 6) (hx : x < S_g S 6) (hne : x ≠ i) (hy : y ≤ 1) (h8 : S_g S 51 < 8) : cq_C l yX6_rule wsX6_rule rmX6_rule D cA X Bs [.ref o, .int (nI i), .int (nI x), .int (nI y)] M (cq_PI (fun r M1 => r = nI (S_g S 51) ∧ ck M1 o (so_g (so_save S) (ns_newRule (S_g S) i x y)) ∧ cr_fr M M1 o 249)) 3 18 :=
  (kX6_rule l hl D cA X Bs o B S (nI i) (nI x) y M hb h hk hy).chg (by
    obtain ⟨a1, a2⟩ := op_cd_n hk hi
    obtain ⟨b1, b2⟩ := op_cd_n hk hx
    have h6 := hk.1.1
    unfold op_rule
    rw [if_pos ⟨a1, b1⟩, if_neg (fun z => hne ((nI_eq (by omega) (by omega)).mp z).symm), if_pos h8, a2, b2, nI_yn hy])
theorem nq_run (hl : l.stackTraces = false) (hb : cq_isClock X o) (h : ck M o S) (hk : as_ok S B) (hB : B < 1999990000) (m : Nat) (hm : 1 ≤ m ∧ m ≤ 200) : cq_C l yX6_run wsX6_run rmX6_run D cA X Bs [.ref o, .int (nI m)] M (cq_PI (fun r M1 => r = nI (ns_sigsN (S_g S) m) ∧ ck M1 o (so_g (so_save S) (ns_steps (S_g S) m)) ∧ cr_fr M M1 o 249)) 1 6 :=
  (kX6_run l hl D cA X Bs o B S (nI m) M hb h hk hB).chg (by
    unfold op_run
    rw [if_pos (show 1 ≤ nI m ∧ nI m ≤ 200 from ⟨nI_le (a := 1) hm.1 (by omega), nI_le (b := 200) hm.2 (by omega)⟩), nI_clamp (by omega)])
theorem nq_drop (hb : cq_isClock X o) (h : ck M o S) (hk : as_ok S B) : cq_C l yX6_dropRules wsX6_dropRules rmX6_dropRules D cA X Bs [.ref o] M (cq_PI (fun r M1 => r = nI (S_g S 51) ∧ ck M1 o (so_g (so_save S) (ns_drop (S_g S))) ∧ cr_fr M M1 o 249)) 0 0 :=
  (kX6_dropRules l D cA X Bs o B S M hb h hk).impI (fun r M1 hp => ⟨hp.2.1, hp.2.2.1, hp.2.2.2⟩)
end NQ2
/-- what a call of the law leaves -/
def la_P (M1 : cq_M) (o ta ca ra na ba B : Nat) : Prop := ∃ S1 : as_T, ck M1 o S1 ∧ as_ok S1 (B + 200) ∧ lst M1 ta ca ra na ba (S_g S1 1) (S_g S1) ∧ 1 ≤ S_g S1 6
