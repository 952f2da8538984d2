/-! the law's plans: what its numbers hold, and the plans of the class -/
def rd (w : Int32) (j : Nat) : Int32 := (w >>> (nI (3 * j) &&& 31)) &&& 7
theorem rd_xor (x y : Int32) (j : Nat) : rd (x ^^^ y) j = rd x j ^^^ rd y j := by
  unfold rd
  apply Int32.toBitVec_inj.mp
  simp only [Int32.toBitVec_and, Int32.toBitVec_xor, Int32.toBitVec_shiftRight, BitVec.sshiftRight', BitVec.sshiftRight_xor_distrib]
  ext i
  simp [Bool.and_xor_distrib_right]
theorem rd_bit : ∀ j, j < 10 → ∀ j', j' < 10 → ∀ d, d < 8 → rd (nI d <<< (nI (3 * j) &&& 31)) j' = if j' = j then nI d else 0 := by decide +kernel
theorem rd_x8 : ∀ a, a < 8 → ∀ b, b < 8 → ∃ d, d < 8 ∧ nI a ^^^ nI b = nI d ∧ nI a ^^^ nI d = nI b := by decide +kernel
theorem i32_xor0 (x : Int32) : x ^^^ 0 = x := by
  apply Int32.toBitVec_inj.mp
  simp
theorem rd_0 : ∀ j, j < 10 → rd 0 j = 0 := by decide
/-- the fewest lightings, ten times in a number -/
def lk_w (M : cq_M) (fa ga i : Nat) : Int32 := if i < 55 then M fa i else M ga (i - 55)
def lk (M : cq_M) (fa ga : Nat) (F : Nat → Nat) : Prop := ∀ t, t < 1100 → F t ≤ 7 ∧ rd (lk_w M fa ga (t / 10)) (t % 10) = nI (F t)
theorem lk.upd {M M2 : cq_M} {fa ga t q : Nat} {F : Nat → Nat} (h : lk M fa ga F) (ht : t < 1100) (hq : q ≤ 7) (hw : ∀ i, i < 110 → lk_w M2 fa ga i = if i = t / 10 then lk_w M fa ga i ^^^ ((nI (F t) ^^^ nI q) <<< (nI (3 * (t % 10)) &&& 31)) else lk_w M fa ga i) : lk M2 fa ga (ns_up F t q) := by
  intro u hu
  obtain ⟨h1, h2⟩ := h u hu
  obtain ⟨f1, f2⟩ := h t ht
  rw [hw (u / 10) (by omega)]
  by_cases e : u / 10 = t / 10
  · rw [if_pos e, rd_xor]
    obtain ⟨d, d1, d2, d3⟩ := rd_x8 (F t) (by omega) q (by omega)
    rw [d2, rd_bit (t % 10) (by omega) (u % 10) (by omega) d d1]
    by_cases e2 : u % 10 = t % 10
    · have e3 : u = t := by omega
      subst e3
      rw [if_pos rfl, h2, d3, ns_up_s]
      exact ⟨hq, rfl⟩
    · rw [if_neg e2, i32_xor0, ns_up_n (by intro z; subst z; exact e2 rfl)]
      exact ⟨h1, h2⟩
  · rw [if_neg e, ns_up_n (by intro z; subst z; exact e rfl)]
    exact ⟨h1, h2⟩
theorem lk.same {M M2 : cq_M} {fa ga : Nat} {F : Nat → Nat} (h : lk M fa ga F) (h1 : M2 fa = M fa) (h2 : M2 ga = M ga) : lk M2 fa ga F := by
  intro u hu
  have := h u hu
  unfold lk_w at this ⊢
  rw [h1, h2]
  exact this
theorem lk.zero {M : cq_M} {fa ga : Nat} (h1 : cq_nv M fa 55 (fun _ => 0)) (h2 : cq_nv M ga 55 (fun _ => 0)) : lk M fa ga (fun _ => 0) := by
  intro u hu
  refine ⟨Nat.zero_le _, ?_⟩
  have e : lk_w M fa ga (u / 10) = 0 := by
    unfold lk_w
    split
    · rw [h1 _ (by omega)]; rfl
    · rw [h2 _ (by omega)]; rfl
  rw [e]
  exact rd_0 _ (by omega)
/-- the steps to the next signal, told by what they are -/
theorem pl_st_is {g : Nat → Nat} {a b c d : Nat} (hv : ∀ k, k < 3 → pl_f a b c k ≤ 2) (hd : 0 < d) (h1 : ∀ k, k < 3 → 0 < pl_f a b c k → (d - 1) * pl_f a b c k < g (1 + k)) (h2 : ∃ k, k < 3 ∧ 0 < pl_f a b c k ∧ g (1 + k) ≤ d * pl_f a b c k) : pl_st g a b c 3 = d := by
  have hl : ∀ k, k < 3 → (pl_f a b c k = 0 → pl_l g a b c k = 0) ∧ (0 < pl_f a b c k → d ≤ pl_l g a b c k ∧ (g (1 + k) ≤ d * pl_f a b c k → pl_l g a b c k = d)) := by
    intro k hk
    have v := hv k hk
    have z1 := h1 k hk
    unfold pl_l
    generalize pl_f a b c k = f at *
    have hf : f = 0 ∨ f = 1 ∨ f = 2 := by omega
    rcases hf with rfl | rfl | rfl
    · exact ⟨fun _ => if_pos rfl, fun z => absurd z (by omega)⟩
    · rw [if_neg (by omega)]
      have := z1 (by omega)
      simp only [Nat.div_one]
      exact ⟨fun z => absurd z (by omega), fun _ => ⟨by omega, fun _ => by omega⟩⟩
    · rw [if_neg (by omega)]
      have := z1 (by omega)
      exact ⟨fun z => absurd z (by omega), fun _ => ⟨by omega, fun _ => by omega⟩⟩
  have l0 := hl 0 (by omega)
  have l1 := hl 1 (by omega)
  have l2 := hl 2 (by omega)
  have e : pl_st g a b c 3 = pl_s (pl_s (pl_s 0 (pl_l g a b c 0)) (pl_l g a b c 1)) (pl_l g a b c 2) := rfl
  have hx : (0 < pl_f a b c 0 ∧ pl_l g a b c 0 = d) ∨ (0 < pl_f a b c 1 ∧ pl_l g a b c 1 = d) ∨ (0 < pl_f a b c 2 ∧ pl_l g a b c 2 = d) := by
    obtain ⟨k, k1, k2, k3⟩ := h2
    have h9 : k = 0 ∨ k = 1 ∨ k = 2 := by omega
    rcases h9 with rfl | rfl | rfl
    · exact Or.inl ⟨k2, (l0.2 k2).2 k3⟩
    · exact Or.inr (Or.inl ⟨k2, (l1.2 k2).2 k3⟩)
    · exact Or.inr (Or.inr ⟨k2, (l2.2 k2).2 k3⟩)
  rw [e]
  have y0 : pl_l g a b c 0 = 0 ∨ d ≤ pl_l g a b c 0 := by
    by_cases z : pl_f a b c 0 = 0
    · exact Or.inl (l0.1 z)
    · exact Or.inr (l0.2 (by omega)).1
  have y1 : pl_l g a b c 1 = 0 ∨ d ≤ pl_l g a b c 1 := by
    by_cases z : pl_f a b c 1 = 0
    · exact Or.inl (l1.1 z)
    · exact Or.inr (l1.2 (by omega)).1
  have y2 : pl_l g a b c 2 = 0 ∨ d ≤ pl_l g a b c 2 := by
    by_cases z : pl_f a b c 2 = 0
    · exact Or.inl (l2.1 z)
    · exact Or.inr (l2.2 (by omega)).1
  clear l0 l1 l2 e hl h1 h2
  generalize pl_l g a b c 0 = p at *
  generalize pl_l g a b c 1 = q at *
  generalize pl_l g a b c 2 = r at *
  have hx2 : p = d ∨ q = d ∨ r = d := by
    rcases hx with z | z | z
    · exact Or.inl z.2
    · exact Or.inr (Or.inl z.2)
    · exact Or.inr (Or.inr z.2)
  clear hx
  unfold pl_s
  split <;> split <;> split <;> omega
/-- what a choice of lightings m does to a state: how many flames each cord has, whether any, the state behind the signal -/
def lp_a (g m : Nat → Nat) (k : Nat) : Nat := if 0 < g (1 + k) then g (4 + k) + m k else 0
def lp_s (g m : Nat → Nat) : Nat := lp_a g m 0 + lp_a g m 1 + lp_a g m 2
def lp_nx (g m : Nat → Nat) : Nat → Nat := if lp_s g m = 0 then g else pl_nx g (lp_a g m 0) (lp_a g m 1) (lp_a g m 2)
def lp_no (F g m : Nat → Nat) : Nat → Nat := if lp_s g m = 0 then F else pl_note F (lp_nx g m)
def lp_g (m : Nat → Nat → Nat) (g : Nat → Nat) : Nat → (Nat → Nat)
  | 0 => g
  | n + 1 => lp_nx (lp_g m g n) (m n)
def lp_F (m : Nat → Nat → Nat) (F g : Nat → Nat) : Nat → (Nat → Nat)
  | 0 => F
  | n + 1 => lp_no (lp_F m F g n) (lp_g m g n) (m n)
/-- how many flames of the cord k were lit at the first n signals -/
def lp_u (m : Nat → Nat → Nat) (k : Nat) : Nat → Nat
  | 0 => 0
  | n + 1 => lp_u m k n + m n k
theorem lp_f {g m : Nat → Nat} {k : Nat} (hk : k < 3) : pl_f (lp_a g m 0) (lp_a g m 1) (lp_a g m 2) k = lp_a g m k := by
  have h9 : k = 0 ∨ k = 1 ∨ k = 2 := by omega
  rcases h9 with rfl | rfl | rfl <;> rfl
theorem pl_st_0 {g : Nat → Nat} {a b c : Nat} (z : pl_st g a b c 3 = 0) : pl_l g a b c 0 = 0 ∧ pl_l g a b c 1 = 0 ∧ pl_l g a b c 2 = 0 := by
  have s1 : ∀ st x, pl_s st x = 0 → st = 0 ∧ x = 0 := fun st x hs => by
    unfold pl_s at hs
    split at hs <;> omega
  have z3 : pl_st g a b c 2 = 0 ∧ pl_l g a b c 2 = 0 := s1 _ _ z
  have z2 : pl_st g a b c 1 = 0 ∧ pl_l g a b c 1 = 0 := s1 _ _ z3.1
  have z1 : pl_st g a b c 0 = 0 ∧ pl_l g a b c 0 = 0 := s1 _ _ z2.1
  exact ⟨z1.2, z2.2, z3.2⟩
/-- what stands at each signal -/
theorem lp_ok {m : Nat → Nat → Nat} {g : Nat → Nat} (hb : pl_beg g) (hm : ∀ k, k < 3 → ∀ n, n ≤ 3 → lp_u m k n ≤ 2) : ∀ n, n ≤ 3 → pl_ok (lp_g m g n) (360 * n) ∧ (∀ k, k < 3 → lp_g m g n (4 + k) ≤ lp_u m k n) ∧ (∀ k, k < 3 → 0 < lp_g m g n (1 + k) → lp_g m g n (4 + k) = lp_u m k n → True)
  | 0, _ => ⟨hb.ok, fun k hk => by rw [show lp_g m g 0 = g from rfl, (hb.2.2 k hk).2]; exact Nat.zero_le _, fun _ _ _ _ => trivial⟩
  | n + 1, hn => by
    obtain ⟨i1, i2, -⟩ := lp_ok hb hm n (by omega)
    have ha : ∀ k, k < 3 → lp_a (lp_g m g n) (m n) k ≤ lp_u m k (n + 1) := fun k hk => by
      have := i2 k hk
      unfold lp_a
      show _ ≤ lp_u m k n + m n k
      split <;> omega
    have hv : pl_v (lp_g m g n) (lp_a (lp_g m g n) (m n) 0) (lp_a (lp_g m g n) (m n) 1) (lp_a (lp_g m g n) (m n) 2) := fun k hk => by
      rw [lp_f hk]
      refine ⟨?_, Nat.le_trans (ha k hk) (hm k hk (n + 1) hn), fun z => ?_⟩
      · unfold lp_a
        have := (i1.2.1 k hk).2.2
        split <;> omega
      · unfold lp_a
        exact if_neg (by omega)
    show pl_ok (lp_nx (lp_g m g n) (m n)) _ ∧ (∀ k, k < 3 → lp_nx (lp_g m g n) (m n) (4 + k) ≤ _) ∧ _
    unfold lp_nx
    by_cases e : lp_s (lp_g m g n) (m n) = 0
    · rw [if_pos e]
      refine ⟨⟨by have := i1.1; omega, i1.2.1, by have := i1.2.2.1; omega, i1.2.2.2⟩, fun k hk => Nat.le_trans (i2 k hk) (Nat.le_add_right _ _), fun _ _ _ _ => trivial⟩
    · rw [if_neg e]
      have hst : pl_st (lp_g m g n) (lp_a (lp_g m g n) (m n) 0) (lp_a (lp_g m g n) (m n) 1) (lp_a (lp_g m g n) (m n) 2) 3 ≠ 0 := by
        intro z
        have key : ∀ k, k < 3 → 0 < lp_a (lp_g m g n) (m n) k → 0 < pl_l (lp_g m g n) (lp_a (lp_g m g n) (m n) 0) (lp_a (lp_g m g n) (m n) 1) (lp_a (lp_g m g n) (m n) 2) k := by
          intro k hk hp
          have hR : 0 < lp_g m g n (1 + k) := by
            unfold lp_a at hp
            split at hp
            · assumption
            · omega
          unfold pl_l
          rw [lp_f hk, if_neg (by omega)]
          exact Nat.div_pos (by omega) hp
        obtain ⟨z0, z1, z2⟩ := pl_st_0 z
        have k0 := key 0 (by omega)
        have k1 := key 1 (by omega)
        have k2 := key 2 (by omega)
        unfold lp_s at e
        omega
      refine ⟨?_, fun k hk => ?_, fun _ _ _ _ => trivial⟩
      · have := pl_nx_ok i1 hv hst
        rw [show 360 * (n + 1) = 360 * n + 360 by omega]
        exact this
      · rw [pl_nx_f hk, lp_f hk]
        split
        · exact ha k hk
        · exact Nat.zero_le _
theorem lp_v {m : Nat → Nat → Nat} {g : Nat → Nat} (hb : pl_beg g) (hm : ∀ k, k < 3 → ∀ n, n ≤ 3 → lp_u m k n ≤ 2) {n : Nat} (hn : n < 3) : pl_v (lp_g m g n) (lp_a (lp_g m g n) (m n) 0) (lp_a (lp_g m g n) (m n) 1) (lp_a (lp_g m g n) (m n) 2) ∧ (lp_s (lp_g m g n) (m n) ≠ 0 → pl_st (lp_g m g n) (lp_a (lp_g m g n) (m n) 0) (lp_a (lp_g m g n) (m n) 1) (lp_a (lp_g m g n) (m n) 2) 3 ≠ 0) := by
  obtain ⟨i1, i2, -⟩ := lp_ok hb hm n (by omega)
  have ha : ∀ k, k < 3 → lp_a (lp_g m g n) (m n) k ≤ lp_u m k (n + 1) := fun k hk => by
    have := i2 k hk
    unfold lp_a
    show _ ≤ lp_u m k n + m n k
    split <;> omega
  refine ⟨fun k hk => ?_, fun e z => ?_⟩
  · rw [lp_f hk]
    refine ⟨?_, Nat.le_trans (ha k hk) (hm k hk (n + 1) (by omega)), fun z => ?_⟩
    · unfold lp_a
      have := (i1.2.1 k hk).2.2
      split <;> omega
    · unfold lp_a
      exact if_neg (by omega)
  · have key : ∀ k, k < 3 → 0 < lp_a (lp_g m g n) (m n) k → 0 < pl_l (lp_g m g n) (lp_a (lp_g m g n) (m n) 0) (lp_a (lp_g m g n) (m n) 1) (lp_a (lp_g m g n) (m n) 2) k := by
      intro k hk hp
      have hR : 0 < lp_g m g n (1 + k) := by
        unfold lp_a at hp
        split at hp
        · assumption
        · omega
      unfold pl_l
      rw [lp_f hk, if_neg (by omega)]
      exact Nat.div_pos (by omega) hp
    obtain ⟨z0, z1, z2⟩ := pl_st_0 z
    have k0 := key 0 (by omega)
    have k1 := key 1 (by omega)
    have k2 := key 2 (by omega)
    unfold lp_s at e
    omega
/-- behind how many signals the class's plans reach a state -/
def pl_lv (g0 : Nat → Nat) : Nat → (Nat → Nat) → Prop
  | 0, g => g = g0
  | n + 1, g => ∃ g1, pl_lv g0 n g1 ∧ g ∈ pl_all g1
theorem pl_lv_mem {g0 g : Nat → Nat} : g ∈ pl_1 g0 ++ (pl_2 g0 ++ pl_3 g0) ↔ pl_lv g0 1 g ∨ pl_lv g0 2 g ∨ pl_lv g0 3 g := by
  have e1 : ∀ x, x ∈ pl_1 g0 ↔ pl_lv g0 1 x := fun x => ⟨fun h => ⟨g0, rfl, h⟩, fun ⟨g1, h1, h2⟩ => by
    have h1 : g1 = g0 := h1
    rw [h1] at h2; exact h2⟩
  have e2 : ∀ x, x ∈ pl_2 g0 ↔ pl_lv g0 2 x := fun x => by
    unfold pl_2
    rw [List.mem_flatMap]
    exact ⟨fun ⟨a, h1, h2⟩ => ⟨a, (e1 a).mp h1, h2⟩, fun ⟨a, h1, h2⟩ => ⟨a, (e1 a).mpr h1, h2⟩⟩
  have e3 : ∀ x, x ∈ pl_3 g0 ↔ pl_lv g0 3 x := fun x => by
    unfold pl_3
    rw [List.mem_flatMap]
    exact ⟨fun ⟨a, h1, h2⟩ => ⟨a, (e2 a).mp h1, h2⟩, fun ⟨a, h1, h2⟩ => ⟨a, (e2 a).mpr h1, h2⟩⟩
  rw [List.mem_append, List.mem_append, e1, e2, e3]
theorem pl_c_in {g : Nat → Nat} {a b i : Nat} {x : Nat → Nat} (h : x ∈ pl_go g a b (g 6 + i)) : ∀ n, i < n → x ∈ pl_c g a b n
  | 0, hi => absurd hi (by omega)
  | n + 1, hi => by
    by_cases e : i = n
    · subst e; exact List.mem_append_right _ h
    · exact List.mem_append_left _ (pl_c_in h n (by omega))
theorem pl_b_in {g : Nat → Nat} {a i : Nat} {x : Nat → Nat} (h : x ∈ pl_c g a (g 5 + i) (pl_n g 2)) : ∀ n, i < n → x ∈ pl_b g a n
  | 0, hi => absurd hi (by omega)
  | n + 1, hi => by
    by_cases e : i = n
    · subst e; exact List.mem_append_right _ h
    · exact List.mem_append_left _ (pl_b_in h n (by omega))
theorem pl_a_in {g : Nat → Nat} {i : Nat} {x : Nat → Nat} (h : x ∈ pl_b g (g 4 + i) (pl_n g 1)) : ∀ n, i < n → x ∈ pl_a g n
  | 0, hi => absurd hi (by omega)
  | n + 1, hi => by
    by_cases e : i = n
    · subst e; exact List.mem_append_right _ h
    · exact List.mem_append_left _ (pl_a_in h n (by omega))
theorem pl_all_in {g : Nat → Nat} {a b c : Nat} (hv : pl_v g a b c) (hs : pl_st g a b c 3 ≠ 0) : pl_nx g a b c ∈ pl_all g := by
  obtain ⟨a1, a2, a3⟩ := hv 0 (by omega)
  obtain ⟨b1, b2, b3⟩ := hv 1 (by omega)
  obtain ⟨c1, c2, c3⟩ := hv 2 (by omega)
  have a1 : g 4 ≤ a := a1
  have b1 : g 5 ≤ b := b1
  have c1 : g 6 ≤ c := c1
  have a2 : a ≤ 2 := a2
  have b2 : b ≤ 2 := b2
  have c2 : c ≤ 2 := c2
  have a3 : g 1 = 0 → a = 0 := a3
  have b3 : g 2 = 0 → b = 0 := b3
  have c3 : g 3 = 0 → c = 0 := c3
  have n0 : a - g 4 < pl_n g 0 := by
    show a - g 4 < (if 0 < g 1 then 3 else 1) - g 4
    split <;> omega
  have n1 : b - g 5 < pl_n g 1 := by
    show b - g 5 < (if 0 < g 2 then 3 else 1) - g 5
    split <;> omega
  have n2 : c - g 6 < pl_n g 2 := by
    show c - g 6 < (if 0 < g 3 then 3 else 1) - g 6
    split <;> omega
  refine pl_a_in (i := a - g 4) (pl_b_in (i := b - g 5) (pl_c_in (i := c - g 6) ?_ _ n2) _ n1) _ n0
  rw [show g 4 + (a - g 4) = a by omega, show g 5 + (b - g 5) = b by omega, show g 6 + (c - g 6) = c by omega]
  unfold pl_go
  rw [if_neg hs]
  exact List.mem_singleton.mpr rfl
