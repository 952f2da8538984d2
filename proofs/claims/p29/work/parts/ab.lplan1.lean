/-! the law's plans tell what the class's plans tell -/
theorem lp_g_lv {m : Nat → Nat → Nat} {g : Nat → Nat} (hb : pl_beg g) (hm : ∀ k, k < 3 → ∀ n, n ≤ 3 → lp_u m k n ≤ 2) : ∀ n, n ≤ 3 → ∃ j, j ≤ n ∧ pl_lv g j (lp_g m g n)
  | 0, _ => ⟨0, Nat.le_refl _, rfl⟩
  | n + 1, hn => by
    obtain ⟨j, hj, h⟩ := lp_g_lv hb hm n (by omega)
    obtain ⟨hv, hs⟩ := lp_v hb hm (show n < 3 by omega)
    show ∃ j, j ≤ n + 1 ∧ pl_lv g j (lp_nx (lp_g m g n) (m n))
    unfold lp_nx
    by_cases e : lp_s (lp_g m g n) (m n) = 0
    · rw [if_pos e]
      exact ⟨j, by omega, h⟩
    · rw [if_neg e]
      exact ⟨j + 1, by omega, _, h, pl_all_in hv (hs e)⟩
theorem lp_told {m : Nat → Nat → Nat} {g : Nat → Nat} (hb : pl_beg g) (hm : ∀ k, k < 3 → ∀ n, n ≤ 3 → lp_u m k n ≤ 2) {n : Nat} (hn : n < 3) (e : lp_s (lp_g m g n) (m n) ≠ 0) : lp_g m g (n + 1) ∈ pl_1 g ++ (pl_2 g ++ pl_3 g) := by
  obtain ⟨j, hj, h⟩ := lp_g_lv hb hm n (by omega)
  obtain ⟨hv, hs⟩ := lp_v hb hm hn
  have h1 : pl_lv g (j + 1) (lp_g m g (n + 1)) := by
    refine ⟨_, h, ?_⟩
    show lp_nx (lp_g m g n) (m n) ∈ _
    unfold lp_nx
    rw [if_neg e]
    exact pl_all_in hv (hs e)
  rw [pl_lv_mem]
  have h9 : j = 0 ∨ j = 1 ∨ j = 2 := by omega
  rcases h9 with rfl | rfl | rfl
  · exact Or.inl h1
  · exact Or.inr (Or.inl h1)
  · exact Or.inr (Or.inr h1)
def lp_P (m : Nat → Nat → Nat) (g : Nat → Nat) (n t x : Nat) : Prop := ∃ s, s < n ∧ lp_s (lp_g m g s) (m s) ≠ 0 ∧ lp_g m g (s + 1) 0 = t ∧ lp_g m g (s + 1) 7 = x
theorem lp_F_P {m : Nat → Nat → Nat} {F g : Nat → Nat} {P : Nat → Nat → Prop} (hb : pl_beg g) (hm : ∀ k, k < 3 → ∀ n, n ≤ 3 → lp_u m k n ≤ 2) (hF : pl_P F P) : ∀ n, n ≤ 3 → pl_P (lp_F m F g n) (fun t x => P t x ∨ lp_P m g n t x)
  | 0, _ => hF.ext (fun t x => ⟨fun h => Or.inl h, fun h => h.elim id (fun ⟨s, hs, _⟩ => absurd hs (by omega))⟩)
  | n + 1, hn => by
    have ih := lp_F_P hb hm hF n (by omega)
    show pl_P (lp_no (lp_F m F g n) (lp_g m g n) (m n)) _
    unfold lp_no
    by_cases e : lp_s (lp_g m g n) (m n) = 0
    · rw [if_pos e]
      refine ih.ext (fun t x => ⟨fun h => h.elim Or.inl (fun ⟨s, h1, h2⟩ => Or.inr ⟨s, by omega, h2⟩), fun h => h.elim Or.inl (fun ⟨s, h1, h2⟩ => ?_)⟩)
      by_cases z : s = n
      · subst z; exact absurd e h2.1
      · exact Or.inr ⟨s, by omega, h2⟩
    · rw [if_neg e]
      have hl := (pl_lits hb _ (lp_told hb hm (show n < 3 by omega) e)).1
      refine (ih.note (g := lp_nx (lp_g m g n) (m n)) hl).ext (fun t x => ?_)
      constructor
      · rintro ((h | ⟨s, h1, h2⟩) | h)
        · exact Or.inl h
        · exact Or.inr ⟨s, by omega, h2⟩
        · exact Or.inr ⟨n, by omega, e, h⟩
      · rintro (h | ⟨s, h1, h2, h3⟩)
        · exact Or.inl (Or.inl h)
        · by_cases z : s = n
          · subst z; exact Or.inr h3
          · exact Or.inl (Or.inr ⟨s, by omega, h2, h3⟩)
theorem lp_a_ext {g m m' : Nat → Nat} {k : Nat} (h : m k = m' k) : lp_a g m k = lp_a g m' k := by unfold lp_a; rw [h]
theorem lp_g_ext {m m' : Nat → Nat → Nat} {g : Nat → Nat} : ∀ n, (∀ s, s < n → ∀ k, k < 3 → m s k = m' s k) → lp_g m g n = lp_g m' g n
  | 0, _ => rfl
  | n + 1, h => by
    show lp_nx (lp_g m g n) (m n) = lp_nx (lp_g m' g n) (m' n)
    rw [lp_g_ext n (fun s hs => h s (by omega))]
    unfold lp_nx lp_s
    rw [lp_a_ext (h n (by omega) 0 (by omega)), lp_a_ext (h n (by omega) 1 (by omega)), lp_a_ext (h n (by omega) 2 (by omega))]
theorem lp_s_ext {g m m' : Nat → Nat} (h : ∀ k, k < 3 → m k = m' k) : lp_s g m = lp_s g m' := by
  unfold lp_s
  rw [lp_a_ext (h 0 (by omega)), lp_a_ext (h 1 (by omega)), lp_a_ext (h 2 (by omega))]
theorem lp_u_ext {m m' : Nat → Nat → Nat} {k : Nat} : ∀ n, (∀ s, s < n → m s k = m' s k) → lp_u m k n = lp_u m' k n
  | 0, _ => rfl
  | n + 1, h => by
    show lp_u m k n + m n k = lp_u m' k n + m' n k
    rw [lp_u_ext n (fun s hs => h s (by omega)), h n (by omega)]
theorem pl_lv_ok {g0 : Nat → Nat} (hb : pl_beg g0) : ∀ n g, pl_lv g0 n g → pl_ok g (360 * n)
  | 0, g, h => by
    have h : g = g0 := h
    rw [h]; exact hb.ok
  | n + 1, g, ⟨g1, h1, h2⟩ => by
    have := (pl_all_ok (pl_lv_ok hb n g1 h1) h2).1
    rw [show 360 * (n + 1) = 360 * n + 360 by omega]
    exact this
/-- lightings for each state that the class's plans reach -/
theorem lp_from {g0 : Nat → Nat} (hb : pl_beg g0) : ∀ n g, pl_lv g0 n g → ∃ m : Nat → Nat → Nat, (∀ k, k < 3 → lp_u m k n ≤ 2 ∧ (0 < g (1 + k) → lp_u m k n = g (4 + k))) ∧ lp_g m g0 n = g ∧ (0 < n → lp_s (lp_g m g0 (n - 1)) (m (n - 1)) ≠ 0)
  | 0, g, h => by
    have h : g = g0 := h
    subst h
    exact ⟨fun _ _ => 0, fun k hk => ⟨Nat.zero_le _, fun _ => ((hb.2.2 k hk).2).symm⟩, rfl, fun z => absurd z (by omega)⟩
  | n + 1, g, ⟨g1, h1, h2⟩ => by
    obtain ⟨m, i1, i2, -⟩ := lp_from hb n g1 h1
    obtain ⟨a, b, c, hv, hs, rfl⟩ := pl_all_mem (pl_lv_ok hb n g1 h1) h2
    obtain ⟨m', hm'⟩ : ∃ m' : Nat → Nat → Nat, m' = fun s k => if s = n then pl_f a b c k - g1 (4 + k) else m s k := ⟨_, rfl⟩
    have en : ∀ k, m' n k = pl_f a b c k - g1 (4 + k) := fun k => by rw [hm']; exact if_pos rfl
    have el : ∀ s, s < n → ∀ k, m' s k = m s k := fun s hs k => by rw [hm']; exact if_neg (by omega)
    have ha : ∀ k, k < 3 → lp_a g1 (m' n) k = pl_f a b c k := fun k hk => by
      obtain ⟨v1, v2, v3⟩ := hv k hk
      unfold lp_a
      rw [en]
      split <;> omega
    have hg : lp_g m' g0 n = g1 := by rw [lp_g_ext n (fun s hs k _ => el s hs k)]; exact i2
    have hu : ∀ k, lp_u m' k n = lp_u m k n := fun k => lp_u_ext n (fun s hs => el s hs k)
    have e0 : lp_a g1 (m' n) 0 = a := ha 0 (by omega)
    have e1 : lp_a g1 (m' n) 1 = b := ha 1 (by omega)
    have e2 : lp_a g1 (m' n) 2 = c := ha 2 (by omega)
    have hne : lp_s g1 (m' n) ≠ 0 := by
      unfold lp_s
      rw [e0, e1, e2]
      intro z
      have z0 : a = 0 := by omega
      have z1 : b = 0 := by omega
      have z2 : c = 0 := by omega
      subst z0 z1 z2
      have q := pl_go_0 (g := g1)
      unfold pl_go at q
      rw [if_neg hs] at q
      exact absurd q (by simp)
    refine ⟨m', fun k hk => ?_, ?_, fun _ => ?_⟩
    · obtain ⟨j1, j2⟩ := i1 k hk
      obtain ⟨v1, v2, v3⟩ := hv k hk
      have eu : lp_u m' k (n + 1) = lp_u m k n + (pl_f a b c k - g1 (4 + k)) := by
        show lp_u m' k n + m' n k = _
        rw [hu, en]
      rw [eu]
      refine ⟨?_, fun z => ?_⟩
      · by_cases r : 0 < g1 (1 + k)
        · rw [j2 r]; omega
        · rw [v3 (by omega)]; omega
      · rw [pl_nx_r hk] at z
        have r : 0 < g1 (1 + k) := by unfold pl_r at z; omega
        rw [pl_nx_f hk, if_pos z, j2 r]
        omega
    · show lp_nx (lp_g m' g0 n) (m' n) = _
      rw [hg]
      unfold lp_nx
      rw [if_neg hne, e0, e1, e2]
    · rw [Nat.add_sub_cancel, hg]
      exact hne
/-- how often the code lights an end of the cord k at the signal s -/
def lc (code s k : Nat) : Nat := (if code / 2 ^ (4 * k) % 4 = s then 1 else 0) + (if code / 2 ^ (4 * k + 2) % 4 = s then 1 else 0)
def lc_ok (code : Nat) : Prop := code % 4 ≤ code / 4 % 4 ∧ code / 16 % 4 ≤ code / 64 % 4 ∧ code / 256 % 4 ≤ code / 1024 % 4
theorem lc_u {code k : Nat} : ∀ n, n ≤ 3 → lp_u (lc code) k n ≤ 2 := by
  intro n hn
  have h9 : n = 0 ∨ n = 1 ∨ n = 2 ∨ n = 3 := by omega
  rcases h9 with rfl | rfl | rfl | rfl <;> simp only [lp_u, lc] <;> generalize code / 2 ^ (4 * k) % 4 = p <;> generalize code / 2 ^ (4 * k + 2) % 4 = q
  · omega
  · split <;> split <;> omega
  · split <;> split <;> split <;> split <;> omega
  · split <;> split <;> split <;> split <;> split <;> split <;> omega
def lc_n (x y z : Nat) : Nat := (if 0 < x then 0 else if 0 < y then 1 else if 0 < z then 2 else 3) + 4 * (if 2 ≤ x then 0 else if 2 ≤ x + y then 1 else if 2 ≤ x + y + z then 2 else 3)
theorem lc_nib2 (x : Nat) (hx : x < 3) (y : Nat) (hy : y < 3) (z : Nat) (hz : z < 3) (h : x + y + z ≤ 2) : lc_n x y z < 16 ∧ lc_n x y z % 4 ≤ lc_n x y z / 4 % 4 ∧ ((if lc_n x y z % 4 = 0 then 1 else 0) + (if lc_n x y z / 4 % 4 = 0 then 1 else 0) = x) ∧ ((if lc_n x y z % 4 = 1 then 1 else 0) + (if lc_n x y z / 4 % 4 = 1 then 1 else 0) = y) ∧ ((if lc_n x y z % 4 = 2 then 1 else 0) + (if lc_n x y z / 4 % 4 = 2 then 1 else 0) = z) := by
  have x9 : x = 0 ∨ x = 1 ∨ x = 2 := by omega
  have y9 : y = 0 ∨ y = 1 ∨ y = 2 := by omega
  have z9 : z = 0 ∨ z = 1 ∨ z = 2 := by omega
  rcases x9 with rfl | rfl | rfl <;> rcases y9 with rfl | rfl | rfl <;> rcases z9 with rfl | rfl | rfl <;> first | (exfalso; omega) | exact ⟨by decide, by decide, by decide, by decide, by decide⟩
theorem lc_nib (x : Nat) (hx : x < 3) (y : Nat) (hy : y < 3) (z : Nat) (hz : z < 3) (h : x + y + z ≤ 2) : ∃ n, n < 16 ∧ n % 4 ≤ n / 4 % 4 ∧ ((if n % 4 = 0 then 1 else 0) + (if n / 4 % 4 = 0 then 1 else 0) = x) ∧ ((if n % 4 = 1 then 1 else 0) + (if n / 4 % 4 = 1 then 1 else 0) = y) ∧ ((if n % 4 = 2 then 1 else 0) + (if n / 4 % 4 = 2 then 1 else 0) = z) := ⟨lc_n x y z, lc_nib2 x hx y hy z hz h⟩
theorem lc_of {m : Nat → Nat → Nat} (hm : ∀ k, k < 3 → lp_u m k 3 ≤ 2) : ∃ code, code < 4096 ∧ lc_ok code ∧ ∀ s, s < 3 → ∀ k, k < 3 → lc code s k = m s k := by
  have hs : ∀ k, k < 3 → m 0 k + m 1 k + m 2 k ≤ 2 := fun k hk => by
    have := hm k hk
    simp only [lp_u] at this
    omega
  have q0 := hs 0 (by omega)
  have q1 := hs 1 (by omega)
  have q2 := hs 2 (by omega)
  obtain ⟨a, a1, a2, a3, a4, a5⟩ := lc_nib (m 0 0) (by omega) (m 1 0) (by omega) (m 2 0) (by omega) q0
  obtain ⟨b, b1, b2, b3, b4, b5⟩ := lc_nib (m 0 1) (by omega) (m 1 1) (by omega) (m 2 1) (by omega) q1
  obtain ⟨c, c1, c2, c3, c4, c5⟩ := lc_nib (m 0 2) (by omega) (m 1 2) (by omega) (m 2 2) (by omega) q2
  have ea1 : (a + 16 * b + 256 * c) % 4 = a % 4 := by omega
  have ea2 : (a + 16 * b + 256 * c) / 4 % 4 = a / 4 % 4 := by omega
  have eb1 : (a + 16 * b + 256 * c) / 16 % 4 = b % 4 := by omega
  have eb2 : (a + 16 * b + 256 * c) / 64 % 4 = b / 4 % 4 := by omega
  have ec1 : (a + 16 * b + 256 * c) / 256 % 4 = c % 4 := by omega
  have ec2 : (a + 16 * b + 256 * c) / 1024 % 4 = c / 4 % 4 := by omega
  refine ⟨a + 16 * b + 256 * c, by omega, ⟨by omega, by omega, by omega⟩, fun s hs9 k hk => ?_⟩
  have k9 : k = 0 ∨ k = 1 ∨ k = 2 := by omega
  have s9 : s = 0 ∨ s = 1 ∨ s = 2 := by omega
  unfold lc
  rcases k9 with rfl | rfl | rfl
  · rw [show 2 ^ (4 * 0) = 1 from rfl, show 2 ^ (4 * 0 + 2) = 4 from rfl, Nat.div_one, ea1, ea2]
    rcases s9 with rfl | rfl | rfl
    · exact a3
    · exact a4
    · exact a5
  · rw [show 2 ^ (4 * 1) = 16 from rfl, show 2 ^ (4 * 1 + 2) = 64 from rfl, eb1, eb2]
    rcases s9 with rfl | rfl | rfl
    · exact b3
    · exact b4
    · exact b5
  · rw [show 2 ^ (4 * 2) = 256 from rfl, show 2 ^ (4 * 2 + 2) = 1024 from rfl, ec1, ec2]
    rcases s9 with rfl | rfl | rfl
    · exact c3
    · exact c4
    · exact c5
/-- all codes tell what the class's plans tell -/
theorem lp_all {g0 : Nat → Nat} (hb : pl_beg g0) (t x : Nat) : (∃ code, code < 4096 ∧ lc_ok code ∧ lp_P (lc code) g0 3 t x) ↔ ∃ g ∈ pl_1 g0 ++ (pl_2 g0 ++ pl_3 g0), g 0 = t ∧ g 7 = x := by
  constructor
  · rintro ⟨code, -, -, s, h1, h2, h3⟩
    exact ⟨_, lp_told hb (fun k _ n hn => lc_u n hn) h1 h2, h3⟩
  · rintro ⟨g, hg, h3⟩
    rw [pl_lv_mem] at hg
    have hn : ∃ n, n < 3 ∧ pl_lv g0 (n + 1) g := by
      rcases hg with h | h | h
      · exact ⟨0, by omega, h⟩
      · exact ⟨1, by omega, h⟩
      · exact ⟨2, by omega, h⟩
    obtain ⟨n, hn3, hlv⟩ := hn
    obtain ⟨m, i1, i2, i4⟩ := lp_from hb (n + 1) g hlv
    have i4 := i4 (by omega)
    rw [Nat.add_sub_cancel] at i4
    obtain ⟨m', hm'⟩ : ∃ m' : Nat → Nat → Nat, m' = fun s k => if s < n + 1 then m s k else 0 := ⟨_, rfl⟩
    have el : ∀ s, s < n + 1 → ∀ k, m' s k = m s k := fun s hs k => by rw [hm']; exact if_pos hs
    have eg : ∀ s, ¬ s < n + 1 → ∀ k, m' s k = 0 := fun s hs k => by rw [hm']; exact if_neg hs
    have hu : ∀ k, k < 3 → lp_u m' k 3 ≤ 2 := fun k hk => by
      have h1 := (i1 k hk).1
      rw [← lp_u_ext (m := m') (n + 1) (fun s hs => el s hs k)] at h1
      have h9 : n = 0 ∨ n = 1 ∨ n = 2 := by omega
      rcases h9 with rfl | rfl | rfl
      · simp only [lp_u] at h1 ⊢
        rw [eg 1 (by omega), eg 2 (by omega)]
        omega
      · simp only [lp_u] at h1 ⊢
        rw [eg 2 (by omega)]
        omega
      · exact h1
    obtain ⟨code, c1, c2, c3⟩ := lc_of hu
    have hx : ∀ s, s ≤ n + 1 → lp_g (lc code) g0 s = lp_g m g0 s := fun s hs => lp_g_ext s (fun s2 h2 k hk => by rw [c3 s2 (by omega) k hk, el s2 (by omega)])
    refine ⟨code, c1, c2, n, hn3, ?_, ?_⟩
    · rw [hx n (by omega), lp_s_ext (fun k hk => (c3 n hn3 k hk).trans (el n (by omega) k))]
      exact i4
    · rw [hx (n + 1) (Nat.le_refl _), i2]
      exact h3
theorem pl_F_P {g0 : Nat → Nat} (hb : pl_beg g0) : pl_P (pl_F g0) (fun t x => ∃ g ∈ pl_1 g0 ++ (pl_2 g0 ++ pl_3 g0), g 0 = t ∧ g 7 = x) := by
  have h0 : pl_P (fun _ => 0) (fun _ _ => False) := fun t => Or.inl ⟨rfl, fun _ hx => hx⟩
  exact (h0.fold (fun g hg => (pl_lits hb g hg).1)).ext (fun t x => ⟨fun h => h.elim False.elim id, fun h => Or.inr h⟩)
/-- the law's numbers behind all codes -/
theorem lp_end {g0 F : Nat → Nat} (hb : pl_beg g0) (hF : pl_P F (fun t x => ∃ code, code < 4096 ∧ lc_ok code ∧ lp_P (lc code) g0 3 t x)) : F = pl_F g0 := (hF.ext (fun t x => lp_all hb t x)).uniq (pl_F_P hb)
theorem pl_cnt_mono {F : Nat → Nat} {a : Nat} : ∀ {b : Nat}, a ≤ b → pl_cnt F a ≤ pl_cnt F b
  | 0, h => by rw [show a = 0 by omega]; exact Nat.le_refl _
  | b + 1, h => by
    by_cases e : a = b + 1
    · rw [e]; exact Nat.le_refl _
    · exact Nat.le_trans (pl_cnt_mono (show a ≤ b by omega)) (Nat.le_add_right _ _)
theorem pl_cnt_le {F : Nat → Nat} : ∀ n, pl_cnt F n ≤ n
  | 0 => Nat.le_refl _
  | n + 1 => by
    have := pl_cnt_le (F := F) n
    show pl_cnt F n + (if F (n + 1) = 0 then 0 else 1) ≤ n + 1
    split <;> omega
theorem pl_cnt_s {F : Nat → Nat} {t : Nat} (ht : 1 ≤ t) : pl_cnt F t = pl_cnt F (t - 1) + (if F t = 0 then 0 else 1) := by
  obtain ⟨u, rfl⟩ : ∃ u, t = u + 1 := ⟨t - 1, by omega⟩
  rfl
/-- the time of a rank -/
theorem pl_rank_at {Y : Nat → Nat} {T told : Nat} (hT : Y T ≠ 0) (hb : told < 100000) : ∀ (f t m : Nat), 1 ≤ t → t ≤ T → T < t + f → m + pl_cnt Y (T - 1) = told + pl_cnt Y (t - 1) → pl_rank Y (nI told) f t m = nI T
  | 0, t, m, h1, h2, h3, _ => by omega
  | f + 1, t, m, h1, h2, h3, h4 => by
    show (if Y t = 0 then pl_rank Y (nI told) f (t + 1) m else if nI m = nI told then nI t else pl_rank Y (nI told) f (t + 1) (m + 1)) = nI T
    have hs := pl_cnt_s (F := Y) h1
    by_cases e : Y t = 0
    · rw [if_pos e]
      have hne : t ≠ T := fun z => hT (by rw [← z]; exact e)
      rw [if_pos e] at hs
      exact pl_rank_at hT hb f (t + 1) m (by omega) (by omega) (by omega) (by rw [Nat.add_sub_cancel, hs]; omega)
    · rw [if_neg e]
      rw [if_neg e] at hs
      by_cases z : t = T
      · subst z
        rw [if_pos (congrArg nI (show m = told by omega))]
      · have hmo := pl_cnt_mono (F := Y) (show t ≤ T - 1 by omega)
        rw [if_neg (fun w => by have := (nI_eq (a := m) (b := told) (by omega) (by omega)).mp w; omega)]
        exact pl_rank_at hT hb f (t + 1) (m + 1) (by omega) (by omega) (by omega) (by rw [Nat.add_sub_cancel, hs]; omega)
theorem pl_rank_no {Y : Nat → Nat} {told : Nat} (hb : told < 100000) : ∀ (f t m : Nat), 1 ≤ t → m + pl_cnt Y (t - 1 + f) ≤ told + pl_cnt Y (t - 1) → pl_rank Y (nI told) f t m = -1
  | 0, t, m, h1, h2 => rfl
  | f + 1, t, m, h1, h2 => by
    show (if Y t = 0 then pl_rank Y (nI told) f (t + 1) m else if nI m = nI told then nI t else pl_rank Y (nI told) f (t + 1) (m + 1)) = -1
    have hs := pl_cnt_s (F := Y) h1
    have e9 : t + 1 - 1 + f = t - 1 + (f + 1) := by omega
    have hmo := pl_cnt_mono (F := Y) (show t ≤ t - 1 + (f + 1) by omega)
    by_cases e : Y t = 0
    · rw [if_pos e]
      rw [if_pos e] at hs
      exact pl_rank_no hb f (t + 1) m (by omega) (by rw [e9, Nat.add_sub_cancel, hs]; omega)
    · rw [if_neg e]
      rw [if_neg e] at hs
      rw [if_neg (fun w => by have := (nI_eq (a := m) (b := told) (by omega) (by omega)).mp w; omega)]
      exact pl_rank_no hb f (t + 1) (m + 1) (by omega) (by rw [e9, Nat.add_sub_cancel, hs]; omega)
