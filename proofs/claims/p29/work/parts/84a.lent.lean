/-! what the class's rows use beside their own: numbers, plans, an entry's text -/
theorem nI_min {x y : Nat} (hx : x < 2147483648) (hy : y < 2147483648) : (if nI x < nI y then nI x else nI y) = nI (if x < y then x else y) := by
  by_cases h : x < y
  · rw [if_pos h, if_pos ((nI_ltI hx hy).mpr h)]
  · rw [if_neg h, if_neg (fun z => h ((nI_ltI hx hy).mp z))]
/-- how many of the first n cords are in the set w; the row of a beginning -/
def pb_m (w : Nat) : Nat → Nat
  | 0 => 0
  | n + 1 => pb_m w n + w / 2 ^ n % 2
abbrev op_set (g : Nat → Nat) (u : Int32) : Prop := (0 ≤ u ∧ u < nI (2 ^ g 6)) ∧ pb_m u.toNatClampNeg 4 ≤ 3
theorem pb_4 : ∀ w, w < 16 → pb_m w 4 ≤ 4 := by decide
theorem pb_shl : ∀ n, n ≤ 4 → ((1 : Int32) <<< (nI n &&& 31)) = nI (2 ^ n) := by
  intro n hn
  have h : n = 0 ∨ n = 1 ∨ n = 2 ∨ n = 3 ∨ n = 4 := by omega
  rcases h with rfl | rfl | rfl | rfl | rfl <;> decide
theorem pl_v_of {g : Nat → Nat} {t i j k : Nat} (h : pl_ok g t) (h0 : i < pl_n g 0) (h1 : j < pl_n g 1) (h2 : k < pl_n g 2) : pl_v g (g 4 + i) (g 5 + j) (g 6 + k) := by
  intro q hq
  have h9 : q = 0 ∨ q = 1 ∨ q = 2 := by omega
  unfold pl_n at h0 h1 h2
  have r0 := (h.2.1 0 (by omega)).2.2
  have r1 := (h.2.1 1 (by omega)).2.2
  have r2 := (h.2.1 2 (by omega)).2.2
  rcases h9 with rfl | rfl | rfl
  · show g 4 ≤ g 4 + i ∧ g 4 + i ≤ 2 ∧ (g 1 = 0 → g 4 + i = 0)
    have r0 : g 1 = 0 → g 4 = 0 := r0
    have h0 : i < (if 0 < g 1 then 3 else 1) - g 4 := h0
    split at h0 <;> omega
  · show g 5 ≤ g 5 + j ∧ g 5 + j ≤ 2 ∧ (g 2 = 0 → g 5 + j = 0)
    have r1 : g 2 = 0 → g 5 = 0 := r1
    have h1 : j < (if 0 < g 2 then 3 else 1) - g 5 := h1
    split at h1 <;> omega
  · show g 6 ≤ g 6 + k ∧ g 6 + k ≤ 2 ∧ (g 3 = 0 → g 6 + k = 0)
    have r2 : g 3 = 0 → g 6 = 0 := r2
    have h2 : k < (if 0 < g 3 then 3 else 1) - g 6 := h2
    split at h2 <;> omega
theorem pl_sub {r s : Nat} (hr : r < 1000000) (hs : s < 1000000) : (nI r - nI s ≤ 0 → r - s = 0) ∧ (¬ nI r - nI s ≤ 0 → nI r - nI s = nI (r - s) ∧ 0 < r - s) := by
  have h1 : (nI r - nI s).toInt = (r : Int) - s := pk_sub_toInt (by omega) (by omega)
  refine ⟨fun h => ?_, fun h => ?_⟩
  · have h2 := Int32.le_iff_toInt_le.mp h
    rw [h1] at h2
    have h3 : (0 : Int32).toInt = 0 := rfl
    omega
  · have h2 : ¬ (nI r - nI s).toInt ≤ (0 : Int32).toInt := fun z => h (Int32.le_iff_toInt_le.mpr z)
    rw [h1] at h2
    have h3 : (0 : Int32).toInt = 0 := rfl
    exact ⟨pk_sub (by omega), by omega⟩
theorem pl_fold_le {l : List (Nat → Nat)} : ∀ {F : Nat → Nat}, (∀ t, F t ≤ 1080) → (∀ g ∈ l, g 7 ≤ 1080) → ∀ t, l.foldl pl_note F t ≤ 1080 := by
  induction l with
  | nil => intro F h _ t; exact h t
  | cons g l ih =>
    intro F h hl t
    refine ih (fun t => ?_) (fun x hx => hl x (List.mem_cons_of_mem _ hx)) t
    have h1 := hl g List.mem_cons_self
    unfold pl_note ns_up
    split
    · split
      · exact h1
      · exact h _
    · exact h t
theorem pm_fill {M M2 M3 : cq_M} {A k : Nat} {v v' : Int32} (h2 : ∀ x j, M2 x j = if x = A ∧ j < k then v else M x j) (h3 : M3 = cq_up M2 A k v') (hv : v' = v) : ∀ x j, M3 x j = if x = A ∧ j < k + 1 then v else M x j := by
  intro x j
  rw [h3, hv]
  by_cases x1 : x = A
  · subst x1
    by_cases j1 : j = k
    · subst j1; rw [cq_up_s, if_pos ⟨rfl, by omega⟩]
    · rw [cq_up_k j1, h2]
      by_cases j2 : j < k
      · rw [if_pos ⟨rfl, j2⟩, if_pos ⟨rfl, by omega⟩]
      · rw [if_neg (fun z => j2 z.2), if_neg (by omega)]
  · rw [cq_up_a x1, h2, if_neg (fun z => x1 z.1), if_neg (fun z => x1 z.1)]
/-- the row of a beginning with the set w of the first n cords -/
def pb (g : Nat → Nat) (w : Nat) : Nat → (Nat → Nat)
  | 0 => fun _ => 0
  | n + 1 => if w / 2 ^ n % 2 = 1 then ns_up (pb g w n) (1 + pb_m w n) (ns_time g n) else pb g w n
theorem pb_m_mono {w n : Nat} : ∀ {m : Nat}, n ≤ m → pb_m w n ≤ pb_m w m
  | 0, h => by rw [show n = 0 by omega]; exact Nat.le_refl _
  | m + 1, h => by
    by_cases e : n = m + 1
    · rw [e]; exact Nat.le_refl _
    · have := pb_m_mono (w := w) (n := n) (m := m) (by omega)
      simp only [pb_m]
      omega
theorem pb_beg {g : Nat → Nat} {w : Nat} : ∀ {n : Nat}, (∀ c, c < n → ns_time g c ≤ 360) → pb_m w n ≤ 3 → pl_beg (pb g w n)
  | 0, _, _ => ⟨rfl, rfl, fun k _ => ⟨Nat.zero_le _, rfl⟩⟩
  | n + 1, ht, hm => by
    have hm2 : pb_m w n + w / 2 ^ n % 2 ≤ 3 := hm
    have ih := pb_beg (g := g) (w := w) (n := n) (fun c hc => ht c (by omega)) (by omega)
    unfold pb
    by_cases e : w / 2 ^ n % 2 = 1
    · rw [if_pos e]
      obtain ⟨h0, h7, h3⟩ := ih
      have ht9 := ht n (by omega)
      refine ⟨by rw [ns_up_n (by omega)]; exact h0, by rw [ns_up_n (by omega)]; exact h7, fun k hk => ⟨?_, by rw [ns_up_n (by omega)]; exact (h3 k hk).2⟩⟩
      unfold ns_up
      split
      · exact ht9
      · exact (h3 k hk).1
    · rw [if_neg e]
      exact ih
/-- the beginning for the set u -/
def op_beg (g : Nat → Nat) (u : Int32) : Nat → Nat := pb g u.toNatClampNeg (g 6)
def op_rank (Y : Nat → Nat) (r : Int32) : Int32 := if r = -1 then nI (pl_cnt Y 1080) else pl_rank Y r 1080 1 0
def op_tell (S : as_T) (u r : Int32) : op_T := if op_set (S_g S) u ∧ -1 ≤ r then (0, op_rank (pl_F (op_beg (S_g S) u)) r, S) else (1, 0, S)
def op_few (S : as_T) (u x : Int32) : op_T := if op_set (S_g S) u ∧ 1 ≤ x ∧ x ≤ 1080 then (0, (if pl_F (op_beg (S_g S) u) x.toNatClampNeg = 0 then -1 else nI (pl_F (op_beg (S_g S) u) x.toNatClampNeg)), S) else (1, 0, S)
theorem nI_m1 {n : Nat} (h : n < 2147483648) : ¬ nI n = -1 := fun z => by
  have z3 := congrArg Int32.toInt z
  rw [nI_toInt (by omega)] at z3
  have z4 : (-1 : Int32).toInt = -1 := by decide
  omega
theorem op_set_w {g : Nat → Nat} {u : Int32} (h : op_set g u) (h6 : g 6 ≤ 4) : ∃ w, w < 16 ∧ u = nI w ∧ pb_m w 4 ≤ 3 ∧ u.toNatClampNeg = w := by
  obtain ⟨w, hw, rfl⟩ := nI_of (Int32.not_lt.mpr h.1.1)
  have hp16 : 2 ^ g 6 ≤ 16 := Nat.pow_le_pow_right (n := 2) (by decide) h6
  have h1 := (nI_ltI (by omega) (by omega)).mp h.1.2
  have h2 := h.2
  rw [nI_clamp (by omega)] at h2
  exact ⟨w, by omega, rfl, h2, nI_clamp (by omega)⟩
/-- how many digits, 0 has none -/
def en_l0 (n : Nat) : Nat := if n = 0 then 0 else 1 + en_l0 (n / 10)
termination_by n
decreasing_by exact Nat.div_lt_self (by omega) (by decide)
theorem en_l0_s {n : Nat} (h : n ≠ 0) : en_l0 n = 1 + en_l0 (n / 10) := by rw [en_l0, if_neg h]
theorem en_l0_z : en_l0 0 = 0 := by rw [en_l0, if_pos rfl]
theorem en_l0_le : ∀ (k n : Nat), n < 10 ^ k → en_l0 n ≤ k
  | 0, n, h => by
    have h1 : n < 1 := h
    have : n = 0 := by omega
    rw [this, en_l0_z]
    omega
  | k + 1, n, h => by
    by_cases e : n = 0
    · rw [e, en_l0_z]; omega
    · have h2 : n < 10 ^ k * 10 := by rw [← Nat.pow_succ]; exact h
      have := en_l0_le k (n / 10) (by omega)
      rw [en_l0_s e]
      omega
def en_len (n : Nat) : Nat := 1 + en_l0 (n / 10)
theorem en_len_le {n k : Nat} (h : n < 10 ^ (k + 1)) : en_len n ≤ k + 1 := by
  have h2 : n < 10 ^ k * 10 := by rw [← Nat.pow_succ]; exact h
  have := en_l0_le k (n / 10) (by omega)
  unfold en_len
  omega
/-- a character of a blank, the cord, "@" and the step; -1: past the end -/
def en_tl (c n i : Nat) : Int32 := if i = 0 then 32 else if i = 1 then nI (48 + c) else if i = 2 then 64 else if i - 3 < en_len n then nI (48 + n / 10 ^ (en_len n - 1 - (i - 3)) % 10) else -1
/-- a character of an entry -/
def en_at (k c n i : Nat) : Int32 := if k = 2 then (if i ≤ 2 then (if i = 0 then 111 else if i = 1 then 117 else 116) else en_tl c n (i - 3)) else if i ≤ 4 then (if i = 0 then 108 else if i = 1 then 105 else if i = 2 then 116 else if i = 3 then 32 else if k = 0 then 76 else 82) else en_tl c n (i - 5)
def op_entry (S : as_T) (a i : Int32) : op_T := if 0 ≤ a ∧ 0 ≤ i then (0, (if a < nI (S_g S 84) then en_at (S_g S (85 + 3 * a.toNatClampNeg)) (S_g S (87 + 3 * a.toNatClampNeg)) (S_g S (86 + 3 * a.toNatClampNeg)) i.toNatClampNeg else -1), S) else (1, 0, S)
