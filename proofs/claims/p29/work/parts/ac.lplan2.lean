/-! a plan, followed step by step -/
theorem sh_s : ∀ n, n < 12 → ((nI n &&& 31).toBitVec.smod 32).toNat = n := by decide
theorem nI_and3 (n : Nat) : nI n &&& 3 = nI (n % 4) := by
  apply Int32.toBitVec_inj.mp
  apply BitVec.eq_of_toNat_eq
  show (BitVec.ofNat 32 n &&& 3#32).toNat = (BitVec.ofNat 32 (n % 4)).toNat
  rw [BitVec.toNat_and]
  simp only [BitVec.toNat_ofNat]
  rw [show 3 % 2 ^ 32 = 2 ^ 2 - 1 from rfl, Nat.and_two_pow_sub_one_eq_mod]
  omega
theorem sh_3 {n j : Nat} (hn : n < 2147483648) (hj : j < 12) : (nI n >>> (nI j &&& 31)) &&& 3 = nI (n / 2 ^ j % 4) := by
  rw [pk_shrN hn (nI j &&& 31) j (sh_s j hj), nI_and3]
theorem lk_lo {M M1 M2 : cq_M} {fa ga a : Nat} {x : Int32} (hne : fa ≠ ga) (ha : a < 55) (h1 : M1 = cq_up M fa a (M fa a ^^^ x)) (h2 : M2 = cq_up M1 ga 0 (M1 ga 0 ^^^ 0)) : ∀ i, i < 110 → lk_w M2 fa ga i = if i = a then lk_w M fa ga i ^^^ x else lk_w M fa ga i := by
  intro i hi
  have e2 : M2 = M1 := by
    rw [h2, i32_xor0]
    funext y j
    unfold cq_up
    split
    · rename_i z; rw [z.1, z.2]
    · rfl
  rw [e2, h1]
  unfold lk_w
  by_cases c : i < 55
  · rw [if_pos c, if_pos c]
    by_cases e : i = a
    · subst e; rw [if_pos rfl]; exact cq_up_s _ _ _ _
    · rw [if_neg e]; exact cq_up_k e
  · rw [if_neg c, if_neg c, if_neg (by omega)]
    exact cq_up_a (fun z => hne z.symm)
theorem lk_hi {M M1 M2 : cq_M} {fa ga a : Nat} {x : Int32} (hne : fa ≠ ga) (ha : 55 ≤ a) (h1 : M1 = cq_up M fa 0 (M fa 0 ^^^ 0)) (h2 : M2 = cq_up M1 ga (a - 55) (M1 ga (a - 55) ^^^ x)) : ∀ i, i < 110 → lk_w M2 fa ga i = if i = a then lk_w M fa ga i ^^^ x else lk_w M fa ga i := by
  intro i hi
  have e1 : M1 = M := by
    rw [h1, i32_xor0]
    funext y j
    unfold cq_up
    split
    · rename_i z; rw [z.1, z.2]
    · rfl
  rw [h2, e1]
  unfold lk_w
  by_cases c : i < 55
  · rw [if_pos c, if_pos c, if_neg (by omega)]
    exact cq_up_a hne
  · rw [if_neg c, if_neg c]
    by_cases e : i = a
    · subst e; rw [if_pos rfl]; exact cq_up_s _ _ _ _
    · rw [if_neg e]; exact cq_up_k (by omega)
/-- what is left of a cord, as the law's number: not above 0 when nothing is -/
def pr (v : Int32) (n : Nat) : Prop := (0 < n ∧ v = nI n) ∨ (n = 0 ∧ v ≤ 0)
theorem pr.le {v : Int32} {n : Nat} (h : pr v n) (hn : n < 1000000) : v ≤ 0 ↔ n = 0 := by
  rcases h with ⟨h1, h2⟩ | ⟨h1, h2⟩
  · rw [h2, show (0 : Int32) = nI 0 from rfl, nI_leI (by omega) (by omega)]
    omega
  · exact ⟨fun _ => h1, fun _ => h2⟩
theorem pr.gt {v : Int32} {n : Nat} (h : pr v n) (hn : n < 1000000) : 0 < v ↔ 0 < n := by
  rw [← Int32.not_le, h.le hn]
  omega
theorem pr.nat {n : Nat} : pr (nI n) n := by
  by_cases e : n = 0
  · subst e; exact Or.inr ⟨rfl, by decide⟩
  · exact Or.inl ⟨by omega, rfl⟩
theorem pr.sub {v : Int32} {n f : Nat} (h : pr v n) (hn : n < 1000000) (hf : f < 1000) (h0 : 0 < n) : pr (v - nI f) (n - f) := by
  rcases h with ⟨h1, h2⟩ | ⟨h1, h2⟩
  · rw [h2]
    obtain ⟨a1, a2⟩ := pl_sub (r := n) (s := f) hn (by omega)
    by_cases z : nI n - nI f ≤ 0
    · exact Or.inr ⟨a1 z, z⟩
    · exact Or.inl ⟨(a2 z).2, (a2 z).1⟩
  · omega
theorem i32_sub0 (x : Int32) : x - 0 = x := by
  apply Int32.toBitVec_inj.mp
  simp
/-- the lightings, the flames so far -/
def lp_ms (g m : Nat → Nat) : Nat → Nat
  | 0 => 0
  | n + 1 => lp_ms g m n + (if 0 < g (1 + n) then m n else 0)
def lp_as (g m : Nat → Nat) : Nat → Nat
  | 0 => 0
  | n + 1 => lp_as g m n + lp_a g m n
theorem lp_as_3 (g m : Nat → Nat) : lp_as g m 3 = lp_s g m := by
  show 0 + lp_a g m 0 + lp_a g m 1 + lp_a g m 2 = _
  unfold lp_s
  omega
theorem lp_ms_0 {g m : Nat → Nat} (h : lp_s g m = 0) : lp_ms g m 3 = 0 := by
  show 0 + (if 0 < g (1 + 0) then m 0 else 0) + (if 0 < g (1 + 1) then m 1 else 0) + (if 0 < g (1 + 2) then m 2 else 0) = 0
  have e : ∀ k, lp_a g m k = 0 → (if 0 < g (1 + k) then m k else 0) = 0 := fun k hk => by
    unfold lp_a at hk
    by_cases c : 0 < g (1 + k)
    · rw [if_pos c] at hk ⊢; omega
    · rw [if_neg c]
  unfold lp_s at h
  rw [e 0 (by omega), e 1 (by omega), e 2 (by omega)]
theorem lp_ms_m {g m : Nat → Nat} (hz : ∀ k, k < 3 → g (1 + k) = 0 → g (4 + k) = 0) : pl_m g (lp_a g m 0) (lp_a g m 1) (lp_a g m 2) 3 = lp_ms g m 3 := by
  have e : ∀ k, k < 3 → pl_f (lp_a g m 0) (lp_a g m 1) (lp_a g m 2) k - g (4 + k) = if 0 < g (1 + k) then m k else 0 := fun k hk => by
    rw [lp_f hk]
    have := hz k hk
    unfold lp_a
    split <;> omega
  show 0 + (_ - g (4 + 0)) + (_ - g (4 + 1)) + (_ - g (4 + 2)) = 0 + (if 0 < g (1 + 0) then m 0 else 0) + (if 0 < g (1 + 1) then m 1 else 0) + (if 0 < g (1 + 2) then m 2 else 0)
  rw [e 0 (by omega), e 1 (by omega), e 2 (by omega)]
theorem lp_7 {m : Nat → Nat → Nat} {g : Nat → Nat} (hb : pl_beg g) (hm : ∀ k, k < 3 → ∀ n, n ≤ 3 → lp_u m k n ≤ 2) : ∀ n, n ≤ 3 → lp_g m g n 7 ≤ lp_u m 0 n + lp_u m 1 n + lp_u m 2 n
  | 0, _ => by rw [show lp_g m g 0 = g from rfl, hb.2.1]; exact Nat.zero_le _
  | n + 1, hn => by
    have ih := lp_7 hb hm n (by omega)
    obtain ⟨i1, -⟩ := lp_ok hb hm n (by omega)
    show lp_nx (lp_g m g n) (m n) 7 ≤ lp_u m 0 n + m n 0 + (lp_u m 1 n + m n 1) + (lp_u m 2 n + m n 2)
    unfold lp_nx
    by_cases e : lp_s (lp_g m g n) (m n) = 0
    · rw [if_pos e]; omega
    · rw [if_neg e, pl_nx_7, lp_ms_m (fun k hk => (i1.2.1 k hk).2.2)]
      have : lp_ms (lp_g m g n) (m n) 3 ≤ m n 0 + m n 1 + m n 2 := by
        show 0 + (if 0 < lp_g m g n (1 + 0) then m n 0 else 0) + (if 0 < lp_g m g n (1 + 1) then m n 1 else 0) + (if 0 < lp_g m g n (1 + 2) then m n 2 else 0) ≤ _
        split <;> split <;> split <;> omega
      omega
/-- the state behind a signal, from what the steps have left -/
theorem lp_nx_at {m : Nat → Nat → Nat} {g : Nat → Nat} (hb : pl_beg g) (hm : ∀ k, k < 3 → ∀ n, n ≤ 3 → lp_u m k n ≤ 2) {n j : Nat} (hn : n < 3) (e : lp_s (lp_g m g n) (m n) ≠ 0) (hj : 0 < j) (h1 : ∀ k, k < 3 → 0 < lp_a (lp_g m g n) (m n) k → lp_a (lp_g m g n) (m n) k * (j - 1) < lp_g m g n (1 + k)) (h2 : ∃ k, k < 3 ∧ 0 < lp_a (lp_g m g n) (m n) k ∧ lp_g m g n (1 + k) ≤ lp_a (lp_g m g n) (m n) k * j) :
    lp_g m g (n + 1) 0 = lp_g m g n 0 + j ∧ (∀ k, k < 3 → lp_g m g (n + 1) (1 + k) = lp_g m g n (1 + k) - lp_a (lp_g m g n) (m n) k * j ∧ (0 < lp_g m g (n + 1) (1 + k) → lp_g m g (n + 1) (4 + k) = lp_a (lp_g m g n) (m n) k)) ∧ lp_g m g (n + 1) 7 = lp_g m g n 7 + lp_ms (lp_g m g n) (m n) 3 := by
  obtain ⟨i1, -⟩ := lp_ok hb hm n (by omega)
  obtain ⟨hv, -⟩ := lp_v hb hm hn
  have hst : pl_st (lp_g m g n) (lp_a (lp_g m g n) (m n) 0) (lp_a (lp_g m g n) (m n) 1) (lp_a (lp_g m g n) (m n) 2) 3 = j := by
    refine pl_st_is (fun k hk => (hv k hk).2.1) hj (fun k hk => ?_) ?_
    · rw [lp_f hk, Nat.mul_comm]; exact h1 k hk
    · obtain ⟨k, k1, k2⟩ := h2
      exact ⟨k, k1, by rw [lp_f k1, Nat.mul_comm]; exact k2⟩
  have eg : lp_g m g (n + 1) = pl_nx (lp_g m g n) (lp_a (lp_g m g n) (m n) 0) (lp_a (lp_g m g n) (m n) 1) (lp_a (lp_g m g n) (m n) 2) := by
    show lp_nx (lp_g m g n) (m n) = _
    unfold lp_nx
    rw [if_neg e]
  rw [eg]
  refine ⟨by rw [pl_nx_0, hst], fun k hk => ?_, by rw [pl_nx_7, lp_ms_m (fun k hk => (i1.2.1 k hk).2.2)]⟩
  rw [pl_nx_r hk, pl_nx_f hk]
  unfold pl_r
  rw [hst, lp_f hk]
  exact ⟨rfl, fun z => if_pos z⟩
theorem cq_ifc' {P Q : Prop} [Decidable P] [Decidable Q] {a b : Nat} (h : P ↔ Q) : (if P then a else b) = (if Q then a else b) := by
  by_cases hp : P
  · rw [if_pos hp, if_pos (h.mp hp)]
  · rw [if_neg hp, if_neg (fun z => hp (h.mpr z))]
theorem lp_row {G m U : Nat → Nat} {k v : Nat} (h : (if 0 < G (1 + k) then m k else 0) = v) (j : Nat) : ns_up (fun j => if j < k ∧ 0 < G (1 + j) then U j + m j else U j) k ((fun j => if j < k ∧ 0 < G (1 + j) then U j + m j else U j) k + v) j = (fun j => if j < k + 1 ∧ 0 < G (1 + j) then U j + m j else U j) j := by
  unfold ns_up
  show (if j = k then (if k < k ∧ 0 < G (1 + k) then U k + m k else U k) + v else (if j < k ∧ 0 < G (1 + j) then U j + m j else U j)) = (if j < k + 1 ∧ 0 < G (1 + j) then U j + m j else U j)
  by_cases e : j = k
  · subst e
    rw [if_pos rfl, if_neg (fun z => absurd z.1 (Nat.lt_irrefl _)), ← h]
    by_cases c : 0 < G (1 + j)
    · rw [if_pos c, if_pos ⟨by omega, c⟩]
    · rw [if_neg c, if_neg (fun z => c z.2)]; rfl
  · rw [if_neg e]
    exact cq_ifc' ⟨fun z => ⟨by omega, z.2⟩, fun z => ⟨by omega, z.2⟩⟩
theorem lp_ex {G m : Nat → Nat} (h : ¬ lp_s G m = 0) : ∃ k, k < 3 ∧ 0 < lp_a G m k := by
  by_cases e0 : 0 < lp_a G m 0
  · exact ⟨0, by omega, e0⟩
  · by_cases e1 : 0 < lp_a G m 1
    · exact ⟨1, by omega, e1⟩
    · refine ⟨2, by omega, ?_⟩
      unfold lp_s at h
      omega
theorem lp_a_pos {G m : Nat → Nat} {k : Nat} (h : 0 < lp_a G m k) : 0 < G (1 + k) := by
  unfold lp_a at h
  split at h
  · assumption
  · omega
theorem lp_if {i k j : Nat} (h : i ≠ k) : (if i < k + 1 then j + 1 else j) = (if i < k then j + 1 else j) := by
  split <;> split <;> omega
theorem lp_zero {G m : Nat → Nat} (h : lp_s G m = 0) {k : Nat} (hk : k < 3) : lp_a G m k = 0 := by
  unfold lp_s at h
  have h9 : k = 0 ∨ k = 1 ∨ k = 2 := by omega
  rcases h9 with rfl | rfl | rfl <;> omega
