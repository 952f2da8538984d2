/-! what would be: the shape widened; the steps come to an end -/
theorem cq_ge.rf {X : cq_X} : cq_ge X X := fun _ _ => ⟨rfl, rfl, rfl⟩
theorem cq_ge.trans {X X1 X2 : cq_X} (h : cq_ge X X1) (h2 : cq_ge X1 X2) : cq_ge X X2 := fun x hx => by
  obtain ⟨a1, a2, a3⟩ := h x hx
  obtain ⟨b1, b2, b3⟩ := h2 x (by rw [a1]; exact hx)
  exact ⟨b1.trans a1, b2.trans a2, b3.trans a3⟩
theorem cq_isCord.ge {X X1 : cq_X} {a : Nat} (h : cq_isCord X a) (g : cq_ge X X1) : cq_isCord X1 a := ⟨g.k h.kind (by decide), g.t h.kind (by decide) h.t0, g.k h.k1 (by decide), g.n h.k1 (by decide) h.n1⟩
theorem cq_isRule.ge {X X1 : cq_X} {a : Nat} (h : cq_isRule X a) (g : cq_ge X X1) : cq_isRule X1 a := g.k h (by decide)
theorem cq_isText.ge {X X1 : cq_X} {a : Nat} (h : cq_isText X a) (g : cq_ge X X1) : cq_isText X1 a := ⟨g.k h.kind (by decide), g.t h.kind (by decide) h.t0, g.k h.k1 (by decide), g.n h.k1 (by decide) h.n1, g.t h.kind (by decide) h.t4, g.k h.k2 (by decide), g.n h.k2 (by decide) h.n2⟩
theorem cq_isState.ge {X X1 : cq_X} {a : Nat} (h : cq_isState X a) (g : cq_ge X X1) : cq_isState X1 a := ⟨g.k h.kind (by decide), g.t h.kind (by decide) h.t0, g.k h.k1 (by decide), g.n h.k1 (by decide) h.n1, g.t h.kind (by decide) h.t2, g.k h.k2 (by decide), g.n h.k2 (by decide) h.n2, g.t h.kind (by decide) h.t4, h.book.ge g, fun j hj => g.t h.k1 (by decide) (h.ct j hj), fun j hj => (h.cord j hj).ge g, fun j hj => g.t h.k2 (by decide) (h.rt j hj), fun j hj => (h.rule j hj).ge g⟩
theorem cq_isPlans.ge {X X1 : cq_X} {a : Nat} (h : cq_isPlans X a) (g : cq_ge X X1) : cq_isPlans X1 a := ⟨g.k h.kind (by decide), g.t h.kind (by decide) h.t0, g.k h.k1 (by decide), g.n h.k1 (by decide) h.n1, g.t h.kind (by decide) h.t1, g.k h.k2 (by decide), g.n h.k2 (by decide) h.n2, g.t h.kind (by decide) h.t2, g.k h.k7 (by decide), g.n h.k7 (by decide) h.n7, fun j hj => g.t h.k2 (by decide) (h.rt1 j hj), fun j hj => g.k (h.r1k j hj) (by decide), fun j hj => g.n (h.r1k j hj) (by decide) (h.r1n j hj), fun j hj => g.t h.k7 (by decide) (h.rt2 j hj), fun j hj => g.k (h.r2k j hj) (by decide), fun j hj => g.n (h.r2k j hj) (by decide) (h.r2n j hj)⟩
theorem cq_isClock.ge {X X1 : cq_X} {a : Nat} (h : cq_isClock X a) (g : cq_ge X X1) : cq_isClock X1 a := ⟨g.k h.kind (by decide), g.t h.kind (by decide) h.t0, h.now.ge g, g.t h.kind (by decide) h.t1, h.fore.ge g, g.t h.kind (by decide) h.t2, g.k h.k47 (by decide), g.n h.k47 (by decide) h.n47, g.t h.kind (by decide) h.t5, g.k h.k48 (by decide), g.n h.k48 (by decide) h.n48, g.t h.kind (by decide) h.t6, g.k h.k49 (by decide), g.n h.k49 (by decide) h.n49, g.t h.kind (by decide) h.t7, h.text.ge g, g.t h.kind (by decide) h.t8, h.plans.ge g, fun j hj => g.t h.k47 (by decide) (h.svt j hj), fun j hj => (h.sv j hj).ge g, fun j hj => g.t h.k48 (by decide) (h.snt j hj), fun j hj => (h.sn j hj).ge g⟩
/-- what is left of the first n cords -/
def ns_lsum (g : Nat → Nat) : Nat → Nat
  | 0 => 0
  | n + 1 => ns_lsum g n + ns_left g n
theorem ns_lsum_ext {g g' : Nat → Nat} : ∀ {n : Nat}, (∀ c, c < n → ns_left g' c = ns_left g c) → ns_lsum g' n = ns_lsum g n
  | 0, _ => rfl
  | n + 1, h => by
    show ns_lsum g' n + ns_left g' n = ns_lsum g n + ns_left g n
    rw [ns_lsum_ext (n := n) (fun c hc => h c (by omega)), h n (by omega)]
theorem ns_bA_at {g : Nat → Nat} {B : Nat} (h : ns_ok g B) : ∀ n, n ≤ g 6 → ∀ k, (∀ c, c < n → k ≠ 14 + 11 * c ∧ k ≠ 15 + 11 * c ∧ k ≠ 16 + 11 * c) → ns_bA g n k = g k
  | 0, _, _, _ => rfl
  | n + 1, hn, k, hk => by
    have ih := ns_bA_at h n (by omega) k (fun c hc => hk c (by omega))
    have hA := ns_bA_ok h n (by omega)
    have h6 := h.1
    show ns_bstep (ns_bA g n) n k = g k
    have e6 : ns_bA g n 6 = g 6 := hA.2.1 6 (fun c hc => by omega)
    obtain ⟨k1, k2, k3⟩ := hk n (by omega)
    rw [(ns_bstep_ok hA.1 (by rw [e6]; omega)).2 k k1 k2 k3]
    exact ih
/-- a step of a cord -/
theorem ns_left_bstep {g : Nat → Nat} {c : Nat} (hq : ns_cord g c) : ns_left (ns_bstep g c) c + (if g (16 + 11 * c) = 0 then 0 else 1) ≤ ns_left g c := by
  obtain ⟨b14, b15, b16, bn, bo, bt⟩ := ns_bstep_at hq
  obtain ⟨q1, q2, q3, q4, q5⟩ := hq
  unfold ns_left ns_burned at *
  rw [bt, b14, b15]
  have hf : g (16 + 11 * c) = 0 ∨ g (16 + 11 * c) = 1 ∨ g (16 + 11 * c) = 2 ∨ g (16 + 11 * c) = 3 := by omega
  rcases hf with f | f | f | f <;> rw [f] at q5 ⊢
  · simp
  · simp; have := q5 (by decide); omega
  · have := q5 (by decide)
    rw [if_pos (by omega), if_neg (by decide)]
    omega
  · have := q5 (by decide)
    rw [if_neg (show ¬ (3 : Nat) = 0 by decide)]
    split <;> omega
theorem ns_lsum_bA {g : Nat → Nat} {B : Nat} (h : ns_ok g B) : ∀ n, n ≤ g 6 → ns_lsum (ns_bA g n) n + (if ns_flames g n = 0 then 0 else 1) ≤ ns_lsum g n ∧ ∀ c, n ≤ c → c < g 6 → ns_left (ns_bA g n) c = ns_left g c
  | 0, _ => ⟨by simp [ns_flames, ns_lsum], fun c _ _ => rfl⟩
  | n + 1, hn => by
    obtain ⟨ih, ih2⟩ := ns_lsum_bA h n (by omega)
    have hA := ns_bA_ok h n (by omega)
    have h6 := h.1
    have e6 : ns_bA g n 6 = g 6 := hA.2.1 6 (fun c hc => by omega)
    have hqA := hA.1.2.2.2.1 n (by rw [e6]; omega)
    have hl := ns_left_bstep hqA
    have e16 : ns_bA g n (16 + 11 * n) = g (16 + 11 * n) := ns_bA_at h n (by omega) _ (fun c hc => ⟨by omega, by omega, by omega⟩)
    rw [e16, ih2 n (Nat.le_refl _) (by omega)] at hl
    have hbs := (ns_bstep_ok hA.1 (c := n) (by rw [e6]; omega)).2
    have hoth : ∀ c, c ≠ n → c < g 6 → ns_left (ns_bstep (ns_bA g n) n) c = ns_left (ns_bA g n) c := fun c hc hc6 => by
      have hs := (hA.1.2.2.2.1 c (by rw [e6]; exact hc6)).1.2
      exact (ns_left_ext hs (fun k k1 k2 => (hbs k (by omega) (by omega) (by omega)).symm)).symm
    refine ⟨?_, fun c hc hc6 => ?_⟩
    · show ns_lsum (ns_bstep (ns_bA g n) n) n + ns_left (ns_bstep (ns_bA g n) n) n + (if ns_flames g n + ns_fl (g (16 + 11 * n)) = 0 then 0 else 1) ≤ ns_lsum g n + ns_left g n
      rw [ns_lsum_ext (n := n) (fun c hc => hoth c (by omega) (by omega))]
      have hf0 : g (16 + 11 * n) = 0 → ns_fl (g (16 + 11 * n)) = 0 := fun z => by rw [z]; rfl
      have hf1 := (h.2.2.2.1 n (by omega)).2.2.2.1
      split <;> split at ih <;> split at hl <;> omega
    · show ns_left (ns_bstep (ns_bA g n) n) c = ns_left g c
      rw [hoth c (by omega) hc6]
      exact ih2 c (by omega) hc6
theorem ns_left_sA {g : Nat → Nat} {B S : Nat} (h : ns_ok g B) {c : Nat} (hc : c < g 6) : ∀ n, n ≤ g 6 → ns_left (ns_sA g S n) c = ns_left g c
  | 0, _ => rfl
  | n + 1, hn => by
    have ih := ns_left_sA (S := S) h hc n (by omega)
    have hA := ns_sA_ok (S := S) h n (by omega)
    have h6 := h.1
    show ns_left (if S / 2 ^ n % 2 = 1 then ns_signal (ns_sA g S n) n else ns_sA g S n) c = ns_left g c
    split
    · have hs := (hA.1.2.2.2.1 c (by rw [hA.2.1]; exact hc)).1.2
      have hg := (ns_signal_ok hA.1 (c := n) (by rw [hA.2.1]; omega)).2
      rw [← ih]
      exact (ns_left_ext hs (fun k k1 k2 => (hg k (by omega) (by omega) (by omega) (fun c' _ => by omega) (fun c' _ => by omega) (fun r _ => by omega)).symm)).symm
    · exact ih
/-- a step with flames makes less of what is left -/
theorem ns_lsum_step {g : Nat → Nat} {B : Nat} (h : ns_ok g B) (hf : 0 < ns_flames g (g 6)) : ns_lsum (ns_step g) (g 6) + 1 ≤ ns_lsum g (g 6) := by
  have h4 := ns_s4_ok h
  obtain ⟨e6, e51, e1⟩ := ns_s4_6 g
  obtain ⟨a3, a4, a5, ae⟩ := ns_s3_at g
  have e : ∀ k, 5 < k → ns_s4 g k = g k := fun k hk => by
    rw [show ns_s4 g k = ns_s3 g k from ns_up_n (by omega), ae k (by omega) (by omega) (by omega)]
  have hG := ns_bA_ok h4 (g 6) (by rw [e6]; exact Nat.le_refl _)
  have h6 := h.1
  have e6G : ns_bA (ns_s4 g) (g 6) 6 = g 6 := by rw [hG.2.1 6 (fun c hc => by omega)]; exact e6
  have s1 : ns_lsum (ns_step g) (g 6) = ns_lsum (ns_bA (ns_s4 g) (g 6)) (g 6) := ns_lsum_ext (fun c hc => ns_left_sA hG.1 (by rw [e6G]; exact hc) (g 6) (by rw [e6G]; exact Nat.le_refl _))
  have s2 := (ns_lsum_bA h4 (g 6) (by rw [e6]; exact Nat.le_refl _)).1
  have s3 : ns_lsum (ns_s4 g) (g 6) = ns_lsum g (g 6) := ns_lsum_ext (fun c hc => (ns_left_ext (h.2.2.2.1 c hc).1.2 (fun k k1 k2 => (e k (by omega)).symm)).symm)
  have s4 : ∀ n, ns_flames (ns_s4 g) n = ns_flames g n := fun n => by
    induction n with
    | zero => rfl
    | succ n ih =>
      show ns_flames (ns_s4 g) n + ns_fl (ns_s4 g (16 + 11 * n)) = ns_flames g n + ns_fl (g (16 + 11 * n))
      rw [ih, e _ (by omega)]
  rw [s4, if_neg (by omega), s3] at s2
  rw [s1]
  exact s2
theorem ns_lsum_le {g : Nat → Nat} : ∀ {n : Nat}, (∀ c, c < n → ns_cord g c) → ns_lsum g n ≤ 360 * n
  | 0, _ => Nat.le_refl _
  | n + 1, h => by
    have h1 := ns_lsum_le (n := n) (fun c hc => h c (by omega))
    have h2 := (h n (by omega)).time
    show ns_lsum g n + ns_left g n ≤ _
    unfold ns_left
    omega
theorem ck.far {M M1 : cq_M} {b B : Nat} {S : as_T} (h : ck M b S) (hk : as_ok S B) (hf : ∀ x, b ≤ x → x < b + 249 → M1 x = M x) : ck M1 b S :=
  h.fr hk (fun x h1 h2 _ _ _ => hf x h1 h2) (by rw [hf _ (by omega) (by omega)]) (h.2.2.1.1.fr (fun x h1 h2 => hf x (by omega) (by omega)))
