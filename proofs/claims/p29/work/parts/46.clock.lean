/-! THE CLOCK'S STATE, for both sides: the row, the saved rows and their number, the snapshots, which are taken, the buffer and its length -/
abbrev as_T : Type := (Nat → Nat) × (Nat → Nat → Nat) × Nat × (Nat → Nat → Nat) × (Nat → Nat) × (Nat → Nat) × Nat
abbrev S_g (S : as_T) : Nat → Nat := S.1
abbrev S_v (S : as_T) : Nat → Nat → Nat := S.2.1
abbrev S_n (S : as_T) : Nat := S.2.2.1
abbrev S_s (S : as_T) : Nat → Nat → Nat := S.2.2.2.1
abbrev S_k (S : as_T) : Nat → Nat := S.2.2.2.2.1
abbrev S_t (S : as_T) : Nat → Nat := S.2.2.2.2.2.1
abbrev S_l (S : as_T) : Nat := S.2.2.2.2.2.2
def so_g (S : as_T) (g : Nat → Nat) : as_T := (g, S.2)
def so_sv (g : Nat → Nat) (v : Nat → Nat → Nat) (n : Nat) : Nat → Nat → Nat := if n = 6 then (fun i => if i = 5 then g else v (i + 1)) else (fun i => if i = n then g else v i)
def so_sn (n : Nat) : Nat := if n = 6 then 6 else n + 1
def so_save (S : as_T) : as_T := (S.1, so_sv S.1 S.2.1 S.2.2.1, so_sn S.2.2.1, S.2.2.2)
def so_pop (S : as_T) : as_T := (S_v S (S_n S - 1), S_v S, S_n S - 1, S.2.2.2)
def so_keep (S : as_T) (i : Nat) : as_T := (S.1, S.2.1, S.2.2.1, (fun j => if j = i then S.1 else S_s S j), (fun j => if j = i then 1 else S_k S j), S.2.2.2.2.2)
def so_text (S : as_T) (t : Nat → Nat) (n : Nat) : as_T := (S.1, S.2.1, S.2.2.1, S.2.2.2.1, S.2.2.2.2.1, t, n)
/-- what the state keeps to -/
def as_ok (S : as_T) (B : Nat) : Prop := ns_ok (S_g S) B ∧ (∀ i, i < S_n S → ns_ok (S_v S i) B) ∧ (∀ i, i < 2 → S_k S i = 1 → ns_ok (S_s S i) B) ∧ (∀ j, j < S_l S → 33 ≤ S_t S j ∧ S_t S j ≤ 126) ∧ S_n S ≤ 6 ∧ S_l S ≤ 60 ∧ ∀ i, i < 2 → S_k S i ≤ 1
/-- the class's side, at b -/
def ck_t (M : cq_M) (b : Nat) (S : as_T) : Prop := M (b + 50) 1 = nI (S_l S) ∧ ∀ j, j < S_l S → M (b + 51) j = nI (S_t S j)
def ck_v (M : cq_M) (b : Nat) (S : as_T) : Prop := ∃ od : Nat, od < 6 ∧ M b 3 = nI od ∧ M b 4 = nI (S_n S) ∧ ∀ i, i < S_n S → cr_st M (b + 65 + 23 * ((od + i) % 6)) (S_v S i)
def ck_w (M : cq_M) (b : Nat) : Prop := cr_bool M (b + 24) ∧ (∀ i, i < 6 → cr_bool M (b + 65 + 23 * i)) ∧ ∀ i, i < 2 → cr_bool M (b + 203 + 23 * i)
def ck_s (M : cq_M) (b : Nat) (S : as_T) : Prop := ∀ i, i < 2 → M (b + 49) i = nI (S_k S i) ∧ (S_k S i = 1 → cr_st M (b + 203 + 23 * i) (S_s S i))
def ck (M : cq_M) (b : Nat) (S : as_T) : Prop := cr_st M (b + 1) (S_g S) ∧ ck_v M b S ∧ ck_w M b ∧ ck_s M b S ∧ ck_t M b S
theorem cr_bool.fr {M M1 : cq_M} {b : Nat} (h : cr_bool M b) (h1 : ∀ x, b ≤ x → x < b + 23 → M1 x = M x) : cr_bool M1 b := h.ext (fun x k1 k2 => h1 x (by omega) k2)
/-- a change in the State `now` alone -/
theorem ck.now {M M1 : cq_M} {b B : Nat} {S : as_T} {g : Nat → Nat} (h : ck M b S) (hk : as_ok S B) (hs : cr_st M1 (b + 1) g) (hf : cr_fr M M1 (b + 1) 23) : ck M1 b (so_g S g) := by
  obtain ⟨h1, ⟨od, h2, h3, h4, h5⟩, h6, h7, h8⟩ := h
  refine ⟨hs, ⟨od, h2, by rw [hf _ (by omega)]; exact h3, by rw [hf _ (by omega)]; exact h4, fun i hi => ?_⟩, ⟨?_, fun i hi => ?_, fun i hi => ?_⟩, fun i hi => ?_, ?_, fun j hj => ?_⟩
  · have := hk.2.1 i hi
    exact (h5 i hi).fr (fun x k1 k2 => hf x (by omega)) this.1 this.2.1
  · exact h6.1.fr (fun x k1 k2 => hf x (by omega))
  · exact (h6.2.1 i hi).fr (fun x k1 k2 => hf x (by omega))
  · exact (h6.2.2 i hi).fr (fun x k1 k2 => hf x (by omega))
  · obtain ⟨a1, a2⟩ := h7 i hi
    refine ⟨by rw [hf _ (by omega)]; exact a1, fun z => ?_⟩
    have := hk.2.2.1 i hi z
    exact (a2 z).fr (fun x k1 k2 => hf x (by omega)) this.1 this.2.1
  · rw [hf _ (by omega)]; exact h8.1
  · rw [hf _ (by omega)]; exact h8.2 j hj
/-- a change that reaches neither State that counts, nor the buffer -/
theorem ck.fr {M M1 : cq_M} {b B : Nat} {S : as_T} (h : ck M b S) (hk : as_ok S B) (hf : ∀ x, b ≤ x → x < b + 249 → ¬ (b + 24 ≤ x ∧ x < b + 47) → ¬ (b + 52 ≤ x ∧ x < b + 65) → x ≠ b + 50 → M1 x = M x) (hl : M1 (b + 50) 1 = M (b + 50) 1) (hw : cr_bool M1 (b + 24)) : ck M1 b S := by
  obtain ⟨h1, ⟨od, h2, h3, h4, h5⟩, h6, h7, h8⟩ := h
  have h9 := hk.1
  refine ⟨h1.fr (fun x k1 k2 => hf x (by omega) (by omega) (by omega) (by omega) (by omega)) h9.1 h9.2.1, ⟨od, h2, by rw [hf _ (by omega) (by omega) (by omega) (by omega) (by omega)]; exact h3, by rw [hf _ (by omega) (by omega) (by omega) (by omega) (by omega)]; exact h4, fun i hi => ?_⟩, ⟨hw, fun i hi => ?_, fun i hi => ?_⟩, fun i hi => ?_, ?_, fun j hj => ?_⟩
  · have := hk.2.1 i hi
    exact (h5 i hi).fr (fun x k1 k2 => hf x (by omega) (by omega) (by omega) (by omega) (by omega)) this.1 this.2.1
  · exact (h6.2.1 i hi).fr (fun x k1 k2 => hf x (by omega) (by omega) (by omega) (by omega) (by omega))
  · exact (h6.2.2 i hi).fr (fun x k1 k2 => hf x (by omega) (by omega) (by omega) (by omega) (by omega))
  · obtain ⟨a1, a2⟩ := h7 i hi
    refine ⟨by rw [hf _ (by omega) (by omega) (by omega) (by omega) (by omega)]; exact a1, fun z => ?_⟩
    have := hk.2.2.1 i hi z
    exact (a2 z).fr (fun x k1 k2 => hf x (by omega) (by omega) (by omega) (by omega) (by omega)) this.1 this.2.1
  · rw [hl]; exact h8.1
  · rw [hf _ (by omega) (by omega) (by omega) (by omega) (by omega)]; exact h8.2 j hj
/-- the State `now` is saved -/
theorem ck.push {M M1 : cq_M} {b B od od1 n1 ix : Nat} {S : as_T} (h : ck M b S) (hk : as_ok S B) (ho : od < 6) (h3 : M b 3 = nI od) (hv : ∀ i, i < S_n S → cr_st M (b + 65 + 23 * ((od + i) % 6)) (S_v S i)) (hc : (S_n S = 6 ∧ od1 = (od + 1) % 6 ∧ ix = (od1 + 5) % 6 ∧ n1 = 6) ∨ (S_n S < 6 ∧ od1 = od ∧ ix = (od + S_n S) % 6 ∧ n1 = S_n S + 1)) (e3 : M1 b 3 = nI od1) (e4 : M1 b 4 = nI n1) (hC : cp_C M M1 (b + 1) (b + 65 + 23 * ix) 4) (hR : cp_R M M1 (b + 1) (b + 65 + 23 * ix) 8) (hB : cp_B M M1 (b + 1 + 3) (b + 65 + 23 * ix + 3)) (hI : cp_I M M1 (b + 1) (b + 65 + 23 * ix)) (hf : ∀ x, x ≠ b → (x < b + 65 + 23 * ix ∨ b + 65 + 23 * ix + 23 ≤ x) → M1 x = M x) : ck M1 b (so_save S) := by
  obtain ⟨h1, -, h6, h7, h8⟩ := h
  have h9 := hk.1
  have hix : ix < 6 := by omega
  have en : S.2.2.1 = S_n S := rfl
  have hnew := cr_copy h1 h9 hC hR hB hI
  have hnewb := cr_copy_bool h1.2.2.2.2 hC hR
  refine ⟨h1.fr (fun x k1 k2 => hf x (by omega) (by omega)) h9.1 h9.2.1, ⟨od1, by omega, e3, ?_, fun i hi => ?_⟩, ⟨?_, fun i hi => ?_, fun i hi => ?_⟩, fun i hi => ?_, ?_, fun j hj => ?_⟩
  · rw [e4]
    show nI n1 = nI (so_sn (S_n S))
    unfold so_sn
    split <;> congr 1 <;> omega
  · show cr_st M1 (b + 65 + 23 * ((od1 + i) % 6)) (so_sv S.1 S.2.1 S.2.2.1 i)
    have hi2 : i < so_sn (S_n S) := hi
    unfold so_sn at hi2
    unfold so_sv
    rcases hc with ⟨n6, c1, c2, c3⟩ | ⟨n6, c1, c2, c3⟩
    · rw [if_pos n6] at hi2 ⊢
      by_cases i5 : i = 5
      · subst i5
        rw [← c2]
        simp only [if_true]
        exact hnew
      · simp only [if_neg i5]
        have hne : (od1 + i) % 6 ≠ ix := by omega
        have e : (od1 + i) % 6 = (od + (i + 1)) % 6 := by omega
        have h10 := hv (i + 1) (by omega)
        have := hk.2.1 (i + 1) (by omega)
        rw [e] at hne ⊢
        exact h10.fr (fun x k1 k2 => hf x (by omega) (by omega)) this.1 this.2.1
    · rw [if_neg (by omega)] at hi2
      rw [if_neg (show ¬ S.2.2.1 = 6 by omega)]
      by_cases i5 : i = S.2.2.1
      · subst i5
        rw [c1, ← c2]
        simp only [if_true]
        exact hnew
      · simp only [if_neg i5]
        have hne : (od1 + i) % 6 ≠ ix := by omega
        have h10 := hv i (by omega)
        have := hk.2.1 i (by omega)
        rw [c1] at hne ⊢
        exact h10.fr (fun x k1 k2 => hf x (by omega) (by omega)) this.1 this.2.1
  · exact h6.1.fr (fun x k1 k2 => hf x (by omega) (by omega))
  · by_cases e : i = ix
    · subst e; exact hnewb
    · exact (h6.2.1 i hi).fr (fun x k1 k2 => hf x (by omega) (by omega))
  · exact (h6.2.2 i hi).fr (fun x k1 k2 => hf x (by omega) (by omega))
  · obtain ⟨a1, a2⟩ := h7 i hi
    refine ⟨by rw [hf _ (by omega) (by omega)]; exact a1, fun z => ?_⟩
    have := hk.2.2.1 i hi z
    exact (a2 z).fr (fun x k1 k2 => hf x (by omega) (by omega)) this.1 this.2.1
  · rw [hf _ (by omega) (by omega)]; exact h8.1
  · rw [hf _ (by omega) (by omega)]; exact h8.2 j hj
theorem as_ok.save {S : as_T} {B : Nat} (h : as_ok S B) : as_ok (so_save S) B := by
  obtain ⟨h1, h2, h3, h4, h5, h6, h7⟩ := h
  have en : S.2.2.1 = S_n S := rfl
  refine ⟨h1, fun i hi => ?_, h3, h4, ?_, h6, h7⟩
  · have hi2 : i < so_sn (S_n S) := hi
    show ns_ok (so_sv S.1 S.2.1 S.2.2.1 i) B
    unfold so_sn at hi2
    unfold so_sv
    split at hi2
    · rename_i n6
      rw [if_pos n6]
      by_cases i5 : i = 5
      · simp only [if_pos i5]; exact h1
      · simp only [if_neg i5]; exact h2 (i + 1) (by omega)
    · rename_i n6
      rw [if_neg n6]
      by_cases i5 : i = S.2.2.1
      · simp only [if_pos i5]; exact h1
      · simp only [if_neg i5]; exact h2 i (by omega)
  · show so_sn (S_n S) ≤ 6
    unfold so_sn
    split <;> omega
theorem ns_ok.mono {g : Nat → Nat} {B B' : Nat} (h : ns_ok g B) (hB : B ≤ B') : ns_ok g B' := by
  obtain ⟨h1, h2, h3, h4, h5, h6, h7, h8, h9⟩ := h
  exact ⟨h1, h2, h3, h4, h5, h6, by omega, by omega, by omega⟩
theorem as_ok.mono {S : as_T} {B B' : Nat} (h : as_ok S B) (hB : B ≤ B') : as_ok S B' := by
  obtain ⟨h1, h2, h3, h4, h5, h6, h7⟩ := h
  exact ⟨h1.mono hB, fun i hi => (h2 i hi).mono hB, fun i hi hk => (h3 i hi hk).mono hB, h4, h5, h6, h7⟩
theorem as_ok.g {S : as_T} {B : Nat} {g : Nat → Nat} (h : as_ok S B) (hg : ns_ok g B) : as_ok (so_g S g) B := ⟨hg, h.2⟩
/-- the reference's side, at o -/
def cm (M : cq_M) (o : Nat) (S : as_T) : Prop := cq_nv M (o + 1) 109 (S_g S) ∧ M o 2 = nI (S_n S) ∧ (∀ i, i < S_n S → ∀ k, k < 109 → M (o + 2) (109 * i + k) = nI (S_v S i k)) ∧ (∀ i, i < 2 → M (o + 4) i = nI (S_k S i) ∧ (S_k S i = 1 → ∀ k, k < 109 → M (o + 3) (109 * i + k) = nI (S_s S i k))) ∧ M o 8 = nI (S_l S) ∧ ∀ j, j < S_l S → M (o + 6) j = nI (S_t S j)
theorem cm.row {M M1 : cq_M} {o : Nat} {S : as_T} {g : Nat → Nat} (h : cm M o S) (hg : cq_nv M1 (o + 1) 109 g) (hf : cq_only M M1 (o + 1)) : cm M1 o (so_g S g) := by
  obtain ⟨h1, h2, h3, h4, h5, h6⟩ := h
  refine ⟨hg, by rw [hf _ (by omega)]; exact h2, fun i hi k hk => by rw [hf _ (by omega)]; exact h3 i hi k hk, fun i hi => ⟨by rw [hf _ (by omega)]; exact (h4 i hi).1, fun z k hk => by rw [hf _ (by omega)]; exact (h4 i hi).2 z k hk⟩, by rw [hf _ (by omega)]; exact h5, fun j hj => by rw [hf _ (by omega)]; exact h6 j hj⟩
/-- what the reference's calls say: the exception's place, the answer, the state behind it -/
def mp (th : Nat) (r rs : Int32) (M M1 : cq_M) (o : Nat) (S : as_T) : Prop := M1 o 6 = nI th ∧ (th = 0 → r = rs) ∧ cm M1 o S ∧ cr_fr M M1 o 15
theorem cm.ext {M M1 : cq_M} {o : Nat} {S : as_T} (h : cm M o S) (hf : ∀ x, o < x → x < o + 7 → x ≠ o + 5 → M1 x = M x) (h2 : M1 o 2 = M o 2) (h8 : M1 o 8 = M o 8) : cm M1 o S := by
  obtain ⟨a1, a2, a3, a4, a5, a6⟩ := h
  refine ⟨fun k hk => by rw [hf _ (by omega) (by omega) (by omega)]; exact a1 k hk, by rw [h2]; exact a2, fun i hi k hk => by rw [hf _ (by omega) (by omega) (by omega)]; exact a3 i hi k hk, fun i hi => ⟨by rw [hf _ (by omega) (by omega) (by omega)]; exact (a4 i hi).1, fun z k hk => by rw [hf _ (by omega) (by omega) (by omega)]; exact (a4 i hi).2 z k hk⟩, by rw [h8]; exact a5, fun j hj => by rw [hf _ (by omega) (by omega) (by omega)]; exact a6 j hj⟩
theorem cm.o {M M1 : cq_M} {o k : Nat} {v : Int32} {S : as_T} (h : cm M o S) (h1 : M1 = cq_up M o k v) (h2 : k ≠ 2) (h8 : k ≠ 8) : cm M1 o S := h.ext (fun x k1 k2 k3 => by rw [h1, cq_up_row (by omega)]) (by rw [h1, cq_up_k (by omega)]) (by rw [h1, cq_up_k (by omega)])
/-- 0 ≤ x < n as a count -/
theorem nI_cd {x : Int32} {n : Nat} (hn : n < 2147483648) (h : 0 ≤ x ∧ x < nI n) : ∃ c : Nat, c < n ∧ x = nI c := by
  obtain ⟨c, hc, rfl⟩ := nI_of (Int32.not_lt.mpr h.1)
  exact ⟨c, (nI_ltI (by omega) hn).mp h.2, rfl⟩
theorem nI_cd2 {c n : Nat} (hn : n < 2147483648) (h : c < n) : 0 ≤ nI c ∧ nI c < nI n := ⟨nI_pos' (by omega), nI_lt h hn⟩
def so_undo (S : as_T) : as_T := if S_n S = 0 then S else so_pop S
