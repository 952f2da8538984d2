/-! floats: a share is a number -/
def fq_ok (f : FP.Core.Fmt) : FP.Core.Datum → Prop
  | .nan => False
  | .inf _ => True
  | .fin _ c q => c < 2 ^ f.p ∧ (c < f.tails ∨ q ≤ f.qmax)
theorem fq_bound {f : FP.Core.Fmt} {s : Bool} {c : Nat} {q : Int} (h : c < 2 ^ f.p) : fq_ok f (FP.Core.bound f s c q) := by
  unfold FP.Core.bound
  split
  · exact ⟨h, Or.inr (by assumption)⟩
  · trivial
theorem fq_round {f : FP.Core.Fmt} (hf : f.tails < 2 ^ f.p) {s : Bool} {n d : Nat} {e : Int} : fq_ok f (FP.Core.roundRatio f s n d e) := by
  unfold FP.Core.roundRatio
  split
  · exact ⟨Nat.pos_of_ne_zero (by have := Nat.two_pow_pos f.p; omega), Or.inl (Nat.two_pow_pos _)⟩
  · unfold FP.Core.roundAt FP.Core.settle
    split
    · exact fq_bound (by assumption)
    · exact fq_bound hf
theorem fq_enc32 {d : FP.Core.Datum} (h : fq_ok FP.Core.b32 d) : FP.Core.encode FP.Core.b32 d % 2147483648 ≤ 2139095040 := by
  cases d with
  | nan => exact h.elim
  | inf s => cases s <;> decide
  | fin s c q =>
    obtain ⟨h1, h2⟩ := h
    have e1 : FP.Core.b32.tails = 8388608 := rfl
    have e2 : FP.Core.b32.exps = 256 := rfl
    have e3 : FP.Core.b32.qmin = -149 := rfl
    have e4 : FP.Core.b32.qmax = 104 := rfl
    have e5 : 2 ^ FP.Core.b32.p = 16777216 := rfl
    show (if c < FP.Core.b32.tails then FP.Core.assemble FP.Core.b32 s 0 c else FP.Core.assemble FP.Core.b32 s ((q - FP.Core.b32.qmin).toNat + 1) (c - FP.Core.b32.tails)) % _ ≤ _
    rw [e1, e4] at h2
    rw [e5] at h1
    by_cases hc : c < 8388608
    · rw [e1, if_pos hc]
      unfold FP.Core.assemble
      rw [e1, e2]
      cases s <;> simp only [Bool.toNat_true, Bool.toNat_false] <;> omega
    · rw [e1, if_neg hc, e3]
      unfold FP.Core.assemble
      rw [e1, e2]
      cases s <;> simp only [Bool.toNat_true, Bool.toNat_false] <;> omega
theorem fq_enc64 {d : FP.Core.Datum} (h : fq_ok FP.Core.b64 d) : FP.Core.encode FP.Core.b64 d % 9223372036854775808 ≤ 9218868437227405312 := by
  cases d with
  | nan => exact h.elim
  | inf s => cases s <;> decide
  | fin s c q =>
    obtain ⟨h1, h2⟩ := h
    have e1 : FP.Core.b64.tails = 4503599627370496 := rfl
    have e2 : FP.Core.b64.exps = 2048 := rfl
    have e3 : FP.Core.b64.qmin = -1074 := rfl
    have e4 : FP.Core.b64.qmax = 971 := rfl
    have e5 : 2 ^ FP.Core.b64.p = 9007199254740992 := rfl
    show (if c < FP.Core.b64.tails then FP.Core.assemble FP.Core.b64 s 0 c else FP.Core.assemble FP.Core.b64 s ((q - FP.Core.b64.qmin).toNat + 1) (c - FP.Core.b64.tails)) % _ ≤ _
    rw [e1, e4] at h2
    rw [e5] at h1
    by_cases hc : c < 4503599627370496
    · rw [e1, if_pos hc]
      unfold FP.Core.assemble
      rw [e1, e2]
      cases s <;> simp only [Bool.toNat_true, Bool.toNat_false] <;> omega
    · rw [e1, if_neg hc, e3]
      unfold FP.Core.assemble
      rw [e1, e2]
      cases s <;> simp only [Bool.toNat_true, Bool.toNat_false] <;> omega
/-- the datum of a small count -/
def fq_fin : FP.Core.Datum → Bool
  | .fin _ c _ => !Nat.beq c 0
  | _ => false
def fq_num : FP.Core.Datum → Bool
  | .fin _ _ _ => true
  | _ => false
theorem fq_i2f : ∀ n, n < 1500 → fq_num (FP.Core.decode FP.Core.b32 (FP.i2f (nI n)).toNat) = true ∧ (n = 0 ∨ fq_fin (FP.Core.decode FP.Core.b32 (FP.i2f (nI n)).toNat) = true) := by decide +kernel
theorem fq_n32 {r : UInt32} : vf_n32 r ↔ r.toNat % 2147483648 ≤ 2139095040 := by
  unfold vf_n32
  rw [UInt32.le_iff_toNat_le, UInt32.toNat_and, show (0x7fffffff : UInt32).toNat = 2 ^ 31 - 1 from rfl, Nat.and_two_pow_sub_one_eq_mod, show (0x7f800000 : UInt32).toNat = 2139095040 from rfl]
theorem fq_n64 {r : UInt64} : vf_n64 r ↔ r.toNat % 9223372036854775808 ≤ 9218868437227405312 := by
  unfold vf_n64
  rw [UInt64.le_iff_toNat_le, UInt64.toNat_and, show (0x7fffffffffffffff : UInt64).toNat = 2 ^ 63 - 1 from rfl, Nat.and_two_pow_sub_one_eq_mod, show (0x7ff0000000000000 : UInt64).toNat = 9218868437227405312 from rfl]
theorem fq_of32 (n : Nat) : (UInt32.ofNat n).toNat % 2147483648 = n % 2147483648 := by
  rw [UInt32.toNat_ofNat']
  omega
theorem fq_of64 (n : Nat) : (UInt64.ofNat n).toNat % 9223372036854775808 = n % 9223372036854775808 := by
  rw [UInt64.toNat_ofNat']
  omega
theorem fq_div {x y : Nat} (hx : x < 1500) (hy : y < 1500) (h0 : y ≠ 0) : vf_n32 (FP.fdiv (FP.i2f (nI x)) (FP.i2f (nI y))) := by
  rw [fq_n32]
  have h1 := (fq_i2f x hx).1
  have h2 := (fq_i2f y hy).2.resolve_left h0
  show (UInt32.ofNat (FP.Core.encode FP.Core.b32 (FP.Core.quotient FP.Core.b32 (FP.Core.decode FP.Core.b32 (FP.i2f (nI x)).toNat) (FP.Core.decode FP.Core.b32 (FP.i2f (nI y)).toNat)))).toNat % 2147483648 ≤ 2139095040
  rw [fq_of32]
  refine fq_enc32 ?_
  revert h1 h2
  generalize FP.Core.decode FP.Core.b32 (FP.i2f (nI x)).toNat = u
  generalize FP.Core.decode FP.Core.b32 (FP.i2f (nI y)).toNat = v
  intro h1 h2
  cases u with
  | nan => cases h1
  | inf s => cases h1
  | fin s c q =>
    cases v with
    | nan => cases h2
    | inf s => cases h2
    | fin t d r =>
      have hd : d ≠ 0 := fun z => by subst z; cases h2
      show fq_ok FP.Core.b32 (if d = 0 then (if c = 0 then FP.Core.Datum.nan else FP.Core.Datum.inf (s != t)) else FP.Core.roundRatio FP.Core.b32 (s != t) c d (q - r))
      rw [if_neg hd]
      exact fq_round (by decide)
theorem fq_dec32 {r : UInt32} (h : vf_n32 r) : FP.Core.decode FP.Core.b32 r.toNat ≠ .nan := by
  rw [fq_n32] at h
  unfold FP.Core.decode FP.Core.fieldE FP.Core.fieldT
  have e1 : FP.Core.b32.tails = 8388608 := rfl
  have e2 : FP.Core.b32.exps = 256 := rfl
  rw [e1, e2]
  split
  · rw [if_pos (by omega)]
    exact FP.Core.Datum.noConfusion
  · split <;> exact FP.Core.Datum.noConfusion
theorem fq_f2d {r : UInt32} (h : vf_n32 r) : vf_n64 (FP.f2d r) := by
  rw [fq_n64]
  have h1 := fq_dec32 h
  have h2 : FP.f2d r = FP.Core.f2d r := by
    unfold FP.f2d
    rw [show FP.Core.fIsNaN r = false from decide_eq_false h1]
    rfl
  rw [h2]
  show (UInt64.ofNat (FP.Core.encode FP.Core.b64 (FP.Core.round FP.Core.b64 (FP.Core.decode FP.Core.b32 r.toNat)))).toNat % 9223372036854775808 ≤ 9218868437227405312
  rw [fq_of64]
  refine fq_enc64 ?_
  revert h1
  generalize FP.Core.decode FP.Core.b32 r.toNat = u
  intro h1
  cases u with
  | nan => exact absurd rfl h1
  | inf s => trivial
  | fin s c q => exact fq_round (by decide)
section CQF
variable {p : Program} {l : Launch} {e : Env} {R : Room} {s : State} {m : MethodId} {args : Array Value} {below : List Frame} {meth : Method} {c : Code} {D : va_G} {cA : Nat → ClassId} {X : cq_X} {Bs nL cells slots : Nat} {Q : State → Prop} {cc : ByteArray} {own : String} {Ts : List Cond} {pc : Nat} {L : List (Nat × Value)} {st : List Value} {M : cq_M}
theorem cq_fconst0 (F : cq_F p s m args meth c D cA Bs nL cc own Ts) (hdg : decode cc pc = .ok (.fconst 0, 1)) (k : cq_V p l e R s m args below meth c D cA X Bs nL cells slots Q (pc + 1) L (.float FP.fconst0 :: st) M) : cq_V p l e R s m args below meth c D cA X Bs nL cells slots Q pc L st M := fun H locs ls hH hS hL => lv_fconst0 F.1.1 F.1.2.1 hdg (k H locs ls hH hS hL)
theorem cq_fdiv (F : cq_F p s m args meth c D cA Bs nL cc own Ts) {x y : UInt32} (hdg : decode cc pc = .ok (.fdiv, 1)) (hne : vf_n32 (FP.fdiv x y)) (k : cq_V p l e R s m args below meth c D cA X Bs nL cells slots Q (pc + 1) L (.float (FP.fdiv x y) :: st) M) : cq_V p l e R s m args below meth c D cA X Bs nL cells slots Q pc L (.float y :: .float x :: st) M := fun H locs ls hH hS hL => lv_fdiv F.1.1 F.1.2.1 hdg hne (k H locs ls hH hS hL)
theorem cq_fret (F : cq_F p s m args meth c D cA Bs nL cc own Ts) {v : UInt32} {Post : Option Value → cq_M → Prop} {mc ms : Nat} (hr : meth.sig.returnType = some .float) (hc : cells ≤ mc) (hs : slots ≤ ms) (hdg : decode cc pc = .ok (.freturn, 1)) (hp : Post (some (.float v)) M) : cq_V p l e R s m args below meth c D cA X Bs nL cells slots (MQ below (cq_Q D cA X Bs Post) args s mc ms (cq_A Bs)) pc L [.float v] M := fun H locs ls hH hS hL => by
  have hlocks := F.2.2.1
  refine W.widen hc hs ?_
  exact W.fret F.1.1 F.1.2.1 hr (fun t ht hW => ⟨⟨_, M, rfl, hp, by rw [ht]; exact hH⟩, hS.F ht⟩) hS.2.2 hdg hlocks
end CQF
def cq_PF (P : UInt32 → cq_M → Prop) : Option Value → cq_M → Prop := fun rv M1 => ∃ r : UInt32, rv = some (.float r) ∧ P r M1
def ns_bsum (g : Nat → Nat) : Nat → Nat
  | 0 => 0
  | n + 1 => ns_bsum g n + ns_burned g n
def ns_tsum (g : Nat → Nat) : Nat → Nat
  | 0 => 0
  | n + 1 => ns_tsum g n + ns_time g n
def ns_share (g : Nat → Nat) : UInt32 := if g 6 = 0 then FP.fconst0 else FP.fdiv (FP.i2f (nI (ns_bsum g (g 6)))) (FP.i2f (nI (ns_tsum g (g 6))))
theorem ns_time_pos {g : Nat → Nat} {c : Nat} (h : ns_cord g c) : 1 ≤ ns_time g c := by
  have h1 := (h.2.1 0 (by have := h.1.1; omega)).1
  have h2 := ns_sum_mono (g := g) (b := 8 + 11 * c) (show 1 ≤ g (7 + 11 * c) from h.1.1)
  have h3 : ns_sum g (8 + 11 * c) 1 = g (8 + 11 * c + 0) := Nat.zero_add _
  unfold ns_time
  omega
theorem ns_sums {g : Nat → Nat} : ∀ {n : Nat}, (∀ c, c < n → ns_cord g c) → ns_bsum g n ≤ ns_tsum g n ∧ ns_tsum g n ≤ 360 * n ∧ n ≤ ns_tsum g n
  | 0, _ => ⟨Nat.le_refl _, Nat.zero_le _, Nat.zero_le _⟩
  | n + 1, h => by
    obtain ⟨h1, h2, h3⟩ := ns_sums (n := n) (fun c hc => h c (by omega))
    have h4 := h n (by omega)
    have h5 := ns_time_pos h4
    have h6 := h4.time
    have h7 := h4.2.2.1
    show ns_bsum g n + ns_burned g n ≤ ns_tsum g n + ns_time g n ∧ ns_tsum g n + ns_time g n ≤ 360 * (n + 1) ∧ n + 1 ≤ ns_tsum g n + ns_time g n
    omega
theorem ns_share_n {g : Nat → Nat} {B : Nat} (h : ns_ok g B) (h0 : g 6 ≠ 0) : vf_n32 (FP.fdiv (FP.i2f (nI (ns_bsum g (g 6)))) (FP.i2f (nI (ns_tsum g (g 6))))) := by
  have h1 := h.1
  obtain ⟨h2, h3, h4⟩ := ns_sums h.2.2.2.1
  exact fq_div (by omega) (by omega) (by omega)
theorem ns_share_ok {g : Nat → Nat} {B : Nat} (h : ns_ok g B) : vf_n32 (ns_share g) := by
  unfold ns_share
  split
  · rw [fq_n32]; decide
  · exact ns_share_n h (by assumption)
